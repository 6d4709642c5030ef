/-! ===== what is pending goes into the queue ===== -/
def mrs (z : zM) (x q k : Nat) : zM := zr z 273 (fun i => if 2600 + 5 * q ≤ i ∧ i < 2600 + 5 * q + k then z.1 273 (mat x 227 + (i - (2600 + 5 * q))) else z.1 273 i)
theorem mrs_at (z : zM) (x q k i : Nat) : (mrs z x q k).1 273 i = if 2600 + 5 * q ≤ i ∧ i < 2600 + 5 * q + k then z.1 273 (mat x 227 + (i - (2600 + 5 * q))) else z.1 273 i := by rw [mrs, zr_s]
theorem mrs_mfr (z : zM) (x q k : Nat) : mfr z (mrs z x q k) (2600 + 5 * q) k := ⟨fun i hi => zr_n _ _ hi, rfl, fun i hi => by rw [mrs_at, if_neg (by omega)]⟩
theorem mrs_0 (z : zM) (x q : Nat) : mrs z x q 0 = z := by
  refine Prod.ext (funext fun a => ?_) rfl
  by_cases h : a = 273
  · subst h; funext i; rw [mrs_at, if_neg (by omega)]
  · exact zr_n _ _ h
theorem mrs_step (z : zM) {x q k : Nat} (hx : x < 6) (hk : k < 200) : zi (mrs z x q k) 273 (2600 + 5 * q + k) ((mrs z x q k).1 273 (mat x (227 + k))) = mrs z x q (k + 1) := by
  refine Prod.ext (funext fun a => funext fun i => ?_) rfl
  rw [mrs_at z x q k (mat x (227 + k)), if_neg (by unfold mat; omega), zi_at]
  by_cases ha : a = 273
  · subst ha
    rw [mrs_at, mrs_at]
    by_cases hi : i = 2600 + 5 * q + k
    · subst hi; rw [if_pos ⟨rfl, rfl⟩, if_pos (by omega), show mat x 227 + (2600 + 5 * q + k - (2600 + 5 * q)) = mat x (227 + k) by unfold mat; omega]
    · rw [if_neg (fun q => hi q.2)]
      by_cases hq : 2600 + 5 * q ≤ i ∧ i < 2600 + 5 * q + k
      · rw [if_pos hq, if_pos (by omega)]
      · rw [if_neg hq, if_neg (by omega)]
  · rw [if_neg (fun q => ha q.1), (mrs_mfr _ _ _ _).1 _ ha, (mrs_mfr _ _ _ _).1 _ ha]
def tapp (T Pd : aT) : aT := (T.1 + Pd.1, fun j => if j < T.1 then T.2 j else Pd.2 (j - T.1))
def aRes (S : aS) (x : Nat) : aS := (S.setQ (tapp S.q (S.m x).pend)).setM x ((S.m x).setPend (tkeep (S.m x).pend 0))
def mre (z : zM) (x q p : Nat) : zM := zi (zi (mrs z x q (5 * p)) 273 2599 (nI (q + p))) 273 (mat x 226) 0
theorem mre_S {z : zM} {S : aS} (h : mS z S) {x : Nat} (hx : x < S.n) (hq : S.q.1 + (S.m x).pend.1 ≤ 40) : mS (mre z x S.q.1 (S.m x).pend.1) (aRes S x) ∧ mfr z (mre z x S.q.1 (S.m x).pend.1) 0 2921 := by
  have hm := h.m hx
  have hn6 := h.n6
  have hf1 : mfr z (zi (mrs z x S.q.1 (5 * (S.m x).pend.1)) 273 2599 (nI (S.q.1 + (S.m x).pend.1))) 2599 201 := ((mrs_mfr z x S.q.1 (5 * (S.m x).pend.1)).mono (by omega) (by omega)).tr ((zi_mfr _ _ _).mono (by omega) (by omega))
  have h1 : mQ (zi (mrs z x S.q.1 (5 * (S.m x).pend.1)) 273 2599 (nI (S.q.1 + (S.m x).pend.1))) (tapp S.q (S.m x).pend) := by
    refine ⟨hq, by rw [zi_at, if_pos ⟨rfl, rfl⟩]; rfl, fun j hj => ?_⟩
    have hj : j < S.q.1 + (S.m x).pend.1 := hj
    show mMsg _ _ (if j < S.q.1 then S.q.2 j else (S.m x).pend.2 (j - S.q.1))
    have hf := zi_mfr (mrs z x S.q.1 (5 * (S.m x).pend.1)) 2599 (nI (S.q.1 + (S.m x).pend.1))
    by_cases hjq : j < S.q.1
    · rw [if_pos hjq]
      exact ((h.q.2.2 j hjq).cg ((mrs_mfr z x S.q.1 (5 * (S.m x).pend.1)).cg (a := 2600) (c := 2600 + 5 * S.q.1) (by omega)) (by omega) (by omega)).cg (hf.cg (a := 2600) (c := 2900) (by omega)) (by omega) (by omega)
    · rw [if_neg hjq]
      obtain ⟨a0, a1, a2, a3, a4⟩ := hm.2.2.2.1.2.2 (j - S.q.1) (by omega)
      have e : ∀ c, c < 5 → (zi (mrs z x S.q.1 (5 * (S.m x).pend.1)) 273 2599 (nI (S.q.1 + (S.m x).pend.1))).1 273 (2600 + 5 * j + c) = z.1 273 (mat x (227 + 5 * (j - S.q.1)) + c) := fun c hc => by
        rw [zi_at, if_neg (by omega), mrs_at, if_pos (by omega), show mat x 227 + (2600 + 5 * j + c - (2600 + 5 * S.q.1)) = mat x (227 + 5 * (j - S.q.1)) + c by unfold mat; omega]
      exact ⟨by rw [← Nat.add_zero (2600 + 5 * j), e 0 (by omega)]; exact a0, by rw [e 1 (by omega)]; exact a1, by rw [e 2 (by omega)]; exact a2, by rw [e 3 (by omega)]; exact a3, by rw [e 4 (by omega)]; exact a4⟩
  have h2 := h.setQ hf1 h1
  have hm2 := h2.m (x := x) hx
  have hf2 := zi_mfr (zi (mrs z x S.q.1 (5 * (S.m x).pend.1)) 273 2599 (nI (S.q.1 + (S.m x).pend.1))) (mat x 226) 0
  refine ⟨h2.setM (by omega) (hf2.mono (by unfold mat; omega) (by unfold mat; omega)) (mM.pendc hm2 (T := tkeep (S.m x).pend 0) (hf2.mono (by omega) (by omega)) ⟨Nat.zero_le _, by rw [mre, zi_at, if_pos ⟨rfl, rfl⟩]; rfl, fun j hj => absurd hj (Nat.not_lt_zero _)⟩), (hf1.mono (by omega) (by omega)).tr (hf2.mono (by omega) (by unfold mat; omega))⟩
/-- which sets of witnesses may be -/
def wOK (w : Int32) (x n : Nat) : Prop := ∃ k, k < 2 ^ n ∧ k.testBit x = false ∧ w = nI k
theorem shl_dec : ∀ n, n < 7 → (1 : Int32) <<< (nI n &&& 31) = nI (2 ^ n) := by decide +kernel
theorem wOK_m {w : Int32} {x n : Nat} (hx : x < n) (hn : n ≤ 6) (h1 : 0 ≤ w ∧ w ≤ (1 : Int32) <<< (nI n &&& 31) - 1) (h2 : (w >>> (nI x &&& 31)) &&& 1 = 0) : wOK w x n := by
  have h64 : 2 ^ n ≤ 2 ^ 6 := Nat.pow_le_pow_right (by omega) hn
  rw [shl_dec n (by omega)] at h1
  obtain ⟨k, hk, rfl⟩ := (isM_w (by omega)).mp h1
  refine ⟨k, hk, ?_, rfl⟩
  rw [mbit_dec k (by omega) x (by omega)] at h2
  by_cases hb : k.testBit x = true
  · rw [if_pos hb] at h2; exact absurd h2 (by decide)
  · exact Bool.eq_false_iff.mpr hb
theorem wOK_i {w : Int32} {x n : Nat} (hx : x < n) (hn : n ≤ 6) (h : wOK w x n) : (0 ≤ w ∧ w ≤ (1 : Int32) <<< (nI n &&& 31) - 1) ∧ (w >>> (nI x &&& 31)) &&& 1 = 0 := by
  have h64 : 2 ^ n ≤ 2 ^ 6 := Nat.pow_le_pow_right (by omega) hn
  obtain ⟨k, hk, hb, rfl⟩ := h
  rw [shl_dec n (by omega)]
  exact ⟨(isM_w (by omega)).mpr ⟨k, hk, rfl⟩, by rw [mbit_dec k (by omega) x (by omega), hb]; rfl⟩
/-- all audits -/
def mjb (x : Nat) : Nat → Nat → zM → aS → zM
  | 0, _, z, _ => z
  | d + 1, w, z, S => if (S.m x).wit.testBit w = true then mjb x d (w + 1) (maz z S w x) (aAud S w x) else mjb x d (w + 1) z S
def mAll : Nat → Nat → zM → aS → zM
  | 0, _, z, _ => z
  | d + 1, x, z, S => mAll d (x + 1) (mjb x S.n 0 z S) (jba x S.n 0 S).1
theorem or_idem (a p : Int32) : (a ||| p) ||| p = a ||| p := by rw [Int32.or_assoc, Int32.or_self]
set_option maxRecDepth 100000 in
set_option maxHeartbeats 4000000 in
theorem m_X4_resend {G : zG} {N : Nat} {Λ : zLay} {l : Launch} (hO : zOK G l) (z : zM) (hB : zMo G N Λ) {S : aS} {c : Nat} {Lf : Nat → aS} (hI : mI z S c Lf) (hS : aOK S) {x : Nat} (hx : x < S.n) (hx6 : x < 6) (hq : S.q.1 + (S.m x).pend.1 ≤ 40) : zMet G N Λ l yX4_resend cX4_resend 4 (some .int) 2 [.ref (G.h + 272), .int (nI x)] z (some (.int (nI (S.m x).pend.1))) (mre (msv (zi z 272 3 0) c) x S.q.1 (S.m x).pend.1) := by
  refine zMet_of hO (by decide) (Nat.le_of_ble_eq_true rfl) ?_
  intro pP eE sS mM bB tT cC ls C hw hl
  have hl : lv_has ls 4 [(0, .ref (G.h + 272)), (1, .int (nI x))] := hl
  have hM := hI.s
  have hn6 := hS.n6
  have hc4 := hI.c4
  have hmx := hM.m hx
  have hox := hS.m hx
  have hl40 := hox.log.1
  have hp40 := hox.pend.1
  have hq40 := hS.q.1
  refine lv_aload_n C.x C.b dX4_resend_0 rfl (lv_at hl 0 rfl) ?_
  refine lv_aload_n C.x C.b dX4_resend_1 rfl (lv_at hl 0 rfl) ?_
  refine lv_iload_n C.x C.b dX4_resend_2 rfl (lv_at hl 1 rfl) ?_
  refine z_Vv (As := [.int (nI x)]) (rest := [.ref (G.h + 272)]) C hw hl (m_X4_isM_y hO _ hB hM.n hn6 hx) ivX4_104 hB.lt (hB.at _ _) rfl rfl ⟨(Nat.le_of_ble_eq_true rfl), (Nat.le_of_ble_eq_true rfl)⟩ (Nat.le_of_ble_eq_true rfl) ⟨Nat.zero_le _, Nat.zero_le _⟩ dX4_resend_3 (fun H locs hw => ?_)
  refine lv_if_ne (tgt := 13) C.x C.b dX4_resend_6 (by decide) (fun c_6 => ?_) (fun c_6 => absurd c_6 (by decide))
  refine lv_aload_n C.x C.b dX4_resend_13 rfl (lv_at hl 0 rfl) ?_
  refine z_get C hw hB.lt (hB.at _ _) flX4_7 rfl dX4_resend_14 ?_
  refine lv_sipush (v := 2599) C.x C.b dX4_resend_17 (by decide) ?_
  refine z_iald C hw hB.ltn hB.now (zvin (x := 2599) (by omega) (by omega)) dX4_resend_20 ?_
  refine z_topi (y := z.1 273 2599) (congrArg (z.1 273) (zcl (x := 2599) (n := 2921) (by omega) (by omega))) ?_
  refine z_topi (y := nI S.q.1) (hM.q.2.1) ?_
  refine lv_aload_n C.x C.b dX4_resend_21 rfl (lv_at hl 0 rfl) ?_
  refine lv_iload_n C.x C.b dX4_resend_22 rfl (lv_at hl 1 rfl) ?_
  refine lv_sipush (v := 226) C.x C.b dX4_resend_23 (by decide) ?_
  refine z_Vv (As := [.int (nI x), .int 226]) (rest := [.int (nI S.q.1), .ref (G.h + 272)]) C hw hl (m_X4_get hO _ hB (o := 226) (mat_lt2 hx6 (by omega))) ivX4_40 hB.lt (hB.at _ _) rfl rfl ⟨(Nat.le_of_ble_eq_true rfl), (Nat.le_of_ble_eq_true rfl)⟩ (Nat.le_of_ble_eq_true rfl) ⟨Nat.zero_le _, Nat.zero_le _⟩ dX4_resend_26 (fun H locs hw => ?_)
  refine z_topi (y := nI (S.m x).pend.1) (hmx.2.2.2.1.2.1) ?_
  refine lv_iadd C.x C.b dX4_resend_29 ?_
  refine z_topi (y := nI (S.q.1 + (S.m x).pend.1)) (nI_add _ _) ?_
  refine lv_bipush (v := 40) C.x C.b dX4_resend_30 (by decide) ?_
  refine lv_icmp_le (tgt := 39) C.x C.b dX4_resend_32 (by decide) (fun c_32 => ?_) (fun c_32 => absurd (zle (b := 40) (by omega) hq) c_32)
  refine lv_iconst (v := 0) C.x C.b dX4_resend_39 (by decide) ?_
  refine z_Vv (As := [.int 0]) (rest := []) C hw hl (m_X4_ref0 hO _ hB) ivX4_35 hB.lt (hB.at _ _) rfl rfl ⟨(Nat.le_of_ble_eq_true rfl), (Nat.le_of_ble_eq_true rfl)⟩ (Nat.le_of_ble_eq_true rfl) ⟨Nat.zero_le _, Nat.zero_le _⟩ dX4_resend_40 (fun H locs hw => ?_)
  obtain ⟨z_1, ez_1⟩ : ∃ q_9, q_9 = zi z 272 3 0 := ⟨_, rfl⟩
  have hw : zS G N Λ z_1 sS H locs := by rw [ez_1]; exact hw
  have hI1 : mI z_1 S c Lf := by rw [ez_1]; exact hI.ref _
  have hM1 := hI1.s
  have hmx1 := hM1.m hx
  refine lv_if_eq (tgt := 48) C.x C.b dX4_resend_43 (by decide) (fun c_43 => ?_) (fun c_43 => absurd (rfl) c_43)
  refine z_pc (pc2 := 48) rfl ?_
  refine lv_aload_n C.x C.b dX4_resend_48 rfl (lv_at hl 0 rfl) ?_
  refine z_V0 (As := []) (rest := []) C hw hl (m_X4_saves hO _ hB hI1.c hI1.c4) ivX4_101 hB.lt (hB.at _ _) rfl rfl ⟨(Nat.le_of_ble_eq_true rfl), (Nat.le_of_ble_eq_true rfl)⟩ (Nat.le_of_ble_eq_true rfl) ⟨Nat.zero_le _, Nat.zero_le _⟩ dX4_resend_49 (fun H locs hw => ?_)
  obtain ⟨z_2, ez_2⟩ : ∃ q_9, q_9 = msv z_1 c := ⟨_, rfl⟩
  have hw : zS G N Λ z_2 sS H locs := by rw [ez_2]; exact hw
  have hI2 : mI z_2 S (svc c) (svf c Lf S) := by rw [ez_2]; exact hI1.sv
  have hM2 := hI2.s
  have hmx2 := hM2.m hx
  refine lv_aload_n C.x C.b dX4_resend_52 rfl (lv_at hl 0 rfl) ?_
  refine lv_iload_n C.x C.b dX4_resend_53 rfl (lv_at hl 1 rfl) ?_
  refine lv_sipush (v := 226) C.x C.b dX4_resend_54 (by decide) ?_
  refine z_Vv (As := [.int (nI x), .int 226]) (rest := []) C hw hl (m_X4_get hO _ hB (o := 226) (mat_lt2 hx6 (by omega))) ivX4_40 hB.lt (hB.at _ _) rfl rfl ⟨(Nat.le_of_ble_eq_true rfl), (Nat.le_of_ble_eq_true rfl)⟩ (Nat.le_of_ble_eq_true rfl) ⟨Nat.zero_le _, Nat.zero_le _⟩ dX4_resend_57 (fun H locs hw => ?_)
  refine z_topi (y := nI (S.m x).pend.1) (hmx2.2.2.2.1.2.1) ?_
  refine lv_istore_n (lv' := [(2, .int (nI (S.m x).pend.1)), (0, .ref (G.h + 272)), (1, .int (nI x))]) C.x C.b dX4_resend_60 rfl hl (by decide) rfl (fun ls hl => ?_)
  refine lv_iconst (v := 0) C.x C.b dX4_resend_61 (by decide) ?_
  refine lv_istore_n (lv' := [(3, .int 0), (2, .int (nI (S.m x).pend.1)), (0, .ref (G.h + 272)), (1, .int (nI x))]) C.x C.b dX4_resend_62 rfl hl (by decide) rfl (fun ls hl => ?_)
  have loop : ∀ (d : Nat) (k : Nat) (H : Heap) (locs : List Loc) (ls : Array Slot) (hk : k + d = 5 * (S.m x).pend.1), zS G N Λ (mrs z_2 x S.q.1 k) sS H locs → lv_has ls 4 [(0, .ref (G.h + 272)), (1, .int (nI x)), (2, .int (nI (S.m x).pend.1)), (3, .int (nI k))] → W pP l eE (zR 2) sS mM ([.ref (G.h + 272), .int (nI x)] : List Value).toArray bB tT cC H locs 0 0 (MQ bB (zQc G N Λ (some (.int (nI (S.m x).pend.1))) (mre (msv (zi z 272 3 0) c) x S.q.1 (S.m x).pend.1)) ([.ref (G.h + 272), .int (nI x)] : List Value).toArray sS 0 0 (zA G)) (F0 mM 63 ls []) := by
    intro d
    induction d with
    | zero =>
      intro k H locs ls hk hw hl
      refine lv_iload_n C.x C.b dX4_resend_63 rfl (lv_at hl 3 rfl) ?_
      refine lv_iconst (v := 5) C.x C.b dX4_resend_64 (by decide) ?_
      refine lv_iload_n C.x C.b dX4_resend_65 rfl (lv_at hl 2 rfl) ?_
      refine lv_imul C.x C.b dX4_resend_66 ?_
      refine z_topi (y := nI (5 * (S.m x).pend.1)) (by rw [zlit 5, pk_mul]) ?_
      refine lv_icmp_ge (tgt := 107) C.x C.b dX4_resend_67 (by decide) (fun c_67 => ?_) (fun c_67 => absurd (zle (by omega) (by omega)) c_67)
      refine lv_aload_n C.x C.b dX4_resend_107 rfl (lv_at hl 0 rfl) ?_
      refine z_get C hw hB.lt (hB.at _ _) flX4_7 rfl dX4_resend_108 ?_
      refine lv_sipush (v := 2599) C.x C.b dX4_resend_111 (by decide) ?_
      refine lv_dup2_11 C.x C.b dX4_resend_114 rfl rfl ?_
      refine z_iald C hw hB.ltn hB.now (zvin (x := 2599) (by omega) (by omega)) dX4_resend_115 ?_
      refine z_topi (y := (mrs z_2 x S.q.1 k).1 273 2599) (congrArg ((mrs z_2 x S.q.1 k).1 273) (zcl (x := 2599) (n := 2921) (by omega) (by omega))) ?_
      refine z_topi (y := nI S.q.1) (by rw [mrs_at, if_neg (by omega)]; exact hM2.q.2.1) ?_
      refine lv_iload_n C.x C.b dX4_resend_116 rfl (lv_at hl 2 rfl) ?_
      refine lv_iadd C.x C.b dX4_resend_117 ?_
      refine z_topi (y := nI (S.q.1 + (S.m x).pend.1)) (nI_add _ _) ?_
      refine z_iast C hw hB.ltn hB.now (zvin (x := 2599) (by omega) (by omega)) dX4_resend_118 (fun H locs hw => ?_)
      have e8 : (2599 : Int32).toNatClampNeg = 2599 := zcl (x := 2599) (n := 2921) (by omega) (by omega)
      rw [e8] at hw
      obtain ⟨z_3, ez_3⟩ : ∃ q_9, q_9 = zi (mrs z_2 x S.q.1 k) 273 2599 (nI (S.q.1 + (S.m x).pend.1)) := ⟨_, rfl⟩
      have hw : zS G N Λ z_3 sS H locs := by rw [ez_3]; exact hw
      refine lv_aload_n C.x C.b dX4_resend_119 rfl (lv_at hl 0 rfl) ?_
      refine z_get C hw hB.lt (hB.at _ _) flX4_7 rfl dX4_resend_120 ?_
      refine lv_iload_n C.x C.b dX4_resend_123 rfl (lv_at hl 1 rfl) ?_
      refine lv_sipush (v := 226) C.x C.b dX4_resend_124 (by decide) ?_
      refine z_Sv (As := [.int (nI x), .int 226]) (rest := [.ref (G.h + 273)]) C hw hl (m_X4_at hO _ (o := 226)) ivX4_28 rfl rfl ⟨(Nat.le_of_ble_eq_true rfl), (Nat.le_of_ble_eq_true rfl)⟩ (Nat.le_of_ble_eq_true rfl) ⟨Nat.zero_le _, Nat.zero_le _⟩ dX4_resend_127 (fun H locs hw => ?_)
      refine lv_iconst (v := 0) C.x C.b dX4_resend_130 (by decide) ?_
      refine z_pc (pc2 := 131) rfl ?_
      refine z_iast C hw hB.ltn hB.now (zvin (x := mat x 226) (mat_lt2 hx6 (by omega)) (by omega)) dX4_resend_131 (fun H locs hw => ?_)
      have e8 : (nI (mat x 226)).toNatClampNeg = (mat x 226) := zcl (x := mat x 226) (n := 2921) (mat_lt2 hx6 (by omega)) (by omega)
      rw [e8] at hw
      obtain ⟨z_4, ez_4⟩ : ∃ q_9, q_9 = zi z_3 273 (mat x 226) 0 := ⟨_, rfl⟩
      have hw : zS G N Λ z_4 sS H locs := by rw [ez_4]; exact hw
      refine lv_iload_n C.x C.b dX4_resend_132 rfl (lv_at hl 2 rfl) ?_
      exact z_iret C hw dX4_resend_133 (rfl) (by rw [ez_4, ez_3, show k = 5 * (S.m x).pend.1 by omega, ez_2, ez_1]; rfl)
    | succ d ih =>
      intro k H locs ls hk hw hl
      refine lv_iload_n C.x C.b dX4_resend_63 rfl (lv_at hl 3 rfl) ?_
      refine lv_iconst (v := 5) C.x C.b dX4_resend_64 (by decide) ?_
      refine lv_iload_n C.x C.b dX4_resend_65 rfl (lv_at hl 2 rfl) ?_
      refine lv_imul C.x C.b dX4_resend_66 ?_
      refine z_topi (y := nI (5 * (S.m x).pend.1)) (by rw [zlit 5, pk_mul]) ?_
      refine lv_icmp_ge (tgt := 107) C.x C.b dX4_resend_67 (by decide) (fun c_67 => absurd c_67 (znle (by omega) (by omega))) (fun c_67 => ?_)
      refine lv_aload_n C.x C.b dX4_resend_70 rfl (lv_at hl 0 rfl) ?_
      refine z_get C hw hB.lt (hB.at _ _) flX4_7 rfl dX4_resend_71 ?_
      refine lv_sipush (v := 2600) C.x C.b dX4_resend_74 (by decide) ?_
      refine lv_iconst (v := 5) C.x C.b dX4_resend_77 (by decide) ?_
      refine lv_aload_n C.x C.b dX4_resend_78 rfl (lv_at hl 0 rfl) ?_
      refine z_get C hw hB.lt (hB.at _ _) flX4_7 rfl dX4_resend_79 ?_
      refine lv_sipush (v := 2599) C.x C.b dX4_resend_82 (by decide) ?_
      refine z_iald C hw hB.ltn hB.now (zvin (x := 2599) (by omega) (by omega)) dX4_resend_85 ?_
      refine z_topi (y := (mrs z_2 x S.q.1 k).1 273 2599) (congrArg ((mrs z_2 x S.q.1 k).1 273) (zcl (x := 2599) (n := 2921) (by omega) (by omega))) ?_
      refine z_topi (y := nI S.q.1) (by rw [mrs_at, if_neg (by omega)]; exact hM2.q.2.1) ?_
      refine lv_imul C.x C.b dX4_resend_86 ?_
      refine lv_iadd C.x C.b dX4_resend_87 ?_
      refine lv_iload_n C.x C.b dX4_resend_88 rfl (lv_at hl 3 rfl) ?_
      refine lv_iadd C.x C.b dX4_resend_89 ?_
      refine z_topi (y := nI (2600 + 5 * S.q.1 + k)) (by rw [zlit 2600, zlit 5, pk_mul, nI_add, nI_add]) ?_
      refine lv_aload_n C.x C.b dX4_resend_90 rfl (lv_at hl 0 rfl) ?_
      refine lv_iload_n C.x C.b dX4_resend_91 rfl (lv_at hl 1 rfl) ?_
      refine z_pc (pc2 := 92) rfl ?_
      refine lv_sipush (v := 227) C.x C.b dX4_resend_92 (by decide) ?_
      refine lv_iload_n C.x C.b dX4_resend_95 rfl (lv_at hl 3 rfl) ?_
      refine lv_iadd C.x C.b dX4_resend_96 ?_
      refine z_topi (y := nI (227 + k)) (by rw [zlit 227, nI_add]) ?_
      refine z_Vv (As := [.int (nI x), .int (nI (227 + k))]) (rest := [.int (nI (2600 + 5 * S.q.1 + k)), .ref (G.h + 273)]) C hw hl (m_X4_get hO _ hB (o := 227 + k) (mat_lt2 hx6 (by omega))) ivX4_40 hB.lt (hB.at _ _) rfl rfl ⟨(Nat.le_of_ble_eq_true rfl), (Nat.le_of_ble_eq_true rfl)⟩ (Nat.le_of_ble_eq_true rfl) ⟨Nat.zero_le _, Nat.zero_le _⟩ dX4_resend_97 (fun H locs hw => ?_)
      refine z_iast C hw hB.ltn hB.now (zvin (x := 2600 + 5 * S.q.1 + k) (by omega) (by omega)) dX4_resend_100 (fun H locs hw => ?_)
      have e8 : (nI (2600 + 5 * S.q.1 + k)).toNatClampNeg = (2600 + 5 * S.q.1 + k) := zcl (x := 2600 + 5 * S.q.1 + k) (n := 2921) (by omega) (by omega)
      rw [e8] at hw
      obtain ⟨z_5, ez_5⟩ : ∃ q_9, q_9 = zi (mrs z_2 x S.q.1 k) 273 (2600 + 5 * S.q.1 + k) ((mrs z_2 x S.q.1 k).1 273 (mat x (227 + k))) := ⟨_, rfl⟩
      have hw : zS G N Λ z_5 sS H locs := by rw [ez_5]; exact hw
      refine lv_iinc (v := nI k + 1) (lv' := [(3, .int (nI k + 1)), (0, .ref (G.h + 272)), (1, .int (nI x)), (2, .int (nI (S.m x).pend.1))]) C.x C.b dX4_resend_101 hl (k := 3) rfl rfl (by decide) rfl (fun ls hl => ?_)
      have hl : lv_has ls 4 [(3, .int (nI (k + 1))), (0, .ref (G.h + 272)), (1, .int (nI x)), (2, .int (nI (S.m x).pend.1))] := by
        have e9 : nI k + 1 = nI (k + 1) := nI_1 k
        rw [← e9]; exact hl
      refine lv_goto (tgt := 63) C.x C.b dX4_resend_104 (by decide) ?_
      exact ih (k + 1) _ _ _ (by omega) (by rw [ez_5, mrs_step z_2 hx6 (by omega)] at hw; exact hw) (lv_sub hl [1, 2, 3, 0] rfl)
  exact loop (5 * (S.m x).pend.1) 0 _ _ _ (by omega) (by rw [mrs_0]; exact hw) (lv_sub hl [2, 3, 1, 0] rfl)

set_option maxRecDepth 100000 in
set_option maxHeartbeats 4000000 in
theorem f_X4_resend1 {G : zG} {N : Nat} {Λ : zLay} {l : Launch} (hO : zOK G l) (z : zM) (hB : zMo G N Λ) {S : aS} {c : Nat} {Lf : Nat → aS} (hI : mI z S c Lf) (hS : aOK S) {v : Int32} (hv : ¬ isM v S.n) : zMet G N Λ l yX4_resend cX4_resend 4 (some .int) 2 [.ref (G.h + 272), .int v] z (some (.int 0)) (zi z 272 3 (nI 1)) := by
  refine zMet_of hO (by decide) (Nat.le_of_ble_eq_true rfl) ?_
  intro pP eE sS mM bB tT cC ls C hw hl
  have hl : lv_has ls 4 [(0, .ref (G.h + 272)), (1, .int v)] := hl
  have hM := hI.s
  have hn6 := hS.n6
  have hc4 := hI.c4
  refine lv_aload_n C.x C.b dX4_resend_0 rfl (lv_at hl 0 rfl) ?_
  refine lv_aload_n C.x C.b dX4_resend_1 rfl (lv_at hl 0 rfl) ?_
  refine lv_iload_n C.x C.b dX4_resend_2 rfl (lv_at hl 1 rfl) ?_
  refine z_Vv (As := [.int v]) (rest := [.ref (G.h + 272)]) C hw hl (m_X4_isM_n hO _ hB hM.n hS.n2 hn6 hv) ivX4_104 hB.lt (hB.at _ _) rfl rfl ⟨(Nat.le_of_ble_eq_true rfl), (Nat.le_of_ble_eq_true rfl)⟩ (Nat.le_of_ble_eq_true rfl) ⟨Nat.zero_le _, Nat.zero_le _⟩ dX4_resend_3 (fun H locs hw => ?_)
  refine lv_if_ne (tgt := 13) C.x C.b dX4_resend_6 (by decide) (fun c_6 => absurd c_6 (fun q => q rfl)) (fun c_6 => ?_)
  refine lv_iconst (v := 1) C.x C.b dX4_resend_9 (by decide) ?_
  refine lv_goto (tgt := 40) C.x C.b dX4_resend_10 (by decide) ?_
  refine z_Vv (As := [.int 1]) (rest := []) C hw hl (m_X4_ref1 hO _ hB (w := 1) (by omega) (by omega)) ivX4_35 hB.lt (hB.at _ _) rfl rfl ⟨(Nat.le_of_ble_eq_true rfl), (Nat.le_of_ble_eq_true rfl)⟩ (Nat.le_of_ble_eq_true rfl) ⟨Nat.zero_le _, Nat.zero_le _⟩ dX4_resend_40 (fun H locs hw => ?_)
  obtain ⟨z_1, ez_1⟩ : ∃ q_9, q_9 = zi z 272 3 (nI 1) := ⟨_, rfl⟩
  have hw : zS G N Λ z_1 sS H locs := by rw [ez_1]; exact hw
  refine lv_if_eq (tgt := 48) C.x C.b dX4_resend_43 (by decide) (fun c_43 => absurd c_43 (by decide)) (fun c_43 => ?_)
  refine lv_iconst (v := 0) C.x C.b dX4_resend_46 (by decide) ?_
  exact z_iret C hw dX4_resend_47 (rfl) (by rw [ez_1])

set_option maxRecDepth 100000 in
set_option maxHeartbeats 4000000 in
theorem f_X4_resend2 {G : zG} {N : Nat} {Λ : zLay} {l : Launch} (hO : zOK G l) (z : zM) (hB : zMo G N Λ) {S : aS} {c : Nat} {Lf : Nat → aS} (hI : mI z S c Lf) (hS : aOK S) {x : Nat} (hx : x < S.n) (hx6 : x < 6) (hq : ¬ S.q.1 + (S.m x).pend.1 ≤ 40) : zMet G N Λ l yX4_resend cX4_resend 4 (some .int) 2 [.ref (G.h + 272), .int (nI x)] z (some (.int 0)) (zi z 272 3 (nI 2)) := by
  refine zMet_of hO (by decide) (Nat.le_of_ble_eq_true rfl) ?_
  intro pP eE sS mM bB tT cC ls C hw hl
  have hl : lv_has ls 4 [(0, .ref (G.h + 272)), (1, .int (nI x))] := hl
  have hM := hI.s
  have hn6 := hS.n6
  have hc4 := hI.c4
  have hmx := hM.m hx
  have hox := hS.m hx
  have hl40 := hox.log.1
  have hp40 := hox.pend.1
  have hq40 := hS.q.1
  refine lv_aload_n C.x C.b dX4_resend_0 rfl (lv_at hl 0 rfl) ?_
  refine lv_aload_n C.x C.b dX4_resend_1 rfl (lv_at hl 0 rfl) ?_
  refine lv_iload_n C.x C.b dX4_resend_2 rfl (lv_at hl 1 rfl) ?_
  refine z_Vv (As := [.int (nI x)]) (rest := [.ref (G.h + 272)]) C hw hl (m_X4_isM_y hO _ hB hM.n hn6 hx) ivX4_104 hB.lt (hB.at _ _) rfl rfl ⟨(Nat.le_of_ble_eq_true rfl), (Nat.le_of_ble_eq_true rfl)⟩ (Nat.le_of_ble_eq_true rfl) ⟨Nat.zero_le _, Nat.zero_le _⟩ dX4_resend_3 (fun H locs hw => ?_)
  refine lv_if_ne (tgt := 13) C.x C.b dX4_resend_6 (by decide) (fun c_6 => ?_) (fun c_6 => absurd c_6 (by decide))
  refine lv_aload_n C.x C.b dX4_resend_13 rfl (lv_at hl 0 rfl) ?_
  refine z_get C hw hB.lt (hB.at _ _) flX4_7 rfl dX4_resend_14 ?_
  refine lv_sipush (v := 2599) C.x C.b dX4_resend_17 (by decide) ?_
  refine z_iald C hw hB.ltn hB.now (zvin (x := 2599) (by omega) (by omega)) dX4_resend_20 ?_
  refine z_topi (y := z.1 273 2599) (congrArg (z.1 273) (zcl (x := 2599) (n := 2921) (by omega) (by omega))) ?_
  refine z_topi (y := nI S.q.1) (hM.q.2.1) ?_
  refine lv_aload_n C.x C.b dX4_resend_21 rfl (lv_at hl 0 rfl) ?_
  refine lv_iload_n C.x C.b dX4_resend_22 rfl (lv_at hl 1 rfl) ?_
  refine lv_sipush (v := 226) C.x C.b dX4_resend_23 (by decide) ?_
  refine z_Vv (As := [.int (nI x), .int 226]) (rest := [.int (nI S.q.1), .ref (G.h + 272)]) C hw hl (m_X4_get hO _ hB (o := 226) (mat_lt2 hx6 (by omega))) ivX4_40 hB.lt (hB.at _ _) rfl rfl ⟨(Nat.le_of_ble_eq_true rfl), (Nat.le_of_ble_eq_true rfl)⟩ (Nat.le_of_ble_eq_true rfl) ⟨Nat.zero_le _, Nat.zero_le _⟩ dX4_resend_26 (fun H locs hw => ?_)
  refine z_topi (y := nI (S.m x).pend.1) (hmx.2.2.2.1.2.1) ?_
  refine lv_iadd C.x C.b dX4_resend_29 ?_
  refine z_topi (y := nI (S.q.1 + (S.m x).pend.1)) (nI_add _ _) ?_
  refine lv_bipush (v := 40) C.x C.b dX4_resend_30 (by decide) ?_
  refine lv_icmp_le (tgt := 39) C.x C.b dX4_resend_32 (by decide) (fun c_32 => absurd c_32 (znle (a := 40) (by omega) (by omega))) (fun c_32 => ?_)
  refine lv_iconst (v := 2) C.x C.b dX4_resend_35 (by decide) ?_
  refine lv_goto (tgt := 40) C.x C.b dX4_resend_36 (by decide) ?_
  refine z_Vv (As := [.int 2]) (rest := []) C hw hl (m_X4_ref1 hO _ hB (w := 2) (by omega) (by omega)) ivX4_35 hB.lt (hB.at _ _) rfl rfl ⟨(Nat.le_of_ble_eq_true rfl), (Nat.le_of_ble_eq_true rfl)⟩ (Nat.le_of_ble_eq_true rfl) ⟨Nat.zero_le _, Nat.zero_le _⟩ dX4_resend_40 (fun H locs hw => ?_)
  obtain ⟨z_1, ez_1⟩ : ∃ q_9, q_9 = zi z 272 3 (nI 2) := ⟨_, rfl⟩
  have hw : zS G N Λ z_1 sS H locs := by rw [ez_1]; exact hw
  refine z_pc (pc2 := 43) rfl ?_
  refine lv_if_eq (tgt := 48) C.x C.b dX4_resend_43 (by decide) (fun c_43 => absurd c_43 (by decide)) (fun c_43 => ?_)
  refine lv_iconst (v := 0) C.x C.b dX4_resend_46 (by decide) ?_
  exact z_iret C hw dX4_resend_47 (rfl) (by rw [ez_1])

set_option maxRecDepth 100000 in
set_option maxHeartbeats 4000000 in
theorem m_X4_setWitnesses {G : zG} {N : Nat} {Λ : zLay} {l : Launch} (hO : zOK G l) (z : zM) (hB : zMo G N Λ) {S : aS} {c : Nat} {Lf : Nat → aS} (hI : mI z S c Lf) (hS : aOK S) {x : Nat} (hx : x < S.n) (hx6 : x < 6) {w : Int32} (hw0 : wOK w x S.n) : zMet G N Λ l yX4_setWitnesses cX4_setWitnesses 4 (some .int) 2 [.ref (G.h + 272), .int (nI x), .int w] z (some (.int (nI (S.m x).wit))) (zi (msv (zi z 272 3 0) c) 273 (mat x 3) w) := by
  refine zMet_of hO (by decide) (Nat.le_of_ble_eq_true rfl) ?_
  intro pP eE sS mM bB tT cC ls C hw hl
  have hl : lv_has ls 4 [(0, .ref (G.h + 272)), (1, .int (nI x)), (2, .int w)] := hl
  have hM := hI.s
  have hn6 := hS.n6
  have hc4 := hI.c4
  have hmx := hM.m hx
  have hox := hS.m hx
  have hl40 := hox.log.1
  refine lv_aload_n C.x C.b dX4_setWitnesses_0 rfl (lv_at hl 0 rfl) ?_
  refine lv_aload_n C.x C.b dX4_setWitnesses_1 rfl (lv_at hl 0 rfl) ?_
  refine lv_iload_n C.x C.b dX4_setWitnesses_2 rfl (lv_at hl 1 rfl) ?_
  refine z_Vv (As := [.int (nI x)]) (rest := [.ref (G.h + 272)]) C hw hl (m_X4_isM_y hO _ hB hM.n hn6 hx) ivX4_104 hB.lt (hB.at _ _) rfl rfl ⟨(Nat.le_of_ble_eq_true rfl), (Nat.le_of_ble_eq_true rfl)⟩ (Nat.le_of_ble_eq_true rfl) ⟨Nat.zero_le _, Nat.zero_le _⟩ dX4_setWitnesses_3 (fun H locs hw => ?_)
  refine lv_if_ne (tgt := 13) C.x C.b dX4_setWitnesses_6 (by decide) (fun c_6 => ?_) (fun c_6 => absurd c_6 (by decide))
  refine lv_iload_n C.x C.b dX4_setWitnesses_13 rfl (lv_at hl 2 rfl) ?_
  refine lv_iconst (v := 0) C.x C.b dX4_setWitnesses_14 (by decide) ?_
  refine lv_iconst (v := 1) C.x C.b dX4_setWitnesses_15 (by decide) ?_
  refine lv_aload_n C.x C.b dX4_setWitnesses_16 rfl (lv_at hl 0 rfl) ?_
  refine z_Vv (As := []) (rest := [.int 1, .int 0, .int w, .ref (G.h + 272)]) C hw hl (m_X4_many hO _ hB hM.n) ivX4_66 hB.lt (hB.at _ _) rfl rfl ⟨(Nat.le_of_ble_eq_true rfl), (Nat.le_of_ble_eq_true rfl)⟩ (Nat.le_of_ble_eq_true rfl) ⟨Nat.zero_le _, Nat.zero_le _⟩ dX4_setWitnesses_17 (fun H locs hw => ?_)
  refine lv_ishl C.x C.b dX4_setWitnesses_20 ?_
  refine lv_iconst (v := 1) C.x C.b dX4_setWitnesses_21 (by decide) ?_
  refine lv_isub C.x C.b dX4_setWitnesses_22 ?_
  refine z_Sv (As := [.int w, .int 0, .int (((1 : Int32) <<< ((nI S.n) &&& 31)) - 1)]) (rest := [.ref (G.h + 272)]) C hw hl (m_X4_wy hO _ (wOK_i hx hn6 hw0).1) ivX4_24 rfl rfl ⟨(Nat.le_of_ble_eq_true rfl), (Nat.le_of_ble_eq_true rfl)⟩ (Nat.le_of_ble_eq_true rfl) ⟨Nat.zero_le _, Nat.zero_le _⟩ dX4_setWitnesses_23 (fun H locs hw => ?_)
  refine lv_if_eq (tgt := 41) C.x C.b dX4_setWitnesses_26 (by decide) (fun c_26 => absurd c_26 (by decide)) (fun c_26 => ?_)
  refine lv_iload_n C.x C.b dX4_setWitnesses_29 rfl (lv_at hl 2 rfl) ?_
  refine lv_iload_n C.x C.b dX4_setWitnesses_30 rfl (lv_at hl 1 rfl) ?_
  refine lv_ishr C.x C.b dX4_setWitnesses_31 ?_
  refine lv_iconst (v := 1) C.x C.b dX4_setWitnesses_32 (by decide) ?_
  refine z_pc (pc2 := 33) rfl ?_
  refine lv_iand C.x C.b dX4_setWitnesses_33 ?_
  refine lv_if_ne (tgt := 41) C.x C.b dX4_setWitnesses_34 (by decide) (fun c_34 => absurd c_34 (fun q => q (wOK_i hx hn6 hw0).2)) (fun c_34 => ?_)
  refine lv_iconst (v := 0) C.x C.b dX4_setWitnesses_37 (by decide) ?_
  refine lv_goto (tgt := 42) C.x C.b dX4_setWitnesses_38 (by decide) ?_
  refine z_Vv (As := [.int 0]) (rest := []) C hw hl (m_X4_ref0 hO _ hB) ivX4_35 hB.lt (hB.at _ _) rfl rfl ⟨(Nat.le_of_ble_eq_true rfl), (Nat.le_of_ble_eq_true rfl)⟩ (Nat.le_of_ble_eq_true rfl) ⟨Nat.zero_le _, Nat.zero_le _⟩ dX4_setWitnesses_42 (fun H locs hw => ?_)
  obtain ⟨z_1, ez_1⟩ : ∃ q_9, q_9 = zi z 272 3 0 := ⟨_, rfl⟩
  have hw : zS G N Λ z_1 sS H locs := by rw [ez_1]; exact hw
  have hI1 : mI z_1 S c Lf := by rw [ez_1]; exact hI.ref _
  have hM1 := hI1.s
  have hmx1 := hM1.m hx
  refine lv_if_eq (tgt := 50) C.x C.b dX4_setWitnesses_45 (by decide) (fun c_45 => ?_) (fun c_45 => absurd (rfl) c_45)
  refine lv_aload_n C.x C.b dX4_setWitnesses_50 rfl (lv_at hl 0 rfl) ?_
  refine z_V0 (As := []) (rest := []) C hw hl (m_X4_saves hO _ hB hI1.c hI1.c4) ivX4_101 hB.lt (hB.at _ _) rfl rfl ⟨(Nat.le_of_ble_eq_true rfl), (Nat.le_of_ble_eq_true rfl)⟩ (Nat.le_of_ble_eq_true rfl) ⟨Nat.zero_le _, Nat.zero_le _⟩ dX4_setWitnesses_51 (fun H locs hw => ?_)
  obtain ⟨z_2, ez_2⟩ : ∃ q_9, q_9 = msv z_1 c := ⟨_, rfl⟩
  have hw : zS G N Λ z_2 sS H locs := by rw [ez_2]; exact hw
  have hI2 : mI z_2 S (svc c) (svf c Lf S) := by rw [ez_2]; exact hI1.sv
  have hM2 := hI2.s
  have hmx2 := hM2.m hx
  refine lv_aload_n C.x C.b dX4_setWitnesses_54 rfl (lv_at hl 0 rfl) ?_
  refine lv_iload_n C.x C.b dX4_setWitnesses_55 rfl (lv_at hl 1 rfl) ?_
  refine lv_iconst (v := 3) C.x C.b dX4_setWitnesses_56 (by decide) ?_
  refine z_Vv (As := [.int (nI x), .int 3]) (rest := []) C hw hl (m_X4_get hO _ hB (o := 3) (mat_lt2 hx6 (by omega))) ivX4_40 hB.lt (hB.at _ _) rfl rfl ⟨(Nat.le_of_ble_eq_true rfl), (Nat.le_of_ble_eq_true rfl)⟩ (Nat.le_of_ble_eq_true rfl) ⟨Nat.zero_le _, Nat.zero_le _⟩ dX4_setWitnesses_57 (fun H locs hw => ?_)
  refine z_topi (y := nI (S.m x).wit) (hmx2.1.2.2.2) ?_
  refine lv_istore_n (lv' := [(3, .int (nI (S.m x).wit)), (0, .ref (G.h + 272)), (1, .int (nI x)), (2, .int w)]) C.x C.b dX4_setWitnesses_60 rfl hl (by decide) rfl (fun ls hl => ?_)
  refine lv_aload_n C.x C.b dX4_setWitnesses_61 rfl (lv_at hl 1 rfl) ?_
  refine z_get C hw hB.lt (hB.at _ _) flX4_7 rfl dX4_setWitnesses_62 ?_
  refine lv_iload_n C.x C.b dX4_setWitnesses_65 rfl (lv_at hl 2 rfl) ?_
  refine lv_iconst (v := 3) C.x C.b dX4_setWitnesses_66 (by decide) ?_
  refine z_Sv (As := [.int (nI x), .int 3]) (rest := [.ref (G.h + 273)]) C hw hl (m_X4_at hO _ (o := 3)) ivX4_28 rfl rfl ⟨(Nat.le_of_ble_eq_true rfl), (Nat.le_of_ble_eq_true rfl)⟩ (Nat.le_of_ble_eq_true rfl) ⟨Nat.zero_le _, Nat.zero_le _⟩ dX4_setWitnesses_67 (fun H locs hw => ?_)
  refine lv_iload_n C.x C.b dX4_setWitnesses_70 rfl (lv_at hl 3 rfl) ?_
  refine z_iast C hw hB.ltn hB.now (zvin (x := mat x 3) (mat_lt2 hx6 (by omega)) (by omega)) dX4_setWitnesses_71 (fun H locs hw => ?_)
  have e8 : (nI (mat x 3)).toNatClampNeg = (mat x 3) := zcl (x := mat x 3) (n := 2921) (mat_lt2 hx6 (by omega)) (by omega)
  rw [e8] at hw
  obtain ⟨z_3, ez_3⟩ : ∃ q_9, q_9 = zi z_2 273 (mat x 3) w := ⟨_, rfl⟩
  have hw : zS G N Λ z_3 sS H locs := by rw [ez_3]; exact hw
  refine z_pc (pc2 := 72) rfl ?_
  refine lv_iload_n C.x C.b dX4_setWitnesses_72 rfl (lv_at hl 0 rfl) ?_
  exact z_iret C hw dX4_setWitnesses_73 (rfl) (by rw [ez_3, ez_2, ez_1])

set_option maxRecDepth 100000 in
set_option maxHeartbeats 4000000 in
theorem f_X4_setWitnesses1 {G : zG} {N : Nat} {Λ : zLay} {l : Launch} (hO : zOK G l) (z : zM) (hB : zMo G N Λ) {S : aS} {c : Nat} {Lf : Nat → aS} (hI : mI z S c Lf) (hS : aOK S) {v u : Int32} (hv : ¬ isM v S.n) : zMet G N Λ l yX4_setWitnesses cX4_setWitnesses 4 (some .int) 2 [.ref (G.h + 272), .int v, .int u] z (some (.int 0)) (zi z 272 3 (nI 1)) := by
  refine zMet_of hO (by decide) (Nat.le_of_ble_eq_true rfl) ?_
  intro pP eE sS mM bB tT cC ls C hw hl
  have hl : lv_has ls 4 [(0, .ref (G.h + 272)), (1, .int v), (2, .int u)] := hl
  have hM := hI.s
  have hn6 := hS.n6
  have hc4 := hI.c4
  refine lv_aload_n C.x C.b dX4_setWitnesses_0 rfl (lv_at hl 0 rfl) ?_
  refine lv_aload_n C.x C.b dX4_setWitnesses_1 rfl (lv_at hl 0 rfl) ?_
  refine lv_iload_n C.x C.b dX4_setWitnesses_2 rfl (lv_at hl 1 rfl) ?_
  refine z_Vv (As := [.int v]) (rest := [.ref (G.h + 272)]) C hw hl (m_X4_isM_n hO _ hB hM.n hS.n2 hn6 hv) ivX4_104 hB.lt (hB.at _ _) rfl rfl ⟨(Nat.le_of_ble_eq_true rfl), (Nat.le_of_ble_eq_true rfl)⟩ (Nat.le_of_ble_eq_true rfl) ⟨Nat.zero_le _, Nat.zero_le _⟩ dX4_setWitnesses_3 (fun H locs hw => ?_)
  refine lv_if_ne (tgt := 13) C.x C.b dX4_setWitnesses_6 (by decide) (fun c_6 => absurd c_6 (fun q => q rfl)) (fun c_6 => ?_)
  refine lv_iconst (v := 1) C.x C.b dX4_setWitnesses_9 (by decide) ?_
  refine lv_goto (tgt := 42) C.x C.b dX4_setWitnesses_10 (by decide) ?_
  refine z_Vv (As := [.int 1]) (rest := []) C hw hl (m_X4_ref1 hO _ hB (w := 1) (by omega) (by omega)) ivX4_35 hB.lt (hB.at _ _) rfl rfl ⟨(Nat.le_of_ble_eq_true rfl), (Nat.le_of_ble_eq_true rfl)⟩ (Nat.le_of_ble_eq_true rfl) ⟨Nat.zero_le _, Nat.zero_le _⟩ dX4_setWitnesses_42 (fun H locs hw => ?_)
  obtain ⟨z_1, ez_1⟩ : ∃ q_9, q_9 = zi z 272 3 (nI 1) := ⟨_, rfl⟩
  have hw : zS G N Λ z_1 sS H locs := by rw [ez_1]; exact hw
  refine lv_if_eq (tgt := 50) C.x C.b dX4_setWitnesses_45 (by decide) (fun c_45 => absurd c_45 (by decide)) (fun c_45 => ?_)
  refine lv_iconst (v := 0) C.x C.b dX4_setWitnesses_48 (by decide) ?_
  exact z_iret C hw dX4_setWitnesses_49 (rfl) (by rw [ez_1])

set_option maxRecDepth 100000 in
set_option maxHeartbeats 4000000 in
theorem f_X4_setWitnesses2 {G : zG} {N : Nat} {Λ : zLay} {l : Launch} (hO : zOK G l) (z : zM) (hB : zMo G N Λ) {S : aS} {c : Nat} {Lf : Nat → aS} (hI : mI z S c Lf) (hS : aOK S) {x : Nat} (hx : x < S.n) (hx6 : x < 6) {w : Int32} (hw0 : ¬ wOK w x S.n) : zMet G N Λ l yX4_setWitnesses cX4_setWitnesses 4 (some .int) 2 [.ref (G.h + 272), .int (nI x), .int w] z (some (.int 0)) (zi z 272 3 (nI 2)) := by
  refine zMet_of hO (by decide) (Nat.le_of_ble_eq_true rfl) ?_
  intro pP eE sS mM bB tT cC ls C hw hl
  have hl : lv_has ls 4 [(0, .ref (G.h + 272)), (1, .int (nI x)), (2, .int w)] := hl
  have hM := hI.s
  have hn6 := hS.n6
  have hc4 := hI.c4
  have hmx := hM.m hx
  have hox := hS.m hx
  have hl40 := hox.log.1
  refine lv_aload_n C.x C.b dX4_setWitnesses_0 rfl (lv_at hl 0 rfl) ?_
  refine lv_aload_n C.x C.b dX4_setWitnesses_1 rfl (lv_at hl 0 rfl) ?_
  refine lv_iload_n C.x C.b dX4_setWitnesses_2 rfl (lv_at hl 1 rfl) ?_
  refine z_Vv (As := [.int (nI x)]) (rest := [.ref (G.h + 272)]) C hw hl (m_X4_isM_y hO _ hB hM.n hn6 hx) ivX4_104 hB.lt (hB.at _ _) rfl rfl ⟨(Nat.le_of_ble_eq_true rfl), (Nat.le_of_ble_eq_true rfl)⟩ (Nat.le_of_ble_eq_true rfl) ⟨Nat.zero_le _, Nat.zero_le _⟩ dX4_setWitnesses_3 (fun H locs hw => ?_)
  refine lv_if_ne (tgt := 13) C.x C.b dX4_setWitnesses_6 (by decide) (fun c_6 => ?_) (fun c_6 => absurd c_6 (by decide))
  refine lv_iload_n C.x C.b dX4_setWitnesses_13 rfl (lv_at hl 2 rfl) ?_
  refine lv_iconst (v := 0) C.x C.b dX4_setWitnesses_14 (by decide) ?_
  refine lv_iconst (v := 1) C.x C.b dX4_setWitnesses_15 (by decide) ?_
  refine lv_aload_n C.x C.b dX4_setWitnesses_16 rfl (lv_at hl 0 rfl) ?_
  refine z_Vv (As := []) (rest := [.int 1, .int 0, .int w, .ref (G.h + 272)]) C hw hl (m_X4_many hO _ hB hM.n) ivX4_66 hB.lt (hB.at _ _) rfl rfl ⟨(Nat.le_of_ble_eq_true rfl), (Nat.le_of_ble_eq_true rfl)⟩ (Nat.le_of_ble_eq_true rfl) ⟨Nat.zero_le _, Nat.zero_le _⟩ dX4_setWitnesses_17 (fun H locs hw => ?_)
  refine lv_ishl C.x C.b dX4_setWitnesses_20 ?_
  refine lv_iconst (v := 1) C.x C.b dX4_setWitnesses_21 (by decide) ?_
  refine lv_isub C.x C.b dX4_setWitnesses_22 ?_
  refine z_Sv (As := [.int w, .int 0, .int (((1 : Int32) <<< ((nI S.n) &&& 31)) - 1)]) (rest := [.ref (G.h + 272)]) C hw hl (m_X4_within hO _) ivX4_24 rfl rfl ⟨(Nat.le_of_ble_eq_true rfl), (Nat.le_of_ble_eq_true rfl)⟩ (Nat.le_of_ble_eq_true rfl) ⟨Nat.zero_le _, Nat.zero_le _⟩ dX4_setWitnesses_23 (fun H locs hw => ?_)
  refine lv_if_eq (tgt := 41) C.x C.b dX4_setWitnesses_26 (by decide) (fun c_26 => ?_) (fun c_26 => ?_)
  · refine lv_iconst (v := 2) C.x C.b dX4_setWitnesses_41 (by decide) ?_
    refine z_Vv (As := [.int 2]) (rest := []) C hw hl (m_X4_ref1 hO _ hB (w := 2) (by omega) (by omega)) ivX4_35 hB.lt (hB.at _ _) rfl rfl ⟨(Nat.le_of_ble_eq_true rfl), (Nat.le_of_ble_eq_true rfl)⟩ (Nat.le_of_ble_eq_true rfl) ⟨Nat.zero_le _, Nat.zero_le _⟩ dX4_setWitnesses_42 (fun H locs hw => ?_)
    obtain ⟨z_1, ez_1⟩ : ∃ q_9, q_9 = zi z 272 3 (nI 2) := ⟨_, rfl⟩
    have hw : zS G N Λ z_1 sS H locs := by rw [ez_1]; exact hw
    refine lv_if_eq (tgt := 50) C.x C.b dX4_setWitnesses_45 (by decide) (fun c_45 => absurd c_45 (by decide)) (fun c_45 => ?_)
    refine lv_iconst (v := 0) C.x C.b dX4_setWitnesses_48 (by decide) ?_
    refine z_pc (pc2 := 49) rfl ?_
    exact z_iret C hw dX4_setWitnesses_49 (rfl) (by rw [ez_1])
  · have hin : 0 ≤ w ∧ w ≤ (1 : Int32) <<< (nI S.n &&& 31) - 1 := by
      by_cases h : 0 ≤ w ∧ w ≤ (1 : Int32) <<< (nI S.n &&& 31) - 1
      · exact h
      · rw [if_neg h] at c_26; exact absurd rfl c_26
    refine lv_iload_n C.x C.b dX4_setWitnesses_29 rfl (lv_at hl 2 rfl) ?_
    refine lv_iload_n C.x C.b dX4_setWitnesses_30 rfl (lv_at hl 1 rfl) ?_
    refine lv_ishr C.x C.b dX4_setWitnesses_31 ?_
    refine lv_iconst (v := 1) C.x C.b dX4_setWitnesses_32 (by decide) ?_
    refine z_pc (pc2 := 33) rfl ?_
    refine lv_iand C.x C.b dX4_setWitnesses_33 ?_
    refine lv_if_ne (tgt := 41) C.x C.b dX4_setWitnesses_34 (by decide) (fun c_34 => ?_) (fun c_34 => absurd c_34 (fun q => hw0 (wOK_m hx hn6 hin q)))
    refine lv_iconst (v := 2) C.x C.b dX4_setWitnesses_41 (by decide) ?_
    refine z_Vv (As := [.int 2]) (rest := []) C hw hl (m_X4_ref1 hO _ hB (w := 2) (by omega) (by omega)) ivX4_35 hB.lt (hB.at _ _) rfl rfl ⟨(Nat.le_of_ble_eq_true rfl), (Nat.le_of_ble_eq_true rfl)⟩ (Nat.le_of_ble_eq_true rfl) ⟨Nat.zero_le _, Nat.zero_le _⟩ dX4_setWitnesses_42 (fun H locs hw => ?_)
    obtain ⟨z_2, ez_2⟩ : ∃ q_9, q_9 = zi z 272 3 (nI 2) := ⟨_, rfl⟩
    have hw : zS G N Λ z_2 sS H locs := by rw [ez_2]; exact hw
    refine lv_if_eq (tgt := 50) C.x C.b dX4_setWitnesses_45 (by decide) (fun c_45 => absurd c_45 (by decide)) (fun c_45 => ?_)
    refine lv_iconst (v := 0) C.x C.b dX4_setWitnesses_48 (by decide) ?_
    exact z_iret C hw dX4_setWitnesses_49 (rfl) (by rw [ez_2])

set_option maxRecDepth 100000 in
set_option maxHeartbeats 4000000 in
theorem m_X4_audit {G : zG} {N : Nat} {Λ : zLay} {l : Launch} (hO : zOK G l) (z : zM) (hB : zMo G N Λ) {S : aS} {c : Nat} {Lf : Nat → aS} (hI : mI z S c Lf) (hS : aOK S) {x : Nat} (hx : x < S.n) (hx6 : x < 6) {w : Nat} (hwn : w < S.n) (hw6 : w < 6) (hb : (S.m x).wit.testBit w = true) : zMet G N Λ l yX4_audit cX4_audit 4 (some .int) 6 [.ref (G.h + 272), .int (nI w), .int (nI x)] z (some (.int (nI (jdg S w x).1))) (maz (msv (zi z 272 3 0) c) S w x) := by
  refine zMet_of hO (by decide) (Nat.le_of_ble_eq_true rfl) ?_
  intro pP eE sS mM bB tT cC ls C hw hl
  have hl : lv_has ls 4 [(0, .ref (G.h + 272)), (1, .int (nI w)), (2, .int (nI x))] := hl
  have hM := hI.s
  have hn6 := hS.n6
  have hc4 := hI.c4
  have hmx := hM.m hx
  have hox := hS.m hx
  have hl40 := hox.log.1
  have hne : w ≠ x := fun q => by rw [q, hox.nw] at hb; exact absurd hb (by decide)
  refine lv_aload_n C.x C.b dX4_audit_0 rfl (lv_at hl 0 rfl) ?_
  refine lv_aload_n C.x C.b dX4_audit_1 rfl (lv_at hl 0 rfl) ?_
  refine lv_iload_n C.x C.b dX4_audit_2 rfl (lv_at hl 1 rfl) ?_
  refine z_Vv (As := [.int (nI w)]) (rest := [.ref (G.h + 272)]) C hw hl (m_X4_isM_y hO _ hB hM.n hn6 hwn) ivX4_104 hB.lt (hB.at _ _) rfl rfl ⟨(Nat.le_of_ble_eq_true rfl), (Nat.le_of_ble_eq_true rfl)⟩ (Nat.le_of_ble_eq_true rfl) ⟨Nat.zero_le _, Nat.zero_le _⟩ dX4_audit_3 (fun H locs hw => ?_)
  refine lv_if_eq (tgt := 17) C.x C.b dX4_audit_6 (by decide) (fun c_6 => absurd c_6 (by decide)) (fun c_6 => ?_)
  refine lv_aload_n C.x C.b dX4_audit_9 rfl (lv_at hl 0 rfl) ?_
  refine lv_iload_n C.x C.b dX4_audit_10 rfl (lv_at hl 2 rfl) ?_
  refine z_Vv (As := [.int (nI x)]) (rest := [.ref (G.h + 272)]) C hw hl (m_X4_isM_y hO _ hB hM.n hn6 hx) ivX4_104 hB.lt (hB.at _ _) rfl rfl ⟨(Nat.le_of_ble_eq_true rfl), (Nat.le_of_ble_eq_true rfl)⟩ (Nat.le_of_ble_eq_true rfl) ⟨Nat.zero_le _, Nat.zero_le _⟩ dX4_audit_11 (fun H locs hw => ?_)
  refine lv_if_ne (tgt := 21) C.x C.b dX4_audit_14 (by decide) (fun c_14 => ?_) (fun c_14 => absurd c_14 (by decide))
  refine lv_aload_n C.x C.b dX4_audit_21 rfl (lv_at hl 0 rfl) ?_
  refine lv_iload_n C.x C.b dX4_audit_22 rfl (lv_at hl 1 rfl) ?_
  refine lv_iload_n C.x C.b dX4_audit_23 rfl (lv_at hl 2 rfl) ?_
  refine z_Vv (As := [.int (nI w), .int (nI x)]) (rest := [.ref (G.h + 272)]) C hw hl (m_X4_isWitness hO _ hB hM hS hx hx6 hw6) ivX4_131 hB.lt (hB.at _ _) rfl rfl ⟨(Nat.le_of_ble_eq_true rfl), (Nat.le_of_ble_eq_true rfl)⟩ (Nat.le_of_ble_eq_true rfl) ⟨Nat.zero_le _, Nat.zero_le _⟩ dX4_audit_24 (fun H locs hw => ?_)
  refine z_topi (y := 1) (if_pos hb) ?_
  refine lv_if_eq (tgt := 34) C.x C.b dX4_audit_27 (by decide) (fun c_27 => absurd c_27 (by decide)) (fun c_27 => ?_)
  refine lv_iconst (v := 0) C.x C.b dX4_audit_30 (by decide) ?_
  refine lv_goto (tgt := 35) C.x C.b dX4_audit_31 (by decide) ?_
  refine z_Vv (As := [.int 0]) (rest := []) C hw hl (m_X4_ref0 hO _ hB) ivX4_35 hB.lt (hB.at _ _) rfl rfl ⟨(Nat.le_of_ble_eq_true rfl), (Nat.le_of_ble_eq_true rfl)⟩ (Nat.le_of_ble_eq_true rfl) ⟨Nat.zero_le _, Nat.zero_le _⟩ dX4_audit_35 (fun H locs hw => ?_)
  obtain ⟨z_1, ez_1⟩ : ∃ q_9, q_9 = zi z 272 3 0 := ⟨_, rfl⟩
  have hw : zS G N Λ z_1 sS H locs := by rw [ez_1]; exact hw
  have hI1 : mI z_1 S c Lf := by rw [ez_1]; exact hI.ref _
  have hM1 := hI1.s
  have hmx1 := hM1.m hx
  refine lv_if_eq (tgt := 43) C.x C.b dX4_audit_38 (by decide) (fun c_38 => ?_) (fun c_38 => absurd (rfl) c_38)
  refine lv_aload_n C.x C.b dX4_audit_43 rfl (lv_at hl 0 rfl) ?_
  refine z_pc (pc2 := 44) rfl ?_
  refine z_V0 (As := []) (rest := []) C hw hl (m_X4_saves hO _ hB hI1.c hI1.c4) ivX4_101 hB.lt (hB.at _ _) rfl rfl ⟨(Nat.le_of_ble_eq_true rfl), (Nat.le_of_ble_eq_true rfl)⟩ (Nat.le_of_ble_eq_true rfl) ⟨Nat.zero_le _, Nat.zero_le _⟩ dX4_audit_44 (fun H locs hw => ?_)
  obtain ⟨z_2, ez_2⟩ : ∃ q_9, q_9 = msv z_1 c := ⟨_, rfl⟩
  have hw : zS G N Λ z_2 sS H locs := by rw [ez_2]; exact hw
  have hI2 : mI z_2 S (svc c) (svf c Lf S) := by rw [ez_2]; exact hI1.sv
  have hM2 := hI2.s
  have hmx2 := hM2.m hx
  refine lv_aload_n C.x C.b dX4_audit_47 rfl (lv_at hl 0 rfl) ?_
  refine lv_iload_n C.x C.b dX4_audit_48 rfl (lv_at hl 1 rfl) ?_
  refine lv_iload_n C.x C.b dX4_audit_49 rfl (lv_at hl 2 rfl) ?_
  refine z_Vv (As := [.int (nI w), .int (nI x)]) (rest := []) C hw hl (m_X4_judged hO _ hB hM2 hS hx hx6 hwn hne) ivX4_134 hB.lt (hB.at _ _) rfl rfl ⟨(Nat.le_of_ble_eq_true rfl), (Nat.le_of_ble_eq_true rfl)⟩ (Nat.le_of_ble_eq_true rfl) ⟨Nat.zero_le _, Nat.zero_le _⟩ dX4_audit_50 (fun H locs hw => ?_)
  obtain ⟨z_3, ez_3⟩ : ∃ q_9, q_9 = mjz z_2 S w x := ⟨_, rfl⟩
  have hw : zS G N Λ z_3 sS H locs := by rw [ez_3]; exact hw
  refine lv_istore_n (lv' := [(3, .int (nI (jdg S w x).1)), (0, .ref (G.h + 272)), (1, .int (nI w)), (2, .int (nI x))]) C.x C.b dX4_audit_53 rfl hl (by decide) rfl (fun ls hl => ?_)
  refine lv_aload_n C.x C.b dX4_audit_54 rfl (lv_at hl 1 rfl) ?_
  refine z_get C hw hB.lt (hB.at _ _) flX4_7 rfl dX4_audit_55 ?_
  refine lv_iload_n C.x C.b dX4_audit_58 rfl (lv_at hl 3 rfl) ?_
  refine lv_sipush (v := 427) C.x C.b dX4_audit_59 (by decide) ?_
  refine lv_iload_n C.x C.b dX4_audit_62 rfl (lv_at hl 2 rfl) ?_
  refine lv_iadd C.x C.b dX4_audit_63 ?_
  refine z_topi (y := nI (427 + w)) (by rw [zlit 427, nI_add]) ?_
  refine z_Sv (As := [.int (nI x), .int (nI (427 + w))]) (rest := [.ref (G.h + 273)]) C hw hl (m_X4_at hO _ (o := (427 + w))) ivX4_28 rfl rfl ⟨(Nat.le_of_ble_eq_true rfl), (Nat.le_of_ble_eq_true rfl)⟩ (Nat.le_of_ble_eq_true rfl) ⟨Nat.zero_le _, Nat.zero_le _⟩ dX4_audit_64 (fun H locs hw => ?_)
  refine lv_iload_n C.x C.b dX4_audit_67 rfl (lv_at hl 0 rfl) ?_
  refine z_iast C hw hB.ltn hB.now (zvin (x := mat x (427 + w)) (mat_lt2 hx6 (by omega)) (by omega)) dX4_audit_68 (fun H locs hw => ?_)
  have e8 : (nI (mat x (427 + w))).toNatClampNeg = (mat x (427 + w)) := zcl (x := mat x (427 + w)) (n := 2921) (mat_lt2 hx6 (by omega)) (by omega)
  rw [e8] at hw
  obtain ⟨z_4, ez_4⟩ : ∃ q_9, q_9 = zi z_3 273 (mat x (427 + w)) (nI (jdg S w x).1) := ⟨_, rfl⟩
  have hw : zS G N Λ z_4 sS H locs := by rw [ez_4]; exact hw
  refine lv_iload_n C.x C.b dX4_audit_69 rfl (lv_at hl 0 rfl) ?_
  exact z_iret C hw dX4_audit_70 (rfl) (by rw [ez_4, ez_3, ez_2, ez_1]; rfl)

set_option maxRecDepth 100000 in
set_option maxHeartbeats 4000000 in
theorem f_X4_audit1 {G : zG} {N : Nat} {Λ : zLay} {l : Launch} (hO : zOK G l) (z : zM) (hB : zMo G N Λ) {S : aS} {c : Nat} {Lf : Nat → aS} (hI : mI z S c Lf) (hS : aOK S) {v x : Int32} (hv : ¬ isM v S.n) : zMet G N Λ l yX4_audit cX4_audit 4 (some .int) 6 [.ref (G.h + 272), .int v, .int x] z (some (.int 0)) (zi z 272 3 (nI 1)) := by
  refine zMet_of hO (by decide) (Nat.le_of_ble_eq_true rfl) ?_
  intro pP eE sS mM bB tT cC ls C hw hl
  have hl : lv_has ls 4 [(0, .ref (G.h + 272)), (1, .int v), (2, .int x)] := hl
  have hM := hI.s
  have hn6 := hS.n6
  have hc4 := hI.c4
  refine lv_aload_n C.x C.b dX4_audit_0 rfl (lv_at hl 0 rfl) ?_
  refine lv_aload_n C.x C.b dX4_audit_1 rfl (lv_at hl 0 rfl) ?_
  refine lv_iload_n C.x C.b dX4_audit_2 rfl (lv_at hl 1 rfl) ?_
  refine z_Vv (As := [.int v]) (rest := [.ref (G.h + 272)]) C hw hl (m_X4_isM_n hO _ hB hM.n hS.n2 hn6 hv) ivX4_104 hB.lt (hB.at _ _) rfl rfl ⟨(Nat.le_of_ble_eq_true rfl), (Nat.le_of_ble_eq_true rfl)⟩ (Nat.le_of_ble_eq_true rfl) ⟨Nat.zero_le _, Nat.zero_le _⟩ dX4_audit_3 (fun H locs hw => ?_)
  refine lv_if_eq (tgt := 17) C.x C.b dX4_audit_6 (by decide) (fun c_6 => ?_) (fun c_6 => absurd (rfl) c_6)
  refine lv_iconst (v := 1) C.x C.b dX4_audit_17 (by decide) ?_
  refine lv_goto (tgt := 35) C.x C.b dX4_audit_18 (by decide) ?_
  refine z_Vv (As := [.int 1]) (rest := []) C hw hl (m_X4_ref1 hO _ hB (w := 1) (by omega) (by omega)) ivX4_35 hB.lt (hB.at _ _) rfl rfl ⟨(Nat.le_of_ble_eq_true rfl), (Nat.le_of_ble_eq_true rfl)⟩ (Nat.le_of_ble_eq_true rfl) ⟨Nat.zero_le _, Nat.zero_le _⟩ dX4_audit_35 (fun H locs hw => ?_)
  obtain ⟨z_1, ez_1⟩ : ∃ q_9, q_9 = zi z 272 3 (nI 1) := ⟨_, rfl⟩
  have hw : zS G N Λ z_1 sS H locs := by rw [ez_1]; exact hw
  refine lv_if_eq (tgt := 43) C.x C.b dX4_audit_38 (by decide) (fun c_38 => absurd c_38 (by decide)) (fun c_38 => ?_)
  refine lv_iconst (v := 0) C.x C.b dX4_audit_41 (by decide) ?_
  exact z_iret C hw dX4_audit_42 (rfl) (by rw [ez_1])

set_option maxRecDepth 100000 in
set_option maxHeartbeats 4000000 in
theorem f_X4_audit2 {G : zG} {N : Nat} {Λ : zLay} {l : Launch} (hO : zOK G l) (z : zM) (hB : zMo G N Λ) {S : aS} {c : Nat} {Lf : Nat → aS} (hI : mI z S c Lf) (hS : aOK S) {w : Nat} (hwn : w < S.n) {v : Int32} (hv : ¬ isM v S.n) : zMet G N Λ l yX4_audit cX4_audit 4 (some .int) 6 [.ref (G.h + 272), .int (nI w), .int v] z (some (.int 0)) (zi z 272 3 (nI 1)) := by
  refine zMet_of hO (by decide) (Nat.le_of_ble_eq_true rfl) ?_
  intro pP eE sS mM bB tT cC ls C hw hl
  have hl : lv_has ls 4 [(0, .ref (G.h + 272)), (1, .int (nI w)), (2, .int v)] := hl
  have hM := hI.s
  have hn6 := hS.n6
  have hc4 := hI.c4
  refine lv_aload_n C.x C.b dX4_audit_0 rfl (lv_at hl 0 rfl) ?_
  refine lv_aload_n C.x C.b dX4_audit_1 rfl (lv_at hl 0 rfl) ?_
  refine lv_iload_n C.x C.b dX4_audit_2 rfl (lv_at hl 1 rfl) ?_
  refine z_Vv (As := [.int (nI w)]) (rest := [.ref (G.h + 272)]) C hw hl (m_X4_isM_y hO _ hB hM.n hn6 hwn) ivX4_104 hB.lt (hB.at _ _) rfl rfl ⟨(Nat.le_of_ble_eq_true rfl), (Nat.le_of_ble_eq_true rfl)⟩ (Nat.le_of_ble_eq_true rfl) ⟨Nat.zero_le _, Nat.zero_le _⟩ dX4_audit_3 (fun H locs hw => ?_)
  refine lv_if_eq (tgt := 17) C.x C.b dX4_audit_6 (by decide) (fun c_6 => absurd c_6 (by decide)) (fun c_6 => ?_)
  refine lv_aload_n C.x C.b dX4_audit_9 rfl (lv_at hl 0 rfl) ?_
  refine lv_iload_n C.x C.b dX4_audit_10 rfl (lv_at hl 2 rfl) ?_
  refine z_Vv (As := [.int v]) (rest := [.ref (G.h + 272)]) C hw hl (m_X4_isM_n hO _ hB hM.n hS.n2 hn6 hv) ivX4_104 hB.lt (hB.at _ _) rfl rfl ⟨(Nat.le_of_ble_eq_true rfl), (Nat.le_of_ble_eq_true rfl)⟩ (Nat.le_of_ble_eq_true rfl) ⟨Nat.zero_le _, Nat.zero_le _⟩ dX4_audit_11 (fun H locs hw => ?_)
  refine lv_if_ne (tgt := 21) C.x C.b dX4_audit_14 (by decide) (fun c_14 => absurd c_14 (fun q => q rfl)) (fun c_14 => ?_)
  refine lv_iconst (v := 1) C.x C.b dX4_audit_17 (by decide) ?_
  refine lv_goto (tgt := 35) C.x C.b dX4_audit_18 (by decide) ?_
  refine z_Vv (As := [.int 1]) (rest := []) C hw hl (m_X4_ref1 hO _ hB (w := 1) (by omega) (by omega)) ivX4_35 hB.lt (hB.at _ _) rfl rfl ⟨(Nat.le_of_ble_eq_true rfl), (Nat.le_of_ble_eq_true rfl)⟩ (Nat.le_of_ble_eq_true rfl) ⟨Nat.zero_le _, Nat.zero_le _⟩ dX4_audit_35 (fun H locs hw => ?_)
  obtain ⟨z_1, ez_1⟩ : ∃ q_9, q_9 = zi z 272 3 (nI 1) := ⟨_, rfl⟩
  have hw : zS G N Λ z_1 sS H locs := by rw [ez_1]; exact hw
  refine lv_if_eq (tgt := 43) C.x C.b dX4_audit_38 (by decide) (fun c_38 => absurd c_38 (by decide)) (fun c_38 => ?_)
  refine lv_iconst (v := 0) C.x C.b dX4_audit_41 (by decide) ?_
  exact z_iret C hw dX4_audit_42 (rfl) (by rw [ez_1])

set_option maxRecDepth 100000 in
set_option maxHeartbeats 4000000 in
theorem f_X4_audit3 {G : zG} {N : Nat} {Λ : zLay} {l : Launch} (hO : zOK G l) (z : zM) (hB : zMo G N Λ) {S : aS} {c : Nat} {Lf : Nat → aS} (hI : mI z S c Lf) (hS : aOK S) {x : Nat} (hx : x < S.n) (hx6 : x < 6) {w : Nat} (hwn : w < S.n) (hw6 : w < 6) (hb : ¬ (S.m x).wit.testBit w = true) : zMet G N Λ l yX4_audit cX4_audit 4 (some .int) 6 [.ref (G.h + 272), .int (nI w), .int (nI x)] z (some (.int 0)) (zi z 272 3 (nI 2)) := by
  refine zMet_of hO (by decide) (Nat.le_of_ble_eq_true rfl) ?_
  intro pP eE sS mM bB tT cC ls C hw hl
  have hl : lv_has ls 4 [(0, .ref (G.h + 272)), (1, .int (nI w)), (2, .int (nI x))] := hl
  have hM := hI.s
  have hn6 := hS.n6
  have hc4 := hI.c4
  have hmx := hM.m hx
  have hox := hS.m hx
  have hl40 := hox.log.1
  refine lv_aload_n C.x C.b dX4_audit_0 rfl (lv_at hl 0 rfl) ?_
  refine lv_aload_n C.x C.b dX4_audit_1 rfl (lv_at hl 0 rfl) ?_
  refine lv_iload_n C.x C.b dX4_audit_2 rfl (lv_at hl 1 rfl) ?_
  refine z_Vv (As := [.int (nI w)]) (rest := [.ref (G.h + 272)]) C hw hl (m_X4_isM_y hO _ hB hM.n hn6 hwn) ivX4_104 hB.lt (hB.at _ _) rfl rfl ⟨(Nat.le_of_ble_eq_true rfl), (Nat.le_of_ble_eq_true rfl)⟩ (Nat.le_of_ble_eq_true rfl) ⟨Nat.zero_le _, Nat.zero_le _⟩ dX4_audit_3 (fun H locs hw => ?_)
  refine lv_if_eq (tgt := 17) C.x C.b dX4_audit_6 (by decide) (fun c_6 => absurd c_6 (by decide)) (fun c_6 => ?_)
  refine lv_aload_n C.x C.b dX4_audit_9 rfl (lv_at hl 0 rfl) ?_
  refine lv_iload_n C.x C.b dX4_audit_10 rfl (lv_at hl 2 rfl) ?_
  refine z_Vv (As := [.int (nI x)]) (rest := [.ref (G.h + 272)]) C hw hl (m_X4_isM_y hO _ hB hM.n hn6 hx) ivX4_104 hB.lt (hB.at _ _) rfl rfl ⟨(Nat.le_of_ble_eq_true rfl), (Nat.le_of_ble_eq_true rfl)⟩ (Nat.le_of_ble_eq_true rfl) ⟨Nat.zero_le _, Nat.zero_le _⟩ dX4_audit_11 (fun H locs hw => ?_)
  refine lv_if_ne (tgt := 21) C.x C.b dX4_audit_14 (by decide) (fun c_14 => ?_) (fun c_14 => absurd c_14 (by decide))
  refine lv_aload_n C.x C.b dX4_audit_21 rfl (lv_at hl 0 rfl) ?_
  refine lv_iload_n C.x C.b dX4_audit_22 rfl (lv_at hl 1 rfl) ?_
  refine lv_iload_n C.x C.b dX4_audit_23 rfl (lv_at hl 2 rfl) ?_
  refine z_Vv (As := [.int (nI w), .int (nI x)]) (rest := [.ref (G.h + 272)]) C hw hl (m_X4_isWitness hO _ hB hM hS hx hx6 hw6) ivX4_131 hB.lt (hB.at _ _) rfl rfl ⟨(Nat.le_of_ble_eq_true rfl), (Nat.le_of_ble_eq_true rfl)⟩ (Nat.le_of_ble_eq_true rfl) ⟨Nat.zero_le _, Nat.zero_le _⟩ dX4_audit_24 (fun H locs hw => ?_)
  refine z_topi (y := 0) (if_neg hb) ?_
  refine lv_if_eq (tgt := 34) C.x C.b dX4_audit_27 (by decide) (fun c_27 => ?_) (fun c_27 => absurd (rfl) c_27)
  refine lv_iconst (v := 2) C.x C.b dX4_audit_34 (by decide) ?_
  refine z_Vv (As := [.int 2]) (rest := []) C hw hl (m_X4_ref1 hO _ hB (w := 2) (by omega) (by omega)) ivX4_35 hB.lt (hB.at _ _) rfl rfl ⟨(Nat.le_of_ble_eq_true rfl), (Nat.le_of_ble_eq_true rfl)⟩ (Nat.le_of_ble_eq_true rfl) ⟨Nat.zero_le _, Nat.zero_le _⟩ dX4_audit_35 (fun H locs hw => ?_)
  obtain ⟨z_1, ez_1⟩ : ∃ q_9, q_9 = zi z 272 3 (nI 2) := ⟨_, rfl⟩
  have hw : zS G N Λ z_1 sS H locs := by rw [ez_1]; exact hw
  refine lv_if_eq (tgt := 43) C.x C.b dX4_audit_38 (by decide) (fun c_38 => absurd c_38 (by decide)) (fun c_38 => ?_)
  refine lv_iconst (v := 0) C.x C.b dX4_audit_41 (by decide) ?_
  exact z_iret C hw dX4_audit_42 (rfl) (by rw [ez_1])

set_option maxRecDepth 100000 in
set_option maxHeartbeats 4000000 in
theorem m_X4_auditAll {G : zG} {N : Nat} {Λ : zLay} {l : Launch} (hO : zOK G l) (z : zM) (hB : zMo G N Λ) {S : aS} {c : Nat} {Lf : Nat → aS} (hI : mI z S c Lf) (hS : aOK S) : zMet G N Λ l yX4_auditAll cX4_auditAll 5 (some .int) 6 [.ref (G.h + 272)] z (some (.int (nI (aAll S.n 0 S).2))) (mAll S.n 0 (msv (zi z 272 3 0) c) S) := by
  refine zMet_of hO (by decide) (Nat.le_of_ble_eq_true rfl) ?_
  intro pP eE sS mM bB tT cC ls C hw hl
  have hl : lv_has ls 5 [(0, .ref (G.h + 272))] := hl
  have hM := hI.s
  have hn6 := hS.n6
  have hc4 := hI.c4
  refine lv_aload_n C.x C.b dX4_auditAll_0 rfl (lv_at hl 0 rfl) ?_
  refine lv_iconst (v := 0) C.x C.b dX4_auditAll_1 (by decide) ?_
  refine z_put C hw hB.lt (hB.at _ _) ptX4_20 (hB.at _ _) (rfl) (rfl) (Nat.le_of_ble_eq_true rfl) dX4_auditAll_2 (fun H locs hw => ?_)
  obtain ⟨z_1, ez_1⟩ : ∃ q_9, q_9 = zi z 272 3 0 := ⟨_, rfl⟩
  have hw : zS G N Λ z_1 sS H locs := by rw [ez_1]; exact hw
  have hI1 : mI z_1 S c Lf := by rw [ez_1]; exact hI.ref _
  have hM1 := hI1.s
  refine lv_aload_n C.x C.b dX4_auditAll_5 rfl (lv_at hl 0 rfl) ?_
  refine z_V0 (As := []) (rest := []) C hw hl (m_X4_saves hO _ hB hI1.c hI1.c4) ivX4_101 hB.lt (hB.at _ _) rfl rfl ⟨(Nat.le_of_ble_eq_true rfl), (Nat.le_of_ble_eq_true rfl)⟩ (Nat.le_of_ble_eq_true rfl) ⟨Nat.zero_le _, Nat.zero_le _⟩ dX4_auditAll_6 (fun H locs hw => ?_)
  obtain ⟨z_2, ez_2⟩ : ∃ q_9, q_9 = msv z_1 c := ⟨_, rfl⟩
  have hw : zS G N Λ z_2 sS H locs := by rw [ez_2]; exact hw
  have hI2 : mI z_2 S (svc c) (svf c Lf S) := by rw [ez_2]; exact hI1.sv
  have hM2 := hI2.s
  refine lv_iconst (v := 0) C.x C.b dX4_auditAll_9 (by decide) ?_
  refine lv_istore_n (lv' := [(1, .int 0), (0, .ref (G.h + 272))]) C.x C.b dX4_auditAll_10 rfl hl (by decide) rfl (fun ls hl => ?_)
  refine lv_iconst (v := 0) C.x C.b dX4_auditAll_11 (by decide) ?_
  refine lv_istore_n (lv' := [(2, .int 0), (1, .int 0), (0, .ref (G.h + 272))]) C.x C.b dX4_auditAll_12 rfl hl (by decide) rfl (fun ls hl => ?_)
  have loop : ∀ (d : Nat) (x k : Nat) (zz : zM) (SS : aS) (H : Heap) (locs : List Loc) (ls : Array Slot) (hx : x + d = S.n) (hSn : SS.n = S.n) (hMM : mS zz SS) (hKK : aOK SS) (hres : (aAll S.n 0 S).2 = k + (aAll d x SS).2) (hzz : mAll S.n 0 z_2 S = mAll d x zz SS), zS G N Λ zz sS H locs → lv_has ls 5 [(0, .ref (G.h + 272)), (1, .int (nI k)), (2, .int (nI x))] → W pP l eE (zR 6) sS mM ([.ref (G.h + 272)] : List Value).toArray bB tT cC H locs 0 0 (MQ bB (zQc G N Λ (some (.int (nI (aAll S.n 0 S).2))) (mAll S.n 0 (msv (zi z 272 3 0) c) S)) ([.ref (G.h + 272)] : List Value).toArray sS 0 0 (zA G)) (F0 mM 13 ls []) := by
    intro d
    induction d with
    | zero =>
      intro x k zz SS H locs ls hx hSn hMM hKK hres hzz hw hl
      have hMn : zz.1 273 0 = nI S.n := by rw [hMM.n, hSn]
      refine lv_iload_n C.x C.b dX4_auditAll_13 rfl (lv_at hl 2 rfl) ?_
      refine lv_aload_n C.x C.b dX4_auditAll_14 rfl (lv_at hl 0 rfl) ?_
      refine z_Vv (As := []) (rest := [.int (nI x)]) C hw hl (m_X4_many hO _ hB hMn) ivX4_66 hB.lt (hB.at _ _) rfl rfl ⟨(Nat.le_of_ble_eq_true rfl), (Nat.le_of_ble_eq_true rfl)⟩ (Nat.le_of_ble_eq_true rfl) ⟨Nat.zero_le _, Nat.zero_le _⟩ dX4_auditAll_15 (fun H locs hw => ?_)
      refine lv_icmp_ge (tgt := 99) C.x C.b dX4_auditAll_18 (by decide) (fun c_18 => ?_) (fun c_18 => absurd (zle (by omega) (by omega)) c_18)
      refine lv_iload_n C.x C.b dX4_auditAll_99 rfl (lv_at hl 1 rfl) ?_
      exact z_iret C hw dX4_auditAll_100 (by rw [hres]; rfl) (by rw [← ez_1, ← ez_2, hzz]; rfl)
    | succ d ih =>
      intro x k zz SS H locs ls hx hSn hMM hKK hres hzz hw hl
      have hMn : zz.1 273 0 = nI S.n := by rw [hMM.n, hSn]
      refine lv_iload_n C.x C.b dX4_auditAll_13 rfl (lv_at hl 2 rfl) ?_
      refine lv_aload_n C.x C.b dX4_auditAll_14 rfl (lv_at hl 0 rfl) ?_
      refine z_Vv (As := []) (rest := [.int (nI x)]) C hw hl (m_X4_many hO _ hB hMn) ivX4_66 hB.lt (hB.at _ _) rfl rfl ⟨(Nat.le_of_ble_eq_true rfl), (Nat.le_of_ble_eq_true rfl)⟩ (Nat.le_of_ble_eq_true rfl) ⟨Nat.zero_le _, Nat.zero_le _⟩ dX4_auditAll_15 (fun H locs hw => ?_)
      refine lv_icmp_ge (tgt := 99) C.x C.b dX4_auditAll_18 (by decide) (fun c_18 => absurd c_18 (znle (by omega) (by omega))) (fun c_18 => ?_)
      refine lv_iconst (v := 0) C.x C.b dX4_auditAll_21 (by decide) ?_
      refine lv_istore_n (lv' := [(3, .int 0), (0, .ref (G.h + 272)), (1, .int (nI k)), (2, .int (nI x))]) C.x C.b dX4_auditAll_22 rfl hl (by decide) rfl (fun ls hl => ?_)
      have loop2 : ∀ (e2 : Nat) (w k3 : Nat) (z3 : zM) (S3 : aS) (H : Heap) (locs : List Loc) (ls : Array Slot) (hwd : w + e2 = S.n) (hn3 : S3.n = S.n) (hM3 : mS z3 S3) (hK3 : aOK S3) (hj1 : (jba x SS.n 0 SS).1 = (jba x e2 w S3).1) (hj2 : k + (jba x SS.n 0 SS).2 = k3 + (jba x e2 w S3).2) (hz3 : mjb x SS.n 0 zz SS = mjb x e2 w z3 S3), zS G N Λ z3 sS H locs → lv_has ls 5 [(0, .ref (G.h + 272)), (1, .int (nI k3)), (2, .int (nI x)), (3, .int (nI w))] → W pP l eE (zR 6) sS mM ([.ref (G.h + 272)] : List Value).toArray bB tT cC H locs 0 0 (MQ bB (zQc G N Λ (some (.int (nI (aAll S.n 0 S).2))) (mAll S.n 0 (msv (zi z 272 3 0) c) S)) ([.ref (G.h + 272)] : List Value).toArray sS 0 0 (zA G)) (F0 mM 23 ls []) := by
        intro e2
        induction e2 with
        | zero =>
          intro w k3 z3 S3 H locs ls hwd hn3 hM3 hK3 hj1 hj2 hz3 hw hl
          have hMn : z3.1 273 0 = nI S.n := by rw [hM3.n, hn3]
          refine lv_iload_n C.x C.b dX4_auditAll_23 rfl (lv_at hl 3 rfl) ?_
          refine lv_aload_n C.x C.b dX4_auditAll_24 rfl (lv_at hl 0 rfl) ?_
          refine z_Vv (As := []) (rest := [.int (nI w)]) C hw hl (m_X4_many hO _ hB hMn) ivX4_66 hB.lt (hB.at _ _) rfl rfl ⟨(Nat.le_of_ble_eq_true rfl), (Nat.le_of_ble_eq_true rfl)⟩ (Nat.le_of_ble_eq_true rfl) ⟨Nat.zero_le _, Nat.zero_le _⟩ dX4_auditAll_25 (fun H locs hw => ?_)
          refine lv_icmp_ge (tgt := 93) C.x C.b dX4_auditAll_28 (by decide) (fun c_28 => ?_) (fun c_28 => absurd (zle (by omega) (by omega)) c_28)
          refine lv_iinc (v := nI x + 1) (lv' := [(2, .int (nI x + 1)), (0, .ref (G.h + 272)), (1, .int (nI k3)), (3, .int (nI w))]) C.x C.b dX4_auditAll_93 hl (k := 2) rfl rfl (by decide) rfl (fun ls hl => ?_)
          have hl : lv_has ls 5 [(2, .int (nI (x + 1))), (0, .ref (G.h + 272)), (1, .int (nI k3)), (3, .int (nI w))] := by
            have e9 : nI x + 1 = nI (x + 1) := nI_1 x
            rw [← e9]; exact hl
          refine lv_goto (tgt := 13) C.x C.b dX4_auditAll_96 (by decide) ?_
          exact ih (x + 1) k3 z3 S3 _ _ _ (by omega) hn3 hM3 hK3 (by
                have h9 : (jba x SS.n 0 SS).1 = S3 := hj1
                have h8 : k + (jba x SS.n 0 SS).2 = k3 + 0 := hj2
                rw [hres, aAll, h9]; show k + (_ + _) = _; omega) (by
                have h9 : (jba x SS.n 0 SS).1 = S3 := hj1
                have h7 : mjb x SS.n 0 zz SS = z3 := hz3
                rw [hzz, mAll, h9, h7]) hw (lv_sub hl [1, 2, 0] rfl)
        | succ e2 ih2 =>
          intro w k3 z3 S3 H locs ls hwd hn3 hM3 hK3 hj1 hj2 hz3 hw hl
          have hMn : z3.1 273 0 = nI S.n := by rw [hM3.n, hn3]
          have hx3 : x < S3.n := by omega
          have hx6 : x < 6 := by omega
          have hw3 : w < S3.n := by omega
          have hw6 : w < 6 := by omega
          refine lv_iload_n C.x C.b dX4_auditAll_23 rfl (lv_at hl 3 rfl) ?_
          refine lv_aload_n C.x C.b dX4_auditAll_24 rfl (lv_at hl 0 rfl) ?_
          refine z_Vv (As := []) (rest := [.int (nI w)]) C hw hl (m_X4_many hO _ hB hMn) ivX4_66 hB.lt (hB.at _ _) rfl rfl ⟨(Nat.le_of_ble_eq_true rfl), (Nat.le_of_ble_eq_true rfl)⟩ (Nat.le_of_ble_eq_true rfl) ⟨Nat.zero_le _, Nat.zero_le _⟩ dX4_auditAll_25 (fun H locs hw => ?_)
          refine lv_icmp_ge (tgt := 93) C.x C.b dX4_auditAll_28 (by decide) (fun c_28 => absurd c_28 (znle (by omega) (by omega))) (fun c_28 => ?_)
          refine lv_aload_n C.x C.b dX4_auditAll_31 rfl (lv_at hl 0 rfl) ?_
          refine lv_iload_n C.x C.b dX4_auditAll_32 rfl (lv_at hl 3 rfl) ?_
          refine lv_iload_n C.x C.b dX4_auditAll_33 rfl (lv_at hl 2 rfl) ?_
          refine z_Vv (As := [.int (nI w), .int (nI x)]) (rest := []) C hw hl (m_X4_isWitness hO _ hB hM3 hK3 hx3 hx6 hw6) ivX4_131 hB.lt (hB.at _ _) rfl rfl ⟨(Nat.le_of_ble_eq_true rfl), (Nat.le_of_ble_eq_true rfl)⟩ (Nat.le_of_ble_eq_true rfl) ⟨Nat.zero_le _, Nat.zero_le _⟩ dX4_auditAll_34 (fun H locs hw => ?_)
          refine lv_if_eq (tgt := 87) C.x C.b dX4_auditAll_37 (by decide) (fun c_37 => ?_) (fun c_37 => ?_)
          · refine lv_iinc (v := nI w + 1) (lv' := [(3, .int (nI w + 1)), (0, .ref (G.h + 272)), (1, .int (nI k3)), (2, .int (nI x))]) C.x C.b dX4_auditAll_87 hl (k := 3) rfl rfl (by decide) rfl (fun ls hl => ?_)
            have hl : lv_has ls 5 [(3, .int (nI (w + 1))), (0, .ref (G.h + 272)), (1, .int (nI k3)), (2, .int (nI x))] := by
              have e9 : nI w + 1 = nI (w + 1) := nI_1 w
              rw [← e9]; exact hl
            refine lv_goto (tgt := 23) C.x C.b dX4_auditAll_90 (by decide) ?_
            exact ih2 (w + 1) k3 z3 S3 _ _ _ (by omega) hn3 hM3 hK3 (by rw [hj1, jba, if_neg (fun q => by rw [if_pos q] at c_37; exact absurd c_37 (by decide))]) (by rw [hj2, jba, if_neg (fun q => by rw [if_pos q] at c_37; exact absurd c_37 (by decide))]) (by rw [hz3, mjb, if_neg (fun q => by rw [if_pos q] at c_37; exact absurd c_37 (by decide))]) hw (lv_sub hl [1, 2, 3, 0] rfl)
          · have hb3 : (S3.m x).wit.testBit w = true := by
              by_cases h : (S3.m x).wit.testBit w = true
              · exact h
              · rw [if_neg h] at c_37; exact absurd rfl c_37
            have hne3 : w ≠ x := fun q => by rw [q, (hK3.m hx3).nw] at hb3; exact absurd hb3 (by decide)
            refine lv_aload_n C.x C.b dX4_auditAll_40 rfl (lv_at hl 0 rfl) ?_
            refine lv_iload_n C.x C.b dX4_auditAll_41 rfl (lv_at hl 3 rfl) ?_
            refine lv_iload_n C.x C.b dX4_auditAll_42 rfl (lv_at hl 2 rfl) ?_
            refine z_Vv (As := [.int (nI w), .int (nI x)]) (rest := []) C hw hl (m_X4_judged hO _ hB hM3 hK3 hx3 hx6 hw3 hne3) ivX4_134 hB.lt (hB.at _ _) rfl rfl ⟨(Nat.le_of_ble_eq_true rfl), (Nat.le_of_ble_eq_true rfl)⟩ (Nat.le_of_ble_eq_true rfl) ⟨Nat.zero_le _, Nat.zero_le _⟩ dX4_auditAll_43 (fun H locs hw => ?_)
            obtain ⟨z_3, ez_3⟩ : ∃ q_9, q_9 = mjz z3 S3 w x := ⟨_, rfl⟩
            have hw : zS G N Λ z_3 sS H locs := by rw [ez_3]; exact hw
            refine lv_istore (lv' := [(4, .int (nI (jdg S3 w x).1)), (0, .ref (G.h + 272)), (1, .int (nI k3)), (2, .int (nI x)), (3, .int (nI w))]) C.x C.b dX4_auditAll_46 hl (by decide) rfl (fun ls hl => ?_)
            refine lv_iload_n C.x C.b dX4_auditAll_48 rfl (lv_at hl 2 rfl) ?_
            refine lv_iload C.x C.b dX4_auditAll_49 (lv_at hl 0 rfl) ?_
            refine lv_aload_n C.x C.b dX4_auditAll_51 rfl (lv_at hl 1 rfl) ?_
            refine lv_iload_n C.x C.b dX4_auditAll_52 rfl (lv_at hl 3 rfl) ?_
            refine lv_sipush (v := 427) C.x C.b dX4_auditAll_53 (by decide) ?_
            refine z_pc (pc2 := 56) rfl ?_
            refine lv_iload_n C.x C.b dX4_auditAll_56 rfl (lv_at hl 4 rfl) ?_
            refine lv_iadd C.x C.b dX4_auditAll_57 ?_
            refine z_topi (y := nI (427 + w)) (by rw [zlit 427, nI_add]) ?_
            refine z_Vv (As := [.int (nI x), .int (nI (427 + w))]) (rest := [.int (nI (jdg S3 w x).1), .int (nI k3)]) C hw hl (m_X4_get hO _ hB (o := 427 + w) (mat_lt2 hx6 (by omega))) ivX4_40 hB.lt (hB.at _ _) rfl rfl ⟨(Nat.le_of_ble_eq_true rfl), (Nat.le_of_ble_eq_true rfl)⟩ (Nat.le_of_ble_eq_true rfl) ⟨Nat.zero_le _, Nat.zero_le _⟩ dX4_auditAll_58 (fun H locs hw => ?_)
            have hMj := (mjz_S hM3 hK3 hx3 hw3 hne3).1.m (x := x) (by rw [aJ_n]; exact hx3)
            rw [aJ_m, ← ez_3] at hMj
            have hjz := ez_3
            have hvb := (hK3.m hx3).ver w
            have hjv := jdg_v S3 w x
            refine z_topi (y := nI ((S3.m x).ver w)) (hMj.2.2.2.2 w hw6) ?_
            refine lv_icmp_ne (tgt := 68) C.x C.b dX4_auditAll_61 (by decide) (fun c_61 => ?_) (fun c_61 => ?_)
            · refine lv_iconst (v := 1) C.x C.b dX4_auditAll_68 (by decide) ?_
              refine lv_iadd C.x C.b dX4_auditAll_69 ?_
              refine z_topi (y := nI (k3 + (if (jdg S3 w x).1 = (S3.m x).ver w then 0 else 1))) (by rw [if_neg (fun q => c_61 (by rw [q]))]; exact nI_1 _) ?_
              refine lv_istore_n (lv' := [(1, .int (nI (k3 + (if (jdg S3 w x).1 = (S3.m x).ver w then 0 else 1)))), (4, .int (nI (jdg S3 w x).1)), (0, .ref (G.h + 272)), (2, .int (nI x)), (3, .int (nI w))]) C.x C.b dX4_auditAll_70 rfl hl (by decide) rfl (fun ls hl => ?_)
              refine lv_aload_n C.x C.b dX4_auditAll_71 rfl (lv_at hl 2 rfl) ?_
              refine z_get C hw hB.lt (hB.at _ _) flX4_7 rfl dX4_auditAll_72 ?_
              refine lv_iload_n C.x C.b dX4_auditAll_75 rfl (lv_at hl 3 rfl) ?_
              refine lv_sipush (v := 427) C.x C.b dX4_auditAll_76 (by decide) ?_
              refine lv_iload_n C.x C.b dX4_auditAll_79 rfl (lv_at hl 4 rfl) ?_
              refine lv_iadd C.x C.b dX4_auditAll_80 ?_
              refine z_topi (y := nI (427 + w)) (by rw [zlit 427, nI_add]) ?_
              refine z_Sv (As := [.int (nI x), .int (nI (427 + w))]) (rest := [.ref (G.h + 273)]) C hw hl (m_X4_at hO _ (o := (427 + w))) ivX4_28 rfl rfl ⟨(Nat.le_of_ble_eq_true rfl), (Nat.le_of_ble_eq_true rfl)⟩ (Nat.le_of_ble_eq_true rfl) ⟨Nat.zero_le _, Nat.zero_le _⟩ dX4_auditAll_81 (fun H locs hw => ?_)
              refine lv_iload C.x C.b dX4_auditAll_84 (lv_at hl 1 rfl) ?_
              refine z_iast C hw hB.ltn hB.now (zvin (x := mat x (427 + w)) (mat_lt2 hx6 (by omega)) (by omega)) dX4_auditAll_86 (fun H locs hw => ?_)
              have e8 : (nI (mat x (427 + w))).toNatClampNeg = (mat x (427 + w)) := zcl (x := mat x (427 + w)) (n := 2921) (mat_lt2 hx6 (by omega)) (by omega)
              rw [e8] at hw
              obtain ⟨z_4, ez_4⟩ : ∃ q_9, q_9 = zi z_3 273 (mat x (427 + w)) (nI (jdg S3 w x).1) := ⟨_, rfl⟩
              have hw : zS G N Λ z_4 sS H locs := by rw [ez_4]; exact hw
              refine lv_iinc (v := nI w + 1) (lv' := [(3, .int (nI w + 1)), (1, .int (nI (k3 + (if (jdg S3 w x).1 = (S3.m x).ver w then 0 else 1)))), (4, .int (nI (jdg S3 w x).1)), (0, .ref (G.h + 272)), (2, .int (nI x))]) C.x C.b dX4_auditAll_87 hl (k := 4) rfl rfl (by decide) rfl (fun ls hl => ?_)
              have hl : lv_has ls 5 [(3, .int (nI (w + 1))), (1, .int (nI (k3 + (if (jdg S3 w x).1 = (S3.m x).ver w then 0 else 1)))), (4, .int (nI (jdg S3 w x).1)), (0, .ref (G.h + 272)), (2, .int (nI x))] := by
                have e9 : nI w + 1 = nI (w + 1) := nI_1 w
                rw [← e9]; exact hl
              refine lv_goto (tgt := 23) C.x C.b dX4_auditAll_90 (by decide) ?_
              exact ih2 (w + 1) (k3 + (if (jdg S3 w x).1 = (S3.m x).ver w then 0 else 1)) (maz z3 S3 w x) (aAud S3 w x) _ _ _ (by omega) (by rw [aAud_n]; exact hn3) ((maz_S hM3 hK3 hx3 hw3 hne3).1) (hK3.aud hx3 hw3 hne3) (by rw [hj1, jba, if_pos hb3]) (by rw [hj2, jba, if_pos hb3]; show k3 + (_ + _) = _; omega) (by rw [hz3, mjb, if_pos hb3]) (by rw [ez_4, hjz] at hw; exact hw) (lv_sub hl [3, 1, 4, 0] rfl)
            · refine lv_iconst (v := 0) C.x C.b dX4_auditAll_64 (by decide) ?_
              refine lv_goto (tgt := 69) C.x C.b dX4_auditAll_65 (by decide) ?_
              refine lv_iadd C.x C.b dX4_auditAll_69 ?_
              refine z_topi (y := nI (k3 + (if (jdg S3 w x).1 = (S3.m x).ver w then 0 else 1))) (by rw [if_pos ((nI_eq (by omega) (by omega)).mp c_61)]; exact Int32.add_zero _) ?_
              refine lv_istore_n (lv' := [(1, .int (nI (k3 + (if (jdg S3 w x).1 = (S3.m x).ver w then 0 else 1)))), (4, .int (nI (jdg S3 w x).1)), (0, .ref (G.h + 272)), (2, .int (nI x)), (3, .int (nI w))]) C.x C.b dX4_auditAll_70 rfl hl (by decide) rfl (fun ls hl => ?_)
              refine lv_aload_n C.x C.b dX4_auditAll_71 rfl (lv_at hl 2 rfl) ?_
              refine z_get C hw hB.lt (hB.at _ _) flX4_7 rfl dX4_auditAll_72 ?_
              refine lv_iload_n C.x C.b dX4_auditAll_75 rfl (lv_at hl 3 rfl) ?_
              refine lv_sipush (v := 427) C.x C.b dX4_auditAll_76 (by decide) ?_
              refine lv_iload_n C.x C.b dX4_auditAll_79 rfl (lv_at hl 4 rfl) ?_
              refine lv_iadd C.x C.b dX4_auditAll_80 ?_
              refine z_topi (y := nI (427 + w)) (by rw [zlit 427, nI_add]) ?_
              refine z_Sv (As := [.int (nI x), .int (nI (427 + w))]) (rest := [.ref (G.h + 273)]) C hw hl (m_X4_at hO _ (o := (427 + w))) ivX4_28 rfl rfl ⟨(Nat.le_of_ble_eq_true rfl), (Nat.le_of_ble_eq_true rfl)⟩ (Nat.le_of_ble_eq_true rfl) ⟨Nat.zero_le _, Nat.zero_le _⟩ dX4_auditAll_81 (fun H locs hw => ?_)
              refine lv_iload C.x C.b dX4_auditAll_84 (lv_at hl 1 rfl) ?_
              refine z_iast C hw hB.ltn hB.now (zvin (x := mat x (427 + w)) (mat_lt2 hx6 (by omega)) (by omega)) dX4_auditAll_86 (fun H locs hw => ?_)
              have e8 : (nI (mat x (427 + w))).toNatClampNeg = (mat x (427 + w)) := zcl (x := mat x (427 + w)) (n := 2921) (mat_lt2 hx6 (by omega)) (by omega)
              rw [e8] at hw
              obtain ⟨z_5, ez_5⟩ : ∃ q_9, q_9 = zi z_3 273 (mat x (427 + w)) (nI (jdg S3 w x).1) := ⟨_, rfl⟩
              have hw : zS G N Λ z_5 sS H locs := by rw [ez_5]; exact hw
              refine lv_iinc (v := nI w + 1) (lv' := [(3, .int (nI w + 1)), (1, .int (nI (k3 + (if (jdg S3 w x).1 = (S3.m x).ver w then 0 else 1)))), (4, .int (nI (jdg S3 w x).1)), (0, .ref (G.h + 272)), (2, .int (nI x))]) C.x C.b dX4_auditAll_87 hl (k := 4) rfl rfl (by decide) rfl (fun ls hl => ?_)
              have hl : lv_has ls 5 [(3, .int (nI (w + 1))), (1, .int (nI (k3 + (if (jdg S3 w x).1 = (S3.m x).ver w then 0 else 1)))), (4, .int (nI (jdg S3 w x).1)), (0, .ref (G.h + 272)), (2, .int (nI x))] := by
                have e9 : nI w + 1 = nI (w + 1) := nI_1 w
                rw [← e9]; exact hl
              refine lv_goto (tgt := 23) C.x C.b dX4_auditAll_90 (by decide) ?_
              exact ih2 (w + 1) (k3 + (if (jdg S3 w x).1 = (S3.m x).ver w then 0 else 1)) (maz z3 S3 w x) (aAud S3 w x) _ _ _ (by omega) (by rw [aAud_n]; exact hn3) ((maz_S hM3 hK3 hx3 hw3 hne3).1) (hK3.aud hx3 hw3 hne3) (by rw [hj1, jba, if_pos hb3]) (by rw [hj2, jba, if_pos hb3]; show k3 + (_ + _) = _; omega) (by rw [hz3, mjb, if_pos hb3]) (by rw [ez_5, hjz] at hw; exact hw) (lv_sub hl [3, 1, 4, 0] rfl)
      exact loop2 S.n 0 k zz SS _ _ _ (by omega) hSn hMM hKK (by rw [hSn]) (by rw [hSn]) (by rw [hSn]) hw (lv_sub hl [1, 2, 3, 0] rfl)
  exact loop S.n 0 0 z_2 S _ _ _ (by omega) rfl hM2 hS (by omega) rfl hw (lv_sub hl [2, 1, 0] rfl)

set_option maxRecDepth 100000 in
set_option maxHeartbeats 4000000 in
theorem m_X4_verdictMask {G : zG} {N : Nat} {Λ : zLay} {l : Launch} (hO : zOK G l) (z : zM) (hB : zMo G N Λ) {S : aS} {c : Nat} {Lf : Nat → aS} (hI : mI z S c Lf) (hS : aOK S) {v : Nat} (hv2 : v ≤ 2) : zMet G N Λ l yX4_verdictMask cX4_verdictMask 5 (some .int) 3 [.ref (G.h + 272), .int (nI v)] z (some (.int (vmk S v S.n 0 0))) (zi z 272 3 0) := by
  refine zMet_of hO (by decide) (Nat.le_of_ble_eq_true rfl) ?_
  intro pP eE sS mM bB tT cC ls C hw hl
  have hl : lv_has ls 5 [(0, .ref (G.h + 272)), (1, .int (nI v))] := hl
  have hM := hI.s
  have hn6 := hS.n6
  have hc4 := hI.c4
  refine lv_aload_n C.x C.b dX4_verdictMask_0 rfl (lv_at hl 0 rfl) ?_
  refine lv_iload_n C.x C.b dX4_verdictMask_1 rfl (lv_at hl 1 rfl) ?_
  refine lv_iconst (v := 0) C.x C.b dX4_verdictMask_2 (by decide) ?_
  refine lv_iconst (v := 2) C.x C.b dX4_verdictMask_3 (by decide) ?_
  refine z_Sv (As := [.int (nI v), .int 0, .int 2]) (rest := [.ref (G.h + 272)]) C hw hl (m_X4_wy hO _ ((isR_w (a := 0) (b := 2) (by omega) (by omega)).mpr ⟨v, by omega, by omega, rfl⟩)) ivX4_24 rfl rfl ⟨(Nat.le_of_ble_eq_true rfl), (Nat.le_of_ble_eq_true rfl)⟩ (Nat.le_of_ble_eq_true rfl) ⟨Nat.zero_le _, Nat.zero_le _⟩ dX4_verdictMask_4 (fun H locs hw => ?_)
  refine lv_if_eq (tgt := 14) C.x C.b dX4_verdictMask_7 (by decide) (fun c_7 => absurd c_7 (by decide)) (fun c_7 => ?_)
  refine lv_iconst (v := 0) C.x C.b dX4_verdictMask_10 (by decide) ?_
  refine lv_goto (tgt := 15) C.x C.b dX4_verdictMask_11 (by decide) ?_
  refine z_Vv (As := [.int 0]) (rest := []) C hw hl (m_X4_ref0 hO _ hB) ivX4_35 hB.lt (hB.at _ _) rfl rfl ⟨(Nat.le_of_ble_eq_true rfl), (Nat.le_of_ble_eq_true rfl)⟩ (Nat.le_of_ble_eq_true rfl) ⟨Nat.zero_le _, Nat.zero_le _⟩ dX4_verdictMask_15 (fun H locs hw => ?_)
  obtain ⟨z_1, ez_1⟩ : ∃ q_9, q_9 = zi z 272 3 0 := ⟨_, rfl⟩
  have hw : zS G N Λ z_1 sS H locs := by rw [ez_1]; exact hw
  have hI1 : mI z_1 S c Lf := by rw [ez_1]; exact hI.ref _
  have hM1 := hI1.s
  refine lv_if_eq (tgt := 23) C.x C.b dX4_verdictMask_18 (by decide) (fun c_18 => ?_) (fun c_18 => absurd (rfl) c_18)
  refine lv_iconst (v := 0) C.x C.b dX4_verdictMask_23 (by decide) ?_
  refine lv_istore_n (lv' := [(2, .int 0), (0, .ref (G.h + 272)), (1, .int (nI v))]) C.x C.b dX4_verdictMask_24 rfl hl (by decide) rfl (fun ls hl => ?_)
  refine lv_iconst (v := 0) C.x C.b dX4_verdictMask_25 (by decide) ?_
  refine lv_istore_n (lv' := [(3, .int 0), (2, .int 0), (0, .ref (G.h + 272)), (1, .int (nI v))]) C.x C.b dX4_verdictMask_26 rfl hl (by decide) rfl (fun ls hl => ?_)
  have loop : ∀ (d : Nat) (x : Nat) (mm : Int32) (H : Heap) (locs : List Loc) (ls : Array Slot) (hxd : x + d = S.n) (hr : vmk S v S.n 0 0 = vmk S v d x mm), zS G N Λ z_1 sS H locs → lv_has ls 5 [(0, .ref (G.h + 272)), (1, .int (nI v)), (2, .int mm), (3, .int (nI x))] → W pP l eE (zR 3) sS mM ([.ref (G.h + 272), .int (nI v)] : List Value).toArray bB tT cC H locs 0 0 (MQ bB (zQc G N Λ (some (.int (vmk S v S.n 0 0))) (zi z 272 3 0)) ([.ref (G.h + 272), .int (nI v)] : List Value).toArray sS 0 0 (zA G)) (F0 mM 27 ls []) := by
    intro d
    induction d with
    | zero =>
      intro x mm H locs ls hxd hr hw hl
      refine lv_iload_n C.x C.b dX4_verdictMask_27 rfl (lv_at hl 3 rfl) ?_
      refine lv_aload_n C.x C.b dX4_verdictMask_28 rfl (lv_at hl 0 rfl) ?_
      refine z_Vv (As := []) (rest := [.int (nI x)]) C hw hl (m_X4_many hO _ hB hM1.n) ivX4_66 hB.lt (hB.at _ _) rfl rfl ⟨(Nat.le_of_ble_eq_true rfl), (Nat.le_of_ble_eq_true rfl)⟩ (Nat.le_of_ble_eq_true rfl) ⟨Nat.zero_le _, Nat.zero_le _⟩ dX4_verdictMask_29 (fun H locs hw => ?_)
      refine lv_icmp_ge (tgt := 94) C.x C.b dX4_verdictMask_32 (by decide) (fun c_32 => ?_) (fun c_32 => absurd (zle (by omega) (by omega)) c_32)
      refine lv_iload_n C.x C.b dX4_verdictMask_94 rfl (lv_at hl 2 rfl) ?_
      exact z_iret C hw dX4_verdictMask_95 (by rw [hr]; rfl) (by rw [ez_1])
    | succ d ih =>
      intro x mm H locs ls hxd hr hw hl
      have hx : x < S.n := by omega
      have hx6 : x < 6 := by omega
      have hmx := hM1.m hx
      have hox := hS.m hx
      refine lv_iload_n C.x C.b dX4_verdictMask_27 rfl (lv_at hl 3 rfl) ?_
      refine lv_aload_n C.x C.b dX4_verdictMask_28 rfl (lv_at hl 0 rfl) ?_
      refine z_Vv (As := []) (rest := [.int (nI x)]) C hw hl (m_X4_many hO _ hB hM1.n) ivX4_66 hB.lt (hB.at _ _) rfl rfl ⟨(Nat.le_of_ble_eq_true rfl), (Nat.le_of_ble_eq_true rfl)⟩ (Nat.le_of_ble_eq_true rfl) ⟨Nat.zero_le _, Nat.zero_le _⟩ dX4_verdictMask_29 (fun H locs hw => ?_)
      refine lv_icmp_ge (tgt := 94) C.x C.b dX4_verdictMask_32 (by decide) (fun c_32 => absurd c_32 (znle (by omega) (by omega))) (fun c_32 => ?_)
      refine lv_iconst (v := 0) C.x C.b dX4_verdictMask_35 (by decide) ?_
      refine lv_istore (lv' := [(4, .int 0), (0, .ref (G.h + 272)), (1, .int (nI v)), (2, .int mm), (3, .int (nI x))]) C.x C.b dX4_verdictMask_36 hl (by decide) rfl (fun ls hl => ?_)
      have loop2 : ∀ (e2 : Nat) (w : Nat) (m2 : Int32) (H : Heap) (locs : List Loc) (ls : Array Slot) (hwd : w + e2 = S.n) (hb : (if swS S x v S.n 0 = 0 then mm else mm ||| nI (2 ^ x)) = if swS S x v e2 w = 0 then m2 else m2 ||| nI (2 ^ x)), zS G N Λ z_1 sS H locs → lv_has ls 5 [(0, .ref (G.h + 272)), (1, .int (nI v)), (2, .int m2), (3, .int (nI x)), (4, .int (nI w))] → W pP l eE (zR 3) sS mM ([.ref (G.h + 272), .int (nI v)] : List Value).toArray bB tT cC H locs 0 0 (MQ bB (zQc G N Λ (some (.int (vmk S v S.n 0 0))) (zi z 272 3 0)) ([.ref (G.h + 272), .int (nI v)] : List Value).toArray sS 0 0 (zA G)) (F0 mM 38 ls []) := by
        intro e2
        induction e2 with
        | zero =>
          intro w m2 H locs ls hwd hb hw hl
          refine lv_iload C.x C.b dX4_verdictMask_38 (lv_at hl 4 rfl) ?_
          refine lv_aload_n C.x C.b dX4_verdictMask_40 rfl (lv_at hl 0 rfl) ?_
          refine z_Vv (As := []) (rest := [.int (nI w)]) C hw hl (m_X4_many hO _ hB hM1.n) ivX4_66 hB.lt (hB.at _ _) rfl rfl ⟨(Nat.le_of_ble_eq_true rfl), (Nat.le_of_ble_eq_true rfl)⟩ (Nat.le_of_ble_eq_true rfl) ⟨Nat.zero_le _, Nat.zero_le _⟩ dX4_verdictMask_41 (fun H locs hw => ?_)
          refine lv_icmp_ge (tgt := 88) C.x C.b dX4_verdictMask_44 (by decide) (fun c_44 => ?_) (fun c_44 => absurd (zle (by omega) (by omega)) c_44)
          refine lv_iinc (v := nI x + 1) (lv' := [(3, .int (nI x + 1)), (0, .ref (G.h + 272)), (1, .int (nI v)), (2, .int m2), (4, .int (nI w))]) C.x C.b dX4_verdictMask_88 hl (k := 3) rfl rfl (by decide) rfl (fun ls hl => ?_)
          have hl : lv_has ls 5 [(3, .int (nI (x + 1))), (0, .ref (G.h + 272)), (1, .int (nI v)), (2, .int m2), (4, .int (nI w))] := by
            have e9 : nI x + 1 = nI (x + 1) := nI_1 x
            rw [← e9]; exact hl
          refine lv_goto (tgt := 27) C.x C.b dX4_verdictMask_91 (by decide) ?_
          exact ih (x + 1) m2 _ _ _ (by omega) (by
                have h9 : (if swS S x v S.n 0 = 0 then mm else mm ||| nI (2 ^ x)) = m2 := hb
                rw [hr, vmk, ← h9]
                split <;> rfl) hw (lv_sub hl [1, 2, 3, 0] rfl)
        | succ e2 ih2 =>
          intro w m2 H locs ls hwd hb hw hl
          have hw6 : w < 6 := by omega
          have hvw := hox.ver w
          refine lv_iload C.x C.b dX4_verdictMask_38 (lv_at hl 4 rfl) ?_
          refine lv_aload_n C.x C.b dX4_verdictMask_40 rfl (lv_at hl 0 rfl) ?_
          refine z_Vv (As := []) (rest := [.int (nI w)]) C hw hl (m_X4_many hO _ hB hM1.n) ivX4_66 hB.lt (hB.at _ _) rfl rfl ⟨(Nat.le_of_ble_eq_true rfl), (Nat.le_of_ble_eq_true rfl)⟩ (Nat.le_of_ble_eq_true rfl) ⟨Nat.zero_le _, Nat.zero_le _⟩ dX4_verdictMask_41 (fun H locs hw => ?_)
          refine lv_icmp_ge (tgt := 88) C.x C.b dX4_verdictMask_44 (by decide) (fun c_44 => absurd c_44 (znle (by omega) (by omega))) (fun c_44 => ?_)
          refine lv_iload_n C.x C.b dX4_verdictMask_47 rfl (lv_at hl 2 rfl) ?_
          refine lv_aload_n C.x C.b dX4_verdictMask_48 rfl (lv_at hl 0 rfl) ?_
          refine lv_iload C.x C.b dX4_verdictMask_49 (lv_at hl 4 rfl) ?_
          refine lv_iload_n C.x C.b dX4_verdictMask_51 rfl (lv_at hl 3 rfl) ?_
          refine z_Vv (As := [.int (nI w), .int (nI x)]) (rest := [.int m2]) C hw hl (m_X4_isWitness hO _ hB hM1 hS hx hx6 hw6) ivX4_131 hB.lt (hB.at _ _) rfl rfl ⟨(Nat.le_of_ble_eq_true rfl), (Nat.le_of_ble_eq_true rfl)⟩ (Nat.le_of_ble_eq_true rfl) ⟨Nat.zero_le _, Nat.zero_le _⟩ dX4_verdictMask_52 (fun H locs hw => ?_)
          refine lv_if_eq (tgt := 79) C.x C.b dX4_verdictMask_55 (by decide) (fun c_55 => ?_) (fun c_55 => ?_)
          · refine lv_iconst (v := 0) C.x C.b dX4_verdictMask_79 (by decide) ?_
            refine lv_ior C.x C.b dX4_verdictMask_80 ?_
            refine lv_istore_n (lv' := [(2, .int (m2 ||| 0)), (0, .ref (G.h + 272)), (1, .int (nI v)), (3, .int (nI x)), (4, .int (nI w))]) C.x C.b dX4_verdictMask_81 rfl hl (by decide) rfl (fun ls hl => ?_)
            refine lv_iinc (v := nI w + 1) (lv' := [(4, .int (nI w + 1)), (2, .int (m2 ||| 0)), (0, .ref (G.h + 272)), (1, .int (nI v)), (3, .int (nI x))]) C.x C.b dX4_verdictMask_82 hl (k := 4) rfl rfl (by decide) rfl (fun ls hl => ?_)
            have hl : lv_has ls 5 [(4, .int (nI (w + 1))), (2, .int (m2 ||| 0)), (0, .ref (G.h + 272)), (1, .int (nI v)), (3, .int (nI x))] := by
              have e9 : nI w + 1 = nI (w + 1) := nI_1 w
              rw [← e9]; exact hl
            refine lv_goto (tgt := 38) C.x C.b dX4_verdictMask_85 (by decide) ?_
            exact ih2 (w + 1) m2 _ _ _ (by omega) (by
                    have h9 : swS S x v (e2 + 1) w = swS S x v e2 (w + 1) := by rw [swS]; exact if_neg (fun q => by rw [if_pos q.1] at c_55; exact absurd c_55 (by decide))
                    rw [hb, h9]) hw (by rw [Int32.or_zero] at hl; exact lv_sub hl [2, 3, 1, 4, 0] rfl)
          · have hbw : (S.m x).wit.testBit w = true := by
              by_cases h : (S.m x).wit.testBit w = true
              · exact h
              · rw [if_neg h] at c_55; exact absurd rfl c_55
            refine lv_aload_n C.x C.b dX4_verdictMask_58 rfl (lv_at hl 0 rfl) ?_
            refine lv_iload_n C.x C.b dX4_verdictMask_59 rfl (lv_at hl 3 rfl) ?_
            refine lv_sipush (v := 427) C.x C.b dX4_verdictMask_60 (by decide) ?_
            refine lv_iload C.x C.b dX4_verdictMask_63 (lv_at hl 4 rfl) ?_
            refine lv_iadd C.x C.b dX4_verdictMask_65 ?_
            refine z_topi (y := nI (427 + w)) (by rw [zlit 427, nI_add]) ?_
            refine z_Vv (As := [.int (nI x), .int (nI (427 + w))]) (rest := [.int m2]) C hw hl (m_X4_get hO _ hB (o := 427 + w) (mat_lt2 hx6 (by omega))) ivX4_40 hB.lt (hB.at _ _) rfl rfl ⟨(Nat.le_of_ble_eq_true rfl), (Nat.le_of_ble_eq_true rfl)⟩ (Nat.le_of_ble_eq_true rfl) ⟨Nat.zero_le _, Nat.zero_le _⟩ dX4_verdictMask_66 (fun H locs hw => ?_)
            refine z_topi (y := nI ((S.m x).ver w)) (hmx.2.2.2.2 w hw6) ?_
            refine lv_iload_n C.x C.b dX4_verdictMask_69 rfl (lv_at hl 1 rfl) ?_
            refine lv_icmp_ne (tgt := 79) C.x C.b dX4_verdictMask_70 (by decide) (fun c_70 => ?_) (fun c_70 => ?_)
            · refine lv_iconst (v := 0) C.x C.b dX4_verdictMask_79 (by decide) ?_
              refine z_pc (pc2 := 80) rfl ?_
              refine lv_ior C.x C.b dX4_verdictMask_80 ?_
              refine lv_istore_n (lv' := [(2, .int (m2 ||| 0)), (0, .ref (G.h + 272)), (1, .int (nI v)), (3, .int (nI x)), (4, .int (nI w))]) C.x C.b dX4_verdictMask_81 rfl hl (by decide) rfl (fun ls hl => ?_)
              refine lv_iinc (v := nI w + 1) (lv' := [(4, .int (nI w + 1)), (2, .int (m2 ||| 0)), (0, .ref (G.h + 272)), (1, .int (nI v)), (3, .int (nI x))]) C.x C.b dX4_verdictMask_82 hl (k := 4) rfl rfl (by decide) rfl (fun ls hl => ?_)
              have hl : lv_has ls 5 [(4, .int (nI (w + 1))), (2, .int (m2 ||| 0)), (0, .ref (G.h + 272)), (1, .int (nI v)), (3, .int (nI x))] := by
                have e9 : nI w + 1 = nI (w + 1) := nI_1 w
                rw [← e9]; exact hl
              refine lv_goto (tgt := 38) C.x C.b dX4_verdictMask_85 (by decide) ?_
              exact ih2 (w + 1) m2 _ _ _ (by omega) (by
                      have h9 : swS S x v (e2 + 1) w = swS S x v e2 (w + 1) := by rw [swS]; exact if_neg (fun q => c_70 (by rw [q.2]))
                      rw [hb, h9]) hw (by rw [Int32.or_zero] at hl; exact lv_sub hl [2, 3, 1, 4, 0] rfl)
            · refine lv_iconst (v := 1) C.x C.b dX4_verdictMask_73 (by decide) ?_
              refine z_pc (pc2 := 74) rfl ?_
              refine lv_iload_n C.x C.b dX4_verdictMask_74 rfl (lv_at hl 3 rfl) ?_
              refine lv_ishl C.x C.b dX4_verdictMask_75 ?_
              refine z_topi (y := nI (2 ^ x)) (shl_dec x (by omega)) ?_
              refine lv_goto (tgt := 80) C.x C.b dX4_verdictMask_76 (by decide) ?_
              refine lv_ior C.x C.b dX4_verdictMask_80 ?_
              refine lv_istore_n (lv' := [(2, .int (m2 ||| (nI (2 ^ x)))), (0, .ref (G.h + 272)), (1, .int (nI v)), (3, .int (nI x)), (4, .int (nI w))]) C.x C.b dX4_verdictMask_81 rfl hl (by decide) rfl (fun ls hl => ?_)
              refine lv_iinc (v := nI w + 1) (lv' := [(4, .int (nI w + 1)), (2, .int (m2 ||| (nI (2 ^ x)))), (0, .ref (G.h + 272)), (1, .int (nI v)), (3, .int (nI x))]) C.x C.b dX4_verdictMask_82 hl (k := 4) rfl rfl (by decide) rfl (fun ls hl => ?_)
              have hl : lv_has ls 5 [(4, .int (nI (w + 1))), (2, .int (m2 ||| (nI (2 ^ x)))), (0, .ref (G.h + 272)), (1, .int (nI v)), (3, .int (nI x))] := by
                have e9 : nI w + 1 = nI (w + 1) := nI_1 w
                rw [← e9]; exact hl
              refine lv_goto (tgt := 38) C.x C.b dX4_verdictMask_85 (by decide) ?_
              exact ih2 (w + 1) (m2 ||| nI (2 ^ x)) _ _ _ (by omega) (by
                      have h9 : swS S x v (e2 + 1) w = 1 := by rw [swS]; exact if_pos ⟨hbw, (nI_eq (by omega) (by omega)).mp c_70⟩
                      rw [hb, h9, if_neg (by decide)]
                      split
                      · rfl
                      · rw [or_idem]) hw (lv_sub hl [2, 3, 1, 4, 0] rfl)
      exact loop2 S.n 0 mm _ _ _ (by omega) rfl hw (lv_sub hl [1, 2, 3, 4, 0] rfl)
  exact loop S.n 0 0 _ _ _ (by omega) rfl hw (lv_sub hl [2, 3, 1, 0] rfl)

set_option maxRecDepth 100000 in
set_option maxHeartbeats 4000000 in
theorem f_X4_verdictMask {G : zG} {N : Nat} {Λ : zLay} {l : Launch} (hO : zOK G l) (z : zM) (hB : zMo G N Λ) {S : aS} {c : Nat} {Lf : Nat → aS} (hI : mI z S c Lf) (hS : aOK S) {v : Int32} (hv : ¬ isM v 3) : zMet G N Λ l yX4_verdictMask cX4_verdictMask 5 (some .int) 3 [.ref (G.h + 272), .int v] z (some (.int 0)) (zi z 272 3 (nI 1)) := by
  refine zMet_of hO (by decide) (Nat.le_of_ble_eq_true rfl) ?_
  intro pP eE sS mM bB tT cC ls C hw hl
  have hl : lv_has ls 5 [(0, .ref (G.h + 272)), (1, .int v)] := hl
  have hM := hI.s
  have hn6 := hS.n6
  have hc4 := hI.c4
  refine lv_aload_n C.x C.b dX4_verdictMask_0 rfl (lv_at hl 0 rfl) ?_
  refine lv_iload_n C.x C.b dX4_verdictMask_1 rfl (lv_at hl 1 rfl) ?_
  refine lv_iconst (v := 0) C.x C.b dX4_verdictMask_2 (by decide) ?_
  refine lv_iconst (v := 2) C.x C.b dX4_verdictMask_3 (by decide) ?_
  refine z_Sv (As := [.int v, .int 0, .int 2]) (rest := [.ref (G.h + 272)]) C hw hl (m_X4_wn hO _ (fun q => hv (by obtain ⟨n, _, h2, h3⟩ := (isR_w (a := 0) (b := 2) (by omega) (by omega)).mp q; exact ⟨n, by omega, h3⟩))) ivX4_24 rfl rfl ⟨(Nat.le_of_ble_eq_true rfl), (Nat.le_of_ble_eq_true rfl)⟩ (Nat.le_of_ble_eq_true rfl) ⟨Nat.zero_le _, Nat.zero_le _⟩ dX4_verdictMask_4 (fun H locs hw => ?_)
  refine lv_if_eq (tgt := 14) C.x C.b dX4_verdictMask_7 (by decide) (fun c_7 => ?_) (fun c_7 => absurd (rfl) c_7)
  refine lv_iconst (v := 1) C.x C.b dX4_verdictMask_14 (by decide) ?_
  refine z_Vv (As := [.int 1]) (rest := []) C hw hl (m_X4_ref1 hO _ hB (w := 1) (by omega) (by omega)) ivX4_35 hB.lt (hB.at _ _) rfl rfl ⟨(Nat.le_of_ble_eq_true rfl), (Nat.le_of_ble_eq_true rfl)⟩ (Nat.le_of_ble_eq_true rfl) ⟨Nat.zero_le _, Nat.zero_le _⟩ dX4_verdictMask_15 (fun H locs hw => ?_)
  obtain ⟨z_1, ez_1⟩ : ∃ q_9, q_9 = zi z 272 3 (nI 1) := ⟨_, rfl⟩
  have hw : zS G N Λ z_1 sS H locs := by rw [ez_1]; exact hw
  refine lv_if_eq (tgt := 23) C.x C.b dX4_verdictMask_18 (by decide) (fun c_18 => absurd c_18 (by decide)) (fun c_18 => ?_)
  refine lv_iconst (v := 0) C.x C.b dX4_verdictMask_21 (by decide) ?_
  exact z_iret C hw dX4_verdictMask_22 (rfl) (by rw [ez_1])

set_option maxRecDepth 100000 in
set_option maxHeartbeats 4000000 in
theorem m_X4_run {G : zG} {N : Nat} {Λ : zLay} {l : Launch} (hO : zOK G l) (z : zM) (hB : zMo G N Λ) {S : aS} {c : Nat} {Lf : Nat → aS} (hI : mI z S c Lf) (hS : aOK S) {most : Nat} (hm1 : 1 ≤ most) (hm2 : most ≤ 100) {zf : Nat → zM} {Sq : Nat → aS} (h0z : zf 0 = msv (zi z 272 3 0) c) (h0S : Sq 0 = S) (hQ : ∀ i, Sq (i + 1) = if aCan (Sq i) = true then aDel (Sq i) else Sq i) (hIf : ∀ i, mS (zf i) (Sq i) ∧ aOK (Sq i)) (hdf : ∀ i, aCan (Sq i) = true → zMet G N Λ l yX4_delivers cX4_delivers 7 none 5 [.ref (G.h + 272)] (zf i) none (zf (i + 1))) : zMet G N Λ l yX4_run cX4_run 3 (some .int) 6 [.ref (G.h + 272), .int (nI most)] z (some (.int (nI (aRun most S).2))) (zf (aRun most S).2) := by
  refine zMet_of hO (by decide) (Nat.le_of_ble_eq_true rfl) ?_
  intro pP eE sS mM bB tT cC ls C hw hl
  have hl : lv_has ls 3 [(0, .ref (G.h + 272)), (1, .int (nI most))] := hl
  have hM := hI.s
  have hn6 := hS.n6
  have hc4 := hI.c4
  refine lv_aload_n C.x C.b dX4_run_0 rfl (lv_at hl 0 rfl) ?_
  refine lv_iload_n C.x C.b dX4_run_1 rfl (lv_at hl 1 rfl) ?_
  refine lv_iconst (v := 1) C.x C.b dX4_run_2 (by decide) ?_
  refine lv_bipush (v := 100) C.x C.b dX4_run_3 (by decide) ?_
  refine z_Sv (As := [.int (nI most), .int 1, .int 100]) (rest := [.ref (G.h + 272)]) C hw hl (m_X4_wy hO _ ⟨zle (a := 1) (by omega) hm1, zle (b := 100) (by omega) hm2⟩) ivX4_24 rfl rfl ⟨(Nat.le_of_ble_eq_true rfl), (Nat.le_of_ble_eq_true rfl)⟩ (Nat.le_of_ble_eq_true rfl) ⟨Nat.zero_le _, Nat.zero_le _⟩ dX4_run_5 (fun H locs hw => ?_)
  refine lv_if_eq (tgt := 15) C.x C.b dX4_run_8 (by decide) (fun c_8 => absurd c_8 (by decide)) (fun c_8 => ?_)
  refine lv_iconst (v := 0) C.x C.b dX4_run_11 (by decide) ?_
  refine lv_goto (tgt := 16) C.x C.b dX4_run_12 (by decide) ?_
  refine z_Vv (As := [.int 0]) (rest := []) C hw hl (m_X4_ref0 hO _ hB) ivX4_35 hB.lt (hB.at _ _) rfl rfl ⟨(Nat.le_of_ble_eq_true rfl), (Nat.le_of_ble_eq_true rfl)⟩ (Nat.le_of_ble_eq_true rfl) ⟨Nat.zero_le _, Nat.zero_le _⟩ dX4_run_16 (fun H locs hw => ?_)
  obtain ⟨z_1, ez_1⟩ : ∃ q_9, q_9 = zi z 272 3 0 := ⟨_, rfl⟩
  have hw : zS G N Λ z_1 sS H locs := by rw [ez_1]; exact hw
  have hI1 : mI z_1 S c Lf := by rw [ez_1]; exact hI.ref _
  have hM1 := hI1.s
  refine lv_if_eq (tgt := 24) C.x C.b dX4_run_19 (by decide) (fun c_19 => ?_) (fun c_19 => absurd (rfl) c_19)
  refine lv_aload_n C.x C.b dX4_run_24 rfl (lv_at hl 0 rfl) ?_
  refine z_V0 (As := []) (rest := []) C hw hl (m_X4_saves hO _ hB hI1.c hI1.c4) ivX4_101 hB.lt (hB.at _ _) rfl rfl ⟨(Nat.le_of_ble_eq_true rfl), (Nat.le_of_ble_eq_true rfl)⟩ (Nat.le_of_ble_eq_true rfl) ⟨Nat.zero_le _, Nat.zero_le _⟩ dX4_run_25 (fun H locs hw => ?_)
  obtain ⟨z_2, ez_2⟩ : ∃ q_9, q_9 = msv z_1 c := ⟨_, rfl⟩
  have hw : zS G N Λ z_2 sS H locs := by rw [ez_2]; exact hw
  have hI2 : mI z_2 S (svc c) (svf c Lf S) := by rw [ez_2]; exact hI1.sv
  have hM2 := hI2.s
  refine lv_iconst (v := 0) C.x C.b dX4_run_28 (by decide) ?_
  refine lv_istore_n (lv' := [(2, .int 0), (0, .ref (G.h + 272)), (1, .int (nI most))]) C.x C.b dX4_run_29 rfl hl (by decide) rfl (fun ls hl => ?_)
  have loop : ∀ (d : Nat) (i : Nat) (H : Heap) (locs : List Loc) (ls : Array Slot) (hi : i + d = most) (hr : (aRun most S).2 = i + (aRun d (Sq i)).2), zS G N Λ (zf i) sS H locs → lv_has ls 3 [(0, .ref (G.h + 272)), (1, .int (nI most)), (2, .int (nI i))] → W pP l eE (zR 6) sS mM ([.ref (G.h + 272), .int (nI most)] : List Value).toArray bB tT cC H locs 0 0 (MQ bB (zQc G N Λ (some (.int (nI (aRun most S).2))) (zf (aRun most S).2)) ([.ref (G.h + 272), .int (nI most)] : List Value).toArray sS 0 0 (zA G)) (F0 mM 30 ls []) := by
    intro d
    induction d with
    | zero =>
      intro i H locs ls hi hr hw hl
      refine lv_iload_n C.x C.b dX4_run_30 rfl (lv_at hl 2 rfl) ?_
      refine lv_iload_n C.x C.b dX4_run_31 rfl (lv_at hl 1 rfl) ?_
      refine lv_icmp_ge (tgt := 63) C.x C.b dX4_run_32 (by decide) (fun c_32 => ?_) (fun c_32 => absurd (zle (by omega) (by omega)) c_32)
      refine lv_iload_n C.x C.b dX4_run_63 rfl (lv_at hl 2 rfl) ?_
      exact z_iret C hw dX4_run_64 (by rw [hr]; rfl) (by rw [hr]; rfl)
    | succ d ih =>
      intro i H locs ls hi hr hw hl
      have hMi := (hIf i).1
      have hKi := (hIf i).2
      have hq40i := hKi.q.1
      refine lv_iload_n C.x C.b dX4_run_30 rfl (lv_at hl 2 rfl) ?_
      refine lv_iload_n C.x C.b dX4_run_31 rfl (lv_at hl 1 rfl) ?_
      refine lv_icmp_ge (tgt := 63) C.x C.b dX4_run_32 (by decide) (fun c_32 => absurd c_32 (znle (by omega) (by omega))) (fun c_32 => ?_)
      refine lv_aload_n C.x C.b dX4_run_35 rfl (lv_at hl 0 rfl) ?_
      refine z_get C hw hB.lt (hB.at _ _) flX4_7 rfl dX4_run_36 ?_
      refine lv_sipush (v := 2599) C.x C.b dX4_run_39 (by decide) ?_
      refine z_iald C hw hB.ltn hB.now (zvin (x := 2599) (by omega) (by omega)) dX4_run_42 ?_
      refine z_topi (y := (zf i).1 273 2599) (congrArg ((zf i).1 273) (zcl (x := 2599) (n := 2921) (by omega) (by omega))) ?_
      refine z_topi (y := nI (Sq i).q.1) (hMi.q.2.1) ?_
      refine lv_if_le (tgt := 63) C.x C.b dX4_run_43 (by decide) (fun c_43 => ?_) (fun c_43 => ?_)
      · refine lv_iload_n C.x C.b dX4_run_63 rfl (lv_at hl 2 rfl) ?_
        exact z_iret C hw dX4_run_64 (by rw [hr, aRun, if_neg (fun q => absurd c_43 (znle (a := 0) (by omega) (aCan_iff.mp q).1))]; rfl) (by rw [hr, aRun, if_neg (fun q => absurd c_43 (znle (a := 0) (by omega) (aCan_iff.mp q).1))]; rfl)
      · have h0q : 0 < (Sq i).q.1 := (nI_ltI (a := 0) (by omega) (by omega)).mp (Int32.not_le.mp c_43)
        refine lv_aload_n C.x C.b dX4_run_46 rfl (lv_at hl 0 rfl) ?_
        refine z_Vv (As := []) (rest := []) C hw hl (m_X4_isBarred hO _ hB hMi hKi) ivX4_107 hB.lt (hB.at _ _) rfl rfl ⟨(Nat.le_of_ble_eq_true rfl), (Nat.le_of_ble_eq_true rfl)⟩ (Nat.le_of_ble_eq_true rfl) ⟨Nat.zero_le _, Nat.zero_le _⟩ dX4_run_47 (fun H locs hw => ?_)
        refine lv_if_ne (tgt := 63) C.x C.b dX4_run_50 (by decide) (fun c_50 => ?_) (fun c_50 => ?_)
        · have hbr : bar (Sq i) = true := by
            by_cases h : bar (Sq i) = true
            · exact h
            · rw [if_neg h] at c_50; exact absurd rfl c_50
          refine lv_iload_n C.x C.b dX4_run_63 rfl (lv_at hl 2 rfl) ?_
          exact z_iret C hw dX4_run_64 (by rw [hr, aRun, if_neg (fun q => (can_bar h0q).mp q hbr)]; rfl) (by rw [hr, aRun, if_neg (fun q => (can_bar h0q).mp q hbr)]; rfl)
        · have hcn : aCan (Sq i) = true := (can_bar h0q).mpr (fun q => by rw [if_pos q] at c_50; exact absurd c_50 (by decide))
          refine lv_aload_n C.x C.b dX4_run_53 rfl (lv_at hl 0 rfl) ?_
          refine z_V0 (As := []) (rest := []) C hw hl (hdf i hcn) ivX4_111 hB.lt (hB.at _ _) rfl rfl ⟨(Nat.le_of_ble_eq_true rfl), (Nat.le_of_ble_eq_true rfl)⟩ (Nat.le_of_ble_eq_true rfl) ⟨Nat.zero_le _, Nat.zero_le _⟩ dX4_run_54 (fun H locs hw => ?_)
          refine lv_iinc (v := nI i + 1) (lv' := [(2, .int (nI i + 1)), (0, .ref (G.h + 272)), (1, .int (nI most))]) C.x C.b dX4_run_57 hl (k := 2) rfl rfl (by decide) rfl (fun ls hl => ?_)
          have hl : lv_has ls 3 [(2, .int (nI (i + 1))), (0, .ref (G.h + 272)), (1, .int (nI most))] := by
            have e9 : nI i + 1 = nI (i + 1) := nI_1 i
            rw [← e9]; exact hl
          refine lv_goto (tgt := 30) C.x C.b dX4_run_60 (by decide) ?_
          exact ih (i + 1) _ _ _ (by omega) (by rw [hr, aRun, if_pos hcn, hQ, if_pos hcn]; show i + (_ + 1) = _; omega) hw (lv_sub hl [1, 2, 0] rfl)
  exact loop most 0 _ _ _ (by omega) (by rw [h0S]; omega) (by rw [h0z, ← ez_1, ← ez_2]; exact hw) (lv_sub hl [1, 2, 0] rfl)

set_option maxRecDepth 100000 in
set_option maxHeartbeats 4000000 in
theorem f_X4_run {G : zG} {N : Nat} {Λ : zLay} {l : Launch} (hO : zOK G l) (z : zM) (hB : zMo G N Λ) {S : aS} {c : Nat} {Lf : Nat → aS} (hI : mI z S c Lf) (hS : aOK S) {v : Int32} (hv : ¬ ∃ n, 1 ≤ n ∧ n ≤ 100 ∧ v = nI n) : zMet G N Λ l yX4_run cX4_run 3 (some .int) 6 [.ref (G.h + 272), .int v] z (some (.int 0)) (zi z 272 3 (nI 1)) := by
  refine zMet_of hO (by decide) (Nat.le_of_ble_eq_true rfl) ?_
  intro pP eE sS mM bB tT cC ls C hw hl
  have hl : lv_has ls 3 [(0, .ref (G.h + 272)), (1, .int v)] := hl
  have hM := hI.s
  have hn6 := hS.n6
  have hc4 := hI.c4
  refine lv_aload_n C.x C.b dX4_run_0 rfl (lv_at hl 0 rfl) ?_
  refine lv_iload_n C.x C.b dX4_run_1 rfl (lv_at hl 1 rfl) ?_
  refine lv_iconst (v := 1) C.x C.b dX4_run_2 (by decide) ?_
  refine lv_bipush (v := 100) C.x C.b dX4_run_3 (by decide) ?_
  refine z_Sv (As := [.int v, .int 1, .int 100]) (rest := [.ref (G.h + 272)]) C hw hl (m_X4_wn hO _ (fun q => hv ((isR_w (a := 1) (b := 100) (by omega) (by omega)).mp q))) ivX4_24 rfl rfl ⟨(Nat.le_of_ble_eq_true rfl), (Nat.le_of_ble_eq_true rfl)⟩ (Nat.le_of_ble_eq_true rfl) ⟨Nat.zero_le _, Nat.zero_le _⟩ dX4_run_5 (fun H locs hw => ?_)
  refine lv_if_eq (tgt := 15) C.x C.b dX4_run_8 (by decide) (fun c_8 => ?_) (fun c_8 => absurd (rfl) c_8)
  refine lv_iconst (v := 1) C.x C.b dX4_run_15 (by decide) ?_
  refine z_Vv (As := [.int 1]) (rest := []) C hw hl (m_X4_ref1 hO _ hB (w := 1) (by omega) (by omega)) ivX4_35 hB.lt (hB.at _ _) rfl rfl ⟨(Nat.le_of_ble_eq_true rfl), (Nat.le_of_ble_eq_true rfl)⟩ (Nat.le_of_ble_eq_true rfl) ⟨Nat.zero_le _, Nat.zero_le _⟩ dX4_run_16 (fun H locs hw => ?_)
  obtain ⟨z_1, ez_1⟩ : ∃ q_9, q_9 = zi z 272 3 (nI 1) := ⟨_, rfl⟩
  have hw : zS G N Λ z_1 sS H locs := by rw [ez_1]; exact hw
  refine lv_if_eq (tgt := 24) C.x C.b dX4_run_19 (by decide) (fun c_19 => absurd c_19 (by decide)) (fun c_19 => ?_)
  refine lv_iconst (v := 0) C.x C.b dX4_run_22 (by decide) ?_
  exact z_iret C hw dX4_run_23 (rfl) (by rw [ez_1])
