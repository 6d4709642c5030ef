theorem pkd_k {a q v : Nat} (hq : q ≤ 6) (hv : v < 1000) : pk a q v / 100000 = a := by unfold pk; omega
theorem pkd_q {a q v : Nat} (hq : q ≤ 6) (hv : v < 1000) : pk a q v / 10000 % 10 = q := by unfold pk; omega
theorem pkd_v {a q v : Nat} (hv : v < 1000) : pk a q v % 10000 = v := by unfold pk; omega
theorem nc_sumM {h a q v : Nat} (hh : h < 2147483647) (ha : a ≤ 2) (hq : q ≤ 6) (hv : v < 1000) : lN h * 1000003 + 7 * (nI a).toInt64 + 31 * (nI q).toInt64 + 257 * (nI v).toInt64 = lN (h * 1000003 + 7 * a + 31 * q + 257 * v) := by
  rw [nI_l (by omega), nI_l (by omega), nI_l (by omega), zlitL 1000003, zlitL 7, zlitL 31, zlitL 257, lN_mul, lN_mul, lN_mul, lN_mul, lN_add, lN_add, lN_add]
def mlg (z : zM) (x k : Nat) (e : Int32) : zM := zi (zi z 273 (mat x (5 + k)) e) 273 (mat x 4) (nI (k + 1))
def mhd (z : zM) (x k : Nat) (m e c : Int32) : zM := zi (zi (zi (zi z 273 (mat x (46 + 3 * k)) m) 273 (mat x (46 + 3 * k) + 1) e) 273 (mat x (46 + 3 * k) + 2) c) 273 (mat x 45) (nI (k + 1))
/-- j places from lo on come from s places behind -/
def msh (z : zM) (lo s j : Nat) : zM := zr z 273 (fun i => if lo ≤ i ∧ i < lo + j then z.1 273 (i + s) else z.1 273 i)
theorem msh_0 (z : zM) (lo s : Nat) : msh z lo s 0 = z := by
  refine Prod.ext (funext fun a => ?_) rfl
  by_cases h : a = 273
  · subst h; rw [msh, zr_s]; funext i; rw [if_neg (by omega)]
  · rw [msh, zr_n _ _ h]
theorem msh_at (z : zM) (lo s j i : Nat) : (msh z lo s j).1 273 i = if lo ≤ i ∧ i < lo + j then z.1 273 (i + s) else z.1 273 i := by rw [msh, zr_s]
theorem msh_n (z : zM) {i : Nat} (lo s j : Nat) (h : i ≠ 273) : (msh z lo s j).1 i = z.1 i := zr_n _ _ h
theorem msh_mfr (z : zM) (lo s j : Nat) : mfr z (msh z lo s j) lo j := ⟨fun i hi => msh_n z lo s j hi, rfl, fun i hi => by rw [msh_at, if_neg (by omega)]⟩
theorem msh_step (z : zM) (lo s j : Nat) : zi (msh z lo s j) 273 (lo + j) ((msh z lo s j).1 273 (lo + j + s)) = msh z lo s (j + 1) := by
  refine Prod.ext (funext fun a => funext fun i => ?_) rfl
  have hv : (msh z lo s j).1 273 (lo + j + s) = z.1 273 (lo + j + s) := by rw [msh_at, if_neg (by omega)]
  rw [zi_at, hv]
  by_cases ha : a = 273
  · subst ha
    rw [msh_at, msh_at]
    by_cases hi : i = lo + j
    · subst hi; rw [if_pos ⟨rfl, rfl⟩, if_pos (by omega)]
    · rw [if_neg (fun q => hi q.2)]
      by_cases hq : lo ≤ i ∧ i < lo + j
      · rw [if_pos hq, if_pos (by omega)]
      · rw [if_neg hq, if_neg (by omega)]
  · rw [if_neg (fun q => ha q.1), msh_n _ _ _ _ ha, msh_n _ _ _ _ ha]
def mhf (z : zM) (x : Nat) (m e c : Int32) : zM := mhd (zi (msh z (mat x 46) 3 177) 273 (mat x 45) (nI 59)) x 59 m e c
def mHd (z : zM) (x k : Nat) (m e c : Int32) : zM := if k = 60 then mhf z x m e c else mhd z x k m e c
def mpt (z : zM) (p : Nat) (v0 v1 v2 v3 v4 : Int32) : zM := zi (zi (zi (zi (zi z 273 p v0) 273 (p + 1) v1) 273 (p + 2) v2) 273 (p + 3) v3) 273 (p + 4) v4
def msn (z : zM) (x n st li qk : Nat) (T : aT) : zM := zi (mpt (mlg (zi z 273 (mat x 2) 0) x T.1 (nI (pk 2 (gt x st n + 1) (outv st li)))) (2600 + 5 * qk) (nI (gt x st n)) (nI x) (nI (outv st li)) (nI T.1) (nI (CH (tpush T (row3 2 (gt x st n + 1) (outv st li))).2 (T.1 + 1)))) 273 2599 (nI (qk + 1))
def mtk1 (z : zM) (x st : Nat) (T : aT) (a q v : Nat) : zM := zi (mlg z x T.1 (nI (pk a q v))) 273 (mat x 0) (nI (nx st v q))
def mtk (z : zM) (x n st li qk : Nat) (T : aT) (a q v : Nat) : zM := if nx st v q % 3 = 0 then msn (mtk1 z x st T a q v) x n (nx st v q) li qk (tpush T (row3 a q v)) else mtk1 z x st T a q v
def mqp (z : zM) (q : Nat) : zM := msh (zi z 273 2599 (nI (q - 1))) 2600 5 (5 * (q - 1))
def mpn (z : zM) (x k : Nat) (v0 v1 v2 v3 v4 : Int32) : zM := if k < 40 then zi (mpt z (mat x (227 + 5 * k)) v0 v1 v2 v3 v4) 273 (mat x 226) (nI (k + 1)) else z
/-- the cells behind each -/
theorem mlg_mfr (z : zM) {x k : Nat} (hk : k < 40) (e : Int32) : mfr z (mlg z x k e) (mat x 4) 41 := ((zi_mfr _ _ _).mono (by unfold mat; omega) (by unfold mat; omega)).tr ((zi_mfr _ _ _).mono (by unfold mat; omega) (by unfold mat; omega))
theorem mlg_log {z : zM} {x : Nat} {T : aT} (h : mLog z x T) (hk : T.1 < 40) (a q v : Nat) : mLog (mlg z x T.1 (nI (pk a q v))) x (tpush T (row3 a q v)) := by
  refine ⟨hk, ?_, fun j hj => ?_⟩
  · unfold mlg
    rw [zi_at, if_pos ⟨rfl, rfl⟩]; rfl
  · have hj : j < T.1 + 1 := hj
    show _ = nI (pk (va_up T.2 T.1 (row3 a q v) j 0) (va_up T.2 T.1 (row3 a q v) j 1) (va_up T.2 T.1 (row3 a q v) j 2))
    unfold mlg
    rw [zi_at, if_neg (by unfold mat; omega), zi_at]
    by_cases hjk : j = T.1
    · subst hjk; rw [if_pos ⟨rfl, rfl⟩, va_up_self]; rfl
    · rw [if_neg (by unfold mat; omega), va_up_ne _ _ hjk]; exact h.2.2 j (by omega)
theorem mhd_mfr (z : zM) {x k : Nat} (hk : k < 60) (m e c : Int32) : mfr z (mhd z x k m e c) (mat x 45) 181 := (((zi_mfr _ _ _).mono (by unfold mat; omega) (by unfold mat; omega)).tr ((zi_mfr _ _ _).mono (by unfold mat; omega) (by unfold mat; omega))).tr (((zi_mfr _ _ _).mono (by unfold mat; omega) (by unfold mat; omega)).tr ((zi_mfr _ _ _).mono (by unfold mat; omega) (by unfold mat; omega)))
theorem mhd_tb {z : zM} {x : Nat} {T : aT} (h : mHeld z x T) (hk : T.1 < 60) (a e c : Nat) : mHeld (mhd z x T.1 (nI a) (nI e) (nI c)) x (tpush T (row3 a e c)) := by
  refine ⟨hk, ?_, fun j hj k hk3 => ?_⟩
  · unfold mhd
    rw [zi_at, if_pos ⟨rfl, rfl⟩]; rfl
  · have hj : j < T.1 + 1 := hj
    show _ = nI (va_up T.2 T.1 (row3 a e c) j k)
    unfold mhd
    rw [zi_at, if_neg (by unfold mat; omega), zi_at, zi_at, zi_at]
    by_cases hjk : j = T.1
    · subst hjk
      rw [va_up_self]
      rcases (show k = 0 ∨ k = 1 ∨ k = 2 by omega) with rfl | rfl | rfl
      · rw [if_neg (by omega), if_neg (by omega), if_pos ⟨rfl, rfl⟩]; rfl
      · rw [if_neg (by omega), if_pos ⟨rfl, rfl⟩]; rfl
      · rw [if_pos ⟨rfl, rfl⟩]; rfl
    · rw [if_neg (by unfold mat; omega), if_neg (by unfold mat; omega), if_neg (by unfold mat; omega), va_up_ne _ _ hjk]
      exact h.2.2 j (by omega) k hk3
theorem mHd_mfr (z : zM) {x k : Nat} (hk : k ≤ 60) (m e c : Int32) : mfr z (mHd z x k m e c) (mat x 45) 181 := by
  unfold mHd
  by_cases h6 : k = 60
  · rw [if_pos h6]
    exact (((msh_mfr z (mat x 46) 3 177).mono (by unfold mat; omega) (by unfold mat; omega)).tr ((zi_mfr _ _ _).mono (by unfold mat; omega) (by unfold mat; omega))).tr (mhd_mfr _ (by omega) _ _ _)
  · rw [if_neg h6]; exact mhd_mfr _ (by omega) _ _ _
theorem mHd_tb {z : zM} {x : Nat} {T : aT} (h : mHeld z x T) (a e c : Nat) : mHeld (mHd z x T.1 (nI a) (nI e) (nI c)) x (thold T (row3 a e c)) := by
  unfold mHd thold
  by_cases h6 : T.1 = 60
  · rw [if_pos h6, if_pos h6]
    have h1 : mHeld (zi (msh z (mat x 46) 3 177) 273 (mat x 45) (nI 59)) x (tpop T) := by
      refine ⟨by show T.1 - 1 ≤ 60; omega, ?_, fun j hj k hk => ?_⟩
      · rw [zi_at, if_pos ⟨rfl, rfl⟩]; show nI 59 = nI (T.1 - 1); rw [h6]
      · have hj : j < T.1 - 1 := hj
        rw [zi_at, if_neg (by unfold mat; omega), msh_at, if_pos (by unfold mat; omega)]
        have h4 := h.2.2 (j + 1) (by omega) k hk
        rw [show mat x (46 + 3 * j) + k + 3 = mat x (46 + 3 * (j + 1)) + k by unfold mat; omega]
        exact h4
    have h2 := mhd_tb h1 (show T.1 - 1 < 60 by omega) a e c
    have h3 : (tpop T).1 = 59 := by show T.1 - 1 = 59; omega
    rw [h3] at h2
    exact h2
  · rw [if_neg h6, if_neg h6]
    exact mhd_tb h (by have := h.1; omega) a e c
theorem mpt_mfr (z : zM) (p : Nat) (v0 v1 v2 v3 v4 : Int32) : mfr z (mpt z p v0 v1 v2 v3 v4) p 5 := ((((zi_mfr _ _ _).mono (by omega) (by omega)).tr ((zi_mfr _ _ _).mono (by omega) (by omega))).tr (((zi_mfr _ _ _).mono (by omega) (by omega)).tr ((zi_mfr _ _ _).mono (by omega) (by omega)))).tr ((zi_mfr _ _ _).mono (by omega) (by omega))
theorem mpt_msg (z : zM) (p : Nat) (r : Nat → Nat) : mMsg (mpt z p (nI (r 3)) (nI (r 0)) (nI (r 4)) (nI (r 1)) (nI (r 2))) p r := by
  unfold mMsg mpt
  simp only [zi_at]
  refine ⟨?_, ?_, ?_, ?_, ?_⟩
  · rw [if_neg (by omega), if_neg (by omega), if_neg (by omega), if_neg (by omega), if_pos (by simp)]
  · rw [if_neg (by omega), if_neg (by omega), if_neg (by omega), if_pos (by simp)]
  · rw [if_neg (by omega), if_neg (by omega), if_pos (by simp)]
  · rw [if_neg (by omega), if_pos (by simp)]
  · rw [if_pos (by simp)]
theorem mQ_push {z : zM} {T : aT} (h : mQ z T) (hk : T.1 < 40) (r : Nat → Nat) : mQ (zi (mpt z (2600 + 5 * T.1) (nI (r 3)) (nI (r 0)) (nI (r 4)) (nI (r 1)) (nI (r 2))) 273 2599 (nI (T.1 + 1))) (tpush T r) := by
  refine ⟨hk, ?_, fun j hj => ?_⟩
  · rw [zi_at, if_pos ⟨rfl, rfl⟩]; rfl
  · have hj : j < T.1 + 1 := hj
    show mMsg _ _ (va_up T.2 T.1 r j)
    have hf := zi_mfr (mpt z (2600 + 5 * T.1) (nI (r 3)) (nI (r 0)) (nI (r 4)) (nI (r 1)) (nI (r 2))) 2599 (nI (T.1 + 1))
    by_cases hjk : j = T.1
    · subst hjk
      rw [va_up_self]
      exact (mpt_msg z _ r).cg (hf.cg (a := 2600) (c := 2900) (by omega)) (by omega) (by omega)
    · rw [va_up_ne _ _ hjk]
      exact ((h.2.2 j (by omega)).cg ((mpt_mfr z (2600 + 5 * T.1) (nI (r 3)) (nI (r 0)) (nI (r 4)) (nI (r 1)) (nI (r 2))).cg (a := 2600) (c := 2600 + 5 * T.1) (by omega)) (by omega) (by omega)).cg (hf.cg (a := 2600) (c := 2900) (by omega)) (by omega) (by omega)
theorem mQ_pop {z : zM} {T : aT} (h : mQ z T) (h0 : 0 < T.1) : mQ (mqp z T.1) (tpop T) := by
  have h40 := h.1
  refine ⟨by show T.1 - 1 ≤ 40; omega, ?_, fun j hj => ?_⟩
  · unfold mqp
    rw [msh_at, if_neg (by omega), zi_at, if_pos ⟨rfl, rfl⟩]; rfl
  · have hj : j < T.1 - 1 := hj
    have e : ∀ c, c < 5 → (mqp z T.1).1 273 (2600 + 5 * j + c) = z.1 273 (2600 + 5 * (j + 1) + c) := fun c hc => by
      unfold mqp
      rw [msh_at, if_pos (by omega), zi_at, if_neg (by omega), show 2600 + 5 * j + c + 5 = 2600 + 5 * (j + 1) + c by omega]
    obtain ⟨a0, a1, a2, a3, a4⟩ := h.2.2 (j + 1) (by omega)
    exact ⟨by rw [← Nat.add_zero (2600 + 5 * j), e 0 (by omega)]; exact a0, by rw [e 1 (by omega)]; exact a1, by rw [e 2 (by omega)]; exact a2, by rw [e 3 (by omega)]; exact a3, by rw [e 4 (by omega)]; exact a4⟩
theorem mqp_mfr (z : zM) {q : Nat} (hq : q ≤ 40) : mfr z (mqp z q) 2599 201 := ((zi_mfr _ _ _).mono (by omega) (by omega)).tr ((msh_mfr _ _ _ _).mono (by omega) (by omega))
theorem mpn_mfr (z : zM) {x k : Nat} (v0 v1 v2 v3 v4 : Int32) : mfr z (mpn z x k v0 v1 v2 v3 v4) (mat x 226) 201 := by
  unfold mpn
  split
  · exact ((mpt_mfr _ _ _ _ _ _ _).mono (by unfold mat; omega) (by unfold mat; omega)).tr ((zi_mfr _ _ _).mono (by omega) (by omega))
  · exact mfr.rf _ _ _
theorem mpn_tb {z : zM} {x : Nat} {T : aT} (h : mPend z x T) (r : Nat → Nat) : mPend (mpn z x T.1 (nI (r 3)) (nI (r 0)) (nI (r 4)) (nI (r 1)) (nI (r 2))) x (if T.1 < 40 then tpush T r else T) := by
  unfold mpn
  by_cases h4 : T.1 < 40
  · rw [if_pos h4, if_pos h4]
    refine ⟨h4, ?_, fun j hj => ?_⟩
    · rw [zi_at, if_pos ⟨rfl, rfl⟩]; rfl
    · have hj : j < T.1 + 1 := hj
      show mMsg _ _ (va_up T.2 T.1 r j)
      have hf := zi_mfr (mpt z (mat x (227 + 5 * T.1)) (nI (r 3)) (nI (r 0)) (nI (r 4)) (nI (r 1)) (nI (r 2))) (mat x 226) (nI (T.1 + 1))
      by_cases hjk : j = T.1
      · subst hjk
        rw [va_up_self]
        exact (mpt_msg z _ r).cg (hf.cg (a := mat x 227) (c := mat x 500) (by unfold mat; omega)) (by unfold mat; omega) (by unfold mat; omega)
      · rw [va_up_ne _ _ hjk]
        exact ((h.2.2 j (by omega)).cg ((mpt_mfr z (mat x (227 + 5 * T.1)) (nI (r 3)) (nI (r 0)) (nI (r 4)) (nI (r 1)) (nI (r 2))).cg (a := mat x 227) (c := mat x (227 + 5 * T.1)) (by unfold mat; omega)) (by unfold mat; omega) (by unfold mat; omega)).cg (hf.cg (a := mat x 227) (c := mat x 500) (by unfold mat; omega)) (by unfold mat; omega) (by unfold mat; omega)
  · rw [if_neg h4, if_neg h4]; exact h
theorem z01 (P : Prop) [Decidable P] : (if P then (1 : Int32) else 0) = 0 ∨ (if P then (1 : Int32) else 0) = 1 := by
  by_cases h : P
  · rw [if_pos h]; exact Or.inr rfl
  · rw [if_neg h]; exact Or.inl rfl
theorem zdiv {a : Nat} (d : Nat) (ha : a < 2 ^ 31) (h0 : 0 < d) (hd : d < 2 ^ 31) : nI a / nI d = nI (a / d) := by
  apply Int32.toInt_inj.mp
  have h1 : a / d < 2 ^ 31 := Nat.lt_of_le_of_lt (Nat.div_le_self a d) ha
  rw [nI_toInt h1, Int32.toInt_div_of_ne_left _ _ (by
    intro q
    have h2 : (nI a).toInt = Int32.minValue.toInt := by rw [q]
    rw [nI_toInt ha] at h2
    have h3 : Int32.minValue.toInt = -2147483648 := by decide
    omega), nI_toInt ha, nI_toInt hd]
  exact (Int.ofNat_tdiv a d).symm
set_option maxRecDepth 100000 in
set_option maxHeartbeats 4000000 in
theorem m_X4_at {G : zG} {N : Nat} {Λ : zLay} {l : Launch} (hO : zOK G l) (z : zM) {x o : Nat} : zMet G N Λ l yX4_at cX4_at 2 (some .int) 0 [.int (nI x), .int (nI o)] z (some (.int (nI (mat x o)))) z := by
  refine zMet_of hO (by decide) (Nat.le_of_ble_eq_true rfl) ?_
  intro pP eE sS mM bB tT cC ls C hw hl
  have hl : lv_has ls 2 [(0, .int (nI x)), (1, .int (nI o))] := hl
  refine lv_iconst (v := 1) C.x C.b dX4_at_0 (by decide) ?_
  refine lv_sipush (v := 433) C.x C.b dX4_at_1 (by decide) ?_
  refine lv_iload_n C.x C.b dX4_at_4 rfl (lv_at hl 0 rfl) ?_
  refine lv_imul C.x C.b dX4_at_5 ?_
  refine lv_iadd C.x C.b dX4_at_6 ?_
  refine lv_iload_n C.x C.b dX4_at_7 rfl (lv_at hl 1 rfl) ?_
  refine lv_iadd C.x C.b dX4_at_8 ?_
  refine z_topi (y := nI (mat x o)) (mat_i x o) ?_
  exact z_iret C hw dX4_at_9 (rfl) (rfl)

set_option maxRecDepth 100000 in
set_option maxHeartbeats 4000000 in
theorem m_X4_many {G : zG} {N : Nat} {Λ : zLay} {l : Launch} (hO : zOK G l) (z : zM) (hB : zMo G N Λ) {n : Nat} (hn : z.1 273 0 = nI n) : zMet G N Λ l yX4_many cX4_many 1 (some .int) 0 [.ref (G.h + 272)] z (some (.int (nI n))) z := by
  refine zMet_of hO (by decide) (Nat.le_of_ble_eq_true rfl) ?_
  intro pP eE sS mM bB tT cC ls C hw hl
  have hl : lv_has ls 1 [(0, .ref (G.h + 272))] := hl
  refine lv_aload_n C.x C.b dX4_many_0 rfl (lv_at hl 0 rfl) ?_
  refine z_get C hw hB.lt (hB.at _ _) flX4_7 rfl dX4_many_1 ?_
  refine lv_iconst (v := 0) C.x C.b dX4_many_4 (by decide) ?_
  refine z_iald C hw hB.ltn hB.now (zvin (x := 0) (by omega) (by omega)) dX4_many_5 ?_
  refine z_topi (y := z.1 273 0) (congrArg (z.1 273) (zcl (x := 0) (n := 2921) (by omega) (by omega))) ?_
  refine z_topi (y := nI n) (hn) ?_
  exact z_iret C hw dX4_many_6 (rfl) (rfl)

set_option maxRecDepth 100000 in
set_option maxHeartbeats 4000000 in
theorem m_X4_within {G : zG} {N : Nat} {Λ : zLay} {l : Launch} (hO : zOK G l) (z : zM) {v a c : Int32} : zMet G N Λ l yX4_within cX4_within 3 (some .boolean) 0 [.int v, .int a, .int c] z (some (.int (if a ≤ v ∧ v ≤ c then 1 else 0))) z := by
  refine zMet_of hO (by decide) (Nat.le_of_ble_eq_true rfl) ?_
  intro pP eE sS mM bB tT cC ls C hw hl
  have hl : lv_has ls 3 [(0, .int v), (1, .int a), (2, .int c)] := hl
  refine lv_iload_n C.x C.b dX4_within_0 rfl (lv_at hl 0 rfl) ?_
  refine lv_iload_n C.x C.b dX4_within_1 rfl (lv_at hl 1 rfl) ?_
  refine lv_icmp_lt (tgt := 14) C.x C.b dX4_within_2 (by decide) (fun c_2 => ?_) (fun c_2 => ?_)
  · refine lv_iconst (v := 0) C.x C.b dX4_within_14 (by decide) ?_
    exact z_zret C hw dX4_within_15 (by decide) (by rw [if_neg (fun q => absurd c_2 (Int32.not_lt.mpr q.1))]) (rfl)
  · refine lv_iload_n C.x C.b dX4_within_5 rfl (lv_at hl 0 rfl) ?_
    refine lv_iload_n C.x C.b dX4_within_6 rfl (lv_at hl 2 rfl) ?_
    refine lv_icmp_gt (tgt := 14) C.x C.b dX4_within_7 (by decide) (fun c_7 => ?_) (fun c_7 => ?_)
    · refine lv_iconst (v := 0) C.x C.b dX4_within_14 (by decide) ?_
      exact z_zret C hw dX4_within_15 (by decide) (by rw [if_neg (fun q => absurd c_7 (Int32.not_lt.mpr q.2))]) (rfl)
    · refine lv_iconst (v := 1) C.x C.b dX4_within_10 (by decide) ?_
      refine lv_goto (tgt := 15) C.x C.b dX4_within_11 (by decide) ?_
      exact z_zret C hw dX4_within_15 (by decide) (by rw [if_pos ⟨Int32.not_lt.mp c_2, Int32.not_lt.mp c_7⟩]) (rfl)

set_option maxRecDepth 100000 in
set_option maxHeartbeats 4000000 in
theorem m_X4_isMachine {G : zG} {N : Nat} {Λ : zLay} {l : Launch} (hO : zOK G l) (z : zM) (hB : zMo G N Λ) {n : Nat} {v : Int32} (hn : z.1 273 0 = nI n) (hn1 : 1 ≤ n) : zMet G N Λ l yX4_isMachine cX4_isMachine 2 (some .boolean) 1 [.ref (G.h + 272), .int v] z (some (.int (if 0 ≤ v ∧ v ≤ nI (n - 1) then 1 else 0))) z := by
  refine zMet_of hO (by decide) (Nat.le_of_ble_eq_true rfl) ?_
  intro pP eE sS mM bB tT cC ls C hw hl
  have hl : lv_has ls 2 [(0, .ref (G.h + 272)), (1, .int v)] := hl
  refine lv_iload_n C.x C.b dX4_isMachine_0 rfl (lv_at hl 1 rfl) ?_
  refine lv_iconst (v := 0) C.x C.b dX4_isMachine_1 (by decide) ?_
  refine lv_aload_n C.x C.b dX4_isMachine_2 rfl (lv_at hl 0 rfl) ?_
  refine z_get C hw hB.lt (hB.at _ _) flX4_7 rfl dX4_isMachine_3 ?_
  refine lv_iconst (v := 0) C.x C.b dX4_isMachine_6 (by decide) ?_
  refine z_iald C hw hB.ltn hB.now (zvin (x := 0) (by omega) (by omega)) dX4_isMachine_7 ?_
  refine z_topi (y := z.1 273 0) (congrArg (z.1 273) (zcl (x := 0) (n := 2921) (by omega) (by omega))) ?_
  refine z_topi (y := nI n) (hn) ?_
  refine lv_iconst (v := 1) C.x C.b dX4_isMachine_8 (by decide) ?_
  refine lv_isub C.x C.b dX4_isMachine_9 ?_
  refine z_topi (y := nI (n - 1)) (by rw [zlit 1, zsub hn1]) ?_
  refine z_Sv (As := [.int v, .int 0, .int (nI (n - 1))]) (rest := []) C hw hl (m_X4_within hO _) ivX4_24 rfl rfl ⟨(Nat.le_of_ble_eq_true rfl), (Nat.le_of_ble_eq_true rfl)⟩ (Nat.le_of_ble_eq_true rfl) ⟨Nat.zero_le _, Nat.zero_le _⟩ dX4_isMachine_10 (fun H locs hw => ?_)
  exact z_zret C hw dX4_isMachine_13 (z01 _) (rfl) (rfl)

set_option maxRecDepth 100000 in
set_option maxHeartbeats 4000000 in
theorem m_X4_get {G : zG} {N : Nat} {Λ : zLay} {l : Launch} (hO : zOK G l) (z : zM) (hB : zMo G N Λ) {x o : Nat} (h : mat x o < 2921) : zMet G N Λ l yX4_get cX4_get 3 (some .int) 1 [.ref (G.h + 272), .int (nI x), .int (nI o)] z (some (.int (z.1 273 (mat x o)))) z := by
  refine zMet_of hO (by decide) (Nat.le_of_ble_eq_true rfl) ?_
  intro pP eE sS mM bB tT cC ls C hw hl
  have hl : lv_has ls 3 [(0, .ref (G.h + 272)), (1, .int (nI x)), (2, .int (nI o))] := hl
  refine lv_aload_n C.x C.b dX4_get_0 rfl (lv_at hl 0 rfl) ?_
  refine z_get C hw hB.lt (hB.at _ _) flX4_7 rfl dX4_get_1 ?_
  refine lv_iload_n C.x C.b dX4_get_4 rfl (lv_at hl 1 rfl) ?_
  refine lv_iload_n C.x C.b dX4_get_5 rfl (lv_at hl 2 rfl) ?_
  refine z_Sv (As := [.int (nI x), .int (nI o)]) (rest := [.ref (G.h + 273)]) C hw hl (m_X4_at hO _) ivX4_28 rfl rfl ⟨(Nat.le_of_ble_eq_true rfl), (Nat.le_of_ble_eq_true rfl)⟩ (Nat.le_of_ble_eq_true rfl) ⟨Nat.zero_le _, Nat.zero_le _⟩ dX4_get_6 (fun H locs hw => ?_)
  refine z_iald C hw hB.ltn hB.now (zvin (x := mat x o) (h) (by omega)) dX4_get_9 ?_
  refine z_topi (y := z.1 273 (mat x o)) (congrArg (z.1 273) (zcl (x := mat x o) (n := 2921) (h) (by omega))) ?_
  exact z_iret C hw dX4_get_10 (rfl) (rfl)

set_option maxRecDepth 100000 in
set_option maxHeartbeats 4000000 in
theorem m_X4_entryOf {G : zG} {N : Nat} {Λ : zLay} {l : Launch} (hO : zOK G l) (z : zM) {a q v : Nat} : zMet G N Λ l yX4_entryOf cX4_entryOf 3 (some .int) 0 [.int (nI a), .int (pI q), .int (nI v)] z (some (.int (nI (pk a q v)))) z := by
  refine zMet_of hO (by decide) (Nat.le_of_ble_eq_true rfl) ?_
  intro pP eE sS mM bB tT cC ls C hw hl
  have hl : lv_has ls 3 [(0, .int (nI a)), (1, .int (pI q)), (2, .int (nI v))] := hl
  refine lv_ldc (v := 100000) C.x C.b C.ow (C.w ctX4_39) dX4_entryOf_0 ?_
  refine lv_iload_n C.x C.b dX4_entryOf_2 rfl (lv_at hl 0 rfl) ?_
  refine lv_imul C.x C.b dX4_entryOf_3 ?_
  refine lv_sipush (v := 10000) C.x C.b dX4_entryOf_4 (by decide) ?_
  refine lv_iload_n C.x C.b dX4_entryOf_7 rfl (lv_at hl 1 rfl) ?_
  refine lv_iconst (v := 1) C.x C.b dX4_entryOf_8 (by decide) ?_
  refine lv_iadd C.x C.b dX4_entryOf_9 ?_
  refine z_topi (y := nI q) (pI_1 _) ?_
  refine lv_imul C.x C.b dX4_entryOf_10 ?_
  refine lv_iadd C.x C.b dX4_entryOf_11 ?_
  refine lv_iload_n C.x C.b dX4_entryOf_12 rfl (lv_at hl 2 rfl) ?_
  refine lv_iadd C.x C.b dX4_entryOf_13 ?_
  refine z_topi (y := nI (pk a q v)) (by rw [zlit 100000, zlit 10000, pk_mul, pk_mul, nI_add, nI_add]; rfl) ?_
  exact z_iret C hw dX4_entryOf_14 (rfl) (rfl)

set_option maxRecDepth 100000 in
set_option maxHeartbeats 4000000 in
theorem m_X4_kindOf {G : zG} {N : Nat} {Λ : zLay} {l : Launch} (hO : zOK G l) (z : zM) {a q v : Nat} (ha : a ≤ 2) (hq : q ≤ 6) (hv : v < 1000) : zMet G N Λ l yX4_kindOf cX4_kindOf 1 (some .int) 0 [.int (nI (pk a q v))] z (some (.int (nI a))) z := by
  refine zMet_of hO (by decide) (Nat.le_of_ble_eq_true rfl) ?_
  intro pP eE sS mM bB tT cC ls C hw hl
  have hl : lv_has ls 1 [(0, .int (nI (pk a q v)))] := hl
  have h9 := pkv_lt ha hq hv
  refine lv_iload_n C.x C.b dX4_kindOf_0 rfl (lv_at hl 0 rfl) ?_
  refine lv_ldc (v := 100000) C.x C.b C.ow (C.w ctX4_39) dX4_kindOf_1 ?_
  refine lv_idiv C.x C.b dX4_kindOf_3 (by decide) ?_
  refine z_topi (y := nI a) (by
      rw [zlit 100000, zdiv 100000 (by omega) (by omega) (by omega), pkd_k hq hv]) ?_
  exact z_iret C hw dX4_kindOf_4 (rfl) (rfl)

set_option maxRecDepth 100000 in
set_option maxHeartbeats 4000000 in
theorem m_X4_peerOf {G : zG} {N : Nat} {Λ : zLay} {l : Launch} (hO : zOK G l) (z : zM) {a q v : Nat} (ha : a ≤ 2) (hq : q ≤ 6) (hv : v < 1000) : zMet G N Λ l yX4_peerOf cX4_peerOf 1 (some .int) 0 [.int (nI (pk a q v))] z (some (.int (pI q))) z := by
  refine zMet_of hO (by decide) (Nat.le_of_ble_eq_true rfl) ?_
  intro pP eE sS mM bB tT cC ls C hw hl
  have hl : lv_has ls 1 [(0, .int (nI (pk a q v)))] := hl
  have h9 := pkv_lt ha hq hv
  refine lv_iload_n C.x C.b dX4_peerOf_0 rfl (lv_at hl 0 rfl) ?_
  refine lv_sipush (v := 10000) C.x C.b dX4_peerOf_1 (by decide) ?_
  refine lv_idiv C.x C.b dX4_peerOf_4 (by decide) ?_
  refine z_topi (y := nI (pk a q v / 10000)) (zdiv 10000 (by omega) (by omega) (by omega)) ?_
  refine lv_bipush (v := 10) C.x C.b dX4_peerOf_5 (by decide) ?_
  refine lv_irem C.x C.b dX4_peerOf_7 (by decide) ?_
  refine z_topi (y := nI q) ((zrem (a := pk a q v / 10000) 10 (by omega) (by omega) (by omega)).trans (by rw [pkd_q hq hv])) ?_
  refine lv_iconst (v := 1) C.x C.b dX4_peerOf_8 (by decide) ?_
  refine lv_isub C.x C.b dX4_peerOf_9 ?_
  exact z_iret C hw dX4_peerOf_10 (rfl) (rfl)

set_option maxRecDepth 100000 in
set_option maxHeartbeats 4000000 in
theorem m_X4_valueOf {G : zG} {N : Nat} {Λ : zLay} {l : Launch} (hO : zOK G l) (z : zM) {a q v : Nat} (ha : a ≤ 2) (hq : q ≤ 6) (hv : v < 1000) : zMet G N Λ l yX4_valueOf cX4_valueOf 1 (some .int) 0 [.int (nI (pk a q v))] z (some (.int (nI v))) z := by
  refine zMet_of hO (by decide) (Nat.le_of_ble_eq_true rfl) ?_
  intro pP eE sS mM bB tT cC ls C hw hl
  have hl : lv_has ls 1 [(0, .int (nI (pk a q v)))] := hl
  have h9 := pkv_lt ha hq hv
  refine lv_iload_n C.x C.b dX4_valueOf_0 rfl (lv_at hl 0 rfl) ?_
  refine lv_sipush (v := 10000) C.x C.b dX4_valueOf_1 (by decide) ?_
  refine lv_irem C.x C.b dX4_valueOf_4 (by decide) ?_
  refine z_topi (y := nI v) (by
      have h8 := zrem (a := pk a q v) 10000 (by omega) (by omega) (by omega)
      rw [pkd_v hv] at h8
      exact h8) ?_
  exact z_iret C hw dX4_valueOf_5 (rfl) (rfl)

set_option maxRecDepth 100000 in
set_option maxHeartbeats 4000000 in
theorem m_X4_entryAt {G : zG} {N : Nat} {Λ : zLay} {l : Launch} (hO : zOK G l) (z : zM) (hB : zMo G N Λ) {x k : Nat} (hx6 : x < 6) (hk : k < 40) : zMet G N Λ l yX4_entryAt cX4_entryAt 3 (some .int) 2 [.ref (G.h + 272), .int (nI x), .int (nI k)] z (some (.int (z.1 273 (mat x (5 + k))))) z := by
  refine zMet_of hO (by decide) (Nat.le_of_ble_eq_true rfl) ?_
  intro pP eE sS mM bB tT cC ls C hw hl
  have hl : lv_has ls 3 [(0, .ref (G.h + 272)), (1, .int (nI x)), (2, .int (nI k))] := hl
  refine lv_aload_n C.x C.b dX4_entryAt_0 rfl (lv_at hl 0 rfl) ?_
  refine lv_iload_n C.x C.b dX4_entryAt_1 rfl (lv_at hl 1 rfl) ?_
  refine lv_iconst (v := 5) C.x C.b dX4_entryAt_2 (by decide) ?_
  refine lv_iload_n C.x C.b dX4_entryAt_3 rfl (lv_at hl 2 rfl) ?_
  refine lv_iadd C.x C.b dX4_entryAt_4 ?_
  refine z_topi (y := nI (5 + k)) (by rw [zlit 5, nI_add]) ?_
  refine z_Vv (As := [.int (nI x), .int (nI (5 + k))]) (rest := []) C hw hl (m_X4_get hO _ hB (o := 5 + k) (mat_lt2 hx6 (by omega))) ivX4_40 hB.lt (hB.at _ _) rfl rfl ⟨(Nat.le_of_ble_eq_true rfl), (Nat.le_of_ble_eq_true rfl)⟩ (Nat.le_of_ble_eq_true rfl) ⟨Nat.zero_le _, Nat.zero_le _⟩ dX4_entryAt_5 (fun H locs hw => ?_)
  exact z_iret C hw dX4_entryAt_8 (rfl) (rfl)

set_option maxRecDepth 100000 in
set_option maxHeartbeats 4000000 in
theorem m_X4_chainAt {G : zG} {N : Nat} {Λ : zLay} {l : Launch} (hO : zOK G l) (z : zM) (hB : zMo G N Λ) {x i : Nat} (hx6 : x < 6) (hi : i ≤ 40) {r : Nat → Nat → Nat} (hR : ∀ j, j < i → z.1 273 (mat x (5 + j)) = nI (pk (r j 0) (r j 1) (r j 2))) (hok : okRow r i) : zMet G N Λ l yX4_chainAt cX4_chainAt 7 (some .int) 3 [.ref (G.h + 272), .int (nI x), .int (nI i)] z (some (.int (nI (CH r i)))) z := by
  refine zMet_of hO (by decide) (Nat.le_of_ble_eq_true rfl) ?_
  intro pP eE sS mM bB tT cC ls C hw hl
  have hl : lv_has ls 7 [(0, .ref (G.h + 272)), (1, .int (nI x)), (2, .int (nI i))] := hl
  refine lv_lconst (v := 1) C.x C.b dX4_chainAt_0 (by decide) ?_
  refine lv_lstore_n (lv' := [(3, .long 1), (0, .ref (G.h + 272)), (1, .int (nI x)), (2, .int (nI i))]) C.x C.b dX4_chainAt_1 rfl hl (by decide) rfl (fun ls hl => ?_)
  refine lv_iconst (v := 0) C.x C.b dX4_chainAt_2 (by decide) ?_
  refine lv_istore (lv' := [(5, .int 0), (3, .long 1), (0, .ref (G.h + 272)), (1, .int (nI x)), (2, .int (nI i))]) C.x C.b dX4_chainAt_3 hl (by decide) rfl (fun ls hl => ?_)
  have loop : ∀ (d : Nat) (k : Nat) (H : Heap) (locs : List Loc) (ls : Array Slot) (hk : k + d = i), zS G N Λ z sS H locs → lv_has ls 7 [(0, .ref (G.h + 272)), (1, .int (nI x)), (2, .int (nI i)), (3, .long (lN (CH r k))), (5, .int (nI k))] → W pP l eE (zR 3) sS mM ([.ref (G.h + 272), .int (nI x), .int (nI i)] : List Value).toArray bB tT cC H locs 0 0 (MQ bB (zQc G N Λ (some (.int (nI (CH r i)))) z) ([.ref (G.h + 272), .int (nI x), .int (nI i)] : List Value).toArray sS 0 0 (zA G)) (F0 mM 5 ls []) := by
    intro d
    induction d with
    | zero =>
      intro k H locs ls hk hw hl
      refine lv_iload C.x C.b dX4_chainAt_5 (lv_at hl 4 rfl) ?_
      refine lv_iload_n C.x C.b dX4_chainAt_7 rfl (lv_at hl 2 rfl) ?_
      refine lv_icmp_ge (tgt := 71) C.x C.b dX4_chainAt_8 (by decide) (fun c_8 => ?_) (fun c_8 => absurd (zle (by omega) (by omega)) c_8)
      have hki : k = i := by omega
      refine lv_lload_n C.x C.b dX4_chainAt_71 rfl (lv_at hl 3 rfl) ?_
      refine lv_l2i C.x C.b dX4_chainAt_72 rfl ?_
      exact z_iret C hw dX4_chainAt_73 (by rw [lN_i, hki]) (rfl)
    | succ d ih =>
      intro k H locs ls hk hw hl
      refine lv_iload C.x C.b dX4_chainAt_5 (lv_at hl 4 rfl) ?_
      refine lv_iload_n C.x C.b dX4_chainAt_7 rfl (lv_at hl 2 rfl) ?_
      refine lv_icmp_ge (tgt := 71) C.x C.b dX4_chainAt_8 (by decide) (fun c_8 => absurd c_8 (znle (by omega) (by omega))) (fun c_8 => ?_)
      have hki : k < i := by omega
      obtain ⟨ha, hq, hv⟩ := hok k hki
      refine lv_aload_n C.x C.b dX4_chainAt_11 rfl (lv_at hl 0 rfl) ?_
      refine lv_iload_n C.x C.b dX4_chainAt_12 rfl (lv_at hl 1 rfl) ?_
      refine lv_iload C.x C.b dX4_chainAt_13 (lv_at hl 4 rfl) ?_
      refine z_Vv (As := [.int (nI x), .int (nI k)]) (rest := []) C hw hl (m_X4_entryAt hO _ hB hx6 (k := k) (by omega)) ivX4_43 hB.lt (hB.at _ _) rfl rfl ⟨(Nat.le_of_ble_eq_true rfl), (Nat.le_of_ble_eq_true rfl)⟩ (Nat.le_of_ble_eq_true rfl) ⟨Nat.zero_le _, Nat.zero_le _⟩ dX4_chainAt_15 (fun H locs hw => ?_)
      refine z_topi (y := nI (pk (r k 0) (r k 1) (r k 2))) (hR k hki) ?_
      refine lv_istore (lv' := [(6, .int (nI (pk (r k 0) (r k 1) (r k 2)))), (0, .ref (G.h + 272)), (1, .int (nI x)), (2, .int (nI i)), (3, .long (lN (CH r k))), (5, .int (nI k))]) C.x C.b dX4_chainAt_18 hl (by decide) rfl (fun ls hl => ?_)
      refine lv_lload_n C.x C.b dX4_chainAt_20 rfl (lv_at hl 4 rfl) ?_
      refine lv_ldc2 (v := 1000003) C.x C.b C.ow (C.w ctX4_46) dX4_chainAt_21 ?_
      refine lv_lmul C.x C.b dX4_chainAt_24 ?_
      refine lv_ldc2 (v := 7) C.x C.b C.ow (C.w ctX4_48) dX4_chainAt_25 ?_
      refine lv_iload C.x C.b dX4_chainAt_28 (lv_at hl 0 rfl) ?_
      refine z_Sv (As := [.int (nI (pk (r k 0) (r k 1) (r k 2)))]) (rest := [.long 7, .long ((lN (CH r k)) * 1000003)]) C hw hl (m_X4_kindOf hO _ ha hq hv) ivX4_50 rfl rfl ⟨(Nat.le_of_ble_eq_true rfl), (Nat.le_of_ble_eq_true rfl)⟩ (Nat.le_of_ble_eq_true rfl) ⟨Nat.zero_le _, Nat.zero_le _⟩ dX4_chainAt_30 (fun H locs hw => ?_)
      refine lv_i2l C.x C.b dX4_chainAt_33 rfl ?_
      refine lv_lmul C.x C.b dX4_chainAt_34 ?_
      refine lv_ladd C.x C.b dX4_chainAt_35 ?_
      refine lv_ldc2 (v := 31) C.x C.b C.ow (C.w ctX4_54) dX4_chainAt_36 ?_
      refine lv_iload C.x C.b dX4_chainAt_39 (lv_at hl 0 rfl) ?_
      refine z_pc (pc2 := 41) rfl ?_
      refine z_Sv (As := [.int (nI (pk (r k 0) (r k 1) (r k 2)))]) (rest := [.long 31, .long (((lN (CH r k)) * 1000003) + (7 * ((nI (r k 0)).toInt64)))]) C hw hl (m_X4_peerOf hO _ ha hq hv) ivX4_56 rfl rfl ⟨(Nat.le_of_ble_eq_true rfl), (Nat.le_of_ble_eq_true rfl)⟩ (Nat.le_of_ble_eq_true rfl) ⟨Nat.zero_le _, Nat.zero_le _⟩ dX4_chainAt_41 (fun H locs hw => ?_)
      refine lv_iconst (v := 1) C.x C.b dX4_chainAt_44 (by decide) ?_
      refine lv_iadd C.x C.b dX4_chainAt_45 ?_
      refine z_topi (y := nI (r k 1)) (pI_1 _) ?_
      refine lv_i2l C.x C.b dX4_chainAt_46 rfl ?_
      refine lv_lmul C.x C.b dX4_chainAt_47 ?_
      refine lv_ladd C.x C.b dX4_chainAt_48 ?_
      refine lv_ldc2 (v := 257) C.x C.b C.ow (C.w ctX4_59) dX4_chainAt_49 ?_
      refine lv_iload C.x C.b dX4_chainAt_52 (lv_at hl 0 rfl) ?_
      refine z_Sv (As := [.int (nI (pk (r k 0) (r k 1) (r k 2)))]) (rest := [.long 257, .long ((((lN (CH r k)) * 1000003) + (7 * ((nI (r k 0)).toInt64))) + (31 * ((nI (r k 1)).toInt64)))]) C hw hl (m_X4_valueOf hO _ ha hq hv) ivX4_61 rfl rfl ⟨(Nat.le_of_ble_eq_true rfl), (Nat.le_of_ble_eq_true rfl)⟩ (Nat.le_of_ble_eq_true rfl) ⟨Nat.zero_le _, Nat.zero_le _⟩ dX4_chainAt_54 (fun H locs hw => ?_)
      refine lv_i2l C.x C.b dX4_chainAt_57 rfl ?_
      refine lv_lmul C.x C.b dX4_chainAt_58 ?_
      refine lv_ladd C.x C.b dX4_chainAt_59 ?_
      refine z_topl (y := lN (CH r k * 1000003 + 7 * r k 0 + 31 * r k 1 + 257 * r k 2)) (nc_sumM (CH_lt _ _) ha hq hv) ?_
      refine lv_ldc2 (v := 2147483647) C.x C.b C.ow (C.w ctX4_64) dX4_chainAt_60 ?_
      refine lv_lrem C.x C.b dX4_chainAt_63 (by decide) ?_
      refine z_topl (y := lN (CH r (k + 1))) (by rw [zlitL 2147483647, pk_lRem (by have := CH_lt r k; omega) (by omega) (by omega)]; rfl) ?_
      refine lv_lstore_n (lv' := [(3, .long (lN (CH r (k + 1)))), (6, .int (nI (pk (r k 0) (r k 1) (r k 2)))), (0, .ref (G.h + 272)), (1, .int (nI x)), (2, .int (nI i)), (5, .int (nI k))]) C.x C.b dX4_chainAt_64 rfl hl (by decide) rfl (fun ls hl => ?_)
      refine lv_iinc (v := nI k + 1) (lv' := [(5, .int (nI k + 1)), (3, .long (lN (CH r (k + 1)))), (6, .int (nI (pk (r k 0) (r k 1) (r k 2)))), (0, .ref (G.h + 272)), (1, .int (nI x)), (2, .int (nI i))]) C.x C.b dX4_chainAt_65 hl (k := 5) rfl rfl (by decide) rfl (fun ls hl => ?_)
      have hl : lv_has ls 7 [(5, .int (nI (k + 1))), (3, .long (lN (CH r (k + 1)))), (6, .int (nI (pk (r k 0) (r k 1) (r k 2)))), (0, .ref (G.h + 272)), (1, .int (nI x)), (2, .int (nI i))] := by
        have e9 : nI k + 1 = nI (k + 1) := nI_1 k
        rw [← e9]; exact hl
      refine lv_goto (tgt := 5) C.x C.b dX4_chainAt_68 (by decide) ?_
      exact ih (k + 1) _ _ _ (by omega) hw (lv_sub hl [3, 4, 5, 1, 0] rfl)
  exact loop i 0 _ _ _ (by omega) hw (lv_sub hl [2, 3, 4, 1, 0] rfl)

set_option maxRecDepth 100000 in
set_option maxHeartbeats 4000000 in
theorem m_X4_logs {G : zG} {N : Nat} {Λ : zLay} {l : Launch} (hO : zOK G l) (z : zM) (hB : zMo G N Λ) {x k : Nat} (hx6 : x < 6) (hk : z.1 273 (mat x 4) = nI k) (hk2 : k < 40) {e : Int32} : zMet G N Λ l yX4_logs cX4_logs 3 none 2 [.ref (G.h + 272), .int (nI x), .int e] z none (mlg z x k e) := by
  refine zMet_of hO (by decide) (Nat.le_of_ble_eq_true rfl) ?_
  intro pP eE sS mM bB tT cC ls C hw hl
  have hl : lv_has ls 3 [(0, .ref (G.h + 272)), (1, .int (nI x)), (2, .int e)] := hl
  refine lv_aload_n C.x C.b dX4_logs_0 rfl (lv_at hl 0 rfl) ?_
  refine z_get C hw hB.lt (hB.at _ _) flX4_7 rfl dX4_logs_1 ?_
  refine lv_iload_n C.x C.b dX4_logs_4 rfl (lv_at hl 1 rfl) ?_
  refine lv_iconst (v := 5) C.x C.b dX4_logs_5 (by decide) ?_
  refine lv_aload_n C.x C.b dX4_logs_6 rfl (lv_at hl 0 rfl) ?_
  refine lv_iload_n C.x C.b dX4_logs_7 rfl (lv_at hl 1 rfl) ?_
  refine lv_iconst (v := 4) C.x C.b dX4_logs_8 (by decide) ?_
  refine z_Vv (As := [.int (nI x), .int 4]) (rest := [.int 5, .int (nI x), .ref (G.h + 273)]) C hw hl (m_X4_get hO _ hB (o := 4) (mat_lt2 hx6 (by omega))) ivX4_40 hB.lt (hB.at _ _) rfl rfl ⟨(Nat.le_of_ble_eq_true rfl), (Nat.le_of_ble_eq_true rfl)⟩ (Nat.le_of_ble_eq_true rfl) ⟨Nat.zero_le _, Nat.zero_le _⟩ dX4_logs_9 (fun H locs hw => ?_)
  refine z_topi (y := nI k) (hk) ?_
  refine lv_iadd C.x C.b dX4_logs_12 ?_
  refine z_topi (y := nI (5 + k)) (by rw [zlit 5, nI_add]) ?_
  refine z_Sv (As := [.int (nI x), .int (nI (5 + k))]) (rest := [.ref (G.h + 273)]) C hw hl (m_X4_at hO _ (o := (5 + k))) ivX4_28 rfl rfl ⟨(Nat.le_of_ble_eq_true rfl), (Nat.le_of_ble_eq_true rfl)⟩ (Nat.le_of_ble_eq_true rfl) ⟨Nat.zero_le _, Nat.zero_le _⟩ dX4_logs_13 (fun H locs hw => ?_)
  refine lv_iload_n C.x C.b dX4_logs_16 rfl (lv_at hl 2 rfl) ?_
  refine z_iast C hw hB.ltn hB.now (zvin (x := mat x (5 + k)) (mat_lt2 hx6 (by omega)) (by omega)) dX4_logs_17 (fun H locs hw => ?_)
  have e8 : (nI (mat x (5 + k))).toNatClampNeg = (mat x (5 + k)) := zcl (x := mat x (5 + k)) (n := 2921) (mat_lt2 hx6 (by omega)) (by omega)
  rw [e8] at hw
  obtain ⟨z_1, ez_1⟩ : ∃ q_9, q_9 = zi z 273 (mat x (5 + k)) e := ⟨_, rfl⟩
  have hw : zS G N Λ z_1 sS H locs := by rw [ez_1]; exact hw
  refine lv_aload_n C.x C.b dX4_logs_18 rfl (lv_at hl 0 rfl) ?_
  refine z_get C hw hB.lt (hB.at _ _) flX4_7 rfl dX4_logs_19 ?_
  refine lv_iload_n C.x C.b dX4_logs_22 rfl (lv_at hl 1 rfl) ?_
  refine lv_iconst (v := 4) C.x C.b dX4_logs_23 (by decide) ?_
  refine z_Sv (As := [.int (nI x), .int 4]) (rest := [.ref (G.h + 273)]) C hw hl (m_X4_at hO _ (o := 4)) ivX4_28 rfl rfl ⟨(Nat.le_of_ble_eq_true rfl), (Nat.le_of_ble_eq_true rfl)⟩ (Nat.le_of_ble_eq_true rfl) ⟨Nat.zero_le _, Nat.zero_le _⟩ dX4_logs_24 (fun H locs hw => ?_)
  refine lv_dup2_11 C.x C.b dX4_logs_27 rfl rfl ?_
  refine z_iald C hw hB.ltn hB.now (zvin (x := mat x 4) (mat_lt2 hx6 (by omega)) (by omega)) dX4_logs_28 ?_
  refine z_topi (y := z_1.1 273 (mat x 4)) (congrArg (z_1.1 273) (zcl (x := mat x 4) (n := 2921) (mat_lt2 hx6 (by omega)) (by omega))) ?_
  refine z_topi (y := nI k) (by rw [ez_1, zi_at, if_neg (by unfold mat; omega)]; exact hk) ?_
  refine z_pc (pc2 := 29) rfl ?_
  refine lv_iconst (v := 1) C.x C.b dX4_logs_29 (by decide) ?_
  refine lv_iadd C.x C.b dX4_logs_30 ?_
  refine z_topi (y := nI (k + 1)) (nI_1 _) ?_
  refine z_iast C hw hB.ltn hB.now (zvin (x := mat x 4) (mat_lt2 hx6 (by omega)) (by omega)) dX4_logs_31 (fun H locs hw => ?_)
  have e8 : (nI (mat x 4)).toNatClampNeg = (mat x 4) := zcl (x := mat x 4) (n := 2921) (mat_lt2 hx6 (by omega)) (by omega)
  rw [e8] at hw
  obtain ⟨z_2, ez_2⟩ : ∃ q_9, q_9 = zi z_1 273 (mat x 4) (nI (k + 1)) := ⟨_, rfl⟩
  have hw : zS G N Λ z_2 sS H locs := by rw [ez_2]; exact hw
  exact z_vret C hw dX4_logs_32 (rfl) (by rw [ez_2, ez_1]; rfl)

set_option maxRecDepth 100000 in
set_option maxHeartbeats 4000000 in
theorem m_X4_hold {G : zG} {N : Nat} {Λ : zLay} {l : Launch} (hO : zOK G l) (z : zM) (hB : zMo G N Λ) {x k : Nat} (hx6 : x < 6) (hk : z.1 273 (mat x 45) = nI k) (hk2 : k < 60) {mm ee ch : Int32} : zMet G N Λ l yX4_comesToHold cX4_comesToHold 6 none 2 [.ref (G.h + 272), .int (nI x), .int mm, .int ee, .int ch] z none (mhd z x k mm ee ch) := by
  refine zMet_of hO (by decide) (Nat.le_of_ble_eq_true rfl) ?_
  intro pP eE sS mM bB tT cC ls C hw hl
  have hl : lv_has ls 6 [(0, .ref (G.h + 272)), (1, .int (nI x)), (2, .int mm), (3, .int ee), (4, .int ch)] := hl
  refine lv_aload_n C.x C.b dX4_comesToHold_0 rfl (lv_at hl 0 rfl) ?_
  refine lv_iload_n C.x C.b dX4_comesToHold_1 rfl (lv_at hl 1 rfl) ?_
  refine lv_bipush (v := 45) C.x C.b dX4_comesToHold_2 (by decide) ?_
  refine z_Vv (As := [.int (nI x), .int 45]) (rest := []) C hw hl (m_X4_get hO _ hB (o := 45) (mat_lt2 hx6 (by omega))) ivX4_40 hB.lt (hB.at _ _) rfl rfl ⟨(Nat.le_of_ble_eq_true rfl), (Nat.le_of_ble_eq_true rfl)⟩ (Nat.le_of_ble_eq_true rfl) ⟨Nat.zero_le _, Nat.zero_le _⟩ dX4_comesToHold_4 (fun H locs hw => ?_)
  refine z_topi (y := nI k) (hk) ?_
  refine lv_bipush (v := 60) C.x C.b dX4_comesToHold_7 (by decide) ?_
  refine lv_icmp_ne (tgt := 70) C.x C.b dX4_comesToHold_9 (by decide) (fun c_9 => ?_) (fun c_9 => absurd c_9 (zne (b := 60) (by omega) (by omega) (by omega)))
  refine lv_iload_n C.x C.b dX4_comesToHold_70 rfl (lv_at hl 1 rfl) ?_
  refine lv_bipush (v := 46) C.x C.b dX4_comesToHold_71 (by decide) ?_
  refine lv_iconst (v := 3) C.x C.b dX4_comesToHold_73 (by decide) ?_
  refine lv_aload_n C.x C.b dX4_comesToHold_74 rfl (lv_at hl 0 rfl) ?_
  refine lv_iload_n C.x C.b dX4_comesToHold_75 rfl (lv_at hl 1 rfl) ?_
  refine lv_bipush (v := 45) C.x C.b dX4_comesToHold_76 (by decide) ?_
  refine z_Vv (As := [.int (nI x), .int 45]) (rest := [.int 3, .int 46, .int (nI x)]) C hw hl (m_X4_get hO _ hB (o := 45) (mat_lt2 hx6 (by omega))) ivX4_40 hB.lt (hB.at _ _) rfl rfl ⟨(Nat.le_of_ble_eq_true rfl), (Nat.le_of_ble_eq_true rfl)⟩ (Nat.le_of_ble_eq_true rfl) ⟨Nat.zero_le _, Nat.zero_le _⟩ dX4_comesToHold_78 (fun H locs hw => ?_)
  refine z_topi (y := nI k) (hk) ?_
  refine lv_imul C.x C.b dX4_comesToHold_81 ?_
  refine lv_iadd C.x C.b dX4_comesToHold_82 ?_
  refine z_topi (y := nI (46 + 3 * k)) (by rw [zlit 46, zlit 3, pk_mul, nI_add]) ?_
  refine z_Sv (As := [.int (nI x), .int (nI (46 + 3 * k))]) (rest := []) C hw hl (m_X4_at hO _ (o := 46 + 3 * k)) ivX4_28 rfl rfl ⟨(Nat.le_of_ble_eq_true rfl), (Nat.le_of_ble_eq_true rfl)⟩ (Nat.le_of_ble_eq_true rfl) ⟨Nat.zero_le _, Nat.zero_le _⟩ dX4_comesToHold_83 (fun H locs hw => ?_)
  refine lv_istore (lv' := [(5, .int (nI (mat x (46 + 3 * k)))), (0, .ref (G.h + 272)), (1, .int (nI x)), (2, .int mm), (3, .int ee), (4, .int ch)]) C.x C.b dX4_comesToHold_86 hl (by decide) rfl (fun ls hl => ?_)
  refine lv_aload_n C.x C.b dX4_comesToHold_88 rfl (lv_at hl 1 rfl) ?_
  refine z_get C hw hB.lt (hB.at _ _) flX4_7 rfl dX4_comesToHold_89 ?_
  refine z_pc (pc2 := 92) rfl ?_
  refine lv_iload C.x C.b dX4_comesToHold_92 (lv_at hl 0 rfl) ?_
  refine lv_iload_n C.x C.b dX4_comesToHold_94 rfl (lv_at hl 3 rfl) ?_
  refine z_iast C hw hB.ltn hB.now (zvin (x := mat x (46 + 3 * k)) (mat_lt2 hx6 (by omega)) (by omega)) dX4_comesToHold_95 (fun H locs hw => ?_)
  have e8 : (nI (mat x (46 + 3 * k))).toNatClampNeg = (mat x (46 + 3 * k)) := zcl (x := mat x (46 + 3 * k)) (n := 2921) (mat_lt2 hx6 (by omega)) (by omega)
  rw [e8] at hw
  obtain ⟨z_1, ez_1⟩ : ∃ q_9, q_9 = zi z 273 (mat x (46 + 3 * k)) mm := ⟨_, rfl⟩
  have hw : zS G N Λ z_1 sS H locs := by rw [ez_1]; exact hw
  refine lv_aload_n C.x C.b dX4_comesToHold_96 rfl (lv_at hl 1 rfl) ?_
  refine z_get C hw hB.lt (hB.at _ _) flX4_7 rfl dX4_comesToHold_97 ?_
  refine lv_iload C.x C.b dX4_comesToHold_100 (lv_at hl 0 rfl) ?_
  refine lv_iconst (v := 1) C.x C.b dX4_comesToHold_102 (by decide) ?_
  refine lv_iadd C.x C.b dX4_comesToHold_103 ?_
  refine z_topi (y := nI (mat x (46 + 3 * k) + 1)) (by rw [zlit 1, nI_add]) ?_
  refine lv_iload_n C.x C.b dX4_comesToHold_104 rfl (lv_at hl 4 rfl) ?_
  refine z_iast C hw hB.ltn hB.now (zvin (x := mat x (46 + 3 * k) + 1) (by unfold mat; omega) (by omega)) dX4_comesToHold_105 (fun H locs hw => ?_)
  have e8 : (nI (mat x (46 + 3 * k) + 1)).toNatClampNeg = (mat x (46 + 3 * k) + 1) := zcl (x := mat x (46 + 3 * k) + 1) (n := 2921) (by unfold mat; omega) (by omega)
  rw [e8] at hw
  obtain ⟨z_2, ez_2⟩ : ∃ q_9, q_9 = zi z_1 273 (mat x (46 + 3 * k) + 1) ee := ⟨_, rfl⟩
  have hw : zS G N Λ z_2 sS H locs := by rw [ez_2]; exact hw
  refine lv_aload_n C.x C.b dX4_comesToHold_106 rfl (lv_at hl 1 rfl) ?_
  refine z_get C hw hB.lt (hB.at _ _) flX4_7 rfl dX4_comesToHold_107 ?_
  refine lv_iload C.x C.b dX4_comesToHold_110 (lv_at hl 0 rfl) ?_
  refine lv_iconst (v := 2) C.x C.b dX4_comesToHold_112 (by decide) ?_
  refine lv_iadd C.x C.b dX4_comesToHold_113 ?_
  refine z_topi (y := nI (mat x (46 + 3 * k) + 2)) (by rw [zlit 2, nI_add]) ?_
  refine lv_iload C.x C.b dX4_comesToHold_114 (lv_at hl 5 rfl) ?_
  refine z_iast C hw hB.ltn hB.now (zvin (x := mat x (46 + 3 * k) + 2) (by unfold mat; omega) (by omega)) dX4_comesToHold_116 (fun H locs hw => ?_)
  have e8 : (nI (mat x (46 + 3 * k) + 2)).toNatClampNeg = (mat x (46 + 3 * k) + 2) := zcl (x := mat x (46 + 3 * k) + 2) (n := 2921) (by unfold mat; omega) (by omega)
  rw [e8] at hw
  obtain ⟨z_3, ez_3⟩ : ∃ q_9, q_9 = zi z_2 273 (mat x (46 + 3 * k) + 2) ch := ⟨_, rfl⟩
  have hw : zS G N Λ z_3 sS H locs := by rw [ez_3]; exact hw
  refine lv_aload_n C.x C.b dX4_comesToHold_117 rfl (lv_at hl 1 rfl) ?_
  refine z_get C hw hB.lt (hB.at _ _) flX4_7 rfl dX4_comesToHold_118 ?_
  refine lv_iload_n C.x C.b dX4_comesToHold_121 rfl (lv_at hl 2 rfl) ?_
  refine z_pc (pc2 := 122) rfl ?_
  refine lv_bipush (v := 45) C.x C.b dX4_comesToHold_122 (by decide) ?_
  refine z_Sv (As := [.int (nI x), .int 45]) (rest := [.ref (G.h + 273)]) C hw hl (m_X4_at hO _ (o := 45)) ivX4_28 rfl rfl ⟨(Nat.le_of_ble_eq_true rfl), (Nat.le_of_ble_eq_true rfl)⟩ (Nat.le_of_ble_eq_true rfl) ⟨Nat.zero_le _, Nat.zero_le _⟩ dX4_comesToHold_124 (fun H locs hw => ?_)
  refine lv_dup2_11 C.x C.b dX4_comesToHold_127 rfl rfl ?_
  refine z_iald C hw hB.ltn hB.now (zvin (x := mat x 45) (mat_lt2 hx6 (by omega)) (by omega)) dX4_comesToHold_128 ?_
  refine z_topi (y := z_3.1 273 (mat x 45)) (congrArg (z_3.1 273) (zcl (x := mat x 45) (n := 2921) (mat_lt2 hx6 (by omega)) (by omega))) ?_
  refine z_topi (y := nI k) (by rw [ez_3, zi_at, if_neg (by unfold mat; omega), ez_2, zi_at, if_neg (by unfold mat; omega), ez_1, zi_at, if_neg (by unfold mat; omega)]; exact hk) ?_
  refine lv_iconst (v := 1) C.x C.b dX4_comesToHold_129 (by decide) ?_
  refine lv_iadd C.x C.b dX4_comesToHold_130 ?_
  refine z_topi (y := nI (k + 1)) (nI_1 _) ?_
  refine z_iast C hw hB.ltn hB.now (zvin (x := mat x 45) (mat_lt2 hx6 (by omega)) (by omega)) dX4_comesToHold_131 (fun H locs hw => ?_)
  have e8 : (nI (mat x 45)).toNatClampNeg = (mat x 45) := zcl (x := mat x 45) (n := 2921) (mat_lt2 hx6 (by omega)) (by omega)
  rw [e8] at hw
  obtain ⟨z_4, ez_4⟩ : ∃ q_9, q_9 = zi z_3 273 (mat x 45) (nI (k + 1)) := ⟨_, rfl⟩
  have hw : zS G N Λ z_4 sS H locs := by rw [ez_4]; exact hw
  exact z_vret C hw dX4_comesToHold_132 (rfl) (by rw [ez_4, ez_3, ez_2, ez_1]; rfl)

set_option maxRecDepth 100000 in
set_option maxHeartbeats 4000000 in
theorem m_X4_hold_full {G : zG} {N : Nat} {Λ : zLay} {l : Launch} (hO : zOK G l) (z : zM) (hB : zMo G N Λ) {x : Nat} (hx6 : x < 6) (hk : z.1 273 (mat x 45) = nI 60) {mm ee ch : Int32} : zMet G N Λ l yX4_comesToHold cX4_comesToHold 6 none 2 [.ref (G.h + 272), .int (nI x), .int mm, .int ee, .int ch] z none (mhf z x mm ee ch) := by
  refine zMet_of hO (by decide) (Nat.le_of_ble_eq_true rfl) ?_
  intro pP eE sS mM bB tT cC ls C hw hl
  have hl : lv_has ls 6 [(0, .ref (G.h + 272)), (1, .int (nI x)), (2, .int mm), (3, .int ee), (4, .int ch)] := hl
  refine lv_aload_n C.x C.b dX4_comesToHold_0 rfl (lv_at hl 0 rfl) ?_
  refine lv_iload_n C.x C.b dX4_comesToHold_1 rfl (lv_at hl 1 rfl) ?_
  refine lv_bipush (v := 45) C.x C.b dX4_comesToHold_2 (by decide) ?_
  refine z_Vv (As := [.int (nI x), .int 45]) (rest := []) C hw hl (m_X4_get hO _ hB (o := 45) (mat_lt2 hx6 (by omega))) ivX4_40 hB.lt (hB.at _ _) rfl rfl ⟨(Nat.le_of_ble_eq_true rfl), (Nat.le_of_ble_eq_true rfl)⟩ (Nat.le_of_ble_eq_true rfl) ⟨Nat.zero_le _, Nat.zero_le _⟩ dX4_comesToHold_4 (fun H locs hw => ?_)
  refine z_topi (y := nI 60) (hk) ?_
  refine lv_bipush (v := 60) C.x C.b dX4_comesToHold_7 (by decide) ?_
  refine lv_icmp_ne (tgt := 70) C.x C.b dX4_comesToHold_9 (by decide) (fun c_9 => absurd c_9 (fun q => q rfl)) (fun c_9 => ?_)
  refine lv_iconst (v := 0) C.x C.b dX4_comesToHold_12 (by decide) ?_
  refine lv_istore (lv' := [(5, .int 0), (0, .ref (G.h + 272)), (1, .int (nI x)), (2, .int mm), (3, .int ee), (4, .int ch)]) C.x C.b dX4_comesToHold_13 hl (by decide) rfl (fun ls hl => ?_)
  have loop : ∀ (d : Nat) (j : Nat) (H : Heap) (locs : List Loc) (ls : Array Slot) (hj : j + d = 177), zS G N Λ (msh z (mat x 46) 3 j) sS H locs → lv_has ls 6 [(0, .ref (G.h + 272)), (1, .int (nI x)), (2, .int mm), (3, .int ee), (4, .int ch), (5, .int (nI j))] → W pP l eE (zR 2) sS mM ([.ref (G.h + 272), .int (nI x), .int mm, .int ee, .int ch] : List Value).toArray bB tT cC H locs 0 0 (MQ bB (zQc G N Λ none (mhf z x mm ee ch)) ([.ref (G.h + 272), .int (nI x), .int mm, .int ee, .int ch] : List Value).toArray sS 0 0 (zA G)) (F0 mM 15 ls []) := by
    intro d
    induction d with
    | zero =>
      intro j H locs ls hj hw hl
      refine lv_iload C.x C.b dX4_comesToHold_15 (lv_at hl 5 rfl) ?_
      refine lv_sipush (v := 177) C.x C.b dX4_comesToHold_17 (by decide) ?_
      refine lv_icmp_ge (tgt := 55) C.x C.b dX4_comesToHold_20 (by decide) (fun c_20 => ?_) (fun c_20 => absurd (zle (a := 177) (by omega) (by omega)) c_20)
      have hj9 : j = 177 := by omega
      refine lv_aload_n C.x C.b dX4_comesToHold_55 rfl (lv_at hl 0 rfl) ?_
      refine z_get C hw hB.lt (hB.at _ _) flX4_7 rfl dX4_comesToHold_56 ?_
      refine lv_iload_n C.x C.b dX4_comesToHold_59 rfl (lv_at hl 1 rfl) ?_
      refine lv_bipush (v := 45) C.x C.b dX4_comesToHold_60 (by decide) ?_
      refine z_Sv (As := [.int (nI x), .int 45]) (rest := [.ref (G.h + 273)]) C hw hl (m_X4_at hO _ (o := 45)) ivX4_28 rfl rfl ⟨(Nat.le_of_ble_eq_true rfl), (Nat.le_of_ble_eq_true rfl)⟩ (Nat.le_of_ble_eq_true rfl) ⟨Nat.zero_le _, Nat.zero_le _⟩ dX4_comesToHold_62 (fun H locs hw => ?_)
      refine lv_dup2_11 C.x C.b dX4_comesToHold_65 rfl rfl ?_
      refine z_iald C hw hB.ltn hB.now (zvin (x := mat x 45) (mat_lt2 hx6 (by omega)) (by omega)) dX4_comesToHold_66 ?_
      refine z_topi (y := (msh z (mat x 46) 3 j).1 273 (mat x 45)) (congrArg ((msh z (mat x 46) 3 j).1 273) (zcl (x := mat x 45) (n := 2921) (mat_lt2 hx6 (by omega)) (by omega))) ?_
      refine z_topi (y := nI 60) (by rw [msh_at, if_neg (by unfold mat; omega)]; exact hk) ?_
      refine lv_iconst (v := 1) C.x C.b dX4_comesToHold_67 (by decide) ?_
      refine lv_isub C.x C.b dX4_comesToHold_68 ?_
      refine z_topi (y := nI 59) (by rw [zlit 1, zsub (by omega)]) ?_
      refine z_iast C hw hB.ltn hB.now (zvin (x := mat x 45) (mat_lt2 hx6 (by omega)) (by omega)) dX4_comesToHold_69 (fun H locs hw => ?_)
      have e8 : (nI (mat x 45)).toNatClampNeg = (mat x 45) := zcl (x := mat x 45) (n := 2921) (mat_lt2 hx6 (by omega)) (by omega)
      rw [e8] at hw
      obtain ⟨z_1, ez_1⟩ : ∃ q_9, q_9 = zi (msh z (mat x 46) 3 j) 273 (mat x 45) (nI 59) := ⟨_, rfl⟩
      have hw : zS G N Λ z_1 sS H locs := by rw [ez_1]; exact hw
      refine lv_iload_n C.x C.b dX4_comesToHold_70 rfl (lv_at hl 1 rfl) ?_
      refine lv_bipush (v := 46) C.x C.b dX4_comesToHold_71 (by decide) ?_
      refine lv_iconst (v := 3) C.x C.b dX4_comesToHold_73 (by decide) ?_
      refine lv_aload_n C.x C.b dX4_comesToHold_74 rfl (lv_at hl 0 rfl) ?_
      refine lv_iload_n C.x C.b dX4_comesToHold_75 rfl (lv_at hl 1 rfl) ?_
      refine lv_bipush (v := 45) C.x C.b dX4_comesToHold_76 (by decide) ?_
      refine z_pc (pc2 := 78) rfl ?_
      refine z_Vv (As := [.int (nI x), .int 45]) (rest := [.int 3, .int 46, .int (nI x)]) C hw hl (m_X4_get hO _ hB (o := 45) (mat_lt2 hx6 (by omega))) ivX4_40 hB.lt (hB.at _ _) rfl rfl ⟨(Nat.le_of_ble_eq_true rfl), (Nat.le_of_ble_eq_true rfl)⟩ (Nat.le_of_ble_eq_true rfl) ⟨Nat.zero_le _, Nat.zero_le _⟩ dX4_comesToHold_78 (fun H locs hw => ?_)
      have hc_1 : z_1.1 273 (mat x 45) = nI 59 := by rw [ez_1, zi_at, if_pos ⟨rfl, rfl⟩]
      refine z_topi (y := nI 59) hc_1 ?_
      refine lv_imul C.x C.b dX4_comesToHold_81 ?_
      refine lv_iadd C.x C.b dX4_comesToHold_82 ?_
      refine z_topi (y := nI (46 + 3 * 59)) (by rw [zlit 46, zlit 3, pk_mul, nI_add]) ?_
      refine z_Sv (As := [.int (nI x), .int (nI (46 + 3 * 59))]) (rest := []) C hw hl (m_X4_at hO _ (o := 46 + 3 * 59)) ivX4_28 rfl rfl ⟨(Nat.le_of_ble_eq_true rfl), (Nat.le_of_ble_eq_true rfl)⟩ (Nat.le_of_ble_eq_true rfl) ⟨Nat.zero_le _, Nat.zero_le _⟩ dX4_comesToHold_83 (fun H locs hw => ?_)
      refine lv_istore (lv' := [(5, .int (nI (mat x (46 + 3 * 59)))), (0, .ref (G.h + 272)), (1, .int (nI x)), (2, .int mm), (3, .int ee), (4, .int ch)]) C.x C.b dX4_comesToHold_86 hl (by decide) rfl (fun ls hl => ?_)
      refine lv_aload_n C.x C.b dX4_comesToHold_88 rfl (lv_at hl 1 rfl) ?_
      refine z_get C hw hB.lt (hB.at _ _) flX4_7 rfl dX4_comesToHold_89 ?_
      refine lv_iload C.x C.b dX4_comesToHold_92 (lv_at hl 0 rfl) ?_
      refine lv_iload_n C.x C.b dX4_comesToHold_94 rfl (lv_at hl 3 rfl) ?_
      refine z_iast C hw hB.ltn hB.now (zvin (x := mat x (46 + 3 * 59)) (mat_lt2 hx6 (by omega)) (by omega)) dX4_comesToHold_95 (fun H locs hw => ?_)
      have e8 : (nI (mat x (46 + 3 * 59))).toNatClampNeg = (mat x (46 + 3 * 59)) := zcl (x := mat x (46 + 3 * 59)) (n := 2921) (mat_lt2 hx6 (by omega)) (by omega)
      rw [e8] at hw
      obtain ⟨z_2, ez_2⟩ : ∃ q_9, q_9 = zi z_1 273 (mat x (46 + 3 * 59)) mm := ⟨_, rfl⟩
      have hw : zS G N Λ z_2 sS H locs := by rw [ez_2]; exact hw
      refine lv_aload_n C.x C.b dX4_comesToHold_96 rfl (lv_at hl 1 rfl) ?_
      refine z_get C hw hB.lt (hB.at _ _) flX4_7 rfl dX4_comesToHold_97 ?_
      refine lv_iload C.x C.b dX4_comesToHold_100 (lv_at hl 0 rfl) ?_
      refine lv_iconst (v := 1) C.x C.b dX4_comesToHold_102 (by decide) ?_
      refine lv_iadd C.x C.b dX4_comesToHold_103 ?_
      refine z_topi (y := nI (mat x (46 + 3 * 59) + 1)) (by rw [zlit 1, nI_add]) ?_
      refine lv_iload_n C.x C.b dX4_comesToHold_104 rfl (lv_at hl 4 rfl) ?_
      refine z_iast C hw hB.ltn hB.now (zvin (x := mat x (46 + 3 * 59) + 1) (by unfold mat; omega) (by omega)) dX4_comesToHold_105 (fun H locs hw => ?_)
      have e8 : (nI (mat x (46 + 3 * 59) + 1)).toNatClampNeg = (mat x (46 + 3 * 59) + 1) := zcl (x := mat x (46 + 3 * 59) + 1) (n := 2921) (by unfold mat; omega) (by omega)
      rw [e8] at hw
      obtain ⟨z_3, ez_3⟩ : ∃ q_9, q_9 = zi z_2 273 (mat x (46 + 3 * 59) + 1) ee := ⟨_, rfl⟩
      have hw : zS G N Λ z_3 sS H locs := by rw [ez_3]; exact hw
      refine lv_aload_n C.x C.b dX4_comesToHold_106 rfl (lv_at hl 1 rfl) ?_
      refine z_get C hw hB.lt (hB.at _ _) flX4_7 rfl dX4_comesToHold_107 ?_
      refine lv_iload C.x C.b dX4_comesToHold_110 (lv_at hl 0 rfl) ?_
      refine z_pc (pc2 := 112) rfl ?_
      refine lv_iconst (v := 2) C.x C.b dX4_comesToHold_112 (by decide) ?_
      refine lv_iadd C.x C.b dX4_comesToHold_113 ?_
      refine z_topi (y := nI (mat x (46 + 3 * 59) + 2)) (by rw [zlit 2, nI_add]) ?_
      refine lv_iload C.x C.b dX4_comesToHold_114 (lv_at hl 5 rfl) ?_
      refine z_iast C hw hB.ltn hB.now (zvin (x := mat x (46 + 3 * 59) + 2) (by unfold mat; omega) (by omega)) dX4_comesToHold_116 (fun H locs hw => ?_)
      have e8 : (nI (mat x (46 + 3 * 59) + 2)).toNatClampNeg = (mat x (46 + 3 * 59) + 2) := zcl (x := mat x (46 + 3 * 59) + 2) (n := 2921) (by unfold mat; omega) (by omega)
      rw [e8] at hw
      obtain ⟨z_4, ez_4⟩ : ∃ q_9, q_9 = zi z_3 273 (mat x (46 + 3 * 59) + 2) ch := ⟨_, rfl⟩
      have hw : zS G N Λ z_4 sS H locs := by rw [ez_4]; exact hw
      refine lv_aload_n C.x C.b dX4_comesToHold_117 rfl (lv_at hl 1 rfl) ?_
      refine z_get C hw hB.lt (hB.at _ _) flX4_7 rfl dX4_comesToHold_118 ?_
      refine lv_iload_n C.x C.b dX4_comesToHold_121 rfl (lv_at hl 2 rfl) ?_
      refine lv_bipush (v := 45) C.x C.b dX4_comesToHold_122 (by decide) ?_
      refine z_Sv (As := [.int (nI x), .int 45]) (rest := [.ref (G.h + 273)]) C hw hl (m_X4_at hO _ (o := 45)) ivX4_28 rfl rfl ⟨(Nat.le_of_ble_eq_true rfl), (Nat.le_of_ble_eq_true rfl)⟩ (Nat.le_of_ble_eq_true rfl) ⟨Nat.zero_le _, Nat.zero_le _⟩ dX4_comesToHold_124 (fun H locs hw => ?_)
      refine lv_dup2_11 C.x C.b dX4_comesToHold_127 rfl rfl ?_
      refine z_iald C hw hB.ltn hB.now (zvin (x := mat x 45) (mat_lt2 hx6 (by omega)) (by omega)) dX4_comesToHold_128 ?_
      refine z_topi (y := z_4.1 273 (mat x 45)) (congrArg (z_4.1 273) (zcl (x := mat x 45) (n := 2921) (mat_lt2 hx6 (by omega)) (by omega))) ?_
      refine z_topi (y := nI 59) (by rw [ez_4, zi_at, if_neg (by unfold mat; omega), ez_3, zi_at, if_neg (by unfold mat; omega), ez_2, zi_at, if_neg (by unfold mat; omega)]; exact hc_1) ?_
      refine lv_iconst (v := 1) C.x C.b dX4_comesToHold_129 (by decide) ?_
      refine lv_iadd C.x C.b dX4_comesToHold_130 ?_
      refine z_topi (y := nI (59 + 1)) (nI_1 _) ?_
      refine z_iast C hw hB.ltn hB.now (zvin (x := mat x 45) (mat_lt2 hx6 (by omega)) (by omega)) dX4_comesToHold_131 (fun H locs hw => ?_)
      have e8 : (nI (mat x 45)).toNatClampNeg = (mat x 45) := zcl (x := mat x 45) (n := 2921) (mat_lt2 hx6 (by omega)) (by omega)
      rw [e8] at hw
      obtain ⟨z_5, ez_5⟩ : ∃ q_9, q_9 = zi z_4 273 (mat x 45) (nI (59 + 1)) := ⟨_, rfl⟩
      have hw : zS G N Λ z_5 sS H locs := by rw [ez_5]; exact hw
      exact z_vret C hw dX4_comesToHold_132 (rfl) (by rw [ez_5, ez_4, ez_3, ez_2, ez_1, hj9]; rfl)
    | succ d ih =>
      intro j H locs ls hj hw hl
      refine lv_iload C.x C.b dX4_comesToHold_15 (lv_at hl 5 rfl) ?_
      refine lv_sipush (v := 177) C.x C.b dX4_comesToHold_17 (by decide) ?_
      refine lv_icmp_ge (tgt := 55) C.x C.b dX4_comesToHold_20 (by decide) (fun c_20 => absurd c_20 (znle (b := 177) (by omega) (by omega))) (fun c_20 => ?_)
      have h46 : mat x (46 + j) = mat x 46 + j := by unfold mat; omega
      refine lv_aload_n C.x C.b dX4_comesToHold_23 rfl (lv_at hl 0 rfl) ?_
      refine z_get C hw hB.lt (hB.at _ _) flX4_7 rfl dX4_comesToHold_24 ?_
      refine lv_iload_n C.x C.b dX4_comesToHold_27 rfl (lv_at hl 1 rfl) ?_
      refine lv_bipush (v := 46) C.x C.b dX4_comesToHold_28 (by decide) ?_
      refine lv_iload C.x C.b dX4_comesToHold_30 (lv_at hl 5 rfl) ?_
      refine lv_iadd C.x C.b dX4_comesToHold_32 ?_
      refine z_topi (y := nI (46 + j)) (by rw [zlit 46, nI_add]) ?_
      refine z_Sv (As := [.int (nI x), .int (nI (46 + j))]) (rest := [.ref (G.h + 273)]) C hw hl (m_X4_at hO _ (o := 46 + j)) ivX4_28 rfl rfl ⟨(Nat.le_of_ble_eq_true rfl), (Nat.le_of_ble_eq_true rfl)⟩ (Nat.le_of_ble_eq_true rfl) ⟨Nat.zero_le _, Nat.zero_le _⟩ dX4_comesToHold_33 (fun H locs hw => ?_)
      refine lv_aload_n C.x C.b dX4_comesToHold_36 rfl (lv_at hl 0 rfl) ?_
      refine lv_iload_n C.x C.b dX4_comesToHold_37 rfl (lv_at hl 1 rfl) ?_
      refine lv_bipush (v := 46) C.x C.b dX4_comesToHold_38 (by decide) ?_
      refine lv_iload C.x C.b dX4_comesToHold_40 (lv_at hl 5 rfl) ?_
      refine lv_iadd C.x C.b dX4_comesToHold_42 ?_
      refine lv_iconst (v := 3) C.x C.b dX4_comesToHold_43 (by decide) ?_
      refine lv_iadd C.x C.b dX4_comesToHold_44 ?_
      refine z_topi (y := nI (46 + j + 3)) (by rw [zlit 46, zlit 3, nI_add, nI_add]) ?_
      refine z_Vv (As := [.int (nI x), .int (nI (46 + j + 3))]) (rest := [.int (nI (mat x (46 + j))), .ref (G.h + 273)]) C hw hl (m_X4_get hO _ hB (o := 46 + j + 3) (mat_lt2 hx6 (by omega))) ivX4_40 hB.lt (hB.at _ _) rfl rfl ⟨(Nat.le_of_ble_eq_true rfl), (Nat.le_of_ble_eq_true rfl)⟩ (Nat.le_of_ble_eq_true rfl) ⟨Nat.zero_le _, Nat.zero_le _⟩ dX4_comesToHold_45 (fun H locs hw => ?_)
      refine z_iast C hw hB.ltn hB.now (zvin (x := mat x (46 + j)) (mat_lt2 hx6 (by omega)) (by omega)) dX4_comesToHold_48 (fun H locs hw => ?_)
      have e8 : (nI (mat x (46 + j))).toNatClampNeg = (mat x (46 + j)) := zcl (x := mat x (46 + j)) (n := 2921) (mat_lt2 hx6 (by omega)) (by omega)
      rw [e8] at hw
      obtain ⟨z_6, ez_6⟩ : ∃ q_9, q_9 = zi (msh z (mat x 46) 3 j) 273 (mat x (46 + j)) ((msh z (mat x 46) 3 j).1 273 (mat x (46 + j + 3))) := ⟨_, rfl⟩
      have hw : zS G N Λ z_6 sS H locs := by rw [ez_6]; exact hw
      refine z_pc (pc2 := 49) rfl ?_
      refine lv_iinc (v := nI j + 1) (lv' := [(5, .int (nI j + 1)), (0, .ref (G.h + 272)), (1, .int (nI x)), (2, .int mm), (3, .int ee), (4, .int ch)]) C.x C.b dX4_comesToHold_49 hl (k := 5) rfl rfl (by decide) rfl (fun ls hl => ?_)
      have hl : lv_has ls 6 [(5, .int (nI (j + 1))), (0, .ref (G.h + 272)), (1, .int (nI x)), (2, .int mm), (3, .int ee), (4, .int ch)] := by
        have e9 : nI j + 1 = nI (j + 1) := nI_1 j
        rw [← e9]; exact hl
      refine lv_goto (tgt := 15) C.x C.b dX4_comesToHold_52 (by decide) ?_
      exact ih (j + 1) _ _ _ (by omega) (by rw [ez_6, h46, show mat x (46 + j + 3) = mat x 46 + j + 3 by unfold mat; omega, msh_step] at hw; exact hw) (lv_sub hl [1, 2, 3, 4, 5, 0] rfl)
  exact loop 177 0 _ _ _ (by omega) (by rw [msh_0]; exact hw) (lv_sub hl [1, 2, 3, 4, 5, 0] rfl)

set_option maxRecDepth 100000 in
set_option maxHeartbeats 4000000 in
theorem m_X4_behind {G : zG} {N : Nat} {Λ : zLay} {l : Launch} (hO : zOK G l) (z : zM) {m v q : Nat} (hm : m < 9973) (hv : v < 1000) (hq : q ≤ 6) : zMet G N Λ l yX4_behind cX4_behind 3 (some .int) 0 [.int (nI m), .int (nI v), .int (pI q)] z (some (.int (nI (nx m v q)))) z := by
  refine zMet_of hO (by decide) (Nat.le_of_ble_eq_true rfl) ?_
  intro pP eE sS mM bB tT cC ls C hw hl
  have hl : lv_has ls 3 [(0, .int (nI m)), (1, .int (nI v)), (2, .int (pI q))] := hl
  refine lv_bipush (v := 31) C.x C.b dX4_behind_0 (by decide) ?_
  refine lv_iload_n C.x C.b dX4_behind_2 rfl (lv_at hl 0 rfl) ?_
  refine lv_imul C.x C.b dX4_behind_3 ?_
  refine lv_bipush (v := 17) C.x C.b dX4_behind_4 (by decide) ?_
  refine lv_iload_n C.x C.b dX4_behind_6 rfl (lv_at hl 1 rfl) ?_
  refine lv_imul C.x C.b dX4_behind_7 ?_
  refine lv_iadd C.x C.b dX4_behind_8 ?_
  refine lv_iload_n C.x C.b dX4_behind_9 rfl (lv_at hl 2 rfl) ?_
  refine lv_iadd C.x C.b dX4_behind_10 ?_
  refine lv_iconst (v := 2) C.x C.b dX4_behind_11 (by decide) ?_
  refine lv_iadd C.x C.b dX4_behind_12 ?_
  refine z_topi (y := nI (31 * m + 17 * v + q + 1)) (nx_i m v q) ?_
  refine lv_sipush (v := 9973) C.x C.b dX4_behind_13 (by decide) ?_
  refine lv_irem C.x C.b dX4_behind_16 (by decide) ?_
  refine z_topi (y := nI (nx m v q)) (zrem 9973 (by omega) (by omega) (by omega)) ?_
  exact z_iret C hw dX4_behind_17 (rfl) (rfl)

set_option maxRecDepth 100000 in
set_option maxHeartbeats 4000000 in
theorem m_X4_goesTo {G : zG} {N : Nat} {Λ : zLay} {l : Launch} (hO : zOK G l) (z : zM) (hB : zMo G N Λ) {x m n : Nat} (hn : z.1 273 0 = nI n) (hn2 : 2 ≤ n) (hn6 : n ≤ 6) (hx : x < n) (hm : m < 9973) : zMet G N Λ l yX4_goesTo cX4_goesTo 3 (some .int) 1 [.ref (G.h + 272), .int (nI x), .int (nI m)] z (some (.int (nI (gt x m n)))) z := by
  refine zMet_of hO (by decide) (Nat.le_of_ble_eq_true rfl) ?_
  intro pP eE sS mM bB tT cC ls C hw hl
  have hl : lv_has ls 3 [(0, .ref (G.h + 272)), (1, .int (nI x)), (2, .int (nI m))] := hl
  have h1 : m % (n - 1) < n - 1 := Nat.mod_lt _ (by omega)
  refine lv_iload_n C.x C.b dX4_goesTo_0 rfl (lv_at hl 1 rfl) ?_
  refine lv_iconst (v := 1) C.x C.b dX4_goesTo_1 (by decide) ?_
  refine lv_iadd C.x C.b dX4_goesTo_2 ?_
  refine z_topi (y := nI (x + 1)) (nI_1 _) ?_
  refine lv_iload_n C.x C.b dX4_goesTo_3 rfl (lv_at hl 2 rfl) ?_
  refine lv_aload_n C.x C.b dX4_goesTo_4 rfl (lv_at hl 0 rfl) ?_
  refine z_Vv (As := []) (rest := [.int (nI m), .int (nI (x + 1))]) C hw hl (m_X4_many hO _ hB hn) ivX4_66 hB.lt (hB.at _ _) rfl rfl ⟨(Nat.le_of_ble_eq_true rfl), (Nat.le_of_ble_eq_true rfl)⟩ (Nat.le_of_ble_eq_true rfl) ⟨Nat.zero_le _, Nat.zero_le _⟩ dX4_goesTo_5 (fun H locs hw => ?_)
  refine lv_iconst (v := 1) C.x C.b dX4_goesTo_8 (by decide) ?_
  refine lv_isub C.x C.b dX4_goesTo_9 ?_
  refine z_topi (y := nI (n - 1)) (by rw [zlit 1, zsub (by omega)]) ?_
  refine lv_irem C.x C.b dX4_goesTo_10 (nI_ne0 (by omega) (by omega)) ?_
  refine z_topi (y := nI (m % (n - 1))) (zrem (n - 1) (by omega) (by omega) (by omega)) ?_
  refine lv_iadd C.x C.b dX4_goesTo_11 ?_
  refine z_topi (y := nI (x + 1 + m % (n - 1))) (nI_add _ _) ?_
  refine lv_aload_n C.x C.b dX4_goesTo_12 rfl (lv_at hl 0 rfl) ?_
  refine z_Vv (As := []) (rest := [.int (nI (x + 1 + m % (n - 1)))]) C hw hl (m_X4_many hO _ hB hn) ivX4_66 hB.lt (hB.at _ _) rfl rfl ⟨(Nat.le_of_ble_eq_true rfl), (Nat.le_of_ble_eq_true rfl)⟩ (Nat.le_of_ble_eq_true rfl) ⟨Nat.zero_le _, Nat.zero_le _⟩ dX4_goesTo_13 (fun H locs hw => ?_)
  refine lv_irem C.x C.b dX4_goesTo_16 (nI_ne0 (by omega) (by omega)) ?_
  refine z_topi (y := nI (gt x m n)) (zrem n (by omega) (by omega) (by omega)) ?_
  exact z_iret C hw dX4_goesTo_17 (rfl) (rfl)

set_option maxRecDepth 100000 in
set_option maxHeartbeats 4000000 in
theorem m_X4_puts {G : zG} {N : Nat} {Λ : zLay} {l : Launch} (hO : zOK G l) (z : zM) (hB : zMo G N Λ) {p : Nat} (hp : p + 5 ≤ 2921) {v0 v1 v2 v3 v4 : Int32} : zMet G N Λ l yX4_puts cX4_puts 7 none 0 [.ref (G.h + 272), .int (nI p), .int v0, .int v1, .int v2, .int v3, .int v4] z none (mpt z p v0 v1 v2 v3 v4) := by
  refine zMet_of hO (by decide) (Nat.le_of_ble_eq_true rfl) ?_
  intro pP eE sS mM bB tT cC ls C hw hl
  have hl : lv_has ls 7 [(0, .ref (G.h + 272)), (1, .int (nI p)), (2, .int v0), (3, .int v1), (4, .int v2), (5, .int v3), (6, .int v4)] := hl
  refine lv_aload_n C.x C.b dX4_puts_0 rfl (lv_at hl 0 rfl) ?_
  refine z_get C hw hB.lt (hB.at _ _) flX4_7 rfl dX4_puts_1 ?_
  refine lv_iload_n C.x C.b dX4_puts_4 rfl (lv_at hl 1 rfl) ?_
  refine lv_iload_n C.x C.b dX4_puts_5 rfl (lv_at hl 2 rfl) ?_
  refine z_iast C hw hB.ltn hB.now (zvin (x := p) (by omega) (by omega)) dX4_puts_6 (fun H locs hw => ?_)
  have e8 : (nI p).toNatClampNeg = p := zcl (x := p) (n := 2921) (by omega) (by omega)
  rw [e8] at hw
  obtain ⟨z_1, ez_1⟩ : ∃ q_9, q_9 = zi z 273 p v0 := ⟨_, rfl⟩
  have hw : zS G N Λ z_1 sS H locs := by rw [ez_1]; exact hw
  refine lv_aload_n C.x C.b dX4_puts_7 rfl (lv_at hl 0 rfl) ?_
  refine z_get C hw hB.lt (hB.at _ _) flX4_7 rfl dX4_puts_8 ?_
  refine lv_iload_n C.x C.b dX4_puts_11 rfl (lv_at hl 1 rfl) ?_
  refine lv_iconst (v := 1) C.x C.b dX4_puts_12 (by decide) ?_
  refine lv_iadd C.x C.b dX4_puts_13 ?_
  refine z_topi (y := nI (p + 1)) (by rw [zlit 1, nI_add]) ?_
  refine lv_iload_n C.x C.b dX4_puts_14 rfl (lv_at hl 3 rfl) ?_
  refine z_iast C hw hB.ltn hB.now (zvin (x := p + 1) (by omega) (by omega)) dX4_puts_15 (fun H locs hw => ?_)
  have e8 : (nI (p + 1)).toNatClampNeg = (p + 1) := zcl (x := p + 1) (n := 2921) (by omega) (by omega)
  rw [e8] at hw
  obtain ⟨z_2, ez_2⟩ : ∃ q_9, q_9 = zi z_1 273 (p + 1) v1 := ⟨_, rfl⟩
  have hw : zS G N Λ z_2 sS H locs := by rw [ez_2]; exact hw
  refine lv_aload_n C.x C.b dX4_puts_16 rfl (lv_at hl 0 rfl) ?_
  refine z_get C hw hB.lt (hB.at _ _) flX4_7 rfl dX4_puts_17 ?_
  refine lv_iload_n C.x C.b dX4_puts_20 rfl (lv_at hl 1 rfl) ?_
  refine lv_iconst (v := 2) C.x C.b dX4_puts_21 (by decide) ?_
  refine lv_iadd C.x C.b dX4_puts_22 ?_
  refine z_topi (y := nI (p + 2)) (by rw [zlit 2, nI_add]) ?_
  refine lv_iload C.x C.b dX4_puts_23 (lv_at hl 4 rfl) ?_
  refine z_iast C hw hB.ltn hB.now (zvin (x := p + 2) (by omega) (by omega)) dX4_puts_25 (fun H locs hw => ?_)
  have e8 : (nI (p + 2)).toNatClampNeg = (p + 2) := zcl (x := p + 2) (n := 2921) (by omega) (by omega)
  rw [e8] at hw
  obtain ⟨z_3, ez_3⟩ : ∃ q_9, q_9 = zi z_2 273 (p + 2) v2 := ⟨_, rfl⟩
  have hw : zS G N Λ z_3 sS H locs := by rw [ez_3]; exact hw
  refine z_pc (pc2 := 26) rfl ?_
  refine lv_aload_n C.x C.b dX4_puts_26 rfl (lv_at hl 0 rfl) ?_
  refine z_get C hw hB.lt (hB.at _ _) flX4_7 rfl dX4_puts_27 ?_
  refine lv_iload_n C.x C.b dX4_puts_30 rfl (lv_at hl 1 rfl) ?_
  refine lv_iconst (v := 3) C.x C.b dX4_puts_31 (by decide) ?_
  refine lv_iadd C.x C.b dX4_puts_32 ?_
  refine z_topi (y := nI (p + 3)) (by rw [zlit 3, nI_add]) ?_
  refine lv_iload C.x C.b dX4_puts_33 (lv_at hl 5 rfl) ?_
  refine z_iast C hw hB.ltn hB.now (zvin (x := p + 3) (by omega) (by omega)) dX4_puts_35 (fun H locs hw => ?_)
  have e8 : (nI (p + 3)).toNatClampNeg = (p + 3) := zcl (x := p + 3) (n := 2921) (by omega) (by omega)
  rw [e8] at hw
  obtain ⟨z_4, ez_4⟩ : ∃ q_9, q_9 = zi z_3 273 (p + 3) v3 := ⟨_, rfl⟩
  have hw : zS G N Λ z_4 sS H locs := by rw [ez_4]; exact hw
  refine lv_aload_n C.x C.b dX4_puts_36 rfl (lv_at hl 0 rfl) ?_
  refine z_get C hw hB.lt (hB.at _ _) flX4_7 rfl dX4_puts_37 ?_
  refine lv_iload_n C.x C.b dX4_puts_40 rfl (lv_at hl 1 rfl) ?_
  refine lv_iconst (v := 4) C.x C.b dX4_puts_41 (by decide) ?_
  refine lv_iadd C.x C.b dX4_puts_42 ?_
  refine z_topi (y := nI (p + 4)) (by rw [zlit 4, nI_add]) ?_
  refine lv_iload C.x C.b dX4_puts_43 (lv_at hl 6 rfl) ?_
  refine z_iast C hw hB.ltn hB.now (zvin (x := p + 4) (by omega) (by omega)) dX4_puts_45 (fun H locs hw => ?_)
  have e8 : (nI (p + 4)).toNatClampNeg = (p + 4) := zcl (x := p + 4) (n := 2921) (by omega) (by omega)
  rw [e8] at hw
  obtain ⟨z_5, ez_5⟩ : ∃ q_9, q_9 = zi z_4 273 (p + 4) v4 := ⟨_, rfl⟩
  have hw : zS G N Λ z_5 sS H locs := by rw [ez_5]; exact hw
  exact z_vret C hw dX4_puts_46 (rfl) (by rw [ez_5, ez_4, ez_3, ez_2, ez_1]; rfl)

set_option maxRecDepth 100000 in
set_option maxHeartbeats 4000000 in
theorem m_X4_hasRoom {G : zG} {N : Nat} {Λ : zLay} {l : Launch} (hO : zOK G l) (z : zM) (hB : zMo G N Λ) {x k : Nat} (hx6 : x < 6) (hk : z.1 273 (mat x 4) = nI k) (hk2 : k ≤ 40) : zMet G N Λ l yX4_hasRoom cX4_hasRoom 2 (some .boolean) 2 [.ref (G.h + 272), .int (nI x)] z (some (.int (if k ≤ 38 then 1 else 0))) z := by
  refine zMet_of hO (by decide) (Nat.le_of_ble_eq_true rfl) ?_
  intro pP eE sS mM bB tT cC ls C hw hl
  have hl : lv_has ls 2 [(0, .ref (G.h + 272)), (1, .int (nI x))] := hl
  refine lv_aload_n C.x C.b dX4_hasRoom_0 rfl (lv_at hl 0 rfl) ?_
  refine lv_iload_n C.x C.b dX4_hasRoom_1 rfl (lv_at hl 1 rfl) ?_
  refine lv_iconst (v := 4) C.x C.b dX4_hasRoom_2 (by decide) ?_
  refine z_Vv (As := [.int (nI x), .int 4]) (rest := []) C hw hl (m_X4_get hO _ hB (o := 4) (mat_lt2 hx6 (by omega))) ivX4_40 hB.lt (hB.at _ _) rfl rfl ⟨(Nat.le_of_ble_eq_true rfl), (Nat.le_of_ble_eq_true rfl)⟩ (Nat.le_of_ble_eq_true rfl) ⟨Nat.zero_le _, Nat.zero_le _⟩ dX4_hasRoom_3 (fun H locs hw => ?_)
  refine z_topi (y := nI k) (hk) ?_
  refine lv_bipush (v := 38) C.x C.b dX4_hasRoom_6 (by decide) ?_
  refine lv_icmp_gt (tgt := 15) C.x C.b dX4_hasRoom_8 (by decide) (fun c_8 => ?_) (fun c_8 => ?_)
  · refine lv_iconst (v := 0) C.x C.b dX4_hasRoom_15 (by decide) ?_
    exact z_zret C hw dX4_hasRoom_16 (by decide) (by rw [if_neg (fun h => absurd c_8 (znlt (a := 38) (by omega) h))]) (rfl)
  · refine lv_iconst (v := 1) C.x C.b dX4_hasRoom_11 (by decide) ?_
    refine lv_goto (tgt := 16) C.x C.b dX4_hasRoom_12 (by decide) ?_
    exact z_zret C hw dX4_hasRoom_16 (by decide) (by rw [if_pos (Nat.le_of_not_lt (fun h => c_8 (zlt (a := 38) (by omega) h)))]) (rfl)

set_option maxRecDepth 100000 in
set_option maxHeartbeats 4000000 in
theorem m_X4_refused {G : zG} {N : Nat} {Λ : zLay} {l : Launch} (hO : zOK G l) (z : zM) (hB : zMo G N Λ) {w : Nat} (hw9 : w < 10) : zMet G N Λ l yX4_refused cX4_refused 2 (some .boolean) 0 [.ref (G.h + 272), .int (nI w)] z (some (.int (if w = 0 then 0 else 1))) (zi z 272 3 (nI w)) := by
  refine zMet_of hO (by decide) (Nat.le_of_ble_eq_true rfl) ?_
  intro pP eE sS mM bB tT cC ls C hw hl
  have hl : lv_has ls 2 [(0, .ref (G.h + 272)), (1, .int (nI w))] := hl
  refine lv_aload_n C.x C.b dX4_refused_0 rfl (lv_at hl 0 rfl) ?_
  refine lv_iload_n C.x C.b dX4_refused_1 rfl (lv_at hl 1 rfl) ?_
  refine z_put C hw hB.lt (hB.at _ _) ptX4_20 (hB.at _ _) (rfl) (rfl) (Nat.le_of_ble_eq_true rfl) dX4_refused_2 (fun H locs hw => ?_)
  obtain ⟨z_1, ez_1⟩ : ∃ q_9, q_9 = zi z 272 3 (nI w) := ⟨_, rfl⟩
  have hw : zS G N Λ z_1 sS H locs := by rw [ez_1]; exact hw
  refine lv_iload_n C.x C.b dX4_refused_5 rfl (lv_at hl 1 rfl) ?_
  refine lv_if_le (tgt := 13) C.x C.b dX4_refused_6 (by decide) (fun c_6 => ?_) (fun c_6 => ?_)
  · refine lv_iconst (v := 0) C.x C.b dX4_refused_13 (by decide) ?_
    exact z_zret C hw dX4_refused_14 (by decide) (by rw [if_pos (by
        rcases Nat.eq_zero_or_pos w with q | q
        · exact q
        · exact absurd c_6 (nI_nle q (by omega)))]) (ez_1.symm)
  · refine lv_iconst (v := 1) C.x C.b dX4_refused_9 (by decide) ?_
    refine lv_goto (tgt := 14) C.x C.b dX4_refused_10 (by decide) ?_
    exact z_zret C hw dX4_refused_14 (by decide) (by rw [if_neg (fun q => c_6 (by rw [q]; decide))]) (ez_1.symm)

set_option maxRecDepth 100000 in
set_option maxHeartbeats 4000000 in
theorem m_X4_thrown {G : zG} {N : Nat} {Λ : zLay} {l : Launch} (hO : zOK G l) (z : zM) (hB : zMo G N Λ) {w : Nat} (hw9 : z.1 272 3 = nI w) : zMet G N Λ l yX4_thrown cX4_thrown 1 (some .int) 0 [.ref (G.h + 272)] z (some (.int (nI w))) z := by
  refine zMet_of hO (by decide) (Nat.le_of_ble_eq_true rfl) ?_
  intro pP eE sS mM bB tT cC ls C hw hl
  have hl : lv_has ls 1 [(0, .ref (G.h + 272))] := hl
  refine lv_aload_n C.x C.b dX4_thrown_0 rfl (lv_at hl 0 rfl) ?_
  refine z_get C hw hB.lt (hB.at _ _) flX4_20 rfl dX4_thrown_1 ?_
  refine z_topi (y := nI w) (hw9) ?_
  exact z_iret C hw dX4_thrown_4 (rfl) (rfl)
