theorem mHeld.at {z : zM} {x : Nat} {T : aT} (h : mHeld z x T) {j c : Nat} (hj : j < T.1) (hc : c < 3) : z.1 273 (mat x (46 + 3 * j + c)) = nI (T.2 j c) := by
  rw [show mat x (46 + 3 * j + c) = mat x (46 + 3 * j) + c by unfold mat; omega]
  exact h.2.2 j hj c hc
theorem mbit_dec : ∀ k, k < 64 → ∀ w, w < 6 → (nI k >>> (nI w &&& 31)) &&& 1 = if k.testBit w = true then (1 : Int32) else 0 := by decide +kernel
theorem okM.wit64 {n x : Nat} {M : aM} (h : okM n x M) (hn : n ≤ 6) : M.wit < 64 := Nat.lt_of_lt_of_le h.1.2.2.2.1 (Nat.pow_le_pow_right (by omega) hn)
theorem belA_on {S : aS} {x d y : Nat} (h : (S.m y).sil = 0 → bel (S.m y).held (S.m x).log x (S.m y).held.1 0 = none) : belA S x (d + 1) y = belA S x d (y + 1) := by
  rw [belA]
  by_cases hs : (S.m y).sil = 0
  · rw [if_pos hs, h hs]
  · rw [if_neg hs]
theorem belA_hit {S : aS} {x d y e : Nat} (hs : (S.m y).sil = 0) (h : bel (S.m y).held (S.m x).log x (S.m y).held.1 0 = some e) : belA S x (d + 1) y = some e := by
  rw [belA, if_pos hs, h]
/-- the replay, with the entry that is due -/
def rpd (r : Nat → Nat → Nat) (k x n f j st : Nat) (du : Option Nat) : Option Nat := match du with
  | none => rpl r k x n f j st
  | some e => if j < k ∧ pk (r j 0) (r j 1) (r j 2) = e then rpl r k x n f (j + 1) st else some j
theorem pk_inj {a q v a' q' v' : Nat} (hq : q ≤ 6) (hv : v < 1000) (hq' : q' ≤ 6) (hv' : v' < 1000) : pk a q v = pk a' q' v' ↔ a = a' ∧ q = q' ∧ v = v' := by
  unfold pk
  constructor
  · intro h; omega
  · rintro ⟨rfl, rfl, rfl⟩; rfl
theorem rpd_due {r : Nat → Nat → Nat} {k x n f j st : Nat} (hr : okRow r k) (hn2 : 2 ≤ n) (hn6 : n ≤ 6) (hj : j < k) (h2 : ¬ r j 0 = 2) (h3 : nx st (r j 2) (r j 1) % 3 = 0) : rpl r k x n (f + 1) j st = rpd r k x n f (j + 1) (nx st (r j 2) (r j 1)) (some (pk 2 (gt x (nx st (r j 2) (r j 1)) n + 1) (nx st (r j 2) (r j 1) % 1000))) := by
  rw [rpl, if_neg (by omega), if_neg h2, if_pos h3, rpd]
  refine ite_congr ?_ (fun _ => rfl) (fun _ => rfl)
  have hg := gt_lt (x := x) (m := nx st (r j 2) (r j 1)) hn2
  refine propext ⟨fun ⟨a, b⟩ => ⟨a, ?_⟩, fun ⟨a, b⟩ => ⟨a, ?_⟩⟩
  · rw [b.1, b.2.1, b.2.2]
  · have h1 := hr (j + 1) a
    exact (pk_inj h1.2.1 h1.2.2 (by omega) (Nat.mod_lt _ (by omega))).mp b
theorem rpd_on {r : Nat → Nat → Nat} {k x n f j st : Nat} (hj : j < k) (h2 : ¬ r j 0 = 2) (h3 : ¬ nx st (r j 2) (r j 1) % 3 = 0) : rpl r k x n (f + 1) j st = rpd r k x n f (j + 1) (nx st (r j 2) (r j 1)) none := by
  rw [rpl, if_neg (by omega), if_neg h2, if_neg h3, rpd]
def mpv (z : zM) (k : Nat) (a b c d : Int32) : zM := zi (zi (zi (zi (zi z 273 (2801 + 4 * k) a) 273 (2801 + 4 * k + 1) b) 273 (2801 + 4 * k + 2) c) 273 (2801 + 4 * k + 3) d) 273 2800 (nI (k + 1))
theorem mpv_mfr (z : zM) {k : Nat} (hk : k < 30) (a b c d : Int32) : mfr z (mpv z k a b c d) 2800 121 := ((((zi_mfr _ _ _).mono (by omega) (by omega)).tr ((zi_mfr _ _ _).mono (by omega) (by omega))).tr (((zi_mfr _ _ _).mono (by omega) (by omega)).tr ((zi_mfr _ _ _).mono (by omega) (by omega)))).tr ((zi_mfr _ _ _).mono (by omega) (by omega))
theorem mpv_E {z : zM} {T : aT} (h : mE z T) (hk : T.1 < 30) (a b c d : Nat) : mE (mpv z T.1 (nI a) (nI b) (nI c) (nI d)) (tpush T (row4 a b c d)) := by
  refine ⟨hk, ?_, fun j hj k hk4 => ?_⟩
  · unfold mpv; rw [zi_at, if_pos ⟨rfl, rfl⟩]; rfl
  · have hj : j < T.1 + 1 := hj
    show _ = nI (va_up T.2 T.1 (row4 a b c d) j k)
    unfold mpv
    rw [zi_at, if_neg (by omega), zi_at, zi_at, zi_at, zi_at]
    by_cases hjk : j = T.1
    · subst hjk
      rw [va_up_self]
      rcases (show k = 0 ∨ k = 1 ∨ k = 2 ∨ k = 3 by omega) with rfl | rfl | rfl | rfl
      · rw [if_neg (by omega), if_neg (by omega), if_neg (by omega), if_pos ⟨rfl, rfl⟩]; rfl
      · rw [if_neg (by omega), if_neg (by omega), if_pos ⟨rfl, rfl⟩]; rfl
      · rw [if_neg (by omega), if_pos ⟨rfl, rfl⟩]; rfl
      · rw [if_pos ⟨rfl, rfl⟩]; rfl
    · rw [if_neg (by omega), if_neg (by omega), if_neg (by omega), if_neg (by omega), va_up_ne _ _ hjk]
      exact h.2.2 j (by omega) k hk4
def mjz (z : zM) (S : aS) (w x : Nat) : zM := match (jdg S w x).2 with
  | none => z
  | some k => mpv z S.ev.1 (nI k.1) (nI x) (nI w) (nI k.2)
theorem mjz_S {z : zM} {S : aS} (hM : mS z S) (hS : aOK S) {w x : Nat} (hx : x < S.n) (hw : w < S.n) (hne : w ≠ x) : mS (mjz z S w x) (aJ S w x (jdg S w x).2) ∧ mfr z (mjz z S w x) 2800 121 := by
  unfold mjz aJ
  cases hj : (jdg S w x).2 with
  | none => exact ⟨hM, mfr.rf _ _ _⟩
  | some k =>
    obtain ⟨j1, j2, -, -⟩ := jdg_some hS hx hj
    have hk := exps_lt hS hx hw hne j2
    have hf := mpv_mfr z hk (nI k.1) (nI x) (nI w) (nI k.2)
    exact ⟨hM.setE hf (mpv_E hM.e hk _ _ _ _), hf⟩
/-- an audit -/
def maz (z : zM) (S : aS) (w x : Nat) : zM := zi (mjz z S w x) 273 (mat x (427 + w)) (nI (jdg S w x).1)
theorem maz_S {z : zM} {S : aS} (hM : mS z S) (hS : aOK S) {w x : Nat} (hx : x < S.n) (hw : w < S.n) (hne : w ≠ x) : mS (maz z S w x) (aAud S w x) ∧ mfr z (maz z S w x) 0 2921 := by
  obtain ⟨h1, hf⟩ := mjz_S hM hS hx hw hne
  have hn6 := hS.n6
  have hm := h1.m (x := x) (by rw [aJ_n]; exact hx)
  rw [aJ_m] at hm
  have hf2 := (zi_mfr (mjz z S w x) (mat x (427 + w)) (nI (jdg S w x).1))
  refine ⟨h1.setM (by omega) (hf2.mono (by unfold mat; omega) (by unfold mat; omega)) (hm.ver (by omega) _), (hf.mono (by omega) (by omega)).tr (hf2.mono (by omega) (by unfold mat; omega))⟩
set_option maxRecDepth 100000 in
set_option maxHeartbeats 4000000 in
theorem m_X4_isE_y {G : zG} {N : Nat} {Λ : zLay} {l : Launch} (hO : zOK G l) (z : zM) (hB : zMo G N Λ) {S : aS} (hM : mS z S) (hS : aOK S) {x : Nat} (hx : x < S.n) (hx6 : x < 6) {e : Nat} (he : e < (S.m x).log.1) : zMet G N Λ l yX4_isEntry cX4_isEntry 3 (some .boolean) 2 [.ref (G.h + 272), .int (nI x), .int (nI e)] z (some (.int 1)) z := by
  refine zMet_of hO (by decide) (Nat.le_of_ble_eq_true rfl) ?_
  intro pP eE sS mM bB tT cC ls C hw hl
  have hl : lv_has ls 3 [(0, .ref (G.h + 272)), (1, .int (nI x)), (2, .int (nI e))] := hl
  have hn6 := hS.n6
  have hmx := hM.m hx
  have hox := hS.m hx
  have hl40 := hox.log.1
  refine lv_aload_n C.x C.b dX4_isEntry_0 rfl (lv_at hl 0 rfl) ?_
  refine lv_iload_n C.x C.b dX4_isEntry_1 rfl (lv_at hl 1 rfl) ?_
  refine z_Vv (As := [.int (nI x)]) (rest := []) C hw hl (m_X4_isM_y hO _ hB hM.n hn6 hx) ivX4_104 hB.lt (hB.at _ _) rfl rfl ⟨(Nat.le_of_ble_eq_true rfl), (Nat.le_of_ble_eq_true rfl)⟩ (Nat.le_of_ble_eq_true rfl) ⟨Nat.zero_le _, Nat.zero_le _⟩ dX4_isEntry_2 (fun H locs hw => ?_)
  refine lv_if_eq (tgt := 28) C.x C.b dX4_isEntry_5 (by decide) (fun c_5 => absurd c_5 (by decide)) (fun c_5 => ?_)
  refine lv_iload_n C.x C.b dX4_isEntry_8 rfl (lv_at hl 2 rfl) ?_
  refine lv_iconst (v := 0) C.x C.b dX4_isEntry_9 (by decide) ?_
  refine lv_aload_n C.x C.b dX4_isEntry_10 rfl (lv_at hl 0 rfl) ?_
  refine lv_iload_n C.x C.b dX4_isEntry_11 rfl (lv_at hl 1 rfl) ?_
  refine lv_iconst (v := 4) C.x C.b dX4_isEntry_12 (by decide) ?_
  refine z_Vv (As := [.int (nI x), .int 4]) (rest := [.int 0, .int (nI e)]) C hw hl (m_X4_get hO _ hB (o := 4) (mat_lt2 hx6 (by omega))) ivX4_40 hB.lt (hB.at _ _) rfl rfl ⟨(Nat.le_of_ble_eq_true rfl), (Nat.le_of_ble_eq_true rfl)⟩ (Nat.le_of_ble_eq_true rfl) ⟨Nat.zero_le _, Nat.zero_le _⟩ dX4_isEntry_13 (fun H locs hw => ?_)
  refine z_topi (y := nI (S.m x).log.1) (hmx.2.1.2.1) ?_
  refine lv_iconst (v := 1) C.x C.b dX4_isEntry_16 (by decide) ?_
  refine lv_isub C.x C.b dX4_isEntry_17 ?_
  refine z_Sv (As := [.int (nI e), .int 0, .int ((nI (S.m x).log.1) - 1)]) (rest := []) C hw hl (m_X4_wy hO _ ((isM_w (by omega)).mpr ⟨e, he, rfl⟩)) ivX4_24 rfl rfl ⟨(Nat.le_of_ble_eq_true rfl), (Nat.le_of_ble_eq_true rfl)⟩ (Nat.le_of_ble_eq_true rfl) ⟨Nat.zero_le _, Nat.zero_le _⟩ dX4_isEntry_18 (fun H locs hw => ?_)
  refine lv_if_eq (tgt := 28) C.x C.b dX4_isEntry_21 (by decide) (fun c_21 => absurd c_21 (by decide)) (fun c_21 => ?_)
  refine lv_iconst (v := 1) C.x C.b dX4_isEntry_24 (by decide) ?_
  refine lv_goto (tgt := 29) C.x C.b dX4_isEntry_25 (by decide) ?_
  exact z_zret C hw dX4_isEntry_29 (by decide) (rfl) (rfl)

set_option maxRecDepth 100000 in
set_option maxHeartbeats 4000000 in
theorem m_X4_isE_n2 {G : zG} {N : Nat} {Λ : zLay} {l : Launch} (hO : zOK G l) (z : zM) (hB : zMo G N Λ) {S : aS} (hM : mS z S) (hS : aOK S) {x : Nat} (hx : x < S.n) (hx6 : x < 6) {e : Int32} (he : ¬ isM e (S.m x).log.1) : zMet G N Λ l yX4_isEntry cX4_isEntry 3 (some .boolean) 2 [.ref (G.h + 272), .int (nI x), .int e] z (some (.int 0)) z := by
  refine zMet_of hO (by decide) (Nat.le_of_ble_eq_true rfl) ?_
  intro pP eE sS mM bB tT cC ls C hw hl
  have hl : lv_has ls 3 [(0, .ref (G.h + 272)), (1, .int (nI x)), (2, .int e)] := hl
  have hn6 := hS.n6
  have hmx := hM.m hx
  have hox := hS.m hx
  have hl40 := hox.log.1
  refine lv_aload_n C.x C.b dX4_isEntry_0 rfl (lv_at hl 0 rfl) ?_
  refine lv_iload_n C.x C.b dX4_isEntry_1 rfl (lv_at hl 1 rfl) ?_
  refine z_Vv (As := [.int (nI x)]) (rest := []) C hw hl (m_X4_isM_y hO _ hB hM.n hn6 hx) ivX4_104 hB.lt (hB.at _ _) rfl rfl ⟨(Nat.le_of_ble_eq_true rfl), (Nat.le_of_ble_eq_true rfl)⟩ (Nat.le_of_ble_eq_true rfl) ⟨Nat.zero_le _, Nat.zero_le _⟩ dX4_isEntry_2 (fun H locs hw => ?_)
  refine lv_if_eq (tgt := 28) C.x C.b dX4_isEntry_5 (by decide) (fun c_5 => absurd c_5 (by decide)) (fun c_5 => ?_)
  refine lv_iload_n C.x C.b dX4_isEntry_8 rfl (lv_at hl 2 rfl) ?_
  refine lv_iconst (v := 0) C.x C.b dX4_isEntry_9 (by decide) ?_
  refine lv_aload_n C.x C.b dX4_isEntry_10 rfl (lv_at hl 0 rfl) ?_
  refine lv_iload_n C.x C.b dX4_isEntry_11 rfl (lv_at hl 1 rfl) ?_
  refine lv_iconst (v := 4) C.x C.b dX4_isEntry_12 (by decide) ?_
  refine z_Vv (As := [.int (nI x), .int 4]) (rest := [.int 0, .int e]) C hw hl (m_X4_get hO _ hB (o := 4) (mat_lt2 hx6 (by omega))) ivX4_40 hB.lt (hB.at _ _) rfl rfl ⟨(Nat.le_of_ble_eq_true rfl), (Nat.le_of_ble_eq_true rfl)⟩ (Nat.le_of_ble_eq_true rfl) ⟨Nat.zero_le _, Nat.zero_le _⟩ dX4_isEntry_13 (fun H locs hw => ?_)
  refine z_topi (y := nI (S.m x).log.1) (hmx.2.1.2.1) ?_
  refine lv_iconst (v := 1) C.x C.b dX4_isEntry_16 (by decide) ?_
  refine lv_isub C.x C.b dX4_isEntry_17 ?_
  refine z_Sv (As := [.int e, .int 0, .int ((nI (S.m x).log.1) - 1)]) (rest := []) C hw hl (m_X4_wn hO _ (fun q => he ((isM_w (by omega)).mp q))) ivX4_24 rfl rfl ⟨(Nat.le_of_ble_eq_true rfl), (Nat.le_of_ble_eq_true rfl)⟩ (Nat.le_of_ble_eq_true rfl) ⟨Nat.zero_le _, Nat.zero_le _⟩ dX4_isEntry_18 (fun H locs hw => ?_)
  refine lv_if_eq (tgt := 28) C.x C.b dX4_isEntry_21 (by decide) (fun c_21 => ?_) (fun c_21 => absurd (rfl) c_21)
  refine lv_iconst (v := 0) C.x C.b dX4_isEntry_28 (by decide) ?_
  exact z_zret C hw dX4_isEntry_29 (by decide) (rfl) (rfl)

set_option maxRecDepth 100000 in
set_option maxHeartbeats 4000000 in
theorem m_X4_isE_n1 {G : zG} {N : Nat} {Λ : zLay} {l : Launch} (hO : zOK G l) (z : zM) (hB : zMo G N Λ) {S : aS} (hM : mS z S) (hS : aOK S) {v e : Int32} (hv : ¬ isM v S.n) : zMet G N Λ l yX4_isEntry cX4_isEntry 3 (some .boolean) 2 [.ref (G.h + 272), .int v, .int e] z (some (.int 0)) z := by
  refine zMet_of hO (by decide) (Nat.le_of_ble_eq_true rfl) ?_
  intro pP eE sS mM bB tT cC ls C hw hl
  have hl : lv_has ls 3 [(0, .ref (G.h + 272)), (1, .int v), (2, .int e)] := hl
  have hn6 := hS.n6
  refine lv_aload_n C.x C.b dX4_isEntry_0 rfl (lv_at hl 0 rfl) ?_
  refine lv_iload_n C.x C.b dX4_isEntry_1 rfl (lv_at hl 1 rfl) ?_
  refine z_Vv (As := [.int v]) (rest := []) C hw hl (m_X4_isM_n hO _ hB hM.n hS.n2 hn6 hv) ivX4_104 hB.lt (hB.at _ _) rfl rfl ⟨(Nat.le_of_ble_eq_true rfl), (Nat.le_of_ble_eq_true rfl)⟩ (Nat.le_of_ble_eq_true rfl) ⟨Nat.zero_le _, Nat.zero_le _⟩ dX4_isEntry_2 (fun H locs hw => ?_)
  refine lv_if_eq (tgt := 28) C.x C.b dX4_isEntry_5 (by decide) (fun c_5 => ?_) (fun c_5 => absurd (rfl) c_5)
  refine lv_iconst (v := 0) C.x C.b dX4_isEntry_28 (by decide) ?_
  exact z_zret C hw dX4_isEntry_29 (by decide) (rfl) (rfl)

set_option maxRecDepth 100000 in
set_option maxHeartbeats 4000000 in
theorem m_X4_isWitness {G : zG} {N : Nat} {Λ : zLay} {l : Launch} (hO : zOK G l) (z : zM) (hB : zMo G N Λ) {S : aS} (hM : mS z S) (hS : aOK S) {x : Nat} (hx : x < S.n) (hx6 : x < 6) {w : Nat} (hw6 : w < 6) : zMet G N Λ l yX4_isWitness cX4_isWitness 3 (some .boolean) 2 [.ref (G.h + 272), .int (nI w), .int (nI x)] z (some (.int (if (S.m x).wit.testBit w = true then 1 else 0))) z := by
  refine zMet_of hO (by decide) (Nat.le_of_ble_eq_true rfl) ?_
  intro pP eE sS mM bB tT cC ls C hw hl
  have hl : lv_has ls 3 [(0, .ref (G.h + 272)), (1, .int (nI w)), (2, .int (nI x))] := hl
  have hn6 := hS.n6
  have hmx := hM.m hx
  have hox := hS.m hx
  have hl40 := hox.log.1
  refine lv_aload_n C.x C.b dX4_isWitness_0 rfl (lv_at hl 0 rfl) ?_
  refine lv_iload_n C.x C.b dX4_isWitness_1 rfl (lv_at hl 2 rfl) ?_
  refine lv_iconst (v := 3) C.x C.b dX4_isWitness_2 (by decide) ?_
  refine z_Vv (As := [.int (nI x), .int 3]) (rest := []) C hw hl (m_X4_get hO _ hB (o := 3) (mat_lt2 hx6 (by omega))) ivX4_40 hB.lt (hB.at _ _) rfl rfl ⟨(Nat.le_of_ble_eq_true rfl), (Nat.le_of_ble_eq_true rfl)⟩ (Nat.le_of_ble_eq_true rfl) ⟨Nat.zero_le _, Nat.zero_le _⟩ dX4_isWitness_3 (fun H locs hw => ?_)
  refine z_topi (y := nI (S.m x).wit) (hmx.1.2.2.2) ?_
  refine lv_iload_n C.x C.b dX4_isWitness_6 rfl (lv_at hl 1 rfl) ?_
  refine lv_ishr C.x C.b dX4_isWitness_7 ?_
  refine lv_iconst (v := 1) C.x C.b dX4_isWitness_8 (by decide) ?_
  refine lv_iand C.x C.b dX4_isWitness_9 ?_
  refine z_topi (y := if (S.m x).wit.testBit w = true then (1 : Int32) else 0) (mbit_dec _ (hox.wit64 hn6) _ hw6) ?_
  refine lv_iconst (v := 1) C.x C.b dX4_isWitness_10 (by decide) ?_
  refine lv_icmp_ne (tgt := 18) C.x C.b dX4_isWitness_11 (by decide) (fun c_11 => ?_) (fun c_11 => ?_)
  · refine lv_iconst (v := 0) C.x C.b dX4_isWitness_18 (by decide) ?_
    exact z_zret C hw dX4_isWitness_19 (by decide) (by rw [if_neg (fun q => c_11 (by rw [if_pos q]))]) (rfl)
  · refine lv_iconst (v := 1) C.x C.b dX4_isWitness_14 (by decide) ?_
    refine lv_goto (tgt := 19) C.x C.b dX4_isWitness_15 (by decide) ?_
    exact z_zret C hw dX4_isWitness_19 (by decide) (by
        by_cases h9 : (S.m x).wit.testBit w = true
        · rw [if_pos h9]
        · rw [if_neg h9] at c_11; exact absurd c_11 (by decide)) (rfl)

set_option maxRecDepth 100000 in
set_option maxHeartbeats 4000000 in
theorem m_X4_mismatch {G : zG} {N : Nat} {Λ : zLay} {l : Launch} (hO : zOK G l) (z : zM) (hB : zMo G N Λ) {S : aS} (hM : mS z S) (hS : aOK S) {x : Nat} (hx : x < S.n) (hx6 : x < 6) : zMet G N Λ l yX4_mismatch cX4_mismatch 6 (some .int) 4 [.ref (G.h + 272), .int (nI x)] z (some (.int (oI (belA S x S.n 0)))) z := by
  refine zMet_of hO (by decide) (Nat.le_of_ble_eq_true rfl) ?_
  intro pP eE sS mM bB tT cC ls C hw hl
  have hl : lv_has ls 6 [(0, .ref (G.h + 272)), (1, .int (nI x))] := hl
  have hn6 := hS.n6
  have hmx := hM.m hx
  have hox := hS.m hx
  have hl40 := hox.log.1
  refine lv_iconst (v := 0) C.x C.b dX4_mismatch_0 (by decide) ?_
  refine lv_istore_n (lv' := [(2, .int 0), (0, .ref (G.h + 272)), (1, .int (nI x))]) C.x C.b dX4_mismatch_1 rfl hl (by decide) rfl (fun ls hl => ?_)
  have loop : ∀ (d : Nat) (y : Nat) (H : Heap) (locs : List Loc) (ls : Array Slot) (hy : y + d = S.n) (hb : belA S x S.n 0 = belA S x d y), zS G N Λ z sS H locs → lv_has ls 6 [(0, .ref (G.h + 272)), (1, .int (nI x)), (2, .int (nI y))] → W pP l eE (zR 4) sS mM ([.ref (G.h + 272), .int (nI x)] : List Value).toArray bB tT cC H locs 0 0 (MQ bB (zQc G N Λ (some (.int (oI (belA S x S.n 0)))) z) ([.ref (G.h + 272), .int (nI x)] : List Value).toArray sS 0 0 (zA G)) (F0 mM 2 ls []) := by
    intro d
    induction d with
    | zero =>
      intro y H locs ls hy hb hw hl
      refine lv_iload_n C.x C.b dX4_mismatch_2 rfl (lv_at hl 2 rfl) ?_
      refine lv_aload_n C.x C.b dX4_mismatch_3 rfl (lv_at hl 0 rfl) ?_
      refine z_Vv (As := []) (rest := [.int (nI y)]) C hw hl (m_X4_many hO _ hB hM.n) ivX4_66 hB.lt (hB.at _ _) rfl rfl ⟨(Nat.le_of_ble_eq_true rfl), (Nat.le_of_ble_eq_true rfl)⟩ (Nat.le_of_ble_eq_true rfl) ⟨Nat.zero_le _, Nat.zero_le _⟩ dX4_mismatch_4 (fun H locs hw => ?_)
      refine lv_icmp_ge (tgt := 125) C.x C.b dX4_mismatch_7 (by decide) (fun c_7 => ?_) (fun c_7 => absurd (zle (by omega) (by omega)) c_7)
      refine lv_iconst (v := -1) C.x C.b dX4_mismatch_125 (by decide) ?_
      exact z_iret C hw dX4_mismatch_126 (by rw [hb]; rfl) (rfl)
    | succ d ih =>
      intro y H locs ls hy hb hw hl
      refine lv_iload_n C.x C.b dX4_mismatch_2 rfl (lv_at hl 2 rfl) ?_
      refine lv_aload_n C.x C.b dX4_mismatch_3 rfl (lv_at hl 0 rfl) ?_
      refine z_Vv (As := []) (rest := [.int (nI y)]) C hw hl (m_X4_many hO _ hB hM.n) ivX4_66 hB.lt (hB.at _ _) rfl rfl ⟨(Nat.le_of_ble_eq_true rfl), (Nat.le_of_ble_eq_true rfl)⟩ (Nat.le_of_ble_eq_true rfl) ⟨Nat.zero_le _, Nat.zero_le _⟩ dX4_mismatch_4 (fun H locs hw => ?_)
      refine lv_icmp_ge (tgt := 125) C.x C.b dX4_mismatch_7 (by decide) (fun c_7 => absurd c_7 (znle (by omega) (by omega))) (fun c_7 => ?_)
      have hyn : y < S.n := by omega
      have hy6 : y < 6 := by omega
      have hmy := hM.m hyn
      have hoy := hS.m hyn
      have hsy := hoy.sil
      have hh60 := hoy.held.1
      refine lv_iconst (v := 0) C.x C.b dX4_mismatch_10 (by decide) ?_
      refine lv_istore_n (lv' := [(3, .int 0), (0, .ref (G.h + 272)), (1, .int (nI x)), (2, .int (nI y))]) C.x C.b dX4_mismatch_11 rfl hl (by decide) rfl (fun ls hl => ?_)
      have loop2 : ∀ (e2 : Nat) (j : Nat) (H : Heap) (locs : List Loc) (ls : Array Slot) (hj : j + e2 = (S.m y).held.1) (hb2 : (S.m y).sil = 0 → bel (S.m y).held (S.m x).log x (S.m y).held.1 0 = bel (S.m y).held (S.m x).log x e2 j), zS G N Λ z sS H locs → lv_has ls 6 [(0, .ref (G.h + 272)), (1, .int (nI x)), (2, .int (nI y)), (3, .int (nI j))] → W pP l eE (zR 4) sS mM ([.ref (G.h + 272), .int (nI x)] : List Value).toArray bB tT cC H locs 0 0 (MQ bB (zQc G N Λ (some (.int (oI (belA S x S.n 0)))) z) ([.ref (G.h + 272), .int (nI x)] : List Value).toArray sS 0 0 (zA G)) (F0 mM 12 ls []) := by
        intro e2
        induction e2 with
        | zero =>
          intro j H locs ls hj hb2 hw hl
          refine lv_iload_n C.x C.b dX4_mismatch_12 rfl (lv_at hl 3 rfl) ?_
          refine lv_aload_n C.x C.b dX4_mismatch_13 rfl (lv_at hl 0 rfl) ?_
          refine lv_iload_n C.x C.b dX4_mismatch_14 rfl (lv_at hl 2 rfl) ?_
          refine lv_bipush (v := 45) C.x C.b dX4_mismatch_15 (by decide) ?_
          refine z_Vv (As := [.int (nI y), .int 45]) (rest := [.int (nI j)]) C hw hl (m_X4_get hO _ hB (o := 45) (mat_lt2 hy6 (by omega))) ivX4_40 hB.lt (hB.at _ _) rfl rfl ⟨(Nat.le_of_ble_eq_true rfl), (Nat.le_of_ble_eq_true rfl)⟩ (Nat.le_of_ble_eq_true rfl) ⟨Nat.zero_le _, Nat.zero_le _⟩ dX4_mismatch_17 (fun H locs hw => ?_)
          refine z_topi (y := nI (S.m y).held.1) (hmy.2.2.1.2.1) ?_
          refine lv_icmp_ge (tgt := 119) C.x C.b dX4_mismatch_20 (by decide) (fun c_20 => ?_) (fun c_20 => absurd (zle (by omega) (by omega)) c_20)
          refine lv_iinc (v := nI y + 1) (lv' := [(2, .int (nI y + 1)), (0, .ref (G.h + 272)), (1, .int (nI x)), (3, .int (nI j))]) C.x C.b dX4_mismatch_119 hl (k := 2) rfl rfl (by decide) rfl (fun ls hl => ?_)
          have hl : lv_has ls 6 [(2, .int (nI (y + 1))), (0, .ref (G.h + 272)), (1, .int (nI x)), (3, .int (nI j))] := by
            have e9 : nI y + 1 = nI (y + 1) := nI_1 y
            rw [← e9]; exact hl
          refine lv_goto (tgt := 2) C.x C.b dX4_mismatch_122 (by decide) ?_
          exact ih (y + 1) _ _ _ (by omega) (by rw [hb, belA_on (hb2)]) hw (lv_sub hl [1, 2, 0] rfl)
        | succ e2 ih2 =>
          intro j H locs ls hj hb2 hw hl
          refine lv_iload_n C.x C.b dX4_mismatch_12 rfl (lv_at hl 3 rfl) ?_
          refine lv_aload_n C.x C.b dX4_mismatch_13 rfl (lv_at hl 0 rfl) ?_
          refine lv_iload_n C.x C.b dX4_mismatch_14 rfl (lv_at hl 2 rfl) ?_
          refine lv_bipush (v := 45) C.x C.b dX4_mismatch_15 (by decide) ?_
          refine z_Vv (As := [.int (nI y), .int 45]) (rest := [.int (nI j)]) C hw hl (m_X4_get hO _ hB (o := 45) (mat_lt2 hy6 (by omega))) ivX4_40 hB.lt (hB.at _ _) rfl rfl ⟨(Nat.le_of_ble_eq_true rfl), (Nat.le_of_ble_eq_true rfl)⟩ (Nat.le_of_ble_eq_true rfl) ⟨Nat.zero_le _, Nat.zero_le _⟩ dX4_mismatch_17 (fun H locs hw => ?_)
          refine z_topi (y := nI (S.m y).held.1) (hmy.2.2.1.2.1) ?_
          refine lv_icmp_ge (tgt := 119) C.x C.b dX4_mismatch_20 (by decide) (fun c_20 => absurd c_20 (znle (by omega) (by omega))) (fun c_20 => ?_)
          refine lv_aload_n C.x C.b dX4_mismatch_23 rfl (lv_at hl 0 rfl) ?_
          refine lv_iload_n C.x C.b dX4_mismatch_24 rfl (lv_at hl 2 rfl) ?_
          refine lv_iconst (v := 1) C.x C.b dX4_mismatch_25 (by decide) ?_
          refine z_Vv (As := [.int (nI y), .int 1]) (rest := []) C hw hl (m_X4_get hO _ hB (o := 1) (mat_lt2 hy6 (by omega))) ivX4_40 hB.lt (hB.at _ _) rfl rfl ⟨(Nat.le_of_ble_eq_true rfl), (Nat.le_of_ble_eq_true rfl)⟩ (Nat.le_of_ble_eq_true rfl) ⟨Nat.zero_le _, Nat.zero_le _⟩ dX4_mismatch_26 (fun H locs hw => ?_)
          refine z_topi (y := nI (S.m y).sil) (hmy.1.2.1) ?_
          refine lv_if_ne (tgt := 119) C.x C.b dX4_mismatch_29 (by decide) (fun c_29 => ?_) (fun c_29 => ?_)
          · refine lv_iinc (v := nI y + 1) (lv' := [(2, .int (nI y + 1)), (0, .ref (G.h + 272)), (1, .int (nI x)), (3, .int (nI j))]) C.x C.b dX4_mismatch_119 hl (k := 2) rfl rfl (by decide) rfl (fun ls hl => ?_)
            have hl : lv_has ls 6 [(2, .int (nI (y + 1))), (0, .ref (G.h + 272)), (1, .int (nI x)), (3, .int (nI j))] := by
              have e9 : nI y + 1 = nI (y + 1) := nI_1 y
              rw [← e9]; exact hl
            refine lv_goto (tgt := 2) C.x C.b dX4_mismatch_122 (by decide) ?_
            exact ih (y + 1) _ _ _ (by omega) (by rw [hb, belA_on (fun hs => absurd (show nI (S.m y).sil = 0 by rw [hs]; rfl) c_29)]) hw (lv_sub hl [1, 2, 0] rfl)
          · have hs0 : (S.m y).sil = 0 := zzero (by omega) c_29
            have hjk : j < (S.m y).held.1 := by omega
            obtain ⟨hh0, hh1, hh2⟩ := hoy.held.2 j hjk
            refine lv_aload_n C.x C.b dX4_mismatch_32 rfl (lv_at hl 0 rfl) ?_
            refine lv_iload_n C.x C.b dX4_mismatch_33 rfl (lv_at hl 2 rfl) ?_
            refine lv_bipush (v := 46) C.x C.b dX4_mismatch_34 (by decide) ?_
            refine lv_iconst (v := 3) C.x C.b dX4_mismatch_36 (by decide) ?_
            refine lv_iload_n C.x C.b dX4_mismatch_37 rfl (lv_at hl 3 rfl) ?_
            refine lv_imul C.x C.b dX4_mismatch_38 ?_
            refine lv_iadd C.x C.b dX4_mismatch_39 ?_
            refine lv_iconst (v := 1) C.x C.b dX4_mismatch_40 (by decide) ?_
            refine z_pc (pc2 := 41) rfl ?_
            refine lv_iadd C.x C.b dX4_mismatch_41 ?_
            refine z_topi (y := nI (46 + 3 * j + 1)) (by rw [zlit 46, zlit 3, zlit 1, pk_mul, nI_add, nI_add]) ?_
            refine z_Vv (As := [.int (nI y), .int (nI (46 + 3 * j + 1))]) (rest := []) C hw hl (m_X4_get hO _ hB (o := 46 + 3 * j + 1) (mat_lt2 hy6 (by omega))) ivX4_40 hB.lt (hB.at _ _) rfl rfl ⟨(Nat.le_of_ble_eq_true rfl), (Nat.le_of_ble_eq_true rfl)⟩ (Nat.le_of_ble_eq_true rfl) ⟨Nat.zero_le _, Nat.zero_le _⟩ dX4_mismatch_42 (fun H locs hw => ?_)
            refine z_topi (y := nI ((S.m y).held.2 j 1)) (hmy.2.2.1.at hjk (by omega)) ?_
            refine lv_istore (lv' := [(4, .int (nI ((S.m y).held.2 j 1))), (0, .ref (G.h + 272)), (1, .int (nI x)), (2, .int (nI y)), (3, .int (nI j))]) C.x C.b dX4_mismatch_45 hl (by decide) rfl (fun ls hl => ?_)
            refine lv_aload_n C.x C.b dX4_mismatch_47 rfl (lv_at hl 1 rfl) ?_
            refine lv_iload_n C.x C.b dX4_mismatch_48 rfl (lv_at hl 3 rfl) ?_
            refine lv_bipush (v := 46) C.x C.b dX4_mismatch_49 (by decide) ?_
            refine lv_iconst (v := 3) C.x C.b dX4_mismatch_51 (by decide) ?_
            refine lv_iload_n C.x C.b dX4_mismatch_52 rfl (lv_at hl 4 rfl) ?_
            refine lv_imul C.x C.b dX4_mismatch_53 ?_
            refine lv_iadd C.x C.b dX4_mismatch_54 ?_
            refine z_topi (y := nI (46 + 3 * j + 0)) (by rw [zlit 46, zlit 3, pk_mul, nI_add]; rfl) ?_
            refine z_Vv (As := [.int (nI y), .int (nI (46 + 3 * j + 0))]) (rest := []) C hw hl (m_X4_get hO _ hB (o := 46 + 3 * j + 0) (mat_lt2 hy6 (by omega))) ivX4_40 hB.lt (hB.at _ _) rfl rfl ⟨(Nat.le_of_ble_eq_true rfl), (Nat.le_of_ble_eq_true rfl)⟩ (Nat.le_of_ble_eq_true rfl) ⟨Nat.zero_le _, Nat.zero_le _⟩ dX4_mismatch_55 (fun H locs hw => ?_)
            refine z_topi (y := nI ((S.m y).held.2 j 0)) (hmy.2.2.1.at hjk (by omega)) ?_
            refine lv_iload_n C.x C.b dX4_mismatch_58 rfl (lv_at hl 2 rfl) ?_
            refine lv_icmp_ne (tgt := 66) C.x C.b dX4_mismatch_59 (by decide) (fun c_59 => ?_) (fun c_59 => ?_)
            · refine lv_iconst (v := 0) C.x C.b dX4_mismatch_66 (by decide) ?_
              refine lv_istore (lv' := [(5, .int 0), (4, .int (nI ((S.m y).held.2 j 1))), (0, .ref (G.h + 272)), (1, .int (nI x)), (2, .int (nI y)), (3, .int (nI j))]) C.x C.b dX4_mismatch_67 hl (by decide) rfl (fun ls hl => ?_)
              refine lv_iload C.x C.b dX4_mismatch_69 (lv_at hl 0 rfl) ?_
              refine lv_if_eq (tgt := 113) C.x C.b dX4_mismatch_71 (by decide) (fun c_71 => ?_) (fun c_71 => absurd (rfl) c_71)
              refine lv_iinc (v := nI j + 1) (lv' := [(3, .int (nI j + 1)), (5, .int 0), (4, .int (nI ((S.m y).held.2 j 1))), (0, .ref (G.h + 272)), (1, .int (nI x)), (2, .int (nI y))]) C.x C.b dX4_mismatch_113 hl (k := 5) rfl rfl (by decide) rfl (fun ls hl => ?_)
              have hl : lv_has ls 6 [(3, .int (nI (j + 1))), (5, .int 0), (4, .int (nI ((S.m y).held.2 j 1))), (0, .ref (G.h + 272)), (1, .int (nI x)), (2, .int (nI y))] := by
                have e9 : nI j + 1 = nI (j + 1) := nI_1 j
                rw [← e9]; exact hl
              refine lv_goto (tgt := 12) C.x C.b dX4_mismatch_116 (by decide) ?_
              exact ih2 (j + 1) _ _ _ (by omega) (fun hs => by rw [hb2 hs, bel, if_neg (fun q => c_59 (by rw [q.1]))]) hw (lv_sub hl [3, 4, 5, 0] rfl)
            · have hc59 : nI ((S.m y).held.2 j 0) = nI x := c_59
              refine lv_iconst (v := 1) C.x C.b dX4_mismatch_62 (by decide) ?_
              refine lv_goto (tgt := 67) C.x C.b dX4_mismatch_63 (by decide) ?_
              refine lv_istore (lv' := [(5, .int 1), (4, .int (nI ((S.m y).held.2 j 1))), (0, .ref (G.h + 272)), (1, .int (nI x)), (2, .int (nI y)), (3, .int (nI j))]) C.x C.b dX4_mismatch_67 hl (by decide) rfl (fun ls hl => ?_)
              refine lv_iload C.x C.b dX4_mismatch_69 (lv_at hl 0 rfl) ?_
              refine lv_if_eq (tgt := 113) C.x C.b dX4_mismatch_71 (by decide) (fun c_71 => absurd c_71 (by decide)) (fun c_71 => ?_)
              refine lv_iload C.x C.b dX4_mismatch_74 (lv_at hl 1 rfl) ?_
              refine lv_aload_n C.x C.b dX4_mismatch_76 rfl (lv_at hl 2 rfl) ?_
              refine z_pc (pc2 := 77) rfl ?_
              refine lv_iload_n C.x C.b dX4_mismatch_77 rfl (lv_at hl 3 rfl) ?_
              refine lv_iconst (v := 4) C.x C.b dX4_mismatch_78 (by decide) ?_
              refine z_Vv (As := [.int (nI x), .int 4]) (rest := [.int (nI ((S.m y).held.2 j 1))]) C hw hl (m_X4_get hO _ hB (o := 4) (mat_lt2 hx6 (by omega))) ivX4_40 hB.lt (hB.at _ _) rfl rfl ⟨(Nat.le_of_ble_eq_true rfl), (Nat.le_of_ble_eq_true rfl)⟩ (Nat.le_of_ble_eq_true rfl) ⟨Nat.zero_le _, Nat.zero_le _⟩ dX4_mismatch_79 (fun H locs hw => ?_)
              refine z_topi (y := nI (S.m x).log.1) (hmx.2.1.2.1) ?_
              refine lv_icmp_ge (tgt := 110) C.x C.b dX4_mismatch_82 (by decide) (fun c_82 => ?_) (fun c_82 => ?_)
              · refine lv_iload C.x C.b dX4_mismatch_110 (lv_at hl 1 rfl) ?_
                exact z_iret C hw dX4_mismatch_112 (by rw [hb, belA_hit hs0 (e := (S.m y).held.2 j 1) (by rw [hb2 hs0, bel, if_pos ⟨(nI_eq (by omega) (by omega)).mp hc59, Or.inl (Nat.le_of_not_lt (fun q => absurd c_82 (znle (by omega) q)))⟩])]; rfl) (rfl)
              · have hel : (S.m y).held.2 j 1 < (S.m x).log.1 := (nI_ltI (by omega) (by omega)).mp (Int32.not_le.mp c_82)
                refine lv_aload_n C.x C.b dX4_mismatch_85 rfl (lv_at hl 2 rfl) ?_
                refine lv_iload_n C.x C.b dX4_mismatch_86 rfl (lv_at hl 3 rfl) ?_
                refine lv_iload C.x C.b dX4_mismatch_87 (lv_at hl 1 rfl) ?_
                refine lv_iconst (v := 1) C.x C.b dX4_mismatch_89 (by decide) ?_
                refine lv_iadd C.x C.b dX4_mismatch_90 ?_
                refine z_topi (y := nI ((S.m y).held.2 j 1 + 1)) (nI_1 _) ?_
                refine z_Vv (As := [.int (nI x), .int (nI ((S.m y).held.2 j 1 + 1))]) (rest := []) C hw hl (m_X4_chainAt hO _ hB hx6 (i := (S.m y).held.2 j 1 + 1) (by omega) (r := (S.m x).log.2) (fun i hi => hmx.2.1.2.2 i (by omega)) (fun i hi => hox.log.row hn6 i (by omega))) ivX4_84 hB.lt (hB.at _ _) rfl rfl ⟨(Nat.le_of_ble_eq_true rfl), (Nat.le_of_ble_eq_true rfl)⟩ (Nat.le_of_ble_eq_true rfl) ⟨Nat.zero_le _, Nat.zero_le _⟩ dX4_mismatch_91 (fun H locs hw => ?_)
                refine lv_aload_n C.x C.b dX4_mismatch_94 rfl (lv_at hl 2 rfl) ?_
                refine lv_iload_n C.x C.b dX4_mismatch_95 rfl (lv_at hl 4 rfl) ?_
                refine lv_bipush (v := 46) C.x C.b dX4_mismatch_96 (by decide) ?_
                refine lv_iconst (v := 3) C.x C.b dX4_mismatch_98 (by decide) ?_
                refine lv_iload_n C.x C.b dX4_mismatch_99 rfl (lv_at hl 5 rfl) ?_
                refine lv_imul C.x C.b dX4_mismatch_100 ?_
                refine lv_iadd C.x C.b dX4_mismatch_101 ?_
                refine lv_iconst (v := 2) C.x C.b dX4_mismatch_102 (by decide) ?_
                refine lv_iadd C.x C.b dX4_mismatch_103 ?_
                refine z_topi (y := nI (46 + 3 * j + 2)) (by rw [zlit 46, zlit 3, zlit 2, pk_mul, nI_add, nI_add]) ?_
                refine z_Vv (As := [.int (nI y), .int (nI (46 + 3 * j + 2))]) (rest := [.int (nI (CH (S.m x).log.2 ((S.m y).held.2 j 1 + 1)))]) C hw hl (m_X4_get hO _ hB (o := 46 + 3 * j + 2) (mat_lt2 hy6 (by omega))) ivX4_40 hB.lt (hB.at _ _) rfl rfl ⟨(Nat.le_of_ble_eq_true rfl), (Nat.le_of_ble_eq_true rfl)⟩ (Nat.le_of_ble_eq_true rfl) ⟨Nat.zero_le _, Nat.zero_le _⟩ dX4_mismatch_104 (fun H locs hw => ?_)
                refine z_topi (y := nI ((S.m y).held.2 j 2)) (hmy.2.2.1.at hjk (by omega)) ?_
                refine z_pc (pc2 := 107) rfl ?_
                refine lv_icmp_eq (tgt := 113) C.x C.b dX4_mismatch_107 (by decide) (fun c_107 => ?_) (fun c_107 => ?_)
                · refine lv_iinc (v := nI j + 1) (lv' := [(3, .int (nI j + 1)), (5, .int 1), (4, .int (nI ((S.m y).held.2 j 1))), (0, .ref (G.h + 272)), (1, .int (nI x)), (2, .int (nI y))]) C.x C.b dX4_mismatch_113 hl (k := 5) rfl rfl (by decide) rfl (fun ls hl => ?_)
                  have hl : lv_has ls 6 [(3, .int (nI (j + 1))), (5, .int 1), (4, .int (nI ((S.m y).held.2 j 1))), (0, .ref (G.h + 272)), (1, .int (nI x)), (2, .int (nI y))] := by
                    have e9 : nI j + 1 = nI (j + 1) := nI_1 j
                    rw [← e9]; exact hl
                  refine lv_goto (tgt := 12) C.x C.b dX4_mismatch_116 (by decide) ?_
                  exact ih2 (j + 1) _ _ _ (by omega) (fun hs => by rw [hb2 hs, bel, if_neg (fun q => q.2.elim (fun h => c_82 (zle (by omega) h)) (fun h => h ((nI_eq (by have := CH_lt (S.m x).log.2 ((S.m y).held.2 j 1 + 1); omega) (by omega)).mp c_107)))]) hw (lv_sub hl [3, 4, 5, 0] rfl)
                · refine lv_iload C.x C.b dX4_mismatch_110 (lv_at hl 1 rfl) ?_
                  exact z_iret C hw dX4_mismatch_112 (by rw [hb, belA_hit hs0 (e := (S.m y).held.2 j 1) (by rw [hb2 hs0, bel, if_pos ⟨(nI_eq (by omega) (by omega)).mp hc59, Or.inr (fun q => c_107 (by rw [q]))⟩])]; rfl) (rfl)
      exact loop2 ((S.m y).held.1) 0 _ _ _ (by omega) (fun _ => rfl) hw (lv_sub hl [1, 2, 3, 0] rfl)
  exact loop S.n 0 _ _ _ (by omega) rfl hw (lv_sub hl [1, 2, 0] rfl)

set_option maxRecDepth 100000 in
set_option maxHeartbeats 4000000 in
theorem m_X4_replayed {G : zG} {N : Nat} {Λ : zLay} {l : Launch} (hO : zOK G l) (z : zM) (hB : zMo G N Λ) {S : aS} (hM : mS z S) (hS : aOK S) {x : Nat} (hx : x < S.n) (hx6 : x < 6) : zMet G N Λ l yX4_replayed cX4_replayed 6 (some .int) 3 [.ref (G.h + 272), .int (nI x)] z (some (.int (oI (rpl (S.m x).log.2 (S.m x).log.1 x S.n ((S.m x).log.1 + 1) 0 x)))) z := by
  refine zMet_of hO (by decide) (Nat.le_of_ble_eq_true rfl) ?_
  intro pP eE sS mM bB tT cC ls C hw hl
  have hl : lv_has ls 6 [(0, .ref (G.h + 272)), (1, .int (nI x))] := hl
  have hn6 := hS.n6
  have hmx := hM.m hx
  have hox := hS.m hx
  have hl40 := hox.log.1
  have hrow := hox.log.row hn6
  refine lv_iload_n C.x C.b dX4_replayed_0 rfl (lv_at hl 1 rfl) ?_
  refine lv_istore_n (lv' := [(2, .int (nI x)), (0, .ref (G.h + 272)), (1, .int (nI x))]) C.x C.b dX4_replayed_1 rfl hl (by decide) rfl (fun ls hl => ?_)
  refine lv_iconst (v := -1) C.x C.b dX4_replayed_2 (by decide) ?_
  refine lv_istore_n (lv' := [(3, .int (-1)), (2, .int (nI x)), (0, .ref (G.h + 272)), (1, .int (nI x))]) C.x C.b dX4_replayed_3 rfl hl (by decide) rfl (fun ls hl => ?_)
  refine lv_iconst (v := 0) C.x C.b dX4_replayed_4 (by decide) ?_
  refine lv_istore (lv' := [(4, .int 0), (3, .int (-1)), (2, .int (nI x)), (0, .ref (G.h + 272)), (1, .int (nI x))]) C.x C.b dX4_replayed_5 hl (by decide) rfl (fun ls hl => ?_)
  have loop : ∀ (d : Nat) (j st f : Nat) (du : Option Nat) (H : Heap) (locs : List Loc) (ls : Array Slot) (hj : j + d = (S.m x).log.1) (hst : st < 9973) (hf : (S.m x).log.1 + 1 ≤ j + f) (hdu : ∀ e, du = some e → e < 1000000) (hr : rpl (S.m x).log.2 (S.m x).log.1 x S.n ((S.m x).log.1 + 1) 0 x = rpd (S.m x).log.2 (S.m x).log.1 x S.n f j st du), zS G N Λ z sS H locs → lv_has ls 6 [(0, .ref (G.h + 272)), (1, .int (nI x)), (2, .int (nI st)), (3, .int (oI du)), (4, .int (nI j))] → W pP l eE (zR 3) sS mM ([.ref (G.h + 272), .int (nI x)] : List Value).toArray bB tT cC H locs 0 0 (MQ bB (zQc G N Λ (some (.int (oI (rpl (S.m x).log.2 (S.m x).log.1 x S.n ((S.m x).log.1 + 1) 0 x)))) z) ([.ref (G.h + 272), .int (nI x)] : List Value).toArray sS 0 0 (zA G)) (F0 mM 7 ls []) := by
    intro d
    induction d with
    | zero =>
      intro j st f du H locs ls hj hst hf hdu hr hw hl
      refine lv_iload C.x C.b dX4_replayed_7 (lv_at hl 4 rfl) ?_
      refine lv_aload_n C.x C.b dX4_replayed_9 rfl (lv_at hl 0 rfl) ?_
      refine lv_iload_n C.x C.b dX4_replayed_10 rfl (lv_at hl 1 rfl) ?_
      refine lv_iconst (v := 4) C.x C.b dX4_replayed_11 (by decide) ?_
      refine z_Vv (As := [.int (nI x), .int 4]) (rest := [.int (nI j)]) C hw hl (m_X4_get hO _ hB (o := 4) (mat_lt2 hx6 (by omega))) ivX4_40 hB.lt (hB.at _ _) rfl rfl ⟨(Nat.le_of_ble_eq_true rfl), (Nat.le_of_ble_eq_true rfl)⟩ (Nat.le_of_ble_eq_true rfl) ⟨Nat.zero_le _, Nat.zero_le _⟩ dX4_replayed_12 (fun H locs hw => ?_)
      refine z_topi (y := nI (S.m x).log.1) (hmx.2.1.2.1) ?_
      refine lv_icmp_ge (tgt := 102) C.x C.b dX4_replayed_15 (by decide) (fun c_15 => ?_) (fun c_15 => absurd (zle (by omega) (by omega)) c_15)
      refine lv_iload_n C.x C.b dX4_replayed_102 rfl (lv_at hl 3 rfl) ?_
      refine lv_iconst (v := -1) C.x C.b dX4_replayed_103 (by decide) ?_
      refine lv_icmp_ne (tgt := 111) C.x C.b dX4_replayed_104 (by decide) (fun c_104 => ?_) (fun c_104 => ?_)
      · refine lv_aload_n C.x C.b dX4_replayed_111 rfl (lv_at hl 0 rfl) ?_
        refine lv_iload_n C.x C.b dX4_replayed_112 rfl (lv_at hl 1 rfl) ?_
        refine lv_iconst (v := 4) C.x C.b dX4_replayed_113 (by decide) ?_
        refine z_Vv (As := [.int (nI x), .int 4]) (rest := []) C hw hl (m_X4_get hO _ hB (o := 4) (mat_lt2 hx6 (by omega))) ivX4_40 hB.lt (hB.at _ _) rfl rfl ⟨(Nat.le_of_ble_eq_true rfl), (Nat.le_of_ble_eq_true rfl)⟩ (Nat.le_of_ble_eq_true rfl) ⟨Nat.zero_le _, Nat.zero_le _⟩ dX4_replayed_114 (fun H locs hw => ?_)
        refine z_topi (y := nI (S.m x).log.1) hmx.2.1.2.1 ?_
        exact z_iret C hw dX4_replayed_117 (by
            cases du with
            | none => exact absurd rfl c_104
            | some e =>
              rw [hr, rpd, if_neg (by omega), show j = (S.m x).log.1 by omega]; rfl) (rfl)
      · refine lv_iconst (v := -1) C.x C.b dX4_replayed_107 (by decide) ?_
        refine lv_goto (tgt := 117) C.x C.b dX4_replayed_108 (by decide) ?_
        exact z_iret C hw dX4_replayed_117 (by
            cases du with
            | none =>
              obtain ⟨f, rfl⟩ : ∃ f9, f = f9 + 1 := ⟨f - 1, by omega⟩
              rw [hr, rpd, rpl, if_pos (by omega)]; rfl
            | some e =>
              have h9 : ¬ nI e < 0 := zneg (by have := hdu e rfl; omega)
              rw [show nI e = -1 from c_104] at h9; exact absurd (by decide) h9) (rfl)
    | succ d ih =>
      intro j st f du H locs ls hj hst hf hdu hr hw hl
      refine lv_iload C.x C.b dX4_replayed_7 (lv_at hl 4 rfl) ?_
      refine lv_aload_n C.x C.b dX4_replayed_9 rfl (lv_at hl 0 rfl) ?_
      refine lv_iload_n C.x C.b dX4_replayed_10 rfl (lv_at hl 1 rfl) ?_
      refine lv_iconst (v := 4) C.x C.b dX4_replayed_11 (by decide) ?_
      refine z_Vv (As := [.int (nI x), .int 4]) (rest := [.int (nI j)]) C hw hl (m_X4_get hO _ hB (o := 4) (mat_lt2 hx6 (by omega))) ivX4_40 hB.lt (hB.at _ _) rfl rfl ⟨(Nat.le_of_ble_eq_true rfl), (Nat.le_of_ble_eq_true rfl)⟩ (Nat.le_of_ble_eq_true rfl) ⟨Nat.zero_le _, Nat.zero_le _⟩ dX4_replayed_12 (fun H locs hw => ?_)
      refine z_topi (y := nI (S.m x).log.1) (hmx.2.1.2.1) ?_
      refine lv_icmp_ge (tgt := 102) C.x C.b dX4_replayed_15 (by decide) (fun c_15 => absurd c_15 (znle (by omega) (by omega))) (fun c_15 => ?_)
      have hjk : j < (S.m x).log.1 := by omega
      have hq0 := hrow j hjk
      have hpk := pkv_lt hq0.1 hq0.2.1 hq0.2.2
      refine lv_aload_n C.x C.b dX4_replayed_18 rfl (lv_at hl 0 rfl) ?_
      refine lv_iload_n C.x C.b dX4_replayed_19 rfl (lv_at hl 1 rfl) ?_
      refine lv_iload C.x C.b dX4_replayed_20 (lv_at hl 4 rfl) ?_
      refine z_Vv (As := [.int (nI x), .int (nI j)]) (rest := []) C hw hl (m_X4_entryAt hO _ hB hx6 (k := j) (by omega)) ivX4_43 hB.lt (hB.at _ _) rfl rfl ⟨(Nat.le_of_ble_eq_true rfl), (Nat.le_of_ble_eq_true rfl)⟩ (Nat.le_of_ble_eq_true rfl) ⟨Nat.zero_le _, Nat.zero_le _⟩ dX4_replayed_22 (fun H locs hw => ?_)
      refine z_topi (y := nI (pk ((S.m x).log.2 j 0) ((S.m x).log.2 j 1) ((S.m x).log.2 j 2))) (hmx.2.1.2.2 j hjk) ?_
      refine lv_istore (lv' := [(5, .int (nI (pk ((S.m x).log.2 j 0) ((S.m x).log.2 j 1) ((S.m x).log.2 j 2)))), (0, .ref (G.h + 272)), (1, .int (nI x)), (2, .int (nI st)), (3, .int (oI du)), (4, .int (nI j))]) C.x C.b dX4_replayed_25 hl (by decide) rfl (fun ls hl => ?_)
      refine lv_iload_n C.x C.b dX4_replayed_27 rfl (lv_at hl 4 rfl) ?_
      refine lv_iconst (v := -1) C.x C.b dX4_replayed_28 (by decide) ?_
      refine lv_icmp_ne (tgt := 41) C.x C.b dX4_replayed_29 (by decide) (fun c_29 => ?_) (fun c_29 => ?_)
      · obtain ⟨e, hde⟩ : ∃ e, du = some e := by
          cases du with
          | none => exact absurd rfl c_29
          | some e => exact ⟨e, rfl⟩
        rw [hde] at hr
        refine lv_iload C.x C.b dX4_replayed_41 (lv_at hl 0 rfl) ?_
        refine lv_iload_n C.x C.b dX4_replayed_43 rfl (lv_at hl 4 rfl) ?_
        refine lv_icmp_eq (tgt := 50) C.x C.b dX4_replayed_44 (by decide) (fun c_44 => ?_) (fun c_44 => ?_)
        · refine lv_iconst (v := -1) C.x C.b dX4_replayed_50 (by decide) ?_
          refine lv_istore_n (lv' := [(3, .int (-1)), (5, .int (nI (pk ((S.m x).log.2 j 0) ((S.m x).log.2 j 1) ((S.m x).log.2 j 2)))), (0, .ref (G.h + 272)), (1, .int (nI x)), (2, .int (nI st)), (4, .int (nI j))]) C.x C.b dX4_replayed_51 rfl hl (by decide) rfl (fun ls hl => ?_)
          refine z_pc (pc2 := 52) rfl ?_
          refine lv_goto (tgt := 96) C.x C.b dX4_replayed_52 (by decide) ?_
          refine lv_iinc (v := nI j + 1) (lv' := [(4, .int (nI j + 1)), (3, .int (-1)), (5, .int (nI (pk ((S.m x).log.2 j 0) ((S.m x).log.2 j 1) ((S.m x).log.2 j 2)))), (0, .ref (G.h + 272)), (1, .int (nI x)), (2, .int (nI st))]) C.x C.b dX4_replayed_96 hl (k := 5) rfl rfl (by decide) rfl (fun ls hl => ?_)
          have hl : lv_has ls 6 [(4, .int (nI (j + 1))), (3, .int (-1)), (5, .int (nI (pk ((S.m x).log.2 j 0) ((S.m x).log.2 j 1) ((S.m x).log.2 j 2)))), (0, .ref (G.h + 272)), (1, .int (nI x)), (2, .int (nI st))] := by
            have e9 : nI j + 1 = nI (j + 1) := nI_1 j
            rw [← e9]; exact hl
          refine lv_goto (tgt := 7) C.x C.b dX4_replayed_99 (by decide) ?_
          exact ih (j + 1) st f none _ _ _ (by omega) hst (by omega) (fun e h => absurd h (by simp)) (by
                have c_44 : nI (pk ((S.m x).log.2 j 0) ((S.m x).log.2 j 1) ((S.m x).log.2 j 2)) = nI e := by rw [hde] at c_44; exact c_44
                have he9 := hdu e hde
                have h9 := (nI_eq (by omega) (by omega)).mp c_44
                exact hr.trans (if_pos ⟨hjk, h9⟩)) hw (lv_sub hl [3, 4, 5, 1, 0] rfl)
        · refine lv_iload C.x C.b dX4_replayed_47 (lv_at hl 5 rfl) ?_
          exact z_iret C hw dX4_replayed_49 (by rw [hr, rpd, if_neg (fun q => c_44 (by rw [hde, q.2]; rfl))]; rfl) (rfl)
      · have hd0 : du = none := by
          cases du with
          | none => rfl
          | some e => exact absurd c_29 (fun q => by
              have h9 : ¬ nI e < 0 := zneg (by have := hdu e rfl; omega)
              rw [show nI e = -1 from q] at h9; exact h9 (by decide))
        rw [hd0] at hr
        obtain ⟨f, rfl⟩ : ∃ f9, f = f9 + 1 := ⟨f - 1, by omega⟩
        have hr : _ = rpl (S.m x).log.2 (S.m x).log.1 x S.n (f + 1) j st := hr
        refine lv_iload C.x C.b dX4_replayed_32 (lv_at hl 0 rfl) ?_
        refine z_Sv (As := [.int (nI (pk ((S.m x).log.2 j 0) ((S.m x).log.2 j 1) ((S.m x).log.2 j 2)))]) (rest := []) C hw hl (m_X4_kindOf hO _ hq0.1 hq0.2.1 hq0.2.2) ivX4_50 rfl rfl ⟨(Nat.le_of_ble_eq_true rfl), (Nat.le_of_ble_eq_true rfl)⟩ (Nat.le_of_ble_eq_true rfl) ⟨Nat.zero_le _, Nat.zero_le _⟩ dX4_replayed_34 (fun H locs hw => ?_)
        refine lv_iconst (v := 2) C.x C.b dX4_replayed_37 (by decide) ?_
        refine lv_icmp_ne (tgt := 55) C.x C.b dX4_replayed_38 (by decide) (fun c_38 => ?_) (fun c_38 => ?_)
        · refine lv_iload_n C.x C.b dX4_replayed_55 rfl (lv_at hl 3 rfl) ?_
          refine z_pc (pc2 := 56) rfl ?_
          refine lv_iload C.x C.b dX4_replayed_56 (lv_at hl 0 rfl) ?_
          refine z_Sv (As := [.int (nI (pk ((S.m x).log.2 j 0) ((S.m x).log.2 j 1) ((S.m x).log.2 j 2)))]) (rest := [.int (nI st)]) C hw hl (m_X4_valueOf hO _ hq0.1 hq0.2.1 hq0.2.2) ivX4_61 rfl rfl ⟨(Nat.le_of_ble_eq_true rfl), (Nat.le_of_ble_eq_true rfl)⟩ (Nat.le_of_ble_eq_true rfl) ⟨Nat.zero_le _, Nat.zero_le _⟩ dX4_replayed_58 (fun H locs hw => ?_)
          refine lv_iload C.x C.b dX4_replayed_61 (lv_at hl 0 rfl) ?_
          refine z_Sv (As := [.int (nI (pk ((S.m x).log.2 j 0) ((S.m x).log.2 j 1) ((S.m x).log.2 j 2)))]) (rest := [.int (nI ((S.m x).log.2 j 2)), .int (nI st)]) C hw hl (m_X4_peerOf hO _ hq0.1 hq0.2.1 hq0.2.2) ivX4_56 rfl rfl ⟨(Nat.le_of_ble_eq_true rfl), (Nat.le_of_ble_eq_true rfl)⟩ (Nat.le_of_ble_eq_true rfl) ⟨Nat.zero_le _, Nat.zero_le _⟩ dX4_replayed_63 (fun H locs hw => ?_)
          refine z_Sv (As := [.int (nI st), .int (nI ((S.m x).log.2 j 2)), .int (pI ((S.m x).log.2 j 1))]) (rest := []) C hw hl (m_X4_behind hO _ hst hq0.2.2 hq0.2.1) ivX4_78 rfl rfl ⟨(Nat.le_of_ble_eq_true rfl), (Nat.le_of_ble_eq_true rfl)⟩ (Nat.le_of_ble_eq_true rfl) ⟨Nat.zero_le _, Nat.zero_le _⟩ dX4_replayed_66 (fun H locs hw => ?_)
          refine lv_istore_n (lv' := [(2, .int (nI (nx st ((S.m x).log.2 j 2) ((S.m x).log.2 j 1)))), (5, .int (nI (pk ((S.m x).log.2 j 0) ((S.m x).log.2 j 1) ((S.m x).log.2 j 2)))), (0, .ref (G.h + 272)), (1, .int (nI x)), (3, .int (oI du)), (4, .int (nI j))]) C.x C.b dX4_replayed_69 rfl hl (by decide) rfl (fun ls hl => ?_)
          refine lv_iload_n C.x C.b dX4_replayed_70 rfl (lv_at hl 0 rfl) ?_
          refine lv_iconst (v := 3) C.x C.b dX4_replayed_71 (by decide) ?_
          refine lv_irem C.x C.b dX4_replayed_72 (by decide) ?_
          refine z_topi (y := nI ((nx st ((S.m x).log.2 j 2) ((S.m x).log.2 j 1)) % 3)) (zrem 3 (by have := nx_lt st ((S.m x).log.2 j 2) ((S.m x).log.2 j 1); omega) (by omega) (by omega)) ?_
          refine lv_if_ne (tgt := 94) C.x C.b dX4_replayed_73 (by decide) (fun c_73 => ?_) (fun c_73 => ?_)
          · refine lv_iconst (v := -1) C.x C.b dX4_replayed_94 (by decide) ?_
            refine lv_istore_n (lv' := [(3, .int (-1)), (2, .int (nI (nx st ((S.m x).log.2 j 2) ((S.m x).log.2 j 1)))), (5, .int (nI (pk ((S.m x).log.2 j 0) ((S.m x).log.2 j 1) ((S.m x).log.2 j 2)))), (0, .ref (G.h + 272)), (1, .int (nI x)), (4, .int (nI j))]) C.x C.b dX4_replayed_95 rfl hl (by decide) rfl (fun ls hl => ?_)
            refine lv_iinc (v := nI j + 1) (lv' := [(4, .int (nI j + 1)), (3, .int (-1)), (2, .int (nI (nx st ((S.m x).log.2 j 2) ((S.m x).log.2 j 1)))), (5, .int (nI (pk ((S.m x).log.2 j 0) ((S.m x).log.2 j 1) ((S.m x).log.2 j 2)))), (0, .ref (G.h + 272)), (1, .int (nI x))]) C.x C.b dX4_replayed_96 hl (k := 5) rfl rfl (by decide) rfl (fun ls hl => ?_)
            have hl : lv_has ls 6 [(4, .int (nI (j + 1))), (3, .int (-1)), (2, .int (nI (nx st ((S.m x).log.2 j 2) ((S.m x).log.2 j 1)))), (5, .int (nI (pk ((S.m x).log.2 j 0) ((S.m x).log.2 j 1) ((S.m x).log.2 j 2)))), (0, .ref (G.h + 272)), (1, .int (nI x))] := by
              have e9 : nI j + 1 = nI (j + 1) := nI_1 j
              rw [← e9]; exact hl
            refine lv_goto (tgt := 7) C.x C.b dX4_replayed_99 (by decide) ?_
            exact ih (j + 1) (nx st ((S.m x).log.2 j 2) ((S.m x).log.2 j 1)) f none _ _ _ (by omega) (nx_lt _ _ _) (by omega) (fun e h => absurd h (by simp)) (hr.trans (rpd_on hjk (fun q => c_38 (by rw [q]; rfl)) (fun q => c_73 (by rw [q]; rfl)))) hw (lv_sub hl [4, 5, 2, 1, 0] rfl)
          · refine lv_iconst (v := 2) C.x C.b dX4_replayed_76 (by decide) ?_
            refine lv_aload_n C.x C.b dX4_replayed_77 rfl (lv_at hl 2 rfl) ?_
            refine lv_iload_n C.x C.b dX4_replayed_78 rfl (lv_at hl 3 rfl) ?_
            refine lv_iload_n C.x C.b dX4_replayed_79 rfl (lv_at hl 0 rfl) ?_
            refine z_Vv (As := [.int (nI x), .int (nI (nx st ((S.m x).log.2 j 2) ((S.m x).log.2 j 1)))]) (rest := [.int 2]) C hw hl (m_X4_goesTo hO _ hB hM.n hS.n2 hn6 hx (nx_lt _ _ _)) ivX4_81 hB.lt (hB.at _ _) rfl rfl ⟨(Nat.le_of_ble_eq_true rfl), (Nat.le_of_ble_eq_true rfl)⟩ (Nat.le_of_ble_eq_true rfl) ⟨Nat.zero_le _, Nat.zero_le _⟩ dX4_replayed_80 (fun H locs hw => ?_)
            refine z_topi (y := pI (gt x (nx st ((S.m x).log.2 j 2) ((S.m x).log.2 j 1)) S.n + 1)) ((pI_s _).symm) ?_
            refine lv_iload_n C.x C.b dX4_replayed_83 rfl (lv_at hl 0 rfl) ?_
            refine lv_sipush (v := 1000) C.x C.b dX4_replayed_84 (by decide) ?_
            refine lv_irem C.x C.b dX4_replayed_87 (by decide) ?_
            refine z_topi (y := nI ((nx st ((S.m x).log.2 j 2) ((S.m x).log.2 j 1)) % 1000)) (zrem 1000 (by have := nx_lt st ((S.m x).log.2 j 2) ((S.m x).log.2 j 1); omega) (by omega) (by omega)) ?_
            refine z_Sv (As := [.int 2, .int (pI (gt x (nx st ((S.m x).log.2 j 2) ((S.m x).log.2 j 1)) S.n + 1)), .int (nI ((nx st ((S.m x).log.2 j 2) ((S.m x).log.2 j 1)) % 1000))]) (rest := []) C hw hl (m_X4_entryOf hO _) ivX4_70 rfl rfl ⟨(Nat.le_of_ble_eq_true rfl), (Nat.le_of_ble_eq_true rfl)⟩ (Nat.le_of_ble_eq_true rfl) ⟨Nat.zero_le _, Nat.zero_le _⟩ dX4_replayed_88 (fun H locs hw => ?_)
            refine lv_goto (tgt := 95) C.x C.b dX4_replayed_91 (by decide) ?_
            refine z_pc (pc2 := 95) rfl ?_
            refine lv_istore_n (lv' := [(3, .int (nI (pk 2 (gt x (nx st ((S.m x).log.2 j 2) ((S.m x).log.2 j 1)) S.n + 1) (nx st ((S.m x).log.2 j 2) ((S.m x).log.2 j 1) % 1000)))), (2, .int (nI (nx st ((S.m x).log.2 j 2) ((S.m x).log.2 j 1)))), (5, .int (nI (pk ((S.m x).log.2 j 0) ((S.m x).log.2 j 1) ((S.m x).log.2 j 2)))), (0, .ref (G.h + 272)), (1, .int (nI x)), (4, .int (nI j))]) C.x C.b dX4_replayed_95 rfl hl (by decide) rfl (fun ls hl => ?_)
            refine lv_iinc (v := nI j + 1) (lv' := [(4, .int (nI j + 1)), (3, .int (nI (pk 2 (gt x (nx st ((S.m x).log.2 j 2) ((S.m x).log.2 j 1)) S.n + 1) (nx st ((S.m x).log.2 j 2) ((S.m x).log.2 j 1) % 1000)))), (2, .int (nI (nx st ((S.m x).log.2 j 2) ((S.m x).log.2 j 1)))), (5, .int (nI (pk ((S.m x).log.2 j 0) ((S.m x).log.2 j 1) ((S.m x).log.2 j 2)))), (0, .ref (G.h + 272)), (1, .int (nI x))]) C.x C.b dX4_replayed_96 hl (k := 5) rfl rfl (by decide) rfl (fun ls hl => ?_)
            have hl : lv_has ls 6 [(4, .int (nI (j + 1))), (3, .int (nI (pk 2 (gt x (nx st ((S.m x).log.2 j 2) ((S.m x).log.2 j 1)) S.n + 1) (nx st ((S.m x).log.2 j 2) ((S.m x).log.2 j 1) % 1000)))), (2, .int (nI (nx st ((S.m x).log.2 j 2) ((S.m x).log.2 j 1)))), (5, .int (nI (pk ((S.m x).log.2 j 0) ((S.m x).log.2 j 1) ((S.m x).log.2 j 2)))), (0, .ref (G.h + 272)), (1, .int (nI x))] := by
              have e9 : nI j + 1 = nI (j + 1) := nI_1 j
              rw [← e9]; exact hl
            refine lv_goto (tgt := 7) C.x C.b dX4_replayed_99 (by decide) ?_
            exact ih (j + 1) (nx st ((S.m x).log.2 j 2) ((S.m x).log.2 j 1)) f (some (pk 2 (gt x (nx st ((S.m x).log.2 j 2) ((S.m x).log.2 j 1)) S.n + 1) (nx st ((S.m x).log.2 j 2) ((S.m x).log.2 j 1) % 1000))) _ _ _ (by omega) (nx_lt _ _ _) (by omega) (fun e h => by cases h; exact pkv_lt (by omega) (by have := gt_lt (x := x) (m := nx st ((S.m x).log.2 j 2) ((S.m x).log.2 j 1)) hS.n2; omega) (Nat.mod_lt _ (by omega))) (hr.trans (rpd_due hrow hS.n2 hn6 hjk (fun q => c_38 (by rw [q]; rfl)) (zzero (by have := nx_lt st ((S.m x).log.2 j 2) ((S.m x).log.2 j 1); omega) c_73))) hw (lv_sub hl [4, 5, 2, 1, 0] rfl)
        · have hk2 : (S.m x).log.2 j 0 = 2 := (nI_eq (b := 2) (by omega) (by omega)).mp c_38
          refine lv_iload C.x C.b dX4_replayed_41 (lv_at hl 0 rfl) ?_
          refine z_pc (pc2 := 43) rfl ?_
          refine lv_iload_n C.x C.b dX4_replayed_43 rfl (lv_at hl 4 rfl) ?_
          refine lv_icmp_eq (tgt := 50) C.x C.b dX4_replayed_44 (by decide) (fun c_44 => absurd c_44 (fun q => by
                  have h9 : ¬ nI (pk ((S.m x).log.2 j 0) ((S.m x).log.2 j 1) ((S.m x).log.2 j 2)) < 0 := zneg (by have := pkv_lt hq0.1 (show (S.m x).log.2 j 1 ≤ 6 by omega) hq0.2.2; omega)
                  rw [show nI (pk ((S.m x).log.2 j 0) ((S.m x).log.2 j 1) ((S.m x).log.2 j 2)) = -1 from by rw [hd0] at q; exact q] at h9; exact h9 (by decide))) (fun c_44 => ?_)
          refine lv_iload C.x C.b dX4_replayed_47 (lv_at hl 5 rfl) ?_
          exact z_iret C hw dX4_replayed_49 (by rw [hr, rpl, if_neg (by omega), if_pos hk2]; rfl) (rfl)
  exact loop ((S.m x).log.1) 0 x ((S.m x).log.1 + 1) none _ _ _ (by omega) (by omega) (by omega) (fun e h => absurd h (by simp)) rfl hw (lv_sub hl [3, 4, 2, 1, 0] rfl)

set_option maxRecDepth 100000 in
set_option maxHeartbeats 4000000 in
theorem m_X4_proves {G : zG} {N : Nat} {Λ : zLay} {l : Launch} (hO : zOK G l) (z : zM) (hB : zMo G N Λ) {k : Nat} (hk : z.1 273 2800 = nI k) (hk30 : k < 30) {a b c d : Int32} : zMet G N Λ l yX4_proves cX4_proves 6 none 0 [.ref (G.h + 272), .int a, .int b, .int c, .int d] z none (mpv z k a b c d) := by
  refine zMet_of hO (by decide) (Nat.le_of_ble_eq_true rfl) ?_
  intro pP eE sS mM bB tT cC ls C hw hl
  have hl : lv_has ls 6 [(0, .ref (G.h + 272)), (1, .int a), (2, .int b), (3, .int c), (4, .int d)] := hl
  refine lv_sipush (v := 2801) C.x C.b dX4_proves_0 (by decide) ?_
  refine lv_iconst (v := 4) C.x C.b dX4_proves_3 (by decide) ?_
  refine lv_aload_n C.x C.b dX4_proves_4 rfl (lv_at hl 0 rfl) ?_
  refine z_get C hw hB.lt (hB.at _ _) flX4_7 rfl dX4_proves_5 ?_
  refine lv_sipush (v := 2800) C.x C.b dX4_proves_8 (by decide) ?_
  refine z_iald C hw hB.ltn hB.now (zvin (x := 2800) (by omega) (by omega)) dX4_proves_11 ?_
  refine z_topi (y := z.1 273 2800) (congrArg (z.1 273) (zcl (x := 2800) (n := 2921) (by omega) (by omega))) ?_
  refine z_topi (y := nI k) (hk) ?_
  refine lv_imul C.x C.b dX4_proves_12 ?_
  refine lv_iadd C.x C.b dX4_proves_13 ?_
  refine z_topi (y := nI (2801 + 4 * k)) (by rw [zlit 2801, zlit 4, pk_mul, nI_add]) ?_
  refine lv_istore (lv' := [(5, .int (nI (2801 + 4 * k))), (0, .ref (G.h + 272)), (1, .int a), (2, .int b), (3, .int c), (4, .int d)]) C.x C.b dX4_proves_14 hl (by decide) rfl (fun ls hl => ?_)
  refine lv_aload_n C.x C.b dX4_proves_16 rfl (lv_at hl 1 rfl) ?_
  refine z_get C hw hB.lt (hB.at _ _) flX4_7 rfl dX4_proves_17 ?_
  refine lv_iload C.x C.b dX4_proves_20 (lv_at hl 0 rfl) ?_
  refine lv_iload_n C.x C.b dX4_proves_22 rfl (lv_at hl 2 rfl) ?_
  refine z_iast C hw hB.ltn hB.now (zvin (x := 2801 + 4 * k) (by omega) (by omega)) dX4_proves_23 (fun H locs hw => ?_)
  have e8 : (nI (2801 + 4 * k)).toNatClampNeg = (2801 + 4 * k) := zcl (x := 2801 + 4 * k) (n := 2921) (by omega) (by omega)
  rw [e8] at hw
  obtain ⟨z_1, ez_1⟩ : ∃ q_9, q_9 = zi z 273 (2801 + 4 * k) a := ⟨_, rfl⟩
  have hw : zS G N Λ z_1 sS H locs := by rw [ez_1]; exact hw
  refine lv_aload_n C.x C.b dX4_proves_24 rfl (lv_at hl 1 rfl) ?_
  refine z_get C hw hB.lt (hB.at _ _) flX4_7 rfl dX4_proves_25 ?_
  refine lv_iload C.x C.b dX4_proves_28 (lv_at hl 0 rfl) ?_
  refine lv_iconst (v := 1) C.x C.b dX4_proves_30 (by decide) ?_
  refine lv_iadd C.x C.b dX4_proves_31 ?_
  refine z_topi (y := nI (2801 + 4 * k + 1)) (by rw [zlit 1, nI_add]) ?_
  refine z_pc (pc2 := 32) rfl ?_
  refine lv_iload_n C.x C.b dX4_proves_32 rfl (lv_at hl 3 rfl) ?_
  refine z_iast C hw hB.ltn hB.now (zvin (x := 2801 + 4 * k + 1) (by omega) (by omega)) dX4_proves_33 (fun H locs hw => ?_)
  have e8 : (nI (2801 + 4 * k + 1)).toNatClampNeg = (2801 + 4 * k + 1) := zcl (x := 2801 + 4 * k + 1) (n := 2921) (by omega) (by omega)
  rw [e8] at hw
  obtain ⟨z_2, ez_2⟩ : ∃ q_9, q_9 = zi z_1 273 (2801 + 4 * k + 1) b := ⟨_, rfl⟩
  have hw : zS G N Λ z_2 sS H locs := by rw [ez_2]; exact hw
  refine lv_aload_n C.x C.b dX4_proves_34 rfl (lv_at hl 1 rfl) ?_
  refine z_get C hw hB.lt (hB.at _ _) flX4_7 rfl dX4_proves_35 ?_
  refine lv_iload C.x C.b dX4_proves_38 (lv_at hl 0 rfl) ?_
  refine lv_iconst (v := 2) C.x C.b dX4_proves_40 (by decide) ?_
  refine lv_iadd C.x C.b dX4_proves_41 ?_
  refine z_topi (y := nI (2801 + 4 * k + 2)) (by rw [zlit 2, nI_add]) ?_
  refine lv_iload_n C.x C.b dX4_proves_42 rfl (lv_at hl 4 rfl) ?_
  refine z_iast C hw hB.ltn hB.now (zvin (x := 2801 + 4 * k + 2) (by omega) (by omega)) dX4_proves_43 (fun H locs hw => ?_)
  have e8 : (nI (2801 + 4 * k + 2)).toNatClampNeg = (2801 + 4 * k + 2) := zcl (x := 2801 + 4 * k + 2) (n := 2921) (by omega) (by omega)
  rw [e8] at hw
  obtain ⟨z_3, ez_3⟩ : ∃ q_9, q_9 = zi z_2 273 (2801 + 4 * k + 2) c := ⟨_, rfl⟩
  have hw : zS G N Λ z_3 sS H locs := by rw [ez_3]; exact hw
  refine lv_aload_n C.x C.b dX4_proves_44 rfl (lv_at hl 1 rfl) ?_
  refine z_get C hw hB.lt (hB.at _ _) flX4_7 rfl dX4_proves_45 ?_
  refine lv_iload C.x C.b dX4_proves_48 (lv_at hl 0 rfl) ?_
  refine lv_iconst (v := 3) C.x C.b dX4_proves_50 (by decide) ?_
  refine lv_iadd C.x C.b dX4_proves_51 ?_
  refine z_topi (y := nI (2801 + 4 * k + 3)) (by rw [zlit 3, nI_add]) ?_
  refine lv_iload C.x C.b dX4_proves_52 (lv_at hl 5 rfl) ?_
  refine z_iast C hw hB.ltn hB.now (zvin (x := 2801 + 4 * k + 3) (by omega) (by omega)) dX4_proves_54 (fun H locs hw => ?_)
  have e8 : (nI (2801 + 4 * k + 3)).toNatClampNeg = (2801 + 4 * k + 3) := zcl (x := 2801 + 4 * k + 3) (n := 2921) (by omega) (by omega)
  rw [e8] at hw
  obtain ⟨z_4, ez_4⟩ : ∃ q_9, q_9 = zi z_3 273 (2801 + 4 * k + 3) d := ⟨_, rfl⟩
  have hw : zS G N Λ z_4 sS H locs := by rw [ez_4]; exact hw
  refine lv_aload_n C.x C.b dX4_proves_55 rfl (lv_at hl 1 rfl) ?_
  refine z_get C hw hB.lt (hB.at _ _) flX4_7 rfl dX4_proves_56 ?_
  refine lv_sipush (v := 2800) C.x C.b dX4_proves_59 (by decide) ?_
  refine lv_dup2_11 C.x C.b dX4_proves_62 rfl rfl ?_
  refine z_pc (pc2 := 63) rfl ?_
  refine z_iald C hw hB.ltn hB.now (zvin (x := 2800) (by omega) (by omega)) dX4_proves_63 ?_
  refine z_topi (y := z_4.1 273 2800) (congrArg (z_4.1 273) (zcl (x := 2800) (n := 2921) (by omega) (by omega))) ?_
  refine z_topi (y := nI k) (by rw [ez_4, zi_at, if_neg (by omega), ez_3, zi_at, if_neg (by omega), ez_2, zi_at, if_neg (by omega), ez_1, zi_at, if_neg (by omega)]; exact hk) ?_
  refine lv_iconst (v := 1) C.x C.b dX4_proves_64 (by decide) ?_
  refine lv_iadd C.x C.b dX4_proves_65 ?_
  refine z_topi (y := nI (k + 1)) (nI_1 _) ?_
  refine z_iast C hw hB.ltn hB.now (zvin (x := 2800) (by omega) (by omega)) dX4_proves_66 (fun H locs hw => ?_)
  have e8 : (2800 : Int32).toNatClampNeg = 2800 := zcl (x := 2800) (n := 2921) (by omega) (by omega)
  rw [e8] at hw
  obtain ⟨z_5, ez_5⟩ : ∃ q_9, q_9 = zi z_4 273 2800 (nI (k + 1)) := ⟨_, rfl⟩
  have hw : zS G N Λ z_5 sS H locs := by rw [ez_5]; exact hw
  exact z_vret C hw dX4_proves_67 (rfl) (by rw [ez_5, ez_4, ez_3, ez_2, ez_1]; rfl)

set_option maxRecDepth 100000 in
set_option maxHeartbeats 4000000 in
theorem m_X4_exposes {G : zG} {N : Nat} {Λ : zLay} {l : Launch} (hO : zOK G l) (z : zM) (hB : zMo G N Λ) {k : Nat} (hk : z.1 273 2800 = nI k) (hk30 : k < 30) {a b c d : Int32} : zMet G N Λ l yX4_exposes cX4_exposes 5 (some .int) 1 [.ref (G.h + 272), .int a, .int b, .int c, .int d] z (some (.int 2)) (mpv z k a b c d) := by
  refine zMet_of hO (by decide) (Nat.le_of_ble_eq_true rfl) ?_
  intro pP eE sS mM bB tT cC ls C hw hl
  have hl : lv_has ls 5 [(0, .ref (G.h + 272)), (1, .int a), (2, .int b), (3, .int c), (4, .int d)] := hl
  refine lv_aload_n C.x C.b dX4_exposes_0 rfl (lv_at hl 0 rfl) ?_
  refine lv_iload_n C.x C.b dX4_exposes_1 rfl (lv_at hl 1 rfl) ?_
  refine lv_iload_n C.x C.b dX4_exposes_2 rfl (lv_at hl 2 rfl) ?_
  refine lv_iload_n C.x C.b dX4_exposes_3 rfl (lv_at hl 3 rfl) ?_
  refine lv_iload C.x C.b dX4_exposes_4 (lv_at hl 4 rfl) ?_
  refine z_V0 (As := [.int a, .int b, .int c, .int d]) (rest := []) C hw hl (m_X4_proves hO _ hB hk hk30) ivX4_118 hB.lt (hB.at _ _) rfl rfl ⟨(Nat.le_of_ble_eq_true rfl), (Nat.le_of_ble_eq_true rfl)⟩ (Nat.le_of_ble_eq_true rfl) ⟨Nat.zero_le _, Nat.zero_le _⟩ dX4_exposes_6 (fun H locs hw => ?_)
  obtain ⟨z_1, ez_1⟩ : ∃ q_9, q_9 = mpv z k a b c d := ⟨_, rfl⟩
  have hw : zS G N Λ z_1 sS H locs := by rw [ez_1]; exact hw
  refine lv_iconst (v := 2) C.x C.b dX4_exposes_9 (by decide) ?_
  exact z_iret C hw dX4_exposes_10 (rfl) (by rw [ez_1])

set_option maxRecDepth 100000 in
set_option maxHeartbeats 4000000 in
theorem m_X4_judged {G : zG} {N : Nat} {Λ : zLay} {l : Launch} (hO : zOK G l) (z : zM) (hB : zMo G N Λ) {S : aS} (hM : mS z S) (hS : aOK S) {x : Nat} (hx : x < S.n) (hx6 : x < 6) {w : Nat} (hwn : w < S.n) (hne : w ≠ x) : zMet G N Λ l yX4_judged cX4_judged 4 (some .int) 5 [.ref (G.h + 272), .int (nI w), .int (nI x)] z (some (.int (nI (jdg S w x).1))) (mjz z S w x) := by
  refine zMet_of hO (by decide) (Nat.le_of_ble_eq_true rfl) ?_
  intro pP eE sS mM bB tT cC ls C hw hl
  have hl : lv_has ls 4 [(0, .ref (G.h + 272)), (1, .int (nI w)), (2, .int (nI x))] := hl
  have hn6 := hS.n6
  have hmx := hM.m hx
  have hox := hS.m hx
  have hl40 := hox.log.1
  have hw6 : w < 6 := by omega
  have hvw := hox.ver w
  have hsi := hox.sil
  have hp40 := hox.pend.1
  refine lv_aload_n C.x C.b dX4_judged_0 rfl (lv_at hl 0 rfl) ?_
  refine lv_iload_n C.x C.b dX4_judged_1 rfl (lv_at hl 2 rfl) ?_
  refine lv_sipush (v := 427) C.x C.b dX4_judged_2 (by decide) ?_
  refine lv_iload_n C.x C.b dX4_judged_5 rfl (lv_at hl 1 rfl) ?_
  refine lv_iadd C.x C.b dX4_judged_6 ?_
  refine z_topi (y := nI (427 + w)) (by rw [zlit 427, nI_add]) ?_
  refine z_Vv (As := [.int (nI x), .int (nI (427 + w))]) (rest := []) C hw hl (m_X4_get hO _ hB (o := 427 + w) (mat_lt2 hx6 (by omega))) ivX4_40 hB.lt (hB.at _ _) rfl rfl ⟨(Nat.le_of_ble_eq_true rfl), (Nat.le_of_ble_eq_true rfl)⟩ (Nat.le_of_ble_eq_true rfl) ⟨Nat.zero_le _, Nat.zero_le _⟩ dX4_judged_7 (fun H locs hw => ?_)
  refine z_topi (y := nI ((S.m x).ver w)) (hmx.2.2.2.2 w hw6) ?_
  refine lv_iconst (v := 2) C.x C.b dX4_judged_10 (by decide) ?_
  refine lv_icmp_ne (tgt := 16) C.x C.b dX4_judged_11 (by decide) (fun c_11 => ?_) (fun c_11 => ?_)
  · have hv2 : ¬ (S.m x).ver w = 2 := fun q => c_11 (by rw [q]; rfl)
    refine lv_aload_n C.x C.b dX4_judged_16 rfl (lv_at hl 0 rfl) ?_
    refine lv_iload_n C.x C.b dX4_judged_17 rfl (lv_at hl 2 rfl) ?_
    refine lv_iconst (v := 1) C.x C.b dX4_judged_18 (by decide) ?_
    refine z_Vv (As := [.int (nI x), .int 1]) (rest := []) C hw hl (m_X4_get hO _ hB (o := 1) (mat_lt2 hx6 (by omega))) ivX4_40 hB.lt (hB.at _ _) rfl rfl ⟨(Nat.le_of_ble_eq_true rfl), (Nat.le_of_ble_eq_true rfl)⟩ (Nat.le_of_ble_eq_true rfl) ⟨Nat.zero_le _, Nat.zero_le _⟩ dX4_judged_19 (fun H locs hw => ?_)
    refine z_topi (y := nI (S.m x).sil) (hmx.1.2.1) ?_
    refine lv_iconst (v := 1) C.x C.b dX4_judged_22 (by decide) ?_
    refine lv_icmp_ne (tgt := 28) C.x C.b dX4_judged_23 (by decide) (fun c_23 => ?_) (fun c_23 => ?_)
    · have hs0 : (S.m x).sil = 0 := by
        rcases (show (S.m x).sil = 0 ∨ (S.m x).sil = 1 by omega) with h | h
        · exact h
        · exact absurd (by rw [h]; rfl) c_23
      have hj1 : jdg S w x = (match belA S x S.n 0 with | some e => (2, some (0, e)) | none => jRe S w x) := by unfold jdg; rw [if_neg hv2, if_neg (fun q => q hs0)]; rfl
      refine lv_aload_n C.x C.b dX4_judged_28 rfl (lv_at hl 0 rfl) ?_
      refine lv_iload_n C.x C.b dX4_judged_29 rfl (lv_at hl 2 rfl) ?_
      refine z_Vv (As := [.int (nI x)]) (rest := []) C hw hl (m_X4_mismatch hO _ hB hM hS hx hx6) ivX4_121 hB.lt (hB.at _ _) rfl rfl ⟨(Nat.le_of_ble_eq_true rfl), (Nat.le_of_ble_eq_true rfl)⟩ (Nat.le_of_ble_eq_true rfl) ⟨Nat.zero_le _, Nat.zero_le _⟩ dX4_judged_30 (fun H locs hw => ?_)
      refine lv_istore_n (lv' := [(3, .int (oI (belA S x S.n 0))), (0, .ref (G.h + 272)), (1, .int (nI w)), (2, .int (nI x))]) C.x C.b dX4_judged_33 rfl hl (by decide) rfl (fun ls hl => ?_)
      refine lv_iload_n C.x C.b dX4_judged_34 rfl (lv_at hl 0 rfl) ?_
      refine z_pc (pc2 := 35) rfl ?_
      refine lv_iconst (v := -1) C.x C.b dX4_judged_35 (by decide) ?_
      refine lv_icmp_eq (tgt := 48) C.x C.b dX4_judged_36 (by decide) (fun c_36 => ?_) (fun c_36 => ?_)
      · have hbn : belA S x S.n 0 = none := by
          cases h : belA S x S.n 0 with
          | none => rfl
          | some e =>
            have h8 := belA_lt hS _ _ _ (by omega) h
            have h9 : ¬ nI e < 0 := zneg (by omega)
            rw [h] at c_36
            rw [show nI e = -1 from c_36] at h9; exact absurd (by decide) h9
        have hj2 : jdg S w x = jRe S w x := by rw [hj1, hbn]
        refine lv_aload_n C.x C.b dX4_judged_48 rfl (lv_at hl 1 rfl) ?_
        refine lv_iload_n C.x C.b dX4_judged_49 rfl (lv_at hl 3 rfl) ?_
        refine z_Vv (As := [.int (nI x)]) (rest := []) C hw hl (m_X4_replayed hO _ hB hM hS hx hx6) ivX4_128 hB.lt (hB.at _ _) rfl rfl ⟨(Nat.le_of_ble_eq_true rfl), (Nat.le_of_ble_eq_true rfl)⟩ (Nat.le_of_ble_eq_true rfl) ⟨Nat.zero_le _, Nat.zero_le _⟩ dX4_judged_50 (fun H locs hw => ?_)
        refine lv_istore_n (lv' := [(3, .int (oI (rpl (S.m x).log.2 (S.m x).log.1 x S.n ((S.m x).log.1 + 1) 0 x))), (0, .ref (G.h + 272)), (1, .int (nI w)), (2, .int (nI x))]) C.x C.b dX4_judged_53 rfl hl (by decide) rfl (fun ls hl => ?_)
        refine lv_iload_n C.x C.b dX4_judged_54 rfl (lv_at hl 0 rfl) ?_
        refine lv_iconst (v := -1) C.x C.b dX4_judged_55 (by decide) ?_
        refine lv_icmp_eq (tgt := 68) C.x C.b dX4_judged_56 (by decide) (fun c_56 => ?_) (fun c_56 => ?_)
        · have hrn : rpl (S.m x).log.2 (S.m x).log.1 x S.n ((S.m x).log.1 + 1) 0 x = none := by
            cases h : rpl (S.m x).log.2 (S.m x).log.1 x S.n ((S.m x).log.1 + 1) 0 x with
            | none => rfl
            | some e =>
              have h8 := rpl_le _ _ _ _ h
              have h9 : ¬ nI e < 0 := zneg (by omega)
              rw [h] at c_56
              rw [show nI e = -1 from c_56] at h9; exact absurd (by decide) h9
          have hjd : jdg S w x = (if 0 < (S.m x).pend.1 then 1 else 0, none) := by rw [hj2, jRe, hrn]
          refine lv_aload_n C.x C.b dX4_judged_68 rfl (lv_at hl 1 rfl) ?_
          refine lv_iload_n C.x C.b dX4_judged_69 rfl (lv_at hl 3 rfl) ?_
          refine lv_sipush (v := 226) C.x C.b dX4_judged_70 (by decide) ?_
          refine z_Vv (As := [.int (nI x), .int 226]) (rest := []) C hw hl (m_X4_get hO _ hB (o := 226) (mat_lt2 hx6 (by omega))) ivX4_40 hB.lt (hB.at _ _) rfl rfl ⟨(Nat.le_of_ble_eq_true rfl), (Nat.le_of_ble_eq_true rfl)⟩ (Nat.le_of_ble_eq_true rfl) ⟨Nat.zero_le _, Nat.zero_le _⟩ dX4_judged_73 (fun H locs hw => ?_)
          refine z_topi (y := nI (S.m x).pend.1) (hmx.2.2.2.1.2.1) ?_
          refine lv_if_le (tgt := 83) C.x C.b dX4_judged_76 (by decide) (fun c_76 => ?_) (fun c_76 => ?_)
          · refine lv_iconst (v := 0) C.x C.b dX4_judged_83 (by decide) ?_
            exact z_iret C hw dX4_judged_84 (by rw [hjd, if_neg (fun q => absurd c_76 (znle (a := 0) (by omega) q))]; rfl) (by rw [mjz, hjd])
          · refine lv_iconst (v := 1) C.x C.b dX4_judged_79 (by decide) ?_
            refine lv_goto (tgt := 84) C.x C.b dX4_judged_80 (by decide) ?_
            exact z_iret C hw dX4_judged_84 (by rw [hjd, if_pos (Nat.pos_of_ne_zero (fun q => c_76 (by rw [q]; exact zle (b := 0) (by omega) (by omega))))]; rfl) (by rw [mjz, hjd])
        · obtain ⟨e, hre⟩ : ∃ e, rpl (S.m x).log.2 (S.m x).log.1 x S.n ((S.m x).log.1 + 1) 0 x = some e := by
            cases h : rpl (S.m x).log.2 (S.m x).log.1 x S.n ((S.m x).log.1 + 1) 0 x with
            | none => rw [h] at c_56; exact absurd rfl c_56
            | some e => exact ⟨e, rfl⟩
          have hjd : jdg S w x = (2, some (1, e)) := by rw [hj2, jRe, hre]
          have hl : lv_has ls 4 [(3, .int (nI e)), (0, .ref (G.h + 272)), (1, .int (nI w)), (2, .int (nI x))] := by
            have e9 : oI (rpl (S.m x).log.2 (S.m x).log.1 x S.n ((S.m x).log.1 + 1) 0 x) = nI e := by rw [hre]; rfl
            rw [← e9]; exact hl
          refine lv_aload_n C.x C.b dX4_judged_59 rfl (lv_at hl 1 rfl) ?_
          refine lv_iconst (v := 1) C.x C.b dX4_judged_60 (by decide) ?_
          refine lv_iload_n C.x C.b dX4_judged_61 rfl (lv_at hl 3 rfl) ?_
          refine lv_iload_n C.x C.b dX4_judged_62 rfl (lv_at hl 2 rfl) ?_
          refine lv_iload_n C.x C.b dX4_judged_63 rfl (lv_at hl 0 rfl) ?_
          refine z_Vv (As := [.int 1, .int (nI x), .int (nI w), .int (nI e)]) (rest := []) C hw hl (m_X4_exposes hO _ hB hM.e.2.1 (exps_lt hS hx hwn hne hv2)) ivX4_124 hB.lt (hB.at _ _) rfl rfl ⟨(Nat.le_of_ble_eq_true rfl), (Nat.le_of_ble_eq_true rfl)⟩ (Nat.le_of_ble_eq_true rfl) ⟨Nat.zero_le _, Nat.zero_le _⟩ dX4_judged_64 (fun H locs hw => ?_)
          obtain ⟨z_1, ez_1⟩ : ∃ q_9, q_9 = mpv z S.ev.1 1 (nI x) (nI w) (nI e) := ⟨_, rfl⟩
          have hw : zS G N Λ z_1 sS H locs := by rw [ez_1]; exact hw
          exact z_iret C hw dX4_judged_67 (by rw [hjd]; rfl) (by rw [ez_1, mjz, hjd]; rfl)
      · obtain ⟨e, hbe⟩ : ∃ e, belA S x S.n 0 = some e := by
          cases h : belA S x S.n 0 with
          | none => rw [h] at c_36; exact absurd rfl c_36
          | some e => exact ⟨e, rfl⟩
        have hjd : jdg S w x = (2, some (0, e)) := by rw [hj1, hbe]
        have hl : lv_has ls 4 [(3, .int (nI e)), (0, .ref (G.h + 272)), (1, .int (nI w)), (2, .int (nI x))] := by
          have e9 : oI (belA S x S.n 0) = nI e := by rw [hbe]; rfl
          rw [← e9]; exact hl
        refine lv_aload_n C.x C.b dX4_judged_39 rfl (lv_at hl 1 rfl) ?_
        refine lv_iconst (v := 0) C.x C.b dX4_judged_40 (by decide) ?_
        refine lv_iload_n C.x C.b dX4_judged_41 rfl (lv_at hl 3 rfl) ?_
        refine lv_iload_n C.x C.b dX4_judged_42 rfl (lv_at hl 2 rfl) ?_
        refine lv_iload_n C.x C.b dX4_judged_43 rfl (lv_at hl 0 rfl) ?_
        refine z_Vv (As := [.int 0, .int (nI x), .int (nI w), .int (nI e)]) (rest := []) C hw hl (m_X4_exposes hO _ hB hM.e.2.1 (exps_lt hS hx hwn hne hv2)) ivX4_124 hB.lt (hB.at _ _) rfl rfl ⟨(Nat.le_of_ble_eq_true rfl), (Nat.le_of_ble_eq_true rfl)⟩ (Nat.le_of_ble_eq_true rfl) ⟨Nat.zero_le _, Nat.zero_le _⟩ dX4_judged_44 (fun H locs hw => ?_)
        obtain ⟨z_2, ez_2⟩ : ∃ q_9, q_9 = mpv z S.ev.1 0 (nI x) (nI w) (nI e) := ⟨_, rfl⟩
        have hw : zS G N Λ z_2 sS H locs := by rw [ez_2]; exact hw
        exact z_iret C hw dX4_judged_47 (by rw [hjd]; rfl) (by rw [ez_2, mjz, hjd]; rfl)
    · have hs1 : ¬ (S.m x).sil = 0 := fun q => by rw [q] at c_23; exact absurd c_23 (by decide)
      have hjd : jdg S w x = (1, none) := by unfold jdg; rw [if_neg hv2, if_pos hs1]
      refine lv_iconst (v := 1) C.x C.b dX4_judged_26 (by decide) ?_
      exact z_iret C hw dX4_judged_27 (by rw [hjd]; rfl) (by rw [mjz, hjd])
  · have hv2 : (S.m x).ver w = 2 := (nI_eq (b := 2) (by omega) (by omega)).mp c_11
    have hjd : jdg S w x = (2, none) := by unfold jdg; rw [if_pos hv2]
    refine lv_iconst (v := 2) C.x C.b dX4_judged_14 (by decide) ?_
    exact z_iret C hw dX4_judged_15 (by rw [hjd]; rfl) (by rw [mjz, hjd])
