theorem hasO_0 {m : Nat} (h : hasO m = 0) : ¬ m % 3 = 0 := fun q => by rw [hasO, if_pos q] at h; exact absurd h (by decide)
theorem hasO_n {m : Nat} (h : ¬ hasO m = 0) : m % 3 = 0 := by
  by_cases q : m % 3 = 0
  · exact q
  · rw [hasO, if_neg q] at h; exact absurd rfl h
theorem isS_0 {r : Nat → Nat → Nat} {k j q v : Nat} (h : isS r k j q v = 0) : ¬ (j < k ∧ r j 0 = 2 ∧ r j 1 = q ∧ r j 2 = v) := fun w => by rw [isS, if_pos w] at h; exact absurd h (by decide)
theorem isS_n {r : Nat → Nat → Nat} {k j q v : Nat} (h : ¬ isS r k j q v = 0) : j < k ∧ r j 0 = 2 ∧ r j 1 = q ∧ r j 2 = v := by
  by_cases w : j < k ∧ r j 0 = 2 ∧ r j 1 = q ∧ r j 2 = v
  · exact w
  · rw [isS, if_neg w] at h; exact absurd rfl h
/-- the first j numbers of row c are 0 -/
def vz (z : zM) (c j : Nat) : zM := zr z c (fun i => if i < j then 0 else z.1 c i)
theorem vz_0 (z : zM) (c : Nat) : vz z c 0 = z := by
  refine Prod.ext (funext fun a => ?_) rfl
  by_cases h : a = c
  · subst h; rw [vz, zr_s]; funext i; rw [if_neg (by omega)]
  · rw [vz, zr_n _ _ h]
theorem vz_at (z : zM) (c j i : Nat) : (vz z c j).1 c i = if i < j then 0 else z.1 c i := by rw [vz, zr_s]
theorem vz_n (z : zM) {c a : Nat} (j : Nat) (h : a ≠ c) : (vz z c j).1 a = z.1 a := zr_n _ _ h
theorem vz_step (z : zM) (c j : Nat) : zi (vz z c j) c j 0 = vz z c (j + 1) := by
  refine Prod.ext (funext fun a => funext fun i => ?_) rfl
  rw [zi_at]
  by_cases ha : a = c
  · subst ha
    rw [vz_at, vz_at]
    by_cases hi : i = j
    · subst hi; rw [if_pos ⟨rfl, rfl⟩, if_pos (by omega)]
    · rw [if_neg (fun q => hi q.2)]
      by_cases hq : i < j
      · rw [if_pos hq, if_pos (by omega)]
      · rw [if_neg hq, if_neg (by omega)]
  · rw [if_neg (fun q => ha q.1), vz_n _ _ ha, vz_n _ _ ha]
def stz0 (z : zM) (b x n : Nat) : zM := zi (zi (zi (zi z b 1 (nI x)) b 2 0) b 3 0) b 4 (othI x n)
def stz (z : zM) (b x n : Nat) : zM := zi (zi (zi (vz (stz0 z b x n) (b + 1) 6) (b + 2) 3 0) (b + 4) 3 0) (b + 6) 3 0
def cpr (z : zM) (t o w k : Nat) : zM := zr (zi z t 3 (nI k)) (t + 1) (va_cpy ((zi z t 3 (nI k)).1 (o + 1)) (z.1 (t + 1)) 0 0 (k * w))
def cpm4 (z : zM) (b b2 s1 s2 : Nat) : zM := zi (zi (zi (zi z b 1 (z.1 b2 1)) b 2 (nI s1)) b 3 (nI s2)) b 4 (z.1 b2 4)
def cpm5 (z : zM) (b b2 s1 s2 : Nat) : zM := zr (cpm4 z b b2 s1 s2) (b + 1) (va_cpy ((cpm4 z b b2 s1 s2).1 (b2 + 1)) ((cpm4 z b b2 s1 s2).1 (b + 1)) 0 0 6)
def cpm (z : zM) (b b2 s1 s2 k1 k2 k3 : Nat) : zM := cpr (cpr (cpr (cpm5 z b b2 s1 s2) (b + 2) (b2 + 2) 4 k1) (b + 4) (b2 + 4) 3 k2) (b + 6) (b2 + 6) 5 k3
theorem cpm4_n (z : zM) {b b2 i : Nat} (s1 s2 : Nat) (h : i ≠ b) : (cpm4 z b b2 s1 s2).1 i = z.1 i := by
  funext j
  simp only [cpm4, zi_at]
  rw [if_neg (by omega), if_neg (by omega), if_neg (by omega), if_neg (by omega)]
theorem cpm5_n (z : zM) {b b2 i : Nat} (s1 s2 : Nat) (h : i ≠ b) (h1 : i ≠ b + 1) : (cpm5 z b b2 s1 s2).1 i = z.1 i := by rw [cpm5, zr_n _ _ h1, cpm4_n _ _ _ h]
theorem cpr_n (z : zM) {t i : Nat} (o w k : Nat) (h : i ≠ t) (h1 : i ≠ t + 1) : (cpr z t o w k).1 i = z.1 i := by
  rw [cpr, zr_n _ _ h1]
  funext j
  rw [zi_at, if_neg (by omega)]
/-- row k of table t becomes row r of table o, as far as column c -/
def acz (z : zM) (t o w k r c : Nat) : zM := zr z (t + 1) (fun i => if k * w ≤ i ∧ i < k * w + c then z.1 (o + 1) (r * w + (i - k * w)) else z.1 (t + 1) i)
theorem acz_0 (z : zM) (t o w k r : Nat) : acz z t o w k r 0 = z := by
  refine Prod.ext (funext fun a => ?_) rfl
  by_cases h : a = t + 1
  · subst h; rw [acz, zr_s]; funext i; rw [if_neg (by omega)]
  · rw [acz, zr_n _ _ h]
theorem acz_at (z : zM) (t o w k r c i : Nat) : (acz z t o w k r c).1 (t + 1) i = if k * w ≤ i ∧ i < k * w + c then z.1 (o + 1) (r * w + (i - k * w)) else z.1 (t + 1) i := by rw [acz, zr_s]
theorem acz_n (z : zM) {t i : Nat} (o w k r c : Nat) (h : i ≠ t + 1) : (acz z t o w k r c).1 i = z.1 i := zr_n _ _ h
theorem acz_step (z : zM) {t o : Nat} (w k r c : Nat) (h : o ≠ t) : zi (acz z t o w k r c) (t + 1) (k * w + c) ((acz z t o w k r c).1 (o + 1) (r * w + c)) = acz z t o w k r (c + 1) := by
  refine Prod.ext (funext fun a => funext fun i => ?_) rfl
  rw [zi_at, acz_n _ _ _ _ _ _ (by omega : o + 1 ≠ t + 1)]
  by_cases ha : a = t + 1
  · subst ha
    rw [acz_at, acz_at]
    by_cases hi : i = k * w + c
    · subst hi
      rw [if_pos ⟨rfl, rfl⟩, if_pos (by omega), Nat.add_sub_cancel_left]
    · rw [if_neg (fun q => hi q.2)]
      by_cases hq : k * w ≤ i ∧ i < k * w + c
      · rw [if_pos hq, if_pos (by omega)]
      · rw [if_neg hq, if_neg (by omega)]
  · rw [if_neg (fun q => ha q.1), acz_n _ _ _ _ _ _ ha, acz_n _ _ _ _ _ _ ha]
set_option maxRecDepth 100000 in
set_option maxHeartbeats 4000000 in
theorem m_X0_isSend {G : zG} {N : Nat} {Λ : zLay} {l : Launch} (hO : zOK G l) (z : zM) {b x : Nat} (hM : zMa G N Λ b x) {k : Nat} (hk : z.1 (b + 2) 3 = nI k) (hk2 : k ≤ 40) {r : Nat → Nat → Nat} (hR : rRow z (b + 2) k r) (hok : okRow r k) {j q v : Nat} (hj : j < 1000) (hq : q ≤ 6) (hv : v < 1000) : zMet G N Λ l yX0_isSend cX0_isSend 4 (some .boolean) 1 [.ref (G.h + b), .int (nI j), .int (pI q), .int (nI v)] z (some (.int (isS r k j q v))) z := by
  refine zMet_of hO (by decide) (Nat.le_of_ble_eq_true rfl) ?_
  intro pP eE sS mM bB tT cC ls C hw hl
  have hl : lv_has ls 4 [(0, .ref (G.h + b)), (1, .int (nI j)), (2, .int (pI q)), (3, .int (nI v))] := hl
  refine lv_iload_n C.x C.b dX0_isSend_0 rfl (lv_at hl 1 rfl) ?_
  refine lv_aload_n C.x C.b dX0_isSend_1 rfl (lv_at hl 0 rfl) ?_
  refine z_get C hw hM.lt (hM.at _ _) flX0_24 rfl dX0_isSend_2 ?_
  refine z_get C hw hM.log.lt (hM.log.at _ _) flX0_65 rfl dX0_isSend_5 ?_
  refine lv_icmp_ge (tgt := 54) C.x C.b dX0_isSend_8 (by decide) (fun c_8 => ?_) (fun c_8 => ?_)
  · refine lv_iconst (v := 0) C.x C.b dX0_isSend_54 (by decide) ?_
    exact z_zret C hw dX0_isSend_55 (by decide) (by rw [isS, if_neg (fun h => absurd c_8 (by rw [hk]; exact znle (by omega) h.1))]) (rfl)
  · have hjk : j < k := Nat.lt_of_not_le (fun h => c_8 (by rw [hk]; exact zle (by omega) h))
    have hok1 := hok j hjk
    refine lv_aload_n C.x C.b dX0_isSend_11 rfl (lv_at hl 0 rfl) ?_
    refine z_get C hw hM.lt (hM.at _ _) flX0_24 rfl dX0_isSend_12 ?_
    refine lv_iload_n C.x C.b dX0_isSend_15 rfl (lv_at hl 1 rfl) ?_
    refine lv_iconst (v := 0) C.x C.b dX0_isSend_16 (by decide) ?_
    refine z_Vv (As := [.int (nI j), .int 0]) (rest := []) C hw hl (m_X1_get hO _ hM.log hk hk2 (r := j) (c := 0) (hjk) (by omega)) ivX0_68 hM.log.lt (hM.log.at _ _) rfl rfl ⟨(Nat.le_of_ble_eq_true rfl), (Nat.le_of_ble_eq_true rfl)⟩ (Nat.le_of_ble_eq_true rfl) ⟨Nat.zero_le _, Nat.zero_le _⟩ dX0_isSend_17 (fun H locs hw => ?_)
    refine z_topi (y := nI (r j 0)) ((hR j hjk).1) ?_
    refine lv_iconst (v := 2) C.x C.b dX0_isSend_20 (by decide) ?_
    refine lv_icmp_ne (tgt := 54) C.x C.b dX0_isSend_21 (by decide) (fun c_21 => ?_) (fun c_21 => ?_)
    · refine lv_iconst (v := 0) C.x C.b dX0_isSend_54 (by decide) ?_
      exact z_zret C hw dX0_isSend_55 (by decide) (by rw [isS, if_neg (fun h => c_21 (by rw [h.2.1]; rfl))]) (rfl)
    · refine lv_aload_n C.x C.b dX0_isSend_24 rfl (lv_at hl 0 rfl) ?_
      refine z_get C hw hM.lt (hM.at _ _) flX0_24 rfl dX0_isSend_25 ?_
      refine lv_iload_n C.x C.b dX0_isSend_28 rfl (lv_at hl 1 rfl) ?_
      refine lv_iconst (v := 1) C.x C.b dX0_isSend_29 (by decide) ?_
      refine z_Vv (As := [.int (nI j), .int 1]) (rest := []) C hw hl (m_X1_get hO _ hM.log hk hk2 (r := j) (c := 1) (hjk) (by omega)) ivX0_68 hM.log.lt (hM.log.at _ _) rfl rfl ⟨(Nat.le_of_ble_eq_true rfl), (Nat.le_of_ble_eq_true rfl)⟩ (Nat.le_of_ble_eq_true rfl) ⟨Nat.zero_le _, Nat.zero_le _⟩ dX0_isSend_30 (fun H locs hw => ?_)
      refine z_topi (y := pI (r j 1)) ((hR j hjk).2.1) ?_
      refine lv_iload_n C.x C.b dX0_isSend_33 rfl (lv_at hl 2 rfl) ?_
      refine lv_icmp_ne (tgt := 54) C.x C.b dX0_isSend_34 (by decide) (fun c_34 => ?_) (fun c_34 => ?_)
      · refine z_pc (pc2 := 54) rfl ?_
        refine lv_iconst (v := 0) C.x C.b dX0_isSend_54 (by decide) ?_
        exact z_zret C hw dX0_isSend_55 (by decide) (by rw [isS, if_neg (fun h => c_34 (by rw [h.2.2.1]))]) (rfl)
      · refine z_pc (pc2 := 37) rfl ?_
        refine lv_aload_n C.x C.b dX0_isSend_37 rfl (lv_at hl 0 rfl) ?_
        refine z_get C hw hM.lt (hM.at _ _) flX0_24 rfl dX0_isSend_38 ?_
        refine lv_iload_n C.x C.b dX0_isSend_41 rfl (lv_at hl 1 rfl) ?_
        refine lv_iconst (v := 2) C.x C.b dX0_isSend_42 (by decide) ?_
        refine z_Vv (As := [.int (nI j), .int 2]) (rest := []) C hw hl (m_X1_get hO _ hM.log hk hk2 (r := j) (c := 2) (hjk) (by omega)) ivX0_68 hM.log.lt (hM.log.at _ _) rfl rfl ⟨(Nat.le_of_ble_eq_true rfl), (Nat.le_of_ble_eq_true rfl)⟩ (Nat.le_of_ble_eq_true rfl) ⟨Nat.zero_le _, Nat.zero_le _⟩ dX0_isSend_43 (fun H locs hw => ?_)
        refine z_topi (y := nI (r j 2)) ((hR j hjk).2.2) ?_
        refine lv_iload_n C.x C.b dX0_isSend_46 rfl (lv_at hl 3 rfl) ?_
        refine lv_icmp_ne (tgt := 54) C.x C.b dX0_isSend_47 (by decide) (fun c_47 => ?_) (fun c_47 => ?_)
        · refine lv_iconst (v := 0) C.x C.b dX0_isSend_54 (by decide) ?_
          exact z_zret C hw dX0_isSend_55 (by decide) (by rw [isS, if_neg (fun h => c_47 (by rw [h.2.2.2]))]) (rfl)
        · refine lv_iconst (v := 1) C.x C.b dX0_isSend_50 (by decide) ?_
          refine lv_goto (tgt := 55) C.x C.b dX0_isSend_51 (by decide) ?_
          exact z_zret C hw dX0_isSend_55 (by decide) (by rw [isS, if_pos ⟨hjk, (nI_eq (b := 2) (by omega) (by omega)).mp c_21, (pI_eq hok1.2.1 hq).mp c_34, (nI_eq (by omega) (by omega)).mp c_47⟩]) (rfl)

set_option maxRecDepth 100000 in
set_option maxHeartbeats 4000000 in
theorem m_X0_beliedEntryOf {G : zG} {N : Nat} {Λ : zLay} {l : Launch} (hO : zOK G l) (z : zM) {b x b2 x2 : Nat} (hM : zMa G N Λ b x) (hM2 : zMa G N Λ b2 x2) {Hd Lg : aT} (hH : rTb z (b + 4) 3 Hd) (hHk : Hd.1 ≤ 60) (hHo : ∀ j, j < Hd.1 → Hd.2 j 0 < 6 ∧ Hd.2 j 1 < 40 ∧ Hd.2 j 2 < 2147483647) (hL : rLog z (b2 + 2) Lg) (hLk : Lg.1 ≤ 40) : zMet G N Λ l yX0_beliedEntryOf cX0_beliedEntryOf 4 (some .int) 2 [.ref (G.h + b), .ref (G.h + b2)] z (some (.int (oI (bel Hd Lg x2 Hd.1 0)))) z := by
  refine zMet_of hO (by decide) (Nat.le_of_ble_eq_true rfl) ?_
  intro pP eE sS mM bB tT cC ls C hw hl
  have hl : lv_has ls 4 [(0, .ref (G.h + b)), (1, .ref (G.h + b2))] := hl
  refine lv_iconst (v := 0) C.x C.b dX0_beliedEntryOf_0 (by decide) ?_
  refine lv_istore_n (lv' := [(2, .int 0), (0, .ref (G.h + b)), (1, .ref (G.h + b2))]) C.x C.b dX0_beliedEntryOf_1 rfl hl (by decide) rfl (fun ls hl => ?_)
  have loop : ∀ (d : Nat) (j : Nat) (H : Heap) (locs : List Loc) (ls : Array Slot) (hj : j + d = Hd.1) (hb : bel Hd Lg x2 Hd.1 0 = bel Hd Lg x2 d j), zS G N Λ z sS H locs → lv_has ls 4 [(0, .ref (G.h + b)), (1, .ref (G.h + b2)), (2, .int (nI j))] → W pP l eE (zR 2) sS mM ([.ref (G.h + b), .ref (G.h + b2)] : List Value).toArray bB tT cC H locs 0 0 (MQ bB (zQc G N Λ (some (.int (oI (bel Hd Lg x2 Hd.1 0)))) z) ([.ref (G.h + b), .ref (G.h + b2)] : List Value).toArray sS 0 0 (zA G)) (F0 mM 2 ls []) := by
    intro d
    induction d with
    | zero =>
      intro j H locs ls hj hb hw hl
      refine lv_iload_n C.x C.b dX0_beliedEntryOf_2 rfl (lv_at hl 2 rfl) ?_
      refine lv_aload_n C.x C.b dX0_beliedEntryOf_3 rfl (lv_at hl 0 rfl) ?_
      refine z_get C hw hM.lt (hM.at _ _) flX0_28 rfl dX0_beliedEntryOf_4 ?_
      refine z_get C hw hM.held.lt (hM.held.at _ _) flX0_65 rfl dX0_beliedEntryOf_7 ?_
      refine lv_icmp_ge (tgt := 77) C.x C.b dX0_beliedEntryOf_10 (by decide) (fun c_10 => ?_) (fun c_10 => absurd (by rw [hH.1]; exact zle (by omega) (by omega)) c_10)
      refine lv_iconst (v := -1) C.x C.b dX0_beliedEntryOf_77 (by decide) ?_
      exact z_iret C hw dX0_beliedEntryOf_78 (by rw [hb]; rfl) (rfl)
    | succ d ih =>
      intro j H locs ls hj hb hw hl
      refine lv_iload_n C.x C.b dX0_beliedEntryOf_2 rfl (lv_at hl 2 rfl) ?_
      refine lv_aload_n C.x C.b dX0_beliedEntryOf_3 rfl (lv_at hl 0 rfl) ?_
      refine z_get C hw hM.lt (hM.at _ _) flX0_28 rfl dX0_beliedEntryOf_4 ?_
      refine z_get C hw hM.held.lt (hM.held.at _ _) flX0_65 rfl dX0_beliedEntryOf_7 ?_
      refine lv_icmp_ge (tgt := 77) C.x C.b dX0_beliedEntryOf_10 (by decide) (fun c_10 => absurd c_10 (by rw [hH.1]; exact znle (by omega) (by omega))) (fun c_10 => ?_)
      have hjk : j < Hd.1 := by omega
      have ho := hHo j hjk
      refine lv_aload_n C.x C.b dX0_beliedEntryOf_13 rfl (lv_at hl 0 rfl) ?_
      refine z_get C hw hM.lt (hM.at _ _) flX0_28 rfl dX0_beliedEntryOf_14 ?_
      refine lv_iload_n C.x C.b dX0_beliedEntryOf_17 rfl (lv_at hl 2 rfl) ?_
      refine lv_iconst (v := 0) C.x C.b dX0_beliedEntryOf_18 (by decide) ?_
      refine z_Vv (As := [.int (nI j), .int 0]) (rest := []) C hw hl (m_X1_get hO _ hM.held hH.1 hHk (r := j) (c := 0) (hjk) (by omega)) ivX0_68 hM.held.lt (hM.held.at _ _) rfl rfl ⟨(Nat.le_of_ble_eq_true rfl), (Nat.le_of_ble_eq_true rfl)⟩ (Nat.le_of_ble_eq_true rfl) ⟨Nat.zero_le _, Nat.zero_le _⟩ dX0_beliedEntryOf_19 (fun H locs hw => ?_)
      refine z_topi (y := nI (Hd.2 j 0)) (hH.2 j hjk 0 (by omega)) ?_
      refine lv_aload_n C.x C.b dX0_beliedEntryOf_22 rfl (lv_at hl 1 rfl) ?_
      refine z_get C hw hM2.lt (hM2.at _ _) flX0_9 rfl dX0_beliedEntryOf_23 ?_
      refine lv_icmp_ne (tgt := 71) C.x C.b dX0_beliedEntryOf_26 (by decide) (fun c_26 => ?_) (fun c_26 => ?_)
      · refine lv_iinc (v := nI j + 1) (lv' := [(2, .int (nI j + 1)), (0, .ref (G.h + b)), (1, .ref (G.h + b2))]) C.x C.b dX0_beliedEntryOf_71 hl (k := 2) rfl rfl (by decide) rfl (fun ls hl => ?_)
        have hl : lv_has ls 4 [(2, .int (nI (j + 1))), (0, .ref (G.h + b)), (1, .ref (G.h + b2))] := by
          have e9 : nI j + 1 = nI (j + 1) := nI_1 j
          rw [← e9]; exact hl
        refine lv_goto (tgt := 2) C.x C.b dX0_beliedEntryOf_74 (by decide) ?_
        exact ih (j + 1) _ _ _ (by omega) (by rw [hb, bel, if_neg (fun h => c_26 (by rw [h.1]))]) hw (lv_sub hl [1, 2, 0] rfl)
      · refine lv_aload_n C.x C.b dX0_beliedEntryOf_29 rfl (lv_at hl 0 rfl) ?_
        refine z_get C hw hM.lt (hM.at _ _) flX0_28 rfl dX0_beliedEntryOf_30 ?_
        refine lv_iload_n C.x C.b dX0_beliedEntryOf_33 rfl (lv_at hl 2 rfl) ?_
        refine lv_iconst (v := 1) C.x C.b dX0_beliedEntryOf_34 (by decide) ?_
        refine z_Vv (As := [.int (nI j), .int 1]) (rest := []) C hw hl (m_X1_get hO _ hM.held hH.1 hHk (r := j) (c := 1) (hjk) (by omega)) ivX0_68 hM.held.lt (hM.held.at _ _) rfl rfl ⟨(Nat.le_of_ble_eq_true rfl), (Nat.le_of_ble_eq_true rfl)⟩ (Nat.le_of_ble_eq_true rfl) ⟨Nat.zero_le _, Nat.zero_le _⟩ dX0_beliedEntryOf_35 (fun H locs hw => ?_)
        refine z_topi (y := nI (Hd.2 j 1)) (hH.2 j hjk 1 (by omega)) ?_
        refine lv_istore_n (lv' := [(3, .int (nI (Hd.2 j 1))), (0, .ref (G.h + b)), (1, .ref (G.h + b2)), (2, .int (nI j))]) C.x C.b dX0_beliedEntryOf_38 rfl hl (by decide) rfl (fun ls hl => ?_)
        refine z_pc (pc2 := 39) rfl ?_
        refine lv_iload_n C.x C.b dX0_beliedEntryOf_39 rfl (lv_at hl 0 rfl) ?_
        refine lv_aload_n C.x C.b dX0_beliedEntryOf_40 rfl (lv_at hl 2 rfl) ?_
        refine z_get C hw hM2.lt (hM2.at _ _) flX0_24 rfl dX0_beliedEntryOf_41 ?_
        refine z_get C hw hM2.log.lt (hM2.log.at _ _) flX0_65 rfl dX0_beliedEntryOf_44 ?_
        refine lv_icmp_ge (tgt := 69) C.x C.b dX0_beliedEntryOf_47 (by decide) (fun c_47 => ?_) (fun c_47 => ?_)
        · refine lv_iload_n C.x C.b dX0_beliedEntryOf_69 rfl (lv_at hl 0 rfl) ?_
          exact z_iret C hw dX0_beliedEntryOf_70 (by rw [hb, bel, if_pos ⟨(nI_eq (by omega) (by have := hM2.x6; omega)).mp c_26, Or.inl ((nI_leI (by omega) (by omega)).mp (by rw [hL.1] at c_47; exact c_47))⟩]; rfl) (rfl)
        · have hek : Hd.2 j 1 < Lg.1 := Nat.lt_of_not_le (fun h => c_47 (by rw [hL.1]; exact zle (by omega) h))
          refine lv_aload_n C.x C.b dX0_beliedEntryOf_50 rfl (lv_at hl 2 rfl) ?_
          refine lv_iload_n C.x C.b dX0_beliedEntryOf_51 rfl (lv_at hl 0 rfl) ?_
          refine lv_iconst (v := 1) C.x C.b dX0_beliedEntryOf_52 (by decide) ?_
          refine lv_iadd C.x C.b dX0_beliedEntryOf_53 ?_
          refine z_topi (y := nI (Hd.2 j 1 + 1)) (nI_1 _) ?_
          refine z_Vv (As := [.int (nI (Hd.2 j 1 + 1))]) (rest := []) C hw hl (m_X0_chainAt hO _ hM2 hL.1 hLk (i := Hd.2 j 1 + 1) (by omega)) ivX0_80 hM2.lt (hM2.at _ _) rfl rfl ⟨(Nat.le_of_ble_eq_true rfl), (Nat.le_of_ble_eq_true rfl)⟩ (Nat.le_of_ble_eq_true rfl) ⟨Nat.zero_le _, Nat.zero_le _⟩ dX0_beliedEntryOf_54 (fun H locs hw => ?_)
          refine z_topi (y := nI (CH Lg.2 (Hd.2 j 1 + 1))) (chv_log hL (by omega)) ?_
          refine lv_aload_n C.x C.b dX0_beliedEntryOf_57 rfl (lv_at hl 1 rfl) ?_
          refine z_get C hw hM.lt (hM.at _ _) flX0_28 rfl dX0_beliedEntryOf_58 ?_
          refine lv_iload_n C.x C.b dX0_beliedEntryOf_61 rfl (lv_at hl 3 rfl) ?_
          refine lv_iconst (v := 2) C.x C.b dX0_beliedEntryOf_62 (by decide) ?_
          refine z_Vv (As := [.int (nI j), .int 2]) (rest := [.int (nI (CH Lg.2 (Hd.2 j 1 + 1)))]) C hw hl (m_X1_get hO _ hM.held hH.1 hHk (r := j) (c := 2) (hjk) (by omega)) ivX0_68 hM.held.lt (hM.held.at _ _) rfl rfl ⟨(Nat.le_of_ble_eq_true rfl), (Nat.le_of_ble_eq_true rfl)⟩ (Nat.le_of_ble_eq_true rfl) ⟨Nat.zero_le _, Nat.zero_le _⟩ dX0_beliedEntryOf_63 (fun H locs hw => ?_)
          refine z_topi (y := nI (Hd.2 j 2)) (hH.2 j hjk 2 (by omega)) ?_
          refine lv_icmp_eq (tgt := 71) C.x C.b dX0_beliedEntryOf_66 (by decide) (fun c_66 => ?_) (fun c_66 => ?_)
          · refine lv_iinc (v := nI j + 1) (lv' := [(2, .int (nI j + 1)), (3, .int (nI (Hd.2 j 1))), (0, .ref (G.h + b)), (1, .ref (G.h + b2))]) C.x C.b dX0_beliedEntryOf_71 hl (k := 3) rfl rfl (by decide) rfl (fun ls hl => ?_)
            have hl : lv_has ls 4 [(2, .int (nI (j + 1))), (3, .int (nI (Hd.2 j 1))), (0, .ref (G.h + b)), (1, .ref (G.h + b2))] := by
              have e9 : nI j + 1 = nI (j + 1) := nI_1 j
              rw [← e9]; exact hl
            refine lv_goto (tgt := 2) C.x C.b dX0_beliedEntryOf_74 (by decide) ?_
            exact ih (j + 1) _ _ _ (by omega) (by rw [hb, bel, if_neg (fun h => h.2.elim (fun q => absurd hek (by omega)) (fun q => q ((nI_eq (by have := CH_lt Lg.2 (Hd.2 j 1 + 1); omega) (by omega)).mp c_66)))]) hw (lv_sub hl [2, 3, 0] rfl)
          · refine lv_iload_n C.x C.b dX0_beliedEntryOf_69 rfl (lv_at hl 0 rfl) ?_
            exact z_iret C hw dX0_beliedEntryOf_70 (by rw [hb, bel, if_pos ⟨(nI_eq (by omega) (by have := hM2.x6; omega)).mp c_26, Or.inr (fun q => c_66 (by rw [q]))⟩]; rfl) (rfl)
  exact loop Hd.1 0 _ _ _ (by omega) rfl hw (lv_sub hl [1, 2, 0] rfl)

set_option maxRecDepth 100000 in
set_option maxHeartbeats 4000000 in
theorem m_X0_replayFault {G : zG} {N : Nat} {Λ : zLay} {l : Launch} (hO : zOK G l) (z : zM) {b x : Nat} (hM : zMa G N Λ b x) {k : Nat} (hk : z.1 (b + 2) 3 = nI k) (hk2 : k ≤ 40) {r : Nat → Nat → Nat} (hR : rRow z (b + 2) k r) (hok : okRow r k) {n : Nat} (hn : 2 ≤ n) (hn6 : n ≤ 6) (hx : x < n) : zMet G N Λ l yX0_replayFault cX0_replayFault 4 (some .int) 2 [.ref (G.h + b), .int (nI n)] z (some (.int (oI (rpl r k x n (k + 1) 0 x)))) z := by
  refine zMet_of hO (by decide) (Nat.le_of_ble_eq_true rfl) ?_
  intro pP eE sS mM bB tT cC ls C hw hl
  have hl : lv_has ls 4 [(0, .ref (G.h + b)), (1, .int (nI n))] := hl
  refine lv_aload_n C.x C.b dX0_replayFault_0 rfl (lv_at hl 0 rfl) ?_
  refine z_get C hw hM.lt (hM.at _ _) flX0_9 rfl dX0_replayFault_1 ?_
  refine lv_istore_n (lv' := [(2, .int (nI x)), (0, .ref (G.h + b)), (1, .int (nI n))]) C.x C.b dX0_replayFault_4 rfl hl (by decide) rfl (fun ls hl => ?_)
  refine lv_iconst (v := 0) C.x C.b dX0_replayFault_5 (by decide) ?_
  refine lv_istore_n (lv' := [(3, .int 0), (2, .int (nI x)), (0, .ref (G.h + b)), (1, .int (nI n))]) C.x C.b dX0_replayFault_6 rfl hl (by decide) rfl (fun ls hl => ?_)
  have loop : ∀ (d : Nat) (j st : Nat) (H : Heap) (locs : List Loc) (ls : Array Slot) (hj : k < j + d) (hj2 : j ≤ k) (hst : st < 9973) (hb : rpl r k x n (k + 1) 0 x = rpl r k x n d j st), zS G N Λ z sS H locs → lv_has ls 4 [(0, .ref (G.h + b)), (1, .int (nI n)), (2, .int (nI st)), (3, .int (nI j))] → W pP l eE (zR 2) sS mM ([.ref (G.h + b), .int (nI n)] : List Value).toArray bB tT cC H locs 0 0 (MQ bB (zQc G N Λ (some (.int (oI (rpl r k x n (k + 1) 0 x)))) z) ([.ref (G.h + b), .int (nI n)] : List Value).toArray sS 0 0 (zA G)) (F0 mM 7 ls []) := by
    intro d
    induction d with
    | zero =>
      intro j st H locs ls hj hj2 hst hb hw hl
      exact absurd hj2 (by omega)
    | succ d ih =>
      intro j st H locs ls hj hj2 hst hb hw hl
      refine lv_iload_n C.x C.b dX0_replayFault_7 rfl (lv_at hl 3 rfl) ?_
      refine lv_aload_n C.x C.b dX0_replayFault_8 rfl (lv_at hl 0 rfl) ?_
      refine z_get C hw hM.lt (hM.at _ _) flX0_24 rfl dX0_replayFault_9 ?_
      refine z_get C hw hM.log.lt (hM.log.at _ _) flX0_65 rfl dX0_replayFault_12 ?_
      refine lv_icmp_ge (tgt := 95) C.x C.b dX0_replayFault_15 (by decide) (fun c_15 => ?_) (fun c_15 => ?_)
      · refine lv_iconst (v := -1) C.x C.b dX0_replayFault_95 (by decide) ?_
        exact z_iret C hw dX0_replayFault_96 (by rw [hb, rpl, if_pos ((nI_leI (by omega) (by omega)).mp (by rw [hk] at c_15; exact c_15))]; rfl) (rfl)
      · have hjk : j < k := Nat.lt_of_not_le (fun h => c_15 (by rw [hk]; exact zle (by omega) h))
        have hok1 := hok j hjk
        refine lv_aload_n C.x C.b dX0_replayFault_18 rfl (lv_at hl 0 rfl) ?_
        refine z_get C hw hM.lt (hM.at _ _) flX0_24 rfl dX0_replayFault_19 ?_
        refine lv_iload_n C.x C.b dX0_replayFault_22 rfl (lv_at hl 3 rfl) ?_
        refine lv_iconst (v := 0) C.x C.b dX0_replayFault_23 (by decide) ?_
        refine z_Vv (As := [.int (nI j), .int 0]) (rest := []) C hw hl (m_X1_get hO _ hM.log hk hk2 (r := j) (c := 0) (hjk) (by omega)) ivX0_68 hM.log.lt (hM.log.at _ _) rfl rfl ⟨(Nat.le_of_ble_eq_true rfl), (Nat.le_of_ble_eq_true rfl)⟩ (Nat.le_of_ble_eq_true rfl) ⟨Nat.zero_le _, Nat.zero_le _⟩ dX0_replayFault_24 (fun H locs hw => ?_)
        refine z_topi (y := nI (r j 0)) ((hR j hjk).1) ?_
        refine lv_iconst (v := 2) C.x C.b dX0_replayFault_27 (by decide) ?_
        refine lv_icmp_ne (tgt := 33) C.x C.b dX0_replayFault_28 (by decide) (fun c_28 => ?_) (fun c_28 => ?_)
        · refine lv_iload_n C.x C.b dX0_replayFault_33 rfl (lv_at hl 2 rfl) ?_
          refine lv_aload_n C.x C.b dX0_replayFault_34 rfl (lv_at hl 0 rfl) ?_
          refine z_get C hw hM.lt (hM.at _ _) flX0_24 rfl dX0_replayFault_35 ?_
          refine lv_iload_n C.x C.b dX0_replayFault_38 rfl (lv_at hl 3 rfl) ?_
          refine lv_iconst (v := 1) C.x C.b dX0_replayFault_39 (by decide) ?_
          refine z_Vv (As := [.int (nI j), .int 1]) (rest := [.int (nI st)]) C hw hl (m_X1_get hO _ hM.log hk hk2 (r := j) (c := 1) (hjk) (by omega)) ivX0_68 hM.log.lt (hM.log.at _ _) rfl rfl ⟨(Nat.le_of_ble_eq_true rfl), (Nat.le_of_ble_eq_true rfl)⟩ (Nat.le_of_ble_eq_true rfl) ⟨Nat.zero_le _, Nat.zero_le _⟩ dX0_replayFault_40 (fun H locs hw => ?_)
          refine z_topi (y := pI (r j 1)) ((hR j hjk).2.1) ?_
          refine lv_aload_n C.x C.b dX0_replayFault_43 rfl (lv_at hl 0 rfl) ?_
          refine z_pc (pc2 := 44) rfl ?_
          refine z_get C hw hM.lt (hM.at _ _) flX0_24 rfl dX0_replayFault_44 ?_
          refine lv_iload_n C.x C.b dX0_replayFault_47 rfl (lv_at hl 3 rfl) ?_
          refine lv_iconst (v := 2) C.x C.b dX0_replayFault_48 (by decide) ?_
          refine z_Vv (As := [.int (nI j), .int 2]) (rest := [.int (pI (r j 1)), .int (nI st)]) C hw hl (m_X1_get hO _ hM.log hk hk2 (r := j) (c := 2) (hjk) (by omega)) ivX0_68 hM.log.lt (hM.log.at _ _) rfl rfl ⟨(Nat.le_of_ble_eq_true rfl), (Nat.le_of_ble_eq_true rfl)⟩ (Nat.le_of_ble_eq_true rfl) ⟨Nat.zero_le _, Nat.zero_le _⟩ dX0_replayFault_49 (fun H locs hw => ?_)
          refine z_topi (y := nI (r j 2)) ((hR j hjk).2.2) ?_
          refine z_Nv (As := [.int (nI st), .int (pI (r j 1)), .int (nI (r j 2))]) (rest := []) C hw hl (m_X3_nextState hO _ hst hok1.2.2 hok1.2.1) ivX0_91 rfl rfl ⟨(Nat.le_of_ble_eq_true rfl), (Nat.le_of_ble_eq_true rfl)⟩ (Nat.le_of_ble_eq_true rfl) ⟨Nat.zero_le _, Nat.zero_le _⟩ dX0_replayFault_52 (fun H locs hw => ?_)
          refine lv_istore_n (lv' := [(2, .int (nI (nx st (r j 2) (r j 1)))), (0, .ref (G.h + b)), (1, .int (nI n)), (3, .int (nI j))]) C.x C.b dX0_replayFault_55 rfl hl (by decide) rfl (fun ls hl => ?_)
          refine lv_iinc (v := nI j + 1) (lv' := [(3, .int (nI j + 1)), (2, .int (nI (nx st (r j 2) (r j 1)))), (0, .ref (G.h + b)), (1, .int (nI n))]) C.x C.b dX0_replayFault_56 hl (k := 3) rfl rfl (by decide) rfl (fun ls hl => ?_)
          have hl : lv_has ls 4 [(3, .int (nI (j + 1))), (2, .int (nI (nx st (r j 2) (r j 1)))), (0, .ref (G.h + b)), (1, .int (nI n))] := by
            have e9 : nI j + 1 = nI (j + 1) := nI_1 j
            rw [← e9]; exact hl
          refine lv_iload_n C.x C.b dX0_replayFault_59 rfl (lv_at hl 1 rfl) ?_
          refine z_Nv (As := [.int (nI (nx st (r j 2) (r j 1)))]) (rest := []) C hw hl (m_X3_hasOutput hO _ (nx_lt _ _ _)) ivX0_95 rfl rfl ⟨(Nat.le_of_ble_eq_true rfl), (Nat.le_of_ble_eq_true rfl)⟩ (Nat.le_of_ble_eq_true rfl) ⟨Nat.zero_le _, Nat.zero_le _⟩ dX0_replayFault_60 (fun H locs hw => ?_)
          refine lv_if_eq (tgt := 7) C.x C.b dX0_replayFault_63 (by decide) (fun c_63 => ?_) (fun c_63 => ?_)
          · exact ih (j + 1) (nx st (r j 2) (r j 1)) _ _ _ (by omega) (by omega) (nx_lt _ _ _) (by rw [hb, rpl, if_neg (by omega), if_neg (fun h => c_28 (by rw [h]; rfl)), if_neg (hasO_0 c_63)]) hw (lv_sub hl [2, 3, 1, 0] rfl)
          · refine lv_aload_n C.x C.b dX0_replayFault_66 rfl (lv_at hl 2 rfl) ?_
            refine lv_iload_n C.x C.b dX0_replayFault_67 rfl (lv_at hl 0 rfl) ?_
            refine lv_aload_n C.x C.b dX0_replayFault_68 rfl (lv_at hl 2 rfl) ?_
            refine z_get C hw hM.lt (hM.at _ _) flX0_9 rfl dX0_replayFault_69 ?_
            refine lv_iload_n C.x C.b dX0_replayFault_72 rfl (lv_at hl 1 rfl) ?_
            refine lv_iload_n C.x C.b dX0_replayFault_73 rfl (lv_at hl 3 rfl) ?_
            refine z_Nv (As := [.int (nI x), .int (nI (nx st (r j 2) (r j 1))), .int (nI n)]) (rest := [.int (nI (j + 1)), .ref (G.h + b)]) C hw hl (m_X3_outputPeer hO _ (nx_lt _ _ _) hn hn6 hx) ivX0_99 rfl rfl ⟨(Nat.le_of_ble_eq_true rfl), (Nat.le_of_ble_eq_true rfl)⟩ (Nat.le_of_ble_eq_true rfl) ⟨Nat.zero_le _, Nat.zero_le _⟩ dX0_replayFault_74 (fun H locs hw => ?_)
            refine z_topi (y := pI (gt x (nx st (r j 2) (r j 1)) n + 1)) ((pI_s _).symm) ?_
            refine lv_iload_n C.x C.b dX0_replayFault_77 rfl (lv_at hl 1 rfl) ?_
            refine z_Nv (As := [.int (nI (nx st (r j 2) (r j 1)))]) (rest := [.int (pI (gt x (nx st (r j 2) (r j 1)) n + 1)), .int (nI (j + 1)), .ref (G.h + b)]) C hw hl (m_X3_outputValue hO _ (nx_lt _ _ _)) ivX0_102 rfl rfl ⟨(Nat.le_of_ble_eq_true rfl), (Nat.le_of_ble_eq_true rfl)⟩ (Nat.le_of_ble_eq_true rfl) ⟨Nat.zero_le _, Nat.zero_le _⟩ dX0_replayFault_78 (fun H locs hw => ?_)
            refine z_Vv (As := [.int (nI (j + 1)), .int (pI (gt x (nx st (r j 2) (r j 1)) n + 1)), .int (nI (nx st (r j 2) (r j 1) % 1000))]) (rest := []) C hw hl (m_X0_isSend hO _ hM hk hk2 hR hok (j := j + 1) (q := gt x (nx st (r j 2) (r j 1)) n + 1) (v := nx st (r j 2) (r j 1) % 1000) (by omega) (by have := gt_lt (x := x) (m := nx st (r j 2) (r j 1)) hn; omega) (Nat.mod_lt _ (by omega))) ivX0_105 hM.lt (hM.at _ _) rfl rfl ⟨(Nat.le_of_ble_eq_true rfl), (Nat.le_of_ble_eq_true rfl)⟩ (Nat.le_of_ble_eq_true rfl) ⟨Nat.zero_le _, Nat.zero_le _⟩ dX0_replayFault_81 (fun H locs hw => ?_)
            refine z_pc (pc2 := 84) rfl ?_
            refine lv_if_ne (tgt := 89) C.x C.b dX0_replayFault_84 (by decide) (fun c_84 => ?_) (fun c_84 => ?_)
            · refine lv_iinc (v := nI (j + 1) + 1) (lv' := [(3, .int (nI (j + 1) + 1)), (2, .int (nI (nx st (r j 2) (r j 1)))), (0, .ref (G.h + b)), (1, .int (nI n))]) C.x C.b dX0_replayFault_89 hl (k := 0) rfl rfl (by decide) rfl (fun ls hl => ?_)
              have hl : lv_has ls 4 [(3, .int (nI (j + 2))), (2, .int (nI (nx st (r j 2) (r j 1)))), (0, .ref (G.h + b)), (1, .int (nI n))] := by
                have e9 : nI (j + 1) + 1 = nI (j + 2) := nI_1 (j + 1)
                rw [← e9]; exact hl
              refine lv_goto (tgt := 7) C.x C.b dX0_replayFault_92 (by decide) ?_
              exact ih (j + 2) (nx st (r j 2) (r j 1)) _ _ _ (by omega) (by have := (isS_n c_84).1; omega) (nx_lt _ _ _) (by rw [hb, rpl, if_neg (by omega), if_neg (fun h => c_28 (by rw [h]; rfl)), if_pos (hasO_n c_63), if_pos (isS_n c_84)]) hw (lv_sub hl [2, 3, 1, 0] rfl)
            · refine lv_iload_n C.x C.b dX0_replayFault_87 rfl (lv_at hl 0 rfl) ?_
              exact z_iret C hw dX0_replayFault_88 (by rw [hb, rpl, if_neg (by omega), if_neg (fun h => c_28 (by rw [h]; rfl)), if_pos (hasO_n c_63), if_neg (isS_0 c_84)]; rfl) (rfl)
        · refine lv_iload_n C.x C.b dX0_replayFault_31 rfl (lv_at hl 3 rfl) ?_
          exact z_iret C hw dX0_replayFault_32 (by rw [hb, rpl, if_neg (by omega), if_pos ((nI_eq (b := 2) (by omega) (by omega)).mp c_28)]; rfl) (rfl)
  exact loop (k + 1) 0 x _ _ _ (by omega) (by omega) (by have := hM.x6; omega) rfl hw (lv_sub hl [2, 3, 1, 0] rfl)

set_option maxRecDepth 100000 in
set_option maxHeartbeats 4000000 in
theorem m_X0_start {G : zG} {N : Nat} {Λ : zLay} {l : Launch} (hO : zOK G l) (z : zM) {b x : Nat} (hM : zMa G N Λ b x) (hs : rSane z b) {n : Nat} : zMet G N Λ l yX0_start cX0_start 3 none 1 [.ref (G.h + b), .int (nI n)] z none (stz z b x n) := by
  refine zMet_of hO (by decide) (Nat.le_of_ble_eq_true rfl) ?_
  intro pP eE sS mM bB tT cC ls C hw hl
  have hl : lv_has ls 3 [(0, .ref (G.h + b)), (1, .int (nI n))] := hl
  obtain ⟨⟨k1, hk1, e1⟩, ⟨k2, hk2, e2⟩, ⟨k3, hk3, e3⟩⟩ := hs
  refine lv_aload_n C.x C.b dX0_start_0 rfl (lv_at hl 0 rfl) ?_
  refine lv_aload_n C.x C.b dX0_start_1 rfl (lv_at hl 0 rfl) ?_
  refine z_get C hw hM.lt (hM.at _ _) flX0_9 rfl dX0_start_2 ?_
  refine z_put C hw hM.lt (hM.at _ _) ptX0_34 (hM.at _ _) (rfl) (rfl) (Nat.le_of_ble_eq_true rfl) dX0_start_5 (fun H locs hw => ?_)
  obtain ⟨z_1, ez_1⟩ : ∃ q_9, q_9 = zi z b 1 (nI x) := ⟨_, rfl⟩
  have hw : zS G N Λ z_1 sS H locs := by rw [ez_1]; exact hw
  refine lv_aload_n C.x C.b dX0_start_8 rfl (lv_at hl 0 rfl) ?_
  refine lv_iconst (v := 0) C.x C.b dX0_start_9 (by decide) ?_
  refine z_put C hw hM.lt (hM.at _ _) ptX0_37 (hM.at _ _) (rfl) (rfl) (Nat.le_of_ble_eq_true rfl) dX0_start_10 (fun H locs hw => ?_)
  obtain ⟨z_2, ez_2⟩ : ∃ q_9, q_9 = zi z_1 b 2 0 := ⟨_, rfl⟩
  have hw : zS G N Λ z_2 sS H locs := by rw [ez_2]; exact hw
  refine lv_aload_n C.x C.b dX0_start_13 rfl (lv_at hl 0 rfl) ?_
  refine lv_iconst (v := 0) C.x C.b dX0_start_14 (by decide) ?_
  refine z_put C hw hM.lt (hM.at _ _) ptX0_41 (hM.at _ _) (rfl) (rfl) (Nat.le_of_ble_eq_true rfl) dX0_start_15 (fun H locs hw => ?_)
  obtain ⟨z_3, ez_3⟩ : ∃ q_9, q_9 = zi z_2 b 3 0 := ⟨_, rfl⟩
  have hw : zS G N Λ z_3 sS H locs := by rw [ez_3]; exact hw
  refine lv_aload_n C.x C.b dX0_start_18 rfl (lv_at hl 0 rfl) ?_
  refine lv_aload_n C.x C.b dX0_start_19 rfl (lv_at hl 0 rfl) ?_
  refine z_get C hw hM.lt (hM.at _ _) flX0_9 rfl dX0_start_20 ?_
  refine lv_iload_n C.x C.b dX0_start_23 rfl (lv_at hl 1 rfl) ?_
  refine z_Nv (As := [.int (nI x), .int (nI n)]) (rest := [.ref (G.h + b)]) C hw hl (m_X3_othersOf hO _) ivX0_44 rfl rfl ⟨(Nat.le_of_ble_eq_true rfl), (Nat.le_of_ble_eq_true rfl)⟩ (Nat.le_of_ble_eq_true rfl) ⟨Nat.zero_le _, Nat.zero_le _⟩ dX0_start_24 (fun H locs hw => ?_)
  refine z_put C hw hM.lt (hM.at _ _) ptX0_48 (hM.at _ _) (rfl) (rfl) (Nat.le_of_ble_eq_true rfl) dX0_start_27 (fun H locs hw => ?_)
  obtain ⟨z_4, ez_4⟩ : ∃ q_9, q_9 = zi z_3 b 4 (othI x n) := ⟨_, rfl⟩
  have hw : zS G N Λ z_4 sS H locs := by rw [ez_4]; exact hw
  refine lv_iconst (v := 0) C.x C.b dX0_start_30 (by decide) ?_
  refine lv_istore_n (lv' := [(2, .int 0), (0, .ref (G.h + b)), (1, .int (nI n))]) C.x C.b dX0_start_31 rfl hl (by decide) rfl (fun ls hl => ?_)
  have loop : ∀ (d : Nat) (j : Nat) (H : Heap) (locs : List Loc) (ls : Array Slot) (hj : j + d = 6), zS G N Λ (vz z_4 (b + 1) j) sS H locs → lv_has ls 3 [(0, .ref (G.h + b)), (2, .int (nI j))] → W pP l eE (zR 1) sS mM ([.ref (G.h + b), .int (nI n)] : List Value).toArray bB tT cC H locs 0 0 (MQ bB (zQc G N Λ none (stz z b x n)) ([.ref (G.h + b), .int (nI n)] : List Value).toArray sS 0 0 (zA G)) (F0 mM 32 ls []) := by
    intro d
    induction d with
    | zero =>
      intro j H locs ls hj hw hl
      refine lv_iload_n C.x C.b dX0_start_32 rfl (lv_at hl 1 rfl) ?_
      refine lv_bipush (v := 6) C.x C.b dX0_start_33 (by decide) ?_
      refine lv_icmp_ge (tgt := 51) C.x C.b dX0_start_35 (by decide) (fun c_35 => ?_) (fun c_35 => absurd (zle (a := 6) (by omega) (by omega)) c_35)
      refine lv_aload_n C.x C.b dX0_start_51 rfl (lv_at hl 0 rfl) ?_
      refine z_get C hw hM.lt (hM.at _ _) flX0_24 rfl dX0_start_52 ?_
      refine lv_iconst (v := 0) C.x C.b dX0_start_55 (by decide) ?_
      have h6 : j = 6 := by omega
      have hq1 : (vz z_4 (b + 1) j).1 (b + 2) 3 = nI k1 := by rw [vz_n _ _ (by omega), ez_4, zi_at, if_neg (by omega), ez_3, zi_at, if_neg (by omega), ez_2, zi_at, if_neg (by omega), ez_1, zi_at, if_neg (by omega)]; exact e1
      refine z_V0 (As := [.int 0]) (rest := []) C hw hl (m_X1_keep0 hO _ hM.log hq1 hk1) ivX0_51 hM.log.lt (hM.log.at _ _) rfl rfl ⟨(Nat.le_of_ble_eq_true rfl), (Nat.le_of_ble_eq_true rfl)⟩ (Nat.le_of_ble_eq_true rfl) ⟨Nat.zero_le _, Nat.zero_le _⟩ dX0_start_56 (fun H locs hw => ?_)
      obtain ⟨z_5, ez_5⟩ : ∃ q_9, q_9 = zi (vz z_4 (b + 1) j) (b + 2) 3 0 := ⟨_, rfl⟩
      have hw : zS G N Λ z_5 sS H locs := by rw [ez_5]; exact hw
      refine lv_aload_n C.x C.b dX0_start_59 rfl (lv_at hl 0 rfl) ?_
      refine z_get C hw hM.lt (hM.at _ _) flX0_28 rfl dX0_start_60 ?_
      refine lv_iconst (v := 0) C.x C.b dX0_start_63 (by decide) ?_
      have hq2 : z_5.1 (b + 4) 3 = nI k2 := by rw [ez_5, zi_at, if_neg (by omega), vz_n _ _ (by omega), ez_4, zi_at, if_neg (by omega), ez_3, zi_at, if_neg (by omega), ez_2, zi_at, if_neg (by omega), ez_1, zi_at, if_neg (by omega)]; exact e2
      refine z_V0 (As := [.int 0]) (rest := []) C hw hl (m_X1_keep0 hO _ hM.held hq2 hk2) ivX0_51 hM.held.lt (hM.held.at _ _) rfl rfl ⟨(Nat.le_of_ble_eq_true rfl), (Nat.le_of_ble_eq_true rfl)⟩ (Nat.le_of_ble_eq_true rfl) ⟨Nat.zero_le _, Nat.zero_le _⟩ dX0_start_64 (fun H locs hw => ?_)
      obtain ⟨z_6, ez_6⟩ : ∃ q_9, q_9 = zi z_5 (b + 4) 3 0 := ⟨_, rfl⟩
      have hw : zS G N Λ z_6 sS H locs := by rw [ez_6]; exact hw
      refine lv_aload_n C.x C.b dX0_start_67 rfl (lv_at hl 0 rfl) ?_
      refine z_get C hw hM.lt (hM.at _ _) flX0_31 rfl dX0_start_68 ?_
      refine lv_iconst (v := 0) C.x C.b dX0_start_71 (by decide) ?_
      have hq3 : z_6.1 (b + 6) 3 = nI k3 := by rw [ez_6, zi_at, if_neg (by omega), ez_5, zi_at, if_neg (by omega), vz_n _ _ (by omega), ez_4, zi_at, if_neg (by omega), ez_3, zi_at, if_neg (by omega), ez_2, zi_at, if_neg (by omega), ez_1, zi_at, if_neg (by omega)]; exact e3
      refine z_V0 (As := [.int 0]) (rest := []) C hw hl (m_X1_keep0 hO _ hM.pend hq3 hk3) ivX0_51 hM.pend.lt (hM.pend.at _ _) rfl rfl ⟨(Nat.le_of_ble_eq_true rfl), (Nat.le_of_ble_eq_true rfl)⟩ (Nat.le_of_ble_eq_true rfl) ⟨Nat.zero_le _, Nat.zero_le _⟩ dX0_start_72 (fun H locs hw => ?_)
      obtain ⟨z_7, ez_7⟩ : ∃ q_9, q_9 = zi z_6 (b + 6) 3 0 := ⟨_, rfl⟩
      have hw : zS G N Λ z_7 sS H locs := by rw [ez_7]; exact hw
      exact z_vret C hw dX0_start_75 (rfl) (by rw [ez_7, ez_6, ez_5, h6, ez_4, ez_3, ez_2, ez_1]; rfl)
    | succ d ih =>
      intro j H locs ls hj hw hl
      refine lv_iload_n C.x C.b dX0_start_32 rfl (lv_at hl 1 rfl) ?_
      refine lv_bipush (v := 6) C.x C.b dX0_start_33 (by decide) ?_
      refine lv_icmp_ge (tgt := 51) C.x C.b dX0_start_35 (by decide) (fun c_35 => absurd c_35 (znle (b := 6) (by omega) (by omega))) (fun c_35 => ?_)
      refine lv_aload_n C.x C.b dX0_start_38 rfl (lv_at hl 0 rfl) ?_
      refine z_get C hw hM.lt (hM.at _ _) flX0_15 rfl dX0_start_39 ?_
      refine lv_iload_n C.x C.b dX0_start_42 rfl (lv_at hl 1 rfl) ?_
      refine lv_iconst (v := 0) C.x C.b dX0_start_43 (by decide) ?_
      refine z_iast C hw hM.lt1 hM.ver (zvin (by omega) (by omega)) dX0_start_44 (fun H locs hw => ?_)
      obtain ⟨z_8, ez_8⟩ : ∃ q_9, q_9 = zi (vz z_4 (b + 1) j) (b + 1) (nI j).toNatClampNeg 0 := ⟨_, rfl⟩
      have hw : zS G N Λ z_8 sS H locs := by rw [ez_8]; exact hw
      refine lv_iinc (v := nI j + 1) (lv' := [(2, .int (nI j + 1)), (0, .ref (G.h + b))]) C.x C.b dX0_start_45 hl (k := 1) rfl rfl (by decide) rfl (fun ls hl => ?_)
      have hl : lv_has ls 3 [(2, .int (nI (j + 1))), (0, .ref (G.h + b))] := by
        have e9 : nI j + 1 = nI (j + 1) := nI_1 j
        rw [← e9]; exact hl
      refine lv_goto (tgt := 32) C.x C.b dX0_start_48 (by decide) ?_
      exact ih (j + 1) _ _ _ (by omega) (by rw [← vz_step]; rw [ez_8, zcl (n := 6) (by omega) (by omega)] at hw; exact hw) (lv_sub hl [1, 0] rfl)
  exact loop 6 0 _ _ _ (by omega) (by rw [vz_0]; exact hw) (lv_sub hl [1, 0] rfl)

set_option maxRecDepth 100000 in
set_option maxHeartbeats 4000000 in
theorem m_X0_copyMachine {G : zG} {N : Nat} {Λ : zLay} {l : Launch} (hO : zOK G l) (z : zM) {b x b2 x2 : Nat} (hM : zMa G N Λ b x) (hM2 : zMa G N Λ b2 x2) (hne : b + 8 ≤ b2 ∨ b2 + 8 ≤ b) {s1 s2 k1 k2 k3 : Nat} (hs1 : z.1 b2 2 = nI s1) (hs1b : s1 < 2) (hs2 : z.1 b2 3 = nI s2) (hs2b : s2 < 2) (hq1 : z.1 (b2 + 2) 3 = nI k1) (hk1 : k1 ≤ 40) (hq2 : z.1 (b2 + 4) 3 = nI k2) (hk2 : k2 ≤ 60) (hq3 : z.1 (b2 + 6) 3 = nI k3) (hk3 : k3 ≤ 40) : zMet G N Λ l yX0_copyMachine cX0_copyMachine 2 none 2 [.ref (G.h + b), .ref (G.h + b2)] z none (cpm z b b2 s1 s2 k1 k2 k3) := by
  refine zMet_of hO (by decide) (Nat.le_of_ble_eq_true rfl) ?_
  intro pP eE sS mM bB tT cC ls C hw hl
  have hl : lv_has ls 2 [(0, .ref (G.h + b)), (1, .ref (G.h + b2))] := hl
  refine lv_aload_n C.x C.b dX0_copyMachine_0 rfl (lv_at hl 0 rfl) ?_
  refine lv_aload_n C.x C.b dX0_copyMachine_1 rfl (lv_at hl 1 rfl) ?_
  refine z_get C hw hM2.lt (hM2.at _ _) flX0_34 rfl dX0_copyMachine_2 ?_
  refine z_put C hw hM.lt (hM.at _ _) ptX0_34 (hM.at _ _) (rfl) (rfl) (Nat.le_of_ble_eq_true rfl) dX0_copyMachine_5 (fun H locs hw => ?_)
  obtain ⟨z_1, ez_1⟩ : ∃ q_9, q_9 = zi z b 1 (z.1 b2 1) := ⟨_, rfl⟩
  have hw : zS G N Λ z_1 sS H locs := by rw [ez_1]; exact hw
  refine lv_aload_n C.x C.b dX0_copyMachine_8 rfl (lv_at hl 0 rfl) ?_
  refine lv_aload_n C.x C.b dX0_copyMachine_9 rfl (lv_at hl 1 rfl) ?_
  refine z_get C hw hM2.lt (hM2.at _ _) flX0_37 rfl dX0_copyMachine_10 ?_
  refine z_topi (y := nI s1) (by rw [ez_1, zi_at, if_neg (by omega)]; exact hs1) ?_
  refine z_put C hw hM.lt (hM.at _ _) ptX0_37 (hM.at _ _) (zbool hs1b) (zboolf hs1b) (Nat.le_of_ble_eq_true rfl) dX0_copyMachine_13 (fun H locs hw => ?_)
  obtain ⟨z_2, ez_2⟩ : ∃ q_9, q_9 = zi z_1 b 2 (nI s1) := ⟨_, rfl⟩
  have hw : zS G N Λ z_2 sS H locs := by rw [ez_2]; exact hw
  refine lv_aload_n C.x C.b dX0_copyMachine_16 rfl (lv_at hl 0 rfl) ?_
  refine lv_aload_n C.x C.b dX0_copyMachine_17 rfl (lv_at hl 1 rfl) ?_
  refine z_get C hw hM2.lt (hM2.at _ _) flX0_41 rfl dX0_copyMachine_18 ?_
  refine z_topi (y := nI s2) (by rw [ez_2, zi_at, if_neg (by omega), ez_1, zi_at, if_neg (by omega)]; exact hs2) ?_
  refine z_put C hw hM.lt (hM.at _ _) ptX0_41 (hM.at _ _) (zbool hs2b) (zboolf hs2b) (Nat.le_of_ble_eq_true rfl) dX0_copyMachine_21 (fun H locs hw => ?_)
  obtain ⟨z_3, ez_3⟩ : ∃ q_9, q_9 = zi z_2 b 3 (nI s2) := ⟨_, rfl⟩
  have hw : zS G N Λ z_3 sS H locs := by rw [ez_3]; exact hw
  refine lv_aload_n C.x C.b dX0_copyMachine_24 rfl (lv_at hl 0 rfl) ?_
  refine lv_aload_n C.x C.b dX0_copyMachine_25 rfl (lv_at hl 1 rfl) ?_
  refine z_get C hw hM2.lt (hM2.at _ _) flX0_48 rfl dX0_copyMachine_26 ?_
  refine z_topi (y := z.1 b2 4) (by rw [ez_3, zi_at, if_neg (by omega), ez_2, zi_at, if_neg (by omega), ez_1, zi_at, if_neg (by omega)]) ?_
  refine z_put C hw hM.lt (hM.at _ _) ptX0_48 (hM.at _ _) (rfl) (rfl) (Nat.le_of_ble_eq_true rfl) dX0_copyMachine_29 (fun H locs hw => ?_)
  obtain ⟨z_4, ez_4⟩ : ∃ q_9, q_9 = zi z_3 b 4 (z.1 b2 4) := ⟨_, rfl⟩
  have hw : zS G N Λ z_4 sS H locs := by rw [ez_4]; exact hw
  have e4 : z_4 = cpm4 z b b2 s1 s2 := by rw [ez_4, ez_3, ez_2, ez_1]; rfl
  refine lv_aload_n C.x C.b dX0_copyMachine_32 rfl (lv_at hl 1 rfl) ?_
  refine z_get C hw hM2.lt (hM2.at _ _) flX0_15 rfl dX0_copyMachine_33 ?_
  refine lv_iconst (v := 0) C.x C.b dX0_copyMachine_36 (by decide) ?_
  refine z_pc (pc2 := 37) rfl ?_
  refine lv_aload_n C.x C.b dX0_copyMachine_37 rfl (lv_at hl 0 rfl) ?_
  refine z_get C hw hM.lt (hM.at _ _) flX0_15 rfl dX0_copyMachine_38 ?_
  refine lv_iconst (v := 0) C.x C.b dX0_copyMachine_41 (by decide) ?_
  refine lv_bipush (v := 6) C.x C.b dX0_copyMachine_42 (by decide) ?_
  refine z_copy C hw hl hM2.lt1 hM2.ver hM.lt1 hM.ver cpX0_55 (by decide) (by decide) (by decide) (by decide) (by decide) (by decide) (by decide) dX0_copyMachine_44 (fun H locs hw => ?_)
  obtain ⟨z_5, ez_5⟩ : ∃ q_9, q_9 = zr z_4 (b + 1) (va_cpy (z_4.1 (b2 + 1)) (z_4.1 (b + 1)) (0 : Int32).toNatClampNeg (0 : Int32).toNatClampNeg (6 : Int32).toNatClampNeg) := ⟨_, rfl⟩
  have hw : zS G N Λ z_5 sS H locs := by rw [ez_5]; exact hw
  have e5 : z_5 = cpm5 z b b2 s1 s2 := by rw [ez_5, e4]; rfl
  refine lv_aload_n C.x C.b dX0_copyMachine_47 rfl (lv_at hl 0 rfl) ?_
  refine z_get C hw hM.lt (hM.at _ _) flX0_24 rfl dX0_copyMachine_48 ?_
  refine lv_aload_n C.x C.b dX0_copyMachine_51 rfl (lv_at hl 1 rfl) ?_
  refine z_get C hw hM2.lt (hM2.at _ _) flX0_24 rfl dX0_copyMachine_52 ?_
  refine z_V0 (As := [.ref (G.h + (b2 + 2))]) (rest := []) C hw hl (m_X1_copyRows hO _ hM.log hM2.log (k := k1) (by rw [e5, cpm5_n _ _ _ (by omega) (by omega)]; exact hq1) hk1) ivX0_61 hM.log.lt (hM.log.at _ _) rfl rfl ⟨(Nat.le_of_ble_eq_true rfl), (Nat.le_of_ble_eq_true rfl)⟩ (Nat.le_of_ble_eq_true rfl) ⟨Nat.zero_le _, Nat.zero_le _⟩ dX0_copyMachine_55 (fun H locs hw => ?_)
  obtain ⟨z_6, ez_6⟩ : ∃ q_9, q_9 = cpr z_5 (b + 2) (b2 + 2) 4 k1 := ⟨_, rfl⟩
  have hw : zS G N Λ z_6 sS H locs := by rw [ez_6]; exact hw
  refine lv_aload_n C.x C.b dX0_copyMachine_58 rfl (lv_at hl 0 rfl) ?_
  refine z_get C hw hM.lt (hM.at _ _) flX0_28 rfl dX0_copyMachine_59 ?_
  refine lv_aload_n C.x C.b dX0_copyMachine_62 rfl (lv_at hl 1 rfl) ?_
  refine z_get C hw hM2.lt (hM2.at _ _) flX0_28 rfl dX0_copyMachine_63 ?_
  refine z_V0 (As := [.ref (G.h + (b2 + 4))]) (rest := []) C hw hl (m_X1_copyRows hO _ hM.held hM2.held (k := k2) (by rw [ez_6, cpr_n _ _ _ _ (by omega) (by omega), e5, cpm5_n _ _ _ (by omega) (by omega)]; exact hq2) hk2) ivX0_61 hM.held.lt (hM.held.at _ _) rfl rfl ⟨(Nat.le_of_ble_eq_true rfl), (Nat.le_of_ble_eq_true rfl)⟩ (Nat.le_of_ble_eq_true rfl) ⟨Nat.zero_le _, Nat.zero_le _⟩ dX0_copyMachine_66 (fun H locs hw => ?_)
  obtain ⟨z_7, ez_7⟩ : ∃ q_9, q_9 = cpr z_6 (b + 4) (b2 + 4) 3 k2 := ⟨_, rfl⟩
  have hw : zS G N Λ z_7 sS H locs := by rw [ez_7]; exact hw
  refine lv_aload_n C.x C.b dX0_copyMachine_69 rfl (lv_at hl 0 rfl) ?_
  refine z_get C hw hM.lt (hM.at _ _) flX0_31 rfl dX0_copyMachine_70 ?_
  refine lv_aload_n C.x C.b dX0_copyMachine_73 rfl (lv_at hl 1 rfl) ?_
  refine z_get C hw hM2.lt (hM2.at _ _) flX0_31 rfl dX0_copyMachine_74 ?_
  refine z_V0 (As := [.ref (G.h + (b2 + 6))]) (rest := []) C hw hl (m_X1_copyRows hO _ hM.pend hM2.pend (k := k3) (by rw [ez_7, cpr_n _ _ _ _ (by omega) (by omega), ez_6, cpr_n _ _ _ _ (by omega) (by omega), e5, cpm5_n _ _ _ (by omega) (by omega)]; exact hq3) hk3) ivX0_61 hM.pend.lt (hM.pend.at _ _) rfl rfl ⟨(Nat.le_of_ble_eq_true rfl), (Nat.le_of_ble_eq_true rfl)⟩ (Nat.le_of_ble_eq_true rfl) ⟨Nat.zero_le _, Nat.zero_le _⟩ dX0_copyMachine_77 (fun H locs hw => ?_)
  obtain ⟨z_8, ez_8⟩ : ∃ q_9, q_9 = cpr z_7 (b + 6) (b2 + 6) 5 k3 := ⟨_, rfl⟩
  have hw : zS G N Λ z_8 sS H locs := by rw [ez_8]; exact hw
  refine z_pc (pc2 := 80) rfl ?_
  exact z_vret C hw dX0_copyMachine_80 (rfl) (by rw [ez_8, ez_7, ez_6, e5]; rfl)

set_option maxRecDepth 100000 in
set_option maxHeartbeats 4000000 in
theorem m_X1_addCopy {G : zG} {N : Nat} {Λ : zLay} {l : Launch} (hO : zOK G l) (z : zM) {t o w mc mc2 : Nat} (hT : zT G N Λ t w mc) (hT2 : zT G N Λ o w mc2) (hne : o + 2 ≤ t ∨ t + 2 ≤ o) {k ko : Nat} (hk : z.1 t 3 = nI k) (hk2 : k < mc) (hko : z.1 o 3 = nI ko) (hko2 : ko ≤ mc2) {r : Nat} (hr : r < ko) : zMet G N Λ l yX1_addCopy cX1_addCopy 5 none 1 [.ref (G.h + t), .ref (G.h + o), .int (nI r)] z none (acz (zi z t 3 (nI (k + 1))) t o w k r w) := by
  refine zMet_of hO (by decide) (Nat.le_of_ble_eq_true rfl) ?_
  intro pP eE sS mM bB tT cC ls C hw hl
  have hl : lv_has ls 5 [(0, .ref (G.h + t)), (1, .ref (G.h + o)), (2, .int (nI r))] := hl
  have hm := hT.mc
  have hm2 := hT2.mc
  have hw5 := hT.w5
  refine lv_aload_n C.x C.b dX1_addCopy_0 rfl (lv_at hl 0 rfl) ?_
  refine z_Vv (As := []) (rest := []) C hw hl (m_X1_addRow hO _ hT hk (Nat.le_of_lt hk2) hk2) ivX1_25 hT.lt (hT.at _ _) rfl rfl ⟨(Nat.le_of_ble_eq_true rfl), (Nat.le_of_ble_eq_true rfl)⟩ (Nat.le_of_ble_eq_true rfl) ⟨Nat.zero_le _, Nat.zero_le _⟩ dX1_addCopy_1 (fun H locs hw => ?_)
  obtain ⟨z_1, ez_1⟩ : ∃ q_9, q_9 = zi z t 3 (nI (k + 1)) := ⟨_, rfl⟩
  have hw : zS G N Λ z_1 sS H locs := by rw [ez_1]; exact hw
  refine lv_istore_n (lv' := [(3, .int (nI k)), (0, .ref (G.h + t)), (1, .ref (G.h + o)), (2, .int (nI r))]) C.x C.b dX1_addCopy_4 rfl hl (by decide) rfl (fun ls hl => ?_)
  refine lv_iconst (v := 0) C.x C.b dX1_addCopy_5 (by decide) ?_
  refine lv_istore (lv' := [(4, .int 0), (3, .int (nI k)), (0, .ref (G.h + t)), (1, .ref (G.h + o)), (2, .int (nI r))]) C.x C.b dX1_addCopy_6 hl (by decide) rfl (fun ls hl => ?_)
  have loop : ∀ (d : Nat) (j : Nat) (H : Heap) (locs : List Loc) (ls : Array Slot) (hj : j + d = w), zS G N Λ (acz z_1 t o w k r j) sS H locs → lv_has ls 5 [(0, .ref (G.h + t)), (1, .ref (G.h + o)), (2, .int (nI r)), (3, .int (nI k)), (4, .int (nI j))] → W pP l eE (zR 1) sS mM ([.ref (G.h + t), .ref (G.h + o), .int (nI r)] : List Value).toArray bB tT cC H locs 0 0 (MQ bB (zQc G N Λ none (acz (zi z t 3 (nI (k + 1))) t o w k r w)) ([.ref (G.h + t), .ref (G.h + o), .int (nI r)] : List Value).toArray sS 0 0 (zA G)) (F0 mM 8 ls []) := by
    intro d
    induction d with
    | zero =>
      intro j H locs ls hj hw hl
      have h1 : (acz z_1 t o w k r j).1 t 3 = nI (k + 1) := by rw [acz_n _ _ _ _ _ _ (by omega), ez_1, zi_at, if_pos ⟨rfl, rfl⟩]
      have h2 : (acz z_1 t o w k r j).1 o 3 = nI ko := by rw [acz_n _ _ _ _ _ _ (by omega), ez_1, zi_at, if_neg (by omega)]; exact hko
      refine lv_iload C.x C.b dX1_addCopy_8 (lv_at hl 4 rfl) ?_
      refine lv_aload_n C.x C.b dX1_addCopy_10 rfl (lv_at hl 0 rfl) ?_
      refine z_get C hw hT.lt (hT.at _ _) flX1_9 rfl dX1_addCopy_11 ?_
      refine lv_icmp_ge (tgt := 37) C.x C.b dX1_addCopy_14 (by decide) (fun c_14 => ?_) (fun c_14 => absurd (zle (by omega) (by omega)) c_14)
      exact z_vret C hw dX1_addCopy_37 (rfl) (by
        have h9 : j = w := by omega
        rw [h9, ez_1])
    | succ d ih =>
      intro j H locs ls hj hw hl
      have h1 : (acz z_1 t o w k r j).1 t 3 = nI (k + 1) := by rw [acz_n _ _ _ _ _ _ (by omega), ez_1, zi_at, if_pos ⟨rfl, rfl⟩]
      have h2 : (acz z_1 t o w k r j).1 o 3 = nI ko := by rw [acz_n _ _ _ _ _ _ (by omega), ez_1, zi_at, if_neg (by omega)]; exact hko
      refine lv_iload C.x C.b dX1_addCopy_8 (lv_at hl 4 rfl) ?_
      refine lv_aload_n C.x C.b dX1_addCopy_10 rfl (lv_at hl 0 rfl) ?_
      refine z_get C hw hT.lt (hT.at _ _) flX1_9 rfl dX1_addCopy_11 ?_
      refine lv_icmp_ge (tgt := 37) C.x C.b dX1_addCopy_14 (by decide) (fun c_14 => absurd c_14 (znle (by omega) (by omega))) (fun c_14 => ?_)
      refine lv_aload_n C.x C.b dX1_addCopy_17 rfl (lv_at hl 0 rfl) ?_
      refine lv_iload_n C.x C.b dX1_addCopy_18 rfl (lv_at hl 3 rfl) ?_
      refine lv_iload C.x C.b dX1_addCopy_19 (lv_at hl 4 rfl) ?_
      refine lv_aload_n C.x C.b dX1_addCopy_21 rfl (lv_at hl 1 rfl) ?_
      refine lv_iload_n C.x C.b dX1_addCopy_22 rfl (lv_at hl 2 rfl) ?_
      refine lv_iload C.x C.b dX1_addCopy_23 (lv_at hl 4 rfl) ?_
      refine z_Vv (As := [.int (nI r), .int (nI j)]) (rest := [.int (nI j), .int (nI k), .ref (G.h + t)]) C hw hl (m_X1_get hO _ hT2 h2 hko2 (r := r) (c := j) hr (by omega)) ivX1_29 hT2.lt (hT2.at _ _) rfl rfl ⟨(Nat.le_of_ble_eq_true rfl), (Nat.le_of_ble_eq_true rfl)⟩ (Nat.le_of_ble_eq_true rfl) ⟨Nat.zero_le _, Nat.zero_le _⟩ dX1_addCopy_25 (fun H locs hw => ?_)
      refine z_V0 (As := [.int (nI k), .int (nI j), .int ((acz z_1 t o w k r j).1 (o + 1) (r * w + j))]) (rest := []) C hw hl (m_X1_set hO _ hT h1 (by omega) (r := k) (c := j) (by omega) (by omega)) ivX1_33 hT.lt (hT.at _ _) rfl rfl ⟨(Nat.le_of_ble_eq_true rfl), (Nat.le_of_ble_eq_true rfl)⟩ (Nat.le_of_ble_eq_true rfl) ⟨Nat.zero_le _, Nat.zero_le _⟩ dX1_addCopy_28 (fun H locs hw => ?_)
      obtain ⟨z_2, ez_2⟩ : ∃ q_9, q_9 = zi (acz z_1 t o w k r j) (t + 1) (k * w + j) ((acz z_1 t o w k r j).1 (o + 1) (r * w + j)) := ⟨_, rfl⟩
      have hw : zS G N Λ z_2 sS H locs := by rw [ez_2]; exact hw
      refine lv_iinc (v := nI j + 1) (lv' := [(4, .int (nI j + 1)), (0, .ref (G.h + t)), (1, .ref (G.h + o)), (2, .int (nI r)), (3, .int (nI k))]) C.x C.b dX1_addCopy_31 hl (k := 4) rfl rfl (by decide) rfl (fun ls hl => ?_)
      have hl : lv_has ls 5 [(4, .int (nI (j + 1))), (0, .ref (G.h + t)), (1, .ref (G.h + o)), (2, .int (nI r)), (3, .int (nI k))] := by
        have e9 : nI j + 1 = nI (j + 1) := nI_1 j
        rw [← e9]; exact hl
      refine lv_goto (tgt := 8) C.x C.b dX1_addCopy_34 (by decide) ?_
      exact ih (j + 1) _ _ _ (by omega) (by rw [← acz_step _ _ _ _ _ (by omega)]; rw [ez_2] at hw; exact hw) (lv_sub hl [1, 2, 3, 4, 0] rfl)
  exact loop w 0 _ _ _ (by omega) (by rw [acz_0]; exact hw) (lv_sub hl [2, 3, 4, 1, 0] rfl)

set_option maxRecDepth 100000 in
set_option maxHeartbeats 4000000 in
theorem m_X1_addCopy_full {G : zG} {N : Nat} {Λ : zLay} {l : Launch} (hO : zOK G l) (z : zM) {t o w mc mc2 : Nat} (hT : zT G N Λ t w mc) (hT2 : zT G N Λ o w mc2) (hk : z.1 t 3 = nI mc) {ko : Nat} (hko : z.1 o 3 = nI ko) (hko2 : ko ≤ mc2) {r : Nat} (hr : r < ko) : zMet G N Λ l yX1_addCopy cX1_addCopy 5 none 1 [.ref (G.h + t), .ref (G.h + o), .int (nI r)] z none z := by
  refine zMet_of hO (by decide) (Nat.le_of_ble_eq_true rfl) ?_
  intro pP eE sS mM bB tT cC ls C hw hl
  have hl : lv_has ls 5 [(0, .ref (G.h + t)), (1, .ref (G.h + o)), (2, .int (nI r))] := hl
  have hm := hT.mc
  have hm2 := hT2.mc
  have hw5 := hT.w5
  refine lv_aload_n C.x C.b dX1_addCopy_0 rfl (lv_at hl 0 rfl) ?_
  refine z_Vv (As := []) (rest := []) C hw hl (m_X1_addRow_no hO _ hT hk) ivX1_25 hT.lt (hT.at _ _) rfl rfl ⟨(Nat.le_of_ble_eq_true rfl), (Nat.le_of_ble_eq_true rfl)⟩ (Nat.le_of_ble_eq_true rfl) ⟨Nat.zero_le _, Nat.zero_le _⟩ dX1_addCopy_1 (fun H locs hw => ?_)
  refine lv_istore_n (lv' := [(3, .int (-1)), (0, .ref (G.h + t)), (1, .ref (G.h + o)), (2, .int (nI r))]) C.x C.b dX1_addCopy_4 rfl hl (by decide) rfl (fun ls hl => ?_)
  refine lv_iconst (v := 0) C.x C.b dX1_addCopy_5 (by decide) ?_
  refine lv_istore (lv' := [(4, .int 0), (3, .int (-1)), (0, .ref (G.h + t)), (1, .ref (G.h + o)), (2, .int (nI r))]) C.x C.b dX1_addCopy_6 hl (by decide) rfl (fun ls hl => ?_)
  have loop : ∀ (d : Nat) (j : Nat) (H : Heap) (locs : List Loc) (ls : Array Slot) (hj : j + d = w), zS G N Λ z sS H locs → lv_has ls 5 [(0, .ref (G.h + t)), (1, .ref (G.h + o)), (2, .int (nI r)), (3, .int (-1)), (4, .int (nI j))] → W pP l eE (zR 1) sS mM ([.ref (G.h + t), .ref (G.h + o), .int (nI r)] : List Value).toArray bB tT cC H locs 0 0 (MQ bB (zQc G N Λ none z) ([.ref (G.h + t), .ref (G.h + o), .int (nI r)] : List Value).toArray sS 0 0 (zA G)) (F0 mM 8 ls []) := by
    intro d
    induction d with
    | zero =>
      intro j H locs ls hj hw hl
      refine lv_iload C.x C.b dX1_addCopy_8 (lv_at hl 4 rfl) ?_
      refine lv_aload_n C.x C.b dX1_addCopy_10 rfl (lv_at hl 0 rfl) ?_
      refine z_get C hw hT.lt (hT.at _ _) flX1_9 rfl dX1_addCopy_11 ?_
      refine lv_icmp_ge (tgt := 37) C.x C.b dX1_addCopy_14 (by decide) (fun c_14 => ?_) (fun c_14 => absurd (zle (by omega) (by omega)) c_14)
      exact z_vret C hw dX1_addCopy_37 (rfl) (rfl)
    | succ d ih =>
      intro j H locs ls hj hw hl
      refine lv_iload C.x C.b dX1_addCopy_8 (lv_at hl 4 rfl) ?_
      refine lv_aload_n C.x C.b dX1_addCopy_10 rfl (lv_at hl 0 rfl) ?_
      refine z_get C hw hT.lt (hT.at _ _) flX1_9 rfl dX1_addCopy_11 ?_
      refine lv_icmp_ge (tgt := 37) C.x C.b dX1_addCopy_14 (by decide) (fun c_14 => absurd c_14 (znle (by omega) (by omega))) (fun c_14 => ?_)
      refine lv_aload_n C.x C.b dX1_addCopy_17 rfl (lv_at hl 0 rfl) ?_
      refine lv_iload_n C.x C.b dX1_addCopy_18 rfl (lv_at hl 3 rfl) ?_
      refine lv_iload C.x C.b dX1_addCopy_19 (lv_at hl 4 rfl) ?_
      refine lv_aload_n C.x C.b dX1_addCopy_21 rfl (lv_at hl 1 rfl) ?_
      refine lv_iload_n C.x C.b dX1_addCopy_22 rfl (lv_at hl 2 rfl) ?_
      refine lv_iload C.x C.b dX1_addCopy_23 (lv_at hl 4 rfl) ?_
      refine z_Vv (As := [.int (nI r), .int (nI j)]) (rest := [.int (nI j), .int (-1), .ref (G.h + t)]) C hw hl (m_X1_get hO _ hT2 hko hko2 (r := r) (c := j) hr (by omega)) ivX1_29 hT2.lt (hT2.at _ _) rfl rfl ⟨(Nat.le_of_ble_eq_true rfl), (Nat.le_of_ble_eq_true rfl)⟩ (Nat.le_of_ble_eq_true rfl) ⟨Nat.zero_le _, Nat.zero_le _⟩ dX1_addCopy_25 (fun H locs hw => ?_)
      refine z_V0 (As := [.int (-1), .int (nI j), .int (z.1 (o + 1) (r * w + j))]) (rest := []) C hw hl (m_X1_set_no hO _ hT) ivX1_33 hT.lt (hT.at _ _) rfl rfl ⟨(Nat.le_of_ble_eq_true rfl), (Nat.le_of_ble_eq_true rfl)⟩ (Nat.le_of_ble_eq_true rfl) ⟨Nat.zero_le _, Nat.zero_le _⟩ dX1_addCopy_28 (fun H locs hw => ?_)
      refine lv_iinc (v := nI j + 1) (lv' := [(4, .int (nI j + 1)), (0, .ref (G.h + t)), (1, .ref (G.h + o)), (2, .int (nI r)), (3, .int (-1))]) C.x C.b dX1_addCopy_31 hl (k := 4) rfl rfl (by decide) rfl (fun ls hl => ?_)
      have hl : lv_has ls 5 [(4, .int (nI (j + 1))), (0, .ref (G.h + t)), (1, .ref (G.h + o)), (2, .int (nI r)), (3, .int (-1))] := by
        have e9 : nI j + 1 = nI (j + 1) := nI_1 j
        rw [← e9]; exact hl
      refine lv_goto (tgt := 8) C.x C.b dX1_addCopy_34 (by decide) ?_
      exact ih (j + 1) _ _ _ (by omega) hw (lv_sub hl [1, 2, 3, 4, 0] rfl)
  exact loop w 0 _ _ _ (by omega) hw (lv_sub hl [2, 3, 4, 1, 0] rfl)
