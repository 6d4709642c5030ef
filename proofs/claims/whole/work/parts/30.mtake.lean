theorem m_X4_holdT {G : zG} {N : Nat} {Λ : zLay} {l : Launch} (hO : zOK G l) (z : zM) (hB : zMo G N Λ) {x k : Nat} (hx6 : x < 6) (hk : z.1 273 (mat x 45) = nI k) (hk2 : k ≤ 60) {mm ee ch : Int32} : zMet G N Λ l yX4_comesToHold cX4_comesToHold 6 none 2 [.ref (G.h + 272), .int (nI x), .int mm, .int ee, .int ch] z none (mHd z x k mm ee ch) := by
  unfold mHd
  by_cases h6 : k = 60
  · rw [if_pos h6]; subst h6; exact m_X4_hold_full hO z hB hx6 hk
  · rw [if_neg h6]; exact m_X4_hold hO z hB hx6 hk (by omega)
theorem mhold_S {z : zM} {S : aS} (h : mS z S) {x : Nat} (hx : x < S.n) (a e c : Nat) : mS (mHd z x (S.m x).held.1 (nI a) (nI e) (nI c)) (aHold S x (row3 a e c)) ∧ mfr z (mHd z x (S.m x).held.1 (nI a) (nI e) (nI c)) 0 2921 := by
  have hm := h.m hx
  have hn6 := h.n6
  have hf := mHd_mfr z (x := x) hm.2.2.1.1 (nI a) (nI e) (nI c)
  exact ⟨h.setM (by omega) (hf.mono (by unfold mat; omega) (by unfold mat; omega)) (hm.heldc hf (mHd_tb hm.2.2.1 a e c)), hf.mono (by omega) (by unfold mat; omega)⟩
theorem mpop_S {z : zM} {S : aS} (h : mS z S) (h0 : 0 < S.q.1) : mS (mqp z S.q.1) (aPopQ S) ∧ mfr z (mqp z S.q.1) 0 2921 :=
  ⟨h.setQ (mqp_mfr z h.q.1) (mQ_pop h.q h0), (mqp_mfr z h.q.1).mono (by omega) (by omega)⟩
theorem mpend_S {z : zM} {S : aS} (h : mS z S) {x : Nat} (hx : x < S.n) (r : Nat → Nat) : mS (mpn z x (S.m x).pend.1 (nI (r 3)) (nI (r 0)) (nI (r 4)) (nI (r 1)) (nI (r 2))) (aPend S x r) ∧ mfr z (mpn z x (S.m x).pend.1 (nI (r 3)) (nI (r 0)) (nI (r 4)) (nI (r 1)) (nI (r 2))) 0 2921 := by
  have hm := h.m hx
  have hn6 := h.n6
  have hf := mpn_mfr z (x := x) (k := (S.m x).pend.1) (nI (r 3)) (nI (r 0)) (nI (r 4)) (nI (r 1)) (nI (r 2))
  exact ⟨h.setM (by omega) (hf.mono (by unfold mat; omega) (by unfold mat; omega)) (hm.pendc hf (mpn_tb hm.2.2.2.1 r)), hf.mono (by omega) (by unfold mat; omega)⟩
theorem msn_S {z : zM} {S : aS} (h : mS z S) {x : Nat} (hx : x < S.n) (hl : (S.m x).log.1 < 40) (hq : S.q.1 < 40) : mS (msn z x S.n (S.m x).st (S.m x).lie S.q.1 (S.m x).log) (aSend S x) ∧ mfr z (msn z x S.n (S.m x).st (S.m x).lie S.q.1 (S.m x).log) 0 2921 := by
  have hm := h.m hx
  have hn6 := h.n6
  have h1 := hm.lie 0
  have hf1 : mfr z (zi z 273 (mat x 2) (nI 0)) (mat x 0) 433 := (zi_mfr _ _ _).mono (by unfold mat; omega) (by unfold mat; omega)
  have hf2 := mlg_mfr (zi z 273 (mat x 2) (nI 0)) (x := x) hl (nI (pk 2 (gt x (S.m x).st S.n + 1) (outv (S.m x).st (S.m x).lie)))
  have h2 := h1.logc hf2 (mlg_log h1.2.1 hl 2 (gt x (S.m x).st S.n + 1) (outv (S.m x).st (S.m x).lie))
  have hf3 := hf1.tr (hf2.mono (lo2 := mat x 0) (n2 := 433) (by unfold mat; omega) (by unfold mat; omega))
  have h3 := h.setM (show x < 6 by omega) hf3 h2
  have h4 := mQ_push h3.q hq (row5 x (S.m x).log.1 (CH (tpush (S.m x).log (row3 2 (gt x (S.m x).st S.n + 1) (outv (S.m x).st (S.m x).lie))).2 ((S.m x).log.1 + 1)) (gt x (S.m x).st S.n) (outv (S.m x).st (S.m x).lie))
  have hf4 := ((mpt_mfr (mlg (zi z 273 (mat x 2) (nI 0)) x (S.m x).log.1 (nI (pk 2 (gt x (S.m x).st S.n + 1) (outv (S.m x).st (S.m x).lie)))) (2600 + 5 * S.q.1) (nI (gt x (S.m x).st S.n)) (nI x) (nI (outv (S.m x).st (S.m x).lie)) (nI (S.m x).log.1) (nI (CH (tpush (S.m x).log (row3 2 (gt x (S.m x).st S.n + 1) (outv (S.m x).st (S.m x).lie))).2 ((S.m x).log.1 + 1)))).mono (lo2 := 2599) (n2 := 201) (by omega) (by omega)).tr ((zi_mfr _ 2599 (nI (S.q.1 + 1))).mono (by omega) (by omega))
  exact ⟨h3.setQ hf4 h4, (hf3.mono (by omega) (by unfold mat; omega)).tr (hf4.mono (by omega) (by omega))⟩
theorem mtk1_S {z : zM} {S : aS} (h : mS z S) {x : Nat} (hx : x < S.n) (hl : (S.m x).log.1 < 40) (a q v : Nat) : mS (mtk1 z x (S.m x).st (S.m x).log a q v) (aTk1 S x a q v) ∧ mfr z (mtk1 z x (S.m x).st (S.m x).log a q v) 0 2921 := by
  have hm := h.m hx
  have hn6 := h.n6
  have hf1 := mlg_mfr z (x := x) hl (nI (pk a q v))
  have h1 := (hm.logc hf1 (mlg_log hm.2.1 hl a q v)).st (nx (S.m x).st v q)
  have hf : mfr z (mtk1 z x (S.m x).st (S.m x).log a q v) (mat x 0) 433 := (hf1.mono (by unfold mat; omega) (by unfold mat; omega)).tr ((zi_mfr _ _ _).mono (by unfold mat; omega) (by unfold mat; omega))
  exact ⟨h.setM (by omega) hf h1, hf.mono (by omega) (by unfold mat; omega)⟩
theorem mtk_S {z : zM} {S : aS} (h : mS z S) {x : Nat} (hx : x < S.n) (hl : (S.m x).log.1 ≤ 38) (hq : S.q.1 < 40) (a q v : Nat) : mS (mtk z x S.n (S.m x).st (S.m x).lie S.q.1 (S.m x).log a q v) (aTake S x a q v) ∧ mfr z (mtk z x S.n (S.m x).st (S.m x).lie S.q.1 (S.m x).log a q v) 0 2921 := by
  obtain ⟨h1, hf1⟩ := mtk1_S h hx (by omega) a q v
  unfold mtk aTake
  split
  · have hs : (aTk1 S x a q v).m x = ((S.m x).setLog (tpush (S.m x).log (row3 a q v))).setSt (nx (S.m x).st v q) := aS.setM_s _ _ _
    have h2 := msn_S (x := x) h1 hx (by rw [hs]; show (S.m x).log.1 + 1 < 40; omega) hq
    rw [hs] at h2
    exact ⟨h2.1, hf1.tr h2.2⟩
  · exact ⟨h1, hf1⟩
def bar (S : aS) : Bool := decide (0 < S.q.1 ∧ (S.m (S.q.2 0 3)).sil = 0 ∧ ¬ (S.m (S.q.2 0 3)).log.1 ≤ 38)
theorem bar_iff {S : aS} : bar S = true ↔ 0 < S.q.1 ∧ (S.m (S.q.2 0 3)).sil = 0 ∧ ¬ (S.m (S.q.2 0 3)).log.1 ≤ 38 := decide_eq_true_iff
theorem can_bar {S : aS} (h0 : 0 < S.q.1) : aCan S = true ↔ ¬ bar S = true := by
  rw [aCan_iff, bar_iff]
  constructor
  · rintro ⟨-, h⟩ ⟨-, h2, h3⟩
    exact h.elim (fun q => q h2) (fun q => h3 q)
  · intro h
    refine ⟨h0, ?_⟩
    by_cases h2 : (S.m (S.q.2 0 3)).sil = 0
    · by_cases h3 : (S.m (S.q.2 0 3)).log.1 ≤ 38
      · exact Or.inr h3
      · exact absurd ⟨h0, h2, h3⟩ h
    · exact Or.inl h2
set_option maxRecDepth 100000 in
set_option maxHeartbeats 4000000 in
theorem m_X4_takes {G : zG} {N : Nat} {Λ : zLay} {l : Launch} (hO : zOK G l) (z : zM) (hB : zMo G N Λ) {x n st li qk : Nat} {T : aT} (hn2 : 2 ≤ n) (hn6 : n ≤ 6) (hx : x < n) (hx6 : x < 6) (h0 : z.1 273 0 = nI n) (h1 : z.1 273 (mat x 0) = nI st) (hst : st < 9973) (h3 : z.1 273 (mat x 2) = nI li) (hli : li < 2) (hL : mLog z x T) (hTo : okLog n T) (hT : T.1 ≤ 38) (hq : z.1 273 2599 = nI qk) (hqk : qk < 40) {a q v : Nat} (ha : a ≤ 2) (hqn : q ≤ n) (hv : v < 1000) : zMet G N Λ l yX4_takes cX4_takes 9 none 4 [.ref (G.h + 272), .int (nI x), .int (nI a), .int (pI q), .int (nI v)] z none (mtk z x n st li qk T a q v) := by
  refine zMet_of hO (by decide) (Nat.le_of_ble_eq_true rfl) ?_
  intro pP eE sS mM bB tT cC ls C hw hl
  have hl : lv_has ls 9 [(0, .ref (G.h + 272)), (1, .int (nI x)), (2, .int (nI a)), (3, .int (pI q)), (4, .int (nI v))] := hl
  refine lv_aload_n C.x C.b dX4_takes_0 rfl (lv_at hl 0 rfl) ?_
  refine lv_iload_n C.x C.b dX4_takes_1 rfl (lv_at hl 1 rfl) ?_
  refine lv_iload_n C.x C.b dX4_takes_2 rfl (lv_at hl 2 rfl) ?_
  refine lv_iload_n C.x C.b dX4_takes_3 rfl (lv_at hl 3 rfl) ?_
  refine lv_iload C.x C.b dX4_takes_4 (lv_at hl 4 rfl) ?_
  refine z_Sv (As := [.int (nI a), .int (pI q), .int (nI v)]) (rest := [.int (nI x), .ref (G.h + 272)]) C hw hl (m_X4_entryOf hO _) ivX4_70 rfl rfl ⟨(Nat.le_of_ble_eq_true rfl), (Nat.le_of_ble_eq_true rfl)⟩ (Nat.le_of_ble_eq_true rfl) ⟨Nat.zero_le _, Nat.zero_le _⟩ dX4_takes_6 (fun H locs hw => ?_)
  refine z_V0 (As := [.int (nI x), .int (nI (pk a q v))]) (rest := []) C hw hl (m_X4_logs hO _ hB hx6 hL.2.1 (by omega)) ivX4_74 hB.lt (hB.at _ _) rfl rfl ⟨(Nat.le_of_ble_eq_true rfl), (Nat.le_of_ble_eq_true rfl)⟩ (Nat.le_of_ble_eq_true rfl) ⟨Nat.zero_le _, Nat.zero_le _⟩ dX4_takes_9 (fun H locs hw => ?_)
  obtain ⟨z_1, ez_1⟩ : ∃ q_9, q_9 = mlg z x T.1 (nI (pk a q v)) := ⟨_, rfl⟩
  have hw : zS G N Λ z_1 sS H locs := by rw [ez_1]; exact hw
  have hf1 := mlg_mfr z (x := x) (show T.1 < 40 by omega) (nI (pk a q v))
  rw [← ez_1] at hf1
  have hL1 : mLog z_1 x (tpush T (row3 a q v)) := by rw [ez_1]; exact mlg_log hL (by omega) a q v
  refine lv_aload_n C.x C.b dX4_takes_12 rfl (lv_at hl 0 rfl) ?_
  refine lv_iload_n C.x C.b dX4_takes_13 rfl (lv_at hl 1 rfl) ?_
  refine lv_iconst (v := 0) C.x C.b dX4_takes_14 (by decide) ?_
  refine z_Vv (As := [.int (nI x), .int 0]) (rest := []) C hw hl (m_X4_get hO _ hB (o := 0) (mat_lt2 hx6 (by omega))) ivX4_40 hB.lt (hB.at _ _) rfl rfl ⟨(Nat.le_of_ble_eq_true rfl), (Nat.le_of_ble_eq_true rfl)⟩ (Nat.le_of_ble_eq_true rfl) ⟨Nat.zero_le _, Nat.zero_le _⟩ dX4_takes_15 (fun H locs hw => ?_)
  refine z_topi (y := nI st) (by rw [hf1.2.2 _ (by unfold mat; omega)]; exact h1) ?_
  refine lv_iload C.x C.b dX4_takes_18 (lv_at hl 4 rfl) ?_
  refine lv_iload_n C.x C.b dX4_takes_20 rfl (lv_at hl 3 rfl) ?_
  refine z_Sv (As := [.int (nI st), .int (nI v), .int (pI q)]) (rest := []) C hw hl (m_X4_behind hO _ hst hv (by omega)) ivX4_78 rfl rfl ⟨(Nat.le_of_ble_eq_true rfl), (Nat.le_of_ble_eq_true rfl)⟩ (Nat.le_of_ble_eq_true rfl) ⟨Nat.zero_le _, Nat.zero_le _⟩ dX4_takes_21 (fun H locs hw => ?_)
  refine lv_istore (lv' := [(5, .int (nI (nx st v q))), (0, .ref (G.h + 272)), (1, .int (nI x)), (2, .int (nI a)), (3, .int (pI q)), (4, .int (nI v))]) C.x C.b dX4_takes_24 hl (by decide) rfl (fun ls hl => ?_)
  refine lv_aload_n C.x C.b dX4_takes_26 rfl (lv_at hl 1 rfl) ?_
  refine z_get C hw hB.lt (hB.at _ _) flX4_7 rfl dX4_takes_27 ?_
  refine lv_iload_n C.x C.b dX4_takes_30 rfl (lv_at hl 2 rfl) ?_
  refine lv_iconst (v := 0) C.x C.b dX4_takes_31 (by decide) ?_
  refine z_pc (pc2 := 32) rfl ?_
  refine z_Sv (As := [.int (nI x), .int 0]) (rest := [.ref (G.h + 273)]) C hw hl (m_X4_at hO _ (o := 0)) ivX4_28 rfl rfl ⟨(Nat.le_of_ble_eq_true rfl), (Nat.le_of_ble_eq_true rfl)⟩ (Nat.le_of_ble_eq_true rfl) ⟨Nat.zero_le _, Nat.zero_le _⟩ dX4_takes_32 (fun H locs hw => ?_)
  refine lv_iload C.x C.b dX4_takes_35 (lv_at hl 0 rfl) ?_
  refine z_iast C hw hB.ltn hB.now (zvin (x := mat x 0) (mat_lt2 hx6 (by omega)) (by omega)) dX4_takes_37 (fun H locs hw => ?_)
  have e8 : (nI (mat x 0)).toNatClampNeg = (mat x 0) := zcl (x := mat x 0) (n := 2921) (mat_lt2 hx6 (by omega)) (by omega)
  rw [e8] at hw
  obtain ⟨z_2, ez_2⟩ : ∃ q_9, q_9 = zi z_1 273 (mat x 0) (nI (nx st v q)) := ⟨_, rfl⟩
  have hw : zS G N Λ z_2 sS H locs := by rw [ez_2]; exact hw
  refine lv_iload C.x C.b dX4_takes_38 (lv_at hl 0 rfl) ?_
  refine lv_iconst (v := 3) C.x C.b dX4_takes_40 (by decide) ?_
  refine lv_irem C.x C.b dX4_takes_41 (by decide) ?_
  refine z_topi (y := nI (nx st v q % 3)) (zrem 3 (by have := nx_lt st v q; omega) (by omega) (by omega)) ?_
  refine lv_if_eq (tgt := 46) C.x C.b dX4_takes_42 (by decide) (fun c_42 => ?_) (fun c_42 => ?_)
  · refine lv_iload C.x C.b dX4_takes_46 (lv_at hl 0 rfl) ?_
    refine lv_sipush (v := 1000) C.x C.b dX4_takes_48 (by decide) ?_
    refine lv_irem C.x C.b dX4_takes_51 (by decide) ?_
    refine z_topi (y := nI (nx st v q % 1000)) (zrem 1000 (by have := nx_lt st v q; omega) (by omega) (by omega)) ?_
    refine lv_aload_n C.x C.b dX4_takes_52 rfl (lv_at hl 1 rfl) ?_
    refine lv_iload_n C.x C.b dX4_takes_53 rfl (lv_at hl 2 rfl) ?_
    refine lv_iconst (v := 2) C.x C.b dX4_takes_54 (by decide) ?_
    refine z_Vv (As := [.int (nI x), .int 2]) (rest := [.int (nI (nx st v q % 1000))]) C hw hl (m_X4_get hO _ hB (o := 2) (mat_lt2 hx6 (by omega))) ivX4_40 hB.lt (hB.at _ _) rfl rfl ⟨(Nat.le_of_ble_eq_true rfl), (Nat.le_of_ble_eq_true rfl)⟩ (Nat.le_of_ble_eq_true rfl) ⟨Nat.zero_le _, Nat.zero_le _⟩ dX4_takes_55 (fun H locs hw => ?_)
    refine z_topi (y := nI li) (by rw [ez_2, zi_at, if_neg (by unfold mat; omega), hf1.2.2 _ (by unfold mat; omega)]; exact h3) ?_
    refine lv_iadd C.x C.b dX4_takes_58 ?_
    refine z_topi (y := nI (nx st v q % 1000 + li)) (nI_add _ _) ?_
    refine lv_sipush (v := 1000) C.x C.b dX4_takes_59 (by decide) ?_
    refine lv_irem C.x C.b dX4_takes_62 (by decide) ?_
    refine z_topi (y := nI (outv (nx st v q) li)) (zrem 1000 (by have := Nat.mod_lt (nx st v q) (show 0 < 1000 by omega); omega) (by omega) (by omega)) ?_
    refine lv_istore (lv' := [(6, .int (nI (outv (nx st v q) li))), (5, .int (nI (nx st v q))), (0, .ref (G.h + 272)), (1, .int (nI x)), (2, .int (nI a)), (3, .int (pI q)), (4, .int (nI v))]) C.x C.b dX4_takes_63 hl (by decide) rfl (fun ls hl => ?_)
    refine lv_aload_n C.x C.b dX4_takes_65 rfl (lv_at hl 2 rfl) ?_
    refine z_get C hw hB.lt (hB.at _ _) flX4_7 rfl dX4_takes_66 ?_
    refine z_pc (pc2 := 69) rfl ?_
    refine lv_iload_n C.x C.b dX4_takes_69 rfl (lv_at hl 3 rfl) ?_
    refine lv_iconst (v := 2) C.x C.b dX4_takes_70 (by decide) ?_
    refine z_Sv (As := [.int (nI x), .int 2]) (rest := [.ref (G.h + 273)]) C hw hl (m_X4_at hO _ (o := 2)) ivX4_28 rfl rfl ⟨(Nat.le_of_ble_eq_true rfl), (Nat.le_of_ble_eq_true rfl)⟩ (Nat.le_of_ble_eq_true rfl) ⟨Nat.zero_le _, Nat.zero_le _⟩ dX4_takes_71 (fun H locs hw => ?_)
    refine lv_iconst (v := 0) C.x C.b dX4_takes_74 (by decide) ?_
    refine z_iast C hw hB.ltn hB.now (zvin (x := mat x 2) (mat_lt2 hx6 (by omega)) (by omega)) dX4_takes_75 (fun H locs hw => ?_)
    have e8 : (nI (mat x 2)).toNatClampNeg = (mat x 2) := zcl (x := mat x 2) (n := 2921) (mat_lt2 hx6 (by omega)) (by omega)
    rw [e8] at hw
    obtain ⟨z_3, ez_3⟩ : ∃ q_9, q_9 = zi z_2 273 (mat x 2) 0 := ⟨_, rfl⟩
    have hw : zS G N Λ z_3 sS H locs := by rw [ez_3]; exact hw
    refine lv_aload_n C.x C.b dX4_takes_76 rfl (lv_at hl 2 rfl) ?_
    refine lv_iload_n C.x C.b dX4_takes_77 rfl (lv_at hl 3 rfl) ?_
    refine lv_iload C.x C.b dX4_takes_78 (lv_at hl 1 rfl) ?_
    refine z_Vv (As := [.int (nI x), .int (nI (nx st v q))]) (rest := []) C hw hl (m_X4_goesTo hO _ hB (n := n) (by rw [ez_3, zi_at, if_neg (by unfold mat; omega), ez_2, zi_at, if_neg (by unfold mat; omega), hf1.2.2 _ (by unfold mat; omega)]; exact h0) hn2 hn6 hx (nx_lt _ _ _)) ivX4_81 hB.lt (hB.at _ _) rfl rfl ⟨(Nat.le_of_ble_eq_true rfl), (Nat.le_of_ble_eq_true rfl)⟩ (Nat.le_of_ble_eq_true rfl) ⟨Nat.zero_le _, Nat.zero_le _⟩ dX4_takes_80 (fun H locs hw => ?_)
    refine lv_istore (lv' := [(7, .int (nI (gt x (nx st v q) n))), (6, .int (nI (outv (nx st v q) li))), (5, .int (nI (nx st v q))), (0, .ref (G.h + 272)), (1, .int (nI x)), (2, .int (nI a)), (3, .int (pI q)), (4, .int (nI v))]) C.x C.b dX4_takes_83 hl (by decide) rfl (fun ls hl => ?_)
    refine lv_aload_n C.x C.b dX4_takes_85 rfl (lv_at hl 3 rfl) ?_
    refine lv_iload_n C.x C.b dX4_takes_86 rfl (lv_at hl 4 rfl) ?_
    refine lv_iconst (v := 2) C.x C.b dX4_takes_87 (by decide) ?_
    refine lv_iload C.x C.b dX4_takes_88 (lv_at hl 0 rfl) ?_
    refine z_topi (y := pI (gt x (nx st v q) n + 1)) ((pI_s _).symm) ?_
    refine lv_iload C.x C.b dX4_takes_90 (lv_at hl 1 rfl) ?_
    refine z_Sv (As := [.int 2, .int (pI (gt x (nx st v q) n + 1)), .int (nI (outv (nx st v q) li))]) (rest := [.int (nI x), .ref (G.h + 272)]) C hw hl (m_X4_entryOf hO _) ivX4_70 rfl rfl ⟨(Nat.le_of_ble_eq_true rfl), (Nat.le_of_ble_eq_true rfl)⟩ (Nat.le_of_ble_eq_true rfl) ⟨Nat.zero_le _, Nat.zero_le _⟩ dX4_takes_92 (fun H locs hw => ?_)
    have hL2 : mLog z_2 x (tpush T (row3 a q v)) := by rw [ez_2]; exact hL1.cg ((zi_mfr z_1 (mat x 0) (nI (nx st v q))).cg (by unfold mat; omega))
    have hL3 : mLog z_3 x (tpush T (row3 a q v)) := by rw [ez_3]; exact hL2.cg ((zi_mfr z_2 (mat x 2) 0).cg (by unfold mat; omega))
    refine z_V0 (As := [.int (nI x), .int (nI (pk 2 (gt x (nx st v q) n + 1) (outv (nx st v q) li)))]) (rest := []) C hw hl (m_X4_logs hO _ hB hx6 hL3.2.1 (show T.1 + 1 < 40 by omega)) ivX4_74 hB.lt (hB.at _ _) rfl rfl ⟨(Nat.le_of_ble_eq_true rfl), (Nat.le_of_ble_eq_true rfl)⟩ (Nat.le_of_ble_eq_true rfl) ⟨Nat.zero_le _, Nat.zero_le _⟩ dX4_takes_95 (fun H locs hw => ?_)
    obtain ⟨z_4, ez_4⟩ : ∃ q_9, q_9 = mlg z_3 x (T.1 + 1) (nI (pk 2 (gt x (nx st v q) n + 1) (outv (nx st v q) li))) := ⟨_, rfl⟩
    have hw : zS G N Λ z_4 sS H locs := by rw [ez_4]; exact hw
    have hL4 : mLog z_4 x (tpush (tpush T (row3 a q v)) (row3 2 (gt x (nx st v q) n + 1) (outv (nx st v q) li))) := by rw [ez_4]; exact mlg_log hL3 (show T.1 + 1 < 40 by omega) _ _ _
    have hf4 := mlg_mfr z_3 (x := x) (show T.1 + 1 < 40 by omega) (nI (pk 2 (gt x (nx st v q) n + 1) (outv (nx st v q) li)))
    rw [← ez_4] at hf4
    have hq4 : z_4.1 273 2599 = nI qk := by rw [hf4.2.2 _ (by unfold mat; omega), ez_3, zi_at, if_neg (by unfold mat; omega), ez_2, zi_at, if_neg (by unfold mat; omega), hf1.2.2 _ (by unfold mat; omega)]; exact hq
    have hgt := gt_lt (x := x) (m := nx st v q) hn2
    have hov : outv (nx st v q) li < 1000 := Nat.mod_lt _ (by omega)
    have hTo2 : okLog n (tpush (tpush T (row3 a q v)) (row3 2 (gt x (nx st v q) n + 1) (outv (nx st v q) li))) := (hTo.push (show T.1 < 40 by omega) ha hqn hv).push (show T.1 + 1 < 40 by omega) (by omega) (by omega) hov
    refine lv_aload_n C.x C.b dX4_takes_98 rfl (lv_at hl 3 rfl) ?_
    refine lv_iload_n C.x C.b dX4_takes_99 rfl (lv_at hl 4 rfl) ?_
    refine lv_iconst (v := 4) C.x C.b dX4_takes_100 (by decide) ?_
    refine z_pc (pc2 := 101) rfl ?_
    refine z_Vv (As := [.int (nI x), .int 4]) (rest := []) C hw hl (m_X4_get hO _ hB (o := 4) (mat_lt2 hx6 (by omega))) ivX4_40 hB.lt (hB.at _ _) rfl rfl ⟨(Nat.le_of_ble_eq_true rfl), (Nat.le_of_ble_eq_true rfl)⟩ (Nat.le_of_ble_eq_true rfl) ⟨Nat.zero_le _, Nat.zero_le _⟩ dX4_takes_101 (fun H locs hw => ?_)
    refine z_topi (y := nI (T.1 + 1 + 1)) (hL4.2.1) ?_
    refine lv_iconst (v := 1) C.x C.b dX4_takes_104 (by decide) ?_
    refine lv_isub C.x C.b dX4_takes_105 ?_
    refine z_topi (y := nI (T.1 + 1)) (by rw [zlit 1, zsub (by omega)]; rfl) ?_
    refine lv_istore (lv' := [(8, .int (nI (T.1 + 1))), (7, .int (nI (gt x (nx st v q) n))), (6, .int (nI (outv (nx st v q) li))), (5, .int (nI (nx st v q))), (0, .ref (G.h + 272)), (1, .int (nI x)), (2, .int (nI a)), (3, .int (pI q)), (4, .int (nI v))]) C.x C.b dX4_takes_106 hl (by decide) rfl (fun ls hl => ?_)
    refine lv_aload_n C.x C.b dX4_takes_108 rfl (lv_at hl 4 rfl) ?_
    refine lv_sipush (v := 2600) C.x C.b dX4_takes_109 (by decide) ?_
    refine lv_iconst (v := 5) C.x C.b dX4_takes_112 (by decide) ?_
    refine lv_aload_n C.x C.b dX4_takes_113 rfl (lv_at hl 4 rfl) ?_
    refine z_get C hw hB.lt (hB.at _ _) flX4_7 rfl dX4_takes_114 ?_
    refine lv_sipush (v := 2599) C.x C.b dX4_takes_117 (by decide) ?_
    refine z_iald C hw hB.ltn hB.now (zvin (x := 2599) (by omega) (by omega)) dX4_takes_120 ?_
    refine z_topi (y := z_4.1 273 2599) (congrArg (z_4.1 273) (zcl (x := 2599) (n := 2921) (by omega) (by omega))) ?_
    refine z_topi (y := nI qk) (hq4) ?_
    refine lv_imul C.x C.b dX4_takes_121 ?_
    refine lv_iadd C.x C.b dX4_takes_122 ?_
    refine z_topi (y := nI (2600 + 5 * qk)) (by rw [zlit 2600, zlit 5, pk_mul, nI_add]) ?_
    refine lv_iload C.x C.b dX4_takes_123 (lv_at hl 1 rfl) ?_
    refine lv_iload_n C.x C.b dX4_takes_125 rfl (lv_at hl 5 rfl) ?_
    refine lv_iload C.x C.b dX4_takes_126 (lv_at hl 2 rfl) ?_
    refine lv_iload C.x C.b dX4_takes_128 (lv_at hl 0 rfl) ?_
    refine lv_aload_n C.x C.b dX4_takes_130 rfl (lv_at hl 4 rfl) ?_
    refine lv_iload_n C.x C.b dX4_takes_131 rfl (lv_at hl 5 rfl) ?_
    refine lv_iload C.x C.b dX4_takes_132 (lv_at hl 0 rfl) ?_
    refine z_pc (pc2 := 134) rfl ?_
    refine lv_iconst (v := 1) C.x C.b dX4_takes_134 (by decide) ?_
    refine lv_iadd C.x C.b dX4_takes_135 ?_
    refine z_topi (y := nI (T.1 + 1 + 1)) (nI_1 _) ?_
    refine z_Vv (As := [.int (nI x), .int (nI (T.1 + 1 + 1))]) (rest := [.int (nI (T.1 + 1)), .int (nI (outv (nx st v q) li)), .int (nI x), .int (nI (gt x (nx st v q) n)), .int (nI (2600 + 5 * qk)), .ref (G.h + 272)]) C hw hl (m_X4_chainAt hO _ hB hx6 (show T.1 + 1 + 1 ≤ 40 by omega) (r := (tpush (tpush T (row3 a q v)) (row3 2 (gt x (nx st v q) n + 1) (outv (nx st v q) li))).2) (fun j hj => hL4.2.2 j hj) (hTo2.row hn6)) ivX4_84 hB.lt (hB.at _ _) rfl rfl ⟨(Nat.le_of_ble_eq_true rfl), (Nat.le_of_ble_eq_true rfl)⟩ (Nat.le_of_ble_eq_true rfl) ⟨Nat.zero_le _, Nat.zero_le _⟩ dX4_takes_136 (fun H locs hw => ?_)
    refine z_V0 (As := [.int (nI (2600 + 5 * qk)), .int (nI (gt x (nx st v q) n)), .int (nI x), .int (nI (outv (nx st v q) li)), .int (nI (T.1 + 1)), .int (nI (CH (tpush (tpush T (row3 a q v)) (row3 2 (gt x (nx st v q) n + 1) (outv (nx st v q) li))).2 (T.1 + 1 + 1)))]) (rest := []) C hw hl (m_X4_puts hO _ hB (p := 2600 + 5 * qk) (by omega)) ivX4_87 hB.lt (hB.at _ _) rfl rfl ⟨(Nat.le_of_ble_eq_true rfl), (Nat.le_of_ble_eq_true rfl)⟩ (Nat.le_of_ble_eq_true rfl) ⟨Nat.zero_le _, Nat.zero_le _⟩ dX4_takes_139 (fun H locs hw => ?_)
    obtain ⟨z_5, ez_5⟩ : ∃ q_9, q_9 = mpt z_4 (2600 + 5 * qk) (nI (gt x (nx st v q) n)) (nI x) (nI (outv (nx st v q) li)) (nI (T.1 + 1)) (nI (CH (tpush (tpush T (row3 a q v)) (row3 2 (gt x (nx st v q) n + 1) (outv (nx st v q) li))).2 (T.1 + 1 + 1))) := ⟨_, rfl⟩
    have hw : zS G N Λ z_5 sS H locs := by rw [ez_5]; exact hw
    refine lv_aload_n C.x C.b dX4_takes_142 rfl (lv_at hl 4 rfl) ?_
    refine z_get C hw hB.lt (hB.at _ _) flX4_7 rfl dX4_takes_143 ?_
    refine lv_sipush (v := 2599) C.x C.b dX4_takes_146 (by decide) ?_
    refine lv_dup2_11 C.x C.b dX4_takes_149 rfl rfl ?_
    refine z_iald C hw hB.ltn hB.now (zvin (x := 2599) (by omega) (by omega)) dX4_takes_150 ?_
    refine z_topi (y := z_5.1 273 2599) (congrArg (z_5.1 273) (zcl (x := 2599) (n := 2921) (by omega) (by omega))) ?_
    refine z_topi (y := nI qk) (by rw [ez_5, (mpt_mfr _ _ _ _ _ _ _).2.2 _ (by omega)]; exact hq4) ?_
    refine lv_iconst (v := 1) C.x C.b dX4_takes_151 (by decide) ?_
    refine lv_iadd C.x C.b dX4_takes_152 ?_
    refine z_topi (y := nI (qk + 1)) (nI_1 _) ?_
    refine z_iast C hw hB.ltn hB.now (zvin (x := 2599) (by omega) (by omega)) dX4_takes_153 (fun H locs hw => ?_)
    have e8 : (2599 : Int32).toNatClampNeg = 2599 := zcl (x := 2599) (n := 2921) (by omega) (by omega)
    rw [e8] at hw
    obtain ⟨z_6, ez_6⟩ : ∃ q_9, q_9 = zi z_5 273 2599 (nI (qk + 1)) := ⟨_, rfl⟩
    have hw : zS G N Λ z_6 sS H locs := by rw [ez_6]; exact hw
    exact z_vret C hw dX4_takes_154 (rfl) (by rw [mtk, if_pos (zzero (by have := Nat.mod_lt (nx st v q) (show 0 < 3 by omega); omega) c_42), ez_6, ez_5, ez_4, ez_3, ez_2, ez_1]; rfl)
  · exact z_vret C hw dX4_takes_45 (rfl) (by rw [mtk, if_neg (fun q => c_42 (by rw [q]; rfl)), ez_2, ez_1]; rfl)

set_option maxRecDepth 100000 in
set_option maxHeartbeats 4000000 in
theorem m_X4_isBarred {G : zG} {N : Nat} {Λ : zLay} {l : Launch} (hO : zOK G l) (z : zM) (hB : zMo G N Λ) {S : aS} (hM : mS z S) (hS : aOK S) : zMet G N Λ l yX4_isBarred cX4_isBarred 2 (some .boolean) 3 [.ref (G.h + 272)] z (some (.int (if bar S = true then 1 else 0))) z := by
  refine zMet_of hO (by decide) (Nat.le_of_ble_eq_true rfl) ?_
  intro pP eE sS mM bB tT cC ls C hw hl
  have hl : lv_has ls 2 [(0, .ref (G.h + 272))] := hl
  have hq40 := hM.q.1
  have hn6 := hM.n6
  refine lv_aload_n C.x C.b dX4_isBarred_0 rfl (lv_at hl 0 rfl) ?_
  refine z_get C hw hB.lt (hB.at _ _) flX4_7 rfl dX4_isBarred_1 ?_
  refine lv_sipush (v := 2600) C.x C.b dX4_isBarred_4 (by decide) ?_
  refine z_iald C hw hB.ltn hB.now (zvin (x := 2600) (by omega) (by omega)) dX4_isBarred_7 ?_
  refine z_topi (y := z.1 273 2600) (congrArg (z.1 273) (zcl (x := 2600) (n := 2921) (by omega) (by omega))) ?_
  refine lv_istore_n (lv' := [(1, .int (z.1 273 2600)), (0, .ref (G.h + 272))]) C.x C.b dX4_isBarred_8 rfl hl (by decide) rfl (fun ls hl => ?_)
  refine lv_aload_n C.x C.b dX4_isBarred_9 rfl (lv_at hl 1 rfl) ?_
  refine z_get C hw hB.lt (hB.at _ _) flX4_7 rfl dX4_isBarred_10 ?_
  refine lv_sipush (v := 2599) C.x C.b dX4_isBarred_13 (by decide) ?_
  refine z_iald C hw hB.ltn hB.now (zvin (x := 2599) (by omega) (by omega)) dX4_isBarred_16 ?_
  refine z_topi (y := z.1 273 2599) (congrArg (z.1 273) (zcl (x := 2599) (n := 2921) (by omega) (by omega))) ?_
  refine z_topi (y := nI S.q.1) (hM.q.2.1) ?_
  refine lv_if_le (tgt := 41) C.x C.b dX4_isBarred_17 (by decide) (fun c_17 => ?_) (fun c_17 => ?_)
  · refine lv_iconst (v := 0) C.x C.b dX4_isBarred_41 (by decide) ?_
    exact z_zret C hw dX4_isBarred_42 (by decide) (by rw [if_neg (fun q => absurd c_17 (nI_nle (bar_iff.mp q).1 (by omega)))]) (rfl)
  · have h0 : 0 < S.q.1 := (nI_ltI (a := 0) (by omega) (by omega)).mp (Int32.not_le.mp c_17)
    have hmq := hS.q.2 0 h0
    have hx6 : S.q.2 0 3 < 6 := by omega
    have hmm := hM.m hmq.2.2.2.1
    have hom := hS.m hmq.2.2.2.1
    have hsi := hom.sil
    have hto : z.1 273 2600 = nI (S.q.2 0 3) := (hM.q.2.2 0 h0).1
    have hl : lv_has ls 2 [(1, .int (nI (S.q.2 0 3))), (0, .ref (G.h + 272))] := by
      have e9 : z.1 273 2600 = nI (S.q.2 0 3) := hto
      rw [← e9]; exact hl
    refine lv_aload_n C.x C.b dX4_isBarred_20 rfl (lv_at hl 1 rfl) ?_
    refine lv_iload_n C.x C.b dX4_isBarred_21 rfl (lv_at hl 0 rfl) ?_
    refine lv_iconst (v := 1) C.x C.b dX4_isBarred_22 (by decide) ?_
    refine z_Vv (As := [.int (nI (S.q.2 0 3)), .int 1]) (rest := []) C hw hl (m_X4_get hO _ hB (o := 1) (mat_lt2 hx6 (by omega))) ivX4_40 hB.lt (hB.at _ _) rfl rfl ⟨(Nat.le_of_ble_eq_true rfl), (Nat.le_of_ble_eq_true rfl)⟩ (Nat.le_of_ble_eq_true rfl) ⟨Nat.zero_le _, Nat.zero_le _⟩ dX4_isBarred_23 (fun H locs hw => ?_)
    refine z_topi (y := nI (S.m (S.q.2 0 3)).sil) (hmm.1.2.1) ?_
    refine lv_if_ne (tgt := 41) C.x C.b dX4_isBarred_26 (by decide) (fun c_26 => ?_) (fun c_26 => ?_)
    · refine lv_iconst (v := 0) C.x C.b dX4_isBarred_41 (by decide) ?_
      exact z_zret C hw dX4_isBarred_42 (by decide) (by rw [if_neg (fun q => c_26 (by rw [(bar_iff.mp q).2.1]; rfl))]) (rfl)
    · refine lv_aload_n C.x C.b dX4_isBarred_29 rfl (lv_at hl 1 rfl) ?_
      refine lv_iload_n C.x C.b dX4_isBarred_30 rfl (lv_at hl 0 rfl) ?_
      refine z_Vv (As := [.int (nI (S.q.2 0 3))]) (rest := []) C hw hl (m_X4_hasRoom hO _ hB hx6 hmm.2.1.2.1 hmm.2.1.1) ivX4_91 hB.lt (hB.at _ _) rfl rfl ⟨(Nat.le_of_ble_eq_true rfl), (Nat.le_of_ble_eq_true rfl)⟩ (Nat.le_of_ble_eq_true rfl) ⟨Nat.zero_le _, Nat.zero_le _⟩ dX4_isBarred_31 (fun H locs hw => ?_)
      refine lv_if_ne (tgt := 41) C.x C.b dX4_isBarred_34 (by decide) (fun c_34 => ?_) (fun c_34 => ?_)
      · refine z_pc (pc2 := 41) rfl ?_
        refine lv_iconst (v := 0) C.x C.b dX4_isBarred_41 (by decide) ?_
        exact z_zret C hw dX4_isBarred_42 (by decide) (by rw [if_neg (fun q => c_34 (by rw [if_neg (bar_iff.mp q).2.2]))]) (rfl)
      · refine z_pc (pc2 := 37) rfl ?_
        refine lv_iconst (v := 1) C.x C.b dX4_isBarred_37 (by decide) ?_
        refine lv_goto (tgt := 42) C.x C.b dX4_isBarred_38 (by decide) ?_
        exact z_zret C hw dX4_isBarred_42 (by decide) (by
            have h8 : ¬ (S.m (S.q.2 0 3)).log.1 ≤ 38 := fun q => by rw [if_pos q] at c_34; exact absurd c_34 (by decide)
            rw [if_pos (bar_iff.mpr ⟨h0, zzero (by omega) c_26, h8⟩)]) (rfl)

set_option maxRecDepth 100000 in
set_option maxHeartbeats 4000000 in
theorem m_X4_deliver_s {G : zG} {N : Nat} {Λ : zLay} {l : Launch} (hO : zOK G l) (z : zM) (hB : zMo G N Λ) {S : aS} (hM : mS z S) (hS : aOK S) (h0 : 0 < S.q.1) {to fr en ch v : Nat} (e3 : S.q.2 0 3 = to) (e0 : S.q.2 0 0 = fr) (e1 : S.q.2 0 1 = en) (e2 : S.q.2 0 2 = ch) (e4 : S.q.2 0 4 = v) (hs : ¬ (S.m to).sil = 0) : zMet G N Λ l yX4_delivers cX4_delivers 7 none 5 [.ref (G.h + 272)] z none (mpn (mqp z S.q.1) to (S.m to).pend.1 (nI to) (nI fr) (nI v) (nI en) (nI ch)) := by
  refine zMet_of hO (by decide) (Nat.le_of_ble_eq_true rfl) ?_
  intro pP eE sS mM bB tT cC ls C hw hl
  have hl : lv_has ls 7 [(0, .ref (G.h + 272))] := hl
  have hn6 := hM.n6
  have hq40 := hM.q.1
  have hmq := hS.q.2 0 h0
  rw [e0, e1, e2, e3, e4] at hmq
  obtain ⟨hfr, hen, hchl, hto, hv⟩ := hmq
  have ht6 : to < 6 := by omega
  have hf6 : fr < 6 := by omega
  have hot := hS.m hto
  have hsi := hot.sil
  have hmsg := hM.q.2.2 0 h0
  unfold mMsg at hmsg
  rw [e0, e1, e2, e3, e4] at hmsg
  obtain ⟨g0, g1, g2, g3, g4⟩ := hmsg
  obtain ⟨hM2, -⟩ := mpop_S hM h0
  have hmt2 := hM2.m (x := to) hto
  refine lv_aload_n C.x C.b dX4_delivers_0 rfl (lv_at hl 0 rfl) ?_
  refine z_get C hw hB.lt (hB.at _ _) flX4_7 rfl dX4_delivers_1 ?_
  refine lv_sipush (v := 2600) C.x C.b dX4_delivers_4 (by decide) ?_
  refine z_iald C hw hB.ltn hB.now (zvin (x := 2600) (by omega) (by omega)) dX4_delivers_7 ?_
  refine z_topi (y := z.1 273 2600) (congrArg (z.1 273) (zcl (x := 2600) (n := 2921) (by omega) (by omega))) ?_
  refine z_topi (y := nI to) (g0) ?_
  refine lv_istore_n (lv' := [(1, .int (nI to)), (0, .ref (G.h + 272))]) C.x C.b dX4_delivers_8 rfl hl (by decide) rfl (fun ls hl => ?_)
  refine lv_aload_n C.x C.b dX4_delivers_9 rfl (lv_at hl 1 rfl) ?_
  refine z_get C hw hB.lt (hB.at _ _) flX4_7 rfl dX4_delivers_10 ?_
  refine lv_sipush (v := 2601) C.x C.b dX4_delivers_13 (by decide) ?_
  refine z_iald C hw hB.ltn hB.now (zvin (x := 2601) (by omega) (by omega)) dX4_delivers_16 ?_
  refine z_topi (y := z.1 273 2601) (congrArg (z.1 273) (zcl (x := 2601) (n := 2921) (by omega) (by omega))) ?_
  refine z_topi (y := nI fr) (g1) ?_
  refine lv_istore_n (lv' := [(2, .int (nI fr)), (1, .int (nI to)), (0, .ref (G.h + 272))]) C.x C.b dX4_delivers_17 rfl hl (by decide) rfl (fun ls hl => ?_)
  refine lv_aload_n C.x C.b dX4_delivers_18 rfl (lv_at hl 2 rfl) ?_
  refine z_get C hw hB.lt (hB.at _ _) flX4_7 rfl dX4_delivers_19 ?_
  refine lv_sipush (v := 2602) C.x C.b dX4_delivers_22 (by decide) ?_
  refine z_iald C hw hB.ltn hB.now (zvin (x := 2602) (by omega) (by omega)) dX4_delivers_25 ?_
  refine z_topi (y := z.1 273 2602) (congrArg (z.1 273) (zcl (x := 2602) (n := 2921) (by omega) (by omega))) ?_
  refine z_topi (y := nI v) (g2) ?_
  refine lv_istore_n (lv' := [(3, .int (nI v)), (2, .int (nI fr)), (1, .int (nI to)), (0, .ref (G.h + 272))]) C.x C.b dX4_delivers_26 rfl hl (by decide) rfl (fun ls hl => ?_)
  refine lv_aload_n C.x C.b dX4_delivers_27 rfl (lv_at hl 3 rfl) ?_
  refine z_get C hw hB.lt (hB.at _ _) flX4_7 rfl dX4_delivers_28 ?_
  refine lv_sipush (v := 2603) C.x C.b dX4_delivers_31 (by decide) ?_
  refine z_iald C hw hB.ltn hB.now (zvin (x := 2603) (by omega) (by omega)) dX4_delivers_34 ?_
  refine z_topi (y := z.1 273 2603) (congrArg (z.1 273) (zcl (x := 2603) (n := 2921) (by omega) (by omega))) ?_
  refine z_topi (y := nI en) (g3) ?_
  refine z_pc (pc2 := 35) rfl ?_
  refine lv_istore (lv' := [(4, .int (nI en)), (3, .int (nI v)), (2, .int (nI fr)), (1, .int (nI to)), (0, .ref (G.h + 272))]) C.x C.b dX4_delivers_35 hl (by decide) rfl (fun ls hl => ?_)
  refine lv_aload_n C.x C.b dX4_delivers_37 rfl (lv_at hl 4 rfl) ?_
  refine z_get C hw hB.lt (hB.at _ _) flX4_7 rfl dX4_delivers_38 ?_
  refine lv_sipush (v := 2604) C.x C.b dX4_delivers_41 (by decide) ?_
  refine z_iald C hw hB.ltn hB.now (zvin (x := 2604) (by omega) (by omega)) dX4_delivers_44 ?_
  refine z_topi (y := z.1 273 2604) (congrArg (z.1 273) (zcl (x := 2604) (n := 2921) (by omega) (by omega))) ?_
  refine z_topi (y := nI ch) (g4) ?_
  refine lv_istore (lv' := [(5, .int (nI ch)), (4, .int (nI en)), (3, .int (nI v)), (2, .int (nI fr)), (1, .int (nI to)), (0, .ref (G.h + 272))]) C.x C.b dX4_delivers_45 hl (by decide) rfl (fun ls hl => ?_)
  refine lv_aload_n C.x C.b dX4_delivers_47 rfl (lv_at hl 5 rfl) ?_
  refine z_get C hw hB.lt (hB.at _ _) flX4_7 rfl dX4_delivers_48 ?_
  refine lv_sipush (v := 2599) C.x C.b dX4_delivers_51 (by decide) ?_
  refine lv_dup2_11 C.x C.b dX4_delivers_54 rfl rfl ?_
  refine z_iald C hw hB.ltn hB.now (zvin (x := 2599) (by omega) (by omega)) dX4_delivers_55 ?_
  refine z_topi (y := z.1 273 2599) (congrArg (z.1 273) (zcl (x := 2599) (n := 2921) (by omega) (by omega))) ?_
  refine z_topi (y := nI S.q.1) (hM.q.2.1) ?_
  refine lv_iconst (v := 1) C.x C.b dX4_delivers_56 (by decide) ?_
  refine lv_isub C.x C.b dX4_delivers_57 ?_
  refine z_topi (y := nI (S.q.1 - 1)) (by rw [zlit 1, zsub h0]) ?_
  refine z_iast C hw hB.ltn hB.now (zvin (x := 2599) (by omega) (by omega)) dX4_delivers_58 (fun H locs hw => ?_)
  have e8 : (2599 : Int32).toNatClampNeg = 2599 := zcl (x := 2599) (n := 2921) (by omega) (by omega)
  rw [e8] at hw
  obtain ⟨z_1, ez_1⟩ : ∃ q_9, q_9 = zi z 273 2599 (nI (S.q.1 - 1)) := ⟨_, rfl⟩
  have hw : zS G N Λ z_1 sS H locs := by rw [ez_1]; exact hw
  refine lv_iconst (v := 0) C.x C.b dX4_delivers_59 (by decide) ?_
  refine lv_istore (lv' := [(6, .int 0), (5, .int (nI ch)), (4, .int (nI en)), (3, .int (nI v)), (2, .int (nI fr)), (1, .int (nI to)), (0, .ref (G.h + 272))]) C.x C.b dX4_delivers_60 hl (by decide) rfl (fun ls hl => ?_)
  have loop : ∀ (d : Nat) (j : Nat) (H : Heap) (locs : List Loc) (ls : Array Slot) (hj : j + d = 5 * (S.q.1 - 1)), zS G N Λ (msh z_1 2600 5 j) sS H locs → lv_has ls 7 [(0, .ref (G.h + 272)), (1, .int (nI to)), (2, .int (nI fr)), (3, .int (nI v)), (4, .int (nI en)), (5, .int (nI ch)), (6, .int (nI j))] → W pP l eE (zR 5) sS mM ([.ref (G.h + 272)] : List Value).toArray bB tT cC H locs 0 0 (MQ bB (zQc G N Λ none (mpn (mqp z S.q.1) to (S.m to).pend.1 (nI to) (nI fr) (nI v) (nI en) (nI ch))) ([.ref (G.h + 272)] : List Value).toArray sS 0 0 (zA G)) (F0 mM 62 ls []) := by
    intro d
    induction d with
    | zero =>
      intro j H locs ls hj hw hl
      refine lv_iload C.x C.b dX4_delivers_62 (lv_at hl 6 rfl) ?_
      refine lv_iconst (v := 5) C.x C.b dX4_delivers_64 (by decide) ?_
      refine lv_aload_n C.x C.b dX4_delivers_65 rfl (lv_at hl 0 rfl) ?_
      refine z_get C hw hB.lt (hB.at _ _) flX4_7 rfl dX4_delivers_66 ?_
      refine lv_sipush (v := 2599) C.x C.b dX4_delivers_69 (by decide) ?_
      refine z_iald C hw hB.ltn hB.now (zvin (x := 2599) (by omega) (by omega)) dX4_delivers_72 ?_
      refine z_topi (y := (msh z_1 2600 5 j).1 273 2599) (congrArg ((msh z_1 2600 5 j).1 273) (zcl (x := 2599) (n := 2921) (by omega) (by omega))) ?_
      refine z_topi (y := nI (S.q.1 - 1)) (by rw [msh_at, if_neg (by omega), ez_1, zi_at, if_pos ⟨rfl, rfl⟩]) ?_
      refine lv_imul C.x C.b dX4_delivers_73 ?_
      refine z_topi (y := nI (5 * (S.q.1 - 1))) (by rw [zlit 5, pk_mul]) ?_
      refine lv_icmp_ge (tgt := 107) C.x C.b dX4_delivers_74 (by decide) (fun c_74 => ?_) (fun c_74 => absurd (zle (by omega) (by omega)) c_74)
      have hjn : j = 5 * (S.q.1 - 1) := by omega
      obtain ⟨z_2, ez_2⟩ : ∃ q_9, q_9 = mqp z S.q.1 := ⟨_, rfl⟩
      have hw : zS G N Λ z_2 sS H locs := by rw [ez_2]; rw [hjn, ez_1] at hw; exact hw
      rw [← ez_2] at hM2 hmt2
      refine lv_aload_n C.x C.b dX4_delivers_107 rfl (lv_at hl 0 rfl) ?_
      refine lv_iload_n C.x C.b dX4_delivers_108 rfl (lv_at hl 1 rfl) ?_
      refine lv_iconst (v := 1) C.x C.b dX4_delivers_109 (by decide) ?_
      refine z_Vv (As := [.int (nI to), .int 1]) (rest := []) C hw hl (m_X4_get hO _ hB (o := 1) (mat_lt2 ht6 (by omega))) ivX4_40 hB.lt (hB.at _ _) rfl rfl ⟨(Nat.le_of_ble_eq_true rfl), (Nat.le_of_ble_eq_true rfl)⟩ (Nat.le_of_ble_eq_true rfl) ⟨Nat.zero_le _, Nat.zero_le _⟩ dX4_delivers_110 (fun H locs hw => ?_)
      refine z_topi (y := nI (S.m to).sil) (hmt2.1.2.1) ?_
      refine lv_iconst (v := 1) C.x C.b dX4_delivers_113 (by decide) ?_
      refine lv_icmp_ne (tgt := 176) C.x C.b dX4_delivers_114 (by decide) (fun c_114 => absurd c_114 (fun q => q (by rw [show (S.m to).sil = 1 by omega]; rfl))) (fun c_114 => ?_)
      refine lv_aload_n C.x C.b dX4_delivers_117 rfl (lv_at hl 0 rfl) ?_
      refine lv_iload_n C.x C.b dX4_delivers_118 rfl (lv_at hl 1 rfl) ?_
      refine lv_sipush (v := 226) C.x C.b dX4_delivers_119 (by decide) ?_
      refine z_Vv (As := [.int (nI to), .int 226]) (rest := []) C hw hl (m_X4_get hO _ hB (o := 226) (mat_lt2 ht6 (by omega))) ivX4_40 hB.lt (hB.at _ _) rfl rfl ⟨(Nat.le_of_ble_eq_true rfl), (Nat.le_of_ble_eq_true rfl)⟩ (Nat.le_of_ble_eq_true rfl) ⟨Nat.zero_le _, Nat.zero_le _⟩ dX4_delivers_122 (fun H locs hw => ?_)
      refine z_topi (y := nI (S.m to).pend.1) (hmt2.2.2.2.1.2.1) ?_
      refine lv_bipush (v := 40) C.x C.b dX4_delivers_125 (by decide) ?_
      refine z_pc (pc2 := 127) rfl ?_
      refine lv_icmp_ge (tgt := 175) C.x C.b dX4_delivers_127 (by decide) (fun c_127 => ?_) (fun c_127 => ?_)
      · exact z_vret C hw dX4_delivers_175 (rfl) (by rw [mpn, if_neg (fun q => absurd c_127 (znle (b := 40) (by omega) q)), ez_2])
      · have hp40 : (S.m to).pend.1 < 40 := (nI_ltI (b := 40) (by have := hot.pend.1; omega) (by omega)).mp (Int32.not_le.mp c_127)
        refine lv_aload_n C.x C.b dX4_delivers_130 rfl (lv_at hl 0 rfl) ?_
        refine lv_iload_n C.x C.b dX4_delivers_131 rfl (lv_at hl 1 rfl) ?_
        refine lv_sipush (v := 227) C.x C.b dX4_delivers_132 (by decide) ?_
        refine lv_iconst (v := 5) C.x C.b dX4_delivers_135 (by decide) ?_
        refine lv_aload_n C.x C.b dX4_delivers_136 rfl (lv_at hl 0 rfl) ?_
        refine lv_iload_n C.x C.b dX4_delivers_137 rfl (lv_at hl 1 rfl) ?_
        refine lv_sipush (v := 226) C.x C.b dX4_delivers_138 (by decide) ?_
        refine z_Vv (As := [.int (nI to), .int 226]) (rest := [.int 5, .int 227, .int (nI to), .ref (G.h + 272)]) C hw hl (m_X4_get hO _ hB (o := 226) (mat_lt2 ht6 (by omega))) ivX4_40 hB.lt (hB.at _ _) rfl rfl ⟨(Nat.le_of_ble_eq_true rfl), (Nat.le_of_ble_eq_true rfl)⟩ (Nat.le_of_ble_eq_true rfl) ⟨Nat.zero_le _, Nat.zero_le _⟩ dX4_delivers_141 (fun H locs hw => ?_)
        refine z_topi (y := nI (S.m to).pend.1) (hmt2.2.2.2.1.2.1) ?_
        refine lv_imul C.x C.b dX4_delivers_144 ?_
        refine lv_iadd C.x C.b dX4_delivers_145 ?_
        refine z_topi (y := nI (227 + 5 * (S.m to).pend.1)) (by rw [zlit 227, zlit 5, pk_mul, nI_add]) ?_
        refine z_Sv (As := [.int (nI to), .int (nI (227 + 5 * (S.m to).pend.1))]) (rest := [.ref (G.h + 272)]) C hw hl (m_X4_at hO _ (o := 227 + 5 * (S.m to).pend.1)) ivX4_28 rfl rfl ⟨(Nat.le_of_ble_eq_true rfl), (Nat.le_of_ble_eq_true rfl)⟩ (Nat.le_of_ble_eq_true rfl) ⟨Nat.zero_le _, Nat.zero_le _⟩ dX4_delivers_146 (fun H locs hw => ?_)
        refine lv_iload_n C.x C.b dX4_delivers_149 rfl (lv_at hl 1 rfl) ?_
        refine lv_iload_n C.x C.b dX4_delivers_150 rfl (lv_at hl 2 rfl) ?_
        refine lv_iload_n C.x C.b dX4_delivers_151 rfl (lv_at hl 3 rfl) ?_
        refine lv_iload C.x C.b dX4_delivers_152 (lv_at hl 4 rfl) ?_
        refine lv_iload C.x C.b dX4_delivers_154 (lv_at hl 5 rfl) ?_
        refine z_V0 (As := [.int (nI (mat to (227 + 5 * (S.m to).pend.1))), .int (nI to), .int (nI fr), .int (nI v), .int (nI en), .int (nI ch)]) (rest := []) C hw hl (m_X4_puts hO _ hB (p := mat to (227 + 5 * (S.m to).pend.1)) (by unfold mat; omega)) ivX4_87 hB.lt (hB.at _ _) rfl rfl ⟨(Nat.le_of_ble_eq_true rfl), (Nat.le_of_ble_eq_true rfl)⟩ (Nat.le_of_ble_eq_true rfl) ⟨Nat.zero_le _, Nat.zero_le _⟩ dX4_delivers_156 (fun H locs hw => ?_)
        obtain ⟨z_3, ez_3⟩ : ∃ q_9, q_9 = mpt z_2 (mat to (227 + 5 * (S.m to).pend.1)) (nI to) (nI fr) (nI v) (nI en) (nI ch) := ⟨_, rfl⟩
        have hw : zS G N Λ z_3 sS H locs := by rw [ez_3]; exact hw
        refine lv_aload_n C.x C.b dX4_delivers_159 rfl (lv_at hl 0 rfl) ?_
        refine z_get C hw hB.lt (hB.at _ _) flX4_7 rfl dX4_delivers_160 ?_
        refine z_pc (pc2 := 163) rfl ?_
        refine lv_iload_n C.x C.b dX4_delivers_163 rfl (lv_at hl 1 rfl) ?_
        refine lv_sipush (v := 226) C.x C.b dX4_delivers_164 (by decide) ?_
        refine z_Sv (As := [.int (nI to), .int 226]) (rest := [.ref (G.h + 273)]) C hw hl (m_X4_at hO _ (o := 226)) ivX4_28 rfl rfl ⟨(Nat.le_of_ble_eq_true rfl), (Nat.le_of_ble_eq_true rfl)⟩ (Nat.le_of_ble_eq_true rfl) ⟨Nat.zero_le _, Nat.zero_le _⟩ dX4_delivers_167 (fun H locs hw => ?_)
        refine lv_dup2_11 C.x C.b dX4_delivers_170 rfl rfl ?_
        refine z_iald C hw hB.ltn hB.now (zvin (x := mat to 226) (mat_lt2 ht6 (by omega)) (by omega)) dX4_delivers_171 ?_
        refine z_topi (y := z_3.1 273 (mat to 226)) (congrArg (z_3.1 273) (zcl (x := mat to 226) (n := 2921) (mat_lt2 ht6 (by omega)) (by omega))) ?_
        refine z_topi (y := nI (S.m to).pend.1) (by rw [ez_3, (mpt_mfr _ _ _ _ _ _ _).2.2 _ (by unfold mat; omega)]; exact hmt2.2.2.2.1.2.1) ?_
        refine lv_iconst (v := 1) C.x C.b dX4_delivers_172 (by decide) ?_
        refine lv_iadd C.x C.b dX4_delivers_173 ?_
        refine z_topi (y := nI ((S.m to).pend.1 + 1)) (nI_1 _) ?_
        refine z_iast C hw hB.ltn hB.now (zvin (x := mat to 226) (mat_lt2 ht6 (by omega)) (by omega)) dX4_delivers_174 (fun H locs hw => ?_)
        have e8 : (nI (mat to 226)).toNatClampNeg = (mat to 226) := zcl (x := mat to 226) (n := 2921) (mat_lt2 ht6 (by omega)) (by omega)
        rw [e8] at hw
        obtain ⟨z_4, ez_4⟩ : ∃ q_9, q_9 = zi z_3 273 (mat to 226) (nI ((S.m to).pend.1 + 1)) := ⟨_, rfl⟩
        have hw : zS G N Λ z_4 sS H locs := by rw [ez_4]; exact hw
        exact z_vret C hw dX4_delivers_175 (rfl) (by rw [mpn, if_pos hp40, ez_4, ez_3, ez_2])
    | succ d ih =>
      intro j H locs ls hj hw hl
      refine lv_iload C.x C.b dX4_delivers_62 (lv_at hl 6 rfl) ?_
      refine lv_iconst (v := 5) C.x C.b dX4_delivers_64 (by decide) ?_
      refine lv_aload_n C.x C.b dX4_delivers_65 rfl (lv_at hl 0 rfl) ?_
      refine z_get C hw hB.lt (hB.at _ _) flX4_7 rfl dX4_delivers_66 ?_
      refine lv_sipush (v := 2599) C.x C.b dX4_delivers_69 (by decide) ?_
      refine z_iald C hw hB.ltn hB.now (zvin (x := 2599) (by omega) (by omega)) dX4_delivers_72 ?_
      refine z_topi (y := (msh z_1 2600 5 j).1 273 2599) (congrArg ((msh z_1 2600 5 j).1 273) (zcl (x := 2599) (n := 2921) (by omega) (by omega))) ?_
      refine z_topi (y := nI (S.q.1 - 1)) (by rw [msh_at, if_neg (by omega), ez_1, zi_at, if_pos ⟨rfl, rfl⟩]) ?_
      refine lv_imul C.x C.b dX4_delivers_73 ?_
      refine z_topi (y := nI (5 * (S.q.1 - 1))) (by rw [zlit 5, pk_mul]) ?_
      refine lv_icmp_ge (tgt := 107) C.x C.b dX4_delivers_74 (by decide) (fun c_74 => absurd c_74 (znle (by omega) (by omega))) (fun c_74 => ?_)
      refine lv_aload_n C.x C.b dX4_delivers_77 rfl (lv_at hl 0 rfl) ?_
      refine z_get C hw hB.lt (hB.at _ _) flX4_7 rfl dX4_delivers_78 ?_
      refine lv_sipush (v := 2600) C.x C.b dX4_delivers_81 (by decide) ?_
      refine lv_iload C.x C.b dX4_delivers_84 (lv_at hl 6 rfl) ?_
      refine lv_iadd C.x C.b dX4_delivers_86 ?_
      refine z_topi (y := nI (2600 + j)) (by rw [zlit 2600, nI_add]) ?_
      refine lv_aload_n C.x C.b dX4_delivers_87 rfl (lv_at hl 0 rfl) ?_
      refine z_get C hw hB.lt (hB.at _ _) flX4_7 rfl dX4_delivers_88 ?_
      refine lv_sipush (v := 2600) C.x C.b dX4_delivers_91 (by decide) ?_
      refine lv_iload C.x C.b dX4_delivers_94 (lv_at hl 6 rfl) ?_
      refine lv_iadd C.x C.b dX4_delivers_96 ?_
      refine lv_iconst (v := 5) C.x C.b dX4_delivers_97 (by decide) ?_
      refine z_pc (pc2 := 98) rfl ?_
      refine lv_iadd C.x C.b dX4_delivers_98 ?_
      refine z_topi (y := nI (2600 + j + 5)) (by rw [zlit 2600, zlit 5, nI_add, nI_add]) ?_
      refine z_iald C hw hB.ltn hB.now (zvin (x := 2600 + j + 5) (by omega) (by omega)) dX4_delivers_99 ?_
      refine z_topi (y := (msh z_1 2600 5 j).1 273 (2600 + j + 5)) (congrArg ((msh z_1 2600 5 j).1 273) (zcl (x := 2600 + j + 5) (n := 2921) (by omega) (by omega))) ?_
      refine z_iast C hw hB.ltn hB.now (zvin (x := 2600 + j) (by omega) (by omega)) dX4_delivers_100 (fun H locs hw => ?_)
      have e8 : (nI (2600 + j)).toNatClampNeg = (2600 + j) := zcl (x := 2600 + j) (n := 2921) (by omega) (by omega)
      rw [e8] at hw
      obtain ⟨z_5, ez_5⟩ : ∃ q_9, q_9 = zi (msh z_1 2600 5 j) 273 (2600 + j) ((msh z_1 2600 5 j).1 273 (2600 + j + 5)) := ⟨_, rfl⟩
      have hw : zS G N Λ z_5 sS H locs := by rw [ez_5]; exact hw
      refine lv_iinc (v := nI j + 1) (lv' := [(6, .int (nI j + 1)), (0, .ref (G.h + 272)), (1, .int (nI to)), (2, .int (nI fr)), (3, .int (nI v)), (4, .int (nI en)), (5, .int (nI ch))]) C.x C.b dX4_delivers_101 hl (k := 6) rfl rfl (by decide) rfl (fun ls hl => ?_)
      have hl : lv_has ls 7 [(6, .int (nI (j + 1))), (0, .ref (G.h + 272)), (1, .int (nI to)), (2, .int (nI fr)), (3, .int (nI v)), (4, .int (nI en)), (5, .int (nI ch))] := by
        have e9 : nI j + 1 = nI (j + 1) := nI_1 j
        rw [← e9]; exact hl
      refine lv_goto (tgt := 62) C.x C.b dX4_delivers_104 (by decide) ?_
      exact ih (j + 1) _ _ _ (by omega) (by rw [ez_5, msh_step] at hw; exact hw) (lv_sub hl [1, 2, 3, 4, 5, 6, 0] rfl)
  exact loop (5 * (S.q.1 - 1)) 0 _ _ _ (by omega) (by rw [msh_0]; exact hw) (lv_sub hl [6, 5, 4, 3, 2, 1, 0] rfl)

set_option maxRecDepth 100000 in
set_option maxHeartbeats 4000000 in
theorem m_X4_deliver_n {G : zG} {N : Nat} {Λ : zLay} {l : Launch} (hO : zOK G l) (z : zM) (hB : zMo G N Λ) {S : aS} (hM : mS z S) (hS : aOK S) (h0 : 0 < S.q.1) {to fr en ch v : Nat} (e3 : S.q.2 0 3 = to) (e0 : S.q.2 0 0 = fr) (e1 : S.q.2 0 1 = en) (e2 : S.q.2 0 2 = ch) (e4 : S.q.2 0 4 = v) (hs : (S.m to).sil = 0) (hl38 : (S.m to).log.1 ≤ 38) {S3 : aS} (eS : S3 = aTake (aHold (aPopQ S) to (row3 fr en ch)) to 1 (fr + 1) v) : zMet G N Λ l yX4_delivers cX4_delivers 7 none 5 [.ref (G.h + 272)] z none (mHd (mtk (mHd (mqp z S.q.1) to (S.m to).held.1 (nI fr) (nI en) (nI ch)) to S.n (S.m to).st (S.m to).lie (S.q.1 - 1) (S.m to).log 1 (fr + 1) v) fr (S3.m fr).held.1 (nI to) (nI (S.m to).log.1) (nI (CH (S3.m to).log.2 ((S.m to).log.1 + 1)))) := by
  refine zMet_of hO (by decide) (Nat.le_of_ble_eq_true rfl) ?_
  intro pP eE sS mM bB tT cC ls C hw hl
  have hl : lv_has ls 7 [(0, .ref (G.h + 272))] := hl
  have hn6 := hM.n6
  have hq40 := hM.q.1
  have hmq := hS.q.2 0 h0
  rw [e0, e1, e2, e3, e4] at hmq
  obtain ⟨hfr, hen, hchl, hto, hv⟩ := hmq
  have ht6 : to < 6 := by omega
  have hf6 : fr < 6 := by omega
  have hot := hS.m hto
  have hsi := hot.sil
  have hmsg := hM.q.2.2 0 h0
  unfold mMsg at hmsg
  rw [e0, e1, e2, e3, e4] at hmsg
  obtain ⟨g0, g1, g2, g3, g4⟩ := hmsg
  obtain ⟨hM2, -⟩ := mpop_S hM h0
  have hmt2 := hM2.m (x := to) hto
  have hS1m : (aHold (aPopQ S) to (row3 fr en ch)).m to = (S.m to).setHeld (thold (S.m to).held (row3 fr en ch)) := aS.setM_s _ _ _
  have hS1 : aOK (aHold (aPopQ S) to (row3 fr en ch)) := hS.popQ.hold hto hfr hen hchl
  have hS3 : aOK S3 := by
    rw [eS]; exact hS1.take (x := to) (a := 1) (q := fr + 1) (v := v) hto (by rw [hS1m]; exact hl38) (show S.q.1 - 1 < 40 by omega) (by omega) (show fr + 1 ≤ S.n by omega) hv
  have hn3 : S3.n = S.n := by rw [eS, aTake_n]; rfl
  have hlg3 : (S.m to).log.1 + 1 ≤ (S3.m to).log.1 := by
    have h9 := aTake_log (aHold (aPopQ S) to (row3 fr en ch)) to 1 (fr + 1) v
    rw [← eS, hS1m] at h9; exact h9
  refine lv_aload_n C.x C.b dX4_delivers_0 rfl (lv_at hl 0 rfl) ?_
  refine z_get C hw hB.lt (hB.at _ _) flX4_7 rfl dX4_delivers_1 ?_
  refine lv_sipush (v := 2600) C.x C.b dX4_delivers_4 (by decide) ?_
  refine z_iald C hw hB.ltn hB.now (zvin (x := 2600) (by omega) (by omega)) dX4_delivers_7 ?_
  refine z_topi (y := z.1 273 2600) (congrArg (z.1 273) (zcl (x := 2600) (n := 2921) (by omega) (by omega))) ?_
  refine z_topi (y := nI to) (g0) ?_
  refine lv_istore_n (lv' := [(1, .int (nI to)), (0, .ref (G.h + 272))]) C.x C.b dX4_delivers_8 rfl hl (by decide) rfl (fun ls hl => ?_)
  refine lv_aload_n C.x C.b dX4_delivers_9 rfl (lv_at hl 1 rfl) ?_
  refine z_get C hw hB.lt (hB.at _ _) flX4_7 rfl dX4_delivers_10 ?_
  refine lv_sipush (v := 2601) C.x C.b dX4_delivers_13 (by decide) ?_
  refine z_iald C hw hB.ltn hB.now (zvin (x := 2601) (by omega) (by omega)) dX4_delivers_16 ?_
  refine z_topi (y := z.1 273 2601) (congrArg (z.1 273) (zcl (x := 2601) (n := 2921) (by omega) (by omega))) ?_
  refine z_topi (y := nI fr) (g1) ?_
  refine lv_istore_n (lv' := [(2, .int (nI fr)), (1, .int (nI to)), (0, .ref (G.h + 272))]) C.x C.b dX4_delivers_17 rfl hl (by decide) rfl (fun ls hl => ?_)
  refine lv_aload_n C.x C.b dX4_delivers_18 rfl (lv_at hl 2 rfl) ?_
  refine z_get C hw hB.lt (hB.at _ _) flX4_7 rfl dX4_delivers_19 ?_
  refine lv_sipush (v := 2602) C.x C.b dX4_delivers_22 (by decide) ?_
  refine z_iald C hw hB.ltn hB.now (zvin (x := 2602) (by omega) (by omega)) dX4_delivers_25 ?_
  refine z_topi (y := z.1 273 2602) (congrArg (z.1 273) (zcl (x := 2602) (n := 2921) (by omega) (by omega))) ?_
  refine z_topi (y := nI v) (g2) ?_
  refine lv_istore_n (lv' := [(3, .int (nI v)), (2, .int (nI fr)), (1, .int (nI to)), (0, .ref (G.h + 272))]) C.x C.b dX4_delivers_26 rfl hl (by decide) rfl (fun ls hl => ?_)
  refine lv_aload_n C.x C.b dX4_delivers_27 rfl (lv_at hl 3 rfl) ?_
  refine z_get C hw hB.lt (hB.at _ _) flX4_7 rfl dX4_delivers_28 ?_
  refine lv_sipush (v := 2603) C.x C.b dX4_delivers_31 (by decide) ?_
  refine z_iald C hw hB.ltn hB.now (zvin (x := 2603) (by omega) (by omega)) dX4_delivers_34 ?_
  refine z_topi (y := z.1 273 2603) (congrArg (z.1 273) (zcl (x := 2603) (n := 2921) (by omega) (by omega))) ?_
  refine z_topi (y := nI en) (g3) ?_
  refine z_pc (pc2 := 35) rfl ?_
  refine lv_istore (lv' := [(4, .int (nI en)), (3, .int (nI v)), (2, .int (nI fr)), (1, .int (nI to)), (0, .ref (G.h + 272))]) C.x C.b dX4_delivers_35 hl (by decide) rfl (fun ls hl => ?_)
  refine lv_aload_n C.x C.b dX4_delivers_37 rfl (lv_at hl 4 rfl) ?_
  refine z_get C hw hB.lt (hB.at _ _) flX4_7 rfl dX4_delivers_38 ?_
  refine lv_sipush (v := 2604) C.x C.b dX4_delivers_41 (by decide) ?_
  refine z_iald C hw hB.ltn hB.now (zvin (x := 2604) (by omega) (by omega)) dX4_delivers_44 ?_
  refine z_topi (y := z.1 273 2604) (congrArg (z.1 273) (zcl (x := 2604) (n := 2921) (by omega) (by omega))) ?_
  refine z_topi (y := nI ch) (g4) ?_
  refine lv_istore (lv' := [(5, .int (nI ch)), (4, .int (nI en)), (3, .int (nI v)), (2, .int (nI fr)), (1, .int (nI to)), (0, .ref (G.h + 272))]) C.x C.b dX4_delivers_45 hl (by decide) rfl (fun ls hl => ?_)
  refine lv_aload_n C.x C.b dX4_delivers_47 rfl (lv_at hl 5 rfl) ?_
  refine z_get C hw hB.lt (hB.at _ _) flX4_7 rfl dX4_delivers_48 ?_
  refine lv_sipush (v := 2599) C.x C.b dX4_delivers_51 (by decide) ?_
  refine lv_dup2_11 C.x C.b dX4_delivers_54 rfl rfl ?_
  refine z_iald C hw hB.ltn hB.now (zvin (x := 2599) (by omega) (by omega)) dX4_delivers_55 ?_
  refine z_topi (y := z.1 273 2599) (congrArg (z.1 273) (zcl (x := 2599) (n := 2921) (by omega) (by omega))) ?_
  refine z_topi (y := nI S.q.1) (hM.q.2.1) ?_
  refine lv_iconst (v := 1) C.x C.b dX4_delivers_56 (by decide) ?_
  refine lv_isub C.x C.b dX4_delivers_57 ?_
  refine z_topi (y := nI (S.q.1 - 1)) (by rw [zlit 1, zsub h0]) ?_
  refine z_iast C hw hB.ltn hB.now (zvin (x := 2599) (by omega) (by omega)) dX4_delivers_58 (fun H locs hw => ?_)
  have e8 : (2599 : Int32).toNatClampNeg = 2599 := zcl (x := 2599) (n := 2921) (by omega) (by omega)
  rw [e8] at hw
  obtain ⟨z_1, ez_1⟩ : ∃ q_9, q_9 = zi z 273 2599 (nI (S.q.1 - 1)) := ⟨_, rfl⟩
  have hw : zS G N Λ z_1 sS H locs := by rw [ez_1]; exact hw
  refine lv_iconst (v := 0) C.x C.b dX4_delivers_59 (by decide) ?_
  refine lv_istore (lv' := [(6, .int 0), (5, .int (nI ch)), (4, .int (nI en)), (3, .int (nI v)), (2, .int (nI fr)), (1, .int (nI to)), (0, .ref (G.h + 272))]) C.x C.b dX4_delivers_60 hl (by decide) rfl (fun ls hl => ?_)
  have loop : ∀ (d : Nat) (j : Nat) (H : Heap) (locs : List Loc) (ls : Array Slot) (hj : j + d = 5 * (S.q.1 - 1)), zS G N Λ (msh z_1 2600 5 j) sS H locs → lv_has ls 7 [(0, .ref (G.h + 272)), (1, .int (nI to)), (2, .int (nI fr)), (3, .int (nI v)), (4, .int (nI en)), (5, .int (nI ch)), (6, .int (nI j))] → W pP l eE (zR 5) sS mM ([.ref (G.h + 272)] : List Value).toArray bB tT cC H locs 0 0 (MQ bB (zQc G N Λ none (mHd (mtk (mHd (mqp z S.q.1) to (S.m to).held.1 (nI fr) (nI en) (nI ch)) to S.n (S.m to).st (S.m to).lie (S.q.1 - 1) (S.m to).log 1 (fr + 1) v) fr (S3.m fr).held.1 (nI to) (nI (S.m to).log.1) (nI (CH (S3.m to).log.2 ((S.m to).log.1 + 1))))) ([.ref (G.h + 272)] : List Value).toArray sS 0 0 (zA G)) (F0 mM 62 ls []) := by
    intro d
    induction d with
    | zero =>
      intro j H locs ls hj hw hl
      refine lv_iload C.x C.b dX4_delivers_62 (lv_at hl 6 rfl) ?_
      refine lv_iconst (v := 5) C.x C.b dX4_delivers_64 (by decide) ?_
      refine lv_aload_n C.x C.b dX4_delivers_65 rfl (lv_at hl 0 rfl) ?_
      refine z_get C hw hB.lt (hB.at _ _) flX4_7 rfl dX4_delivers_66 ?_
      refine lv_sipush (v := 2599) C.x C.b dX4_delivers_69 (by decide) ?_
      refine z_iald C hw hB.ltn hB.now (zvin (x := 2599) (by omega) (by omega)) dX4_delivers_72 ?_
      refine z_topi (y := (msh z_1 2600 5 j).1 273 2599) (congrArg ((msh z_1 2600 5 j).1 273) (zcl (x := 2599) (n := 2921) (by omega) (by omega))) ?_
      refine z_topi (y := nI (S.q.1 - 1)) (by rw [msh_at, if_neg (by omega), ez_1, zi_at, if_pos ⟨rfl, rfl⟩]) ?_
      refine lv_imul C.x C.b dX4_delivers_73 ?_
      refine z_topi (y := nI (5 * (S.q.1 - 1))) (by rw [zlit 5, pk_mul]) ?_
      refine lv_icmp_ge (tgt := 107) C.x C.b dX4_delivers_74 (by decide) (fun c_74 => ?_) (fun c_74 => absurd (zle (by omega) (by omega)) c_74)
      have hjn : j = 5 * (S.q.1 - 1) := by omega
      obtain ⟨z_2, ez_2⟩ : ∃ q_9, q_9 = mqp z S.q.1 := ⟨_, rfl⟩
      have hw : zS G N Λ z_2 sS H locs := by rw [ez_2]; rw [hjn, ez_1] at hw; exact hw
      rw [← ez_2] at hM2 hmt2
      refine lv_aload_n C.x C.b dX4_delivers_107 rfl (lv_at hl 0 rfl) ?_
      refine lv_iload_n C.x C.b dX4_delivers_108 rfl (lv_at hl 1 rfl) ?_
      refine lv_iconst (v := 1) C.x C.b dX4_delivers_109 (by decide) ?_
      refine z_Vv (As := [.int (nI to), .int 1]) (rest := []) C hw hl (m_X4_get hO _ hB (o := 1) (mat_lt2 ht6 (by omega))) ivX4_40 hB.lt (hB.at _ _) rfl rfl ⟨(Nat.le_of_ble_eq_true rfl), (Nat.le_of_ble_eq_true rfl)⟩ (Nat.le_of_ble_eq_true rfl) ⟨Nat.zero_le _, Nat.zero_le _⟩ dX4_delivers_110 (fun H locs hw => ?_)
      refine z_topi (y := nI (S.m to).sil) (hmt2.1.2.1) ?_
      refine lv_iconst (v := 1) C.x C.b dX4_delivers_113 (by decide) ?_
      refine lv_icmp_ne (tgt := 176) C.x C.b dX4_delivers_114 (by decide) (fun c_114 => ?_) (fun c_114 => absurd (hs ▸ c_114) (by decide))
      refine lv_aload_n C.x C.b dX4_delivers_176 rfl (lv_at hl 0 rfl) ?_
      refine lv_iload_n C.x C.b dX4_delivers_177 rfl (lv_at hl 1 rfl) ?_
      refine lv_iload_n C.x C.b dX4_delivers_178 rfl (lv_at hl 2 rfl) ?_
      refine lv_iload C.x C.b dX4_delivers_179 (lv_at hl 4 rfl) ?_
      refine lv_iload C.x C.b dX4_delivers_181 (lv_at hl 5 rfl) ?_
      refine z_pc (pc2 := 183) rfl ?_
      refine z_V0 (As := [.int (nI to), .int (nI fr), .int (nI en), .int (nI ch)]) (rest := []) C hw hl (m_X4_holdT hO _ hB ht6 hmt2.2.2.1.2.1 hot.held.1) ivX4_94 hB.lt (hB.at _ _) rfl rfl ⟨(Nat.le_of_ble_eq_true rfl), (Nat.le_of_ble_eq_true rfl)⟩ (Nat.le_of_ble_eq_true rfl) ⟨Nat.zero_le _, Nat.zero_le _⟩ dX4_delivers_183 (fun H locs hw => ?_)
      obtain ⟨z_3, ez_3⟩ : ∃ q_9, q_9 = mHd z_2 to (S.m to).held.1 (nI fr) (nI en) (nI ch) := ⟨_, rfl⟩
      have hw : zS G N Λ z_3 sS H locs := by rw [ez_3]; exact hw
      have hM3 : mS z_3 (aHold (aPopQ S) to (row3 fr en ch)) := by rw [ez_3]; exact (mhold_S hM2 (x := to) hto fr en ch).1
      have hmt3 := hM3.m (x := to) hto
      rw [hS1m] at hmt3
      refine lv_aload_n C.x C.b dX4_delivers_186 rfl (lv_at hl 0 rfl) ?_
      refine lv_iload_n C.x C.b dX4_delivers_187 rfl (lv_at hl 1 rfl) ?_
      refine lv_iconst (v := 4) C.x C.b dX4_delivers_188 (by decide) ?_
      refine z_Vv (As := [.int (nI to), .int 4]) (rest := []) C hw hl (m_X4_get hO _ hB (o := 4) (mat_lt2 ht6 (by omega))) ivX4_40 hB.lt (hB.at _ _) rfl rfl ⟨(Nat.le_of_ble_eq_true rfl), (Nat.le_of_ble_eq_true rfl)⟩ (Nat.le_of_ble_eq_true rfl) ⟨Nat.zero_le _, Nat.zero_le _⟩ dX4_delivers_189 (fun H locs hw => ?_)
      refine z_topi (y := nI (S.m to).log.1) (hmt3.2.1.2.1) ?_
      refine lv_istore (lv' := [(6, .int (nI (S.m to).log.1)), (0, .ref (G.h + 272)), (1, .int (nI to)), (2, .int (nI fr)), (3, .int (nI v)), (4, .int (nI en)), (5, .int (nI ch))]) C.x C.b dX4_delivers_192 hl (by decide) rfl (fun ls hl => ?_)
      refine lv_aload_n C.x C.b dX4_delivers_194 rfl (lv_at hl 1 rfl) ?_
      refine lv_iload_n C.x C.b dX4_delivers_195 rfl (lv_at hl 2 rfl) ?_
      refine lv_iconst (v := 1) C.x C.b dX4_delivers_196 (by decide) ?_
      refine lv_iload_n C.x C.b dX4_delivers_197 rfl (lv_at hl 3 rfl) ?_
      refine z_topi (y := pI (fr + 1)) ((pI_s _).symm) ?_
      refine lv_iload_n C.x C.b dX4_delivers_198 rfl (lv_at hl 4 rfl) ?_
      refine z_V0 (As := [.int (nI to), .int 1, .int (pI (fr + 1)), .int (nI v)]) (rest := []) C hw hl (m_X4_takes hO _ hB hS.n2 hn6 hto ht6 hM3.n hmt3.1.1 hot.st hmt3.1.2.2.1 hot.lie hmt3.2.1 hot.log hl38 (qk := S.q.1 - 1) hM3.q.2.1 (by omega) (a := 1) (q := fr + 1) (v := v) (by omega) (by omega) hv) ivX4_98 hB.lt (hB.at _ _) rfl rfl ⟨(Nat.le_of_ble_eq_true rfl), (Nat.le_of_ble_eq_true rfl)⟩ (Nat.le_of_ble_eq_true rfl) ⟨Nat.zero_le _, Nat.zero_le _⟩ dX4_delivers_199 (fun H locs hw => ?_)
      obtain ⟨z_4, ez_4⟩ : ∃ q_9, q_9 = mtk z_3 to S.n (S.m to).st (S.m to).lie (S.q.1 - 1) (S.m to).log 1 (fr + 1) v := ⟨_, rfl⟩
      have hw : zS G N Λ z_4 sS H locs := by rw [ez_4]; exact hw
      have hM4 : mS z_4 S3 := by
        have h9 := (mtk_S hM3 (x := to) hto (by rw [hS1m]; exact hl38) (show S.q.1 - 1 < 40 by omega) 1 (fr + 1) v).1
        rw [hS1m, ← eS] at h9
        rw [ez_4]; exact h9
      have hmt4 := hM4.m (x := to) (by rw [hn3]; exact hto)
      have hmf4 := hM4.m (x := fr) (by rw [hn3]; exact hfr)
      have hof4 := hS3.m (x := fr) (by rw [hn3]; exact hfr)
      have hot4 := hS3.m (x := to) (by rw [hn3]; exact hto)
      have hr4 := hot4.log.row (by rw [hn3]; exact hn6)
      refine lv_aload_n C.x C.b dX4_delivers_202 rfl (lv_at hl 1 rfl) ?_
      refine lv_iload_n C.x C.b dX4_delivers_203 rfl (lv_at hl 3 rfl) ?_
      refine lv_iload_n C.x C.b dX4_delivers_204 rfl (lv_at hl 2 rfl) ?_
      refine lv_iload C.x C.b dX4_delivers_205 (lv_at hl 0 rfl) ?_
      refine lv_aload_n C.x C.b dX4_delivers_207 rfl (lv_at hl 1 rfl) ?_
      refine lv_iload_n C.x C.b dX4_delivers_208 rfl (lv_at hl 2 rfl) ?_
      refine lv_iload C.x C.b dX4_delivers_209 (lv_at hl 0 rfl) ?_
      refine lv_iconst (v := 1) C.x C.b dX4_delivers_211 (by decide) ?_
      refine z_pc (pc2 := 212) rfl ?_
      refine lv_iadd C.x C.b dX4_delivers_212 ?_
      refine z_topi (y := nI ((S.m to).log.1 + 1)) (nI_1 _) ?_
      refine z_Vv (As := [.int (nI to), .int (nI ((S.m to).log.1 + 1))]) (rest := [.int (nI (S.m to).log.1), .int (nI to), .int (nI fr), .ref (G.h + 272)]) C hw hl (m_X4_chainAt hO _ hB ht6 (i := (S.m to).log.1 + 1) (by omega) (r := (S3.m to).log.2) (fun j hj => hmt4.2.1.2.2 j (by omega)) (fun j hj => hr4 j (by omega))) ivX4_84 hB.lt (hB.at _ _) rfl rfl ⟨(Nat.le_of_ble_eq_true rfl), (Nat.le_of_ble_eq_true rfl)⟩ (Nat.le_of_ble_eq_true rfl) ⟨Nat.zero_le _, Nat.zero_le _⟩ dX4_delivers_213 (fun H locs hw => ?_)
      refine z_V0 (As := [.int (nI fr), .int (nI to), .int (nI (S.m to).log.1), .int (nI (CH (S3.m to).log.2 ((S.m to).log.1 + 1)))]) (rest := []) C hw hl (m_X4_holdT hO _ hB hf6 hmf4.2.2.1.2.1 hof4.held.1) ivX4_94 hB.lt (hB.at _ _) rfl rfl ⟨(Nat.le_of_ble_eq_true rfl), (Nat.le_of_ble_eq_true rfl)⟩ (Nat.le_of_ble_eq_true rfl) ⟨Nat.zero_le _, Nat.zero_le _⟩ dX4_delivers_216 (fun H locs hw => ?_)
      obtain ⟨z_5, ez_5⟩ : ∃ q_9, q_9 = mHd z_4 fr (S3.m fr).held.1 (nI to) (nI (S.m to).log.1) (nI (CH (S3.m to).log.2 ((S.m to).log.1 + 1))) := ⟨_, rfl⟩
      have hw : zS G N Λ z_5 sS H locs := by rw [ez_5]; exact hw
      exact z_vret C hw dX4_delivers_219 (rfl) (by rw [ez_5, ez_4, ez_3, ez_2])
    | succ d ih =>
      intro j H locs ls hj hw hl
      refine lv_iload C.x C.b dX4_delivers_62 (lv_at hl 6 rfl) ?_
      refine lv_iconst (v := 5) C.x C.b dX4_delivers_64 (by decide) ?_
      refine lv_aload_n C.x C.b dX4_delivers_65 rfl (lv_at hl 0 rfl) ?_
      refine z_get C hw hB.lt (hB.at _ _) flX4_7 rfl dX4_delivers_66 ?_
      refine lv_sipush (v := 2599) C.x C.b dX4_delivers_69 (by decide) ?_
      refine z_iald C hw hB.ltn hB.now (zvin (x := 2599) (by omega) (by omega)) dX4_delivers_72 ?_
      refine z_topi (y := (msh z_1 2600 5 j).1 273 2599) (congrArg ((msh z_1 2600 5 j).1 273) (zcl (x := 2599) (n := 2921) (by omega) (by omega))) ?_
      refine z_topi (y := nI (S.q.1 - 1)) (by rw [msh_at, if_neg (by omega), ez_1, zi_at, if_pos ⟨rfl, rfl⟩]) ?_
      refine lv_imul C.x C.b dX4_delivers_73 ?_
      refine z_topi (y := nI (5 * (S.q.1 - 1))) (by rw [zlit 5, pk_mul]) ?_
      refine lv_icmp_ge (tgt := 107) C.x C.b dX4_delivers_74 (by decide) (fun c_74 => absurd c_74 (znle (by omega) (by omega))) (fun c_74 => ?_)
      refine lv_aload_n C.x C.b dX4_delivers_77 rfl (lv_at hl 0 rfl) ?_
      refine z_get C hw hB.lt (hB.at _ _) flX4_7 rfl dX4_delivers_78 ?_
      refine lv_sipush (v := 2600) C.x C.b dX4_delivers_81 (by decide) ?_
      refine lv_iload C.x C.b dX4_delivers_84 (lv_at hl 6 rfl) ?_
      refine lv_iadd C.x C.b dX4_delivers_86 ?_
      refine z_topi (y := nI (2600 + j)) (by rw [zlit 2600, nI_add]) ?_
      refine lv_aload_n C.x C.b dX4_delivers_87 rfl (lv_at hl 0 rfl) ?_
      refine z_get C hw hB.lt (hB.at _ _) flX4_7 rfl dX4_delivers_88 ?_
      refine lv_sipush (v := 2600) C.x C.b dX4_delivers_91 (by decide) ?_
      refine lv_iload C.x C.b dX4_delivers_94 (lv_at hl 6 rfl) ?_
      refine lv_iadd C.x C.b dX4_delivers_96 ?_
      refine lv_iconst (v := 5) C.x C.b dX4_delivers_97 (by decide) ?_
      refine z_pc (pc2 := 98) rfl ?_
      refine lv_iadd C.x C.b dX4_delivers_98 ?_
      refine z_topi (y := nI (2600 + j + 5)) (by rw [zlit 2600, zlit 5, nI_add, nI_add]) ?_
      refine z_iald C hw hB.ltn hB.now (zvin (x := 2600 + j + 5) (by omega) (by omega)) dX4_delivers_99 ?_
      refine z_topi (y := (msh z_1 2600 5 j).1 273 (2600 + j + 5)) (congrArg ((msh z_1 2600 5 j).1 273) (zcl (x := 2600 + j + 5) (n := 2921) (by omega) (by omega))) ?_
      refine z_iast C hw hB.ltn hB.now (zvin (x := 2600 + j) (by omega) (by omega)) dX4_delivers_100 (fun H locs hw => ?_)
      have e8 : (nI (2600 + j)).toNatClampNeg = (2600 + j) := zcl (x := 2600 + j) (n := 2921) (by omega) (by omega)
      rw [e8] at hw
      obtain ⟨z_6, ez_6⟩ : ∃ q_9, q_9 = zi (msh z_1 2600 5 j) 273 (2600 + j) ((msh z_1 2600 5 j).1 273 (2600 + j + 5)) := ⟨_, rfl⟩
      have hw : zS G N Λ z_6 sS H locs := by rw [ez_6]; exact hw
      refine lv_iinc (v := nI j + 1) (lv' := [(6, .int (nI j + 1)), (0, .ref (G.h + 272)), (1, .int (nI to)), (2, .int (nI fr)), (3, .int (nI v)), (4, .int (nI en)), (5, .int (nI ch))]) C.x C.b dX4_delivers_101 hl (k := 6) rfl rfl (by decide) rfl (fun ls hl => ?_)
      have hl : lv_has ls 7 [(6, .int (nI (j + 1))), (0, .ref (G.h + 272)), (1, .int (nI to)), (2, .int (nI fr)), (3, .int (nI v)), (4, .int (nI en)), (5, .int (nI ch))] := by
        have e9 : nI j + 1 = nI (j + 1) := nI_1 j
        rw [← e9]; exact hl
      refine lv_goto (tgt := 62) C.x C.b dX4_delivers_104 (by decide) ?_
      exact ih (j + 1) _ _ _ (by omega) (by rw [ez_6, msh_step] at hw; exact hw) (lv_sub hl [1, 2, 3, 4, 5, 6, 0] rfl)
  exact loop (5 * (S.q.1 - 1)) 0 _ _ _ (by omega) (by rw [msh_0]; exact hw) (lv_sub hl [6, 5, 4, 3, 2, 1, 0] rfl)

theorem m_X4_delivers {G : zG} {N : Nat} {Λ : zLay} {l : Launch} (hO : zOK G l) (z : zM) (hB : zMo G N Λ) {S : aS} (hM : mS z S) (hS : aOK S) (hc : aCan S = true) : ∃ z', (mS z' (aDel S) ∧ mfr z z' 0 2921) ∧ zMet G N Λ l yX4_delivers cX4_delivers 7 none 5 [.ref (G.h + 272)] z none z' := by
  obtain ⟨h0, hc⟩ := aCan_iff.mp hc
  have hn6 := hS.n6
  have hmq := hS.q.2 0 h0
  have hot := hS.m hmq.2.2.2.1
  have hq40 := hS.q.1
  obtain ⟨hM2, hf2⟩ := mpop_S hM h0
  by_cases hs : (S.m (S.q.2 0 3)).sil = 0
  · have hl : (S.m (S.q.2 0 3)).log.1 ≤ 38 := hc.elim (fun q => absurd hs q) id
    refine ⟨_, ?_, m_X4_deliver_n hO z hB hM hS h0 rfl rfl rfl rfl rfl hs hl rfl⟩
    obtain ⟨hM3, hf3⟩ := mhold_S hM2 (x := S.q.2 0 3) hmq.2.2.2.1 (S.q.2 0 0) (S.q.2 0 1) (S.q.2 0 2)
    have hS1m : (aHold (aPopQ S) (S.q.2 0 3) (row3 (S.q.2 0 0) (S.q.2 0 1) (S.q.2 0 2))).m (S.q.2 0 3) = (S.m (S.q.2 0 3)).setHeld (thold (S.m (S.q.2 0 3)).held (row3 (S.q.2 0 0) (S.q.2 0 1) (S.q.2 0 2))) := aS.setM_s _ _ _
    obtain ⟨hM4, hf4⟩ := mtk_S hM3 (x := S.q.2 0 3) hmq.2.2.2.1 (by rw [hS1m]; exact hl) (show S.q.1 - 1 < 40 by omega) 1 (S.q.2 0 0 + 1) (S.q.2 0 4)
    have hn3 := aTake_n (aHold (aPopQ S) (S.q.2 0 3) (row3 (S.q.2 0 0) (S.q.2 0 1) (S.q.2 0 2))) (S.q.2 0 3) 1 (S.q.2 0 0 + 1) (S.q.2 0 4)
    obtain ⟨hM5, hf5⟩ := mhold_S hM4 (x := S.q.2 0 0) (by rw [hn3]; exact hmq.1) (S.q.2 0 3) (S.m (S.q.2 0 3)).log.1 (CH ((aTake (aHold (aPopQ S) (S.q.2 0 3) (row3 (S.q.2 0 0) (S.q.2 0 1) (S.q.2 0 2))) (S.q.2 0 3) 1 (S.q.2 0 0 + 1) (S.q.2 0 4)).m (S.q.2 0 3)).log.2 ((S.m (S.q.2 0 3)).log.1 + 1))
    have hf := ((hf2.tr hf3).tr hf4).tr hf5
    rw [hS1m] at hM5 hf
    refine ⟨?_, hf⟩
    unfold aDel
    rw [if_pos hs]
    exact hM5
  · refine ⟨_, ?_, m_X4_deliver_s hO z hB hM hS h0 rfl rfl rfl rfl rfl hs⟩
    obtain ⟨hM3, hf3⟩ := mpend_S hM2 (x := S.q.2 0 3) hmq.2.2.2.1 (S.q.2 0)
    refine ⟨?_, hf2.tr hf3⟩
    unfold aDel
    rw [if_neg hs]
    exact hM3
