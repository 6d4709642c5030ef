theorem m_pnd {G : zG} {N : Nat} {Λ : zLay} {l : Launch} (hO : zOK G l) (z : zM) {b : Nat} (hW : zWo G N Λ b) {x k qk : Nat} (hx : x < 6) (hk : z.1 (b + 2 + 8 * x + 6) 3 = nI k) (hk2 : k ≤ 40) (hq : z.1 (b + 50) 3 = nI qk) (hq2 : qk ≤ 40) (h0 : 0 < qk) : zMet G N Λ l yX1_addCopy cX1_addCopy 5 none 1 [.ref (G.h + (b + 2 + 8 * x + 6)), .ref (G.h + (b + 50)), .int 0] z none (pndz z b x k) := by
  unfold pndz
  by_cases h4 : k < 40
  · rw [if_pos h4]
    exact m_X1_addCopy hO z (hW.m hx).pend hW.queue (by omega) hk h4 hq hq2 (r := 0) h0
  · rw [if_neg h4]
    have h5 : k = 40 := by omega
    subst h5
    exact m_X1_addCopy_full hO z (hW.m hx).pend hW.queue hk hq hq2 (r := 0) h0
theorem aTake_log (S : aS) (x a q v : Nat) : (S.m x).log.1 + 1 ≤ ((aTake S x a q v).m x).log.1 := by
  unfold aTake
  split
  · have h1 : ((aSend (aTk1 S x a q v) x).m x) = ((((aTk1 S x a q v).m x).setLie 0).setLog (tpush ((aTk1 S x a q v).m x).log (row3 2 (gt x ((aTk1 S x a q v).m x).st (aTk1 S x a q v).n + 1) ((((aTk1 S x a q v).m x).st % 1000 + ((aTk1 S x a q v).m x).lie) % 1000)))) := aS.setM_s _ _ _
    rw [h1]
    show _ ≤ ((aTk1 S x a q v).m x).log.1 + 1
    unfold aTk1
    rw [aS.setM_s]
    show _ ≤ (S.m x).log.1 + 1 + 1
    omega
  · unfold aTk1
    rw [aS.setM_s]
    exact Nat.le_refl _
set_option maxRecDepth 100000 in
set_option maxHeartbeats 4000000 in
theorem m_X2_deliver_s {G : zG} {N : Nat} {Λ : zLay} {l : Launch} (hO : zOK G l) (z : zM) {b : Nat} (hW : zWo G N Λ b) {S : aS} (hI : wI z b S) (hS : aOK S) (h0 : 0 < S.q.1) {to fr en ch v : Nat} (e3 : S.q.2 0 3 = to) (e0 : S.q.2 0 0 = fr) (e1 : S.q.2 0 1 = en) (e2 : S.q.2 0 2 = ch) (e4 : S.q.2 0 4 = v) (hs : ¬ (S.m to).sil = 0) : zMet G N Λ l yX2_deliverFirst cX2_deliverFirst 5 none 5 [.ref (G.h + b)] z none (rmv (pndz z b to (S.m to).pend.1) (b + 50) 5 S.q.1) := by
  refine zMet_of hO (by decide) (Nat.le_of_ble_eq_true rfl) ?_
  intro pP eE sS mM bB tT cC ls C hw hl
  have hl : lv_has ls 5 [(0, .ref (G.h + b))] := hl
  have hn6 := hS.n6
  have hmq := hS.q.2 0 h0
  rw [e0, e1, e2, e3, e4] at hmq
  obtain ⟨hfr, hen, hchl, hto, hv⟩ := hmq
  have ht6 : to < 6 := by omega
  have hf6 : fr < 6 := by omega
  have hmt := hI.m hto
  have hot := hS.m hto
  have hq40 := hS.q.1
  have hsi := hot.sil
  refine lv_aload_n C.x C.b dX2_deliverFirst_0 rfl (lv_at hl 0 rfl) ?_
  refine z_get C hw hW.lt (hW.at _ _) flX2_11 rfl dX2_deliverFirst_1 ?_
  refine lv_aload_n C.x C.b dX2_deliverFirst_4 rfl (lv_at hl 0 rfl) ?_
  refine z_get C hw hW.lt (hW.at _ _) flX2_25 rfl dX2_deliverFirst_5 ?_
  refine lv_iconst (v := 0) C.x C.b dX2_deliverFirst_8 (by decide) ?_
  refine lv_iconst (v := 3) C.x C.b dX2_deliverFirst_9 (by decide) ?_
  refine z_Vv (As := [.int 0, .int 3]) (rest := [.ref (G.h + (b + 1))]) C hw hl (m_X1_get hO _ hW.queue hI.q.1 hS.q.1 (r := 0) (c := 3) h0 (by omega)) ivX2_98 hW.queue.lt (hW.queue.at _ _) rfl rfl ⟨(Nat.le_of_ble_eq_true rfl), (Nat.le_of_ble_eq_true rfl)⟩ (Nat.le_of_ble_eq_true rfl) ⟨Nat.zero_le _, Nat.zero_le _⟩ dX2_deliverFirst_10 (fun H locs hw => ?_)
  refine z_topi (y := nI to) (by rw [← e3]; exact hI.q.2 0 h0 3 (by omega)) ?_
  refine z_aaldM (a := G.h + (b + 2 + 8 * to)) C hw hW.lt1 hW.ma (zvin ht6 (by omega)) (by rw [zcl ht6 (by omega)]) dX2_deliverFirst_13 ?_
  refine lv_astore_n (lv' := [(1, .ref (G.h + (b + 2 + 8 * to))), (0, .ref (G.h + b))]) C.x C.b dX2_deliverFirst_14 rfl hl (by decide) rfl (fun ls hl => ?_)
  refine lv_aload_n C.x C.b dX2_deliverFirst_15 rfl (lv_at hl 0 rfl) ?_
  refine z_get C hw (hW.m ht6).lt ((hW.m ht6).at _ _) flX2_108 rfl dX2_deliverFirst_16 ?_
  refine z_topi (y := nI (S.m to).sil) (hmt.1.2.1) ?_
  refine lv_if_eq (tgt := 42) C.x C.b dX2_deliverFirst_19 (by decide) (fun c_19 => absurd c_19 (fun q => hs (zzero (by omega) q))) (fun c_19 => ?_)
  refine lv_aload_n C.x C.b dX2_deliverFirst_22 rfl (lv_at hl 0 rfl) ?_
  refine z_get C hw (hW.m ht6).lt ((hW.m ht6).at _ _) flX2_114 rfl dX2_deliverFirst_23 ?_
  refine lv_aload_n C.x C.b dX2_deliverFirst_26 rfl (lv_at hl 1 rfl) ?_
  refine z_get C hw hW.lt (hW.at _ _) flX2_25 rfl dX2_deliverFirst_27 ?_
  refine lv_iconst (v := 0) C.x C.b dX2_deliverFirst_30 (by decide) ?_
  refine z_V0 (As := [.ref (G.h + (b + 50)), .int 0]) (rest := []) C hw hl (m_pnd hO _ hW ht6 hmt.2.2.2.2.1 hot.pend.1 hI.q.1 hq40 h0) ivX2_117 (hW.m ht6).pend.lt ((hW.m ht6).pend.at _ _) rfl rfl ⟨(Nat.le_of_ble_eq_true rfl), (Nat.le_of_ble_eq_true rfl)⟩ (Nat.le_of_ble_eq_true rfl) ⟨Nat.zero_le _, Nat.zero_le _⟩ dX2_deliverFirst_31 (fun H locs hw => ?_)
  obtain ⟨z_1, ez_1⟩ : ∃ q_9, q_9 = pndz z b to (S.m to).pend.1 := ⟨_, rfl⟩
  have hw : zS G N Λ z_1 sS H locs := by rw [ez_1]; exact hw
  refine lv_aload_n C.x C.b dX2_deliverFirst_34 rfl (lv_at hl 1 rfl) ?_
  refine z_pc (pc2 := 35) rfl ?_
  refine z_get C hw hW.lt (hW.at _ _) flX2_25 rfl dX2_deliverFirst_35 ?_
  have hI1 := (pnd_wI hI hto hn6 hot.log.1 hot.held.1 hot.pend.1 h0).1
  rw [← ez_1] at hI1
  refine z_V0 (As := []) (rest := []) C hw hl (m_X1_removeFirst hO _ hW.queue (k := S.q.1) hI1.q.1 hq40 h0) ivX2_121 hW.queue.lt (hW.queue.at _ _) rfl rfl ⟨(Nat.le_of_ble_eq_true rfl), (Nat.le_of_ble_eq_true rfl)⟩ (Nat.le_of_ble_eq_true rfl) ⟨Nat.zero_le _, Nat.zero_le _⟩ dX2_deliverFirst_38 (fun H locs hw => ?_)
  obtain ⟨z_2, ez_2⟩ : ∃ q_9, q_9 = rmv z_1 (b + 50) 5 S.q.1 := ⟨_, rfl⟩
  have hw : zS G N Λ z_2 sS H locs := by rw [ez_2]; exact hw
  exact z_vret C hw dX2_deliverFirst_41 (rfl) (by rw [ez_2, ez_1])

set_option maxRecDepth 100000 in
set_option maxHeartbeats 4000000 in
theorem m_X2_deliver_n {G : zG} {N : Nat} {Λ : zLay} {l : Launch} (hO : zOK G l) (z : zM) {b : Nat} (hW : zWo G N Λ b) {S : aS} (hI : wI z b S) (hS : aOK S) (h0 : 0 < S.q.1) {to fr en ch v : Nat} (e3 : S.q.2 0 3 = to) (e0 : S.q.2 0 0 = fr) (e1 : S.q.2 0 1 = en) (e2 : S.q.2 0 2 = ch) (e4 : S.q.2 0 4 = v) (hs : (S.m to).sil = 0) (hl38 : (S.m to).log.1 ≤ 38) {S3 : aS} (eS : S3 = aTake (aPopQ (aHold S to (row3 fr en ch))) to 1 (fr + 1) v) : zMet G N Λ l yX2_deliverFirst cX2_deliverFirst 5 none 5 [.ref (G.h + b)] z none (hdz (tkz (rmv (hdz z (b + 2 + 8 * to + 4) (S.m to).held.1 (nI fr) (nI en) (nI ch)) (b + 50) 5 S.q.1) b to S.n (S.m to).st (S.m to).lie (S.q.1 - 1) (S.m to).log 1 (fr + 1) v) (b + 2 + 8 * fr + 4) (S3.m fr).held.1 (nI to) (nI (S.m to).log.1) (nI (CH (S3.m to).log.2 ((S.m to).log.1 + 1)))) := by
  refine zMet_of hO (by decide) (Nat.le_of_ble_eq_true rfl) ?_
  intro pP eE sS mM bB tT cC ls C hw hl
  have hl : lv_has ls 5 [(0, .ref (G.h + b))] := hl
  have hn6 := hS.n6
  have hmq := hS.q.2 0 h0
  rw [e0, e1, e2, e3, e4] at hmq
  obtain ⟨hfr, hen, hchl, hto, hv⟩ := hmq
  have ht6 : to < 6 := by omega
  have hf6 : fr < 6 := by omega
  have hmt := hI.m hto
  have hot := hS.m hto
  have hq40 := hS.q.1
  have hsi := hot.sil
  have hS2m : (aPopQ (aHold S to (row3 fr en ch))).m to = (S.m to).setHeld (thold (S.m to).held (row3 fr en ch)) := aS.setM_s _ _ _
  have hS1 : aOK (aHold S to (row3 fr en ch)) := hS.hold hto hfr hen hchl
  have hS2 : aOK (aPopQ (aHold S to (row3 fr en ch))) := hS1.popQ
  have hS3 : aOK S3 := by
    rw [eS]; exact hS2.take (x := to) (a := 1) (q := fr + 1) (v := v) hto (by rw [hS2m]; exact hl38) (show S.q.1 - 1 < 40 by omega) (by omega) (show fr + 1 ≤ S.n by omega) hv
  have hn3 : S3.n = S.n := by rw [eS, aTake_n]; rfl
  have hlg3 : (S.m to).log.1 + 1 ≤ (S3.m to).log.1 := by
    have h9 := aTake_log (aPopQ (aHold S to (row3 fr en ch))) to 1 (fr + 1) v
    rw [← eS, hS2m] at h9; exact h9
  refine lv_aload_n C.x C.b dX2_deliverFirst_0 rfl (lv_at hl 0 rfl) ?_
  refine z_get C hw hW.lt (hW.at _ _) flX2_11 rfl dX2_deliverFirst_1 ?_
  refine lv_aload_n C.x C.b dX2_deliverFirst_4 rfl (lv_at hl 0 rfl) ?_
  refine z_get C hw hW.lt (hW.at _ _) flX2_25 rfl dX2_deliverFirst_5 ?_
  refine lv_iconst (v := 0) C.x C.b dX2_deliverFirst_8 (by decide) ?_
  refine lv_iconst (v := 3) C.x C.b dX2_deliverFirst_9 (by decide) ?_
  refine z_Vv (As := [.int 0, .int 3]) (rest := [.ref (G.h + (b + 1))]) C hw hl (m_X1_get hO _ hW.queue hI.q.1 hS.q.1 (r := 0) (c := 3) h0 (by omega)) ivX2_98 hW.queue.lt (hW.queue.at _ _) rfl rfl ⟨(Nat.le_of_ble_eq_true rfl), (Nat.le_of_ble_eq_true rfl)⟩ (Nat.le_of_ble_eq_true rfl) ⟨Nat.zero_le _, Nat.zero_le _⟩ dX2_deliverFirst_10 (fun H locs hw => ?_)
  refine z_topi (y := nI to) (by rw [← e3]; exact hI.q.2 0 h0 3 (by omega)) ?_
  refine z_aaldM (a := G.h + (b + 2 + 8 * to)) C hw hW.lt1 hW.ma (zvin ht6 (by omega)) (by rw [zcl ht6 (by omega)]) dX2_deliverFirst_13 ?_
  refine lv_astore_n (lv' := [(1, .ref (G.h + (b + 2 + 8 * to))), (0, .ref (G.h + b))]) C.x C.b dX2_deliverFirst_14 rfl hl (by decide) rfl (fun ls hl => ?_)
  refine lv_aload_n C.x C.b dX2_deliverFirst_15 rfl (lv_at hl 0 rfl) ?_
  refine z_get C hw (hW.m ht6).lt ((hW.m ht6).at _ _) flX2_108 rfl dX2_deliverFirst_16 ?_
  refine z_topi (y := nI (S.m to).sil) (hmt.1.2.1) ?_
  refine lv_if_eq (tgt := 42) C.x C.b dX2_deliverFirst_19 (by decide) (fun c_19 => ?_) (fun c_19 => absurd (by rw [hs]; rfl) c_19)
  refine lv_aload_n C.x C.b dX2_deliverFirst_42 rfl (lv_at hl 1 rfl) ?_
  refine z_get C hw hW.lt (hW.at _ _) flX2_11 rfl dX2_deliverFirst_43 ?_
  refine lv_aload_n C.x C.b dX2_deliverFirst_46 rfl (lv_at hl 1 rfl) ?_
  refine z_get C hw hW.lt (hW.at _ _) flX2_25 rfl dX2_deliverFirst_47 ?_
  refine lv_iconst (v := 0) C.x C.b dX2_deliverFirst_50 (by decide) ?_
  refine lv_iconst (v := 0) C.x C.b dX2_deliverFirst_51 (by decide) ?_
  refine z_Vv (As := [.int 0, .int 0]) (rest := [.ref (G.h + (b + 1))]) C hw hl (m_X1_get hO _ hW.queue hI.q.1 hS.q.1 (r := 0) (c := 0) h0 (by omega)) ivX2_98 hW.queue.lt (hW.queue.at _ _) rfl rfl ⟨(Nat.le_of_ble_eq_true rfl), (Nat.le_of_ble_eq_true rfl)⟩ (Nat.le_of_ble_eq_true rfl) ⟨Nat.zero_le _, Nat.zero_le _⟩ dX2_deliverFirst_52 (fun H locs hw => ?_)
  refine z_topi (y := nI fr) (by rw [← e0]; exact hI.q.2 0 h0 0 (by omega)) ?_
  refine z_pc (pc2 := 55) rfl ?_
  refine z_aaldM (a := G.h + (b + 2 + 8 * fr)) C hw hW.lt1 hW.ma (zvin hf6 (by omega)) (by rw [zcl hf6 (by omega)]) dX2_deliverFirst_55 ?_
  refine lv_astore_n (lv' := [(2, .ref (G.h + (b + 2 + 8 * fr))), (1, .ref (G.h + (b + 2 + 8 * to))), (0, .ref (G.h + b))]) C.x C.b dX2_deliverFirst_56 rfl hl (by decide) rfl (fun ls hl => ?_)
  refine lv_aload_n C.x C.b dX2_deliverFirst_57 rfl (lv_at hl 2 rfl) ?_
  refine z_get C hw hW.lt (hW.at _ _) flX2_25 rfl dX2_deliverFirst_58 ?_
  refine lv_iconst (v := 0) C.x C.b dX2_deliverFirst_61 (by decide) ?_
  refine lv_iconst (v := 4) C.x C.b dX2_deliverFirst_62 (by decide) ?_
  refine z_Vv (As := [.int 0, .int 4]) (rest := []) C hw hl (m_X1_get hO _ hW.queue hI.q.1 hS.q.1 (r := 0) (c := 4) h0 (by omega)) ivX2_98 hW.queue.lt (hW.queue.at _ _) rfl rfl ⟨(Nat.le_of_ble_eq_true rfl), (Nat.le_of_ble_eq_true rfl)⟩ (Nat.le_of_ble_eq_true rfl) ⟨Nat.zero_le _, Nat.zero_le _⟩ dX2_deliverFirst_63 (fun H locs hw => ?_)
  refine z_topi (y := nI v) (by rw [← e4]; exact hI.q.2 0 h0 4 (by omega)) ?_
  refine lv_istore_n (lv' := [(3, .int (nI v)), (2, .ref (G.h + (b + 2 + 8 * fr))), (1, .ref (G.h + (b + 2 + 8 * to))), (0, .ref (G.h + b))]) C.x C.b dX2_deliverFirst_66 rfl hl (by decide) rfl (fun ls hl => ?_)
  refine lv_aload_n C.x C.b dX2_deliverFirst_67 rfl (lv_at hl 2 rfl) ?_
  refine lv_aload_n C.x C.b dX2_deliverFirst_68 rfl (lv_at hl 1 rfl) ?_
  refine z_get C hw (hW.m hf6).lt ((hW.m hf6).at _ _) flX2_68 rfl dX2_deliverFirst_69 ?_
  refine lv_aload_n C.x C.b dX2_deliverFirst_72 rfl (lv_at hl 3 rfl) ?_
  refine z_get C hw hW.lt (hW.at _ _) flX2_25 rfl dX2_deliverFirst_73 ?_
  refine lv_iconst (v := 0) C.x C.b dX2_deliverFirst_76 (by decide) ?_
  refine lv_iconst (v := 1) C.x C.b dX2_deliverFirst_77 (by decide) ?_
  refine z_Vv (As := [.int 0, .int 1]) (rest := [.int (nI fr), .ref (G.h + (b + 2 + 8 * to))]) C hw hl (m_X1_get hO _ hW.queue hI.q.1 hS.q.1 (r := 0) (c := 1) h0 (by omega)) ivX2_98 hW.queue.lt (hW.queue.at _ _) rfl rfl ⟨(Nat.le_of_ble_eq_true rfl), (Nat.le_of_ble_eq_true rfl)⟩ (Nat.le_of_ble_eq_true rfl) ⟨Nat.zero_le _, Nat.zero_le _⟩ dX2_deliverFirst_78 (fun H locs hw => ?_)
  refine z_topi (y := nI en) (by rw [← e1]; exact hI.q.2 0 h0 1 (by omega)) ?_
  refine lv_aload_n C.x C.b dX2_deliverFirst_81 rfl (lv_at hl 3 rfl) ?_
  refine z_get C hw hW.lt (hW.at _ _) flX2_25 rfl dX2_deliverFirst_82 ?_
  refine lv_iconst (v := 0) C.x C.b dX2_deliverFirst_85 (by decide) ?_
  refine lv_iconst (v := 2) C.x C.b dX2_deliverFirst_86 (by decide) ?_
  refine z_pc (pc2 := 87) rfl ?_
  refine z_Vv (As := [.int 0, .int 2]) (rest := [.int (nI en), .int (nI fr), .ref (G.h + (b + 2 + 8 * to))]) C hw hl (m_X1_get hO _ hW.queue hI.q.1 hS.q.1 (r := 0) (c := 2) h0 (by omega)) ivX2_98 hW.queue.lt (hW.queue.at _ _) rfl rfl ⟨(Nat.le_of_ble_eq_true rfl), (Nat.le_of_ble_eq_true rfl)⟩ (Nat.le_of_ble_eq_true rfl) ⟨Nat.zero_le _, Nat.zero_le _⟩ dX2_deliverFirst_87 (fun H locs hw => ?_)
  refine z_topi (y := nI ch) (by rw [← e2]; exact hI.q.2 0 h0 2 (by omega)) ?_
  refine z_V0 (As := [.int (nI fr), .int (nI en), .int (nI ch)]) (rest := []) C hw hl (m_X0_holdT hO _ (hW.m ht6) hmt.2.2.2.1.1 hot.held.1) ivX2_124 (hW.m ht6).lt ((hW.m ht6).at _ _) rfl rfl ⟨(Nat.le_of_ble_eq_true rfl), (Nat.le_of_ble_eq_true rfl)⟩ (Nat.le_of_ble_eq_true rfl) ⟨Nat.zero_le _, Nat.zero_le _⟩ dX2_deliverFirst_90 (fun H locs hw => ?_)
  obtain ⟨z_1, ez_1⟩ : ∃ q_9, q_9 = hdz z (b + 2 + 8 * to + 4) (S.m to).held.1 (nI fr) (nI en) (nI ch) := ⟨_, rfl⟩
  have hw : zS G N Λ z_1 sS H locs := by rw [ez_1]; exact hw
  have hI1 := (hold_wI hI hto hn6 hot.log.1 hot.held.1 hot.pend.1 fr en ch).1
  rw [← ez_1] at hI1
  refine lv_aload_n C.x C.b dX2_deliverFirst_93 rfl (lv_at hl 3 rfl) ?_
  refine z_get C hw hW.lt (hW.at _ _) flX2_25 rfl dX2_deliverFirst_94 ?_
  refine z_V0 (As := []) (rest := []) C hw hl (m_X1_removeFirst hO _ hW.queue (k := S.q.1) hI1.q.1 hq40 h0) ivX2_121 hW.queue.lt (hW.queue.at _ _) rfl rfl ⟨(Nat.le_of_ble_eq_true rfl), (Nat.le_of_ble_eq_true rfl)⟩ (Nat.le_of_ble_eq_true rfl) ⟨Nat.zero_le _, Nat.zero_le _⟩ dX2_deliverFirst_97 (fun H locs hw => ?_)
  obtain ⟨z_2, ez_2⟩ : ∃ q_9, q_9 = rmv z_1 (b + 50) 5 S.q.1 := ⟨_, rfl⟩
  have hw : zS G N Λ z_2 sS H locs := by rw [ez_2]; exact hw
  have hI2 : wI z_2 b (aPopQ (aHold S to (row3 fr en ch))) := by rw [ez_2]; exact (popq_wI hI1 hn6 hq40 h0).1
  have hm2 := hI2.m (x := to) hto
  rw [hS2m] at hm2
  refine lv_aload_n C.x C.b dX2_deliverFirst_100 rfl (lv_at hl 2 rfl) ?_
  refine z_get C hw (hW.m ht6).lt ((hW.m ht6).at _ _) flX2_82 rfl dX2_deliverFirst_101 ?_
  refine z_get C hw (hW.m ht6).log.lt ((hW.m ht6).log.at _ _) flX2_85 rfl dX2_deliverFirst_104 ?_
  refine z_topi (y := nI (S.m to).log.1) (hm2.2.2.1.1) ?_
  refine lv_istore (lv' := [(4, .int (nI (S.m to).log.1)), (3, .int (nI v)), (2, .ref (G.h + (b + 2 + 8 * fr))), (1, .ref (G.h + (b + 2 + 8 * to))), (0, .ref (G.h + b))]) C.x C.b dX2_deliverFirst_107 hl (by decide) rfl (fun ls hl => ?_)
  refine lv_aload_n C.x C.b dX2_deliverFirst_109 rfl (lv_at hl 4 rfl) ?_
  refine lv_aload_n C.x C.b dX2_deliverFirst_110 rfl (lv_at hl 3 rfl) ?_
  refine lv_iconst (v := 1) C.x C.b dX2_deliverFirst_111 (by decide) ?_
  refine lv_aload_n C.x C.b dX2_deliverFirst_112 rfl (lv_at hl 2 rfl) ?_
  refine z_get C hw (hW.m hf6).lt ((hW.m hf6).at _ _) flX2_68 rfl dX2_deliverFirst_113 ?_
  refine z_topi (y := pI (fr + 1)) ((pI_s _).symm) ?_
  refine lv_iload_n C.x C.b dX2_deliverFirst_116 rfl (lv_at hl 1 rfl) ?_
  refine z_V0 (As := [.ref (G.h + (b + 2 + 8 * to)), .int 1, .int (pI (fr + 1)), .int (nI v)]) (rest := []) C hw hl (m_X2_take hO _ hW hS.n2 hn6 hto ht6 hm2.1.1 hot.st hm2.1.2.2.1 hot.lie hI2.n hm2.2.2.1 hl38 (qk := S.q.1 - 1) hI2.q.1 (by omega) (a := 1) (q := fr + 1) (v := v) (by omega) (by omega) hv) ivX2_127 hW.lt (hW.at _ _) rfl rfl ⟨(Nat.le_of_ble_eq_true rfl), (Nat.le_of_ble_eq_true rfl)⟩ (Nat.le_of_ble_eq_true rfl) ⟨Nat.zero_le _, Nat.zero_le _⟩ dX2_deliverFirst_117 (fun H locs hw => ?_)
  obtain ⟨z_3, ez_3⟩ : ∃ q_9, q_9 = tkz z_2 b to S.n (S.m to).st (S.m to).lie (S.q.1 - 1) (S.m to).log 1 (fr + 1) v := ⟨_, rfl⟩
  have hw : zS G N Λ z_3 sS H locs := by rw [ez_3]; exact hw
  have hI3 : wI z_3 b S3 := by
    have h9 := (tk_wI (x := to) hI2 hn6 hto (by rw [hS2m]; exact hl38) (by have := (hS2.m (x := to) hto).held.1; exact this) (by rw [hS2m]; exact hot.pend.1) (show S.q.1 - 1 < 40 by omega) 1 (fr + 1) v).1
    rw [hS2m, ← eS] at h9
    rw [ez_3]; exact h9
  have hm3 := hI3.m (x := to) (by rw [hn3]; exact hto)
  have hmf3 := hI3.m (x := fr) (by rw [hn3]; exact hfr)
  have hof3 := hS3.m (x := fr) (by rw [hn3]; exact hfr)
  have hot3 := hS3.m (x := to) (by rw [hn3]; exact hto)
  refine lv_aload_n C.x C.b dX2_deliverFirst_120 rfl (lv_at hl 2 rfl) ?_
  refine lv_aload_n C.x C.b dX2_deliverFirst_121 rfl (lv_at hl 3 rfl) ?_
  refine z_get C hw (hW.m ht6).lt ((hW.m ht6).at _ _) flX2_68 rfl dX2_deliverFirst_122 ?_
  refine lv_iload C.x C.b dX2_deliverFirst_125 (lv_at hl 0 rfl) ?_
  refine z_pc (pc2 := 127) rfl ?_
  refine lv_aload_n C.x C.b dX2_deliverFirst_127 rfl (lv_at hl 3 rfl) ?_
  refine lv_iload C.x C.b dX2_deliverFirst_128 (lv_at hl 0 rfl) ?_
  refine lv_iconst (v := 1) C.x C.b dX2_deliverFirst_130 (by decide) ?_
  refine lv_iadd C.x C.b dX2_deliverFirst_131 ?_
  refine z_topi (y := nI ((S.m to).log.1 + 1)) (nI_1 _) ?_
  refine z_Vv (As := [.int (nI ((S.m to).log.1 + 1))]) (rest := [.int (nI (S.m to).log.1), .int (nI to), .ref (G.h + (b + 2 + 8 * fr))]) C hw hl (m_X0_chainAt hO _ (hW.m ht6) hm3.2.2.1.1 hot3.log.1 (i := (S.m to).log.1 + 1) hlg3) ivX2_95 (hW.m ht6).lt ((hW.m ht6).at _ _) rfl rfl ⟨(Nat.le_of_ble_eq_true rfl), (Nat.le_of_ble_eq_true rfl)⟩ (Nat.le_of_ble_eq_true rfl) ⟨Nat.zero_le _, Nat.zero_le _⟩ dX2_deliverFirst_132 (fun H locs hw => ?_)
  refine z_topi (y := nI (CH (S3.m to).log.2 ((S.m to).log.1 + 1))) (chv_log hm3.2.2.1 hlg3) ?_
  refine z_V0 (As := [.int (nI to), .int (nI (S.m to).log.1), .int (nI (CH (S3.m to).log.2 ((S.m to).log.1 + 1)))]) (rest := []) C hw hl (m_X0_holdT hO _ (hW.m hf6) hmf3.2.2.2.1.1 hof3.held.1) ivX2_124 (hW.m hf6).lt ((hW.m hf6).at _ _) rfl rfl ⟨(Nat.le_of_ble_eq_true rfl), (Nat.le_of_ble_eq_true rfl)⟩ (Nat.le_of_ble_eq_true rfl) ⟨Nat.zero_le _, Nat.zero_le _⟩ dX2_deliverFirst_135 (fun H locs hw => ?_)
  obtain ⟨z_4, ez_4⟩ : ∃ q_9, q_9 = hdz z_3 (b + 2 + 8 * fr + 4) (S3.m fr).held.1 (nI to) (nI (S.m to).log.1) (nI (CH (S3.m to).log.2 ((S.m to).log.1 + 1))) := ⟨_, rfl⟩
  have hw : zS G N Λ z_4 sS H locs := by rw [ez_4]; exact hw
  exact z_vret C hw dX2_deliverFirst_138 (rfl) (by rw [ez_4, ez_3, ez_2, ez_1])

/-- World.deliverFirst: the cells follow -/
theorem m_X2_deliverFirst {G : zG} {N : Nat} {Λ : zLay} {l : Launch} (hO : zOK G l) (z : zM) {b : Nat} (hW : zWo G N Λ b) {S : aS} (hI : wI z b S) (hS : aOK S) (hc : aCan S = true) : ∃ z', (wI z' b (aDel S) ∧ zfr z z' b 54) ∧ zMet G N Λ l yX2_deliverFirst cX2_deliverFirst 5 none 5 [.ref (G.h + b)] z none z' := by
  obtain ⟨h0, hc⟩ := aCan_iff.mp hc
  have hn6 := hS.n6
  have hmq := hS.q.2 0 h0
  have hot := hS.m hmq.2.2.2.1
  have hq40 := hS.q.1
  by_cases hs : (S.m (S.q.2 0 3)).sil = 0
  · have hl : (S.m (S.q.2 0 3)).log.1 ≤ 38 := hc.elim (fun q => absurd hs q) id
    refine ⟨_, ?_, m_X2_deliver_n hO z hW hI hS h0 rfl rfl rfl rfl rfl hs hl rfl⟩
    obtain ⟨hI1, hf1⟩ := hold_wI hI hmq.2.2.2.1 hn6 hot.log.1 hot.held.1 hot.pend.1 (S.q.2 0 0) (S.q.2 0 1) (S.q.2 0 2)
    obtain ⟨hI2, hf2⟩ := popq_wI hI1 hn6 hq40 h0
    have hS2m : (aPopQ (aHold S (S.q.2 0 3) (row3 (S.q.2 0 0) (S.q.2 0 1) (S.q.2 0 2)))).m (S.q.2 0 3) = (S.m (S.q.2 0 3)).setHeld (thold (S.m (S.q.2 0 3)).held (row3 (S.q.2 0 0) (S.q.2 0 1) (S.q.2 0 2))) := aS.setM_s _ _ _
    have hS2 := (hS.hold hmq.2.2.2.1 hmq.1 hmq.2.1 hmq.2.2.1).popQ
    have hS3 := hS2.take (x := S.q.2 0 3) (a := 1) (q := S.q.2 0 0 + 1) (v := S.q.2 0 4) hmq.2.2.2.1 (by rw [hS2m]; exact hl) (show S.q.1 - 1 < 40 by omega) (by omega) (show S.q.2 0 0 + 1 ≤ S.n by omega) hmq.2.2.2.2
    obtain ⟨hI3, hf3⟩ := tk_wI (x := S.q.2 0 3) hI2 hn6 hmq.2.2.2.1 (by rw [hS2m]; exact hl) (hS2.m (x := S.q.2 0 3) hmq.2.2.2.1).held.1 (by rw [hS2m]; exact hot.pend.1) (show S.q.1 - 1 < 40 by omega) 1 (S.q.2 0 0 + 1) (S.q.2 0 4)
    have hn3 := aTake_n (aPopQ (aHold S (S.q.2 0 3) (row3 (S.q.2 0 0) (S.q.2 0 1) (S.q.2 0 2)))) (S.q.2 0 3) 1 (S.q.2 0 0 + 1) (S.q.2 0 4)
    have hof3 := hS3.m (x := S.q.2 0 0) (by rw [hn3]; exact hmq.1)
    obtain ⟨hI4, hf4⟩ := hold_wI (x := S.q.2 0 0) hI3 (by rw [hn3]; exact hmq.1) (by rw [hn3]; exact hn6) hof3.log.1 hof3.held.1 hof3.pend.1 (S.q.2 0 3) (S.m (S.q.2 0 3)).log.1 (CH ((aTake (aPopQ (aHold S (S.q.2 0 3) (row3 (S.q.2 0 0) (S.q.2 0 1) (S.q.2 0 2)))) (S.q.2 0 3) 1 (S.q.2 0 0 + 1) (S.q.2 0 4)).m (S.q.2 0 3)).log.2 ((S.m (S.q.2 0 3)).log.1 + 1))
    have hf := ((hf1.tr hf2).tr hf3).tr hf4
    rw [hS2m] at hI4 hf
    refine ⟨?_, hf⟩
    unfold aDel
    rw [if_pos hs]
    exact hI4
  · refine ⟨_, ?_, m_X2_deliver_s hO z hW hI hS h0 rfl rfl rfl rfl rfl hs⟩
    obtain ⟨hI1, hf1⟩ := pnd_wI hI hmq.2.2.2.1 hn6 hot.log.1 hot.held.1 hot.pend.1 h0
    obtain ⟨hI2, hf2⟩ := popq_wI hI1 hn6 hq40 h0
    refine ⟨?_, hf1.tr hf2⟩
    unfold aDel
    rw [if_neg hs]
    exact hI2
