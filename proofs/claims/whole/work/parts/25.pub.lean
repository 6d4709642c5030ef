theorem isM_le {v : Int32} {n : Nat} (hn : n < 2 ^ 30) (h1 : ¬ v < 0) (h2 : v ≤ nI n) : isM v (n + 1) := by
  obtain ⟨j, hj, rfl⟩ := nI_of h1
  exact ⟨j, Nat.lt_succ_of_le ((nI_leI hj (by omega)).mp h2), rfl⟩
theorem isR_of {v : Int32} {lo hi : Nat} (hlo : lo < 2 ^ 30) (hhi : hi < 2 ^ 30) (h1 : ¬ v < nI lo) (h2 : v ≤ nI hi) : ∃ n, lo ≤ n ∧ n ≤ hi ∧ v = nI n := by
  have h0 : ¬ v < 0 := fun q => h1 (Int32.lt_of_lt_of_le q (nI_pos' (by omega)))
  obtain ⟨j, hj, rfl⟩ := nI_of h0
  exact ⟨j, Nat.le_of_not_lt (fun q => h1 (zlt (by omega) q)), (nI_leI hj (by omega)).mp h2, rfl⟩
theorem zb01 {n : Nat} (h : n < 2) : nI n = 0 ∨ nI n = 1 := by
  rcases (show n = 0 ∨ n = 1 by omega) with rfl | rfl
  · exact Or.inl rfl
  · exact Or.inr rfl
theorem aTake_st (S : aS) (x a q v : Nat) : ((aTake S x a q v).m x).st = nx (S.m x).st v q := by
  unfold aTake
  split
  · have h1 : ((aSend (aTk1 S x a q v) x).m x) = ((((aTk1 S x a q v).m x).setLie 0).setLog (tpush ((aTk1 S x a q v).m x).log (row3 2 (gt x ((aTk1 S x a q v).m x).st (aTk1 S x a q v).n + 1) ((((aTk1 S x a q v).m x).st % 1000 + ((aTk1 S x a q v).m x).lie) % 1000)))) := aS.setM_s _ _ _
    rw [h1]
    show ((aTk1 S x a q v).m x).st = _
    unfold aTk1
    rw [aS.setM_s]
    rfl
  · unfold aTk1
    rw [aS.setM_s]
    rfl
set_option maxRecDepth 100000 in
set_option maxHeartbeats 4000000 in
theorem m_X3_queued {G : zG} {N : Nat} {Λ : zLay} {l : Launch} (hO : zOK G l) (z : zM) (hA : zPo G N Λ) {S : aS} (hI : wI z 1 S) (hS : aOK S) : zMet G N Λ l yX3_queued cX3_queued 1 (some .int) 0 [.ref (G.h + 0)] z (some (.int (nI S.q.1))) z := by
  refine zMet_of hO (by decide) (Nat.le_of_ble_eq_true rfl) ?_
  intro pP eE sS mM bB tT cC ls C hw hl
  have hl : lv_has ls 1 [(0, .ref (G.h + 0))] := hl
  refine lv_aload_n C.x C.b dX3_queued_0 rfl (lv_at hl 0 rfl) ?_
  refine z_get C hw hA.lt (hA.at _ _) flX3_12 rfl dX3_queued_1 ?_
  refine z_get C hw hA.w0.lt (hA.w0.at _ _) flX3_48 rfl dX3_queued_4 ?_
  refine z_get C hw hA.w0.queue.lt (hA.w0.queue.at _ _) flX3_52 rfl dX3_queued_7 ?_
  refine z_topi (y := nI S.q.1) (hI.q.1) ?_
  exact z_iret C hw dX3_queued_10 (rfl) (rfl)

set_option maxRecDepth 100000 in
set_option maxHeartbeats 4000000 in
theorem m_X3_evidenceCount {G : zG} {N : Nat} {Λ : zLay} {l : Launch} (hO : zOK G l) (z : zM) (hA : zPo G N Λ) {S : aS} (hI : wI z 1 S) (hS : aOK S) : zMet G N Λ l yX3_evidenceCount cX3_evidenceCount 1 (some .int) 0 [.ref (G.h + 0)] z (some (.int (nI S.ev.1))) z := by
  refine zMet_of hO (by decide) (Nat.le_of_ble_eq_true rfl) ?_
  intro pP eE sS mM bB tT cC ls C hw hl
  have hl : lv_has ls 1 [(0, .ref (G.h + 0))] := hl
  refine lv_aload_n C.x C.b dX3_evidenceCount_0 rfl (lv_at hl 0 rfl) ?_
  refine z_get C hw hA.lt (hA.at _ _) flX3_12 rfl dX3_evidenceCount_1 ?_
  refine z_get C hw hA.w0.lt (hA.w0.at _ _) flX3_179 rfl dX3_evidenceCount_4 ?_
  refine z_get C hw hA.w0.evid.lt (hA.w0.evid.at _ _) flX3_52 rfl dX3_evidenceCount_7 ?_
  refine z_topi (y := nI S.ev.1) (hI.e.1) ?_
  exact z_iret C hw dX3_evidenceCount_10 (rfl) (rfl)

set_option maxRecDepth 100000 in
set_option maxHeartbeats 4000000 in
theorem m_X3_state {G : zG} {N : Nat} {Λ : zLay} {l : Launch} (hO : zOK G l) (z : zM) (hA : zPo G N Λ) {S : aS} (hI : wI z 1 S) (hS : aOK S) {x : Nat} (hx : x < S.n) (hx6 : x < 6) : zMet G N Λ l yX3_state cX3_state 2 (some .int) 2 [.ref (G.h + 0), .int (nI x)] z (some (.int (nI (S.m x).st))) z := by
  refine zMet_of hO (by decide) (Nat.le_of_ble_eq_true rfl) ?_
  intro pP eE sS mM bB tT cC ls C hw hl
  have hl : lv_has ls 2 [(0, .ref (G.h + 0)), (1, .int (nI x))] := hl
  have hmx := hI.m hx
  have hox := hS.m hx
  have hn6 := hS.n6
  refine lv_aload_n C.x C.b dX3_state_0 rfl (lv_at hl 0 rfl) ?_
  refine lv_iload_n C.x C.b dX3_state_1 rfl (lv_at hl 1 rfl) ?_
  refine z_V0 (As := [.int (nI x)]) (rest := []) C hw hl (m_X3_reqM hO _ hA hI hS hx) ivX3_38 hA.lt (hA.at _ _) rfl rfl ⟨(Nat.le_of_ble_eq_true rfl), (Nat.le_of_ble_eq_true rfl)⟩ (Nat.le_of_ble_eq_true rfl) ⟨Nat.zero_le _, Nat.zero_le _⟩ dX3_state_2 (fun H locs hw => ?_)
  refine lv_aload_n C.x C.b dX3_state_5 rfl (lv_at hl 0 rfl) ?_
  refine z_get C hw hA.lt (hA.at _ _) flX3_12 rfl dX3_state_6 ?_
  refine z_get C hw hA.w0.lt (hA.w0.at _ _) flX3_44 rfl dX3_state_9 ?_
  refine lv_iload_n C.x C.b dX3_state_12 rfl (lv_at hl 1 rfl) ?_
  refine z_aaldM (a := G.h + (1 + 2 + 8 * x)) C hw hA.w0.lt1 hA.w0.ma (zvin hx6 (by omega)) (by rw [zcl hx6 (by omega)]) dX3_state_13 ?_
  refine z_get C hw (hA.w0.m hx6).lt ((hA.w0.m hx6).at _ _) flX3_72 rfl dX3_state_14 ?_
  refine z_topi (y := nI (S.m x).st) (hmx.1.1) ?_
  exact z_iret C hw dX3_state_17 (rfl) (rfl)

set_option maxRecDepth 100000 in
set_option maxHeartbeats 4000000 in
theorem m_X3_pending {G : zG} {N : Nat} {Λ : zLay} {l : Launch} (hO : zOK G l) (z : zM) (hA : zPo G N Λ) {S : aS} (hI : wI z 1 S) (hS : aOK S) {x : Nat} (hx : x < S.n) (hx6 : x < 6) : zMet G N Λ l yX3_pending cX3_pending 2 (some .int) 2 [.ref (G.h + 0), .int (nI x)] z (some (.int (nI (S.m x).pend.1))) z := by
  refine zMet_of hO (by decide) (Nat.le_of_ble_eq_true rfl) ?_
  intro pP eE sS mM bB tT cC ls C hw hl
  have hl : lv_has ls 2 [(0, .ref (G.h + 0)), (1, .int (nI x))] := hl
  have hmx := hI.m hx
  have hox := hS.m hx
  have hn6 := hS.n6
  refine lv_aload_n C.x C.b dX3_pending_0 rfl (lv_at hl 0 rfl) ?_
  refine lv_iload_n C.x C.b dX3_pending_1 rfl (lv_at hl 1 rfl) ?_
  refine z_V0 (As := [.int (nI x)]) (rest := []) C hw hl (m_X3_reqM hO _ hA hI hS hx) ivX3_38 hA.lt (hA.at _ _) rfl rfl ⟨(Nat.le_of_ble_eq_true rfl), (Nat.le_of_ble_eq_true rfl)⟩ (Nat.le_of_ble_eq_true rfl) ⟨Nat.zero_le _, Nat.zero_le _⟩ dX3_pending_2 (fun H locs hw => ?_)
  refine lv_aload_n C.x C.b dX3_pending_5 rfl (lv_at hl 0 rfl) ?_
  refine z_get C hw hA.lt (hA.at _ _) flX3_12 rfl dX3_pending_6 ?_
  refine z_get C hw hA.w0.lt (hA.w0.at _ _) flX3_44 rfl dX3_pending_9 ?_
  refine lv_iload_n C.x C.b dX3_pending_12 rfl (lv_at hl 1 rfl) ?_
  refine z_aaldM (a := G.h + (1 + 2 + 8 * x)) C hw hA.w0.lt1 hA.w0.ma (zvin hx6 (by omega)) (by rw [zcl hx6 (by omega)]) dX3_pending_13 ?_
  refine z_get C hw (hA.w0.m hx6).lt ((hA.w0.m hx6).at _ _) flX3_94 rfl dX3_pending_14 ?_
  refine z_get C hw (hA.w0.m hx6).pend.lt ((hA.w0.m hx6).pend.at _ _) flX3_52 rfl dX3_pending_17 ?_
  refine z_topi (y := nI (S.m x).pend.1) (hmx.2.2.2.2.1) ?_
  exact z_iret C hw dX3_pending_20 (rfl) (rfl)

set_option maxRecDepth 100000 in
set_option maxHeartbeats 4000000 in
theorem m_X3_logLength {G : zG} {N : Nat} {Λ : zLay} {l : Launch} (hO : zOK G l) (z : zM) (hA : zPo G N Λ) {S : aS} (hI : wI z 1 S) (hS : aOK S) {x : Nat} (hx : x < S.n) (hx6 : x < 6) : zMet G N Λ l yX3_logLength cX3_logLength 2 (some .int) 2 [.ref (G.h + 0), .int (nI x)] z (some (.int (nI (S.m x).log.1))) z := by
  refine zMet_of hO (by decide) (Nat.le_of_ble_eq_true rfl) ?_
  intro pP eE sS mM bB tT cC ls C hw hl
  have hl : lv_has ls 2 [(0, .ref (G.h + 0)), (1, .int (nI x))] := hl
  have hmx := hI.m hx
  have hox := hS.m hx
  have hn6 := hS.n6
  refine lv_aload_n C.x C.b dX3_logLength_0 rfl (lv_at hl 0 rfl) ?_
  refine lv_iload_n C.x C.b dX3_logLength_1 rfl (lv_at hl 1 rfl) ?_
  refine z_V0 (As := [.int (nI x)]) (rest := []) C hw hl (m_X3_reqM hO _ hA hI hS hx) ivX3_38 hA.lt (hA.at _ _) rfl rfl ⟨(Nat.le_of_ble_eq_true rfl), (Nat.le_of_ble_eq_true rfl)⟩ (Nat.le_of_ble_eq_true rfl) ⟨Nat.zero_le _, Nat.zero_le _⟩ dX3_logLength_2 (fun H locs hw => ?_)
  refine lv_aload_n C.x C.b dX3_logLength_5 rfl (lv_at hl 0 rfl) ?_
  refine z_get C hw hA.lt (hA.at _ _) flX3_12 rfl dX3_logLength_6 ?_
  refine z_get C hw hA.w0.lt (hA.w0.at _ _) flX3_44 rfl dX3_logLength_9 ?_
  refine lv_iload_n C.x C.b dX3_logLength_12 rfl (lv_at hl 1 rfl) ?_
  refine z_aaldM (a := G.h + (1 + 2 + 8 * x)) C hw hA.w0.lt1 hA.w0.ma (zvin hx6 (by omega)) (by rw [zcl hx6 (by omega)]) dX3_logLength_13 ?_
  refine z_get C hw (hA.w0.m hx6).lt ((hA.w0.m hx6).at _ _) flX3_113 rfl dX3_logLength_14 ?_
  refine z_get C hw (hA.w0.m hx6).log.lt ((hA.w0.m hx6).log.at _ _) flX3_52 rfl dX3_logLength_17 ?_
  refine z_topi (y := nI (S.m x).log.1) (hmx.2.2.1.1) ?_
  exact z_iret C hw dX3_logLength_20 (rfl) (rfl)

set_option maxRecDepth 100000 in
set_option maxHeartbeats 4000000 in
theorem m_X3_held {G : zG} {N : Nat} {Λ : zLay} {l : Launch} (hO : zOK G l) (z : zM) (hA : zPo G N Λ) {S : aS} (hI : wI z 1 S) (hS : aOK S) {x : Nat} (hx : x < S.n) (hx6 : x < 6) : zMet G N Λ l yX3_held cX3_held 2 (some .int) 2 [.ref (G.h + 0), .int (nI x)] z (some (.int (nI (S.m x).held.1))) z := by
  refine zMet_of hO (by decide) (Nat.le_of_ble_eq_true rfl) ?_
  intro pP eE sS mM bB tT cC ls C hw hl
  have hl : lv_has ls 2 [(0, .ref (G.h + 0)), (1, .int (nI x))] := hl
  have hmx := hI.m hx
  have hox := hS.m hx
  have hn6 := hS.n6
  refine lv_aload_n C.x C.b dX3_held_0 rfl (lv_at hl 0 rfl) ?_
  refine lv_iload_n C.x C.b dX3_held_1 rfl (lv_at hl 1 rfl) ?_
  refine z_V0 (As := [.int (nI x)]) (rest := []) C hw hl (m_X3_reqM hO _ hA hI hS hx) ivX3_38 hA.lt (hA.at _ _) rfl rfl ⟨(Nat.le_of_ble_eq_true rfl), (Nat.le_of_ble_eq_true rfl)⟩ (Nat.le_of_ble_eq_true rfl) ⟨Nat.zero_le _, Nat.zero_le _⟩ dX3_held_2 (fun H locs hw => ?_)
  refine lv_aload_n C.x C.b dX3_held_5 rfl (lv_at hl 0 rfl) ?_
  refine z_get C hw hA.lt (hA.at _ _) flX3_12 rfl dX3_held_6 ?_
  refine z_get C hw hA.w0.lt (hA.w0.at _ _) flX3_44 rfl dX3_held_9 ?_
  refine lv_iload_n C.x C.b dX3_held_12 rfl (lv_at hl 1 rfl) ?_
  refine z_aaldM (a := G.h + (1 + 2 + 8 * x)) C hw hA.w0.lt1 hA.w0.ma (zvin hx6 (by omega)) (by rw [zcl hx6 (by omega)]) dX3_held_13 ?_
  refine z_get C hw (hA.w0.m hx6).lt ((hA.w0.m hx6).at _ _) flX3_141 rfl dX3_held_14 ?_
  refine z_get C hw (hA.w0.m hx6).held.lt ((hA.w0.m hx6).held.at _ _) flX3_52 rfl dX3_held_17 ?_
  refine z_topi (y := nI (S.m x).held.1) (hmx.2.2.2.1.1) ?_
  exact z_iret C hw dX3_held_20 (rfl) (rfl)

set_option maxRecDepth 100000 in
set_option maxHeartbeats 4000000 in
theorem x_X3_state {G : zG} {N : Nat} {Λ : zLay} {l : Launch} (hO : zOK G l) (z : zM) (hA : zPo G N Λ) {S : aS} (hI : wI z 1 S) (hS : aOK S) {v : Int32} (hv : ¬ isM v S.n) : zMX G N Λ l yX3_state cX3_state 2 (some .int) 7 [.ref (G.h + 0), .int v] z "java/lang/IndexOutOfBoundsException" := by
  refine zMX_of hO (by decide) (Nat.le_of_ble_eq_true rfl) ?_
  intro pP eE sS mM bB tT cC ls C hout hw hl
  have hl : lv_has ls 2 [(0, .ref (G.h + 0)), (1, .int v)] := hl
  refine lv_aload_n C.x C.b dX3_state_0 rfl (lv_at hl 0 rfl) ?_
  refine lv_iload_n C.x C.b dX3_state_1 rfl (lv_at hl 1 rfl) ?_
  exact z_VX (As := [.int v]) (rest := []) C hout hw hl (x_X3_reqM hO _ hA hI hS hv) ivX3_38 hA.lt (hA.at _ _) rfl rfl ⟨(Nat.le_of_ble_eq_true rfl), (Nat.le_of_ble_eq_true rfl)⟩ (Nat.le_of_ble_eq_true rfl) ⟨(Nat.le_of_ble_eq_true rfl), (Nat.le_of_ble_eq_true rfl)⟩ dX3_state_2

set_option maxRecDepth 100000 in
set_option maxHeartbeats 4000000 in
theorem x_X3_pending {G : zG} {N : Nat} {Λ : zLay} {l : Launch} (hO : zOK G l) (z : zM) (hA : zPo G N Λ) {S : aS} (hI : wI z 1 S) (hS : aOK S) {v : Int32} (hv : ¬ isM v S.n) : zMX G N Λ l yX3_pending cX3_pending 2 (some .int) 7 [.ref (G.h + 0), .int v] z "java/lang/IndexOutOfBoundsException" := by
  refine zMX_of hO (by decide) (Nat.le_of_ble_eq_true rfl) ?_
  intro pP eE sS mM bB tT cC ls C hout hw hl
  have hl : lv_has ls 2 [(0, .ref (G.h + 0)), (1, .int v)] := hl
  refine lv_aload_n C.x C.b dX3_pending_0 rfl (lv_at hl 0 rfl) ?_
  refine lv_iload_n C.x C.b dX3_pending_1 rfl (lv_at hl 1 rfl) ?_
  exact z_VX (As := [.int v]) (rest := []) C hout hw hl (x_X3_reqM hO _ hA hI hS hv) ivX3_38 hA.lt (hA.at _ _) rfl rfl ⟨(Nat.le_of_ble_eq_true rfl), (Nat.le_of_ble_eq_true rfl)⟩ (Nat.le_of_ble_eq_true rfl) ⟨(Nat.le_of_ble_eq_true rfl), (Nat.le_of_ble_eq_true rfl)⟩ dX3_pending_2

set_option maxRecDepth 100000 in
set_option maxHeartbeats 4000000 in
theorem x_X3_logLength {G : zG} {N : Nat} {Λ : zLay} {l : Launch} (hO : zOK G l) (z : zM) (hA : zPo G N Λ) {S : aS} (hI : wI z 1 S) (hS : aOK S) {v : Int32} (hv : ¬ isM v S.n) : zMX G N Λ l yX3_logLength cX3_logLength 2 (some .int) 7 [.ref (G.h + 0), .int v] z "java/lang/IndexOutOfBoundsException" := by
  refine zMX_of hO (by decide) (Nat.le_of_ble_eq_true rfl) ?_
  intro pP eE sS mM bB tT cC ls C hout hw hl
  have hl : lv_has ls 2 [(0, .ref (G.h + 0)), (1, .int v)] := hl
  refine lv_aload_n C.x C.b dX3_logLength_0 rfl (lv_at hl 0 rfl) ?_
  refine lv_iload_n C.x C.b dX3_logLength_1 rfl (lv_at hl 1 rfl) ?_
  exact z_VX (As := [.int v]) (rest := []) C hout hw hl (x_X3_reqM hO _ hA hI hS hv) ivX3_38 hA.lt (hA.at _ _) rfl rfl ⟨(Nat.le_of_ble_eq_true rfl), (Nat.le_of_ble_eq_true rfl)⟩ (Nat.le_of_ble_eq_true rfl) ⟨(Nat.le_of_ble_eq_true rfl), (Nat.le_of_ble_eq_true rfl)⟩ dX3_logLength_2

set_option maxRecDepth 100000 in
set_option maxHeartbeats 4000000 in
theorem x_X3_held {G : zG} {N : Nat} {Λ : zLay} {l : Launch} (hO : zOK G l) (z : zM) (hA : zPo G N Λ) {S : aS} (hI : wI z 1 S) (hS : aOK S) {v : Int32} (hv : ¬ isM v S.n) : zMX G N Λ l yX3_held cX3_held 2 (some .int) 7 [.ref (G.h + 0), .int v] z "java/lang/IndexOutOfBoundsException" := by
  refine zMX_of hO (by decide) (Nat.le_of_ble_eq_true rfl) ?_
  intro pP eE sS mM bB tT cC ls C hout hw hl
  have hl : lv_has ls 2 [(0, .ref (G.h + 0)), (1, .int v)] := hl
  refine lv_aload_n C.x C.b dX3_held_0 rfl (lv_at hl 0 rfl) ?_
  refine lv_iload_n C.x C.b dX3_held_1 rfl (lv_at hl 1 rfl) ?_
  exact z_VX (As := [.int v]) (rest := []) C hout hw hl (x_X3_reqM hO _ hA hI hS hv) ivX3_38 hA.lt (hA.at _ _) rfl rfl ⟨(Nat.le_of_ble_eq_true rfl), (Nat.le_of_ble_eq_true rfl)⟩ (Nat.le_of_ble_eq_true rfl) ⟨(Nat.le_of_ble_eq_true rfl), (Nat.le_of_ble_eq_true rfl)⟩ dX3_held_2

set_option maxRecDepth 100000 in
set_option maxHeartbeats 4000000 in
theorem m_X3_entry {G : zG} {N : Nat} {Λ : zLay} {l : Launch} (hO : zOK G l) (z : zM) (hA : zPo G N Λ) {S : aS} (hI : wI z 1 S) (hS : aOK S) {x : Nat} (hx : x < S.n) (hx6 : x < 6) {e : Nat} (he : e < (S.m x).log.1) : zMet G N Λ l yX3_entry cX3_entry 3 (some .int) 3 [.ref (G.h + 0), .int (nI x), .int (nI e)] z (some (.int (nI (pk ((S.m x).log.2 e 0) ((S.m x).log.2 e 1) ((S.m x).log.2 e 2))))) z := by
  refine zMet_of hO (by decide) (Nat.le_of_ble_eq_true rfl) ?_
  intro pP eE sS mM bB tT cC ls C hw hl
  have hl : lv_has ls 3 [(0, .ref (G.h + 0)), (1, .int (nI x)), (2, .int (nI e))] := hl
  have hmx := hI.m hx
  have hox := hS.m hx
  have hn6 := hS.n6
  refine lv_aload_n C.x C.b dX3_entry_0 rfl (lv_at hl 0 rfl) ?_
  refine lv_iload_n C.x C.b dX3_entry_1 rfl (lv_at hl 1 rfl) ?_
  refine lv_iload_n C.x C.b dX3_entry_2 rfl (lv_at hl 2 rfl) ?_
  refine z_V0 (As := [.int (nI x), .int (nI e)]) (rest := []) C hw hl (m_X3_reqE hO _ hA hI hS hx hx6 he) ivX3_109 hA.lt (hA.at _ _) rfl rfl ⟨(Nat.le_of_ble_eq_true rfl), (Nat.le_of_ble_eq_true rfl)⟩ (Nat.le_of_ble_eq_true rfl) ⟨Nat.zero_le _, Nat.zero_le _⟩ dX3_entry_3 (fun H locs hw => ?_)
  refine lv_aload_n C.x C.b dX3_entry_6 rfl (lv_at hl 0 rfl) ?_
  refine z_get C hw hA.lt (hA.at _ _) flX3_12 rfl dX3_entry_7 ?_
  refine z_get C hw hA.w0.lt (hA.w0.at _ _) flX3_44 rfl dX3_entry_10 ?_
  refine lv_iload_n C.x C.b dX3_entry_13 rfl (lv_at hl 1 rfl) ?_
  refine z_aaldM (a := G.h + (1 + 2 + 8 * x)) C hw hA.w0.lt1 hA.w0.ma (zvin hx6 (by omega)) (by rw [zcl hx6 (by omega)]) dX3_entry_14 ?_
  refine lv_iload_n C.x C.b dX3_entry_15 rfl (lv_at hl 2 rfl) ?_
  refine z_Vv (As := [.int (nI e)]) (rest := []) C hw hl (m_X0_packedEntry hO _ (hA.w0.m hx6) hmx.2.2.1.1 hox.log.1 hmx.2.2.1.2.1 (hox.log.row hn6) he) ivX3_129 (hA.w0.m hx6).lt ((hA.w0.m hx6).at _ _) rfl rfl ⟨(Nat.le_of_ble_eq_true rfl), (Nat.le_of_ble_eq_true rfl)⟩ (Nat.le_of_ble_eq_true rfl) ⟨Nat.zero_le _, Nat.zero_le _⟩ dX3_entry_16 (fun H locs hw => ?_)
  exact z_iret C hw dX3_entry_19 (rfl) (rfl)

set_option maxRecDepth 100000 in
set_option maxHeartbeats 4000000 in
theorem x_X3_entry1 {G : zG} {N : Nat} {Λ : zLay} {l : Launch} (hO : zOK G l) (z : zM) (hA : zPo G N Λ) {S : aS} (hI : wI z 1 S) (hS : aOK S) {v e : Int32} (hv : ¬ isM v S.n) : zMX G N Λ l yX3_entry cX3_entry 3 (some .int) 8 [.ref (G.h + 0), .int v, .int e] z "java/lang/IndexOutOfBoundsException" := by
  refine zMX_of hO (by decide) (Nat.le_of_ble_eq_true rfl) ?_
  intro pP eE sS mM bB tT cC ls C hout hw hl
  have hl : lv_has ls 3 [(0, .ref (G.h + 0)), (1, .int v), (2, .int e)] := hl
  refine lv_aload_n C.x C.b dX3_entry_0 rfl (lv_at hl 0 rfl) ?_
  refine lv_iload_n C.x C.b dX3_entry_1 rfl (lv_at hl 1 rfl) ?_
  refine lv_iload_n C.x C.b dX3_entry_2 rfl (lv_at hl 2 rfl) ?_
  exact z_VX (As := [.int v, .int e]) (rest := []) C hout hw hl (x_X3_reqE1 hO _ hA hI hS hv) ivX3_109 hA.lt (hA.at _ _) rfl rfl ⟨(Nat.le_of_ble_eq_true rfl), (Nat.le_of_ble_eq_true rfl)⟩ (Nat.le_of_ble_eq_true rfl) ⟨(Nat.le_of_ble_eq_true rfl), (Nat.le_of_ble_eq_true rfl)⟩ dX3_entry_3

set_option maxRecDepth 100000 in
set_option maxHeartbeats 4000000 in
theorem x_X3_entry2 {G : zG} {N : Nat} {Λ : zLay} {l : Launch} (hO : zOK G l) (z : zM) (hA : zPo G N Λ) {S : aS} (hI : wI z 1 S) (hS : aOK S) {x : Nat} (hx : x < S.n) (hx6 : x < 6) {e : Int32} (he : ¬ isM e (S.m x).log.1) : zMX G N Λ l yX3_entry cX3_entry 3 (some .int) 8 [.ref (G.h + 0), .int (nI x), .int e] z "java/lang/IndexOutOfBoundsException" := by
  refine zMX_of hO (by decide) (Nat.le_of_ble_eq_true rfl) ?_
  intro pP eE sS mM bB tT cC ls C hout hw hl
  have hl : lv_has ls 3 [(0, .ref (G.h + 0)), (1, .int (nI x)), (2, .int e)] := hl
  refine lv_aload_n C.x C.b dX3_entry_0 rfl (lv_at hl 0 rfl) ?_
  refine lv_iload_n C.x C.b dX3_entry_1 rfl (lv_at hl 1 rfl) ?_
  refine lv_iload_n C.x C.b dX3_entry_2 rfl (lv_at hl 2 rfl) ?_
  exact z_VX (As := [.int (nI x), .int e]) (rest := []) C hout hw hl (x_X3_reqE2 hO _ hA hI hS hx hx6 he) ivX3_109 hA.lt (hA.at _ _) rfl rfl ⟨(Nat.le_of_ble_eq_true rfl), (Nat.le_of_ble_eq_true rfl)⟩ (Nat.le_of_ble_eq_true rfl) ⟨(Nat.le_of_ble_eq_true rfl), (Nat.le_of_ble_eq_true rfl)⟩ dX3_entry_3

set_option maxRecDepth 100000 in
set_option maxHeartbeats 4000000 in
theorem m_X3_chain {G : zG} {N : Nat} {Λ : zLay} {l : Launch} (hO : zOK G l) (z : zM) (hA : zPo G N Λ) {S : aS} (hI : wI z 1 S) (hS : aOK S) {x : Nat} (hx : x < S.n) (hx6 : x < 6) {i : Nat} (hi : i ≤ (S.m x).log.1) : zMet G N Λ l yX3_chain cX3_chain 4 (some .int) 2 [.ref (G.h + 0), .int (nI x), .int (nI i)] z (some (.int (nI (CH (S.m x).log.2 i)))) z := by
  refine zMet_of hO (by decide) (Nat.le_of_ble_eq_true rfl) ?_
  intro pP eE sS mM bB tT cC ls C hw hl
  have hl : lv_has ls 4 [(0, .ref (G.h + 0)), (1, .int (nI x)), (2, .int (nI i))] := hl
  have hmx := hI.m hx
  have hox := hS.m hx
  have hn6 := hS.n6
  have hlg := hox.log.1
  refine lv_aload_n C.x C.b dX3_chain_0 rfl (lv_at hl 0 rfl) ?_
  refine lv_iload_n C.x C.b dX3_chain_1 rfl (lv_at hl 1 rfl) ?_
  refine z_V0 (As := [.int (nI x)]) (rest := []) C hw hl (m_X3_reqM hO _ hA hI hS hx) ivX3_38 hA.lt (hA.at _ _) rfl rfl ⟨(Nat.le_of_ble_eq_true rfl), (Nat.le_of_ble_eq_true rfl)⟩ (Nat.le_of_ble_eq_true rfl) ⟨Nat.zero_le _, Nat.zero_le _⟩ dX3_chain_2 (fun H locs hw => ?_)
  refine lv_aload_n C.x C.b dX3_chain_5 rfl (lv_at hl 0 rfl) ?_
  refine z_get C hw hA.lt (hA.at _ _) flX3_12 rfl dX3_chain_6 ?_
  refine z_get C hw hA.w0.lt (hA.w0.at _ _) flX3_44 rfl dX3_chain_9 ?_
  refine lv_iload_n C.x C.b dX3_chain_12 rfl (lv_at hl 1 rfl) ?_
  refine z_aaldM (a := G.h + (1 + 2 + 8 * x)) C hw hA.w0.lt1 hA.w0.ma (zvin hx6 (by omega)) (by rw [zcl hx6 (by omega)]) dX3_chain_13 ?_
  refine lv_astore_n (lv' := [(3, .ref (G.h + (1 + 2 + 8 * x))), (0, .ref (G.h + 0)), (1, .int (nI x)), (2, .int (nI i))]) C.x C.b dX3_chain_14 rfl hl (by decide) rfl (fun ls hl => ?_)
  refine lv_iload_n C.x C.b dX3_chain_15 rfl (lv_at hl 3 rfl) ?_
  refine lv_if_lt (tgt := 30) C.x C.b dX3_chain_16 (by decide) (fun c_16 => absurd c_16 (zneg (by omega))) (fun c_16 => ?_)
  refine lv_iload_n C.x C.b dX3_chain_19 rfl (lv_at hl 3 rfl) ?_
  refine lv_aload_n C.x C.b dX3_chain_20 rfl (lv_at hl 0 rfl) ?_
  refine z_get C hw (hA.w0.m hx6).lt ((hA.w0.m hx6).at _ _) flX3_113 rfl dX3_chain_21 ?_
  refine z_get C hw (hA.w0.m hx6).log.lt ((hA.w0.m hx6).log.at _ _) flX3_52 rfl dX3_chain_24 ?_
  refine lv_icmp_le (tgt := 40) C.x C.b dX3_chain_27 (by decide) (fun c_27 => ?_) (fun c_27 => absurd (by rw [hmx.2.2.1.1]; exact zle (by omega) hi) c_27)
  refine lv_aload_n C.x C.b dX3_chain_40 rfl (lv_at hl 0 rfl) ?_
  refine lv_iload_n C.x C.b dX3_chain_41 rfl (lv_at hl 3 rfl) ?_
  refine z_Vv (As := [.int (nI i)]) (rest := []) C hw hl (m_X0_chainAt hO _ (hA.w0.m hx6) hmx.2.2.1.1 hlg hi) ivX3_138 (hA.w0.m hx6).lt ((hA.w0.m hx6).at _ _) rfl rfl ⟨(Nat.le_of_ble_eq_true rfl), (Nat.le_of_ble_eq_true rfl)⟩ (Nat.le_of_ble_eq_true rfl) ⟨Nat.zero_le _, Nat.zero_le _⟩ dX3_chain_42 (fun H locs hw => ?_)
  refine z_topi (y := nI (CH (S.m x).log.2 i)) (chv_log hmx.2.2.1 hi) ?_
  refine z_pc (pc2 := 45) rfl ?_
  exact z_iret C hw dX3_chain_45 (rfl) (rfl)

set_option maxRecDepth 100000 in
set_option maxHeartbeats 4000000 in
theorem x_X3_chain1 {G : zG} {N : Nat} {Λ : zLay} {l : Launch} (hO : zOK G l) (z : zM) (hA : zPo G N Λ) {S : aS} (hI : wI z 1 S) (hS : aOK S) {v i : Int32} (hv : ¬ isM v S.n) : zMX G N Λ l yX3_chain cX3_chain 4 (some .int) 7 [.ref (G.h + 0), .int v, .int i] z "java/lang/IndexOutOfBoundsException" := by
  refine zMX_of hO (by decide) (Nat.le_of_ble_eq_true rfl) ?_
  intro pP eE sS mM bB tT cC ls C hout hw hl
  have hl : lv_has ls 4 [(0, .ref (G.h + 0)), (1, .int v), (2, .int i)] := hl
  refine lv_aload_n C.x C.b dX3_chain_0 rfl (lv_at hl 0 rfl) ?_
  refine lv_iload_n C.x C.b dX3_chain_1 rfl (lv_at hl 1 rfl) ?_
  exact z_VX (As := [.int v]) (rest := []) C hout hw hl (x_X3_reqM hO _ hA hI hS hv) ivX3_38 hA.lt (hA.at _ _) rfl rfl ⟨(Nat.le_of_ble_eq_true rfl), (Nat.le_of_ble_eq_true rfl)⟩ (Nat.le_of_ble_eq_true rfl) ⟨(Nat.le_of_ble_eq_true rfl), (Nat.le_of_ble_eq_true rfl)⟩ dX3_chain_2

set_option maxRecDepth 100000 in
set_option maxHeartbeats 4000000 in
theorem x_X3_chain2 {G : zG} {N : Nat} {Λ : zLay} {l : Launch} (hO : zOK G l) (z : zM) (hA : zPo G N Λ) {S : aS} (hI : wI z 1 S) (hS : aOK S) {x : Nat} (hx : x < S.n) (hx6 : x < 6) {i : Int32} (hi : ¬ isM i ((S.m x).log.1 + 1)) : zMX G N Λ l yX3_chain cX3_chain 4 (some .int) 7 [.ref (G.h + 0), .int (nI x), .int i] z "java/lang/IndexOutOfBoundsException" := by
  refine zMX_of hO (by decide) (Nat.le_of_ble_eq_true rfl) ?_
  intro pP eE sS mM bB tT cC ls C hout hw hl
  have hl : lv_has ls 4 [(0, .ref (G.h + 0)), (1, .int (nI x)), (2, .int i)] := hl
  have hmx := hI.m hx
  have hox := hS.m hx
  have hn6 := hS.n6
  have hlg := hox.log.1
  refine lv_aload_n C.x C.b dX3_chain_0 rfl (lv_at hl 0 rfl) ?_
  refine lv_iload_n C.x C.b dX3_chain_1 rfl (lv_at hl 1 rfl) ?_
  refine z_V0 (As := [.int (nI x)]) (rest := []) C hw hl (m_X3_reqM hO _ hA hI hS hx) ivX3_38 hA.lt (hA.at _ _) rfl rfl ⟨(Nat.le_of_ble_eq_true rfl), (Nat.le_of_ble_eq_true rfl)⟩ (Nat.le_of_ble_eq_true rfl) ⟨Nat.zero_le _, Nat.zero_le _⟩ dX3_chain_2 (fun H locs hw => ?_)
  refine lv_aload_n C.x C.b dX3_chain_5 rfl (lv_at hl 0 rfl) ?_
  refine z_get C hw hA.lt (hA.at _ _) flX3_12 rfl dX3_chain_6 ?_
  refine z_get C hw hA.w0.lt (hA.w0.at _ _) flX3_44 rfl dX3_chain_9 ?_
  refine lv_iload_n C.x C.b dX3_chain_12 rfl (lv_at hl 1 rfl) ?_
  refine z_aaldM (a := G.h + (1 + 2 + 8 * x)) C hw hA.w0.lt1 hA.w0.ma (zvin hx6 (by omega)) (by rw [zcl hx6 (by omega)]) dX3_chain_13 ?_
  refine lv_astore_n (lv' := [(3, .ref (G.h + (1 + 2 + 8 * x))), (0, .ref (G.h + 0)), (1, .int (nI x)), (2, .int i)]) C.x C.b dX3_chain_14 rfl hl (by decide) rfl (fun ls hl => ?_)
  refine lv_iload_n C.x C.b dX3_chain_15 rfl (lv_at hl 3 rfl) ?_
  refine lv_if_lt (tgt := 30) C.x C.b dX3_chain_16 (by decide) (fun c_16 => ?_) (fun c_16 => ?_)
  · exact z_thr C hw hl th_135 dX3_chain_30 dX3_chain_33 dX3_chain_34 dX3_chain_36 dX3_chain_39 hout (Nat.le_of_ble_eq_true rfl) (Nat.le_of_ble_eq_true rfl) (Nat.le_of_ble_eq_true rfl) (Nat.le_of_ble_eq_true rfl)
  · refine lv_iload_n C.x C.b dX3_chain_19 rfl (lv_at hl 3 rfl) ?_
    refine lv_aload_n C.x C.b dX3_chain_20 rfl (lv_at hl 0 rfl) ?_
    refine z_get C hw (hA.w0.m hx6).lt ((hA.w0.m hx6).at _ _) flX3_113 rfl dX3_chain_21 ?_
    refine z_get C hw (hA.w0.m hx6).log.lt ((hA.w0.m hx6).log.at _ _) flX3_52 rfl dX3_chain_24 ?_
    refine lv_icmp_le (tgt := 40) C.x C.b dX3_chain_27 (by decide) (fun c_27 => absurd c_27 (fun q => hi (isM_le (by omega) c_16 (by rw [hmx.2.2.1.1] at q; exact q)))) (fun c_27 => ?_)
    exact z_thr C hw hl th_135 dX3_chain_30 dX3_chain_33 dX3_chain_34 dX3_chain_36 dX3_chain_39 hout (Nat.le_of_ble_eq_true rfl) (Nat.le_of_ble_eq_true rfl) (Nat.le_of_ble_eq_true rfl) (Nat.le_of_ble_eq_true rfl)

set_option maxRecDepth 100000 in
set_option maxHeartbeats 4000000 in
theorem m_X3_authenticator {G : zG} {N : Nat} {Λ : zLay} {l : Launch} (hO : zOK G l) (z : zM) (hA : zPo G N Λ) {S : aS} (hI : wI z 1 S) (hS : aOK S) {x : Nat} (hx : x < S.n) (hx6 : x < 6) {i w : Nat} (hi : i < (S.m x).held.1) (hw3 : w < 3) : zMet G N Λ l yX3_authenticator cX3_authenticator 5 (some .int) 2 [.ref (G.h + 0), .int (nI x), .int (nI i), .int (nI w)] z (some (.int (nI ((S.m x).held.2 i w)))) z := by
  refine zMet_of hO (by decide) (Nat.le_of_ble_eq_true rfl) ?_
  intro pP eE sS mM bB tT cC ls C hw hl
  have hl : lv_has ls 5 [(0, .ref (G.h + 0)), (1, .int (nI x)), (2, .int (nI i)), (3, .int (nI w))] := hl
  have hmx := hI.m hx
  have hox := hS.m hx
  have hn6 := hS.n6
  have hhd := hox.held.1
  refine lv_aload_n C.x C.b dX3_authenticator_0 rfl (lv_at hl 0 rfl) ?_
  refine lv_iload_n C.x C.b dX3_authenticator_1 rfl (lv_at hl 1 rfl) ?_
  refine z_V0 (As := [.int (nI x)]) (rest := []) C hw hl (m_X3_reqM hO _ hA hI hS hx) ivX3_38 hA.lt (hA.at _ _) rfl rfl ⟨(Nat.le_of_ble_eq_true rfl), (Nat.le_of_ble_eq_true rfl)⟩ (Nat.le_of_ble_eq_true rfl) ⟨Nat.zero_le _, Nat.zero_le _⟩ dX3_authenticator_2 (fun H locs hw => ?_)
  refine lv_aload_n C.x C.b dX3_authenticator_5 rfl (lv_at hl 0 rfl) ?_
  refine z_get C hw hA.lt (hA.at _ _) flX3_12 rfl dX3_authenticator_6 ?_
  refine z_get C hw hA.w0.lt (hA.w0.at _ _) flX3_44 rfl dX3_authenticator_9 ?_
  refine lv_iload_n C.x C.b dX3_authenticator_12 rfl (lv_at hl 1 rfl) ?_
  refine z_aaldM (a := G.h + (1 + 2 + 8 * x)) C hw hA.w0.lt1 hA.w0.ma (zvin hx6 (by omega)) (by rw [zcl hx6 (by omega)]) dX3_authenticator_13 ?_
  refine z_get C hw (hA.w0.m hx6).lt ((hA.w0.m hx6).at _ _) flX3_141 rfl dX3_authenticator_14 ?_
  refine lv_astore (lv' := [(4, .ref (G.h + (1 + 2 + 8 * x + 4))), (0, .ref (G.h + 0)), (1, .int (nI x)), (2, .int (nI i)), (3, .int (nI w))]) C.x C.b dX3_authenticator_17 hl (by decide) rfl (fun ls hl => ?_)
  refine lv_iload_n C.x C.b dX3_authenticator_19 rfl (lv_at hl 3 rfl) ?_
  refine lv_if_lt (tgt := 32) C.x C.b dX3_authenticator_20 (by decide) (fun c_20 => absurd c_20 (zneg (by omega))) (fun c_20 => ?_)
  refine lv_iload_n C.x C.b dX3_authenticator_23 rfl (lv_at hl 3 rfl) ?_
  refine lv_aload C.x C.b dX3_authenticator_24 (lv_at hl 0 rfl) ?_
  refine z_get C hw (hA.w0.m hx6).held.lt ((hA.w0.m hx6).held.at _ _) flX3_52 rfl dX3_authenticator_26 ?_
  refine lv_icmp_lt (tgt := 42) C.x C.b dX3_authenticator_29 (by decide) (fun c_29 => ?_) (fun c_29 => absurd (by rw [hmx.2.2.2.1.1]; exact zlt (by omega) hi) c_29)
  refine lv_iload_n C.x C.b dX3_authenticator_42 rfl (lv_at hl 4 rfl) ?_
  refine lv_if_lt (tgt := 51) C.x C.b dX3_authenticator_43 (by decide) (fun c_43 => absurd c_43 (zneg (by omega))) (fun c_43 => ?_)
  refine lv_iload_n C.x C.b dX3_authenticator_46 rfl (lv_at hl 4 rfl) ?_
  refine z_pc (pc2 := 47) rfl ?_
  refine lv_iconst (v := 3) C.x C.b dX3_authenticator_47 (by decide) ?_
  refine lv_icmp_lt (tgt := 61) C.x C.b dX3_authenticator_48 (by decide) (fun c_48 => ?_) (fun c_48 => absurd (zlt (b := 3) (by omega) hw3) c_48)
  refine lv_aload C.x C.b dX3_authenticator_61 (lv_at hl 0 rfl) ?_
  refine lv_iload_n C.x C.b dX3_authenticator_63 rfl (lv_at hl 3 rfl) ?_
  refine lv_iload_n C.x C.b dX3_authenticator_64 rfl (lv_at hl 4 rfl) ?_
  refine z_Vv (As := [.int (nI i), .int (nI w)]) (rest := []) C hw hl (m_X1_get hO _ (hA.w0.m hx6).held hmx.2.2.2.1.1 hhd (r := i) (c := w) hi hw3) ivX3_116 (hA.w0.m hx6).held.lt ((hA.w0.m hx6).held.at _ _) rfl rfl ⟨(Nat.le_of_ble_eq_true rfl), (Nat.le_of_ble_eq_true rfl)⟩ (Nat.le_of_ble_eq_true rfl) ⟨Nat.zero_le _, Nat.zero_le _⟩ dX3_authenticator_65 (fun H locs hw => ?_)
  refine z_topi (y := nI ((S.m x).held.2 i w)) (hmx.2.2.2.1.2 i hi w hw3) ?_
  exact z_iret C hw dX3_authenticator_68 (rfl) (rfl)

set_option maxRecDepth 100000 in
set_option maxHeartbeats 4000000 in
theorem x_X3_authenticator1 {G : zG} {N : Nat} {Λ : zLay} {l : Launch} (hO : zOK G l) (z : zM) (hA : zPo G N Λ) {S : aS} (hI : wI z 1 S) (hS : aOK S) {v i w : Int32} (hv : ¬ isM v S.n) : zMX G N Λ l yX3_authenticator cX3_authenticator 5 (some .int) 7 [.ref (G.h + 0), .int v, .int i, .int w] z "java/lang/IndexOutOfBoundsException" := by
  refine zMX_of hO (by decide) (Nat.le_of_ble_eq_true rfl) ?_
  intro pP eE sS mM bB tT cC ls C hout hw hl
  have hl : lv_has ls 5 [(0, .ref (G.h + 0)), (1, .int v), (2, .int i), (3, .int w)] := hl
  refine lv_aload_n C.x C.b dX3_authenticator_0 rfl (lv_at hl 0 rfl) ?_
  refine lv_iload_n C.x C.b dX3_authenticator_1 rfl (lv_at hl 1 rfl) ?_
  exact z_VX (As := [.int v]) (rest := []) C hout hw hl (x_X3_reqM hO _ hA hI hS hv) ivX3_38 hA.lt (hA.at _ _) rfl rfl ⟨(Nat.le_of_ble_eq_true rfl), (Nat.le_of_ble_eq_true rfl)⟩ (Nat.le_of_ble_eq_true rfl) ⟨(Nat.le_of_ble_eq_true rfl), (Nat.le_of_ble_eq_true rfl)⟩ dX3_authenticator_2

set_option maxRecDepth 100000 in
set_option maxHeartbeats 4000000 in
theorem x_X3_authenticator2 {G : zG} {N : Nat} {Λ : zLay} {l : Launch} (hO : zOK G l) (z : zM) (hA : zPo G N Λ) {S : aS} (hI : wI z 1 S) (hS : aOK S) {x : Nat} (hx : x < S.n) (hx6 : x < 6) {i w : Int32} (hi : ¬ isM i (S.m x).held.1) : zMX G N Λ l yX3_authenticator cX3_authenticator 5 (some .int) 7 [.ref (G.h + 0), .int (nI x), .int i, .int w] z "java/lang/IndexOutOfBoundsException" := by
  refine zMX_of hO (by decide) (Nat.le_of_ble_eq_true rfl) ?_
  intro pP eE sS mM bB tT cC ls C hout hw hl
  have hl : lv_has ls 5 [(0, .ref (G.h + 0)), (1, .int (nI x)), (2, .int i), (3, .int w)] := hl
  have hmx := hI.m hx
  have hox := hS.m hx
  have hn6 := hS.n6
  have hhd := hox.held.1
  refine lv_aload_n C.x C.b dX3_authenticator_0 rfl (lv_at hl 0 rfl) ?_
  refine lv_iload_n C.x C.b dX3_authenticator_1 rfl (lv_at hl 1 rfl) ?_
  refine z_V0 (As := [.int (nI x)]) (rest := []) C hw hl (m_X3_reqM hO _ hA hI hS hx) ivX3_38 hA.lt (hA.at _ _) rfl rfl ⟨(Nat.le_of_ble_eq_true rfl), (Nat.le_of_ble_eq_true rfl)⟩ (Nat.le_of_ble_eq_true rfl) ⟨Nat.zero_le _, Nat.zero_le _⟩ dX3_authenticator_2 (fun H locs hw => ?_)
  refine lv_aload_n C.x C.b dX3_authenticator_5 rfl (lv_at hl 0 rfl) ?_
  refine z_get C hw hA.lt (hA.at _ _) flX3_12 rfl dX3_authenticator_6 ?_
  refine z_get C hw hA.w0.lt (hA.w0.at _ _) flX3_44 rfl dX3_authenticator_9 ?_
  refine lv_iload_n C.x C.b dX3_authenticator_12 rfl (lv_at hl 1 rfl) ?_
  refine z_aaldM (a := G.h + (1 + 2 + 8 * x)) C hw hA.w0.lt1 hA.w0.ma (zvin hx6 (by omega)) (by rw [zcl hx6 (by omega)]) dX3_authenticator_13 ?_
  refine z_get C hw (hA.w0.m hx6).lt ((hA.w0.m hx6).at _ _) flX3_141 rfl dX3_authenticator_14 ?_
  refine lv_astore (lv' := [(4, .ref (G.h + (1 + 2 + 8 * x + 4))), (0, .ref (G.h + 0)), (1, .int (nI x)), (2, .int i), (3, .int w)]) C.x C.b dX3_authenticator_17 hl (by decide) rfl (fun ls hl => ?_)
  refine lv_iload_n C.x C.b dX3_authenticator_19 rfl (lv_at hl 3 rfl) ?_
  refine lv_if_lt (tgt := 32) C.x C.b dX3_authenticator_20 (by decide) (fun c_20 => ?_) (fun c_20 => ?_)
  · exact z_thr C hw hl th_144 dX3_authenticator_32 dX3_authenticator_35 dX3_authenticator_36 dX3_authenticator_38 dX3_authenticator_41 hout (Nat.le_of_ble_eq_true rfl) (Nat.le_of_ble_eq_true rfl) (Nat.le_of_ble_eq_true rfl) (Nat.le_of_ble_eq_true rfl)
  · refine lv_iload_n C.x C.b dX3_authenticator_23 rfl (lv_at hl 3 rfl) ?_
    refine lv_aload C.x C.b dX3_authenticator_24 (lv_at hl 0 rfl) ?_
    refine z_get C hw (hA.w0.m hx6).held.lt ((hA.w0.m hx6).held.at _ _) flX3_52 rfl dX3_authenticator_26 ?_
    refine lv_icmp_lt (tgt := 42) C.x C.b dX3_authenticator_29 (by decide) (fun c_29 => absurd c_29 (fun q => hi (isM_lt (by omega) c_20 (by rw [hmx.2.2.2.1.1] at q; exact q)))) (fun c_29 => ?_)
    exact z_thr C hw hl th_144 dX3_authenticator_32 dX3_authenticator_35 dX3_authenticator_36 dX3_authenticator_38 dX3_authenticator_41 hout (Nat.le_of_ble_eq_true rfl) (Nat.le_of_ble_eq_true rfl) (Nat.le_of_ble_eq_true rfl) (Nat.le_of_ble_eq_true rfl)

set_option maxRecDepth 100000 in
set_option maxHeartbeats 4000000 in
theorem x_X3_authenticator3 {G : zG} {N : Nat} {Λ : zLay} {l : Launch} (hO : zOK G l) (z : zM) (hA : zPo G N Λ) {S : aS} (hI : wI z 1 S) (hS : aOK S) {x : Nat} (hx : x < S.n) (hx6 : x < 6) {i : Nat} {w : Int32} (hi : i < (S.m x).held.1) (hw3 : ¬ isM w 3) : zMX G N Λ l yX3_authenticator cX3_authenticator 5 (some .int) 7 [.ref (G.h + 0), .int (nI x), .int (nI i), .int w] z "java/lang/IllegalArgumentException" := by
  refine zMX_of hO (by decide) (Nat.le_of_ble_eq_true rfl) ?_
  intro pP eE sS mM bB tT cC ls C hout hw hl
  have hl : lv_has ls 5 [(0, .ref (G.h + 0)), (1, .int (nI x)), (2, .int (nI i)), (3, .int w)] := hl
  have hmx := hI.m hx
  have hox := hS.m hx
  have hn6 := hS.n6
  have hhd := hox.held.1
  refine lv_aload_n C.x C.b dX3_authenticator_0 rfl (lv_at hl 0 rfl) ?_
  refine lv_iload_n C.x C.b dX3_authenticator_1 rfl (lv_at hl 1 rfl) ?_
  refine z_V0 (As := [.int (nI x)]) (rest := []) C hw hl (m_X3_reqM hO _ hA hI hS hx) ivX3_38 hA.lt (hA.at _ _) rfl rfl ⟨(Nat.le_of_ble_eq_true rfl), (Nat.le_of_ble_eq_true rfl)⟩ (Nat.le_of_ble_eq_true rfl) ⟨Nat.zero_le _, Nat.zero_le _⟩ dX3_authenticator_2 (fun H locs hw => ?_)
  refine lv_aload_n C.x C.b dX3_authenticator_5 rfl (lv_at hl 0 rfl) ?_
  refine z_get C hw hA.lt (hA.at _ _) flX3_12 rfl dX3_authenticator_6 ?_
  refine z_get C hw hA.w0.lt (hA.w0.at _ _) flX3_44 rfl dX3_authenticator_9 ?_
  refine lv_iload_n C.x C.b dX3_authenticator_12 rfl (lv_at hl 1 rfl) ?_
  refine z_aaldM (a := G.h + (1 + 2 + 8 * x)) C hw hA.w0.lt1 hA.w0.ma (zvin hx6 (by omega)) (by rw [zcl hx6 (by omega)]) dX3_authenticator_13 ?_
  refine z_get C hw (hA.w0.m hx6).lt ((hA.w0.m hx6).at _ _) flX3_141 rfl dX3_authenticator_14 ?_
  refine lv_astore (lv' := [(4, .ref (G.h + (1 + 2 + 8 * x + 4))), (0, .ref (G.h + 0)), (1, .int (nI x)), (2, .int (nI i)), (3, .int w)]) C.x C.b dX3_authenticator_17 hl (by decide) rfl (fun ls hl => ?_)
  refine lv_iload_n C.x C.b dX3_authenticator_19 rfl (lv_at hl 3 rfl) ?_
  refine lv_if_lt (tgt := 32) C.x C.b dX3_authenticator_20 (by decide) (fun c_20 => absurd c_20 (zneg (by omega))) (fun c_20 => ?_)
  refine lv_iload_n C.x C.b dX3_authenticator_23 rfl (lv_at hl 3 rfl) ?_
  refine lv_aload C.x C.b dX3_authenticator_24 (lv_at hl 0 rfl) ?_
  refine z_get C hw (hA.w0.m hx6).held.lt ((hA.w0.m hx6).held.at _ _) flX3_52 rfl dX3_authenticator_26 ?_
  refine lv_icmp_lt (tgt := 42) C.x C.b dX3_authenticator_29 (by decide) (fun c_29 => ?_) (fun c_29 => absurd (by rw [hmx.2.2.2.1.1]; exact zlt (by omega) hi) c_29)
  refine lv_iload_n C.x C.b dX3_authenticator_42 rfl (lv_at hl 4 rfl) ?_
  refine lv_if_lt (tgt := 51) C.x C.b dX3_authenticator_43 (by decide) (fun c_43 => ?_) (fun c_43 => ?_)
  · exact z_thr C hw hl th_146 dX3_authenticator_51 dX3_authenticator_54 dX3_authenticator_55 dX3_authenticator_57 dX3_authenticator_60 hout (Nat.le_of_ble_eq_true rfl) (Nat.le_of_ble_eq_true rfl) (Nat.le_of_ble_eq_true rfl) (Nat.le_of_ble_eq_true rfl)
  · refine lv_iload_n C.x C.b dX3_authenticator_46 rfl (lv_at hl 4 rfl) ?_
    refine z_pc (pc2 := 47) rfl ?_
    refine lv_iconst (v := 3) C.x C.b dX3_authenticator_47 (by decide) ?_
    refine lv_icmp_lt (tgt := 61) C.x C.b dX3_authenticator_48 (by decide) (fun c_48 => absurd c_48 (fun q => hw3 (isM_lt (by omega) c_43 q))) (fun c_48 => ?_)
    exact z_thr C hw hl th_146 dX3_authenticator_51 dX3_authenticator_54 dX3_authenticator_55 dX3_authenticator_57 dX3_authenticator_60 hout (Nat.le_of_ble_eq_true rfl) (Nat.le_of_ble_eq_true rfl) (Nat.le_of_ble_eq_true rfl) (Nat.le_of_ble_eq_true rfl)

set_option maxRecDepth 100000 in
set_option maxHeartbeats 4000000 in
theorem m_X3_verdict {G : zG} {N : Nat} {Λ : zLay} {l : Launch} (hO : zOK G l) (z : zM) (hA : zPo G N Λ) {S : aS} (hI : wI z 1 S) (hS : aOK S) {x : Nat} (hx : x < S.n) (hx6 : x < 6) {w : Nat} (hwn : w < S.n) (hw6 : w < 6) : zMet G N Λ l yX3_verdict cX3_verdict 3 (some .int) 2 [.ref (G.h + 0), .int (nI w), .int (nI x)] z (some (.int (nI ((S.m x).ver w)))) z := by
  refine zMet_of hO (by decide) (Nat.le_of_ble_eq_true rfl) ?_
  intro pP eE sS mM bB tT cC ls C hw hl
  have hl : lv_has ls 3 [(0, .ref (G.h + 0)), (1, .int (nI w)), (2, .int (nI x))] := hl
  have hmx := hI.m hx
  have hox := hS.m hx
  have hn6 := hS.n6
  refine lv_aload_n C.x C.b dX3_verdict_0 rfl (lv_at hl 0 rfl) ?_
  refine lv_iload_n C.x C.b dX3_verdict_1 rfl (lv_at hl 1 rfl) ?_
  refine z_V0 (As := [.int (nI w)]) (rest := []) C hw hl (m_X3_reqM hO _ hA hI hS hwn) ivX3_38 hA.lt (hA.at _ _) rfl rfl ⟨(Nat.le_of_ble_eq_true rfl), (Nat.le_of_ble_eq_true rfl)⟩ (Nat.le_of_ble_eq_true rfl) ⟨Nat.zero_le _, Nat.zero_le _⟩ dX3_verdict_2 (fun H locs hw => ?_)
  refine lv_aload_n C.x C.b dX3_verdict_5 rfl (lv_at hl 0 rfl) ?_
  refine lv_iload_n C.x C.b dX3_verdict_6 rfl (lv_at hl 2 rfl) ?_
  refine z_V0 (As := [.int (nI x)]) (rest := []) C hw hl (m_X3_reqM hO _ hA hI hS hx) ivX3_38 hA.lt (hA.at _ _) rfl rfl ⟨(Nat.le_of_ble_eq_true rfl), (Nat.le_of_ble_eq_true rfl)⟩ (Nat.le_of_ble_eq_true rfl) ⟨Nat.zero_le _, Nat.zero_le _⟩ dX3_verdict_7 (fun H locs hw => ?_)
  refine lv_aload_n C.x C.b dX3_verdict_10 rfl (lv_at hl 0 rfl) ?_
  refine z_get C hw hA.lt (hA.at _ _) flX3_12 rfl dX3_verdict_11 ?_
  refine z_get C hw hA.w0.lt (hA.w0.at _ _) flX3_44 rfl dX3_verdict_14 ?_
  refine lv_iload_n C.x C.b dX3_verdict_17 rfl (lv_at hl 2 rfl) ?_
  refine z_aaldM (a := G.h + (1 + 2 + 8 * x)) C hw hA.w0.lt1 hA.w0.ma (zvin hx6 (by omega)) (by rw [zcl hx6 (by omega)]) dX3_verdict_18 ?_
  refine z_get C hw (hA.w0.m hx6).lt ((hA.w0.m hx6).at _ _) flX3_161 rfl dX3_verdict_19 ?_
  refine lv_iload_n C.x C.b dX3_verdict_22 rfl (lv_at hl 1 rfl) ?_
  refine z_iald C hw ((hA.w0.m hx6).lt1) ((hA.w0.m hx6).ver) (zvin hw6 (by omega)) dX3_verdict_23 ?_
  refine z_topi (y := nI ((S.m x).ver w)) (by rw [zcl hw6 (by omega)]; exact hmx.2.1 w hw6) ?_
  exact z_iret C hw dX3_verdict_24 (rfl) (rfl)

set_option maxRecDepth 100000 in
set_option maxHeartbeats 4000000 in
theorem x_X3_verdict1 {G : zG} {N : Nat} {Λ : zLay} {l : Launch} (hO : zOK G l) (z : zM) (hA : zPo G N Λ) {S : aS} (hI : wI z 1 S) (hS : aOK S) {v x : Int32} (hv : ¬ isM v S.n) : zMX G N Λ l yX3_verdict cX3_verdict 3 (some .int) 7 [.ref (G.h + 0), .int v, .int x] z "java/lang/IndexOutOfBoundsException" := by
  refine zMX_of hO (by decide) (Nat.le_of_ble_eq_true rfl) ?_
  intro pP eE sS mM bB tT cC ls C hout hw hl
  have hl : lv_has ls 3 [(0, .ref (G.h + 0)), (1, .int v), (2, .int x)] := hl
  refine lv_aload_n C.x C.b dX3_verdict_0 rfl (lv_at hl 0 rfl) ?_
  refine lv_iload_n C.x C.b dX3_verdict_1 rfl (lv_at hl 1 rfl) ?_
  exact z_VX (As := [.int v]) (rest := []) C hout hw hl (x_X3_reqM hO _ hA hI hS hv) ivX3_38 hA.lt (hA.at _ _) rfl rfl ⟨(Nat.le_of_ble_eq_true rfl), (Nat.le_of_ble_eq_true rfl)⟩ (Nat.le_of_ble_eq_true rfl) ⟨(Nat.le_of_ble_eq_true rfl), (Nat.le_of_ble_eq_true rfl)⟩ dX3_verdict_2

set_option maxRecDepth 100000 in
set_option maxHeartbeats 4000000 in
theorem x_X3_verdict2 {G : zG} {N : Nat} {Λ : zLay} {l : Launch} (hO : zOK G l) (z : zM) (hA : zPo G N Λ) {S : aS} (hI : wI z 1 S) (hS : aOK S) {w : Nat} (hwn : w < S.n) {v : Int32} (hv : ¬ isM v S.n) : zMX G N Λ l yX3_verdict cX3_verdict 3 (some .int) 7 [.ref (G.h + 0), .int (nI w), .int v] z "java/lang/IndexOutOfBoundsException" := by
  refine zMX_of hO (by decide) (Nat.le_of_ble_eq_true rfl) ?_
  intro pP eE sS mM bB tT cC ls C hout hw hl
  have hl : lv_has ls 3 [(0, .ref (G.h + 0)), (1, .int (nI w)), (2, .int v)] := hl
  refine lv_aload_n C.x C.b dX3_verdict_0 rfl (lv_at hl 0 rfl) ?_
  refine lv_iload_n C.x C.b dX3_verdict_1 rfl (lv_at hl 1 rfl) ?_
  refine z_V0 (As := [.int (nI w)]) (rest := []) C hw hl (m_X3_reqM hO _ hA hI hS hwn) ivX3_38 hA.lt (hA.at _ _) rfl rfl ⟨(Nat.le_of_ble_eq_true rfl), (Nat.le_of_ble_eq_true rfl)⟩ (Nat.le_of_ble_eq_true rfl) ⟨Nat.zero_le _, Nat.zero_le _⟩ dX3_verdict_2 (fun H locs hw => ?_)
  refine lv_aload_n C.x C.b dX3_verdict_5 rfl (lv_at hl 0 rfl) ?_
  refine lv_iload_n C.x C.b dX3_verdict_6 rfl (lv_at hl 2 rfl) ?_
  exact z_VX (As := [.int v]) (rest := []) C hout hw hl (x_X3_reqM hO _ hA hI hS hv) ivX3_38 hA.lt (hA.at _ _) rfl rfl ⟨(Nat.le_of_ble_eq_true rfl), (Nat.le_of_ble_eq_true rfl)⟩ (Nat.le_of_ble_eq_true rfl) ⟨(Nat.le_of_ble_eq_true rfl), (Nat.le_of_ble_eq_true rfl)⟩ dX3_verdict_7

set_option maxRecDepth 100000 in
set_option maxHeartbeats 4000000 in
theorem m_X3_evidence {G : zG} {N : Nat} {Λ : zLay} {l : Launch} (hO : zOK G l) (z : zM) (hA : zPo G N Λ) {S : aS} (hI : wI z 1 S) (hS : aOK S) {i w : Nat} (hi : i < S.ev.1) (hw4 : w < 4) : zMet G N Λ l yX3_evidence cX3_evidence 3 (some .int) 1 [.ref (G.h + 0), .int (nI i), .int (nI w)] z (some (.int (nI (S.ev.2 i w)))) z := by
  refine zMet_of hO (by decide) (Nat.le_of_ble_eq_true rfl) ?_
  intro pP eE sS mM bB tT cC ls C hw hl
  have hl : lv_has ls 3 [(0, .ref (G.h + 0)), (1, .int (nI i)), (2, .int (nI w))] := hl
  have he3 := hS.e.1
  refine lv_iload_n C.x C.b dX3_evidence_0 rfl (lv_at hl 1 rfl) ?_
  refine lv_if_lt (tgt := 18) C.x C.b dX3_evidence_1 (by decide) (fun c_1 => absurd c_1 (zneg (by omega))) (fun c_1 => ?_)
  refine lv_iload_n C.x C.b dX3_evidence_4 rfl (lv_at hl 1 rfl) ?_
  refine lv_aload_n C.x C.b dX3_evidence_5 rfl (lv_at hl 0 rfl) ?_
  refine z_get C hw hA.lt (hA.at _ _) flX3_12 rfl dX3_evidence_6 ?_
  refine z_get C hw hA.w0.lt (hA.w0.at _ _) flX3_179 rfl dX3_evidence_9 ?_
  refine z_get C hw hA.w0.evid.lt (hA.w0.evid.at _ _) flX3_52 rfl dX3_evidence_12 ?_
  refine lv_icmp_lt (tgt := 28) C.x C.b dX3_evidence_15 (by decide) (fun c_15 => ?_) (fun c_15 => absurd (by rw [hI.e.1]; exact zlt (by omega) hi) c_15)
  refine lv_iload_n C.x C.b dX3_evidence_28 rfl (lv_at hl 2 rfl) ?_
  refine lv_if_lt (tgt := 37) C.x C.b dX3_evidence_29 (by decide) (fun c_29 => absurd c_29 (zneg (by omega))) (fun c_29 => ?_)
  refine lv_iload_n C.x C.b dX3_evidence_32 rfl (lv_at hl 2 rfl) ?_
  refine lv_iconst (v := 4) C.x C.b dX3_evidence_33 (by decide) ?_
  refine lv_icmp_lt (tgt := 47) C.x C.b dX3_evidence_34 (by decide) (fun c_34 => ?_) (fun c_34 => absurd (zlt (b := 4) (by omega) hw4) c_34)
  refine lv_aload_n C.x C.b dX3_evidence_47 rfl (lv_at hl 0 rfl) ?_
  refine z_get C hw hA.lt (hA.at _ _) flX3_12 rfl dX3_evidence_48 ?_
  refine z_get C hw hA.w0.lt (hA.w0.at _ _) flX3_179 rfl dX3_evidence_51 ?_
  refine lv_iload_n C.x C.b dX3_evidence_54 rfl (lv_at hl 1 rfl) ?_
  refine lv_iload_n C.x C.b dX3_evidence_55 rfl (lv_at hl 2 rfl) ?_
  refine z_Vv (As := [.int (nI i), .int (nI w)]) (rest := []) C hw hl (m_X1_get hO _ hA.w0.evid hI.e.1 he3 (r := i) (c := w) hi hw4) ivX3_116 hA.w0.evid.lt (hA.w0.evid.at _ _) rfl rfl ⟨(Nat.le_of_ble_eq_true rfl), (Nat.le_of_ble_eq_true rfl)⟩ (Nat.le_of_ble_eq_true rfl) ⟨Nat.zero_le _, Nat.zero_le _⟩ dX3_evidence_56 (fun H locs hw => ?_)
  refine z_topi (y := nI (S.ev.2 i w)) (hI.e.2 i hi w hw4) ?_
  refine z_pc (pc2 := 59) rfl ?_
  exact z_iret C hw dX3_evidence_59 (rfl) (rfl)

set_option maxRecDepth 100000 in
set_option maxHeartbeats 4000000 in
theorem x_X3_evidence1 {G : zG} {N : Nat} {Λ : zLay} {l : Launch} (hO : zOK G l) (z : zM) (hA : zPo G N Λ) {S : aS} (hI : wI z 1 S) (hS : aOK S) {i w : Int32} (hi : ¬ isM i S.ev.1) : zMX G N Λ l yX3_evidence cX3_evidence 3 (some .int) 6 [.ref (G.h + 0), .int i, .int w] z "java/lang/IndexOutOfBoundsException" := by
  refine zMX_of hO (by decide) (Nat.le_of_ble_eq_true rfl) ?_
  intro pP eE sS mM bB tT cC ls C hout hw hl
  have hl : lv_has ls 3 [(0, .ref (G.h + 0)), (1, .int i), (2, .int w)] := hl
  have he3 := hS.e.1
  refine lv_iload_n C.x C.b dX3_evidence_0 rfl (lv_at hl 1 rfl) ?_
  refine lv_if_lt (tgt := 18) C.x C.b dX3_evidence_1 (by decide) (fun c_1 => ?_) (fun c_1 => ?_)
  · exact z_thr C hw hl th_182 dX3_evidence_18 dX3_evidence_21 dX3_evidence_22 dX3_evidence_24 dX3_evidence_27 hout (Nat.le_of_ble_eq_true rfl) (Nat.le_of_ble_eq_true rfl) (Nat.le_of_ble_eq_true rfl) (Nat.le_of_ble_eq_true rfl)
  · refine lv_iload_n C.x C.b dX3_evidence_4 rfl (lv_at hl 1 rfl) ?_
    refine lv_aload_n C.x C.b dX3_evidence_5 rfl (lv_at hl 0 rfl) ?_
    refine z_get C hw hA.lt (hA.at _ _) flX3_12 rfl dX3_evidence_6 ?_
    refine z_get C hw hA.w0.lt (hA.w0.at _ _) flX3_179 rfl dX3_evidence_9 ?_
    refine z_get C hw hA.w0.evid.lt (hA.w0.evid.at _ _) flX3_52 rfl dX3_evidence_12 ?_
    refine lv_icmp_lt (tgt := 28) C.x C.b dX3_evidence_15 (by decide) (fun c_15 => absurd c_15 (fun q => hi (isM_lt (by omega) c_1 (by rw [hI.e.1] at q; exact q)))) (fun c_15 => ?_)
    exact z_thr C hw hl th_182 dX3_evidence_18 dX3_evidence_21 dX3_evidence_22 dX3_evidence_24 dX3_evidence_27 hout (Nat.le_of_ble_eq_true rfl) (Nat.le_of_ble_eq_true rfl) (Nat.le_of_ble_eq_true rfl) (Nat.le_of_ble_eq_true rfl)

set_option maxRecDepth 100000 in
set_option maxHeartbeats 4000000 in
theorem x_X3_evidence2 {G : zG} {N : Nat} {Λ : zLay} {l : Launch} (hO : zOK G l) (z : zM) (hA : zPo G N Λ) {S : aS} (hI : wI z 1 S) (hS : aOK S) {i : Nat} {w : Int32} (hi : i < S.ev.1) (hw4 : ¬ isM w 4) : zMX G N Λ l yX3_evidence cX3_evidence 3 (some .int) 6 [.ref (G.h + 0), .int (nI i), .int w] z "java/lang/IllegalArgumentException" := by
  refine zMX_of hO (by decide) (Nat.le_of_ble_eq_true rfl) ?_
  intro pP eE sS mM bB tT cC ls C hout hw hl
  have hl : lv_has ls 3 [(0, .ref (G.h + 0)), (1, .int (nI i)), (2, .int w)] := hl
  have he3 := hS.e.1
  refine lv_iload_n C.x C.b dX3_evidence_0 rfl (lv_at hl 1 rfl) ?_
  refine lv_if_lt (tgt := 18) C.x C.b dX3_evidence_1 (by decide) (fun c_1 => absurd c_1 (zneg (by omega))) (fun c_1 => ?_)
  refine lv_iload_n C.x C.b dX3_evidence_4 rfl (lv_at hl 1 rfl) ?_
  refine lv_aload_n C.x C.b dX3_evidence_5 rfl (lv_at hl 0 rfl) ?_
  refine z_get C hw hA.lt (hA.at _ _) flX3_12 rfl dX3_evidence_6 ?_
  refine z_get C hw hA.w0.lt (hA.w0.at _ _) flX3_179 rfl dX3_evidence_9 ?_
  refine z_get C hw hA.w0.evid.lt (hA.w0.evid.at _ _) flX3_52 rfl dX3_evidence_12 ?_
  refine lv_icmp_lt (tgt := 28) C.x C.b dX3_evidence_15 (by decide) (fun c_15 => ?_) (fun c_15 => absurd (by rw [hI.e.1]; exact zlt (by omega) hi) c_15)
  refine lv_iload_n C.x C.b dX3_evidence_28 rfl (lv_at hl 2 rfl) ?_
  refine lv_if_lt (tgt := 37) C.x C.b dX3_evidence_29 (by decide) (fun c_29 => ?_) (fun c_29 => ?_)
  · exact z_thr C hw hl th_146 dX3_evidence_37 dX3_evidence_40 dX3_evidence_41 dX3_evidence_43 dX3_evidence_46 hout (Nat.le_of_ble_eq_true rfl) (Nat.le_of_ble_eq_true rfl) (Nat.le_of_ble_eq_true rfl) (Nat.le_of_ble_eq_true rfl)
  · refine lv_iload_n C.x C.b dX3_evidence_32 rfl (lv_at hl 2 rfl) ?_
    refine lv_iconst (v := 4) C.x C.b dX3_evidence_33 (by decide) ?_
    refine lv_icmp_lt (tgt := 47) C.x C.b dX3_evidence_34 (by decide) (fun c_34 => absurd c_34 (fun q => hw4 (isM_lt (by omega) c_29 q))) (fun c_34 => ?_)
    exact z_thr C hw hl th_146 dX3_evidence_37 dX3_evidence_40 dX3_evidence_41 dX3_evidence_43 dX3_evidence_46 hout (Nat.le_of_ble_eq_true rfl) (Nat.le_of_ble_eq_true rfl) (Nat.le_of_ble_eq_true rfl) (Nat.le_of_ble_eq_true rfl)

set_option maxRecDepth 100000 in
set_option maxHeartbeats 4000000 in
theorem m_X3_reset {G : zG} {N : Nat} {Λ : zLay} {l : Launch} (hO : zOK G l) (z : zM) (hA : zPo G N Λ) {S : aS} (hI : wI z 1 S) (hS : aOK S) {z1 : zM} (hsv : zMet G N Λ l yX3_save cX3_save 1 none 4 [.ref (G.h + 0)] z none z1) (hI1 : wI z1 1 S) {n : Nat} (hn2 : 2 ≤ n) (hn6 : n ≤ 6) : zMet G N Λ l yX3_reset cX3_reset 3 (some .int) 5 [.ref (G.h + 0), .int (nI n)] z (some (.int (nI S.n))) (bgnz z1 1 n) := by
  refine zMet_of hO (by decide) (Nat.le_of_ble_eq_true rfl) ?_
  intro pP eE sS mM bB tT cC ls C hw hl
  have hl : lv_has ls 3 [(0, .ref (G.h + 0)), (1, .int (nI n))] := hl
  refine lv_iload_n C.x C.b dX3_reset_0 rfl (lv_at hl 1 rfl) ?_
  refine lv_iconst (v := 2) C.x C.b dX3_reset_1 (by decide) ?_
  refine lv_icmp_lt (tgt := 11) C.x C.b dX3_reset_2 (by decide) (fun c_2 => absurd c_2 (znlt (b := 2) (by omega) hn2)) (fun c_2 => ?_)
  refine lv_iload_n C.x C.b dX3_reset_5 rfl (lv_at hl 1 rfl) ?_
  refine lv_bipush (v := 6) C.x C.b dX3_reset_6 (by decide) ?_
  refine lv_icmp_le (tgt := 21) C.x C.b dX3_reset_8 (by decide) (fun c_8 => ?_) (fun c_8 => absurd (zle (b := 6) (by omega) hn6) c_8)
  refine lv_aload_n C.x C.b dX3_reset_21 rfl (lv_at hl 0 rfl) ?_
  refine z_V0 (As := []) (rest := []) C hw hl (hsv) ivX3_31 hA.lt (hA.at _ _) rfl rfl ⟨(Nat.le_of_ble_eq_true rfl), (Nat.le_of_ble_eq_true rfl)⟩ (Nat.le_of_ble_eq_true rfl) ⟨Nat.zero_le _, Nat.zero_le _⟩ dX3_reset_22 (fun H locs hw => ?_)
  obtain ⟨z_1, ez_1⟩ : ∃ q_9, q_9 = z1 := ⟨_, rfl⟩
  have hw : zS G N Λ z_1 sS H locs := by rw [ez_1]; exact hw
  refine lv_aload_n C.x C.b dX3_reset_25 rfl (lv_at hl 0 rfl) ?_
  refine z_get C hw hA.lt (hA.at _ _) flX3_12 rfl dX3_reset_26 ?_
  refine z_get C hw hA.w0.lt (hA.w0.at _ _) flX3_34 rfl dX3_reset_29 ?_
  refine z_topi (y := nI S.n) (by rw [ez_1]; exact hI1.n) ?_
  refine lv_istore_n (lv' := [(2, .int (nI S.n)), (0, .ref (G.h + 0)), (1, .int (nI n))]) C.x C.b dX3_reset_32 rfl hl (by decide) rfl (fun ls hl => ?_)
  refine lv_aload_n C.x C.b dX3_reset_33 rfl (lv_at hl 1 rfl) ?_
  refine z_get C hw hA.lt (hA.at _ _) flX3_12 rfl dX3_reset_34 ?_
  refine lv_iload_n C.x C.b dX3_reset_37 rfl (lv_at hl 2 rfl) ?_
  refine z_V0 (As := [.int (nI n)]) (rest := []) C hw hl (m_X2_begin hO _ hA.w0 (by rw [ez_1]; exact hI1.2) hn6) ivX3_16 hA.w0.lt (hA.w0.at _ _) rfl rfl ⟨(Nat.le_of_ble_eq_true rfl), (Nat.le_of_ble_eq_true rfl)⟩ (Nat.le_of_ble_eq_true rfl) ⟨Nat.zero_le _, Nat.zero_le _⟩ dX3_reset_38 (fun H locs hw => ?_)
  obtain ⟨z_2, ez_2⟩ : ∃ q_9, q_9 = bgnz z_1 1 n := ⟨_, rfl⟩
  have hw : zS G N Λ z_2 sS H locs := by rw [ez_2]; exact hw
  refine lv_iload_n C.x C.b dX3_reset_41 rfl (lv_at hl 0 rfl) ?_
  exact z_iret C hw dX3_reset_42 (rfl) (by rw [ez_2, ez_1])

set_option maxRecDepth 100000 in
set_option maxHeartbeats 4000000 in
theorem x_X3_reset {G : zG} {N : Nat} {Λ : zLay} {l : Launch} (hO : zOK G l) (z : zM) (hA : zPo G N Λ) {v : Int32} (hv : ¬ ∃ n, 2 ≤ n ∧ n ≤ 6 ∧ v = nI n) : zMX G N Λ l yX3_reset cX3_reset 3 (some .int) 6 [.ref (G.h + 0), .int v] z "java/lang/IllegalArgumentException" := by
  refine zMX_of hO (by decide) (Nat.le_of_ble_eq_true rfl) ?_
  intro pP eE sS mM bB tT cC ls C hout hw hl
  have hl : lv_has ls 3 [(0, .ref (G.h + 0)), (1, .int v)] := hl
  refine lv_iload_n C.x C.b dX3_reset_0 rfl (lv_at hl 1 rfl) ?_
  refine lv_iconst (v := 2) C.x C.b dX3_reset_1 (by decide) ?_
  refine lv_icmp_lt (tgt := 11) C.x C.b dX3_reset_2 (by decide) (fun c_2 => ?_) (fun c_2 => ?_)
  · exact z_thr C hw hl th_26 dX3_reset_11 dX3_reset_14 dX3_reset_15 dX3_reset_17 dX3_reset_20 hout (Nat.le_of_ble_eq_true rfl) (Nat.le_of_ble_eq_true rfl) (Nat.le_of_ble_eq_true rfl) (Nat.le_of_ble_eq_true rfl)
  · refine lv_iload_n C.x C.b dX3_reset_5 rfl (lv_at hl 1 rfl) ?_
    refine lv_bipush (v := 6) C.x C.b dX3_reset_6 (by decide) ?_
    refine lv_icmp_le (tgt := 21) C.x C.b dX3_reset_8 (by decide) (fun c_8 => absurd c_8 (fun q => hv (isR_of (lo := 2) (hi := 6) (by omega) (by omega) c_2 q))) (fun c_8 => ?_)
    exact z_thr C hw hl th_26 dX3_reset_11 dX3_reset_14 dX3_reset_15 dX3_reset_17 dX3_reset_20 hout (Nat.le_of_ble_eq_true rfl) (Nat.le_of_ble_eq_true rfl) (Nat.le_of_ble_eq_true rfl) (Nat.le_of_ble_eq_true rfl)

set_option maxRecDepth 100000 in
set_option maxHeartbeats 4000000 in
theorem m_X3_setSilent {G : zG} {N : Nat} {Λ : zLay} {l : Launch} (hO : zOK G l) (z : zM) (hA : zPo G N Λ) {S : aS} (hI : wI z 1 S) (hS : aOK S) {x : Nat} (hx : x < S.n) (hx6 : x < 6) {z1 : zM} (hsv : zMet G N Λ l yX3_save cX3_save 1 none 4 [.ref (G.h + 0)] z none z1) (hI1 : wI z1 1 S) {b : Nat} (hb : b < 2) : zMet G N Λ l yX3_setSilent cX3_setSilent 4 (some .int) 5 [.ref (G.h + 0), .int (nI x), .int (nI b)] z (some (.int (nI (S.m x).pend.1))) (zi z1 (1 + 2 + 8 * x) 2 (nI b)) := by
  refine zMet_of hO (by decide) (Nat.le_of_ble_eq_true rfl) ?_
  intro pP eE sS mM bB tT cC ls C hw hl
  have hl : lv_has ls 4 [(0, .ref (G.h + 0)), (1, .int (nI x)), (2, .int (nI b))] := hl
  have hmx := hI.m hx
  have hox := hS.m hx
  have hn6 := hS.n6
  have hm1 := hI1.m hx
  refine lv_aload_n C.x C.b dX3_setSilent_0 rfl (lv_at hl 0 rfl) ?_
  refine lv_iload_n C.x C.b dX3_setSilent_1 rfl (lv_at hl 1 rfl) ?_
  refine z_V0 (As := [.int (nI x)]) (rest := []) C hw hl (m_X3_reqM hO _ hA hI hS hx) ivX3_38 hA.lt (hA.at _ _) rfl rfl ⟨(Nat.le_of_ble_eq_true rfl), (Nat.le_of_ble_eq_true rfl)⟩ (Nat.le_of_ble_eq_true rfl) ⟨Nat.zero_le _, Nat.zero_le _⟩ dX3_setSilent_2 (fun H locs hw => ?_)
  refine lv_aload_n C.x C.b dX3_setSilent_5 rfl (lv_at hl 0 rfl) ?_
  refine z_V0 (As := []) (rest := []) C hw hl (hsv) ivX3_31 hA.lt (hA.at _ _) rfl rfl ⟨(Nat.le_of_ble_eq_true rfl), (Nat.le_of_ble_eq_true rfl)⟩ (Nat.le_of_ble_eq_true rfl) ⟨Nat.zero_le _, Nat.zero_le _⟩ dX3_setSilent_6 (fun H locs hw => ?_)
  obtain ⟨z_1, ez_1⟩ : ∃ q_9, q_9 = z1 := ⟨_, rfl⟩
  have hw : zS G N Λ z_1 sS H locs := by rw [ez_1]; exact hw
  refine lv_aload_n C.x C.b dX3_setSilent_9 rfl (lv_at hl 0 rfl) ?_
  refine z_get C hw hA.lt (hA.at _ _) flX3_12 rfl dX3_setSilent_10 ?_
  refine z_get C hw hA.w0.lt (hA.w0.at _ _) flX3_44 rfl dX3_setSilent_13 ?_
  refine lv_iload_n C.x C.b dX3_setSilent_16 rfl (lv_at hl 1 rfl) ?_
  refine z_aaldM (a := G.h + (1 + 2 + 8 * x)) C hw hA.w0.lt1 hA.w0.ma (zvin hx6 (by omega)) (by rw [zcl hx6 (by omega)]) dX3_setSilent_17 ?_
  refine lv_astore_n (lv' := [(3, .ref (G.h + (1 + 2 + 8 * x))), (0, .ref (G.h + 0)), (1, .int (nI x)), (2, .int (nI b))]) C.x C.b dX3_setSilent_18 rfl hl (by decide) rfl (fun ls hl => ?_)
  refine lv_aload_n C.x C.b dX3_setSilent_19 rfl (lv_at hl 0 rfl) ?_
  refine lv_iload_n C.x C.b dX3_setSilent_20 rfl (lv_at hl 3 rfl) ?_
  refine z_put C hw (hA.w0.m hx6).lt ((hA.w0.m hx6).at _ _) ptX3_90 ((hA.w0.m hx6).at _ _) (zbool hb) (zboolf hb) (Nat.le_of_ble_eq_true rfl) dX3_setSilent_21 (fun H locs hw => ?_)
  obtain ⟨z_2, ez_2⟩ : ∃ q_9, q_9 = zi z_1 (1 + 2 + 8 * x) 2 (nI b) := ⟨_, rfl⟩
  have hw : zS G N Λ z_2 sS H locs := by rw [ez_2]; exact hw
  refine lv_aload_n C.x C.b dX3_setSilent_24 rfl (lv_at hl 0 rfl) ?_
  refine z_get C hw (hA.w0.m hx6).lt ((hA.w0.m hx6).at _ _) flX3_94 rfl dX3_setSilent_25 ?_
  refine z_get C hw (hA.w0.m hx6).pend.lt ((hA.w0.m hx6).pend.at _ _) flX3_52 rfl dX3_setSilent_28 ?_
  refine z_topi (y := nI (S.m x).pend.1) (by rw [ez_2, zi_at, if_neg (by omega), ez_1]; exact hm1.2.2.2.2.1) ?_
  exact z_iret C hw dX3_setSilent_31 (rfl) (by rw [ez_2, ez_1])

set_option maxRecDepth 100000 in
set_option maxHeartbeats 4000000 in
theorem x_X3_setSilent {G : zG} {N : Nat} {Λ : zLay} {l : Launch} (hO : zOK G l) (z : zM) (hA : zPo G N Λ) {S : aS} (hI : wI z 1 S) (hS : aOK S) {v b : Int32} (hv : ¬ isM v S.n) : zMX G N Λ l yX3_setSilent cX3_setSilent 4 (some .int) 7 [.ref (G.h + 0), .int v, .int b] z "java/lang/IndexOutOfBoundsException" := by
  refine zMX_of hO (by decide) (Nat.le_of_ble_eq_true rfl) ?_
  intro pP eE sS mM bB tT cC ls C hout hw hl
  have hl : lv_has ls 4 [(0, .ref (G.h + 0)), (1, .int v), (2, .int b)] := hl
  refine lv_aload_n C.x C.b dX3_setSilent_0 rfl (lv_at hl 0 rfl) ?_
  refine lv_iload_n C.x C.b dX3_setSilent_1 rfl (lv_at hl 1 rfl) ?_
  exact z_VX (As := [.int v]) (rest := []) C hout hw hl (x_X3_reqM hO _ hA hI hS hv) ivX3_38 hA.lt (hA.at _ _) rfl rfl ⟨(Nat.le_of_ble_eq_true rfl), (Nat.le_of_ble_eq_true rfl)⟩ (Nat.le_of_ble_eq_true rfl) ⟨(Nat.le_of_ble_eq_true rfl), (Nat.le_of_ble_eq_true rfl)⟩ dX3_setSilent_2

set_option maxRecDepth 100000 in
set_option maxHeartbeats 4000000 in
theorem m_X3_lie {G : zG} {N : Nat} {Λ : zLay} {l : Launch} (hO : zOK G l) (z : zM) (hA : zPo G N Λ) {S : aS} (hI : wI z 1 S) (hS : aOK S) {x : Nat} (hx : x < S.n) (hx6 : x < 6) {z1 : zM} (hsv : zMet G N Λ l yX3_save cX3_save 1 none 4 [.ref (G.h + 0)] z none z1) (hI1 : wI z1 1 S) : zMet G N Λ l yX3_lie cX3_lie 4 (some .boolean) 5 [.ref (G.h + 0), .int (nI x)] z (some (.int (nI (S.m x).lie))) (zi z1 (1 + 2 + 8 * x) 3 1) := by
  refine zMet_of hO (by decide) (Nat.le_of_ble_eq_true rfl) ?_
  intro pP eE sS mM bB tT cC ls C hw hl
  have hl : lv_has ls 4 [(0, .ref (G.h + 0)), (1, .int (nI x))] := hl
  have hmx := hI.m hx
  have hox := hS.m hx
  have hn6 := hS.n6
  have hm1 := hI1.m hx
  have hli := hox.lie
  refine lv_aload_n C.x C.b dX3_lie_0 rfl (lv_at hl 0 rfl) ?_
  refine lv_iload_n C.x C.b dX3_lie_1 rfl (lv_at hl 1 rfl) ?_
  refine z_V0 (As := [.int (nI x)]) (rest := []) C hw hl (m_X3_reqM hO _ hA hI hS hx) ivX3_38 hA.lt (hA.at _ _) rfl rfl ⟨(Nat.le_of_ble_eq_true rfl), (Nat.le_of_ble_eq_true rfl)⟩ (Nat.le_of_ble_eq_true rfl) ⟨Nat.zero_le _, Nat.zero_le _⟩ dX3_lie_2 (fun H locs hw => ?_)
  refine lv_aload_n C.x C.b dX3_lie_5 rfl (lv_at hl 0 rfl) ?_
  refine z_V0 (As := []) (rest := []) C hw hl (hsv) ivX3_31 hA.lt (hA.at _ _) rfl rfl ⟨(Nat.le_of_ble_eq_true rfl), (Nat.le_of_ble_eq_true rfl)⟩ (Nat.le_of_ble_eq_true rfl) ⟨Nat.zero_le _, Nat.zero_le _⟩ dX3_lie_6 (fun H locs hw => ?_)
  obtain ⟨z_1, ez_1⟩ : ∃ q_9, q_9 = z1 := ⟨_, rfl⟩
  have hw : zS G N Λ z_1 sS H locs := by rw [ez_1]; exact hw
  refine lv_aload_n C.x C.b dX3_lie_9 rfl (lv_at hl 0 rfl) ?_
  refine z_get C hw hA.lt (hA.at _ _) flX3_12 rfl dX3_lie_10 ?_
  refine z_get C hw hA.w0.lt (hA.w0.at _ _) flX3_44 rfl dX3_lie_13 ?_
  refine lv_iload_n C.x C.b dX3_lie_16 rfl (lv_at hl 1 rfl) ?_
  refine z_aaldM (a := G.h + (1 + 2 + 8 * x)) C hw hA.w0.lt1 hA.w0.ma (zvin hx6 (by omega)) (by rw [zcl hx6 (by omega)]) dX3_lie_17 ?_
  refine lv_astore_n (lv' := [(2, .ref (G.h + (1 + 2 + 8 * x))), (0, .ref (G.h + 0)), (1, .int (nI x))]) C.x C.b dX3_lie_18 rfl hl (by decide) rfl (fun ls hl => ?_)
  refine lv_aload_n C.x C.b dX3_lie_19 rfl (lv_at hl 0 rfl) ?_
  refine z_get C hw (hA.w0.m hx6).lt ((hA.w0.m hx6).at _ _) flX3_106 rfl dX3_lie_20 ?_
  refine z_topi (y := nI (S.m x).lie) (by rw [ez_1]; exact hm1.1.2.2.1) ?_
  refine lv_istore_n (lv' := [(3, .int (nI (S.m x).lie)), (2, .ref (G.h + (1 + 2 + 8 * x))), (0, .ref (G.h + 0)), (1, .int (nI x))]) C.x C.b dX3_lie_23 rfl hl (by decide) rfl (fun ls hl => ?_)
  refine lv_aload_n C.x C.b dX3_lie_24 rfl (lv_at hl 1 rfl) ?_
  refine lv_iconst (v := 1) C.x C.b dX3_lie_25 (by decide) ?_
  refine z_put C hw (hA.w0.m hx6).lt ((hA.w0.m hx6).at _ _) ptX3_106 ((hA.w0.m hx6).at _ _) (rfl) (rfl) (Nat.le_of_ble_eq_true rfl) dX3_lie_26 (fun H locs hw => ?_)
  obtain ⟨z_2, ez_2⟩ : ∃ q_9, q_9 = zi z_1 (1 + 2 + 8 * x) 3 1 := ⟨_, rfl⟩
  have hw : zS G N Λ z_2 sS H locs := by rw [ez_2]; exact hw
  refine lv_iload_n C.x C.b dX3_lie_29 rfl (lv_at hl 0 rfl) ?_
  exact z_zret C hw dX3_lie_30 (zb01 hli) (rfl) (by rw [ez_2, ez_1])

set_option maxRecDepth 100000 in
set_option maxHeartbeats 4000000 in
theorem x_X3_lie {G : zG} {N : Nat} {Λ : zLay} {l : Launch} (hO : zOK G l) (z : zM) (hA : zPo G N Λ) {S : aS} (hI : wI z 1 S) (hS : aOK S) {v : Int32} (hv : ¬ isM v S.n) : zMX G N Λ l yX3_lie cX3_lie 4 (some .boolean) 7 [.ref (G.h + 0), .int v] z "java/lang/IndexOutOfBoundsException" := by
  refine zMX_of hO (by decide) (Nat.le_of_ble_eq_true rfl) ?_
  intro pP eE sS mM bB tT cC ls C hout hw hl
  have hl : lv_has ls 4 [(0, .ref (G.h + 0)), (1, .int v)] := hl
  refine lv_aload_n C.x C.b dX3_lie_0 rfl (lv_at hl 0 rfl) ?_
  refine lv_iload_n C.x C.b dX3_lie_1 rfl (lv_at hl 1 rfl) ?_
  exact z_VX (As := [.int v]) (rest := []) C hout hw hl (x_X3_reqM hO _ hA hI hS hv) ivX3_38 hA.lt (hA.at _ _) rfl rfl ⟨(Nat.le_of_ble_eq_true rfl), (Nat.le_of_ble_eq_true rfl)⟩ (Nat.le_of_ble_eq_true rfl) ⟨(Nat.le_of_ble_eq_true rfl), (Nat.le_of_ble_eq_true rfl)⟩ dX3_lie_2

set_option maxRecDepth 100000 in
set_option maxHeartbeats 4000000 in
theorem m_X3_input {G : zG} {N : Nat} {Λ : zLay} {l : Launch} (hO : zOK G l) (z : zM) (hA : zPo G N Λ) {S : aS} (hI : wI z 1 S) (hS : aOK S) {x : Nat} (hx : x < S.n) (hx6 : x < 6) {z1 : zM} (hsv : zMet G N Λ l yX3_save cX3_save 1 none 4 [.ref (G.h + 0)] z none z1) (hI1 : wI z1 1 S) {v : Nat} (hv : v < 1000) (hl38 : (S.m x).log.1 ≤ 38) (hq39 : S.q.1 ≤ 39) : zMet G N Λ l yX3_input cX3_input 4 (some .int) 5 [.ref (G.h + 0), .int (nI x), .int (nI v)] z (some (.int (nI (nx (S.m x).st v 0)))) (tkz z1 1 x S.n (S.m x).st (S.m x).lie S.q.1 (S.m x).log 0 0 v) := by
  refine zMet_of hO (by decide) (Nat.le_of_ble_eq_true rfl) ?_
  intro pP eE sS mM bB tT cC ls C hw hl
  have hl : lv_has ls 4 [(0, .ref (G.h + 0)), (1, .int (nI x)), (2, .int (nI v))] := hl
  have hmx := hI.m hx
  have hox := hS.m hx
  have hn6 := hS.n6
  have hm1 := hI1.m hx
  have hlg := hox.log.1
  obtain ⟨hI2, -⟩ := tk_wI hI1 hn6 hx hl38 hox.held.1 hox.pend.1 (by omega) 0 0 v
  have hm2 := hI2.m (x := x) (by rw [aTake_n]; exact hx)
  refine lv_aload_n C.x C.b dX3_input_0 rfl (lv_at hl 0 rfl) ?_
  refine lv_iload_n C.x C.b dX3_input_1 rfl (lv_at hl 1 rfl) ?_
  refine z_V0 (As := [.int (nI x)]) (rest := []) C hw hl (m_X3_reqM hO _ hA hI hS hx) ivX3_38 hA.lt (hA.at _ _) rfl rfl ⟨(Nat.le_of_ble_eq_true rfl), (Nat.le_of_ble_eq_true rfl)⟩ (Nat.le_of_ble_eq_true rfl) ⟨Nat.zero_le _, Nat.zero_le _⟩ dX3_input_2 (fun H locs hw => ?_)
  refine lv_iload_n C.x C.b dX3_input_5 rfl (lv_at hl 2 rfl) ?_
  refine z_S0 (As := [.int (nI v)]) (rest := []) C hw hl (m_X3_reqV hO _ hv) ivX3_41 rfl rfl ⟨(Nat.le_of_ble_eq_true rfl), (Nat.le_of_ble_eq_true rfl)⟩ (Nat.le_of_ble_eq_true rfl) ⟨Nat.zero_le _, Nat.zero_le _⟩ dX3_input_6 (fun H locs hw => ?_)
  refine lv_aload_n C.x C.b dX3_input_9 rfl (lv_at hl 0 rfl) ?_
  refine z_get C hw hA.lt (hA.at _ _) flX3_12 rfl dX3_input_10 ?_
  refine z_get C hw hA.w0.lt (hA.w0.at _ _) flX3_44 rfl dX3_input_13 ?_
  refine lv_iload_n C.x C.b dX3_input_16 rfl (lv_at hl 1 rfl) ?_
  refine z_aaldM (a := G.h + (1 + 2 + 8 * x)) C hw hA.w0.lt1 hA.w0.ma (zvin hx6 (by omega)) (by rw [zcl hx6 (by omega)]) dX3_input_17 ?_
  refine lv_astore_n (lv' := [(3, .ref (G.h + (1 + 2 + 8 * x))), (0, .ref (G.h + 0)), (1, .int (nI x)), (2, .int (nI v))]) C.x C.b dX3_input_18 rfl hl (by decide) rfl (fun ls hl => ?_)
  refine lv_aload_n C.x C.b dX3_input_19 rfl (lv_at hl 0 rfl) ?_
  refine lv_aload_n C.x C.b dX3_input_20 rfl (lv_at hl 1 rfl) ?_
  refine z_get C hw hA.lt (hA.at _ _) flX3_12 rfl dX3_input_21 ?_
  refine z_get C hw hA.w0.lt (hA.w0.at _ _) flX3_48 rfl dX3_input_24 ?_
  refine z_get C hw hA.w0.queue.lt (hA.w0.queue.at _ _) flX3_52 rfl dX3_input_27 ?_
  refine z_topi (y := nI S.q.1) (hI.q.1) ?_
  refine z_Vv (As := [.int (nI S.q.1)]) (rest := []) C hw hl (m_X0_hasRoom hO _ (hA.w0.m hx6) hmx.2.2.1.1 hlg (q := S.q.1) (by omega)) ivX3_57 (hA.w0.m hx6).lt ((hA.w0.m hx6).at _ _) rfl rfl ⟨(Nat.le_of_ble_eq_true rfl), (Nat.le_of_ble_eq_true rfl)⟩ (Nat.le_of_ble_eq_true rfl) ⟨Nat.zero_le _, Nat.zero_le _⟩ dX3_input_30 (fun H locs hw => ?_)
  refine lv_if_ne (tgt := 46) C.x C.b dX3_input_33 (by decide) (fun c_33 => ?_) (fun c_33 => absurd c_33 (by rw [if_pos ⟨hl38, hq39⟩]; decide))
  refine lv_aload_n C.x C.b dX3_input_46 rfl (lv_at hl 1 rfl) ?_
  refine z_pc (pc2 := 47) rfl ?_
  refine z_V0 (As := []) (rest := []) C hw hl (hsv) ivX3_31 hA.lt (hA.at _ _) rfl rfl ⟨(Nat.le_of_ble_eq_true rfl), (Nat.le_of_ble_eq_true rfl)⟩ (Nat.le_of_ble_eq_true rfl) ⟨Nat.zero_le _, Nat.zero_le _⟩ dX3_input_47 (fun H locs hw => ?_)
  obtain ⟨z_1, ez_1⟩ : ∃ q_9, q_9 = z1 := ⟨_, rfl⟩
  have hw : zS G N Λ z_1 sS H locs := by rw [ez_1]; exact hw
  refine lv_aload_n C.x C.b dX3_input_50 rfl (lv_at hl 1 rfl) ?_
  refine z_get C hw hA.lt (hA.at _ _) flX3_12 rfl dX3_input_51 ?_
  refine lv_aload_n C.x C.b dX3_input_54 rfl (lv_at hl 0 rfl) ?_
  refine lv_iconst (v := 0) C.x C.b dX3_input_55 (by decide) ?_
  refine lv_iconst (v := -1) C.x C.b dX3_input_56 (by decide) ?_
  refine z_topi (y := pI 0) (pI_0.symm) ?_
  refine lv_iload_n C.x C.b dX3_input_57 rfl (lv_at hl 3 rfl) ?_
  refine z_V0 (As := [.ref (G.h + (1 + 2 + 8 * x)), .int 0, .int (pI 0), .int (nI v)]) (rest := []) C hw hl (m_X2_take hO _ hA.w0 hS.n2 hn6 hx hx6 (by rw [ez_1]; exact hm1.1.1) hox.st (by rw [ez_1]; exact hm1.1.2.2.1) hox.lie (by rw [ez_1]; exact hI1.n) (by rw [ez_1]; exact hm1.2.2.1) hl38 (by rw [ez_1]; exact hI1.q.1) (by omega) (a := 0) (q := 0) (v := v) (by omega) (by omega) hv) ivX3_68 hA.w0.lt (hA.w0.at _ _) rfl rfl ⟨(Nat.le_of_ble_eq_true rfl), (Nat.le_of_ble_eq_true rfl)⟩ (Nat.le_of_ble_eq_true rfl) ⟨Nat.zero_le _, Nat.zero_le _⟩ dX3_input_58 (fun H locs hw => ?_)
  obtain ⟨z_2, ez_2⟩ : ∃ q_9, q_9 = tkz z_1 1 x S.n (S.m x).st (S.m x).lie S.q.1 (S.m x).log 0 0 v := ⟨_, rfl⟩
  have hw : zS G N Λ z_2 sS H locs := by rw [ez_2]; exact hw
  refine lv_aload_n C.x C.b dX3_input_61 rfl (lv_at hl 0 rfl) ?_
  refine z_get C hw (hA.w0.m hx6).lt ((hA.w0.m hx6).at _ _) flX3_72 rfl dX3_input_62 ?_
  refine z_topi (y := nI (nx (S.m x).st v 0)) (by rw [ez_2, ez_1]; exact hm2.1.1.trans (by rw [aTake_st])) ?_
  exact z_iret C hw dX3_input_65 (rfl) (by rw [ez_2, ez_1])

set_option maxRecDepth 100000 in
set_option maxHeartbeats 4000000 in
theorem x_X3_input1 {G : zG} {N : Nat} {Λ : zLay} {l : Launch} (hO : zOK G l) (z : zM) (hA : zPo G N Λ) {S : aS} (hI : wI z 1 S) (hS : aOK S) {v u : Int32} (hv : ¬ isM v S.n) : zMX G N Λ l yX3_input cX3_input 4 (some .int) 7 [.ref (G.h + 0), .int v, .int u] z "java/lang/IndexOutOfBoundsException" := by
  refine zMX_of hO (by decide) (Nat.le_of_ble_eq_true rfl) ?_
  intro pP eE sS mM bB tT cC ls C hout hw hl
  have hl : lv_has ls 4 [(0, .ref (G.h + 0)), (1, .int v), (2, .int u)] := hl
  refine lv_aload_n C.x C.b dX3_input_0 rfl (lv_at hl 0 rfl) ?_
  refine lv_iload_n C.x C.b dX3_input_1 rfl (lv_at hl 1 rfl) ?_
  exact z_VX (As := [.int v]) (rest := []) C hout hw hl (x_X3_reqM hO _ hA hI hS hv) ivX3_38 hA.lt (hA.at _ _) rfl rfl ⟨(Nat.le_of_ble_eq_true rfl), (Nat.le_of_ble_eq_true rfl)⟩ (Nat.le_of_ble_eq_true rfl) ⟨(Nat.le_of_ble_eq_true rfl), (Nat.le_of_ble_eq_true rfl)⟩ dX3_input_2

set_option maxRecDepth 100000 in
set_option maxHeartbeats 4000000 in
theorem x_X3_input2 {G : zG} {N : Nat} {Λ : zLay} {l : Launch} (hO : zOK G l) (z : zM) (hA : zPo G N Λ) {S : aS} (hI : wI z 1 S) (hS : aOK S) {x : Nat} (hx : x < S.n) (hx6 : x < 6) {u : Int32} (hu : ¬ isM u 1000) : zMX G N Λ l yX3_input cX3_input 4 (some .int) 7 [.ref (G.h + 0), .int (nI x), .int u] z "java/lang/IllegalArgumentException" := by
  refine zMX_of hO (by decide) (Nat.le_of_ble_eq_true rfl) ?_
  intro pP eE sS mM bB tT cC ls C hout hw hl
  have hl : lv_has ls 4 [(0, .ref (G.h + 0)), (1, .int (nI x)), (2, .int u)] := hl
  refine lv_aload_n C.x C.b dX3_input_0 rfl (lv_at hl 0 rfl) ?_
  refine lv_iload_n C.x C.b dX3_input_1 rfl (lv_at hl 1 rfl) ?_
  refine z_V0 (As := [.int (nI x)]) (rest := []) C hw hl (m_X3_reqM hO _ hA hI hS hx) ivX3_38 hA.lt (hA.at _ _) rfl rfl ⟨(Nat.le_of_ble_eq_true rfl), (Nat.le_of_ble_eq_true rfl)⟩ (Nat.le_of_ble_eq_true rfl) ⟨Nat.zero_le _, Nat.zero_le _⟩ dX3_input_2 (fun H locs hw => ?_)
  refine lv_iload_n C.x C.b dX3_input_5 rfl (lv_at hl 2 rfl) ?_
  exact z_SX (As := [.int u]) (rest := []) C hout hw hl (x_X3_reqV hO _ hu) ivX3_41 rfl rfl ⟨(Nat.le_of_ble_eq_true rfl), (Nat.le_of_ble_eq_true rfl)⟩ (Nat.le_of_ble_eq_true rfl) ⟨(Nat.le_of_ble_eq_true rfl), (Nat.le_of_ble_eq_true rfl)⟩ dX3_input_6

set_option maxRecDepth 100000 in
set_option maxHeartbeats 4000000 in
theorem x_X3_input3 {G : zG} {N : Nat} {Λ : zLay} {l : Launch} (hO : zOK G l) (z : zM) (hA : zPo G N Λ) {S : aS} (hI : wI z 1 S) (hS : aOK S) {x : Nat} (hx : x < S.n) (hx6 : x < 6) {v : Nat} (hv : v < 1000) (hr : ¬ ((S.m x).log.1 ≤ 38 ∧ S.q.1 ≤ 39)) : zMX G N Λ l yX3_input cX3_input 4 (some .int) 6 [.ref (G.h + 0), .int (nI x), .int (nI v)] z "java/lang/IllegalStateException" := by
  refine zMX_of hO (by decide) (Nat.le_of_ble_eq_true rfl) ?_
  intro pP eE sS mM bB tT cC ls C hout hw hl
  have hl : lv_has ls 4 [(0, .ref (G.h + 0)), (1, .int (nI x)), (2, .int (nI v))] := hl
  have hmx := hI.m hx
  have hox := hS.m hx
  have hn6 := hS.n6
  have hlg := hox.log.1
  have hq40 := hS.q.1
  refine lv_aload_n C.x C.b dX3_input_0 rfl (lv_at hl 0 rfl) ?_
  refine lv_iload_n C.x C.b dX3_input_1 rfl (lv_at hl 1 rfl) ?_
  refine z_V0 (As := [.int (nI x)]) (rest := []) C hw hl (m_X3_reqM hO _ hA hI hS hx) ivX3_38 hA.lt (hA.at _ _) rfl rfl ⟨(Nat.le_of_ble_eq_true rfl), (Nat.le_of_ble_eq_true rfl)⟩ (Nat.le_of_ble_eq_true rfl) ⟨Nat.zero_le _, Nat.zero_le _⟩ dX3_input_2 (fun H locs hw => ?_)
  refine lv_iload_n C.x C.b dX3_input_5 rfl (lv_at hl 2 rfl) ?_
  refine z_S0 (As := [.int (nI v)]) (rest := []) C hw hl (m_X3_reqV hO _ hv) ivX3_41 rfl rfl ⟨(Nat.le_of_ble_eq_true rfl), (Nat.le_of_ble_eq_true rfl)⟩ (Nat.le_of_ble_eq_true rfl) ⟨Nat.zero_le _, Nat.zero_le _⟩ dX3_input_6 (fun H locs hw => ?_)
  refine lv_aload_n C.x C.b dX3_input_9 rfl (lv_at hl 0 rfl) ?_
  refine z_get C hw hA.lt (hA.at _ _) flX3_12 rfl dX3_input_10 ?_
  refine z_get C hw hA.w0.lt (hA.w0.at _ _) flX3_44 rfl dX3_input_13 ?_
  refine lv_iload_n C.x C.b dX3_input_16 rfl (lv_at hl 1 rfl) ?_
  refine z_aaldM (a := G.h + (1 + 2 + 8 * x)) C hw hA.w0.lt1 hA.w0.ma (zvin hx6 (by omega)) (by rw [zcl hx6 (by omega)]) dX3_input_17 ?_
  refine lv_astore_n (lv' := [(3, .ref (G.h + (1 + 2 + 8 * x))), (0, .ref (G.h + 0)), (1, .int (nI x)), (2, .int (nI v))]) C.x C.b dX3_input_18 rfl hl (by decide) rfl (fun ls hl => ?_)
  refine lv_aload_n C.x C.b dX3_input_19 rfl (lv_at hl 0 rfl) ?_
  refine lv_aload_n C.x C.b dX3_input_20 rfl (lv_at hl 1 rfl) ?_
  refine z_get C hw hA.lt (hA.at _ _) flX3_12 rfl dX3_input_21 ?_
  refine z_get C hw hA.w0.lt (hA.w0.at _ _) flX3_48 rfl dX3_input_24 ?_
  refine z_get C hw hA.w0.queue.lt (hA.w0.queue.at _ _) flX3_52 rfl dX3_input_27 ?_
  refine z_topi (y := nI S.q.1) (hI.q.1) ?_
  refine z_Vv (As := [.int (nI S.q.1)]) (rest := []) C hw hl (m_X0_hasRoom hO _ (hA.w0.m hx6) hmx.2.2.1.1 hlg (q := S.q.1) (by omega)) ivX3_57 (hA.w0.m hx6).lt ((hA.w0.m hx6).at _ _) rfl rfl ⟨(Nat.le_of_ble_eq_true rfl), (Nat.le_of_ble_eq_true rfl)⟩ (Nat.le_of_ble_eq_true rfl) ⟨Nat.zero_le _, Nat.zero_le _⟩ dX3_input_30 (fun H locs hw => ?_)
  refine lv_if_ne (tgt := 46) C.x C.b dX3_input_33 (by decide) (fun c_33 => absurd c_33 (by rw [if_neg hr]; decide)) (fun c_33 => ?_)
  exact z_thr C hw hl th_65 dX3_input_36 dX3_input_39 dX3_input_40 dX3_input_42 dX3_input_45 hout (Nat.le_of_ble_eq_true rfl) (Nat.le_of_ble_eq_true rfl) (Nat.le_of_ble_eq_true rfl) (Nat.le_of_ble_eq_true rfl)
