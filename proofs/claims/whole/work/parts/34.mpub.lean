theorem aTake_stx (S : aS) (x a q v : Nat) : ((aTake S x a q v).m x).st = nx (S.m x).st v q := by
  have h1 : (aTk1 S x a q v).m x = ((S.m x).setLog (tpush (S.m x).log (row3 a q v))).setSt (nx (S.m x).st v q) := aS.setM_s _ _ _
  unfold aTake
  split
  · show (va_up (aTk1 S x a q v).m x _ x).st = _
    rw [va_up_self, h1]; rfl
  · rw [h1]; rfl
theorem rng1 {v : Int32} {b : Nat} (hb : b < 2 ^ 31 - 1) (h : 1 ≤ v ∧ v ≤ nI b) : ∃ n, 1 ≤ n ∧ n ≤ b ∧ v = nI n := by
  rcases Nat.eq_zero_or_pos b with h0 | h0
  · subst h0
    exact absurd (Int32.le_trans h.1 h.2) (by decide)
  · exact (isR_w (a := 1) (b := b) hb h0).mp h
set_option maxRecDepth 100000 in
set_option maxHeartbeats 4000000 in
theorem m_X4_state {G : zG} {N : Nat} {Λ : zLay} {l : Launch} (hO : zOK G l) (z : zM) (hB : zMo G N Λ) {S : aS} {c : Nat} {Lf : Nat → aS} (hI : mI z S c Lf) (hS : aOK S) {x : Nat} (hx : x < S.n) (hx6 : x < 6) : zMet G N Λ l yX4_state cX4_state 2 (some .int) 2 [.ref (G.h + 272), .int (nI x)] z (some (.int (nI (S.m x).st))) (zi z 272 3 0) := by
  refine zMet_of hO (by decide) (Nat.le_of_ble_eq_true rfl) ?_
  intro pP eE sS mM bB tT cC ls C hw hl
  have hl : lv_has ls 2 [(0, .ref (G.h + 272)), (1, .int (nI x))] := hl
  have hM := hI.s
  have hn6 := hS.n6
  have hc4 := hI.c4
  have hmx := hM.m hx
  have hox := hS.m hx
  have hl40 := hox.log.1
  refine lv_aload_n C.x C.b dX4_state_0 rfl (lv_at hl 0 rfl) ?_
  refine lv_aload_n C.x C.b dX4_state_1 rfl (lv_at hl 0 rfl) ?_
  refine lv_iload_n C.x C.b dX4_state_2 rfl (lv_at hl 1 rfl) ?_
  refine z_Vv (As := [.int (nI x)]) (rest := [.ref (G.h + 272)]) C hw hl (m_X4_isM_y hO _ hB hM.n hn6 hx) ivX4_104 hB.lt (hB.at _ _) rfl rfl ⟨(Nat.le_of_ble_eq_true rfl), (Nat.le_of_ble_eq_true rfl)⟩ (Nat.le_of_ble_eq_true rfl) ⟨Nat.zero_le _, Nat.zero_le _⟩ dX4_state_3 (fun H locs hw => ?_)
  refine lv_if_eq (tgt := 13) C.x C.b dX4_state_6 (by decide) (fun c_6 => absurd c_6 (by decide)) (fun c_6 => ?_)
  refine lv_iconst (v := 0) C.x C.b dX4_state_9 (by decide) ?_
  refine lv_goto (tgt := 14) C.x C.b dX4_state_10 (by decide) ?_
  refine z_Vv (As := [.int 0]) (rest := []) C hw hl (m_X4_ref0 hO _ hB) ivX4_35 hB.lt (hB.at _ _) rfl rfl ⟨(Nat.le_of_ble_eq_true rfl), (Nat.le_of_ble_eq_true rfl)⟩ (Nat.le_of_ble_eq_true rfl) ⟨Nat.zero_le _, Nat.zero_le _⟩ dX4_state_14 (fun H locs hw => ?_)
  obtain ⟨z_1, ez_1⟩ : ∃ q_9, q_9 = zi z 272 3 0 := ⟨_, rfl⟩
  have hw : zS G N Λ z_1 sS H locs := by rw [ez_1]; exact hw
  have hI1 : mI z_1 S c Lf := by rw [ez_1]; exact hI.ref _
  have hM1 := hI1.s
  have hmx1 := hM1.m hx
  refine lv_if_eq (tgt := 24) C.x C.b dX4_state_17 (by decide) (fun c_17 => ?_) (fun c_17 => absurd (rfl) c_17)
  refine lv_aload_n C.x C.b dX4_state_24 rfl (lv_at hl 0 rfl) ?_
  refine lv_iload_n C.x C.b dX4_state_25 rfl (lv_at hl 1 rfl) ?_
  refine lv_iconst (v := 0) C.x C.b dX4_state_26 (by decide) ?_
  refine z_Vv (As := [.int (nI x), .int 0]) (rest := []) C hw hl (m_X4_get hO _ hB (o := 0) (mat_lt2 hx6 (by omega))) ivX4_40 hB.lt (hB.at _ _) rfl rfl ⟨(Nat.le_of_ble_eq_true rfl), (Nat.le_of_ble_eq_true rfl)⟩ (Nat.le_of_ble_eq_true rfl) ⟨Nat.zero_le _, Nat.zero_le _⟩ dX4_state_27 (fun H locs hw => ?_)
  refine z_topi (y := nI (S.m x).st) (hmx1.1.1) ?_
  exact z_iret C hw dX4_state_30 (rfl) (by rw [ez_1])

set_option maxRecDepth 100000 in
set_option maxHeartbeats 4000000 in
theorem f_X4_state {G : zG} {N : Nat} {Λ : zLay} {l : Launch} (hO : zOK G l) (z : zM) (hB : zMo G N Λ) {S : aS} {c : Nat} {Lf : Nat → aS} (hI : mI z S c Lf) (hS : aOK S) {v : Int32} (hv : ¬ isM v S.n) : zMet G N Λ l yX4_state cX4_state 2 (some .int) 2 [.ref (G.h + 272), .int v] z (some (.int 0)) (zi z 272 3 (nI 1)) := by
  refine zMet_of hO (by decide) (Nat.le_of_ble_eq_true rfl) ?_
  intro pP eE sS mM bB tT cC ls C hw hl
  have hl : lv_has ls 2 [(0, .ref (G.h + 272)), (1, .int v)] := hl
  have hM := hI.s
  have hn6 := hS.n6
  have hc4 := hI.c4
  refine lv_aload_n C.x C.b dX4_state_0 rfl (lv_at hl 0 rfl) ?_
  refine lv_aload_n C.x C.b dX4_state_1 rfl (lv_at hl 0 rfl) ?_
  refine lv_iload_n C.x C.b dX4_state_2 rfl (lv_at hl 1 rfl) ?_
  refine z_Vv (As := [.int v]) (rest := [.ref (G.h + 272)]) C hw hl (m_X4_isM_n hO _ hB hM.n hS.n2 hn6 hv) ivX4_104 hB.lt (hB.at _ _) rfl rfl ⟨(Nat.le_of_ble_eq_true rfl), (Nat.le_of_ble_eq_true rfl)⟩ (Nat.le_of_ble_eq_true rfl) ⟨Nat.zero_le _, Nat.zero_le _⟩ dX4_state_3 (fun H locs hw => ?_)
  refine lv_if_eq (tgt := 13) C.x C.b dX4_state_6 (by decide) (fun c_6 => ?_) (fun c_6 => absurd (rfl) c_6)
  refine lv_iconst (v := 1) C.x C.b dX4_state_13 (by decide) ?_
  refine z_Vv (As := [.int 1]) (rest := []) C hw hl (m_X4_ref1 hO _ hB (w := 1) (by omega) (by omega)) ivX4_35 hB.lt (hB.at _ _) rfl rfl ⟨(Nat.le_of_ble_eq_true rfl), (Nat.le_of_ble_eq_true rfl)⟩ (Nat.le_of_ble_eq_true rfl) ⟨Nat.zero_le _, Nat.zero_le _⟩ dX4_state_14 (fun H locs hw => ?_)
  obtain ⟨z_1, ez_1⟩ : ∃ q_9, q_9 = zi z 272 3 (nI 1) := ⟨_, rfl⟩
  have hw : zS G N Λ z_1 sS H locs := by rw [ez_1]; exact hw
  refine lv_if_eq (tgt := 24) C.x C.b dX4_state_17 (by decide) (fun c_17 => absurd c_17 (by decide)) (fun c_17 => ?_)
  refine lv_iconst (v := 0) C.x C.b dX4_state_20 (by decide) ?_
  refine lv_goto (tgt := 30) C.x C.b dX4_state_21 (by decide) ?_
  exact z_iret C hw dX4_state_30 (rfl) (by rw [ez_1])

set_option maxRecDepth 100000 in
set_option maxHeartbeats 4000000 in
theorem m_X4_pending {G : zG} {N : Nat} {Λ : zLay} {l : Launch} (hO : zOK G l) (z : zM) (hB : zMo G N Λ) {S : aS} {c : Nat} {Lf : Nat → aS} (hI : mI z S c Lf) (hS : aOK S) {x : Nat} (hx : x < S.n) (hx6 : x < 6) : zMet G N Λ l yX4_pending cX4_pending 2 (some .int) 2 [.ref (G.h + 272), .int (nI x)] z (some (.int (nI (S.m x).pend.1))) (zi z 272 3 0) := by
  refine zMet_of hO (by decide) (Nat.le_of_ble_eq_true rfl) ?_
  intro pP eE sS mM bB tT cC ls C hw hl
  have hl : lv_has ls 2 [(0, .ref (G.h + 272)), (1, .int (nI x))] := hl
  have hM := hI.s
  have hn6 := hS.n6
  have hc4 := hI.c4
  have hmx := hM.m hx
  have hox := hS.m hx
  have hl40 := hox.log.1
  refine lv_aload_n C.x C.b dX4_pending_0 rfl (lv_at hl 0 rfl) ?_
  refine lv_aload_n C.x C.b dX4_pending_1 rfl (lv_at hl 0 rfl) ?_
  refine lv_iload_n C.x C.b dX4_pending_2 rfl (lv_at hl 1 rfl) ?_
  refine z_Vv (As := [.int (nI x)]) (rest := [.ref (G.h + 272)]) C hw hl (m_X4_isM_y hO _ hB hM.n hn6 hx) ivX4_104 hB.lt (hB.at _ _) rfl rfl ⟨(Nat.le_of_ble_eq_true rfl), (Nat.le_of_ble_eq_true rfl)⟩ (Nat.le_of_ble_eq_true rfl) ⟨Nat.zero_le _, Nat.zero_le _⟩ dX4_pending_3 (fun H locs hw => ?_)
  refine lv_if_eq (tgt := 13) C.x C.b dX4_pending_6 (by decide) (fun c_6 => absurd c_6 (by decide)) (fun c_6 => ?_)
  refine lv_iconst (v := 0) C.x C.b dX4_pending_9 (by decide) ?_
  refine lv_goto (tgt := 14) C.x C.b dX4_pending_10 (by decide) ?_
  refine z_Vv (As := [.int 0]) (rest := []) C hw hl (m_X4_ref0 hO _ hB) ivX4_35 hB.lt (hB.at _ _) rfl rfl ⟨(Nat.le_of_ble_eq_true rfl), (Nat.le_of_ble_eq_true rfl)⟩ (Nat.le_of_ble_eq_true rfl) ⟨Nat.zero_le _, Nat.zero_le _⟩ dX4_pending_14 (fun H locs hw => ?_)
  obtain ⟨z_1, ez_1⟩ : ∃ q_9, q_9 = zi z 272 3 0 := ⟨_, rfl⟩
  have hw : zS G N Λ z_1 sS H locs := by rw [ez_1]; exact hw
  have hI1 : mI z_1 S c Lf := by rw [ez_1]; exact hI.ref _
  have hM1 := hI1.s
  have hmx1 := hM1.m hx
  refine lv_if_eq (tgt := 24) C.x C.b dX4_pending_17 (by decide) (fun c_17 => ?_) (fun c_17 => absurd (rfl) c_17)
  refine lv_aload_n C.x C.b dX4_pending_24 rfl (lv_at hl 0 rfl) ?_
  refine lv_iload_n C.x C.b dX4_pending_25 rfl (lv_at hl 1 rfl) ?_
  refine lv_sipush (v := 226) C.x C.b dX4_pending_26 (by decide) ?_
  refine z_Vv (As := [.int (nI x), .int 226]) (rest := []) C hw hl (m_X4_get hO _ hB (o := 226) (mat_lt2 hx6 (by omega))) ivX4_40 hB.lt (hB.at _ _) rfl rfl ⟨(Nat.le_of_ble_eq_true rfl), (Nat.le_of_ble_eq_true rfl)⟩ (Nat.le_of_ble_eq_true rfl) ⟨Nat.zero_le _, Nat.zero_le _⟩ dX4_pending_29 (fun H locs hw => ?_)
  refine z_topi (y := nI (S.m x).pend.1) (hmx1.2.2.2.1.2.1) ?_
  exact z_iret C hw dX4_pending_32 (rfl) (by rw [ez_1])

set_option maxRecDepth 100000 in
set_option maxHeartbeats 4000000 in
theorem f_X4_pending {G : zG} {N : Nat} {Λ : zLay} {l : Launch} (hO : zOK G l) (z : zM) (hB : zMo G N Λ) {S : aS} {c : Nat} {Lf : Nat → aS} (hI : mI z S c Lf) (hS : aOK S) {v : Int32} (hv : ¬ isM v S.n) : zMet G N Λ l yX4_pending cX4_pending 2 (some .int) 2 [.ref (G.h + 272), .int v] z (some (.int 0)) (zi z 272 3 (nI 1)) := by
  refine zMet_of hO (by decide) (Nat.le_of_ble_eq_true rfl) ?_
  intro pP eE sS mM bB tT cC ls C hw hl
  have hl : lv_has ls 2 [(0, .ref (G.h + 272)), (1, .int v)] := hl
  have hM := hI.s
  have hn6 := hS.n6
  have hc4 := hI.c4
  refine lv_aload_n C.x C.b dX4_pending_0 rfl (lv_at hl 0 rfl) ?_
  refine lv_aload_n C.x C.b dX4_pending_1 rfl (lv_at hl 0 rfl) ?_
  refine lv_iload_n C.x C.b dX4_pending_2 rfl (lv_at hl 1 rfl) ?_
  refine z_Vv (As := [.int v]) (rest := [.ref (G.h + 272)]) C hw hl (m_X4_isM_n hO _ hB hM.n hS.n2 hn6 hv) ivX4_104 hB.lt (hB.at _ _) rfl rfl ⟨(Nat.le_of_ble_eq_true rfl), (Nat.le_of_ble_eq_true rfl)⟩ (Nat.le_of_ble_eq_true rfl) ⟨Nat.zero_le _, Nat.zero_le _⟩ dX4_pending_3 (fun H locs hw => ?_)
  refine lv_if_eq (tgt := 13) C.x C.b dX4_pending_6 (by decide) (fun c_6 => ?_) (fun c_6 => absurd (rfl) c_6)
  refine lv_iconst (v := 1) C.x C.b dX4_pending_13 (by decide) ?_
  refine z_Vv (As := [.int 1]) (rest := []) C hw hl (m_X4_ref1 hO _ hB (w := 1) (by omega) (by omega)) ivX4_35 hB.lt (hB.at _ _) rfl rfl ⟨(Nat.le_of_ble_eq_true rfl), (Nat.le_of_ble_eq_true rfl)⟩ (Nat.le_of_ble_eq_true rfl) ⟨Nat.zero_le _, Nat.zero_le _⟩ dX4_pending_14 (fun H locs hw => ?_)
  obtain ⟨z_1, ez_1⟩ : ∃ q_9, q_9 = zi z 272 3 (nI 1) := ⟨_, rfl⟩
  have hw : zS G N Λ z_1 sS H locs := by rw [ez_1]; exact hw
  refine lv_if_eq (tgt := 24) C.x C.b dX4_pending_17 (by decide) (fun c_17 => absurd c_17 (by decide)) (fun c_17 => ?_)
  refine lv_iconst (v := 0) C.x C.b dX4_pending_20 (by decide) ?_
  refine lv_goto (tgt := 32) C.x C.b dX4_pending_21 (by decide) ?_
  exact z_iret C hw dX4_pending_32 (rfl) (by rw [ez_1])

set_option maxRecDepth 100000 in
set_option maxHeartbeats 4000000 in
theorem m_X4_logLength {G : zG} {N : Nat} {Λ : zLay} {l : Launch} (hO : zOK G l) (z : zM) (hB : zMo G N Λ) {S : aS} {c : Nat} {Lf : Nat → aS} (hI : mI z S c Lf) (hS : aOK S) {x : Nat} (hx : x < S.n) (hx6 : x < 6) : zMet G N Λ l yX4_logLength cX4_logLength 2 (some .int) 2 [.ref (G.h + 272), .int (nI x)] z (some (.int (nI (S.m x).log.1))) (zi z 272 3 0) := by
  refine zMet_of hO (by decide) (Nat.le_of_ble_eq_true rfl) ?_
  intro pP eE sS mM bB tT cC ls C hw hl
  have hl : lv_has ls 2 [(0, .ref (G.h + 272)), (1, .int (nI x))] := hl
  have hM := hI.s
  have hn6 := hS.n6
  have hc4 := hI.c4
  have hmx := hM.m hx
  have hox := hS.m hx
  have hl40 := hox.log.1
  refine lv_aload_n C.x C.b dX4_logLength_0 rfl (lv_at hl 0 rfl) ?_
  refine lv_aload_n C.x C.b dX4_logLength_1 rfl (lv_at hl 0 rfl) ?_
  refine lv_iload_n C.x C.b dX4_logLength_2 rfl (lv_at hl 1 rfl) ?_
  refine z_Vv (As := [.int (nI x)]) (rest := [.ref (G.h + 272)]) C hw hl (m_X4_isM_y hO _ hB hM.n hn6 hx) ivX4_104 hB.lt (hB.at _ _) rfl rfl ⟨(Nat.le_of_ble_eq_true rfl), (Nat.le_of_ble_eq_true rfl)⟩ (Nat.le_of_ble_eq_true rfl) ⟨Nat.zero_le _, Nat.zero_le _⟩ dX4_logLength_3 (fun H locs hw => ?_)
  refine lv_if_eq (tgt := 13) C.x C.b dX4_logLength_6 (by decide) (fun c_6 => absurd c_6 (by decide)) (fun c_6 => ?_)
  refine lv_iconst (v := 0) C.x C.b dX4_logLength_9 (by decide) ?_
  refine lv_goto (tgt := 14) C.x C.b dX4_logLength_10 (by decide) ?_
  refine z_Vv (As := [.int 0]) (rest := []) C hw hl (m_X4_ref0 hO _ hB) ivX4_35 hB.lt (hB.at _ _) rfl rfl ⟨(Nat.le_of_ble_eq_true rfl), (Nat.le_of_ble_eq_true rfl)⟩ (Nat.le_of_ble_eq_true rfl) ⟨Nat.zero_le _, Nat.zero_le _⟩ dX4_logLength_14 (fun H locs hw => ?_)
  obtain ⟨z_1, ez_1⟩ : ∃ q_9, q_9 = zi z 272 3 0 := ⟨_, rfl⟩
  have hw : zS G N Λ z_1 sS H locs := by rw [ez_1]; exact hw
  have hI1 : mI z_1 S c Lf := by rw [ez_1]; exact hI.ref _
  have hM1 := hI1.s
  have hmx1 := hM1.m hx
  refine lv_if_eq (tgt := 24) C.x C.b dX4_logLength_17 (by decide) (fun c_17 => ?_) (fun c_17 => absurd (rfl) c_17)
  refine lv_aload_n C.x C.b dX4_logLength_24 rfl (lv_at hl 0 rfl) ?_
  refine lv_iload_n C.x C.b dX4_logLength_25 rfl (lv_at hl 1 rfl) ?_
  refine lv_iconst (v := 4) C.x C.b dX4_logLength_26 (by decide) ?_
  refine z_Vv (As := [.int (nI x), .int 4]) (rest := []) C hw hl (m_X4_get hO _ hB (o := 4) (mat_lt2 hx6 (by omega))) ivX4_40 hB.lt (hB.at _ _) rfl rfl ⟨(Nat.le_of_ble_eq_true rfl), (Nat.le_of_ble_eq_true rfl)⟩ (Nat.le_of_ble_eq_true rfl) ⟨Nat.zero_le _, Nat.zero_le _⟩ dX4_logLength_27 (fun H locs hw => ?_)
  refine z_topi (y := nI (S.m x).log.1) (hmx1.2.1.2.1) ?_
  exact z_iret C hw dX4_logLength_30 (rfl) (by rw [ez_1])

set_option maxRecDepth 100000 in
set_option maxHeartbeats 4000000 in
theorem f_X4_logLength {G : zG} {N : Nat} {Λ : zLay} {l : Launch} (hO : zOK G l) (z : zM) (hB : zMo G N Λ) {S : aS} {c : Nat} {Lf : Nat → aS} (hI : mI z S c Lf) (hS : aOK S) {v : Int32} (hv : ¬ isM v S.n) : zMet G N Λ l yX4_logLength cX4_logLength 2 (some .int) 2 [.ref (G.h + 272), .int v] z (some (.int 0)) (zi z 272 3 (nI 1)) := by
  refine zMet_of hO (by decide) (Nat.le_of_ble_eq_true rfl) ?_
  intro pP eE sS mM bB tT cC ls C hw hl
  have hl : lv_has ls 2 [(0, .ref (G.h + 272)), (1, .int v)] := hl
  have hM := hI.s
  have hn6 := hS.n6
  have hc4 := hI.c4
  refine lv_aload_n C.x C.b dX4_logLength_0 rfl (lv_at hl 0 rfl) ?_
  refine lv_aload_n C.x C.b dX4_logLength_1 rfl (lv_at hl 0 rfl) ?_
  refine lv_iload_n C.x C.b dX4_logLength_2 rfl (lv_at hl 1 rfl) ?_
  refine z_Vv (As := [.int v]) (rest := [.ref (G.h + 272)]) C hw hl (m_X4_isM_n hO _ hB hM.n hS.n2 hn6 hv) ivX4_104 hB.lt (hB.at _ _) rfl rfl ⟨(Nat.le_of_ble_eq_true rfl), (Nat.le_of_ble_eq_true rfl)⟩ (Nat.le_of_ble_eq_true rfl) ⟨Nat.zero_le _, Nat.zero_le _⟩ dX4_logLength_3 (fun H locs hw => ?_)
  refine lv_if_eq (tgt := 13) C.x C.b dX4_logLength_6 (by decide) (fun c_6 => ?_) (fun c_6 => absurd (rfl) c_6)
  refine lv_iconst (v := 1) C.x C.b dX4_logLength_13 (by decide) ?_
  refine z_Vv (As := [.int 1]) (rest := []) C hw hl (m_X4_ref1 hO _ hB (w := 1) (by omega) (by omega)) ivX4_35 hB.lt (hB.at _ _) rfl rfl ⟨(Nat.le_of_ble_eq_true rfl), (Nat.le_of_ble_eq_true rfl)⟩ (Nat.le_of_ble_eq_true rfl) ⟨Nat.zero_le _, Nat.zero_le _⟩ dX4_logLength_14 (fun H locs hw => ?_)
  obtain ⟨z_1, ez_1⟩ : ∃ q_9, q_9 = zi z 272 3 (nI 1) := ⟨_, rfl⟩
  have hw : zS G N Λ z_1 sS H locs := by rw [ez_1]; exact hw
  refine lv_if_eq (tgt := 24) C.x C.b dX4_logLength_17 (by decide) (fun c_17 => absurd c_17 (by decide)) (fun c_17 => ?_)
  refine lv_iconst (v := 0) C.x C.b dX4_logLength_20 (by decide) ?_
  refine lv_goto (tgt := 30) C.x C.b dX4_logLength_21 (by decide) ?_
  exact z_iret C hw dX4_logLength_30 (rfl) (by rw [ez_1])

set_option maxRecDepth 100000 in
set_option maxHeartbeats 4000000 in
theorem m_X4_held {G : zG} {N : Nat} {Λ : zLay} {l : Launch} (hO : zOK G l) (z : zM) (hB : zMo G N Λ) {S : aS} {c : Nat} {Lf : Nat → aS} (hI : mI z S c Lf) (hS : aOK S) {x : Nat} (hx : x < S.n) (hx6 : x < 6) : zMet G N Λ l yX4_held cX4_held 2 (some .int) 2 [.ref (G.h + 272), .int (nI x)] z (some (.int (nI (S.m x).held.1))) (zi z 272 3 0) := by
  refine zMet_of hO (by decide) (Nat.le_of_ble_eq_true rfl) ?_
  intro pP eE sS mM bB tT cC ls C hw hl
  have hl : lv_has ls 2 [(0, .ref (G.h + 272)), (1, .int (nI x))] := hl
  have hM := hI.s
  have hn6 := hS.n6
  have hc4 := hI.c4
  have hmx := hM.m hx
  have hox := hS.m hx
  have hl40 := hox.log.1
  refine lv_aload_n C.x C.b dX4_held_0 rfl (lv_at hl 0 rfl) ?_
  refine lv_aload_n C.x C.b dX4_held_1 rfl (lv_at hl 0 rfl) ?_
  refine lv_iload_n C.x C.b dX4_held_2 rfl (lv_at hl 1 rfl) ?_
  refine z_Vv (As := [.int (nI x)]) (rest := [.ref (G.h + 272)]) C hw hl (m_X4_isM_y hO _ hB hM.n hn6 hx) ivX4_104 hB.lt (hB.at _ _) rfl rfl ⟨(Nat.le_of_ble_eq_true rfl), (Nat.le_of_ble_eq_true rfl)⟩ (Nat.le_of_ble_eq_true rfl) ⟨Nat.zero_le _, Nat.zero_le _⟩ dX4_held_3 (fun H locs hw => ?_)
  refine lv_if_eq (tgt := 13) C.x C.b dX4_held_6 (by decide) (fun c_6 => absurd c_6 (by decide)) (fun c_6 => ?_)
  refine lv_iconst (v := 0) C.x C.b dX4_held_9 (by decide) ?_
  refine lv_goto (tgt := 14) C.x C.b dX4_held_10 (by decide) ?_
  refine z_Vv (As := [.int 0]) (rest := []) C hw hl (m_X4_ref0 hO _ hB) ivX4_35 hB.lt (hB.at _ _) rfl rfl ⟨(Nat.le_of_ble_eq_true rfl), (Nat.le_of_ble_eq_true rfl)⟩ (Nat.le_of_ble_eq_true rfl) ⟨Nat.zero_le _, Nat.zero_le _⟩ dX4_held_14 (fun H locs hw => ?_)
  obtain ⟨z_1, ez_1⟩ : ∃ q_9, q_9 = zi z 272 3 0 := ⟨_, rfl⟩
  have hw : zS G N Λ z_1 sS H locs := by rw [ez_1]; exact hw
  have hI1 : mI z_1 S c Lf := by rw [ez_1]; exact hI.ref _
  have hM1 := hI1.s
  have hmx1 := hM1.m hx
  refine lv_if_eq (tgt := 24) C.x C.b dX4_held_17 (by decide) (fun c_17 => ?_) (fun c_17 => absurd (rfl) c_17)
  refine lv_aload_n C.x C.b dX4_held_24 rfl (lv_at hl 0 rfl) ?_
  refine lv_iload_n C.x C.b dX4_held_25 rfl (lv_at hl 1 rfl) ?_
  refine lv_bipush (v := 45) C.x C.b dX4_held_26 (by decide) ?_
  refine z_Vv (As := [.int (nI x), .int 45]) (rest := []) C hw hl (m_X4_get hO _ hB (o := 45) (mat_lt2 hx6 (by omega))) ivX4_40 hB.lt (hB.at _ _) rfl rfl ⟨(Nat.le_of_ble_eq_true rfl), (Nat.le_of_ble_eq_true rfl)⟩ (Nat.le_of_ble_eq_true rfl) ⟨Nat.zero_le _, Nat.zero_le _⟩ dX4_held_28 (fun H locs hw => ?_)
  refine z_topi (y := nI (S.m x).held.1) (hmx1.2.2.1.2.1) ?_
  exact z_iret C hw dX4_held_31 (rfl) (by rw [ez_1])

set_option maxRecDepth 100000 in
set_option maxHeartbeats 4000000 in
theorem f_X4_held {G : zG} {N : Nat} {Λ : zLay} {l : Launch} (hO : zOK G l) (z : zM) (hB : zMo G N Λ) {S : aS} {c : Nat} {Lf : Nat → aS} (hI : mI z S c Lf) (hS : aOK S) {v : Int32} (hv : ¬ isM v S.n) : zMet G N Λ l yX4_held cX4_held 2 (some .int) 2 [.ref (G.h + 272), .int v] z (some (.int 0)) (zi z 272 3 (nI 1)) := by
  refine zMet_of hO (by decide) (Nat.le_of_ble_eq_true rfl) ?_
  intro pP eE sS mM bB tT cC ls C hw hl
  have hl : lv_has ls 2 [(0, .ref (G.h + 272)), (1, .int v)] := hl
  have hM := hI.s
  have hn6 := hS.n6
  have hc4 := hI.c4
  refine lv_aload_n C.x C.b dX4_held_0 rfl (lv_at hl 0 rfl) ?_
  refine lv_aload_n C.x C.b dX4_held_1 rfl (lv_at hl 0 rfl) ?_
  refine lv_iload_n C.x C.b dX4_held_2 rfl (lv_at hl 1 rfl) ?_
  refine z_Vv (As := [.int v]) (rest := [.ref (G.h + 272)]) C hw hl (m_X4_isM_n hO _ hB hM.n hS.n2 hn6 hv) ivX4_104 hB.lt (hB.at _ _) rfl rfl ⟨(Nat.le_of_ble_eq_true rfl), (Nat.le_of_ble_eq_true rfl)⟩ (Nat.le_of_ble_eq_true rfl) ⟨Nat.zero_le _, Nat.zero_le _⟩ dX4_held_3 (fun H locs hw => ?_)
  refine lv_if_eq (tgt := 13) C.x C.b dX4_held_6 (by decide) (fun c_6 => ?_) (fun c_6 => absurd (rfl) c_6)
  refine lv_iconst (v := 1) C.x C.b dX4_held_13 (by decide) ?_
  refine z_Vv (As := [.int 1]) (rest := []) C hw hl (m_X4_ref1 hO _ hB (w := 1) (by omega) (by omega)) ivX4_35 hB.lt (hB.at _ _) rfl rfl ⟨(Nat.le_of_ble_eq_true rfl), (Nat.le_of_ble_eq_true rfl)⟩ (Nat.le_of_ble_eq_true rfl) ⟨Nat.zero_le _, Nat.zero_le _⟩ dX4_held_14 (fun H locs hw => ?_)
  obtain ⟨z_1, ez_1⟩ : ∃ q_9, q_9 = zi z 272 3 (nI 1) := ⟨_, rfl⟩
  have hw : zS G N Λ z_1 sS H locs := by rw [ez_1]; exact hw
  refine lv_if_eq (tgt := 24) C.x C.b dX4_held_17 (by decide) (fun c_17 => absurd c_17 (by decide)) (fun c_17 => ?_)
  refine lv_iconst (v := 0) C.x C.b dX4_held_20 (by decide) ?_
  refine lv_goto (tgt := 31) C.x C.b dX4_held_21 (by decide) ?_
  exact z_iret C hw dX4_held_31 (rfl) (by rw [ez_1])

set_option maxRecDepth 100000 in
set_option maxHeartbeats 4000000 in
theorem m_X4_entry {G : zG} {N : Nat} {Λ : zLay} {l : Launch} (hO : zOK G l) (z : zM) (hB : zMo G N Λ) {S : aS} {c : Nat} {Lf : Nat → aS} (hI : mI z S c Lf) (hS : aOK S) {x : Nat} (hx : x < S.n) (hx6 : x < 6) {e : Nat} (he : e < (S.m x).log.1) : zMet G N Λ l yX4_entry cX4_entry 3 (some .int) 3 [.ref (G.h + 272), .int (nI x), .int (nI e)] z (some (.int (nI (pk ((S.m x).log.2 e 0) ((S.m x).log.2 e 1) ((S.m x).log.2 e 2))))) (zi z 272 3 0) := by
  refine zMet_of hO (by decide) (Nat.le_of_ble_eq_true rfl) ?_
  intro pP eE sS mM bB tT cC ls C hw hl
  have hl : lv_has ls 3 [(0, .ref (G.h + 272)), (1, .int (nI x)), (2, .int (nI e))] := hl
  have hM := hI.s
  have hn6 := hS.n6
  have hc4 := hI.c4
  have hmx := hM.m hx
  have hox := hS.m hx
  have hl40 := hox.log.1
  refine lv_aload_n C.x C.b dX4_entry_0 rfl (lv_at hl 0 rfl) ?_
  refine lv_aload_n C.x C.b dX4_entry_1 rfl (lv_at hl 0 rfl) ?_
  refine lv_iload_n C.x C.b dX4_entry_2 rfl (lv_at hl 1 rfl) ?_
  refine lv_iload_n C.x C.b dX4_entry_3 rfl (lv_at hl 2 rfl) ?_
  refine z_Vv (As := [.int (nI x), .int (nI e)]) (rest := [.ref (G.h + 272)]) C hw hl (m_X4_isE_y hO _ hB hM hS hx hx6 he) ivX4_114 hB.lt (hB.at _ _) rfl rfl ⟨(Nat.le_of_ble_eq_true rfl), (Nat.le_of_ble_eq_true rfl)⟩ (Nat.le_of_ble_eq_true rfl) ⟨Nat.zero_le _, Nat.zero_le _⟩ dX4_entry_4 (fun H locs hw => ?_)
  refine lv_if_eq (tgt := 14) C.x C.b dX4_entry_7 (by decide) (fun c_7 => absurd c_7 (by decide)) (fun c_7 => ?_)
  refine lv_iconst (v := 0) C.x C.b dX4_entry_10 (by decide) ?_
  refine lv_goto (tgt := 15) C.x C.b dX4_entry_11 (by decide) ?_
  refine z_Vv (As := [.int 0]) (rest := []) C hw hl (m_X4_ref0 hO _ hB) ivX4_35 hB.lt (hB.at _ _) rfl rfl ⟨(Nat.le_of_ble_eq_true rfl), (Nat.le_of_ble_eq_true rfl)⟩ (Nat.le_of_ble_eq_true rfl) ⟨Nat.zero_le _, Nat.zero_le _⟩ dX4_entry_15 (fun H locs hw => ?_)
  obtain ⟨z_1, ez_1⟩ : ∃ q_9, q_9 = zi z 272 3 0 := ⟨_, rfl⟩
  have hw : zS G N Λ z_1 sS H locs := by rw [ez_1]; exact hw
  have hI1 : mI z_1 S c Lf := by rw [ez_1]; exact hI.ref _
  have hM1 := hI1.s
  have hmx1 := hM1.m hx
  refine lv_if_eq (tgt := 25) C.x C.b dX4_entry_18 (by decide) (fun c_18 => ?_) (fun c_18 => absurd (rfl) c_18)
  refine lv_aload_n C.x C.b dX4_entry_25 rfl (lv_at hl 0 rfl) ?_
  refine lv_iload_n C.x C.b dX4_entry_26 rfl (lv_at hl 1 rfl) ?_
  refine lv_iload_n C.x C.b dX4_entry_27 rfl (lv_at hl 2 rfl) ?_
  refine z_Vv (As := [.int (nI x), .int (nI e)]) (rest := []) C hw hl (m_X4_entryAt hO _ hB hx6 (k := e) (by omega)) ivX4_43 hB.lt (hB.at _ _) rfl rfl ⟨(Nat.le_of_ble_eq_true rfl), (Nat.le_of_ble_eq_true rfl)⟩ (Nat.le_of_ble_eq_true rfl) ⟨Nat.zero_le _, Nat.zero_le _⟩ dX4_entry_28 (fun H locs hw => ?_)
  refine z_topi (y := nI (pk ((S.m x).log.2 e 0) ((S.m x).log.2 e 1) ((S.m x).log.2 e 2))) (hmx1.2.1.2.2 e he) ?_
  exact z_iret C hw dX4_entry_31 (rfl) (by rw [ez_1])

set_option maxRecDepth 100000 in
set_option maxHeartbeats 4000000 in
theorem f_X4_entry1 {G : zG} {N : Nat} {Λ : zLay} {l : Launch} (hO : zOK G l) (z : zM) (hB : zMo G N Λ) {S : aS} {c : Nat} {Lf : Nat → aS} (hI : mI z S c Lf) (hS : aOK S) {v e : Int32} (hv : ¬ isM v S.n) : zMet G N Λ l yX4_entry cX4_entry 3 (some .int) 3 [.ref (G.h + 272), .int v, .int e] z (some (.int 0)) (zi z 272 3 (nI 1)) := by
  refine zMet_of hO (by decide) (Nat.le_of_ble_eq_true rfl) ?_
  intro pP eE sS mM bB tT cC ls C hw hl
  have hl : lv_has ls 3 [(0, .ref (G.h + 272)), (1, .int v), (2, .int e)] := hl
  have hM := hI.s
  have hn6 := hS.n6
  have hc4 := hI.c4
  refine lv_aload_n C.x C.b dX4_entry_0 rfl (lv_at hl 0 rfl) ?_
  refine lv_aload_n C.x C.b dX4_entry_1 rfl (lv_at hl 0 rfl) ?_
  refine lv_iload_n C.x C.b dX4_entry_2 rfl (lv_at hl 1 rfl) ?_
  refine lv_iload_n C.x C.b dX4_entry_3 rfl (lv_at hl 2 rfl) ?_
  refine z_Vv (As := [.int v, .int e]) (rest := [.ref (G.h + 272)]) C hw hl (m_X4_isE_n1 hO _ hB hM hS hv) ivX4_114 hB.lt (hB.at _ _) rfl rfl ⟨(Nat.le_of_ble_eq_true rfl), (Nat.le_of_ble_eq_true rfl)⟩ (Nat.le_of_ble_eq_true rfl) ⟨Nat.zero_le _, Nat.zero_le _⟩ dX4_entry_4 (fun H locs hw => ?_)
  refine lv_if_eq (tgt := 14) C.x C.b dX4_entry_7 (by decide) (fun c_7 => ?_) (fun c_7 => absurd (rfl) c_7)
  refine lv_iconst (v := 1) C.x C.b dX4_entry_14 (by decide) ?_
  refine z_Vv (As := [.int 1]) (rest := []) C hw hl (m_X4_ref1 hO _ hB (w := 1) (by omega) (by omega)) ivX4_35 hB.lt (hB.at _ _) rfl rfl ⟨(Nat.le_of_ble_eq_true rfl), (Nat.le_of_ble_eq_true rfl)⟩ (Nat.le_of_ble_eq_true rfl) ⟨Nat.zero_le _, Nat.zero_le _⟩ dX4_entry_15 (fun H locs hw => ?_)
  obtain ⟨z_1, ez_1⟩ : ∃ q_9, q_9 = zi z 272 3 (nI 1) := ⟨_, rfl⟩
  have hw : zS G N Λ z_1 sS H locs := by rw [ez_1]; exact hw
  refine lv_if_eq (tgt := 25) C.x C.b dX4_entry_18 (by decide) (fun c_18 => absurd c_18 (by decide)) (fun c_18 => ?_)
  refine lv_iconst (v := 0) C.x C.b dX4_entry_21 (by decide) ?_
  refine lv_goto (tgt := 31) C.x C.b dX4_entry_22 (by decide) ?_
  exact z_iret C hw dX4_entry_31 (rfl) (by rw [ez_1])

set_option maxRecDepth 100000 in
set_option maxHeartbeats 4000000 in
theorem f_X4_entry2 {G : zG} {N : Nat} {Λ : zLay} {l : Launch} (hO : zOK G l) (z : zM) (hB : zMo G N Λ) {S : aS} {c : Nat} {Lf : Nat → aS} (hI : mI z S c Lf) (hS : aOK S) {x : Nat} (hx : x < S.n) (hx6 : x < 6) {e : Int32} (he : ¬ isM e (S.m x).log.1) : zMet G N Λ l yX4_entry cX4_entry 3 (some .int) 3 [.ref (G.h + 272), .int (nI x), .int e] z (some (.int 0)) (zi z 272 3 (nI 1)) := by
  refine zMet_of hO (by decide) (Nat.le_of_ble_eq_true rfl) ?_
  intro pP eE sS mM bB tT cC ls C hw hl
  have hl : lv_has ls 3 [(0, .ref (G.h + 272)), (1, .int (nI x)), (2, .int e)] := hl
  have hM := hI.s
  have hn6 := hS.n6
  have hc4 := hI.c4
  have hmx := hM.m hx
  have hox := hS.m hx
  have hl40 := hox.log.1
  refine lv_aload_n C.x C.b dX4_entry_0 rfl (lv_at hl 0 rfl) ?_
  refine lv_aload_n C.x C.b dX4_entry_1 rfl (lv_at hl 0 rfl) ?_
  refine lv_iload_n C.x C.b dX4_entry_2 rfl (lv_at hl 1 rfl) ?_
  refine lv_iload_n C.x C.b dX4_entry_3 rfl (lv_at hl 2 rfl) ?_
  refine z_Vv (As := [.int (nI x), .int e]) (rest := [.ref (G.h + 272)]) C hw hl (m_X4_isE_n2 hO _ hB hM hS hx hx6 he) ivX4_114 hB.lt (hB.at _ _) rfl rfl ⟨(Nat.le_of_ble_eq_true rfl), (Nat.le_of_ble_eq_true rfl)⟩ (Nat.le_of_ble_eq_true rfl) ⟨Nat.zero_le _, Nat.zero_le _⟩ dX4_entry_4 (fun H locs hw => ?_)
  refine lv_if_eq (tgt := 14) C.x C.b dX4_entry_7 (by decide) (fun c_7 => ?_) (fun c_7 => absurd (rfl) c_7)
  refine lv_iconst (v := 1) C.x C.b dX4_entry_14 (by decide) ?_
  refine z_Vv (As := [.int 1]) (rest := []) C hw hl (m_X4_ref1 hO _ hB (w := 1) (by omega) (by omega)) ivX4_35 hB.lt (hB.at _ _) rfl rfl ⟨(Nat.le_of_ble_eq_true rfl), (Nat.le_of_ble_eq_true rfl)⟩ (Nat.le_of_ble_eq_true rfl) ⟨Nat.zero_le _, Nat.zero_le _⟩ dX4_entry_15 (fun H locs hw => ?_)
  obtain ⟨z_1, ez_1⟩ : ∃ q_9, q_9 = zi z 272 3 (nI 1) := ⟨_, rfl⟩
  have hw : zS G N Λ z_1 sS H locs := by rw [ez_1]; exact hw
  refine lv_if_eq (tgt := 25) C.x C.b dX4_entry_18 (by decide) (fun c_18 => absurd c_18 (by decide)) (fun c_18 => ?_)
  refine lv_iconst (v := 0) C.x C.b dX4_entry_21 (by decide) ?_
  refine lv_goto (tgt := 31) C.x C.b dX4_entry_22 (by decide) ?_
  exact z_iret C hw dX4_entry_31 (rfl) (by rw [ez_1])

set_option maxRecDepth 100000 in
set_option maxHeartbeats 4000000 in
theorem m_X4_chain {G : zG} {N : Nat} {Λ : zLay} {l : Launch} (hO : zOK G l) (z : zM) (hB : zMo G N Λ) {S : aS} {c : Nat} {Lf : Nat → aS} (hI : mI z S c Lf) (hS : aOK S) {x : Nat} (hx : x < S.n) (hx6 : x < 6) {i : Nat} (hi : i ≤ (S.m x).log.1) : zMet G N Λ l yX4_chain cX4_chain 3 (some .int) 4 [.ref (G.h + 272), .int (nI x), .int (nI i)] z (some (.int (nI (CH (S.m x).log.2 i)))) (zi z 272 3 0) := by
  refine zMet_of hO (by decide) (Nat.le_of_ble_eq_true rfl) ?_
  intro pP eE sS mM bB tT cC ls C hw hl
  have hl : lv_has ls 3 [(0, .ref (G.h + 272)), (1, .int (nI x)), (2, .int (nI i))] := hl
  have hM := hI.s
  have hn6 := hS.n6
  have hc4 := hI.c4
  have hmx := hM.m hx
  have hox := hS.m hx
  have hl40 := hox.log.1
  refine lv_aload_n C.x C.b dX4_chain_0 rfl (lv_at hl 0 rfl) ?_
  refine lv_aload_n C.x C.b dX4_chain_1 rfl (lv_at hl 0 rfl) ?_
  refine lv_iload_n C.x C.b dX4_chain_2 rfl (lv_at hl 1 rfl) ?_
  refine z_Vv (As := [.int (nI x)]) (rest := [.ref (G.h + 272)]) C hw hl (m_X4_isM_y hO _ hB hM.n hn6 hx) ivX4_104 hB.lt (hB.at _ _) rfl rfl ⟨(Nat.le_of_ble_eq_true rfl), (Nat.le_of_ble_eq_true rfl)⟩ (Nat.le_of_ble_eq_true rfl) ⟨Nat.zero_le _, Nat.zero_le _⟩ dX4_chain_3 (fun H locs hw => ?_)
  refine lv_if_eq (tgt := 27) C.x C.b dX4_chain_6 (by decide) (fun c_6 => absurd c_6 (by decide)) (fun c_6 => ?_)
  refine lv_iload_n C.x C.b dX4_chain_9 rfl (lv_at hl 2 rfl) ?_
  refine lv_iconst (v := 0) C.x C.b dX4_chain_10 (by decide) ?_
  refine lv_aload_n C.x C.b dX4_chain_11 rfl (lv_at hl 0 rfl) ?_
  refine lv_iload_n C.x C.b dX4_chain_12 rfl (lv_at hl 1 rfl) ?_
  refine lv_iconst (v := 4) C.x C.b dX4_chain_13 (by decide) ?_
  refine z_Vv (As := [.int (nI x), .int 4]) (rest := [.int 0, .int (nI i), .ref (G.h + 272)]) C hw hl (m_X4_get hO _ hB (o := 4) (mat_lt2 hx6 (by omega))) ivX4_40 hB.lt (hB.at _ _) rfl rfl ⟨(Nat.le_of_ble_eq_true rfl), (Nat.le_of_ble_eq_true rfl)⟩ (Nat.le_of_ble_eq_true rfl) ⟨Nat.zero_le _, Nat.zero_le _⟩ dX4_chain_14 (fun H locs hw => ?_)
  refine z_topi (y := nI (S.m x).log.1) (hmx.2.1.2.1) ?_
  refine z_Sv (As := [.int (nI i), .int 0, .int (nI (S.m x).log.1)]) (rest := [.ref (G.h + 272)]) C hw hl (m_X4_wy hO _ ⟨znege (by omega), zle (by omega) hi⟩) ivX4_24 rfl rfl ⟨(Nat.le_of_ble_eq_true rfl), (Nat.le_of_ble_eq_true rfl)⟩ (Nat.le_of_ble_eq_true rfl) ⟨Nat.zero_le _, Nat.zero_le _⟩ dX4_chain_17 (fun H locs hw => ?_)
  refine lv_if_eq (tgt := 27) C.x C.b dX4_chain_20 (by decide) (fun c_20 => absurd c_20 (by decide)) (fun c_20 => ?_)
  refine lv_iconst (v := 0) C.x C.b dX4_chain_23 (by decide) ?_
  refine lv_goto (tgt := 28) C.x C.b dX4_chain_24 (by decide) ?_
  refine z_Vv (As := [.int 0]) (rest := []) C hw hl (m_X4_ref0 hO _ hB) ivX4_35 hB.lt (hB.at _ _) rfl rfl ⟨(Nat.le_of_ble_eq_true rfl), (Nat.le_of_ble_eq_true rfl)⟩ (Nat.le_of_ble_eq_true rfl) ⟨Nat.zero_le _, Nat.zero_le _⟩ dX4_chain_28 (fun H locs hw => ?_)
  obtain ⟨z_1, ez_1⟩ : ∃ q_9, q_9 = zi z 272 3 0 := ⟨_, rfl⟩
  have hw : zS G N Λ z_1 sS H locs := by rw [ez_1]; exact hw
  have hI1 : mI z_1 S c Lf := by rw [ez_1]; exact hI.ref _
  have hM1 := hI1.s
  have hmx1 := hM1.m hx
  refine lv_if_eq (tgt := 38) C.x C.b dX4_chain_31 (by decide) (fun c_31 => ?_) (fun c_31 => absurd (rfl) c_31)
  refine lv_aload_n C.x C.b dX4_chain_38 rfl (lv_at hl 0 rfl) ?_
  refine lv_iload_n C.x C.b dX4_chain_39 rfl (lv_at hl 1 rfl) ?_
  refine z_pc (pc2 := 40) rfl ?_
  refine lv_iload_n C.x C.b dX4_chain_40 rfl (lv_at hl 2 rfl) ?_
  refine z_Vv (As := [.int (nI x), .int (nI i)]) (rest := []) C hw hl (m_X4_chainAt hO _ hB hx6 (i := i) (by omega) (r := (S.m x).log.2) (fun j hj => hmx1.2.1.2.2 j (by omega)) (fun j hj => hox.log.row hn6 j (by omega))) ivX4_84 hB.lt (hB.at _ _) rfl rfl ⟨(Nat.le_of_ble_eq_true rfl), (Nat.le_of_ble_eq_true rfl)⟩ (Nat.le_of_ble_eq_true rfl) ⟨Nat.zero_le _, Nat.zero_le _⟩ dX4_chain_41 (fun H locs hw => ?_)
  exact z_iret C hw dX4_chain_44 (rfl) (by rw [ez_1])

set_option maxRecDepth 100000 in
set_option maxHeartbeats 4000000 in
theorem f_X4_chain1 {G : zG} {N : Nat} {Λ : zLay} {l : Launch} (hO : zOK G l) (z : zM) (hB : zMo G N Λ) {S : aS} {c : Nat} {Lf : Nat → aS} (hI : mI z S c Lf) (hS : aOK S) {v i : Int32} (hv : ¬ isM v S.n) : zMet G N Λ l yX4_chain cX4_chain 3 (some .int) 4 [.ref (G.h + 272), .int v, .int i] z (some (.int 0)) (zi z 272 3 (nI 1)) := by
  refine zMet_of hO (by decide) (Nat.le_of_ble_eq_true rfl) ?_
  intro pP eE sS mM bB tT cC ls C hw hl
  have hl : lv_has ls 3 [(0, .ref (G.h + 272)), (1, .int v), (2, .int i)] := hl
  have hM := hI.s
  have hn6 := hS.n6
  have hc4 := hI.c4
  refine lv_aload_n C.x C.b dX4_chain_0 rfl (lv_at hl 0 rfl) ?_
  refine lv_aload_n C.x C.b dX4_chain_1 rfl (lv_at hl 0 rfl) ?_
  refine lv_iload_n C.x C.b dX4_chain_2 rfl (lv_at hl 1 rfl) ?_
  refine z_Vv (As := [.int v]) (rest := [.ref (G.h + 272)]) C hw hl (m_X4_isM_n hO _ hB hM.n hS.n2 hn6 hv) ivX4_104 hB.lt (hB.at _ _) rfl rfl ⟨(Nat.le_of_ble_eq_true rfl), (Nat.le_of_ble_eq_true rfl)⟩ (Nat.le_of_ble_eq_true rfl) ⟨Nat.zero_le _, Nat.zero_le _⟩ dX4_chain_3 (fun H locs hw => ?_)
  refine lv_if_eq (tgt := 27) C.x C.b dX4_chain_6 (by decide) (fun c_6 => ?_) (fun c_6 => absurd (rfl) c_6)
  refine lv_iconst (v := 1) C.x C.b dX4_chain_27 (by decide) ?_
  refine z_Vv (As := [.int 1]) (rest := []) C hw hl (m_X4_ref1 hO _ hB (w := 1) (by omega) (by omega)) ivX4_35 hB.lt (hB.at _ _) rfl rfl ⟨(Nat.le_of_ble_eq_true rfl), (Nat.le_of_ble_eq_true rfl)⟩ (Nat.le_of_ble_eq_true rfl) ⟨Nat.zero_le _, Nat.zero_le _⟩ dX4_chain_28 (fun H locs hw => ?_)
  obtain ⟨z_1, ez_1⟩ : ∃ q_9, q_9 = zi z 272 3 (nI 1) := ⟨_, rfl⟩
  have hw : zS G N Λ z_1 sS H locs := by rw [ez_1]; exact hw
  refine lv_if_eq (tgt := 38) C.x C.b dX4_chain_31 (by decide) (fun c_31 => absurd c_31 (by decide)) (fun c_31 => ?_)
  refine lv_iconst (v := 0) C.x C.b dX4_chain_34 (by decide) ?_
  refine lv_goto (tgt := 44) C.x C.b dX4_chain_35 (by decide) ?_
  exact z_iret C hw dX4_chain_44 (rfl) (by rw [ez_1])

set_option maxRecDepth 100000 in
set_option maxHeartbeats 4000000 in
theorem f_X4_chain2 {G : zG} {N : Nat} {Λ : zLay} {l : Launch} (hO : zOK G l) (z : zM) (hB : zMo G N Λ) {S : aS} {c : Nat} {Lf : Nat → aS} (hI : mI z S c Lf) (hS : aOK S) {x : Nat} (hx : x < S.n) (hx6 : x < 6) {i : Int32} (hi : ¬ isM i ((S.m x).log.1 + 1)) : zMet G N Λ l yX4_chain cX4_chain 3 (some .int) 4 [.ref (G.h + 272), .int (nI x), .int i] z (some (.int 0)) (zi z 272 3 (nI 1)) := by
  refine zMet_of hO (by decide) (Nat.le_of_ble_eq_true rfl) ?_
  intro pP eE sS mM bB tT cC ls C hw hl
  have hl : lv_has ls 3 [(0, .ref (G.h + 272)), (1, .int (nI x)), (2, .int i)] := hl
  have hM := hI.s
  have hn6 := hS.n6
  have hc4 := hI.c4
  have hmx := hM.m hx
  have hox := hS.m hx
  have hl40 := hox.log.1
  refine lv_aload_n C.x C.b dX4_chain_0 rfl (lv_at hl 0 rfl) ?_
  refine lv_aload_n C.x C.b dX4_chain_1 rfl (lv_at hl 0 rfl) ?_
  refine lv_iload_n C.x C.b dX4_chain_2 rfl (lv_at hl 1 rfl) ?_
  refine z_Vv (As := [.int (nI x)]) (rest := [.ref (G.h + 272)]) C hw hl (m_X4_isM_y hO _ hB hM.n hn6 hx) ivX4_104 hB.lt (hB.at _ _) rfl rfl ⟨(Nat.le_of_ble_eq_true rfl), (Nat.le_of_ble_eq_true rfl)⟩ (Nat.le_of_ble_eq_true rfl) ⟨Nat.zero_le _, Nat.zero_le _⟩ dX4_chain_3 (fun H locs hw => ?_)
  refine lv_if_eq (tgt := 27) C.x C.b dX4_chain_6 (by decide) (fun c_6 => absurd c_6 (by decide)) (fun c_6 => ?_)
  refine lv_iload_n C.x C.b dX4_chain_9 rfl (lv_at hl 2 rfl) ?_
  refine lv_iconst (v := 0) C.x C.b dX4_chain_10 (by decide) ?_
  refine lv_aload_n C.x C.b dX4_chain_11 rfl (lv_at hl 0 rfl) ?_
  refine lv_iload_n C.x C.b dX4_chain_12 rfl (lv_at hl 1 rfl) ?_
  refine lv_iconst (v := 4) C.x C.b dX4_chain_13 (by decide) ?_
  refine z_Vv (As := [.int (nI x), .int 4]) (rest := [.int 0, .int i, .ref (G.h + 272)]) C hw hl (m_X4_get hO _ hB (o := 4) (mat_lt2 hx6 (by omega))) ivX4_40 hB.lt (hB.at _ _) rfl rfl ⟨(Nat.le_of_ble_eq_true rfl), (Nat.le_of_ble_eq_true rfl)⟩ (Nat.le_of_ble_eq_true rfl) ⟨Nat.zero_le _, Nat.zero_le _⟩ dX4_chain_14 (fun H locs hw => ?_)
  refine z_topi (y := nI (S.m x).log.1) (hmx.2.1.2.1) ?_
  refine z_Sv (As := [.int i, .int 0, .int (nI (S.m x).log.1)]) (rest := [.ref (G.h + 272)]) C hw hl (m_X4_wn hO _ (fun q => hi (by obtain ⟨n, _, h2, h3⟩ := (isR_w (a := 0) (b := (S.m x).log.1) (by omega) (by omega)).mp q; exact ⟨n, by omega, h3⟩))) ivX4_24 rfl rfl ⟨(Nat.le_of_ble_eq_true rfl), (Nat.le_of_ble_eq_true rfl)⟩ (Nat.le_of_ble_eq_true rfl) ⟨Nat.zero_le _, Nat.zero_le _⟩ dX4_chain_17 (fun H locs hw => ?_)
  refine lv_if_eq (tgt := 27) C.x C.b dX4_chain_20 (by decide) (fun c_20 => ?_) (fun c_20 => absurd (rfl) c_20)
  refine lv_iconst (v := 1) C.x C.b dX4_chain_27 (by decide) ?_
  refine z_Vv (As := [.int 1]) (rest := []) C hw hl (m_X4_ref1 hO _ hB (w := 1) (by omega) (by omega)) ivX4_35 hB.lt (hB.at _ _) rfl rfl ⟨(Nat.le_of_ble_eq_true rfl), (Nat.le_of_ble_eq_true rfl)⟩ (Nat.le_of_ble_eq_true rfl) ⟨Nat.zero_le _, Nat.zero_le _⟩ dX4_chain_28 (fun H locs hw => ?_)
  obtain ⟨z_1, ez_1⟩ : ∃ q_9, q_9 = zi z 272 3 (nI 1) := ⟨_, rfl⟩
  have hw : zS G N Λ z_1 sS H locs := by rw [ez_1]; exact hw
  refine lv_if_eq (tgt := 38) C.x C.b dX4_chain_31 (by decide) (fun c_31 => absurd c_31 (by decide)) (fun c_31 => ?_)
  refine lv_iconst (v := 0) C.x C.b dX4_chain_34 (by decide) ?_
  refine lv_goto (tgt := 44) C.x C.b dX4_chain_35 (by decide) ?_
  exact z_iret C hw dX4_chain_44 (rfl) (by rw [ez_1])

set_option maxRecDepth 100000 in
set_option maxHeartbeats 4000000 in
theorem m_X4_authenticator {G : zG} {N : Nat} {Λ : zLay} {l : Launch} (hO : zOK G l) (z : zM) (hB : zMo G N Λ) {S : aS} {c : Nat} {Lf : Nat → aS} (hI : mI z S c Lf) (hS : aOK S) {x : Nat} (hx : x < S.n) (hx6 : x < 6) {i w : Nat} (hi : i < (S.m x).held.1) (hw3 : w < 3) : zMet G N Λ l yX4_authenticator cX4_authenticator 4 (some .int) 2 [.ref (G.h + 272), .int (nI x), .int (nI i), .int (nI w)] z (some (.int (nI ((S.m x).held.2 i w)))) (zi z 272 3 0) := by
  refine zMet_of hO (by decide) (Nat.le_of_ble_eq_true rfl) ?_
  intro pP eE sS mM bB tT cC ls C hw hl
  have hl : lv_has ls 4 [(0, .ref (G.h + 272)), (1, .int (nI x)), (2, .int (nI i)), (3, .int (nI w))] := hl
  have hM := hI.s
  have hn6 := hS.n6
  have hc4 := hI.c4
  have hmx := hM.m hx
  have hox := hS.m hx
  have hl40 := hox.log.1
  have hh60 := hox.held.1
  refine lv_aload_n C.x C.b dX4_authenticator_0 rfl (lv_at hl 0 rfl) ?_
  refine lv_aload_n C.x C.b dX4_authenticator_1 rfl (lv_at hl 0 rfl) ?_
  refine lv_iload_n C.x C.b dX4_authenticator_2 rfl (lv_at hl 1 rfl) ?_
  refine z_Vv (As := [.int (nI x)]) (rest := [.ref (G.h + 272)]) C hw hl (m_X4_isM_y hO _ hB hM.n hn6 hx) ivX4_104 hB.lt (hB.at _ _) rfl rfl ⟨(Nat.le_of_ble_eq_true rfl), (Nat.le_of_ble_eq_true rfl)⟩ (Nat.le_of_ble_eq_true rfl) ⟨Nat.zero_le _, Nat.zero_le _⟩ dX4_authenticator_3 (fun H locs hw => ?_)
  refine lv_if_eq (tgt := 26) C.x C.b dX4_authenticator_6 (by decide) (fun c_6 => absurd c_6 (by decide)) (fun c_6 => ?_)
  refine lv_iload_n C.x C.b dX4_authenticator_9 rfl (lv_at hl 2 rfl) ?_
  refine lv_iconst (v := 0) C.x C.b dX4_authenticator_10 (by decide) ?_
  refine lv_aload_n C.x C.b dX4_authenticator_11 rfl (lv_at hl 0 rfl) ?_
  refine lv_iload_n C.x C.b dX4_authenticator_12 rfl (lv_at hl 1 rfl) ?_
  refine lv_bipush (v := 45) C.x C.b dX4_authenticator_13 (by decide) ?_
  refine z_Vv (As := [.int (nI x), .int 45]) (rest := [.int 0, .int (nI i), .ref (G.h + 272)]) C hw hl (m_X4_get hO _ hB (o := 45) (mat_lt2 hx6 (by omega))) ivX4_40 hB.lt (hB.at _ _) rfl rfl ⟨(Nat.le_of_ble_eq_true rfl), (Nat.le_of_ble_eq_true rfl)⟩ (Nat.le_of_ble_eq_true rfl) ⟨Nat.zero_le _, Nat.zero_le _⟩ dX4_authenticator_15 (fun H locs hw => ?_)
  refine z_topi (y := nI (S.m x).held.1) (hmx.2.2.1.2.1) ?_
  refine lv_iconst (v := 1) C.x C.b dX4_authenticator_18 (by decide) ?_
  refine lv_isub C.x C.b dX4_authenticator_19 ?_
  refine z_Sv (As := [.int (nI i), .int 0, .int ((nI (S.m x).held.1) - 1)]) (rest := [.ref (G.h + 272)]) C hw hl (m_X4_wy hO _ ((isM_w (by omega)).mpr ⟨i, hi, rfl⟩)) ivX4_24 rfl rfl ⟨(Nat.le_of_ble_eq_true rfl), (Nat.le_of_ble_eq_true rfl)⟩ (Nat.le_of_ble_eq_true rfl) ⟨Nat.zero_le _, Nat.zero_le _⟩ dX4_authenticator_20 (fun H locs hw => ?_)
  refine lv_if_ne (tgt := 30) C.x C.b dX4_authenticator_23 (by decide) (fun c_23 => ?_) (fun c_23 => absurd c_23 (by decide))
  refine lv_iload_n C.x C.b dX4_authenticator_30 rfl (lv_at hl 3 rfl) ?_
  refine lv_iconst (v := 0) C.x C.b dX4_authenticator_31 (by decide) ?_
  refine lv_iconst (v := 2) C.x C.b dX4_authenticator_32 (by decide) ?_
  refine z_Sv (As := [.int (nI w), .int 0, .int 2]) (rest := [.ref (G.h + 272)]) C hw hl (m_X4_wy hO _ ((isR_w (a := 0) (b := 2) (by omega) (by omega)).mpr ⟨_, by omega, by omega, rfl⟩)) ivX4_24 rfl rfl ⟨(Nat.le_of_ble_eq_true rfl), (Nat.le_of_ble_eq_true rfl)⟩ (Nat.le_of_ble_eq_true rfl) ⟨Nat.zero_le _, Nat.zero_le _⟩ dX4_authenticator_33 (fun H locs hw => ?_)
  refine z_pc (pc2 := 36) rfl ?_
  refine lv_if_eq (tgt := 43) C.x C.b dX4_authenticator_36 (by decide) (fun c_36 => absurd c_36 (by decide)) (fun c_36 => ?_)
  refine lv_iconst (v := 0) C.x C.b dX4_authenticator_39 (by decide) ?_
  refine lv_goto (tgt := 44) C.x C.b dX4_authenticator_40 (by decide) ?_
  refine z_Vv (As := [.int 0]) (rest := []) C hw hl (m_X4_ref0 hO _ hB) ivX4_35 hB.lt (hB.at _ _) rfl rfl ⟨(Nat.le_of_ble_eq_true rfl), (Nat.le_of_ble_eq_true rfl)⟩ (Nat.le_of_ble_eq_true rfl) ⟨Nat.zero_le _, Nat.zero_le _⟩ dX4_authenticator_44 (fun H locs hw => ?_)
  obtain ⟨z_1, ez_1⟩ : ∃ q_9, q_9 = zi z 272 3 0 := ⟨_, rfl⟩
  have hw : zS G N Λ z_1 sS H locs := by rw [ez_1]; exact hw
  have hI1 : mI z_1 S c Lf := by rw [ez_1]; exact hI.ref _
  have hM1 := hI1.s
  have hmx1 := hM1.m hx
  refine lv_if_eq (tgt := 52) C.x C.b dX4_authenticator_47 (by decide) (fun c_47 => ?_) (fun c_47 => absurd (rfl) c_47)
  refine lv_aload_n C.x C.b dX4_authenticator_52 rfl (lv_at hl 0 rfl) ?_
  refine lv_iload_n C.x C.b dX4_authenticator_53 rfl (lv_at hl 1 rfl) ?_
  refine lv_bipush (v := 46) C.x C.b dX4_authenticator_54 (by decide) ?_
  refine lv_iconst (v := 3) C.x C.b dX4_authenticator_56 (by decide) ?_
  refine lv_iload_n C.x C.b dX4_authenticator_57 rfl (lv_at hl 2 rfl) ?_
  refine lv_imul C.x C.b dX4_authenticator_58 ?_
  refine lv_iadd C.x C.b dX4_authenticator_59 ?_
  refine lv_iload_n C.x C.b dX4_authenticator_60 rfl (lv_at hl 3 rfl) ?_
  refine lv_iadd C.x C.b dX4_authenticator_61 ?_
  refine z_topi (y := nI (46 + 3 * i + w)) (by rw [zlit 46, zlit 3, pk_mul, nI_add, nI_add]) ?_
  refine z_Vv (As := [.int (nI x), .int (nI (46 + 3 * i + w))]) (rest := []) C hw hl (m_X4_get hO _ hB (o := 46 + 3 * i + w) (mat_lt2 hx6 (by omega))) ivX4_40 hB.lt (hB.at _ _) rfl rfl ⟨(Nat.le_of_ble_eq_true rfl), (Nat.le_of_ble_eq_true rfl)⟩ (Nat.le_of_ble_eq_true rfl) ⟨Nat.zero_le _, Nat.zero_le _⟩ dX4_authenticator_62 (fun H locs hw => ?_)
  refine z_topi (y := nI ((S.m x).held.2 i w)) (hmx1.2.2.1.at hi hw3) ?_
  exact z_iret C hw dX4_authenticator_65 (rfl) (by rw [ez_1])

set_option maxRecDepth 100000 in
set_option maxHeartbeats 4000000 in
theorem f_X4_authenticator1 {G : zG} {N : Nat} {Λ : zLay} {l : Launch} (hO : zOK G l) (z : zM) (hB : zMo G N Λ) {S : aS} {c : Nat} {Lf : Nat → aS} (hI : mI z S c Lf) (hS : aOK S) {v i w : Int32} (hv : ¬ isM v S.n) : zMet G N Λ l yX4_authenticator cX4_authenticator 4 (some .int) 2 [.ref (G.h + 272), .int v, .int i, .int w] z (some (.int 0)) (zi z 272 3 (nI 1)) := by
  refine zMet_of hO (by decide) (Nat.le_of_ble_eq_true rfl) ?_
  intro pP eE sS mM bB tT cC ls C hw hl
  have hl : lv_has ls 4 [(0, .ref (G.h + 272)), (1, .int v), (2, .int i), (3, .int w)] := hl
  have hM := hI.s
  have hn6 := hS.n6
  have hc4 := hI.c4
  refine lv_aload_n C.x C.b dX4_authenticator_0 rfl (lv_at hl 0 rfl) ?_
  refine lv_aload_n C.x C.b dX4_authenticator_1 rfl (lv_at hl 0 rfl) ?_
  refine lv_iload_n C.x C.b dX4_authenticator_2 rfl (lv_at hl 1 rfl) ?_
  refine z_Vv (As := [.int v]) (rest := [.ref (G.h + 272)]) C hw hl (m_X4_isM_n hO _ hB hM.n hS.n2 hn6 hv) ivX4_104 hB.lt (hB.at _ _) rfl rfl ⟨(Nat.le_of_ble_eq_true rfl), (Nat.le_of_ble_eq_true rfl)⟩ (Nat.le_of_ble_eq_true rfl) ⟨Nat.zero_le _, Nat.zero_le _⟩ dX4_authenticator_3 (fun H locs hw => ?_)
  refine lv_if_eq (tgt := 26) C.x C.b dX4_authenticator_6 (by decide) (fun c_6 => ?_) (fun c_6 => absurd (rfl) c_6)
  refine lv_iconst (v := 1) C.x C.b dX4_authenticator_26 (by decide) ?_
  refine lv_goto (tgt := 44) C.x C.b dX4_authenticator_27 (by decide) ?_
  refine z_Vv (As := [.int 1]) (rest := []) C hw hl (m_X4_ref1 hO _ hB (w := 1) (by omega) (by omega)) ivX4_35 hB.lt (hB.at _ _) rfl rfl ⟨(Nat.le_of_ble_eq_true rfl), (Nat.le_of_ble_eq_true rfl)⟩ (Nat.le_of_ble_eq_true rfl) ⟨Nat.zero_le _, Nat.zero_le _⟩ dX4_authenticator_44 (fun H locs hw => ?_)
  obtain ⟨z_1, ez_1⟩ : ∃ q_9, q_9 = zi z 272 3 (nI 1) := ⟨_, rfl⟩
  have hw : zS G N Λ z_1 sS H locs := by rw [ez_1]; exact hw
  refine lv_if_eq (tgt := 52) C.x C.b dX4_authenticator_47 (by decide) (fun c_47 => absurd c_47 (by decide)) (fun c_47 => ?_)
  refine lv_iconst (v := 0) C.x C.b dX4_authenticator_50 (by decide) ?_
  exact z_iret C hw dX4_authenticator_51 (rfl) (by rw [ez_1])

set_option maxRecDepth 100000 in
set_option maxHeartbeats 4000000 in
theorem f_X4_authenticator2 {G : zG} {N : Nat} {Λ : zLay} {l : Launch} (hO : zOK G l) (z : zM) (hB : zMo G N Λ) {S : aS} {c : Nat} {Lf : Nat → aS} (hI : mI z S c Lf) (hS : aOK S) {x : Nat} (hx : x < S.n) (hx6 : x < 6) {i w : Int32} (hi : ¬ isM i (S.m x).held.1) : zMet G N Λ l yX4_authenticator cX4_authenticator 4 (some .int) 2 [.ref (G.h + 272), .int (nI x), .int i, .int w] z (some (.int 0)) (zi z 272 3 (nI 1)) := by
  refine zMet_of hO (by decide) (Nat.le_of_ble_eq_true rfl) ?_
  intro pP eE sS mM bB tT cC ls C hw hl
  have hl : lv_has ls 4 [(0, .ref (G.h + 272)), (1, .int (nI x)), (2, .int i), (3, .int w)] := hl
  have hM := hI.s
  have hn6 := hS.n6
  have hc4 := hI.c4
  have hmx := hM.m hx
  have hox := hS.m hx
  have hl40 := hox.log.1
  have hh60 := hox.held.1
  refine lv_aload_n C.x C.b dX4_authenticator_0 rfl (lv_at hl 0 rfl) ?_
  refine lv_aload_n C.x C.b dX4_authenticator_1 rfl (lv_at hl 0 rfl) ?_
  refine lv_iload_n C.x C.b dX4_authenticator_2 rfl (lv_at hl 1 rfl) ?_
  refine z_Vv (As := [.int (nI x)]) (rest := [.ref (G.h + 272)]) C hw hl (m_X4_isM_y hO _ hB hM.n hn6 hx) ivX4_104 hB.lt (hB.at _ _) rfl rfl ⟨(Nat.le_of_ble_eq_true rfl), (Nat.le_of_ble_eq_true rfl)⟩ (Nat.le_of_ble_eq_true rfl) ⟨Nat.zero_le _, Nat.zero_le _⟩ dX4_authenticator_3 (fun H locs hw => ?_)
  refine lv_if_eq (tgt := 26) C.x C.b dX4_authenticator_6 (by decide) (fun c_6 => absurd c_6 (by decide)) (fun c_6 => ?_)
  refine lv_iload_n C.x C.b dX4_authenticator_9 rfl (lv_at hl 2 rfl) ?_
  refine lv_iconst (v := 0) C.x C.b dX4_authenticator_10 (by decide) ?_
  refine lv_aload_n C.x C.b dX4_authenticator_11 rfl (lv_at hl 0 rfl) ?_
  refine lv_iload_n C.x C.b dX4_authenticator_12 rfl (lv_at hl 1 rfl) ?_
  refine lv_bipush (v := 45) C.x C.b dX4_authenticator_13 (by decide) ?_
  refine z_Vv (As := [.int (nI x), .int 45]) (rest := [.int 0, .int i, .ref (G.h + 272)]) C hw hl (m_X4_get hO _ hB (o := 45) (mat_lt2 hx6 (by omega))) ivX4_40 hB.lt (hB.at _ _) rfl rfl ⟨(Nat.le_of_ble_eq_true rfl), (Nat.le_of_ble_eq_true rfl)⟩ (Nat.le_of_ble_eq_true rfl) ⟨Nat.zero_le _, Nat.zero_le _⟩ dX4_authenticator_15 (fun H locs hw => ?_)
  refine z_topi (y := nI (S.m x).held.1) (hmx.2.2.1.2.1) ?_
  refine lv_iconst (v := 1) C.x C.b dX4_authenticator_18 (by decide) ?_
  refine lv_isub C.x C.b dX4_authenticator_19 ?_
  refine z_Sv (As := [.int i, .int 0, .int ((nI (S.m x).held.1) - 1)]) (rest := [.ref (G.h + 272)]) C hw hl (m_X4_wn hO _ (fun q => hi ((isM_w (by omega)).mp q))) ivX4_24 rfl rfl ⟨(Nat.le_of_ble_eq_true rfl), (Nat.le_of_ble_eq_true rfl)⟩ (Nat.le_of_ble_eq_true rfl) ⟨Nat.zero_le _, Nat.zero_le _⟩ dX4_authenticator_20 (fun H locs hw => ?_)
  refine lv_if_ne (tgt := 30) C.x C.b dX4_authenticator_23 (by decide) (fun c_23 => absurd c_23 (fun q => q rfl)) (fun c_23 => ?_)
  refine lv_iconst (v := 1) C.x C.b dX4_authenticator_26 (by decide) ?_
  refine lv_goto (tgt := 44) C.x C.b dX4_authenticator_27 (by decide) ?_
  refine z_Vv (As := [.int 1]) (rest := []) C hw hl (m_X4_ref1 hO _ hB (w := 1) (by omega) (by omega)) ivX4_35 hB.lt (hB.at _ _) rfl rfl ⟨(Nat.le_of_ble_eq_true rfl), (Nat.le_of_ble_eq_true rfl)⟩ (Nat.le_of_ble_eq_true rfl) ⟨Nat.zero_le _, Nat.zero_le _⟩ dX4_authenticator_44 (fun H locs hw => ?_)
  obtain ⟨z_1, ez_1⟩ : ∃ q_9, q_9 = zi z 272 3 (nI 1) := ⟨_, rfl⟩
  have hw : zS G N Λ z_1 sS H locs := by rw [ez_1]; exact hw
  refine lv_if_eq (tgt := 52) C.x C.b dX4_authenticator_47 (by decide) (fun c_47 => absurd c_47 (by decide)) (fun c_47 => ?_)
  refine z_pc (pc2 := 50) rfl ?_
  refine lv_iconst (v := 0) C.x C.b dX4_authenticator_50 (by decide) ?_
  exact z_iret C hw dX4_authenticator_51 (rfl) (by rw [ez_1])

set_option maxRecDepth 100000 in
set_option maxHeartbeats 4000000 in
theorem f_X4_authenticator3 {G : zG} {N : Nat} {Λ : zLay} {l : Launch} (hO : zOK G l) (z : zM) (hB : zMo G N Λ) {S : aS} {c : Nat} {Lf : Nat → aS} (hI : mI z S c Lf) (hS : aOK S) {x : Nat} (hx : x < S.n) (hx6 : x < 6) {i : Nat} {w : Int32} (hi : i < (S.m x).held.1) (hw3 : ¬ isM w 3) : zMet G N Λ l yX4_authenticator cX4_authenticator 4 (some .int) 2 [.ref (G.h + 272), .int (nI x), .int (nI i), .int w] z (some (.int 0)) (zi z 272 3 (nI 2)) := by
  refine zMet_of hO (by decide) (Nat.le_of_ble_eq_true rfl) ?_
  intro pP eE sS mM bB tT cC ls C hw hl
  have hl : lv_has ls 4 [(0, .ref (G.h + 272)), (1, .int (nI x)), (2, .int (nI i)), (3, .int w)] := hl
  have hM := hI.s
  have hn6 := hS.n6
  have hc4 := hI.c4
  have hmx := hM.m hx
  have hox := hS.m hx
  have hl40 := hox.log.1
  have hh60 := hox.held.1
  refine lv_aload_n C.x C.b dX4_authenticator_0 rfl (lv_at hl 0 rfl) ?_
  refine lv_aload_n C.x C.b dX4_authenticator_1 rfl (lv_at hl 0 rfl) ?_
  refine lv_iload_n C.x C.b dX4_authenticator_2 rfl (lv_at hl 1 rfl) ?_
  refine z_Vv (As := [.int (nI x)]) (rest := [.ref (G.h + 272)]) C hw hl (m_X4_isM_y hO _ hB hM.n hn6 hx) ivX4_104 hB.lt (hB.at _ _) rfl rfl ⟨(Nat.le_of_ble_eq_true rfl), (Nat.le_of_ble_eq_true rfl)⟩ (Nat.le_of_ble_eq_true rfl) ⟨Nat.zero_le _, Nat.zero_le _⟩ dX4_authenticator_3 (fun H locs hw => ?_)
  refine lv_if_eq (tgt := 26) C.x C.b dX4_authenticator_6 (by decide) (fun c_6 => absurd c_6 (by decide)) (fun c_6 => ?_)
  refine lv_iload_n C.x C.b dX4_authenticator_9 rfl (lv_at hl 2 rfl) ?_
  refine lv_iconst (v := 0) C.x C.b dX4_authenticator_10 (by decide) ?_
  refine lv_aload_n C.x C.b dX4_authenticator_11 rfl (lv_at hl 0 rfl) ?_
  refine lv_iload_n C.x C.b dX4_authenticator_12 rfl (lv_at hl 1 rfl) ?_
  refine lv_bipush (v := 45) C.x C.b dX4_authenticator_13 (by decide) ?_
  refine z_Vv (As := [.int (nI x), .int 45]) (rest := [.int 0, .int (nI i), .ref (G.h + 272)]) C hw hl (m_X4_get hO _ hB (o := 45) (mat_lt2 hx6 (by omega))) ivX4_40 hB.lt (hB.at _ _) rfl rfl ⟨(Nat.le_of_ble_eq_true rfl), (Nat.le_of_ble_eq_true rfl)⟩ (Nat.le_of_ble_eq_true rfl) ⟨Nat.zero_le _, Nat.zero_le _⟩ dX4_authenticator_15 (fun H locs hw => ?_)
  refine z_topi (y := nI (S.m x).held.1) (hmx.2.2.1.2.1) ?_
  refine lv_iconst (v := 1) C.x C.b dX4_authenticator_18 (by decide) ?_
  refine lv_isub C.x C.b dX4_authenticator_19 ?_
  refine z_Sv (As := [.int (nI i), .int 0, .int ((nI (S.m x).held.1) - 1)]) (rest := [.ref (G.h + 272)]) C hw hl (m_X4_wy hO _ ((isM_w (by omega)).mpr ⟨i, hi, rfl⟩)) ivX4_24 rfl rfl ⟨(Nat.le_of_ble_eq_true rfl), (Nat.le_of_ble_eq_true rfl)⟩ (Nat.le_of_ble_eq_true rfl) ⟨Nat.zero_le _, Nat.zero_le _⟩ dX4_authenticator_20 (fun H locs hw => ?_)
  refine lv_if_ne (tgt := 30) C.x C.b dX4_authenticator_23 (by decide) (fun c_23 => ?_) (fun c_23 => absurd c_23 (by decide))
  refine lv_iload_n C.x C.b dX4_authenticator_30 rfl (lv_at hl 3 rfl) ?_
  refine lv_iconst (v := 0) C.x C.b dX4_authenticator_31 (by decide) ?_
  refine lv_iconst (v := 2) C.x C.b dX4_authenticator_32 (by decide) ?_
  refine z_Sv (As := [.int w, .int 0, .int 2]) (rest := [.ref (G.h + 272)]) C hw hl (m_X4_wn hO _ (fun q => hw3 (by obtain ⟨n, _, h2, h3⟩ := (isR_w (a := 0) (b := 2) (by omega) (by omega)).mp q; exact ⟨n, by omega, h3⟩))) ivX4_24 rfl rfl ⟨(Nat.le_of_ble_eq_true rfl), (Nat.le_of_ble_eq_true rfl)⟩ (Nat.le_of_ble_eq_true rfl) ⟨Nat.zero_le _, Nat.zero_le _⟩ dX4_authenticator_33 (fun H locs hw => ?_)
  refine z_pc (pc2 := 36) rfl ?_
  refine lv_if_eq (tgt := 43) C.x C.b dX4_authenticator_36 (by decide) (fun c_36 => ?_) (fun c_36 => absurd (rfl) c_36)
  refine lv_iconst (v := 2) C.x C.b dX4_authenticator_43 (by decide) ?_
  refine z_Vv (As := [.int 2]) (rest := []) C hw hl (m_X4_ref1 hO _ hB (w := 2) (by omega) (by omega)) ivX4_35 hB.lt (hB.at _ _) rfl rfl ⟨(Nat.le_of_ble_eq_true rfl), (Nat.le_of_ble_eq_true rfl)⟩ (Nat.le_of_ble_eq_true rfl) ⟨Nat.zero_le _, Nat.zero_le _⟩ dX4_authenticator_44 (fun H locs hw => ?_)
  obtain ⟨z_1, ez_1⟩ : ∃ q_9, q_9 = zi z 272 3 (nI 2) := ⟨_, rfl⟩
  have hw : zS G N Λ z_1 sS H locs := by rw [ez_1]; exact hw
  refine lv_if_eq (tgt := 52) C.x C.b dX4_authenticator_47 (by decide) (fun c_47 => absurd c_47 (by decide)) (fun c_47 => ?_)
  refine lv_iconst (v := 0) C.x C.b dX4_authenticator_50 (by decide) ?_
  exact z_iret C hw dX4_authenticator_51 (rfl) (by rw [ez_1])

set_option maxRecDepth 100000 in
set_option maxHeartbeats 4000000 in
theorem m_X4_verdict {G : zG} {N : Nat} {Λ : zLay} {l : Launch} (hO : zOK G l) (z : zM) (hB : zMo G N Λ) {S : aS} {c : Nat} {Lf : Nat → aS} (hI : mI z S c Lf) (hS : aOK S) {x : Nat} (hx : x < S.n) (hx6 : x < 6) {w : Nat} (hwn : w < S.n) (hw6 : w < 6) : zMet G N Λ l yX4_verdict cX4_verdict 3 (some .int) 2 [.ref (G.h + 272), .int (nI w), .int (nI x)] z (some (.int (nI ((S.m x).ver w)))) (zi z 272 3 0) := by
  refine zMet_of hO (by decide) (Nat.le_of_ble_eq_true rfl) ?_
  intro pP eE sS mM bB tT cC ls C hw hl
  have hl : lv_has ls 3 [(0, .ref (G.h + 272)), (1, .int (nI w)), (2, .int (nI x))] := hl
  have hM := hI.s
  have hn6 := hS.n6
  have hc4 := hI.c4
  have hmx := hM.m hx
  have hox := hS.m hx
  have hl40 := hox.log.1
  refine lv_aload_n C.x C.b dX4_verdict_0 rfl (lv_at hl 0 rfl) ?_
  refine lv_aload_n C.x C.b dX4_verdict_1 rfl (lv_at hl 0 rfl) ?_
  refine lv_iload_n C.x C.b dX4_verdict_2 rfl (lv_at hl 1 rfl) ?_
  refine z_Vv (As := [.int (nI w)]) (rest := [.ref (G.h + 272)]) C hw hl (m_X4_isM_y hO _ hB hM.n hn6 hwn) ivX4_104 hB.lt (hB.at _ _) rfl rfl ⟨(Nat.le_of_ble_eq_true rfl), (Nat.le_of_ble_eq_true rfl)⟩ (Nat.le_of_ble_eq_true rfl) ⟨Nat.zero_le _, Nat.zero_le _⟩ dX4_verdict_3 (fun H locs hw => ?_)
  refine lv_if_eq (tgt := 21) C.x C.b dX4_verdict_6 (by decide) (fun c_6 => absurd c_6 (by decide)) (fun c_6 => ?_)
  refine lv_aload_n C.x C.b dX4_verdict_9 rfl (lv_at hl 0 rfl) ?_
  refine lv_iload_n C.x C.b dX4_verdict_10 rfl (lv_at hl 2 rfl) ?_
  refine z_Vv (As := [.int (nI x)]) (rest := [.ref (G.h + 272)]) C hw hl (m_X4_isM_y hO _ hB hM.n hn6 hx) ivX4_104 hB.lt (hB.at _ _) rfl rfl ⟨(Nat.le_of_ble_eq_true rfl), (Nat.le_of_ble_eq_true rfl)⟩ (Nat.le_of_ble_eq_true rfl) ⟨Nat.zero_le _, Nat.zero_le _⟩ dX4_verdict_11 (fun H locs hw => ?_)
  refine lv_if_eq (tgt := 21) C.x C.b dX4_verdict_14 (by decide) (fun c_14 => absurd c_14 (by decide)) (fun c_14 => ?_)
  refine lv_iconst (v := 0) C.x C.b dX4_verdict_17 (by decide) ?_
  refine lv_goto (tgt := 22) C.x C.b dX4_verdict_18 (by decide) ?_
  refine z_Vv (As := [.int 0]) (rest := []) C hw hl (m_X4_ref0 hO _ hB) ivX4_35 hB.lt (hB.at _ _) rfl rfl ⟨(Nat.le_of_ble_eq_true rfl), (Nat.le_of_ble_eq_true rfl)⟩ (Nat.le_of_ble_eq_true rfl) ⟨Nat.zero_le _, Nat.zero_le _⟩ dX4_verdict_22 (fun H locs hw => ?_)
  obtain ⟨z_1, ez_1⟩ : ∃ q_9, q_9 = zi z 272 3 0 := ⟨_, rfl⟩
  have hw : zS G N Λ z_1 sS H locs := by rw [ez_1]; exact hw
  have hI1 : mI z_1 S c Lf := by rw [ez_1]; exact hI.ref _
  have hM1 := hI1.s
  have hmx1 := hM1.m hx
  refine lv_if_eq (tgt := 32) C.x C.b dX4_verdict_25 (by decide) (fun c_25 => ?_) (fun c_25 => absurd (rfl) c_25)
  refine lv_aload_n C.x C.b dX4_verdict_32 rfl (lv_at hl 0 rfl) ?_
  refine lv_iload_n C.x C.b dX4_verdict_33 rfl (lv_at hl 2 rfl) ?_
  refine lv_sipush (v := 427) C.x C.b dX4_verdict_34 (by decide) ?_
  refine lv_iload_n C.x C.b dX4_verdict_37 rfl (lv_at hl 1 rfl) ?_
  refine lv_iadd C.x C.b dX4_verdict_38 ?_
  refine z_topi (y := nI (427 + w)) (by rw [zlit 427, nI_add]) ?_
  refine z_Vv (As := [.int (nI x), .int (nI (427 + w))]) (rest := []) C hw hl (m_X4_get hO _ hB (o := 427 + w) (mat_lt2 hx6 (by omega))) ivX4_40 hB.lt (hB.at _ _) rfl rfl ⟨(Nat.le_of_ble_eq_true rfl), (Nat.le_of_ble_eq_true rfl)⟩ (Nat.le_of_ble_eq_true rfl) ⟨Nat.zero_le _, Nat.zero_le _⟩ dX4_verdict_39 (fun H locs hw => ?_)
  refine z_topi (y := nI ((S.m x).ver w)) (hmx1.2.2.2.2 w hw6) ?_
  refine z_pc (pc2 := 42) rfl ?_
  exact z_iret C hw dX4_verdict_42 (rfl) (by rw [ez_1])

set_option maxRecDepth 100000 in
set_option maxHeartbeats 4000000 in
theorem f_X4_verdict1 {G : zG} {N : Nat} {Λ : zLay} {l : Launch} (hO : zOK G l) (z : zM) (hB : zMo G N Λ) {S : aS} {c : Nat} {Lf : Nat → aS} (hI : mI z S c Lf) (hS : aOK S) {v x : Int32} (hv : ¬ isM v S.n) : zMet G N Λ l yX4_verdict cX4_verdict 3 (some .int) 2 [.ref (G.h + 272), .int v, .int x] z (some (.int 0)) (zi z 272 3 (nI 1)) := by
  refine zMet_of hO (by decide) (Nat.le_of_ble_eq_true rfl) ?_
  intro pP eE sS mM bB tT cC ls C hw hl
  have hl : lv_has ls 3 [(0, .ref (G.h + 272)), (1, .int v), (2, .int x)] := hl
  have hM := hI.s
  have hn6 := hS.n6
  have hc4 := hI.c4
  refine lv_aload_n C.x C.b dX4_verdict_0 rfl (lv_at hl 0 rfl) ?_
  refine lv_aload_n C.x C.b dX4_verdict_1 rfl (lv_at hl 0 rfl) ?_
  refine lv_iload_n C.x C.b dX4_verdict_2 rfl (lv_at hl 1 rfl) ?_
  refine z_Vv (As := [.int v]) (rest := [.ref (G.h + 272)]) C hw hl (m_X4_isM_n hO _ hB hM.n hS.n2 hn6 hv) ivX4_104 hB.lt (hB.at _ _) rfl rfl ⟨(Nat.le_of_ble_eq_true rfl), (Nat.le_of_ble_eq_true rfl)⟩ (Nat.le_of_ble_eq_true rfl) ⟨Nat.zero_le _, Nat.zero_le _⟩ dX4_verdict_3 (fun H locs hw => ?_)
  refine lv_if_eq (tgt := 21) C.x C.b dX4_verdict_6 (by decide) (fun c_6 => ?_) (fun c_6 => absurd (rfl) c_6)
  refine lv_iconst (v := 1) C.x C.b dX4_verdict_21 (by decide) ?_
  refine z_Vv (As := [.int 1]) (rest := []) C hw hl (m_X4_ref1 hO _ hB (w := 1) (by omega) (by omega)) ivX4_35 hB.lt (hB.at _ _) rfl rfl ⟨(Nat.le_of_ble_eq_true rfl), (Nat.le_of_ble_eq_true rfl)⟩ (Nat.le_of_ble_eq_true rfl) ⟨Nat.zero_le _, Nat.zero_le _⟩ dX4_verdict_22 (fun H locs hw => ?_)
  obtain ⟨z_1, ez_1⟩ : ∃ q_9, q_9 = zi z 272 3 (nI 1) := ⟨_, rfl⟩
  have hw : zS G N Λ z_1 sS H locs := by rw [ez_1]; exact hw
  refine lv_if_eq (tgt := 32) C.x C.b dX4_verdict_25 (by decide) (fun c_25 => absurd c_25 (by decide)) (fun c_25 => ?_)
  refine lv_iconst (v := 0) C.x C.b dX4_verdict_28 (by decide) ?_
  refine lv_goto (tgt := 42) C.x C.b dX4_verdict_29 (by decide) ?_
  exact z_iret C hw dX4_verdict_42 (rfl) (by rw [ez_1])

set_option maxRecDepth 100000 in
set_option maxHeartbeats 4000000 in
theorem f_X4_verdict2 {G : zG} {N : Nat} {Λ : zLay} {l : Launch} (hO : zOK G l) (z : zM) (hB : zMo G N Λ) {S : aS} {c : Nat} {Lf : Nat → aS} (hI : mI z S c Lf) (hS : aOK S) {w : Nat} (hwn : w < S.n) {v : Int32} (hv : ¬ isM v S.n) : zMet G N Λ l yX4_verdict cX4_verdict 3 (some .int) 2 [.ref (G.h + 272), .int (nI w), .int v] z (some (.int 0)) (zi z 272 3 (nI 1)) := by
  refine zMet_of hO (by decide) (Nat.le_of_ble_eq_true rfl) ?_
  intro pP eE sS mM bB tT cC ls C hw hl
  have hl : lv_has ls 3 [(0, .ref (G.h + 272)), (1, .int (nI w)), (2, .int v)] := hl
  have hM := hI.s
  have hn6 := hS.n6
  have hc4 := hI.c4
  refine lv_aload_n C.x C.b dX4_verdict_0 rfl (lv_at hl 0 rfl) ?_
  refine lv_aload_n C.x C.b dX4_verdict_1 rfl (lv_at hl 0 rfl) ?_
  refine lv_iload_n C.x C.b dX4_verdict_2 rfl (lv_at hl 1 rfl) ?_
  refine z_Vv (As := [.int (nI w)]) (rest := [.ref (G.h + 272)]) C hw hl (m_X4_isM_y hO _ hB hM.n hn6 hwn) ivX4_104 hB.lt (hB.at _ _) rfl rfl ⟨(Nat.le_of_ble_eq_true rfl), (Nat.le_of_ble_eq_true rfl)⟩ (Nat.le_of_ble_eq_true rfl) ⟨Nat.zero_le _, Nat.zero_le _⟩ dX4_verdict_3 (fun H locs hw => ?_)
  refine lv_if_eq (tgt := 21) C.x C.b dX4_verdict_6 (by decide) (fun c_6 => absurd c_6 (by decide)) (fun c_6 => ?_)
  refine lv_aload_n C.x C.b dX4_verdict_9 rfl (lv_at hl 0 rfl) ?_
  refine lv_iload_n C.x C.b dX4_verdict_10 rfl (lv_at hl 2 rfl) ?_
  refine z_Vv (As := [.int v]) (rest := [.ref (G.h + 272)]) C hw hl (m_X4_isM_n hO _ hB hM.n hS.n2 hn6 hv) ivX4_104 hB.lt (hB.at _ _) rfl rfl ⟨(Nat.le_of_ble_eq_true rfl), (Nat.le_of_ble_eq_true rfl)⟩ (Nat.le_of_ble_eq_true rfl) ⟨Nat.zero_le _, Nat.zero_le _⟩ dX4_verdict_11 (fun H locs hw => ?_)
  refine lv_if_eq (tgt := 21) C.x C.b dX4_verdict_14 (by decide) (fun c_14 => ?_) (fun c_14 => absurd (rfl) c_14)
  refine lv_iconst (v := 1) C.x C.b dX4_verdict_21 (by decide) ?_
  refine z_Vv (As := [.int 1]) (rest := []) C hw hl (m_X4_ref1 hO _ hB (w := 1) (by omega) (by omega)) ivX4_35 hB.lt (hB.at _ _) rfl rfl ⟨(Nat.le_of_ble_eq_true rfl), (Nat.le_of_ble_eq_true rfl)⟩ (Nat.le_of_ble_eq_true rfl) ⟨Nat.zero_le _, Nat.zero_le _⟩ dX4_verdict_22 (fun H locs hw => ?_)
  obtain ⟨z_1, ez_1⟩ : ∃ q_9, q_9 = zi z 272 3 (nI 1) := ⟨_, rfl⟩
  have hw : zS G N Λ z_1 sS H locs := by rw [ez_1]; exact hw
  refine lv_if_eq (tgt := 32) C.x C.b dX4_verdict_25 (by decide) (fun c_25 => absurd c_25 (by decide)) (fun c_25 => ?_)
  refine lv_iconst (v := 0) C.x C.b dX4_verdict_28 (by decide) ?_
  refine lv_goto (tgt := 42) C.x C.b dX4_verdict_29 (by decide) ?_
  exact z_iret C hw dX4_verdict_42 (rfl) (by rw [ez_1])

set_option maxRecDepth 100000 in
set_option maxHeartbeats 4000000 in
theorem m_X4_evidence {G : zG} {N : Nat} {Λ : zLay} {l : Launch} (hO : zOK G l) (z : zM) (hB : zMo G N Λ) {S : aS} {c : Nat} {Lf : Nat → aS} (hI : mI z S c Lf) (hS : aOK S) {i w : Nat} (hi : i < S.ev.1) (hw4 : w < 4) : zMet G N Λ l yX4_evidence cX4_evidence 3 (some .int) 1 [.ref (G.h + 272), .int (nI i), .int (nI w)] z (some (.int (nI (S.ev.2 i w)))) (zi z 272 3 0) := by
  refine zMet_of hO (by decide) (Nat.le_of_ble_eq_true rfl) ?_
  intro pP eE sS mM bB tT cC ls C hw hl
  have hl : lv_has ls 3 [(0, .ref (G.h + 272)), (1, .int (nI i)), (2, .int (nI w))] := hl
  have hM := hI.s
  have hn6 := hS.n6
  have hc4 := hI.c4
  have he30 := hS.e.1
  refine lv_aload_n C.x C.b dX4_evidence_0 rfl (lv_at hl 0 rfl) ?_
  refine lv_iload_n C.x C.b dX4_evidence_1 rfl (lv_at hl 1 rfl) ?_
  refine lv_iconst (v := 0) C.x C.b dX4_evidence_2 (by decide) ?_
  refine lv_aload_n C.x C.b dX4_evidence_3 rfl (lv_at hl 0 rfl) ?_
  refine z_get C hw hB.lt (hB.at _ _) flX4_7 rfl dX4_evidence_4 ?_
  refine lv_sipush (v := 2800) C.x C.b dX4_evidence_7 (by decide) ?_
  refine z_iald C hw hB.ltn hB.now (zvin (x := 2800) (by omega) (by omega)) dX4_evidence_10 ?_
  refine z_topi (y := z.1 273 2800) (congrArg (z.1 273) (zcl (x := 2800) (n := 2921) (by omega) (by omega))) ?_
  refine z_topi (y := nI S.ev.1) (hM.e.2.1) ?_
  refine lv_iconst (v := 1) C.x C.b dX4_evidence_11 (by decide) ?_
  refine lv_isub C.x C.b dX4_evidence_12 ?_
  refine z_Sv (As := [.int (nI i), .int 0, .int ((nI S.ev.1) - 1)]) (rest := [.ref (G.h + 272)]) C hw hl (m_X4_wy hO _ ((isM_w (by omega)).mpr ⟨i, hi, rfl⟩)) ivX4_24 rfl rfl ⟨(Nat.le_of_ble_eq_true rfl), (Nat.le_of_ble_eq_true rfl)⟩ (Nat.le_of_ble_eq_true rfl) ⟨Nat.zero_le _, Nat.zero_le _⟩ dX4_evidence_13 (fun H locs hw => ?_)
  refine lv_if_ne (tgt := 23) C.x C.b dX4_evidence_16 (by decide) (fun c_16 => ?_) (fun c_16 => absurd c_16 (by decide))
  refine lv_iload_n C.x C.b dX4_evidence_23 rfl (lv_at hl 2 rfl) ?_
  refine lv_iconst (v := 0) C.x C.b dX4_evidence_24 (by decide) ?_
  refine lv_iconst (v := 3) C.x C.b dX4_evidence_25 (by decide) ?_
  refine z_Sv (As := [.int (nI w), .int 0, .int 3]) (rest := [.ref (G.h + 272)]) C hw hl (m_X4_wy hO _ ((isR_w (a := 0) (b := 3) (by omega) (by omega)).mpr ⟨_, by omega, by omega, rfl⟩)) ivX4_24 rfl rfl ⟨(Nat.le_of_ble_eq_true rfl), (Nat.le_of_ble_eq_true rfl)⟩ (Nat.le_of_ble_eq_true rfl) ⟨Nat.zero_le _, Nat.zero_le _⟩ dX4_evidence_26 (fun H locs hw => ?_)
  refine lv_if_eq (tgt := 36) C.x C.b dX4_evidence_29 (by decide) (fun c_29 => absurd c_29 (by decide)) (fun c_29 => ?_)
  refine lv_iconst (v := 0) C.x C.b dX4_evidence_32 (by decide) ?_
  refine lv_goto (tgt := 37) C.x C.b dX4_evidence_33 (by decide) ?_
  refine z_Vv (As := [.int 0]) (rest := []) C hw hl (m_X4_ref0 hO _ hB) ivX4_35 hB.lt (hB.at _ _) rfl rfl ⟨(Nat.le_of_ble_eq_true rfl), (Nat.le_of_ble_eq_true rfl)⟩ (Nat.le_of_ble_eq_true rfl) ⟨Nat.zero_le _, Nat.zero_le _⟩ dX4_evidence_37 (fun H locs hw => ?_)
  obtain ⟨z_1, ez_1⟩ : ∃ q_9, q_9 = zi z 272 3 0 := ⟨_, rfl⟩
  have hw : zS G N Λ z_1 sS H locs := by rw [ez_1]; exact hw
  have hI1 : mI z_1 S c Lf := by rw [ez_1]; exact hI.ref _
  have hM1 := hI1.s
  refine z_pc (pc2 := 40) rfl ?_
  refine lv_if_eq (tgt := 45) C.x C.b dX4_evidence_40 (by decide) (fun c_40 => ?_) (fun c_40 => absurd (rfl) c_40)
  refine lv_aload_n C.x C.b dX4_evidence_45 rfl (lv_at hl 0 rfl) ?_
  refine z_get C hw hB.lt (hB.at _ _) flX4_7 rfl dX4_evidence_46 ?_
  refine lv_sipush (v := 2801) C.x C.b dX4_evidence_49 (by decide) ?_
  refine lv_iconst (v := 4) C.x C.b dX4_evidence_52 (by decide) ?_
  refine lv_iload_n C.x C.b dX4_evidence_53 rfl (lv_at hl 1 rfl) ?_
  refine lv_imul C.x C.b dX4_evidence_54 ?_
  refine lv_iadd C.x C.b dX4_evidence_55 ?_
  refine lv_iload_n C.x C.b dX4_evidence_56 rfl (lv_at hl 2 rfl) ?_
  refine lv_iadd C.x C.b dX4_evidence_57 ?_
  refine z_topi (y := nI (2801 + 4 * i + w)) (by rw [zlit 2801, zlit 4, pk_mul, nI_add, nI_add]) ?_
  refine z_iald C hw hB.ltn hB.now (zvin (x := 2801 + 4 * i + w) (by omega) (by omega)) dX4_evidence_58 ?_
  refine z_topi (y := z_1.1 273 (2801 + 4 * i + w)) (congrArg (z_1.1 273) (zcl (x := 2801 + 4 * i + w) (n := 2921) (by omega) (by omega))) ?_
  refine z_topi (y := nI (S.ev.2 i w)) (hM1.e.2.2 i hi w hw4) ?_
  exact z_iret C hw dX4_evidence_59 (rfl) (by rw [ez_1])

set_option maxRecDepth 100000 in
set_option maxHeartbeats 4000000 in
theorem f_X4_evidence1 {G : zG} {N : Nat} {Λ : zLay} {l : Launch} (hO : zOK G l) (z : zM) (hB : zMo G N Λ) {S : aS} {c : Nat} {Lf : Nat → aS} (hI : mI z S c Lf) (hS : aOK S) {i w : Int32} (hi : ¬ isM i S.ev.1) : zMet G N Λ l yX4_evidence cX4_evidence 3 (some .int) 1 [.ref (G.h + 272), .int i, .int w] z (some (.int 0)) (zi z 272 3 (nI 1)) := by
  refine zMet_of hO (by decide) (Nat.le_of_ble_eq_true rfl) ?_
  intro pP eE sS mM bB tT cC ls C hw hl
  have hl : lv_has ls 3 [(0, .ref (G.h + 272)), (1, .int i), (2, .int w)] := hl
  have hM := hI.s
  have hn6 := hS.n6
  have hc4 := hI.c4
  have he30 := hS.e.1
  refine lv_aload_n C.x C.b dX4_evidence_0 rfl (lv_at hl 0 rfl) ?_
  refine lv_iload_n C.x C.b dX4_evidence_1 rfl (lv_at hl 1 rfl) ?_
  refine lv_iconst (v := 0) C.x C.b dX4_evidence_2 (by decide) ?_
  refine lv_aload_n C.x C.b dX4_evidence_3 rfl (lv_at hl 0 rfl) ?_
  refine z_get C hw hB.lt (hB.at _ _) flX4_7 rfl dX4_evidence_4 ?_
  refine lv_sipush (v := 2800) C.x C.b dX4_evidence_7 (by decide) ?_
  refine z_iald C hw hB.ltn hB.now (zvin (x := 2800) (by omega) (by omega)) dX4_evidence_10 ?_
  refine z_topi (y := z.1 273 2800) (congrArg (z.1 273) (zcl (x := 2800) (n := 2921) (by omega) (by omega))) ?_
  refine z_topi (y := nI S.ev.1) (hM.e.2.1) ?_
  refine lv_iconst (v := 1) C.x C.b dX4_evidence_11 (by decide) ?_
  refine lv_isub C.x C.b dX4_evidence_12 ?_
  refine z_Sv (As := [.int i, .int 0, .int ((nI S.ev.1) - 1)]) (rest := [.ref (G.h + 272)]) C hw hl (m_X4_wn hO _ (fun q => hi ((isM_w (by omega)).mp q))) ivX4_24 rfl rfl ⟨(Nat.le_of_ble_eq_true rfl), (Nat.le_of_ble_eq_true rfl)⟩ (Nat.le_of_ble_eq_true rfl) ⟨Nat.zero_le _, Nat.zero_le _⟩ dX4_evidence_13 (fun H locs hw => ?_)
  refine lv_if_ne (tgt := 23) C.x C.b dX4_evidence_16 (by decide) (fun c_16 => absurd c_16 (fun q => q rfl)) (fun c_16 => ?_)
  refine lv_iconst (v := 1) C.x C.b dX4_evidence_19 (by decide) ?_
  refine lv_goto (tgt := 37) C.x C.b dX4_evidence_20 (by decide) ?_
  refine z_Vv (As := [.int 1]) (rest := []) C hw hl (m_X4_ref1 hO _ hB (w := 1) (by omega) (by omega)) ivX4_35 hB.lt (hB.at _ _) rfl rfl ⟨(Nat.le_of_ble_eq_true rfl), (Nat.le_of_ble_eq_true rfl)⟩ (Nat.le_of_ble_eq_true rfl) ⟨Nat.zero_le _, Nat.zero_le _⟩ dX4_evidence_37 (fun H locs hw => ?_)
  obtain ⟨z_1, ez_1⟩ : ∃ q_9, q_9 = zi z 272 3 (nI 1) := ⟨_, rfl⟩
  have hw : zS G N Λ z_1 sS H locs := by rw [ez_1]; exact hw
  refine lv_if_eq (tgt := 45) C.x C.b dX4_evidence_40 (by decide) (fun c_40 => absurd c_40 (by decide)) (fun c_40 => ?_)
  refine lv_iconst (v := 0) C.x C.b dX4_evidence_43 (by decide) ?_
  exact z_iret C hw dX4_evidence_44 (rfl) (by rw [ez_1])

set_option maxRecDepth 100000 in
set_option maxHeartbeats 4000000 in
theorem f_X4_evidence2 {G : zG} {N : Nat} {Λ : zLay} {l : Launch} (hO : zOK G l) (z : zM) (hB : zMo G N Λ) {S : aS} {c : Nat} {Lf : Nat → aS} (hI : mI z S c Lf) (hS : aOK S) {i : Nat} {w : Int32} (hi : i < S.ev.1) (hw4 : ¬ isM w 4) : zMet G N Λ l yX4_evidence cX4_evidence 3 (some .int) 1 [.ref (G.h + 272), .int (nI i), .int w] z (some (.int 0)) (zi z 272 3 (nI 2)) := by
  refine zMet_of hO (by decide) (Nat.le_of_ble_eq_true rfl) ?_
  intro pP eE sS mM bB tT cC ls C hw hl
  have hl : lv_has ls 3 [(0, .ref (G.h + 272)), (1, .int (nI i)), (2, .int w)] := hl
  have hM := hI.s
  have hn6 := hS.n6
  have hc4 := hI.c4
  have he30 := hS.e.1
  refine lv_aload_n C.x C.b dX4_evidence_0 rfl (lv_at hl 0 rfl) ?_
  refine lv_iload_n C.x C.b dX4_evidence_1 rfl (lv_at hl 1 rfl) ?_
  refine lv_iconst (v := 0) C.x C.b dX4_evidence_2 (by decide) ?_
  refine lv_aload_n C.x C.b dX4_evidence_3 rfl (lv_at hl 0 rfl) ?_
  refine z_get C hw hB.lt (hB.at _ _) flX4_7 rfl dX4_evidence_4 ?_
  refine lv_sipush (v := 2800) C.x C.b dX4_evidence_7 (by decide) ?_
  refine z_iald C hw hB.ltn hB.now (zvin (x := 2800) (by omega) (by omega)) dX4_evidence_10 ?_
  refine z_topi (y := z.1 273 2800) (congrArg (z.1 273) (zcl (x := 2800) (n := 2921) (by omega) (by omega))) ?_
  refine z_topi (y := nI S.ev.1) (hM.e.2.1) ?_
  refine lv_iconst (v := 1) C.x C.b dX4_evidence_11 (by decide) ?_
  refine lv_isub C.x C.b dX4_evidence_12 ?_
  refine z_Sv (As := [.int (nI i), .int 0, .int ((nI S.ev.1) - 1)]) (rest := [.ref (G.h + 272)]) C hw hl (m_X4_wy hO _ ((isM_w (by omega)).mpr ⟨i, hi, rfl⟩)) ivX4_24 rfl rfl ⟨(Nat.le_of_ble_eq_true rfl), (Nat.le_of_ble_eq_true rfl)⟩ (Nat.le_of_ble_eq_true rfl) ⟨Nat.zero_le _, Nat.zero_le _⟩ dX4_evidence_13 (fun H locs hw => ?_)
  refine lv_if_ne (tgt := 23) C.x C.b dX4_evidence_16 (by decide) (fun c_16 => ?_) (fun c_16 => absurd c_16 (by decide))
  refine lv_iload_n C.x C.b dX4_evidence_23 rfl (lv_at hl 2 rfl) ?_
  refine lv_iconst (v := 0) C.x C.b dX4_evidence_24 (by decide) ?_
  refine lv_iconst (v := 3) C.x C.b dX4_evidence_25 (by decide) ?_
  refine z_Sv (As := [.int w, .int 0, .int 3]) (rest := [.ref (G.h + 272)]) C hw hl (m_X4_wn hO _ (fun q => hw4 (by obtain ⟨n, _, h2, h3⟩ := (isR_w (a := 0) (b := 3) (by omega) (by omega)).mp q; exact ⟨n, by omega, h3⟩))) ivX4_24 rfl rfl ⟨(Nat.le_of_ble_eq_true rfl), (Nat.le_of_ble_eq_true rfl)⟩ (Nat.le_of_ble_eq_true rfl) ⟨Nat.zero_le _, Nat.zero_le _⟩ dX4_evidence_26 (fun H locs hw => ?_)
  refine lv_if_eq (tgt := 36) C.x C.b dX4_evidence_29 (by decide) (fun c_29 => ?_) (fun c_29 => absurd (rfl) c_29)
  refine lv_iconst (v := 2) C.x C.b dX4_evidence_36 (by decide) ?_
  refine z_Vv (As := [.int 2]) (rest := []) C hw hl (m_X4_ref1 hO _ hB (w := 2) (by omega) (by omega)) ivX4_35 hB.lt (hB.at _ _) rfl rfl ⟨(Nat.le_of_ble_eq_true rfl), (Nat.le_of_ble_eq_true rfl)⟩ (Nat.le_of_ble_eq_true rfl) ⟨Nat.zero_le _, Nat.zero_le _⟩ dX4_evidence_37 (fun H locs hw => ?_)
  obtain ⟨z_1, ez_1⟩ : ∃ q_9, q_9 = zi z 272 3 (nI 2) := ⟨_, rfl⟩
  have hw : zS G N Λ z_1 sS H locs := by rw [ez_1]; exact hw
  refine lv_if_eq (tgt := 45) C.x C.b dX4_evidence_40 (by decide) (fun c_40 => absurd c_40 (by decide)) (fun c_40 => ?_)
  refine z_pc (pc2 := 43) rfl ?_
  refine lv_iconst (v := 0) C.x C.b dX4_evidence_43 (by decide) ?_
  exact z_iret C hw dX4_evidence_44 (rfl) (by rw [ez_1])

set_option maxRecDepth 100000 in
set_option maxHeartbeats 4000000 in
theorem m_X4_queued {G : zG} {N : Nat} {Λ : zLay} {l : Launch} (hO : zOK G l) (z : zM) (hB : zMo G N Λ) {S : aS} {c : Nat} {Lf : Nat → aS} (hI : mI z S c Lf) (hS : aOK S) : zMet G N Λ l yX4_queued cX4_queued 1 (some .int) 0 [.ref (G.h + 272)] z (some (.int (nI S.q.1))) (zi z 272 3 0) := by
  refine zMet_of hO (by decide) (Nat.le_of_ble_eq_true rfl) ?_
  intro pP eE sS mM bB tT cC ls C hw hl
  have hl : lv_has ls 1 [(0, .ref (G.h + 272))] := hl
  have hM := hI.s
  have hn6 := hS.n6
  have hc4 := hI.c4
  refine lv_aload_n C.x C.b dX4_queued_0 rfl (lv_at hl 0 rfl) ?_
  refine lv_iconst (v := 0) C.x C.b dX4_queued_1 (by decide) ?_
  refine z_put C hw hB.lt (hB.at _ _) ptX4_20 (hB.at _ _) (rfl) (rfl) (Nat.le_of_ble_eq_true rfl) dX4_queued_2 (fun H locs hw => ?_)
  obtain ⟨z_1, ez_1⟩ : ∃ q_9, q_9 = zi z 272 3 0 := ⟨_, rfl⟩
  have hw : zS G N Λ z_1 sS H locs := by rw [ez_1]; exact hw
  have hI1 : mI z_1 S c Lf := by rw [ez_1]; exact hI.ref _
  have hM1 := hI1.s
  refine lv_aload_n C.x C.b dX4_queued_5 rfl (lv_at hl 0 rfl) ?_
  refine z_get C hw hB.lt (hB.at _ _) flX4_7 rfl dX4_queued_6 ?_
  refine lv_sipush (v := 2599) C.x C.b dX4_queued_9 (by decide) ?_
  refine z_iald C hw hB.ltn hB.now (zvin (x := 2599) (by omega) (by omega)) dX4_queued_12 ?_
  refine z_topi (y := z_1.1 273 2599) (congrArg (z_1.1 273) (zcl (x := 2599) (n := 2921) (by omega) (by omega))) ?_
  refine z_topi (y := nI S.q.1) (hM1.q.2.1) ?_
  exact z_iret C hw dX4_queued_13 (rfl) (by rw [ez_1])

set_option maxRecDepth 100000 in
set_option maxHeartbeats 4000000 in
theorem m_X4_evidenceCount {G : zG} {N : Nat} {Λ : zLay} {l : Launch} (hO : zOK G l) (z : zM) (hB : zMo G N Λ) {S : aS} {c : Nat} {Lf : Nat → aS} (hI : mI z S c Lf) (hS : aOK S) : zMet G N Λ l yX4_evidenceCount cX4_evidenceCount 1 (some .int) 0 [.ref (G.h + 272)] z (some (.int (nI S.ev.1))) (zi z 272 3 0) := by
  refine zMet_of hO (by decide) (Nat.le_of_ble_eq_true rfl) ?_
  intro pP eE sS mM bB tT cC ls C hw hl
  have hl : lv_has ls 1 [(0, .ref (G.h + 272))] := hl
  have hM := hI.s
  have hn6 := hS.n6
  have hc4 := hI.c4
  refine lv_aload_n C.x C.b dX4_evidenceCount_0 rfl (lv_at hl 0 rfl) ?_
  refine lv_iconst (v := 0) C.x C.b dX4_evidenceCount_1 (by decide) ?_
  refine z_put C hw hB.lt (hB.at _ _) ptX4_20 (hB.at _ _) (rfl) (rfl) (Nat.le_of_ble_eq_true rfl) dX4_evidenceCount_2 (fun H locs hw => ?_)
  obtain ⟨z_1, ez_1⟩ : ∃ q_9, q_9 = zi z 272 3 0 := ⟨_, rfl⟩
  have hw : zS G N Λ z_1 sS H locs := by rw [ez_1]; exact hw
  have hI1 : mI z_1 S c Lf := by rw [ez_1]; exact hI.ref _
  have hM1 := hI1.s
  refine lv_aload_n C.x C.b dX4_evidenceCount_5 rfl (lv_at hl 0 rfl) ?_
  refine z_get C hw hB.lt (hB.at _ _) flX4_7 rfl dX4_evidenceCount_6 ?_
  refine lv_sipush (v := 2800) C.x C.b dX4_evidenceCount_9 (by decide) ?_
  refine z_iald C hw hB.ltn hB.now (zvin (x := 2800) (by omega) (by omega)) dX4_evidenceCount_12 ?_
  refine z_topi (y := z_1.1 273 2800) (congrArg (z_1.1 273) (zcl (x := 2800) (n := 2921) (by omega) (by omega))) ?_
  refine z_topi (y := nI S.ev.1) (hM1.e.2.1) ?_
  exact z_iret C hw dX4_evidenceCount_13 (rfl) (by rw [ez_1])

set_option maxRecDepth 100000 in
set_option maxHeartbeats 4000000 in
theorem m_X4_reset {G : zG} {N : Nat} {Λ : zLay} {l : Launch} (hO : zOK G l) (z : zM) (hB : zMo G N Λ) {S : aS} {c : Nat} {Lf : Nat → aS} (hI : mI z S c Lf) (hS : aOK S) {n : Nat} (hn2 : 2 ≤ n) (hn7 : n ≤ 6) : zMet G N Λ l yX4_reset cX4_reset 3 (some .int) 2 [.ref (G.h + 272), .int (nI n)] z (some (.int (nI S.n))) (mbz (msv (zi z 272 3 0) c) n n) := by
  refine zMet_of hO (by decide) (Nat.le_of_ble_eq_true rfl) ?_
  intro pP eE sS mM bB tT cC ls C hw hl
  have hl : lv_has ls 3 [(0, .ref (G.h + 272)), (1, .int (nI n))] := hl
  have hM := hI.s
  have hn6 := hS.n6
  have hc4 := hI.c4
  refine lv_aload_n C.x C.b dX4_reset_0 rfl (lv_at hl 0 rfl) ?_
  refine lv_iload_n C.x C.b dX4_reset_1 rfl (lv_at hl 1 rfl) ?_
  refine lv_iconst (v := 2) C.x C.b dX4_reset_2 (by decide) ?_
  refine lv_bipush (v := 6) C.x C.b dX4_reset_3 (by decide) ?_
  refine z_Sv (As := [.int (nI n), .int 2, .int 6]) (rest := [.ref (G.h + 272)]) C hw hl (m_X4_wy hO _ ⟨zle (a := 2) (by omega) hn2, zle (b := 6) (by omega) hn7⟩) ivX4_24 rfl rfl ⟨(Nat.le_of_ble_eq_true rfl), (Nat.le_of_ble_eq_true rfl)⟩ (Nat.le_of_ble_eq_true rfl) ⟨Nat.zero_le _, Nat.zero_le _⟩ dX4_reset_5 (fun H locs hw => ?_)
  refine lv_if_eq (tgt := 15) C.x C.b dX4_reset_8 (by decide) (fun c_8 => absurd c_8 (by decide)) (fun c_8 => ?_)
  refine lv_iconst (v := 0) C.x C.b dX4_reset_11 (by decide) ?_
  refine lv_goto (tgt := 16) C.x C.b dX4_reset_12 (by decide) ?_
  refine z_Vv (As := [.int 0]) (rest := []) C hw hl (m_X4_ref0 hO _ hB) ivX4_35 hB.lt (hB.at _ _) rfl rfl ⟨(Nat.le_of_ble_eq_true rfl), (Nat.le_of_ble_eq_true rfl)⟩ (Nat.le_of_ble_eq_true rfl) ⟨Nat.zero_le _, Nat.zero_le _⟩ dX4_reset_16 (fun H locs hw => ?_)
  obtain ⟨z_1, ez_1⟩ : ∃ q_9, q_9 = zi z 272 3 0 := ⟨_, rfl⟩
  have hw : zS G N Λ z_1 sS H locs := by rw [ez_1]; exact hw
  have hI1 : mI z_1 S c Lf := by rw [ez_1]; exact hI.ref _
  have hM1 := hI1.s
  refine lv_if_eq (tgt := 24) C.x C.b dX4_reset_19 (by decide) (fun c_19 => ?_) (fun c_19 => absurd (rfl) c_19)
  refine lv_aload_n C.x C.b dX4_reset_24 rfl (lv_at hl 0 rfl) ?_
  refine z_V0 (As := []) (rest := []) C hw hl (m_X4_saves hO _ hB hI1.c hI1.c4) ivX4_101 hB.lt (hB.at _ _) rfl rfl ⟨(Nat.le_of_ble_eq_true rfl), (Nat.le_of_ble_eq_true rfl)⟩ (Nat.le_of_ble_eq_true rfl) ⟨Nat.zero_le _, Nat.zero_le _⟩ dX4_reset_25 (fun H locs hw => ?_)
  obtain ⟨z_2, ez_2⟩ : ∃ q_9, q_9 = msv z_1 c := ⟨_, rfl⟩
  have hw : zS G N Λ z_2 sS H locs := by rw [ez_2]; exact hw
  have hI2 : mI z_2 S (svc c) (svf c Lf S) := by rw [ez_2]; exact hI1.sv
  have hM2 := hI2.s
  refine lv_aload_n C.x C.b dX4_reset_28 rfl (lv_at hl 0 rfl) ?_
  refine z_Vv (As := []) (rest := []) C hw hl (m_X4_many hO _ hB hM2.n) ivX4_66 hB.lt (hB.at _ _) rfl rfl ⟨(Nat.le_of_ble_eq_true rfl), (Nat.le_of_ble_eq_true rfl)⟩ (Nat.le_of_ble_eq_true rfl) ⟨Nat.zero_le _, Nat.zero_le _⟩ dX4_reset_29 (fun H locs hw => ?_)
  refine lv_istore_n (lv' := [(2, .int (nI S.n)), (0, .ref (G.h + 272)), (1, .int (nI n))]) C.x C.b dX4_reset_32 rfl hl (by decide) rfl (fun ls hl => ?_)
  refine lv_aload_n C.x C.b dX4_reset_33 rfl (lv_at hl 1 rfl) ?_
  refine lv_iload_n C.x C.b dX4_reset_34 rfl (lv_at hl 2 rfl) ?_
  refine z_V0 (As := [.int (nI n)]) (rest := []) C hw hl (m_X4_begins hO _ hB hn7) ivX4_16 hB.lt (hB.at _ _) rfl rfl ⟨(Nat.le_of_ble_eq_true rfl), (Nat.le_of_ble_eq_true rfl)⟩ (Nat.le_of_ble_eq_true rfl) ⟨Nat.zero_le _, Nat.zero_le _⟩ dX4_reset_35 (fun H locs hw => ?_)
  obtain ⟨z_3, ez_3⟩ : ∃ q_9, q_9 = mbz z_2 n n := ⟨_, rfl⟩
  have hw : zS G N Λ z_3 sS H locs := by rw [ez_3]; exact hw
  refine lv_iload_n C.x C.b dX4_reset_38 rfl (lv_at hl 0 rfl) ?_
  refine z_pc (pc2 := 39) rfl ?_
  exact z_iret C hw dX4_reset_39 (rfl) (by rw [ez_3, ez_2, ez_1])

set_option maxRecDepth 100000 in
set_option maxHeartbeats 4000000 in
theorem f_X4_reset {G : zG} {N : Nat} {Λ : zLay} {l : Launch} (hO : zOK G l) (z : zM) (hB : zMo G N Λ) {S : aS} {c : Nat} {Lf : Nat → aS} (hI : mI z S c Lf) (hS : aOK S) {v : Int32} (hv : ¬ ∃ n, 2 ≤ n ∧ n ≤ 6 ∧ v = nI n) : zMet G N Λ l yX4_reset cX4_reset 3 (some .int) 2 [.ref (G.h + 272), .int v] z (some (.int 0)) (zi z 272 3 (nI 1)) := by
  refine zMet_of hO (by decide) (Nat.le_of_ble_eq_true rfl) ?_
  intro pP eE sS mM bB tT cC ls C hw hl
  have hl : lv_has ls 3 [(0, .ref (G.h + 272)), (1, .int v)] := hl
  have hM := hI.s
  have hn6 := hS.n6
  have hc4 := hI.c4
  refine lv_aload_n C.x C.b dX4_reset_0 rfl (lv_at hl 0 rfl) ?_
  refine lv_iload_n C.x C.b dX4_reset_1 rfl (lv_at hl 1 rfl) ?_
  refine lv_iconst (v := 2) C.x C.b dX4_reset_2 (by decide) ?_
  refine lv_bipush (v := 6) C.x C.b dX4_reset_3 (by decide) ?_
  refine z_Sv (As := [.int v, .int 2, .int 6]) (rest := [.ref (G.h + 272)]) C hw hl (m_X4_wn hO _ (fun q => hv ((isR_w (a := 2) (b := 6) (by omega) (by omega)).mp q))) ivX4_24 rfl rfl ⟨(Nat.le_of_ble_eq_true rfl), (Nat.le_of_ble_eq_true rfl)⟩ (Nat.le_of_ble_eq_true rfl) ⟨Nat.zero_le _, Nat.zero_le _⟩ dX4_reset_5 (fun H locs hw => ?_)
  refine lv_if_eq (tgt := 15) C.x C.b dX4_reset_8 (by decide) (fun c_8 => ?_) (fun c_8 => absurd (rfl) c_8)
  refine lv_iconst (v := 1) C.x C.b dX4_reset_15 (by decide) ?_
  refine z_Vv (As := [.int 1]) (rest := []) C hw hl (m_X4_ref1 hO _ hB (w := 1) (by omega) (by omega)) ivX4_35 hB.lt (hB.at _ _) rfl rfl ⟨(Nat.le_of_ble_eq_true rfl), (Nat.le_of_ble_eq_true rfl)⟩ (Nat.le_of_ble_eq_true rfl) ⟨Nat.zero_le _, Nat.zero_le _⟩ dX4_reset_16 (fun H locs hw => ?_)
  obtain ⟨z_1, ez_1⟩ : ∃ q_9, q_9 = zi z 272 3 (nI 1) := ⟨_, rfl⟩
  have hw : zS G N Λ z_1 sS H locs := by rw [ez_1]; exact hw
  refine lv_if_eq (tgt := 24) C.x C.b dX4_reset_19 (by decide) (fun c_19 => absurd c_19 (by decide)) (fun c_19 => ?_)
  refine lv_iconst (v := 0) C.x C.b dX4_reset_22 (by decide) ?_
  exact z_iret C hw dX4_reset_23 (rfl) (by rw [ez_1])

set_option maxRecDepth 100000 in
set_option maxHeartbeats 4000000 in
theorem m_X4_input {G : zG} {N : Nat} {Λ : zLay} {l : Launch} (hO : zOK G l) (z : zM) (hB : zMo G N Λ) {S : aS} {c : Nat} {Lf : Nat → aS} (hI : mI z S c Lf) (hS : aOK S) {x : Nat} (hx : x < S.n) (hx6 : x < 6) {v : Nat} (hv : v < 1000) (hl38 : (S.m x).log.1 ≤ 38) (hq39 : S.q.1 ≤ 39) : zMet G N Λ l yX4_input cX4_input 3 (some .int) 5 [.ref (G.h + 272), .int (nI x), .int (nI v)] z (some (.int (nI (nx (S.m x).st v 0)))) (mtk (msv (zi z 272 3 0) c) x S.n (S.m x).st (S.m x).lie S.q.1 (S.m x).log 0 0 v) := by
  refine zMet_of hO (by decide) (Nat.le_of_ble_eq_true rfl) ?_
  intro pP eE sS mM bB tT cC ls C hw hl
  have hl : lv_has ls 3 [(0, .ref (G.h + 272)), (1, .int (nI x)), (2, .int (nI v))] := hl
  have hM := hI.s
  have hn6 := hS.n6
  have hc4 := hI.c4
  have hmx := hM.m hx
  have hox := hS.m hx
  have hl40 := hox.log.1
  refine lv_aload_n C.x C.b dX4_input_0 rfl (lv_at hl 0 rfl) ?_
  refine lv_aload_n C.x C.b dX4_input_1 rfl (lv_at hl 0 rfl) ?_
  refine lv_iload_n C.x C.b dX4_input_2 rfl (lv_at hl 1 rfl) ?_
  refine z_Vv (As := [.int (nI x)]) (rest := [.ref (G.h + 272)]) C hw hl (m_X4_isM_y hO _ hB hM.n hn6 hx) ivX4_104 hB.lt (hB.at _ _) rfl rfl ⟨(Nat.le_of_ble_eq_true rfl), (Nat.le_of_ble_eq_true rfl)⟩ (Nat.le_of_ble_eq_true rfl) ⟨Nat.zero_le _, Nat.zero_le _⟩ dX4_input_3 (fun H locs hw => ?_)
  refine lv_if_ne (tgt := 13) C.x C.b dX4_input_6 (by decide) (fun c_6 => ?_) (fun c_6 => absurd c_6 (by decide))
  refine lv_iload_n C.x C.b dX4_input_13 rfl (lv_at hl 2 rfl) ?_
  refine lv_iconst (v := 0) C.x C.b dX4_input_14 (by decide) ?_
  refine lv_sipush (v := 999) C.x C.b dX4_input_15 (by decide) ?_
  refine z_Sv (As := [.int (nI v), .int 0, .int 999]) (rest := [.ref (G.h + 272)]) C hw hl (m_X4_wy hO _ ((isR_w (a := 0) (b := 999) (by omega) (by omega)).mpr ⟨v, by omega, by omega, rfl⟩)) ivX4_24 rfl rfl ⟨(Nat.le_of_ble_eq_true rfl), (Nat.le_of_ble_eq_true rfl)⟩ (Nat.le_of_ble_eq_true rfl) ⟨Nat.zero_le _, Nat.zero_le _⟩ dX4_input_18 (fun H locs hw => ?_)
  refine lv_if_ne (tgt := 28) C.x C.b dX4_input_21 (by decide) (fun c_21 => ?_) (fun c_21 => absurd c_21 (by decide))
  refine lv_aload_n C.x C.b dX4_input_28 rfl (lv_at hl 0 rfl) ?_
  refine lv_iload_n C.x C.b dX4_input_29 rfl (lv_at hl 1 rfl) ?_
  refine z_Vv (As := [.int (nI x)]) (rest := [.ref (G.h + 272)]) C hw hl (m_X4_hasRoom hO _ hB hx6 hmx.2.1.2.1 hl40) ivX4_91 hB.lt (hB.at _ _) rfl rfl ⟨(Nat.le_of_ble_eq_true rfl), (Nat.le_of_ble_eq_true rfl)⟩ (Nat.le_of_ble_eq_true rfl) ⟨Nat.zero_le _, Nat.zero_le _⟩ dX4_input_30 (fun H locs hw => ?_)
  refine z_topi (y := 1) (if_pos hl38) ?_
  refine lv_if_eq (tgt := 53) C.x C.b dX4_input_33 (by decide) (fun c_33 => absurd c_33 (by decide)) (fun c_33 => ?_)
  refine lv_aload_n C.x C.b dX4_input_36 rfl (lv_at hl 0 rfl) ?_
  refine z_get C hw hB.lt (hB.at _ _) flX4_7 rfl dX4_input_37 ?_
  refine lv_sipush (v := 2599) C.x C.b dX4_input_40 (by decide) ?_
  refine z_iald C hw hB.ltn hB.now (zvin (x := 2599) (by omega) (by omega)) dX4_input_43 ?_
  refine z_topi (y := z.1 273 2599) (congrArg (z.1 273) (zcl (x := 2599) (n := 2921) (by omega) (by omega))) ?_
  refine z_topi (y := nI S.q.1) (hM.q.2.1) ?_
  refine lv_bipush (v := 40) C.x C.b dX4_input_44 (by decide) ?_
  refine z_pc (pc2 := 46) rfl ?_
  refine lv_icmp_ge (tgt := 53) C.x C.b dX4_input_46 (by decide) (fun c_46 => absurd c_46 (znle (b := 40) (by omega) (by omega))) (fun c_46 => ?_)
  refine lv_iconst (v := 0) C.x C.b dX4_input_49 (by decide) ?_
  refine lv_goto (tgt := 54) C.x C.b dX4_input_50 (by decide) ?_
  refine z_Vv (As := [.int 0]) (rest := []) C hw hl (m_X4_ref0 hO _ hB) ivX4_35 hB.lt (hB.at _ _) rfl rfl ⟨(Nat.le_of_ble_eq_true rfl), (Nat.le_of_ble_eq_true rfl)⟩ (Nat.le_of_ble_eq_true rfl) ⟨Nat.zero_le _, Nat.zero_le _⟩ dX4_input_54 (fun H locs hw => ?_)
  obtain ⟨z_1, ez_1⟩ : ∃ q_9, q_9 = zi z 272 3 0 := ⟨_, rfl⟩
  have hw : zS G N Λ z_1 sS H locs := by rw [ez_1]; exact hw
  have hI1 : mI z_1 S c Lf := by rw [ez_1]; exact hI.ref _
  have hM1 := hI1.s
  have hmx1 := hM1.m hx
  refine lv_if_eq (tgt := 62) C.x C.b dX4_input_57 (by decide) (fun c_57 => ?_) (fun c_57 => absurd (rfl) c_57)
  refine lv_aload_n C.x C.b dX4_input_62 rfl (lv_at hl 0 rfl) ?_
  refine z_V0 (As := []) (rest := []) C hw hl (m_X4_saves hO _ hB hI1.c hI1.c4) ivX4_101 hB.lt (hB.at _ _) rfl rfl ⟨(Nat.le_of_ble_eq_true rfl), (Nat.le_of_ble_eq_true rfl)⟩ (Nat.le_of_ble_eq_true rfl) ⟨Nat.zero_le _, Nat.zero_le _⟩ dX4_input_63 (fun H locs hw => ?_)
  obtain ⟨z_2, ez_2⟩ : ∃ q_9, q_9 = msv z_1 c := ⟨_, rfl⟩
  have hw : zS G N Λ z_2 sS H locs := by rw [ez_2]; exact hw
  have hI2 : mI z_2 S (svc c) (svf c Lf S) := by rw [ez_2]; exact hI1.sv
  have hM2 := hI2.s
  have hmx2 := hM2.m hx
  refine lv_aload_n C.x C.b dX4_input_66 rfl (lv_at hl 0 rfl) ?_
  refine lv_iload_n C.x C.b dX4_input_67 rfl (lv_at hl 1 rfl) ?_
  refine lv_iconst (v := 0) C.x C.b dX4_input_68 (by decide) ?_
  refine lv_iconst (v := -1) C.x C.b dX4_input_69 (by decide) ?_
  refine z_topi (y := pI 0) (pI_0.symm) ?_
  refine lv_iload_n C.x C.b dX4_input_70 rfl (lv_at hl 2 rfl) ?_
  refine z_V0 (As := [.int (nI x), .int 0, .int (pI 0), .int (nI v)]) (rest := []) C hw hl (m_X4_takes hO _ hB hS.n2 hn6 hx hx6 hM2.n hmx2.1.1 hox.st hmx2.1.2.2.1 hox.lie hmx2.2.1 hox.log hl38 (qk := S.q.1) hM2.q.2.1 (by omega) (a := 0) (q := 0) (v := v) (by omega) (by omega) hv) ivX4_98 hB.lt (hB.at _ _) rfl rfl ⟨(Nat.le_of_ble_eq_true rfl), (Nat.le_of_ble_eq_true rfl)⟩ (Nat.le_of_ble_eq_true rfl) ⟨Nat.zero_le _, Nat.zero_le _⟩ dX4_input_71 (fun H locs hw => ?_)
  obtain ⟨z_3, ez_3⟩ : ∃ q_9, q_9 = mtk z_2 x S.n (S.m x).st (S.m x).lie S.q.1 (S.m x).log 0 0 v := ⟨_, rfl⟩
  have hw : zS G N Λ z_3 sS H locs := by rw [ez_3]; exact hw
  have hT := (mtk_S hM2 hx hl38 (by omega) 0 0 v).1
  rw [← ez_3] at hT
  have hmx3 := hT.m (x := x) (by rw [aTake_n]; exact hx)
  refine lv_aload_n C.x C.b dX4_input_74 rfl (lv_at hl 0 rfl) ?_
  refine lv_iload_n C.x C.b dX4_input_75 rfl (lv_at hl 1 rfl) ?_
  refine lv_iconst (v := 0) C.x C.b dX4_input_76 (by decide) ?_
  refine z_Vv (As := [.int (nI x), .int 0]) (rest := []) C hw hl (m_X4_get hO _ hB (o := 0) (mat_lt2 hx6 (by omega))) ivX4_40 hB.lt (hB.at _ _) rfl rfl ⟨(Nat.le_of_ble_eq_true rfl), (Nat.le_of_ble_eq_true rfl)⟩ (Nat.le_of_ble_eq_true rfl) ⟨Nat.zero_le _, Nat.zero_le _⟩ dX4_input_77 (fun H locs hw => ?_)
  refine z_topi (y := nI (nx (S.m x).st v 0)) (by rw [hmx3.1.1, aTake_stx]) ?_
  exact z_iret C hw dX4_input_80 (rfl) (by rw [ez_3, ez_2, ez_1])

set_option maxRecDepth 100000 in
set_option maxHeartbeats 4000000 in
theorem f_X4_input1 {G : zG} {N : Nat} {Λ : zLay} {l : Launch} (hO : zOK G l) (z : zM) (hB : zMo G N Λ) {S : aS} {c : Nat} {Lf : Nat → aS} (hI : mI z S c Lf) (hS : aOK S) {v u : Int32} (hv : ¬ isM v S.n) : zMet G N Λ l yX4_input cX4_input 3 (some .int) 5 [.ref (G.h + 272), .int v, .int u] z (some (.int 0)) (zi z 272 3 (nI 1)) := by
  refine zMet_of hO (by decide) (Nat.le_of_ble_eq_true rfl) ?_
  intro pP eE sS mM bB tT cC ls C hw hl
  have hl : lv_has ls 3 [(0, .ref (G.h + 272)), (1, .int v), (2, .int u)] := hl
  have hM := hI.s
  have hn6 := hS.n6
  have hc4 := hI.c4
  refine lv_aload_n C.x C.b dX4_input_0 rfl (lv_at hl 0 rfl) ?_
  refine lv_aload_n C.x C.b dX4_input_1 rfl (lv_at hl 0 rfl) ?_
  refine lv_iload_n C.x C.b dX4_input_2 rfl (lv_at hl 1 rfl) ?_
  refine z_Vv (As := [.int v]) (rest := [.ref (G.h + 272)]) C hw hl (m_X4_isM_n hO _ hB hM.n hS.n2 hn6 hv) ivX4_104 hB.lt (hB.at _ _) rfl rfl ⟨(Nat.le_of_ble_eq_true rfl), (Nat.le_of_ble_eq_true rfl)⟩ (Nat.le_of_ble_eq_true rfl) ⟨Nat.zero_le _, Nat.zero_le _⟩ dX4_input_3 (fun H locs hw => ?_)
  refine lv_if_ne (tgt := 13) C.x C.b dX4_input_6 (by decide) (fun c_6 => absurd c_6 (fun q => q rfl)) (fun c_6 => ?_)
  refine lv_iconst (v := 1) C.x C.b dX4_input_9 (by decide) ?_
  refine lv_goto (tgt := 54) C.x C.b dX4_input_10 (by decide) ?_
  refine z_Vv (As := [.int 1]) (rest := []) C hw hl (m_X4_ref1 hO _ hB (w := 1) (by omega) (by omega)) ivX4_35 hB.lt (hB.at _ _) rfl rfl ⟨(Nat.le_of_ble_eq_true rfl), (Nat.le_of_ble_eq_true rfl)⟩ (Nat.le_of_ble_eq_true rfl) ⟨Nat.zero_le _, Nat.zero_le _⟩ dX4_input_54 (fun H locs hw => ?_)
  obtain ⟨z_1, ez_1⟩ : ∃ q_9, q_9 = zi z 272 3 (nI 1) := ⟨_, rfl⟩
  have hw : zS G N Λ z_1 sS H locs := by rw [ez_1]; exact hw
  refine lv_if_eq (tgt := 62) C.x C.b dX4_input_57 (by decide) (fun c_57 => absurd c_57 (by decide)) (fun c_57 => ?_)
  refine lv_iconst (v := 0) C.x C.b dX4_input_60 (by decide) ?_
  exact z_iret C hw dX4_input_61 (rfl) (by rw [ez_1])

set_option maxRecDepth 100000 in
set_option maxHeartbeats 4000000 in
theorem f_X4_input2 {G : zG} {N : Nat} {Λ : zLay} {l : Launch} (hO : zOK G l) (z : zM) (hB : zMo G N Λ) {S : aS} {c : Nat} {Lf : Nat → aS} (hI : mI z S c Lf) (hS : aOK S) {x : Nat} (hx : x < S.n) (hx6 : x < 6) {u : Int32} (hu : ¬ isM u 1000) : zMet G N Λ l yX4_input cX4_input 3 (some .int) 5 [.ref (G.h + 272), .int (nI x), .int u] z (some (.int 0)) (zi z 272 3 (nI 2)) := by
  refine zMet_of hO (by decide) (Nat.le_of_ble_eq_true rfl) ?_
  intro pP eE sS mM bB tT cC ls C hw hl
  have hl : lv_has ls 3 [(0, .ref (G.h + 272)), (1, .int (nI x)), (2, .int u)] := hl
  have hM := hI.s
  have hn6 := hS.n6
  have hc4 := hI.c4
  have hmx := hM.m hx
  have hox := hS.m hx
  have hl40 := hox.log.1
  refine lv_aload_n C.x C.b dX4_input_0 rfl (lv_at hl 0 rfl) ?_
  refine lv_aload_n C.x C.b dX4_input_1 rfl (lv_at hl 0 rfl) ?_
  refine lv_iload_n C.x C.b dX4_input_2 rfl (lv_at hl 1 rfl) ?_
  refine z_Vv (As := [.int (nI x)]) (rest := [.ref (G.h + 272)]) C hw hl (m_X4_isM_y hO _ hB hM.n hn6 hx) ivX4_104 hB.lt (hB.at _ _) rfl rfl ⟨(Nat.le_of_ble_eq_true rfl), (Nat.le_of_ble_eq_true rfl)⟩ (Nat.le_of_ble_eq_true rfl) ⟨Nat.zero_le _, Nat.zero_le _⟩ dX4_input_3 (fun H locs hw => ?_)
  refine lv_if_ne (tgt := 13) C.x C.b dX4_input_6 (by decide) (fun c_6 => ?_) (fun c_6 => absurd c_6 (by decide))
  refine lv_iload_n C.x C.b dX4_input_13 rfl (lv_at hl 2 rfl) ?_
  refine lv_iconst (v := 0) C.x C.b dX4_input_14 (by decide) ?_
  refine lv_sipush (v := 999) C.x C.b dX4_input_15 (by decide) ?_
  refine z_Sv (As := [.int u, .int 0, .int 999]) (rest := [.ref (G.h + 272)]) C hw hl (m_X4_wn hO _ (fun q => hu (by obtain ⟨n, _, h2, h3⟩ := (isR_w (a := 0) (b := 999) (by omega) (by omega)).mp q; exact ⟨n, by omega, h3⟩))) ivX4_24 rfl rfl ⟨(Nat.le_of_ble_eq_true rfl), (Nat.le_of_ble_eq_true rfl)⟩ (Nat.le_of_ble_eq_true rfl) ⟨Nat.zero_le _, Nat.zero_le _⟩ dX4_input_18 (fun H locs hw => ?_)
  refine lv_if_ne (tgt := 28) C.x C.b dX4_input_21 (by decide) (fun c_21 => absurd c_21 (fun q => q rfl)) (fun c_21 => ?_)
  refine lv_iconst (v := 2) C.x C.b dX4_input_24 (by decide) ?_
  refine lv_goto (tgt := 54) C.x C.b dX4_input_25 (by decide) ?_
  refine z_Vv (As := [.int 2]) (rest := []) C hw hl (m_X4_ref1 hO _ hB (w := 2) (by omega) (by omega)) ivX4_35 hB.lt (hB.at _ _) rfl rfl ⟨(Nat.le_of_ble_eq_true rfl), (Nat.le_of_ble_eq_true rfl)⟩ (Nat.le_of_ble_eq_true rfl) ⟨Nat.zero_le _, Nat.zero_le _⟩ dX4_input_54 (fun H locs hw => ?_)
  obtain ⟨z_1, ez_1⟩ : ∃ q_9, q_9 = zi z 272 3 (nI 2) := ⟨_, rfl⟩
  have hw : zS G N Λ z_1 sS H locs := by rw [ez_1]; exact hw
  refine lv_if_eq (tgt := 62) C.x C.b dX4_input_57 (by decide) (fun c_57 => absurd c_57 (by decide)) (fun c_57 => ?_)
  refine lv_iconst (v := 0) C.x C.b dX4_input_60 (by decide) ?_
  exact z_iret C hw dX4_input_61 (rfl) (by rw [ez_1])

set_option maxRecDepth 100000 in
set_option maxHeartbeats 4000000 in
theorem f_X4_input3 {G : zG} {N : Nat} {Λ : zLay} {l : Launch} (hO : zOK G l) (z : zM) (hB : zMo G N Λ) {S : aS} {c : Nat} {Lf : Nat → aS} (hI : mI z S c Lf) (hS : aOK S) {x : Nat} (hx : x < S.n) (hx6 : x < 6) {v : Nat} (hv : v < 1000) (hr : ¬ ((S.m x).log.1 ≤ 38 ∧ S.q.1 ≤ 39)) : zMet G N Λ l yX4_input cX4_input 3 (some .int) 5 [.ref (G.h + 272), .int (nI x), .int (nI v)] z (some (.int 0)) (zi z 272 3 (nI 3)) := by
  refine zMet_of hO (by decide) (Nat.le_of_ble_eq_true rfl) ?_
  intro pP eE sS mM bB tT cC ls C hw hl
  have hl : lv_has ls 3 [(0, .ref (G.h + 272)), (1, .int (nI x)), (2, .int (nI v))] := hl
  have hM := hI.s
  have hn6 := hS.n6
  have hc4 := hI.c4
  have hmx := hM.m hx
  have hox := hS.m hx
  have hl40 := hox.log.1
  refine lv_aload_n C.x C.b dX4_input_0 rfl (lv_at hl 0 rfl) ?_
  refine lv_aload_n C.x C.b dX4_input_1 rfl (lv_at hl 0 rfl) ?_
  refine lv_iload_n C.x C.b dX4_input_2 rfl (lv_at hl 1 rfl) ?_
  refine z_Vv (As := [.int (nI x)]) (rest := [.ref (G.h + 272)]) C hw hl (m_X4_isM_y hO _ hB hM.n hn6 hx) ivX4_104 hB.lt (hB.at _ _) rfl rfl ⟨(Nat.le_of_ble_eq_true rfl), (Nat.le_of_ble_eq_true rfl)⟩ (Nat.le_of_ble_eq_true rfl) ⟨Nat.zero_le _, Nat.zero_le _⟩ dX4_input_3 (fun H locs hw => ?_)
  refine lv_if_ne (tgt := 13) C.x C.b dX4_input_6 (by decide) (fun c_6 => ?_) (fun c_6 => absurd c_6 (by decide))
  refine lv_iload_n C.x C.b dX4_input_13 rfl (lv_at hl 2 rfl) ?_
  refine lv_iconst (v := 0) C.x C.b dX4_input_14 (by decide) ?_
  refine lv_sipush (v := 999) C.x C.b dX4_input_15 (by decide) ?_
  refine z_Sv (As := [.int (nI v), .int 0, .int 999]) (rest := [.ref (G.h + 272)]) C hw hl (m_X4_wy hO _ ((isR_w (a := 0) (b := 999) (by omega) (by omega)).mpr ⟨v, by omega, by omega, rfl⟩)) ivX4_24 rfl rfl ⟨(Nat.le_of_ble_eq_true rfl), (Nat.le_of_ble_eq_true rfl)⟩ (Nat.le_of_ble_eq_true rfl) ⟨Nat.zero_le _, Nat.zero_le _⟩ dX4_input_18 (fun H locs hw => ?_)
  refine lv_if_ne (tgt := 28) C.x C.b dX4_input_21 (by decide) (fun c_21 => ?_) (fun c_21 => absurd c_21 (by decide))
  refine lv_aload_n C.x C.b dX4_input_28 rfl (lv_at hl 0 rfl) ?_
  refine lv_iload_n C.x C.b dX4_input_29 rfl (lv_at hl 1 rfl) ?_
  refine z_Vv (As := [.int (nI x)]) (rest := [.ref (G.h + 272)]) C hw hl (m_X4_hasRoom hO _ hB hx6 hmx.2.1.2.1 hl40) ivX4_91 hB.lt (hB.at _ _) rfl rfl ⟨(Nat.le_of_ble_eq_true rfl), (Nat.le_of_ble_eq_true rfl)⟩ (Nat.le_of_ble_eq_true rfl) ⟨Nat.zero_le _, Nat.zero_le _⟩ dX4_input_30 (fun H locs hw => ?_)
  refine lv_if_eq (tgt := 53) C.x C.b dX4_input_33 (by decide) (fun c_33 => ?_) (fun c_33 => ?_)
  · refine lv_iconst (v := 3) C.x C.b dX4_input_53 (by decide) ?_
    refine z_Vv (As := [.int 3]) (rest := []) C hw hl (m_X4_ref1 hO _ hB (w := 3) (by omega) (by omega)) ivX4_35 hB.lt (hB.at _ _) rfl rfl ⟨(Nat.le_of_ble_eq_true rfl), (Nat.le_of_ble_eq_true rfl)⟩ (Nat.le_of_ble_eq_true rfl) ⟨Nat.zero_le _, Nat.zero_le _⟩ dX4_input_54 (fun H locs hw => ?_)
    obtain ⟨z_1, ez_1⟩ : ∃ q_9, q_9 = zi z 272 3 (nI 3) := ⟨_, rfl⟩
    have hw : zS G N Λ z_1 sS H locs := by rw [ez_1]; exact hw
    refine lv_if_eq (tgt := 62) C.x C.b dX4_input_57 (by decide) (fun c_57 => absurd c_57 (by decide)) (fun c_57 => ?_)
    refine lv_iconst (v := 0) C.x C.b dX4_input_60 (by decide) ?_
    exact z_iret C hw dX4_input_61 (rfl) (by rw [ez_1])
  · have h38 : (S.m x).log.1 ≤ 38 := by
      by_cases h : (S.m x).log.1 ≤ 38
      · exact h
      · rw [if_neg h] at c_33; exact absurd rfl c_33
    have hq40 := hS.q.1
    refine lv_aload_n C.x C.b dX4_input_36 rfl (lv_at hl 0 rfl) ?_
    refine z_get C hw hB.lt (hB.at _ _) flX4_7 rfl dX4_input_37 ?_
    refine lv_sipush (v := 2599) C.x C.b dX4_input_40 (by decide) ?_
    refine z_iald C hw hB.ltn hB.now (zvin (x := 2599) (by omega) (by omega)) dX4_input_43 ?_
    refine z_topi (y := z.1 273 2599) (congrArg (z.1 273) (zcl (x := 2599) (n := 2921) (by omega) (by omega))) ?_
    refine z_topi (y := nI S.q.1) (hM.q.2.1) ?_
    refine lv_bipush (v := 40) C.x C.b dX4_input_44 (by decide) ?_
    refine z_pc (pc2 := 46) rfl ?_
    refine lv_icmp_ge (tgt := 53) C.x C.b dX4_input_46 (by decide) (fun c_46 => ?_) (fun c_46 => absurd (zle (a := 40) (by omega) (by omega)) c_46)
    refine lv_iconst (v := 3) C.x C.b dX4_input_53 (by decide) ?_
    refine z_Vv (As := [.int 3]) (rest := []) C hw hl (m_X4_ref1 hO _ hB (w := 3) (by omega) (by omega)) ivX4_35 hB.lt (hB.at _ _) rfl rfl ⟨(Nat.le_of_ble_eq_true rfl), (Nat.le_of_ble_eq_true rfl)⟩ (Nat.le_of_ble_eq_true rfl) ⟨Nat.zero_le _, Nat.zero_le _⟩ dX4_input_54 (fun H locs hw => ?_)
    obtain ⟨z_2, ez_2⟩ : ∃ q_9, q_9 = zi z 272 3 (nI 3) := ⟨_, rfl⟩
    have hw : zS G N Λ z_2 sS H locs := by rw [ez_2]; exact hw
    refine lv_if_eq (tgt := 62) C.x C.b dX4_input_57 (by decide) (fun c_57 => absurd c_57 (by decide)) (fun c_57 => ?_)
    refine lv_iconst (v := 0) C.x C.b dX4_input_60 (by decide) ?_
    exact z_iret C hw dX4_input_61 (rfl) (by rw [ez_2])

set_option maxRecDepth 100000 in
set_option maxHeartbeats 4000000 in
theorem m_X4_deliver0 {G : zG} {N : Nat} {Λ : zLay} {l : Launch} (hO : zOK G l) (z : zM) (hB : zMo G N Λ) {S : aS} {c : Nat} {Lf : Nat → aS} (hI : mI z S c Lf) (hS : aOK S) (h0 : S.q.1 = 0) : zMet G N Λ l yX4_deliver cX4_deliver 2 (some .int) 6 [.ref (G.h + 272)] z (some (.int (-1))) (zi z 272 3 0) := by
  refine zMet_of hO (by decide) (Nat.le_of_ble_eq_true rfl) ?_
  intro pP eE sS mM bB tT cC ls C hw hl
  have hl : lv_has ls 2 [(0, .ref (G.h + 272))] := hl
  have hM := hI.s
  have hn6 := hS.n6
  have hc4 := hI.c4
  refine lv_aload_n C.x C.b dX4_deliver_0 rfl (lv_at hl 0 rfl) ?_
  refine lv_aload_n C.x C.b dX4_deliver_1 rfl (lv_at hl 0 rfl) ?_
  refine z_Vv (As := []) (rest := [.ref (G.h + 272)]) C hw hl (m_X4_isBarred hO _ hB hM hS) ivX4_107 hB.lt (hB.at _ _) rfl rfl ⟨(Nat.le_of_ble_eq_true rfl), (Nat.le_of_ble_eq_true rfl)⟩ (Nat.le_of_ble_eq_true rfl) ⟨Nat.zero_le _, Nat.zero_le _⟩ dX4_deliver_2 (fun H locs hw => ?_)
  refine z_topi (y := 0) (if_neg (fun q => by have := (bar_iff.mp q).1; omega)) ?_
  refine lv_if_eq (tgt := 12) C.x C.b dX4_deliver_5 (by decide) (fun c_5 => ?_) (fun c_5 => absurd (rfl) c_5)
  refine lv_iconst (v := 0) C.x C.b dX4_deliver_12 (by decide) ?_
  refine z_Vv (As := [.int 0]) (rest := []) C hw hl (m_X4_ref0 hO _ hB) ivX4_35 hB.lt (hB.at _ _) rfl rfl ⟨(Nat.le_of_ble_eq_true rfl), (Nat.le_of_ble_eq_true rfl)⟩ (Nat.le_of_ble_eq_true rfl) ⟨Nat.zero_le _, Nat.zero_le _⟩ dX4_deliver_13 (fun H locs hw => ?_)
  obtain ⟨z_1, ez_1⟩ : ∃ q_9, q_9 = zi z 272 3 0 := ⟨_, rfl⟩
  have hw : zS G N Λ z_1 sS H locs := by rw [ez_1]; exact hw
  have hI1 : mI z_1 S c Lf := by rw [ez_1]; exact hI.ref _
  have hM1 := hI1.s
  refine lv_if_eq (tgt := 21) C.x C.b dX4_deliver_16 (by decide) (fun c_16 => ?_) (fun c_16 => absurd (rfl) c_16)
  refine lv_aload_n C.x C.b dX4_deliver_21 rfl (lv_at hl 0 rfl) ?_
  refine z_get C hw hB.lt (hB.at _ _) flX4_7 rfl dX4_deliver_22 ?_
  refine lv_sipush (v := 2599) C.x C.b dX4_deliver_25 (by decide) ?_
  refine z_iald C hw hB.ltn hB.now (zvin (x := 2599) (by omega) (by omega)) dX4_deliver_28 ?_
  refine z_topi (y := z_1.1 273 2599) (congrArg (z_1.1 273) (zcl (x := 2599) (n := 2921) (by omega) (by omega))) ?_
  refine z_topi (y := nI S.q.1) (hM1.q.2.1) ?_
  refine lv_if_ne (tgt := 34) C.x C.b dX4_deliver_29 (by decide) (fun c_29 => absurd c_29 (fun q => q (by rw [h0]; rfl))) (fun c_29 => ?_)
  refine lv_iconst (v := -1) C.x C.b dX4_deliver_32 (by decide) ?_
  exact z_iret C hw dX4_deliver_33 (rfl) (by rw [ez_1])

set_option maxRecDepth 100000 in
set_option maxHeartbeats 4000000 in
theorem m_X4_deliver {G : zG} {N : Nat} {Λ : zLay} {l : Launch} (hO : zOK G l) (z : zM) (hB : zMo G N Λ) {S : aS} {c : Nat} {Lf : Nat → aS} (hI : mI z S c Lf) (hS : aOK S) (h0 : 0 < S.q.1) (hb : ¬ bar S = true) {z3 : zM} (hdl : zMet G N Λ l yX4_delivers cX4_delivers 7 none 5 [.ref (G.h + 272)] (msv (zi z 272 3 0) c) none z3) : zMet G N Λ l yX4_deliver cX4_deliver 2 (some .int) 6 [.ref (G.h + 272)] z (some (.int (nI (S.q.2 0 3)))) z3 := by
  refine zMet_of hO (by decide) (Nat.le_of_ble_eq_true rfl) ?_
  intro pP eE sS mM bB tT cC ls C hw hl
  have hl : lv_has ls 2 [(0, .ref (G.h + 272))] := hl
  have hM := hI.s
  have hn6 := hS.n6
  have hc4 := hI.c4
  refine lv_aload_n C.x C.b dX4_deliver_0 rfl (lv_at hl 0 rfl) ?_
  refine lv_aload_n C.x C.b dX4_deliver_1 rfl (lv_at hl 0 rfl) ?_
  refine z_Vv (As := []) (rest := [.ref (G.h + 272)]) C hw hl (m_X4_isBarred hO _ hB hM hS) ivX4_107 hB.lt (hB.at _ _) rfl rfl ⟨(Nat.le_of_ble_eq_true rfl), (Nat.le_of_ble_eq_true rfl)⟩ (Nat.le_of_ble_eq_true rfl) ⟨Nat.zero_le _, Nat.zero_le _⟩ dX4_deliver_2 (fun H locs hw => ?_)
  refine z_topi (y := 0) (if_neg hb) ?_
  refine lv_if_eq (tgt := 12) C.x C.b dX4_deliver_5 (by decide) (fun c_5 => ?_) (fun c_5 => absurd (rfl) c_5)
  refine lv_iconst (v := 0) C.x C.b dX4_deliver_12 (by decide) ?_
  refine z_Vv (As := [.int 0]) (rest := []) C hw hl (m_X4_ref0 hO _ hB) ivX4_35 hB.lt (hB.at _ _) rfl rfl ⟨(Nat.le_of_ble_eq_true rfl), (Nat.le_of_ble_eq_true rfl)⟩ (Nat.le_of_ble_eq_true rfl) ⟨Nat.zero_le _, Nat.zero_le _⟩ dX4_deliver_13 (fun H locs hw => ?_)
  obtain ⟨z_1, ez_1⟩ : ∃ q_9, q_9 = zi z 272 3 0 := ⟨_, rfl⟩
  have hw : zS G N Λ z_1 sS H locs := by rw [ez_1]; exact hw
  have hI1 : mI z_1 S c Lf := by rw [ez_1]; exact hI.ref _
  have hM1 := hI1.s
  refine lv_if_eq (tgt := 21) C.x C.b dX4_deliver_16 (by decide) (fun c_16 => ?_) (fun c_16 => absurd (rfl) c_16)
  refine lv_aload_n C.x C.b dX4_deliver_21 rfl (lv_at hl 0 rfl) ?_
  refine z_get C hw hB.lt (hB.at _ _) flX4_7 rfl dX4_deliver_22 ?_
  refine lv_sipush (v := 2599) C.x C.b dX4_deliver_25 (by decide) ?_
  refine z_iald C hw hB.ltn hB.now (zvin (x := 2599) (by omega) (by omega)) dX4_deliver_28 ?_
  refine z_topi (y := z_1.1 273 2599) (congrArg (z_1.1 273) (zcl (x := 2599) (n := 2921) (by omega) (by omega))) ?_
  refine z_topi (y := nI S.q.1) (hM1.q.2.1) ?_
  refine lv_if_ne (tgt := 34) C.x C.b dX4_deliver_29 (by decide) (fun c_29 => ?_) (fun c_29 => absurd c_29 (zne (b := 0) (by have := hS.q.1; omega) (by omega) (by omega)))
  refine lv_aload_n C.x C.b dX4_deliver_34 rfl (lv_at hl 0 rfl) ?_
  refine z_V0 (As := []) (rest := []) C hw hl (m_X4_saves hO _ hB hI1.c hI1.c4) ivX4_101 hB.lt (hB.at _ _) rfl rfl ⟨(Nat.le_of_ble_eq_true rfl), (Nat.le_of_ble_eq_true rfl)⟩ (Nat.le_of_ble_eq_true rfl) ⟨Nat.zero_le _, Nat.zero_le _⟩ dX4_deliver_35 (fun H locs hw => ?_)
  obtain ⟨z_2, ez_2⟩ : ∃ q_9, q_9 = msv z_1 c := ⟨_, rfl⟩
  have hw : zS G N Λ z_2 sS H locs := by rw [ez_2]; exact hw
  have hI2 : mI z_2 S (svc c) (svf c Lf S) := by rw [ez_2]; exact hI1.sv
  have hM2 := hI2.s
  refine lv_aload_n C.x C.b dX4_deliver_38 rfl (lv_at hl 0 rfl) ?_
  refine z_get C hw hB.lt (hB.at _ _) flX4_7 rfl dX4_deliver_39 ?_
  refine lv_sipush (v := 2600) C.x C.b dX4_deliver_42 (by decide) ?_
  refine z_iald C hw hB.ltn hB.now (zvin (x := 2600) (by omega) (by omega)) dX4_deliver_45 ?_
  refine z_topi (y := z_2.1 273 2600) (congrArg (z_2.1 273) (zcl (x := 2600) (n := 2921) (by omega) (by omega))) ?_
  refine z_topi (y := nI (S.q.2 0 3)) ((hM2.q.2.2 0 h0).1) ?_
  refine lv_istore_n (lv' := [(1, .int (nI (S.q.2 0 3))), (0, .ref (G.h + 272))]) C.x C.b dX4_deliver_46 rfl hl (by decide) rfl (fun ls hl => ?_)
  refine z_pc (pc2 := 47) rfl ?_
  refine lv_aload_n C.x C.b dX4_deliver_47 rfl (lv_at hl 1 rfl) ?_
  rw [← ez_1, ← ez_2] at hdl
  refine z_V0 (As := []) (rest := []) C hw hl (hdl) ivX4_111 hB.lt (hB.at _ _) rfl rfl ⟨(Nat.le_of_ble_eq_true rfl), (Nat.le_of_ble_eq_true rfl)⟩ (Nat.le_of_ble_eq_true rfl) ⟨Nat.zero_le _, Nat.zero_le _⟩ dX4_deliver_48 (fun H locs hw => ?_)
  refine lv_iload_n C.x C.b dX4_deliver_51 rfl (lv_at hl 0 rfl) ?_
  exact z_iret C hw dX4_deliver_52 (rfl) (rfl)

set_option maxRecDepth 100000 in
set_option maxHeartbeats 4000000 in
theorem f_X4_deliver {G : zG} {N : Nat} {Λ : zLay} {l : Launch} (hO : zOK G l) (z : zM) (hB : zMo G N Λ) {S : aS} {c : Nat} {Lf : Nat → aS} (hI : mI z S c Lf) (hS : aOK S) (hb : bar S = true) : zMet G N Λ l yX4_deliver cX4_deliver 2 (some .int) 6 [.ref (G.h + 272)] z (some (.int 0)) (zi z 272 3 (nI 1)) := by
  refine zMet_of hO (by decide) (Nat.le_of_ble_eq_true rfl) ?_
  intro pP eE sS mM bB tT cC ls C hw hl
  have hl : lv_has ls 2 [(0, .ref (G.h + 272))] := hl
  have hM := hI.s
  have hn6 := hS.n6
  have hc4 := hI.c4
  refine lv_aload_n C.x C.b dX4_deliver_0 rfl (lv_at hl 0 rfl) ?_
  refine lv_aload_n C.x C.b dX4_deliver_1 rfl (lv_at hl 0 rfl) ?_
  refine z_Vv (As := []) (rest := [.ref (G.h + 272)]) C hw hl (m_X4_isBarred hO _ hB hM hS) ivX4_107 hB.lt (hB.at _ _) rfl rfl ⟨(Nat.le_of_ble_eq_true rfl), (Nat.le_of_ble_eq_true rfl)⟩ (Nat.le_of_ble_eq_true rfl) ⟨Nat.zero_le _, Nat.zero_le _⟩ dX4_deliver_2 (fun H locs hw => ?_)
  refine z_topi (y := 1) (if_pos hb) ?_
  refine lv_if_eq (tgt := 12) C.x C.b dX4_deliver_5 (by decide) (fun c_5 => absurd c_5 (by decide)) (fun c_5 => ?_)
  refine lv_iconst (v := 1) C.x C.b dX4_deliver_8 (by decide) ?_
  refine lv_goto (tgt := 13) C.x C.b dX4_deliver_9 (by decide) ?_
  refine z_Vv (As := [.int 1]) (rest := []) C hw hl (m_X4_ref1 hO _ hB (w := 1) (by omega) (by omega)) ivX4_35 hB.lt (hB.at _ _) rfl rfl ⟨(Nat.le_of_ble_eq_true rfl), (Nat.le_of_ble_eq_true rfl)⟩ (Nat.le_of_ble_eq_true rfl) ⟨Nat.zero_le _, Nat.zero_le _⟩ dX4_deliver_13 (fun H locs hw => ?_)
  obtain ⟨z_1, ez_1⟩ : ∃ q_9, q_9 = zi z 272 3 (nI 1) := ⟨_, rfl⟩
  have hw : zS G N Λ z_1 sS H locs := by rw [ez_1]; exact hw
  refine lv_if_eq (tgt := 21) C.x C.b dX4_deliver_16 (by decide) (fun c_16 => absurd c_16 (by decide)) (fun c_16 => ?_)
  refine lv_iconst (v := 0) C.x C.b dX4_deliver_19 (by decide) ?_
  exact z_iret C hw dX4_deliver_20 (rfl) (by rw [ez_1])

set_option maxRecDepth 100000 in
set_option maxHeartbeats 4000000 in
theorem m_X4_setSilent {G : zG} {N : Nat} {Λ : zLay} {l : Launch} (hO : zOK G l) (z : zM) (hB : zMo G N Λ) {S : aS} {c : Nat} {Lf : Nat → aS} (hI : mI z S c Lf) (hS : aOK S) {x : Nat} (hx : x < S.n) (hx6 : x < 6) {b : Nat} (hb : b < 2) : zMet G N Λ l yX4_setSilent cX4_setSilent 3 (some .int) 2 [.ref (G.h + 272), .int (nI x), .int (nI b)] z (some (.int (nI (S.m x).pend.1))) (zi (msv (zi z 272 3 0) c) 273 (mat x 1) (nI b)) := by
  refine zMet_of hO (by decide) (Nat.le_of_ble_eq_true rfl) ?_
  intro pP eE sS mM bB tT cC ls C hw hl
  have hl : lv_has ls 3 [(0, .ref (G.h + 272)), (1, .int (nI x)), (2, .int (nI b))] := hl
  have hM := hI.s
  have hn6 := hS.n6
  have hc4 := hI.c4
  have hmx := hM.m hx
  have hox := hS.m hx
  have hl40 := hox.log.1
  refine lv_aload_n C.x C.b dX4_setSilent_0 rfl (lv_at hl 0 rfl) ?_
  refine lv_aload_n C.x C.b dX4_setSilent_1 rfl (lv_at hl 0 rfl) ?_
  refine lv_iload_n C.x C.b dX4_setSilent_2 rfl (lv_at hl 1 rfl) ?_
  refine z_Vv (As := [.int (nI x)]) (rest := [.ref (G.h + 272)]) C hw hl (m_X4_isM_y hO _ hB hM.n hn6 hx) ivX4_104 hB.lt (hB.at _ _) rfl rfl ⟨(Nat.le_of_ble_eq_true rfl), (Nat.le_of_ble_eq_true rfl)⟩ (Nat.le_of_ble_eq_true rfl) ⟨Nat.zero_le _, Nat.zero_le _⟩ dX4_setSilent_3 (fun H locs hw => ?_)
  refine lv_if_eq (tgt := 13) C.x C.b dX4_setSilent_6 (by decide) (fun c_6 => absurd c_6 (by decide)) (fun c_6 => ?_)
  refine lv_iconst (v := 0) C.x C.b dX4_setSilent_9 (by decide) ?_
  refine lv_goto (tgt := 14) C.x C.b dX4_setSilent_10 (by decide) ?_
  refine z_Vv (As := [.int 0]) (rest := []) C hw hl (m_X4_ref0 hO _ hB) ivX4_35 hB.lt (hB.at _ _) rfl rfl ⟨(Nat.le_of_ble_eq_true rfl), (Nat.le_of_ble_eq_true rfl)⟩ (Nat.le_of_ble_eq_true rfl) ⟨Nat.zero_le _, Nat.zero_le _⟩ dX4_setSilent_14 (fun H locs hw => ?_)
  obtain ⟨z_1, ez_1⟩ : ∃ q_9, q_9 = zi z 272 3 0 := ⟨_, rfl⟩
  have hw : zS G N Λ z_1 sS H locs := by rw [ez_1]; exact hw
  have hI1 : mI z_1 S c Lf := by rw [ez_1]; exact hI.ref _
  have hM1 := hI1.s
  have hmx1 := hM1.m hx
  refine lv_if_eq (tgt := 22) C.x C.b dX4_setSilent_17 (by decide) (fun c_17 => ?_) (fun c_17 => absurd (rfl) c_17)
  refine lv_aload_n C.x C.b dX4_setSilent_22 rfl (lv_at hl 0 rfl) ?_
  refine z_V0 (As := []) (rest := []) C hw hl (m_X4_saves hO _ hB hI1.c hI1.c4) ivX4_101 hB.lt (hB.at _ _) rfl rfl ⟨(Nat.le_of_ble_eq_true rfl), (Nat.le_of_ble_eq_true rfl)⟩ (Nat.le_of_ble_eq_true rfl) ⟨Nat.zero_le _, Nat.zero_le _⟩ dX4_setSilent_23 (fun H locs hw => ?_)
  obtain ⟨z_2, ez_2⟩ : ∃ q_9, q_9 = msv z_1 c := ⟨_, rfl⟩
  have hw : zS G N Λ z_2 sS H locs := by rw [ez_2]; exact hw
  have hI2 : mI z_2 S (svc c) (svf c Lf S) := by rw [ez_2]; exact hI1.sv
  have hM2 := hI2.s
  have hmx2 := hM2.m hx
  refine lv_aload_n C.x C.b dX4_setSilent_26 rfl (lv_at hl 0 rfl) ?_
  refine z_get C hw hB.lt (hB.at _ _) flX4_7 rfl dX4_setSilent_27 ?_
  refine lv_iload_n C.x C.b dX4_setSilent_30 rfl (lv_at hl 1 rfl) ?_
  refine lv_iconst (v := 1) C.x C.b dX4_setSilent_31 (by decide) ?_
  refine z_Sv (As := [.int (nI x), .int 1]) (rest := [.ref (G.h + 273)]) C hw hl (m_X4_at hO _ (o := 1)) ivX4_28 rfl rfl ⟨(Nat.le_of_ble_eq_true rfl), (Nat.le_of_ble_eq_true rfl)⟩ (Nat.le_of_ble_eq_true rfl) ⟨Nat.zero_le _, Nat.zero_le _⟩ dX4_setSilent_32 (fun H locs hw => ?_)
  refine lv_iload_n C.x C.b dX4_setSilent_35 rfl (lv_at hl 2 rfl) ?_
  refine lv_if_eq (tgt := 43) C.x C.b dX4_setSilent_36 (by decide) (fun c_36 => ?_) (fun c_36 => ?_)
  · refine lv_iconst (v := 0) C.x C.b dX4_setSilent_43 (by decide) ?_
    refine z_topi (y := nI b) (by rw [zzero (by omega) c_36]; rfl) ?_
    refine z_pc (pc2 := 44) rfl ?_
    refine z_iast C hw hB.ltn hB.now (zvin (x := mat x 1) (mat_lt2 hx6 (by omega)) (by omega)) dX4_setSilent_44 (fun H locs hw => ?_)
    have e8 : (nI (mat x 1)).toNatClampNeg = (mat x 1) := zcl (x := mat x 1) (n := 2921) (mat_lt2 hx6 (by omega)) (by omega)
    rw [e8] at hw
    obtain ⟨z_3, ez_3⟩ : ∃ q_9, q_9 = zi z_2 273 (mat x 1) (nI b) := ⟨_, rfl⟩
    have hw : zS G N Λ z_3 sS H locs := by rw [ez_3]; exact hw
    refine lv_aload_n C.x C.b dX4_setSilent_45 rfl (lv_at hl 0 rfl) ?_
    refine lv_iload_n C.x C.b dX4_setSilent_46 rfl (lv_at hl 1 rfl) ?_
    refine lv_sipush (v := 226) C.x C.b dX4_setSilent_47 (by decide) ?_
    refine z_Vv (As := [.int (nI x), .int 226]) (rest := []) C hw hl (m_X4_get hO _ hB (o := 226) (mat_lt2 hx6 (by omega))) ivX4_40 hB.lt (hB.at _ _) rfl rfl ⟨(Nat.le_of_ble_eq_true rfl), (Nat.le_of_ble_eq_true rfl)⟩ (Nat.le_of_ble_eq_true rfl) ⟨Nat.zero_le _, Nat.zero_le _⟩ dX4_setSilent_50 (fun H locs hw => ?_)
    refine z_topi (y := nI (S.m x).pend.1) (by rw [ez_3, zi_at, if_neg (by unfold mat; omega)]; exact hmx2.2.2.2.1.2.1) ?_
    exact z_iret C hw dX4_setSilent_53 (rfl) (by rw [ez_3, ez_2, ez_1])
  · refine lv_iconst (v := 1) C.x C.b dX4_setSilent_39 (by decide) ?_
    refine z_pc (pc2 := 40) rfl ?_
    refine lv_goto (tgt := 44) C.x C.b dX4_setSilent_40 (by decide) ?_
    refine z_topi (y := nI b) (by rw [zbl1 hb c_36]; rfl) ?_
    refine z_iast C hw hB.ltn hB.now (zvin (x := mat x 1) (mat_lt2 hx6 (by omega)) (by omega)) dX4_setSilent_44 (fun H locs hw => ?_)
    have e8 : (nI (mat x 1)).toNatClampNeg = (mat x 1) := zcl (x := mat x 1) (n := 2921) (mat_lt2 hx6 (by omega)) (by omega)
    rw [e8] at hw
    obtain ⟨z_4, ez_4⟩ : ∃ q_9, q_9 = zi z_2 273 (mat x 1) (nI b) := ⟨_, rfl⟩
    have hw : zS G N Λ z_4 sS H locs := by rw [ez_4]; exact hw
    refine lv_aload_n C.x C.b dX4_setSilent_45 rfl (lv_at hl 0 rfl) ?_
    refine lv_iload_n C.x C.b dX4_setSilent_46 rfl (lv_at hl 1 rfl) ?_
    refine lv_sipush (v := 226) C.x C.b dX4_setSilent_47 (by decide) ?_
    refine z_Vv (As := [.int (nI x), .int 226]) (rest := []) C hw hl (m_X4_get hO _ hB (o := 226) (mat_lt2 hx6 (by omega))) ivX4_40 hB.lt (hB.at _ _) rfl rfl ⟨(Nat.le_of_ble_eq_true rfl), (Nat.le_of_ble_eq_true rfl)⟩ (Nat.le_of_ble_eq_true rfl) ⟨Nat.zero_le _, Nat.zero_le _⟩ dX4_setSilent_50 (fun H locs hw => ?_)
    refine z_topi (y := nI (S.m x).pend.1) (by rw [ez_4, zi_at, if_neg (by unfold mat; omega)]; exact hmx2.2.2.2.1.2.1) ?_
    exact z_iret C hw dX4_setSilent_53 (rfl) (by rw [ez_4, ez_2, ez_1])

set_option maxRecDepth 100000 in
set_option maxHeartbeats 4000000 in
theorem f_X4_setSilent {G : zG} {N : Nat} {Λ : zLay} {l : Launch} (hO : zOK G l) (z : zM) (hB : zMo G N Λ) {S : aS} {c : Nat} {Lf : Nat → aS} (hI : mI z S c Lf) (hS : aOK S) {v b : Int32} (hv : ¬ isM v S.n) : zMet G N Λ l yX4_setSilent cX4_setSilent 3 (some .int) 2 [.ref (G.h + 272), .int v, .int b] z (some (.int 0)) (zi z 272 3 (nI 1)) := by
  refine zMet_of hO (by decide) (Nat.le_of_ble_eq_true rfl) ?_
  intro pP eE sS mM bB tT cC ls C hw hl
  have hl : lv_has ls 3 [(0, .ref (G.h + 272)), (1, .int v), (2, .int b)] := hl
  have hM := hI.s
  have hn6 := hS.n6
  have hc4 := hI.c4
  refine lv_aload_n C.x C.b dX4_setSilent_0 rfl (lv_at hl 0 rfl) ?_
  refine lv_aload_n C.x C.b dX4_setSilent_1 rfl (lv_at hl 0 rfl) ?_
  refine lv_iload_n C.x C.b dX4_setSilent_2 rfl (lv_at hl 1 rfl) ?_
  refine z_Vv (As := [.int v]) (rest := [.ref (G.h + 272)]) C hw hl (m_X4_isM_n hO _ hB hM.n hS.n2 hn6 hv) ivX4_104 hB.lt (hB.at _ _) rfl rfl ⟨(Nat.le_of_ble_eq_true rfl), (Nat.le_of_ble_eq_true rfl)⟩ (Nat.le_of_ble_eq_true rfl) ⟨Nat.zero_le _, Nat.zero_le _⟩ dX4_setSilent_3 (fun H locs hw => ?_)
  refine lv_if_eq (tgt := 13) C.x C.b dX4_setSilent_6 (by decide) (fun c_6 => ?_) (fun c_6 => absurd (rfl) c_6)
  refine lv_iconst (v := 1) C.x C.b dX4_setSilent_13 (by decide) ?_
  refine z_Vv (As := [.int 1]) (rest := []) C hw hl (m_X4_ref1 hO _ hB (w := 1) (by omega) (by omega)) ivX4_35 hB.lt (hB.at _ _) rfl rfl ⟨(Nat.le_of_ble_eq_true rfl), (Nat.le_of_ble_eq_true rfl)⟩ (Nat.le_of_ble_eq_true rfl) ⟨Nat.zero_le _, Nat.zero_le _⟩ dX4_setSilent_14 (fun H locs hw => ?_)
  obtain ⟨z_1, ez_1⟩ : ∃ q_9, q_9 = zi z 272 3 (nI 1) := ⟨_, rfl⟩
  have hw : zS G N Λ z_1 sS H locs := by rw [ez_1]; exact hw
  refine lv_if_eq (tgt := 22) C.x C.b dX4_setSilent_17 (by decide) (fun c_17 => absurd c_17 (by decide)) (fun c_17 => ?_)
  refine lv_iconst (v := 0) C.x C.b dX4_setSilent_20 (by decide) ?_
  exact z_iret C hw dX4_setSilent_21 (rfl) (by rw [ez_1])

set_option maxRecDepth 100000 in
set_option maxHeartbeats 4000000 in
theorem m_X4_lie {G : zG} {N : Nat} {Λ : zLay} {l : Launch} (hO : zOK G l) (z : zM) (hB : zMo G N Λ) {S : aS} {c : Nat} {Lf : Nat → aS} (hI : mI z S c Lf) (hS : aOK S) {x : Nat} (hx : x < S.n) (hx6 : x < 6) : zMet G N Λ l yX4_lie cX4_lie 3 (some .boolean) 2 [.ref (G.h + 272), .int (nI x)] z (some (.int (nI (S.m x).lie))) (zi (msv (zi z 272 3 0) c) 273 (mat x 2) 1) := by
  refine zMet_of hO (by decide) (Nat.le_of_ble_eq_true rfl) ?_
  intro pP eE sS mM bB tT cC ls C hw hl
  have hl : lv_has ls 3 [(0, .ref (G.h + 272)), (1, .int (nI x))] := hl
  have hM := hI.s
  have hn6 := hS.n6
  have hc4 := hI.c4
  have hmx := hM.m hx
  have hox := hS.m hx
  have hl40 := hox.log.1
  have hli := hox.lie
  refine lv_aload_n C.x C.b dX4_lie_0 rfl (lv_at hl 0 rfl) ?_
  refine lv_aload_n C.x C.b dX4_lie_1 rfl (lv_at hl 0 rfl) ?_
  refine lv_iload_n C.x C.b dX4_lie_2 rfl (lv_at hl 1 rfl) ?_
  refine z_Vv (As := [.int (nI x)]) (rest := [.ref (G.h + 272)]) C hw hl (m_X4_isM_y hO _ hB hM.n hn6 hx) ivX4_104 hB.lt (hB.at _ _) rfl rfl ⟨(Nat.le_of_ble_eq_true rfl), (Nat.le_of_ble_eq_true rfl)⟩ (Nat.le_of_ble_eq_true rfl) ⟨Nat.zero_le _, Nat.zero_le _⟩ dX4_lie_3 (fun H locs hw => ?_)
  refine lv_if_eq (tgt := 13) C.x C.b dX4_lie_6 (by decide) (fun c_6 => absurd c_6 (by decide)) (fun c_6 => ?_)
  refine lv_iconst (v := 0) C.x C.b dX4_lie_9 (by decide) ?_
  refine lv_goto (tgt := 14) C.x C.b dX4_lie_10 (by decide) ?_
  refine z_Vv (As := [.int 0]) (rest := []) C hw hl (m_X4_ref0 hO _ hB) ivX4_35 hB.lt (hB.at _ _) rfl rfl ⟨(Nat.le_of_ble_eq_true rfl), (Nat.le_of_ble_eq_true rfl)⟩ (Nat.le_of_ble_eq_true rfl) ⟨Nat.zero_le _, Nat.zero_le _⟩ dX4_lie_14 (fun H locs hw => ?_)
  obtain ⟨z_1, ez_1⟩ : ∃ q_9, q_9 = zi z 272 3 0 := ⟨_, rfl⟩
  have hw : zS G N Λ z_1 sS H locs := by rw [ez_1]; exact hw
  have hI1 : mI z_1 S c Lf := by rw [ez_1]; exact hI.ref _
  have hM1 := hI1.s
  have hmx1 := hM1.m hx
  refine lv_if_eq (tgt := 22) C.x C.b dX4_lie_17 (by decide) (fun c_17 => ?_) (fun c_17 => absurd (rfl) c_17)
  refine lv_aload_n C.x C.b dX4_lie_22 rfl (lv_at hl 0 rfl) ?_
  refine z_V0 (As := []) (rest := []) C hw hl (m_X4_saves hO _ hB hI1.c hI1.c4) ivX4_101 hB.lt (hB.at _ _) rfl rfl ⟨(Nat.le_of_ble_eq_true rfl), (Nat.le_of_ble_eq_true rfl)⟩ (Nat.le_of_ble_eq_true rfl) ⟨Nat.zero_le _, Nat.zero_le _⟩ dX4_lie_23 (fun H locs hw => ?_)
  obtain ⟨z_2, ez_2⟩ : ∃ q_9, q_9 = msv z_1 c := ⟨_, rfl⟩
  have hw : zS G N Λ z_2 sS H locs := by rw [ez_2]; exact hw
  have hI2 : mI z_2 S (svc c) (svf c Lf S) := by rw [ez_2]; exact hI1.sv
  have hM2 := hI2.s
  have hmx2 := hM2.m hx
  refine lv_aload_n C.x C.b dX4_lie_26 rfl (lv_at hl 0 rfl) ?_
  refine lv_iload_n C.x C.b dX4_lie_27 rfl (lv_at hl 1 rfl) ?_
  refine lv_iconst (v := 2) C.x C.b dX4_lie_28 (by decide) ?_
  refine z_Vv (As := [.int (nI x), .int 2]) (rest := []) C hw hl (m_X4_get hO _ hB (o := 2) (mat_lt2 hx6 (by omega))) ivX4_40 hB.lt (hB.at _ _) rfl rfl ⟨(Nat.le_of_ble_eq_true rfl), (Nat.le_of_ble_eq_true rfl)⟩ (Nat.le_of_ble_eq_true rfl) ⟨Nat.zero_le _, Nat.zero_le _⟩ dX4_lie_29 (fun H locs hw => ?_)
  refine z_topi (y := nI (S.m x).lie) (hmx2.1.2.2.1) ?_
  refine lv_iconst (v := 1) C.x C.b dX4_lie_32 (by decide) ?_
  refine lv_icmp_ne (tgt := 40) C.x C.b dX4_lie_33 (by decide) (fun c_33 => ?_) (fun c_33 => ?_)
  · refine lv_iconst (v := 0) C.x C.b dX4_lie_40 (by decide) ?_
    refine z_topi (y := nI (S.m x).lie) (by rw [show (S.m x).lie = 0 by
        rcases (show (S.m x).lie = 0 ∨ (S.m x).lie = 1 by omega) with h | h
        · exact h
        · exact absurd (by rw [h]; rfl) c_33]; rfl) ?_
    refine lv_istore_n (lv' := [(2, .int (nI (S.m x).lie)), (0, .ref (G.h + 272)), (1, .int (nI x))]) C.x C.b dX4_lie_41 rfl hl (by decide) rfl (fun ls hl => ?_)
    refine z_pc (pc2 := 42) rfl ?_
    refine lv_aload_n C.x C.b dX4_lie_42 rfl (lv_at hl 1 rfl) ?_
    refine z_get C hw hB.lt (hB.at _ _) flX4_7 rfl dX4_lie_43 ?_
    refine lv_iload_n C.x C.b dX4_lie_46 rfl (lv_at hl 2 rfl) ?_
    refine lv_iconst (v := 2) C.x C.b dX4_lie_47 (by decide) ?_
    refine z_Sv (As := [.int (nI x), .int 2]) (rest := [.ref (G.h + 273)]) C hw hl (m_X4_at hO _ (o := 2)) ivX4_28 rfl rfl ⟨(Nat.le_of_ble_eq_true rfl), (Nat.le_of_ble_eq_true rfl)⟩ (Nat.le_of_ble_eq_true rfl) ⟨Nat.zero_le _, Nat.zero_le _⟩ dX4_lie_48 (fun H locs hw => ?_)
    refine lv_iconst (v := 1) C.x C.b dX4_lie_51 (by decide) ?_
    refine z_iast C hw hB.ltn hB.now (zvin (x := mat x 2) (mat_lt2 hx6 (by omega)) (by omega)) dX4_lie_52 (fun H locs hw => ?_)
    have e8 : (nI (mat x 2)).toNatClampNeg = (mat x 2) := zcl (x := mat x 2) (n := 2921) (mat_lt2 hx6 (by omega)) (by omega)
    rw [e8] at hw
    obtain ⟨z_3, ez_3⟩ : ∃ q_9, q_9 = zi z_2 273 (mat x 2) 1 := ⟨_, rfl⟩
    have hw : zS G N Λ z_3 sS H locs := by rw [ez_3]; exact hw
    refine lv_iload_n C.x C.b dX4_lie_53 rfl (lv_at hl 0 rfl) ?_
    exact z_zret C hw dX4_lie_54 (by
        rcases (show (S.m x).lie = 0 ∨ (S.m x).lie = 1 by omega) with h | h
        · exact Or.inl (by rw [h]; rfl)
        · exact Or.inr (by rw [h]; rfl)) (rfl) (by rw [ez_3, ez_2, ez_1])
  · refine lv_iconst (v := 1) C.x C.b dX4_lie_36 (by decide) ?_
    refine lv_goto (tgt := 41) C.x C.b dX4_lie_37 (by decide) ?_
    refine z_topi (y := nI (S.m x).lie) (by rw [show (S.m x).lie = 1 from (nI_eq (b := 1) (by omega) (by omega)).mp c_33]; rfl) ?_
    refine z_pc (pc2 := 41) rfl ?_
    refine lv_istore_n (lv' := [(2, .int (nI (S.m x).lie)), (0, .ref (G.h + 272)), (1, .int (nI x))]) C.x C.b dX4_lie_41 rfl hl (by decide) rfl (fun ls hl => ?_)
    refine lv_aload_n C.x C.b dX4_lie_42 rfl (lv_at hl 1 rfl) ?_
    refine z_get C hw hB.lt (hB.at _ _) flX4_7 rfl dX4_lie_43 ?_
    refine lv_iload_n C.x C.b dX4_lie_46 rfl (lv_at hl 2 rfl) ?_
    refine lv_iconst (v := 2) C.x C.b dX4_lie_47 (by decide) ?_
    refine z_Sv (As := [.int (nI x), .int 2]) (rest := [.ref (G.h + 273)]) C hw hl (m_X4_at hO _ (o := 2)) ivX4_28 rfl rfl ⟨(Nat.le_of_ble_eq_true rfl), (Nat.le_of_ble_eq_true rfl)⟩ (Nat.le_of_ble_eq_true rfl) ⟨Nat.zero_le _, Nat.zero_le _⟩ dX4_lie_48 (fun H locs hw => ?_)
    refine lv_iconst (v := 1) C.x C.b dX4_lie_51 (by decide) ?_
    refine z_iast C hw hB.ltn hB.now (zvin (x := mat x 2) (mat_lt2 hx6 (by omega)) (by omega)) dX4_lie_52 (fun H locs hw => ?_)
    have e8 : (nI (mat x 2)).toNatClampNeg = (mat x 2) := zcl (x := mat x 2) (n := 2921) (mat_lt2 hx6 (by omega)) (by omega)
    rw [e8] at hw
    obtain ⟨z_4, ez_4⟩ : ∃ q_9, q_9 = zi z_2 273 (mat x 2) 1 := ⟨_, rfl⟩
    have hw : zS G N Λ z_4 sS H locs := by rw [ez_4]; exact hw
    refine lv_iload_n C.x C.b dX4_lie_53 rfl (lv_at hl 0 rfl) ?_
    exact z_zret C hw dX4_lie_54 (by
        rcases (show (S.m x).lie = 0 ∨ (S.m x).lie = 1 by omega) with h | h
        · exact Or.inl (by rw [h]; rfl)
        · exact Or.inr (by rw [h]; rfl)) (rfl) (by rw [ez_4, ez_2, ez_1])

set_option maxRecDepth 100000 in
set_option maxHeartbeats 4000000 in
theorem f_X4_lie {G : zG} {N : Nat} {Λ : zLay} {l : Launch} (hO : zOK G l) (z : zM) (hB : zMo G N Λ) {S : aS} {c : Nat} {Lf : Nat → aS} (hI : mI z S c Lf) (hS : aOK S) {v : Int32} (hv : ¬ isM v S.n) : zMet G N Λ l yX4_lie cX4_lie 3 (some .boolean) 2 [.ref (G.h + 272), .int v] z (some (.int 0)) (zi z 272 3 (nI 1)) := by
  refine zMet_of hO (by decide) (Nat.le_of_ble_eq_true rfl) ?_
  intro pP eE sS mM bB tT cC ls C hw hl
  have hl : lv_has ls 3 [(0, .ref (G.h + 272)), (1, .int v)] := hl
  have hM := hI.s
  have hn6 := hS.n6
  have hc4 := hI.c4
  refine lv_aload_n C.x C.b dX4_lie_0 rfl (lv_at hl 0 rfl) ?_
  refine lv_aload_n C.x C.b dX4_lie_1 rfl (lv_at hl 0 rfl) ?_
  refine lv_iload_n C.x C.b dX4_lie_2 rfl (lv_at hl 1 rfl) ?_
  refine z_Vv (As := [.int v]) (rest := [.ref (G.h + 272)]) C hw hl (m_X4_isM_n hO _ hB hM.n hS.n2 hn6 hv) ivX4_104 hB.lt (hB.at _ _) rfl rfl ⟨(Nat.le_of_ble_eq_true rfl), (Nat.le_of_ble_eq_true rfl)⟩ (Nat.le_of_ble_eq_true rfl) ⟨Nat.zero_le _, Nat.zero_le _⟩ dX4_lie_3 (fun H locs hw => ?_)
  refine lv_if_eq (tgt := 13) C.x C.b dX4_lie_6 (by decide) (fun c_6 => ?_) (fun c_6 => absurd (rfl) c_6)
  refine lv_iconst (v := 1) C.x C.b dX4_lie_13 (by decide) ?_
  refine z_Vv (As := [.int 1]) (rest := []) C hw hl (m_X4_ref1 hO _ hB (w := 1) (by omega) (by omega)) ivX4_35 hB.lt (hB.at _ _) rfl rfl ⟨(Nat.le_of_ble_eq_true rfl), (Nat.le_of_ble_eq_true rfl)⟩ (Nat.le_of_ble_eq_true rfl) ⟨Nat.zero_le _, Nat.zero_le _⟩ dX4_lie_14 (fun H locs hw => ?_)
  obtain ⟨z_1, ez_1⟩ : ∃ q_9, q_9 = zi z 272 3 (nI 1) := ⟨_, rfl⟩
  have hw : zS G N Λ z_1 sS H locs := by rw [ez_1]; exact hw
  refine lv_if_eq (tgt := 22) C.x C.b dX4_lie_17 (by decide) (fun c_17 => absurd c_17 (by decide)) (fun c_17 => ?_)
  refine lv_iconst (v := 0) C.x C.b dX4_lie_20 (by decide) ?_
  exact z_zret C hw dX4_lie_21 (by decide) (rfl) (by rw [ez_1])

set_option maxRecDepth 100000 in
set_option maxHeartbeats 4000000 in
theorem m_X4_tamper {G : zG} {N : Nat} {Λ : zLay} {l : Launch} (hO : zOK G l) (z : zM) (hB : zMo G N Λ) {S : aS} {c : Nat} {Lf : Nat → aS} (hI : mI z S c Lf) (hS : aOK S) {x : Nat} (hx : x < S.n) (hx6 : x < 6) {e : Nat} (he : e < (S.m x).log.1) {v : Nat} (hv : v < 1000) : zMet G N Λ l yX4_tamper cX4_tamper 5 (some .int) 3 [.ref (G.h + 272), .int (nI x), .int (nI e), .int (nI v)] z (some (.int (nI ((S.m x).log.2 e 2)))) (zi (msv (zi z 272 3 0) c) 273 (mat x (5 + e)) (nI (pk ((S.m x).log.2 e 0) ((S.m x).log.2 e 1) v))) := by
  refine zMet_of hO (by decide) (Nat.le_of_ble_eq_true rfl) ?_
  intro pP eE sS mM bB tT cC ls C hw hl
  have hl : lv_has ls 5 [(0, .ref (G.h + 272)), (1, .int (nI x)), (2, .int (nI e)), (3, .int (nI v))] := hl
  have hM := hI.s
  have hn6 := hS.n6
  have hc4 := hI.c4
  have hmx := hM.m hx
  have hox := hS.m hx
  have hl40 := hox.log.1
  have hq0 := hox.log.row hn6 e he
  refine lv_aload_n C.x C.b dX4_tamper_0 rfl (lv_at hl 0 rfl) ?_
  refine lv_aload_n C.x C.b dX4_tamper_1 rfl (lv_at hl 0 rfl) ?_
  refine lv_iload_n C.x C.b dX4_tamper_2 rfl (lv_at hl 1 rfl) ?_
  refine lv_iload_n C.x C.b dX4_tamper_3 rfl (lv_at hl 2 rfl) ?_
  refine z_Vv (As := [.int (nI x), .int (nI e)]) (rest := [.ref (G.h + 272)]) C hw hl (m_X4_isE_y hO _ hB hM hS hx hx6 he) ivX4_114 hB.lt (hB.at _ _) rfl rfl ⟨(Nat.le_of_ble_eq_true rfl), (Nat.le_of_ble_eq_true rfl)⟩ (Nat.le_of_ble_eq_true rfl) ⟨Nat.zero_le _, Nat.zero_le _⟩ dX4_tamper_4 (fun H locs hw => ?_)
  refine lv_if_ne (tgt := 14) C.x C.b dX4_tamper_7 (by decide) (fun c_7 => ?_) (fun c_7 => absurd c_7 (by decide))
  refine lv_iload_n C.x C.b dX4_tamper_14 rfl (lv_at hl 3 rfl) ?_
  refine lv_iconst (v := 0) C.x C.b dX4_tamper_15 (by decide) ?_
  refine lv_sipush (v := 999) C.x C.b dX4_tamper_16 (by decide) ?_
  refine z_Sv (As := [.int (nI v), .int 0, .int 999]) (rest := [.ref (G.h + 272)]) C hw hl (m_X4_wy hO _ ((isR_w (a := 0) (b := 999) (by omega) (by omega)).mpr ⟨v, by omega, by omega, rfl⟩)) ivX4_24 rfl rfl ⟨(Nat.le_of_ble_eq_true rfl), (Nat.le_of_ble_eq_true rfl)⟩ (Nat.le_of_ble_eq_true rfl) ⟨Nat.zero_le _, Nat.zero_le _⟩ dX4_tamper_19 (fun H locs hw => ?_)
  refine lv_if_eq (tgt := 29) C.x C.b dX4_tamper_22 (by decide) (fun c_22 => absurd c_22 (by decide)) (fun c_22 => ?_)
  refine lv_iconst (v := 0) C.x C.b dX4_tamper_25 (by decide) ?_
  refine lv_goto (tgt := 30) C.x C.b dX4_tamper_26 (by decide) ?_
  refine z_Vv (As := [.int 0]) (rest := []) C hw hl (m_X4_ref0 hO _ hB) ivX4_35 hB.lt (hB.at _ _) rfl rfl ⟨(Nat.le_of_ble_eq_true rfl), (Nat.le_of_ble_eq_true rfl)⟩ (Nat.le_of_ble_eq_true rfl) ⟨Nat.zero_le _, Nat.zero_le _⟩ dX4_tamper_30 (fun H locs hw => ?_)
  obtain ⟨z_1, ez_1⟩ : ∃ q_9, q_9 = zi z 272 3 0 := ⟨_, rfl⟩
  have hw : zS G N Λ z_1 sS H locs := by rw [ez_1]; exact hw
  have hI1 : mI z_1 S c Lf := by rw [ez_1]; exact hI.ref _
  have hM1 := hI1.s
  have hmx1 := hM1.m hx
  refine lv_if_eq (tgt := 38) C.x C.b dX4_tamper_33 (by decide) (fun c_33 => ?_) (fun c_33 => absurd (rfl) c_33)
  refine lv_aload_n C.x C.b dX4_tamper_38 rfl (lv_at hl 0 rfl) ?_
  refine z_V0 (As := []) (rest := []) C hw hl (m_X4_saves hO _ hB hI1.c hI1.c4) ivX4_101 hB.lt (hB.at _ _) rfl rfl ⟨(Nat.le_of_ble_eq_true rfl), (Nat.le_of_ble_eq_true rfl)⟩ (Nat.le_of_ble_eq_true rfl) ⟨Nat.zero_le _, Nat.zero_le _⟩ dX4_tamper_39 (fun H locs hw => ?_)
  obtain ⟨z_2, ez_2⟩ : ∃ q_9, q_9 = msv z_1 c := ⟨_, rfl⟩
  have hw : zS G N Λ z_2 sS H locs := by rw [ez_2]; exact hw
  have hI2 : mI z_2 S (svc c) (svf c Lf S) := by rw [ez_2]; exact hI1.sv
  have hM2 := hI2.s
  have hmx2 := hM2.m hx
  refine lv_aload_n C.x C.b dX4_tamper_42 rfl (lv_at hl 0 rfl) ?_
  refine lv_iload_n C.x C.b dX4_tamper_43 rfl (lv_at hl 1 rfl) ?_
  refine z_pc (pc2 := 44) rfl ?_
  refine lv_iload_n C.x C.b dX4_tamper_44 rfl (lv_at hl 2 rfl) ?_
  refine z_Vv (As := [.int (nI x), .int (nI e)]) (rest := []) C hw hl (m_X4_entryAt hO _ hB hx6 (k := e) (by omega)) ivX4_43 hB.lt (hB.at _ _) rfl rfl ⟨(Nat.le_of_ble_eq_true rfl), (Nat.le_of_ble_eq_true rfl)⟩ (Nat.le_of_ble_eq_true rfl) ⟨Nat.zero_le _, Nat.zero_le _⟩ dX4_tamper_45 (fun H locs hw => ?_)
  refine z_topi (y := nI (pk ((S.m x).log.2 e 0) ((S.m x).log.2 e 1) ((S.m x).log.2 e 2))) (hmx2.2.1.2.2 e he) ?_
  refine lv_istore (lv' := [(4, .int (nI (pk ((S.m x).log.2 e 0) ((S.m x).log.2 e 1) ((S.m x).log.2 e 2)))), (0, .ref (G.h + 272)), (1, .int (nI x)), (2, .int (nI e)), (3, .int (nI v))]) C.x C.b dX4_tamper_48 hl (by decide) rfl (fun ls hl => ?_)
  refine lv_aload_n C.x C.b dX4_tamper_50 rfl (lv_at hl 1 rfl) ?_
  refine z_get C hw hB.lt (hB.at _ _) flX4_7 rfl dX4_tamper_51 ?_
  refine lv_iload_n C.x C.b dX4_tamper_54 rfl (lv_at hl 2 rfl) ?_
  refine lv_iconst (v := 5) C.x C.b dX4_tamper_55 (by decide) ?_
  refine lv_iload_n C.x C.b dX4_tamper_56 rfl (lv_at hl 3 rfl) ?_
  refine lv_iadd C.x C.b dX4_tamper_57 ?_
  refine z_topi (y := nI (5 + e)) (by rw [zlit 5, nI_add]) ?_
  refine z_Sv (As := [.int (nI x), .int (nI (5 + e))]) (rest := [.ref (G.h + 273)]) C hw hl (m_X4_at hO _ (o := (5 + e))) ivX4_28 rfl rfl ⟨(Nat.le_of_ble_eq_true rfl), (Nat.le_of_ble_eq_true rfl)⟩ (Nat.le_of_ble_eq_true rfl) ⟨Nat.zero_le _, Nat.zero_le _⟩ dX4_tamper_58 (fun H locs hw => ?_)
  refine lv_iload C.x C.b dX4_tamper_61 (lv_at hl 0 rfl) ?_
  refine lv_iload C.x C.b dX4_tamper_63 (lv_at hl 0 rfl) ?_
  refine z_Sv (As := [.int (nI (pk ((S.m x).log.2 e 0) ((S.m x).log.2 e 1) ((S.m x).log.2 e 2)))]) (rest := [.int (nI (pk ((S.m x).log.2 e 0) ((S.m x).log.2 e 1) ((S.m x).log.2 e 2))), .int (nI (mat x (5 + e))), .ref (G.h + 273)]) C hw hl (m_X4_valueOf hO _ hq0.1 hq0.2.1 hq0.2.2) ivX4_61 rfl rfl ⟨(Nat.le_of_ble_eq_true rfl), (Nat.le_of_ble_eq_true rfl)⟩ (Nat.le_of_ble_eq_true rfl) ⟨Nat.zero_le _, Nat.zero_le _⟩ dX4_tamper_65 (fun H locs hw => ?_)
  refine lv_isub C.x C.b dX4_tamper_68 ?_
  refine lv_iload_n C.x C.b dX4_tamper_69 rfl (lv_at hl 4 rfl) ?_
  refine lv_iadd C.x C.b dX4_tamper_70 ?_
  refine z_topi (y := nI (pk ((S.m x).log.2 e 0) ((S.m x).log.2 e 1) v)) (by rw [zsub (by unfold pk; omega), nI_add]; congr 1; unfold pk; omega) ?_
  refine z_iast C hw hB.ltn hB.now (zvin (x := mat x (5 + e)) (mat_lt2 hx6 (by omega)) (by omega)) dX4_tamper_71 (fun H locs hw => ?_)
  have e8 : (nI (mat x (5 + e))).toNatClampNeg = (mat x (5 + e)) := zcl (x := mat x (5 + e)) (n := 2921) (mat_lt2 hx6 (by omega)) (by omega)
  rw [e8] at hw
  obtain ⟨z_3, ez_3⟩ : ∃ q_9, q_9 = zi z_2 273 (mat x (5 + e)) (nI (pk ((S.m x).log.2 e 0) ((S.m x).log.2 e 1) v)) := ⟨_, rfl⟩
  have hw : zS G N Λ z_3 sS H locs := by rw [ez_3]; exact hw
  refine lv_iload C.x C.b dX4_tamper_72 (lv_at hl 0 rfl) ?_
  refine z_Sv (As := [.int (nI (pk ((S.m x).log.2 e 0) ((S.m x).log.2 e 1) ((S.m x).log.2 e 2)))]) (rest := []) C hw hl (m_X4_valueOf hO _ hq0.1 hq0.2.1 hq0.2.2) ivX4_61 rfl rfl ⟨(Nat.le_of_ble_eq_true rfl), (Nat.le_of_ble_eq_true rfl)⟩ (Nat.le_of_ble_eq_true rfl) ⟨Nat.zero_le _, Nat.zero_le _⟩ dX4_tamper_74 (fun H locs hw => ?_)
  exact z_iret C hw dX4_tamper_77 (rfl) (by rw [ez_3, ez_2, ez_1])

set_option maxRecDepth 100000 in
set_option maxHeartbeats 4000000 in
theorem f_X4_tamper1 {G : zG} {N : Nat} {Λ : zLay} {l : Launch} (hO : zOK G l) (z : zM) (hB : zMo G N Λ) {S : aS} {c : Nat} {Lf : Nat → aS} (hI : mI z S c Lf) (hS : aOK S) {v e u : Int32} (hv : ¬ isM v S.n) : zMet G N Λ l yX4_tamper cX4_tamper 5 (some .int) 3 [.ref (G.h + 272), .int v, .int e, .int u] z (some (.int 0)) (zi z 272 3 (nI 1)) := by
  refine zMet_of hO (by decide) (Nat.le_of_ble_eq_true rfl) ?_
  intro pP eE sS mM bB tT cC ls C hw hl
  have hl : lv_has ls 5 [(0, .ref (G.h + 272)), (1, .int v), (2, .int e), (3, .int u)] := hl
  have hM := hI.s
  have hn6 := hS.n6
  have hc4 := hI.c4
  refine lv_aload_n C.x C.b dX4_tamper_0 rfl (lv_at hl 0 rfl) ?_
  refine lv_aload_n C.x C.b dX4_tamper_1 rfl (lv_at hl 0 rfl) ?_
  refine lv_iload_n C.x C.b dX4_tamper_2 rfl (lv_at hl 1 rfl) ?_
  refine lv_iload_n C.x C.b dX4_tamper_3 rfl (lv_at hl 2 rfl) ?_
  refine z_Vv (As := [.int v, .int e]) (rest := [.ref (G.h + 272)]) C hw hl (m_X4_isE_n1 hO _ hB hM hS hv) ivX4_114 hB.lt (hB.at _ _) rfl rfl ⟨(Nat.le_of_ble_eq_true rfl), (Nat.le_of_ble_eq_true rfl)⟩ (Nat.le_of_ble_eq_true rfl) ⟨Nat.zero_le _, Nat.zero_le _⟩ dX4_tamper_4 (fun H locs hw => ?_)
  refine lv_if_ne (tgt := 14) C.x C.b dX4_tamper_7 (by decide) (fun c_7 => absurd c_7 (fun q => q rfl)) (fun c_7 => ?_)
  refine lv_iconst (v := 1) C.x C.b dX4_tamper_10 (by decide) ?_
  refine lv_goto (tgt := 30) C.x C.b dX4_tamper_11 (by decide) ?_
  refine z_Vv (As := [.int 1]) (rest := []) C hw hl (m_X4_ref1 hO _ hB (w := 1) (by omega) (by omega)) ivX4_35 hB.lt (hB.at _ _) rfl rfl ⟨(Nat.le_of_ble_eq_true rfl), (Nat.le_of_ble_eq_true rfl)⟩ (Nat.le_of_ble_eq_true rfl) ⟨Nat.zero_le _, Nat.zero_le _⟩ dX4_tamper_30 (fun H locs hw => ?_)
  obtain ⟨z_1, ez_1⟩ : ∃ q_9, q_9 = zi z 272 3 (nI 1) := ⟨_, rfl⟩
  have hw : zS G N Λ z_1 sS H locs := by rw [ez_1]; exact hw
  refine lv_if_eq (tgt := 38) C.x C.b dX4_tamper_33 (by decide) (fun c_33 => absurd c_33 (by decide)) (fun c_33 => ?_)
  refine lv_iconst (v := 0) C.x C.b dX4_tamper_36 (by decide) ?_
  exact z_iret C hw dX4_tamper_37 (rfl) (by rw [ez_1])

set_option maxRecDepth 100000 in
set_option maxHeartbeats 4000000 in
theorem f_X4_tamper2 {G : zG} {N : Nat} {Λ : zLay} {l : Launch} (hO : zOK G l) (z : zM) (hB : zMo G N Λ) {S : aS} {c : Nat} {Lf : Nat → aS} (hI : mI z S c Lf) (hS : aOK S) {x : Nat} (hx : x < S.n) (hx6 : x < 6) {e u : Int32} (he : ¬ isM e (S.m x).log.1) : zMet G N Λ l yX4_tamper cX4_tamper 5 (some .int) 3 [.ref (G.h + 272), .int (nI x), .int e, .int u] z (some (.int 0)) (zi z 272 3 (nI 1)) := by
  refine zMet_of hO (by decide) (Nat.le_of_ble_eq_true rfl) ?_
  intro pP eE sS mM bB tT cC ls C hw hl
  have hl : lv_has ls 5 [(0, .ref (G.h + 272)), (1, .int (nI x)), (2, .int e), (3, .int u)] := hl
  have hM := hI.s
  have hn6 := hS.n6
  have hc4 := hI.c4
  have hmx := hM.m hx
  have hox := hS.m hx
  have hl40 := hox.log.1
  refine lv_aload_n C.x C.b dX4_tamper_0 rfl (lv_at hl 0 rfl) ?_
  refine lv_aload_n C.x C.b dX4_tamper_1 rfl (lv_at hl 0 rfl) ?_
  refine lv_iload_n C.x C.b dX4_tamper_2 rfl (lv_at hl 1 rfl) ?_
  refine lv_iload_n C.x C.b dX4_tamper_3 rfl (lv_at hl 2 rfl) ?_
  refine z_Vv (As := [.int (nI x), .int e]) (rest := [.ref (G.h + 272)]) C hw hl (m_X4_isE_n2 hO _ hB hM hS hx hx6 he) ivX4_114 hB.lt (hB.at _ _) rfl rfl ⟨(Nat.le_of_ble_eq_true rfl), (Nat.le_of_ble_eq_true rfl)⟩ (Nat.le_of_ble_eq_true rfl) ⟨Nat.zero_le _, Nat.zero_le _⟩ dX4_tamper_4 (fun H locs hw => ?_)
  refine lv_if_ne (tgt := 14) C.x C.b dX4_tamper_7 (by decide) (fun c_7 => absurd c_7 (fun q => q rfl)) (fun c_7 => ?_)
  refine lv_iconst (v := 1) C.x C.b dX4_tamper_10 (by decide) ?_
  refine lv_goto (tgt := 30) C.x C.b dX4_tamper_11 (by decide) ?_
  refine z_Vv (As := [.int 1]) (rest := []) C hw hl (m_X4_ref1 hO _ hB (w := 1) (by omega) (by omega)) ivX4_35 hB.lt (hB.at _ _) rfl rfl ⟨(Nat.le_of_ble_eq_true rfl), (Nat.le_of_ble_eq_true rfl)⟩ (Nat.le_of_ble_eq_true rfl) ⟨Nat.zero_le _, Nat.zero_le _⟩ dX4_tamper_30 (fun H locs hw => ?_)
  obtain ⟨z_1, ez_1⟩ : ∃ q_9, q_9 = zi z 272 3 (nI 1) := ⟨_, rfl⟩
  have hw : zS G N Λ z_1 sS H locs := by rw [ez_1]; exact hw
  refine lv_if_eq (tgt := 38) C.x C.b dX4_tamper_33 (by decide) (fun c_33 => absurd c_33 (by decide)) (fun c_33 => ?_)
  refine lv_iconst (v := 0) C.x C.b dX4_tamper_36 (by decide) ?_
  exact z_iret C hw dX4_tamper_37 (rfl) (by rw [ez_1])

set_option maxRecDepth 100000 in
set_option maxHeartbeats 4000000 in
theorem f_X4_tamper3 {G : zG} {N : Nat} {Λ : zLay} {l : Launch} (hO : zOK G l) (z : zM) (hB : zMo G N Λ) {S : aS} {c : Nat} {Lf : Nat → aS} (hI : mI z S c Lf) (hS : aOK S) {x : Nat} (hx : x < S.n) (hx6 : x < 6) {e : Nat} {u : Int32} (he : e < (S.m x).log.1) (hu : ¬ isM u 1000) : zMet G N Λ l yX4_tamper cX4_tamper 5 (some .int) 3 [.ref (G.h + 272), .int (nI x), .int (nI e), .int u] z (some (.int 0)) (zi z 272 3 (nI 2)) := by
  refine zMet_of hO (by decide) (Nat.le_of_ble_eq_true rfl) ?_
  intro pP eE sS mM bB tT cC ls C hw hl
  have hl : lv_has ls 5 [(0, .ref (G.h + 272)), (1, .int (nI x)), (2, .int (nI e)), (3, .int u)] := hl
  have hM := hI.s
  have hn6 := hS.n6
  have hc4 := hI.c4
  have hmx := hM.m hx
  have hox := hS.m hx
  have hl40 := hox.log.1
  refine lv_aload_n C.x C.b dX4_tamper_0 rfl (lv_at hl 0 rfl) ?_
  refine lv_aload_n C.x C.b dX4_tamper_1 rfl (lv_at hl 0 rfl) ?_
  refine lv_iload_n C.x C.b dX4_tamper_2 rfl (lv_at hl 1 rfl) ?_
  refine lv_iload_n C.x C.b dX4_tamper_3 rfl (lv_at hl 2 rfl) ?_
  refine z_Vv (As := [.int (nI x), .int (nI e)]) (rest := [.ref (G.h + 272)]) C hw hl (m_X4_isE_y hO _ hB hM hS hx hx6 he) ivX4_114 hB.lt (hB.at _ _) rfl rfl ⟨(Nat.le_of_ble_eq_true rfl), (Nat.le_of_ble_eq_true rfl)⟩ (Nat.le_of_ble_eq_true rfl) ⟨Nat.zero_le _, Nat.zero_le _⟩ dX4_tamper_4 (fun H locs hw => ?_)
  refine lv_if_ne (tgt := 14) C.x C.b dX4_tamper_7 (by decide) (fun c_7 => ?_) (fun c_7 => absurd c_7 (by decide))
  refine lv_iload_n C.x C.b dX4_tamper_14 rfl (lv_at hl 3 rfl) ?_
  refine lv_iconst (v := 0) C.x C.b dX4_tamper_15 (by decide) ?_
  refine lv_sipush (v := 999) C.x C.b dX4_tamper_16 (by decide) ?_
  refine z_Sv (As := [.int u, .int 0, .int 999]) (rest := [.ref (G.h + 272)]) C hw hl (m_X4_wn hO _ (fun q => hu (by obtain ⟨n, _, h2, h3⟩ := (isR_w (a := 0) (b := 999) (by omega) (by omega)).mp q; exact ⟨n, by omega, h3⟩))) ivX4_24 rfl rfl ⟨(Nat.le_of_ble_eq_true rfl), (Nat.le_of_ble_eq_true rfl)⟩ (Nat.le_of_ble_eq_true rfl) ⟨Nat.zero_le _, Nat.zero_le _⟩ dX4_tamper_19 (fun H locs hw => ?_)
  refine lv_if_eq (tgt := 29) C.x C.b dX4_tamper_22 (by decide) (fun c_22 => ?_) (fun c_22 => absurd (rfl) c_22)
  refine lv_iconst (v := 2) C.x C.b dX4_tamper_29 (by decide) ?_
  refine z_Vv (As := [.int 2]) (rest := []) C hw hl (m_X4_ref1 hO _ hB (w := 2) (by omega) (by omega)) ivX4_35 hB.lt (hB.at _ _) rfl rfl ⟨(Nat.le_of_ble_eq_true rfl), (Nat.le_of_ble_eq_true rfl)⟩ (Nat.le_of_ble_eq_true rfl) ⟨Nat.zero_le _, Nat.zero_le _⟩ dX4_tamper_30 (fun H locs hw => ?_)
  obtain ⟨z_1, ez_1⟩ : ∃ q_9, q_9 = zi z 272 3 (nI 2) := ⟨_, rfl⟩
  have hw : zS G N Λ z_1 sS H locs := by rw [ez_1]; exact hw
  refine lv_if_eq (tgt := 38) C.x C.b dX4_tamper_33 (by decide) (fun c_33 => absurd c_33 (by decide)) (fun c_33 => ?_)
  refine lv_iconst (v := 0) C.x C.b dX4_tamper_36 (by decide) ?_
  exact z_iret C hw dX4_tamper_37 (rfl) (by rw [ez_1])

set_option maxRecDepth 100000 in
set_option maxHeartbeats 4000000 in
theorem m_X4_cut {G : zG} {N : Nat} {Λ : zLay} {l : Launch} (hO : zOK G l) (z : zM) (hB : zMo G N Λ) {S : aS} {c : Nat} {Lf : Nat → aS} (hI : mI z S c Lf) (hS : aOK S) {x : Nat} (hx : x < S.n) (hx6 : x < 6) {k : Nat} (hk1 : 1 ≤ k) (hk2 : k ≤ (S.m x).log.1) : zMet G N Λ l yX4_cut cX4_cut 3 (some .int) 2 [.ref (G.h + 272), .int (nI x), .int (nI k)] z (some (.int (nI ((S.m x).log.1 - k)))) (zi (msv (zi z 272 3 0) c) 273 (mat x 4) (nI ((S.m x).log.1 - k))) := by
  refine zMet_of hO (by decide) (Nat.le_of_ble_eq_true rfl) ?_
  intro pP eE sS mM bB tT cC ls C hw hl
  have hl : lv_has ls 3 [(0, .ref (G.h + 272)), (1, .int (nI x)), (2, .int (nI k))] := hl
  have hM := hI.s
  have hn6 := hS.n6
  have hc4 := hI.c4
  have hmx := hM.m hx
  have hox := hS.m hx
  have hl40 := hox.log.1
  refine lv_aload_n C.x C.b dX4_cut_0 rfl (lv_at hl 0 rfl) ?_
  refine lv_aload_n C.x C.b dX4_cut_1 rfl (lv_at hl 0 rfl) ?_
  refine lv_iload_n C.x C.b dX4_cut_2 rfl (lv_at hl 1 rfl) ?_
  refine z_Vv (As := [.int (nI x)]) (rest := [.ref (G.h + 272)]) C hw hl (m_X4_isM_y hO _ hB hM.n hn6 hx) ivX4_104 hB.lt (hB.at _ _) rfl rfl ⟨(Nat.le_of_ble_eq_true rfl), (Nat.le_of_ble_eq_true rfl)⟩ (Nat.le_of_ble_eq_true rfl) ⟨Nat.zero_le _, Nat.zero_le _⟩ dX4_cut_3 (fun H locs hw => ?_)
  refine lv_if_ne (tgt := 13) C.x C.b dX4_cut_6 (by decide) (fun c_6 => ?_) (fun c_6 => absurd c_6 (by decide))
  refine lv_iload_n C.x C.b dX4_cut_13 rfl (lv_at hl 2 rfl) ?_
  refine lv_iconst (v := 1) C.x C.b dX4_cut_14 (by decide) ?_
  refine lv_aload_n C.x C.b dX4_cut_15 rfl (lv_at hl 0 rfl) ?_
  refine lv_iload_n C.x C.b dX4_cut_16 rfl (lv_at hl 1 rfl) ?_
  refine lv_iconst (v := 4) C.x C.b dX4_cut_17 (by decide) ?_
  refine z_Vv (As := [.int (nI x), .int 4]) (rest := [.int 1, .int (nI k), .ref (G.h + 272)]) C hw hl (m_X4_get hO _ hB (o := 4) (mat_lt2 hx6 (by omega))) ivX4_40 hB.lt (hB.at _ _) rfl rfl ⟨(Nat.le_of_ble_eq_true rfl), (Nat.le_of_ble_eq_true rfl)⟩ (Nat.le_of_ble_eq_true rfl) ⟨Nat.zero_le _, Nat.zero_le _⟩ dX4_cut_18 (fun H locs hw => ?_)
  refine z_topi (y := nI (S.m x).log.1) (hmx.2.1.2.1) ?_
  refine z_Sv (As := [.int (nI k), .int 1, .int (nI (S.m x).log.1)]) (rest := [.ref (G.h + 272)]) C hw hl (m_X4_wy hO _ ⟨zle (a := 1) (by omega) hk1, zle (by omega) hk2⟩) ivX4_24 rfl rfl ⟨(Nat.le_of_ble_eq_true rfl), (Nat.le_of_ble_eq_true rfl)⟩ (Nat.le_of_ble_eq_true rfl) ⟨Nat.zero_le _, Nat.zero_le _⟩ dX4_cut_21 (fun H locs hw => ?_)
  refine lv_if_eq (tgt := 31) C.x C.b dX4_cut_24 (by decide) (fun c_24 => absurd c_24 (by decide)) (fun c_24 => ?_)
  refine lv_iconst (v := 0) C.x C.b dX4_cut_27 (by decide) ?_
  refine lv_goto (tgt := 32) C.x C.b dX4_cut_28 (by decide) ?_
  refine z_Vv (As := [.int 0]) (rest := []) C hw hl (m_X4_ref0 hO _ hB) ivX4_35 hB.lt (hB.at _ _) rfl rfl ⟨(Nat.le_of_ble_eq_true rfl), (Nat.le_of_ble_eq_true rfl)⟩ (Nat.le_of_ble_eq_true rfl) ⟨Nat.zero_le _, Nat.zero_le _⟩ dX4_cut_32 (fun H locs hw => ?_)
  obtain ⟨z_1, ez_1⟩ : ∃ q_9, q_9 = zi z 272 3 0 := ⟨_, rfl⟩
  have hw : zS G N Λ z_1 sS H locs := by rw [ez_1]; exact hw
  have hI1 : mI z_1 S c Lf := by rw [ez_1]; exact hI.ref _
  have hM1 := hI1.s
  have hmx1 := hM1.m hx
  refine lv_if_eq (tgt := 40) C.x C.b dX4_cut_35 (by decide) (fun c_35 => ?_) (fun c_35 => absurd (rfl) c_35)
  refine lv_aload_n C.x C.b dX4_cut_40 rfl (lv_at hl 0 rfl) ?_
  refine z_V0 (As := []) (rest := []) C hw hl (m_X4_saves hO _ hB hI1.c hI1.c4) ivX4_101 hB.lt (hB.at _ _) rfl rfl ⟨(Nat.le_of_ble_eq_true rfl), (Nat.le_of_ble_eq_true rfl)⟩ (Nat.le_of_ble_eq_true rfl) ⟨Nat.zero_le _, Nat.zero_le _⟩ dX4_cut_41 (fun H locs hw => ?_)
  obtain ⟨z_2, ez_2⟩ : ∃ q_9, q_9 = msv z_1 c := ⟨_, rfl⟩
  have hw : zS G N Λ z_2 sS H locs := by rw [ez_2]; exact hw
  have hI2 : mI z_2 S (svc c) (svf c Lf S) := by rw [ez_2]; exact hI1.sv
  have hM2 := hI2.s
  have hmx2 := hM2.m hx
  refine z_pc (pc2 := 44) rfl ?_
  refine lv_aload_n C.x C.b dX4_cut_44 rfl (lv_at hl 0 rfl) ?_
  refine z_get C hw hB.lt (hB.at _ _) flX4_7 rfl dX4_cut_45 ?_
  refine lv_iload_n C.x C.b dX4_cut_48 rfl (lv_at hl 1 rfl) ?_
  refine lv_iconst (v := 4) C.x C.b dX4_cut_49 (by decide) ?_
  refine z_Sv (As := [.int (nI x), .int 4]) (rest := [.ref (G.h + 273)]) C hw hl (m_X4_at hO _ (o := 4)) ivX4_28 rfl rfl ⟨(Nat.le_of_ble_eq_true rfl), (Nat.le_of_ble_eq_true rfl)⟩ (Nat.le_of_ble_eq_true rfl) ⟨Nat.zero_le _, Nat.zero_le _⟩ dX4_cut_50 (fun H locs hw => ?_)
  refine lv_dup2_11 C.x C.b dX4_cut_53 rfl rfl ?_
  refine z_iald C hw hB.ltn hB.now (zvin (x := mat x 4) (mat_lt2 hx6 (by omega)) (by omega)) dX4_cut_54 ?_
  refine z_topi (y := z_2.1 273 (mat x 4)) (congrArg (z_2.1 273) (zcl (x := mat x 4) (n := 2921) (mat_lt2 hx6 (by omega)) (by omega))) ?_
  refine z_topi (y := nI (S.m x).log.1) (hmx2.2.1.2.1) ?_
  refine lv_iload_n C.x C.b dX4_cut_55 rfl (lv_at hl 2 rfl) ?_
  refine lv_isub C.x C.b dX4_cut_56 ?_
  refine z_topi (y := nI ((S.m x).log.1 - k)) (zsub hk2) ?_
  refine z_iast C hw hB.ltn hB.now (zvin (x := mat x 4) (mat_lt2 hx6 (by omega)) (by omega)) dX4_cut_57 (fun H locs hw => ?_)
  have e8 : (nI (mat x 4)).toNatClampNeg = (mat x 4) := zcl (x := mat x 4) (n := 2921) (mat_lt2 hx6 (by omega)) (by omega)
  rw [e8] at hw
  obtain ⟨z_3, ez_3⟩ : ∃ q_9, q_9 = zi z_2 273 (mat x 4) (nI ((S.m x).log.1 - k)) := ⟨_, rfl⟩
  have hw : zS G N Λ z_3 sS H locs := by rw [ez_3]; exact hw
  refine lv_aload_n C.x C.b dX4_cut_58 rfl (lv_at hl 0 rfl) ?_
  refine lv_iload_n C.x C.b dX4_cut_59 rfl (lv_at hl 1 rfl) ?_
  refine lv_iconst (v := 4) C.x C.b dX4_cut_60 (by decide) ?_
  refine z_Vv (As := [.int (nI x), .int 4]) (rest := []) C hw hl (m_X4_get hO _ hB (o := 4) (mat_lt2 hx6 (by omega))) ivX4_40 hB.lt (hB.at _ _) rfl rfl ⟨(Nat.le_of_ble_eq_true rfl), (Nat.le_of_ble_eq_true rfl)⟩ (Nat.le_of_ble_eq_true rfl) ⟨Nat.zero_le _, Nat.zero_le _⟩ dX4_cut_61 (fun H locs hw => ?_)
  refine z_topi (y := nI ((S.m x).log.1 - k)) (by rw [ez_3, zi_at, if_pos ⟨rfl, rfl⟩]) ?_
  exact z_iret C hw dX4_cut_64 (rfl) (by rw [ez_3, ez_2, ez_1])

set_option maxRecDepth 100000 in
set_option maxHeartbeats 4000000 in
theorem f_X4_cut1 {G : zG} {N : Nat} {Λ : zLay} {l : Launch} (hO : zOK G l) (z : zM) (hB : zMo G N Λ) {S : aS} {c : Nat} {Lf : Nat → aS} (hI : mI z S c Lf) (hS : aOK S) {v u : Int32} (hv : ¬ isM v S.n) : zMet G N Λ l yX4_cut cX4_cut 3 (some .int) 2 [.ref (G.h + 272), .int v, .int u] z (some (.int 0)) (zi z 272 3 (nI 1)) := by
  refine zMet_of hO (by decide) (Nat.le_of_ble_eq_true rfl) ?_
  intro pP eE sS mM bB tT cC ls C hw hl
  have hl : lv_has ls 3 [(0, .ref (G.h + 272)), (1, .int v), (2, .int u)] := hl
  have hM := hI.s
  have hn6 := hS.n6
  have hc4 := hI.c4
  refine lv_aload_n C.x C.b dX4_cut_0 rfl (lv_at hl 0 rfl) ?_
  refine lv_aload_n C.x C.b dX4_cut_1 rfl (lv_at hl 0 rfl) ?_
  refine lv_iload_n C.x C.b dX4_cut_2 rfl (lv_at hl 1 rfl) ?_
  refine z_Vv (As := [.int v]) (rest := [.ref (G.h + 272)]) C hw hl (m_X4_isM_n hO _ hB hM.n hS.n2 hn6 hv) ivX4_104 hB.lt (hB.at _ _) rfl rfl ⟨(Nat.le_of_ble_eq_true rfl), (Nat.le_of_ble_eq_true rfl)⟩ (Nat.le_of_ble_eq_true rfl) ⟨Nat.zero_le _, Nat.zero_le _⟩ dX4_cut_3 (fun H locs hw => ?_)
  refine lv_if_ne (tgt := 13) C.x C.b dX4_cut_6 (by decide) (fun c_6 => absurd c_6 (fun q => q rfl)) (fun c_6 => ?_)
  refine lv_iconst (v := 1) C.x C.b dX4_cut_9 (by decide) ?_
  refine lv_goto (tgt := 32) C.x C.b dX4_cut_10 (by decide) ?_
  refine z_Vv (As := [.int 1]) (rest := []) C hw hl (m_X4_ref1 hO _ hB (w := 1) (by omega) (by omega)) ivX4_35 hB.lt (hB.at _ _) rfl rfl ⟨(Nat.le_of_ble_eq_true rfl), (Nat.le_of_ble_eq_true rfl)⟩ (Nat.le_of_ble_eq_true rfl) ⟨Nat.zero_le _, Nat.zero_le _⟩ dX4_cut_32 (fun H locs hw => ?_)
  obtain ⟨z_1, ez_1⟩ : ∃ q_9, q_9 = zi z 272 3 (nI 1) := ⟨_, rfl⟩
  have hw : zS G N Λ z_1 sS H locs := by rw [ez_1]; exact hw
  refine lv_if_eq (tgt := 40) C.x C.b dX4_cut_35 (by decide) (fun c_35 => absurd c_35 (by decide)) (fun c_35 => ?_)
  refine lv_iconst (v := 0) C.x C.b dX4_cut_38 (by decide) ?_
  exact z_iret C hw dX4_cut_39 (rfl) (by rw [ez_1])

set_option maxRecDepth 100000 in
set_option maxHeartbeats 4000000 in
theorem f_X4_cut2 {G : zG} {N : Nat} {Λ : zLay} {l : Launch} (hO : zOK G l) (z : zM) (hB : zMo G N Λ) {S : aS} {c : Nat} {Lf : Nat → aS} (hI : mI z S c Lf) (hS : aOK S) {x : Nat} (hx : x < S.n) (hx6 : x < 6) {u : Int32} (hu : ¬ ∃ n, 1 ≤ n ∧ n ≤ (S.m x).log.1 ∧ u = nI n) : zMet G N Λ l yX4_cut cX4_cut 3 (some .int) 2 [.ref (G.h + 272), .int (nI x), .int u] z (some (.int 0)) (zi z 272 3 (nI 2)) := by
  refine zMet_of hO (by decide) (Nat.le_of_ble_eq_true rfl) ?_
  intro pP eE sS mM bB tT cC ls C hw hl
  have hl : lv_has ls 3 [(0, .ref (G.h + 272)), (1, .int (nI x)), (2, .int u)] := hl
  have hM := hI.s
  have hn6 := hS.n6
  have hc4 := hI.c4
  have hmx := hM.m hx
  have hox := hS.m hx
  have hl40 := hox.log.1
  refine lv_aload_n C.x C.b dX4_cut_0 rfl (lv_at hl 0 rfl) ?_
  refine lv_aload_n C.x C.b dX4_cut_1 rfl (lv_at hl 0 rfl) ?_
  refine lv_iload_n C.x C.b dX4_cut_2 rfl (lv_at hl 1 rfl) ?_
  refine z_Vv (As := [.int (nI x)]) (rest := [.ref (G.h + 272)]) C hw hl (m_X4_isM_y hO _ hB hM.n hn6 hx) ivX4_104 hB.lt (hB.at _ _) rfl rfl ⟨(Nat.le_of_ble_eq_true rfl), (Nat.le_of_ble_eq_true rfl)⟩ (Nat.le_of_ble_eq_true rfl) ⟨Nat.zero_le _, Nat.zero_le _⟩ dX4_cut_3 (fun H locs hw => ?_)
  refine lv_if_ne (tgt := 13) C.x C.b dX4_cut_6 (by decide) (fun c_6 => ?_) (fun c_6 => absurd c_6 (by decide))
  refine lv_iload_n C.x C.b dX4_cut_13 rfl (lv_at hl 2 rfl) ?_
  refine lv_iconst (v := 1) C.x C.b dX4_cut_14 (by decide) ?_
  refine lv_aload_n C.x C.b dX4_cut_15 rfl (lv_at hl 0 rfl) ?_
  refine lv_iload_n C.x C.b dX4_cut_16 rfl (lv_at hl 1 rfl) ?_
  refine lv_iconst (v := 4) C.x C.b dX4_cut_17 (by decide) ?_
  refine z_Vv (As := [.int (nI x), .int 4]) (rest := [.int 1, .int u, .ref (G.h + 272)]) C hw hl (m_X4_get hO _ hB (o := 4) (mat_lt2 hx6 (by omega))) ivX4_40 hB.lt (hB.at _ _) rfl rfl ⟨(Nat.le_of_ble_eq_true rfl), (Nat.le_of_ble_eq_true rfl)⟩ (Nat.le_of_ble_eq_true rfl) ⟨Nat.zero_le _, Nat.zero_le _⟩ dX4_cut_18 (fun H locs hw => ?_)
  refine z_topi (y := nI (S.m x).log.1) (hmx.2.1.2.1) ?_
  refine z_Sv (As := [.int u, .int 1, .int (nI (S.m x).log.1)]) (rest := [.ref (G.h + 272)]) C hw hl (m_X4_wn hO _ (fun q => hu (rng1 (by omega) q))) ivX4_24 rfl rfl ⟨(Nat.le_of_ble_eq_true rfl), (Nat.le_of_ble_eq_true rfl)⟩ (Nat.le_of_ble_eq_true rfl) ⟨Nat.zero_le _, Nat.zero_le _⟩ dX4_cut_21 (fun H locs hw => ?_)
  refine lv_if_eq (tgt := 31) C.x C.b dX4_cut_24 (by decide) (fun c_24 => ?_) (fun c_24 => absurd (rfl) c_24)
  refine lv_iconst (v := 2) C.x C.b dX4_cut_31 (by decide) ?_
  refine z_Vv (As := [.int 2]) (rest := []) C hw hl (m_X4_ref1 hO _ hB (w := 2) (by omega) (by omega)) ivX4_35 hB.lt (hB.at _ _) rfl rfl ⟨(Nat.le_of_ble_eq_true rfl), (Nat.le_of_ble_eq_true rfl)⟩ (Nat.le_of_ble_eq_true rfl) ⟨Nat.zero_le _, Nat.zero_le _⟩ dX4_cut_32 (fun H locs hw => ?_)
  obtain ⟨z_1, ez_1⟩ : ∃ q_9, q_9 = zi z 272 3 (nI 2) := ⟨_, rfl⟩
  have hw : zS G N Λ z_1 sS H locs := by rw [ez_1]; exact hw
  refine lv_if_eq (tgt := 40) C.x C.b dX4_cut_35 (by decide) (fun c_35 => absurd c_35 (by decide)) (fun c_35 => ?_)
  refine lv_iconst (v := 0) C.x C.b dX4_cut_38 (by decide) ?_
  exact z_iret C hw dX4_cut_39 (rfl) (by rw [ez_1])
