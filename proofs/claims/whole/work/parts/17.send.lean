set_option maxRecDepth 100000 in
set_option maxHeartbeats 4000000 in
theorem m_X2_send {G : zG} {N : Nat} {Λ : zLay} {l : Launch} (hO : zOK G l) (z : zM) {b : Nat} (hW : zWo G N Λ b) {x n st li qk : Nat} {T : aT} (hn : 2 ≤ n) (hn6 : n ≤ 6) (hx : x < n) (hx6 : x < 6) (h1 : z.1 (b + 2 + 8 * x) 1 = nI st) (hst : st < 9973) (h3 : z.1 (b + 2 + 8 * x) 3 = nI li) (hli : li < 2) (h0 : z.1 b 0 = nI n) (hL : rLog z (b + 2 + 8 * x + 2) T) (hT : T.1 < 40) (hq : z.1 (b + 50) 3 = nI qk) (hqk : qk < 40) : zMet G N Λ l yX2_send cX2_send 6 none 3 [.ref (G.h + b), .ref (G.h + (b + 2 + 8 * x))] z none (sndz z b x n st li qk T) := by
  refine zMet_of hO (by decide) (Nat.le_of_ble_eq_true rfl) ?_
  intro pP eE sS mM bB tT cC ls C hw hl
  have hl : lv_has ls 6 [(0, .ref (G.h + b)), (1, .ref (G.h + (b + 2 + 8 * x)))] := hl
  refine lv_aload_n C.x C.b dX2_send_0 rfl (lv_at hl 1 rfl) ?_
  refine z_get C hw (hW.m hx6).lt ((hW.m hx6).at _ _) flX2_68 rfl dX2_send_1 ?_
  refine lv_aload_n C.x C.b dX2_send_4 rfl (lv_at hl 1 rfl) ?_
  refine z_get C hw (hW.m hx6).lt ((hW.m hx6).at _ _) flX2_54 rfl dX2_send_5 ?_
  refine z_topi (y := nI st) (h1) ?_
  refine lv_aload_n C.x C.b dX2_send_8 rfl (lv_at hl 0 rfl) ?_
  refine z_get C hw hW.lt (hW.at _ _) flX2_32 rfl dX2_send_9 ?_
  refine z_topi (y := nI n) (h0) ?_
  refine z_Nv (As := [.int (nI x), .int (nI st), .int (nI n)]) (rest := []) C hw hl (m_X3_outputPeer hO _ hst hn hn6 hx) ivX2_71 rfl rfl ⟨(Nat.le_of_ble_eq_true rfl), (Nat.le_of_ble_eq_true rfl)⟩ (Nat.le_of_ble_eq_true rfl) ⟨Nat.zero_le _, Nat.zero_le _⟩ dX2_send_12 (fun H locs hw => ?_)
  refine lv_istore_n (lv' := [(2, .int (nI (gt x st n))), (0, .ref (G.h + b)), (1, .ref (G.h + (b + 2 + 8 * x)))]) C.x C.b dX2_send_15 rfl hl (by decide) rfl (fun ls hl => ?_)
  refine lv_aload_n C.x C.b dX2_send_16 rfl (lv_at hl 2 rfl) ?_
  refine z_get C hw (hW.m hx6).lt ((hW.m hx6).at _ _) flX2_54 rfl dX2_send_17 ?_
  refine z_topi (y := nI st) (h1) ?_
  refine z_Nv (As := [.int (nI st)]) (rest := []) C hw hl (m_X3_outputValue hO _ hst) ivX2_74 rfl rfl ⟨(Nat.le_of_ble_eq_true rfl), (Nat.le_of_ble_eq_true rfl)⟩ (Nat.le_of_ble_eq_true rfl) ⟨Nat.zero_le _, Nat.zero_le _⟩ dX2_send_20 (fun H locs hw => ?_)
  refine lv_istore_n (lv' := [(3, .int (nI (st % 1000))), (2, .int (nI (gt x st n))), (0, .ref (G.h + b)), (1, .ref (G.h + (b + 2 + 8 * x)))]) C.x C.b dX2_send_23 rfl hl (by decide) rfl (fun ls hl => ?_)
  refine lv_aload_n C.x C.b dX2_send_24 rfl (lv_at hl 3 rfl) ?_
  refine z_get C hw (hW.m hx6).lt ((hW.m hx6).at _ _) flX2_78 rfl dX2_send_25 ?_
  refine z_topi (y := nI li) (h3) ?_
  refine lv_if_eq (tgt := 44) C.x C.b dX2_send_28 (by decide) (fun c_28 => ?_) (fun c_28 => ?_)
  · have hl0 : li = 0 := zzero (by omega) c_28
    have hl : lv_has ls 6 [(3, .int (nI (outv st li))), (2, .int (nI (gt x st n))), (0, .ref (G.h + b)), (1, .ref (G.h + (b + 2 + 8 * x)))] := by
      have e9 : nI (st % 1000) = nI (outv st li) := by rw [outv, hl0, Nat.add_zero, Nat.mod_mod]
      rw [← e9]; exact hl
    obtain ⟨z_1, ez_1⟩ : ∃ q_9, q_9 = zi z (b + 2 + 8 * x) 3 0 := ⟨_, rfl⟩
    have hw : zS G N Λ z_1 sS H locs := by rw [ez_1, zi_same (by rw [h3, hl0]; rfl)]; exact hw
    have hf1 : ∀ i, i ≠ b + 2 + 8 * x → z_1.1 i = z.1 i := fun i hi => by rw [ez_1]; exact (zi_fr _ _ _ _).1 i (by omega)
    have hL1 : rLog z_1 (b + 2 + 8 * x + 2) T := hL.cg (hf1 _ (by omega)) (hf1 _ (by omega))
    refine lv_aload_n C.x C.b dX2_send_44 rfl (lv_at hl 3 rfl) ?_
    refine z_get C hw (hW.m hx6).lt ((hW.m hx6).at _ _) flX2_82 rfl dX2_send_45 ?_
    refine z_get C hw (hW.m hx6).log.lt ((hW.m hx6).log.at _ _) flX2_85 rfl dX2_send_48 ?_
    refine z_topi (y := nI T.1) (hL1.1) ?_
    refine lv_istore (lv' := [(4, .int (nI T.1)), (3, .int (nI (outv st li))), (2, .int (nI (gt x st n))), (0, .ref (G.h + b)), (1, .ref (G.h + (b + 2 + 8 * x)))]) C.x C.b dX2_send_51 hl (by decide) rfl (fun ls hl => ?_)
    refine z_pc (pc2 := 53) rfl ?_
    refine lv_aload_n C.x C.b dX2_send_53 rfl (lv_at hl 4 rfl) ?_
    refine lv_iconst (v := 2) C.x C.b dX2_send_54 (by decide) ?_
    refine lv_iload_n C.x C.b dX2_send_55 rfl (lv_at hl 2 rfl) ?_
    refine z_topi (y := pI (gt x st n + 1)) ((pI_s _).symm) ?_
    refine lv_iload_n C.x C.b dX2_send_56 rfl (lv_at hl 1 rfl) ?_
    refine z_V0 (As := [.int 2, .int (pI (gt x st n + 1)), .int (nI (outv st li))]) (rest := []) C hw hl (m_X0_append hO _ (hW.m hx6) hL1.1 hT (h := CH T.2 T.1) (chv_log hL1 (Nat.le_refl _)) (CH_lt _ _) (a := 2) (q := gt x st n + 1) (v := outv st li) (by omega) (by have := gt_lt (x := x) (m := st) hn; omega) (Nat.mod_lt _ (by omega))) ivX2_50 (hW.m hx6).lt ((hW.m hx6).at _ _) rfl rfl ⟨(Nat.le_of_ble_eq_true rfl), (Nat.le_of_ble_eq_true rfl)⟩ (Nat.le_of_ble_eq_true rfl) ⟨Nat.zero_le _, Nat.zero_le _⟩ dX2_send_57 (fun H locs hw => ?_)
    obtain ⟨z_2, ez_2⟩ : ∃ q_9, q_9 = lapp z_1 (b + 2 + 8 * x + 2) T.1 2 (gt x st n + 1) (outv st li) (CH T.2 T.1) := ⟨_, rfl⟩
    have hw : zS G N Λ z_2 sS H locs := by rw [ez_2]; exact hw
    refine lv_aload_n C.x C.b dX2_send_60 rfl (lv_at hl 3 rfl) ?_
    refine z_get C hw hW.lt (hW.at _ _) flX2_25 rfl dX2_send_61 ?_
    have hf2 := lapp_fr z_1 (b + 2 + 8 * x + 2) T.1 2 (gt x st n + 1) (outv st li) (CH T.2 T.1)
    have hq2 : z_2.1 (b + 50) 3 = nI qk := by rw [ez_2, hf2.1 _ (by omega), hf1 _ (by omega)]; exact hq
    have hL2 : rLog z_2 (b + 2 + 8 * x + 2) (tpush T (row3 2 (gt x st n + 1) (outv st li))) := by rw [ez_2]; exact lapp_log hL1 _ _ _
    refine z_Vv (As := []) (rest := []) C hw hl (m_X1_addRow hO _ hW.queue hq2 (by omega) hqk) ivX2_88 hW.queue.lt (hW.queue.at _ _) rfl rfl ⟨(Nat.le_of_ble_eq_true rfl), (Nat.le_of_ble_eq_true rfl)⟩ (Nat.le_of_ble_eq_true rfl) ⟨Nat.zero_le _, Nat.zero_le _⟩ dX2_send_64 (fun H locs hw => ?_)
    obtain ⟨z_3, ez_3⟩ : ∃ q_9, q_9 = zi z_2 (b + 50) 3 (nI (qk + 1)) := ⟨_, rfl⟩
    have hw : zS G N Λ z_3 sS H locs := by rw [ez_3]; exact hw
    refine lv_istore (lv' := [(5, .int (nI qk)), (4, .int (nI T.1)), (3, .int (nI (outv st li))), (2, .int (nI (gt x st n))), (0, .ref (G.h + b)), (1, .ref (G.h + (b + 2 + 8 * x)))]) C.x C.b dX2_send_67 hl (by decide) rfl (fun ls hl => ?_)
    refine lv_aload_n C.x C.b dX2_send_69 rfl (lv_at hl 4 rfl) ?_
    refine z_get C hw hW.lt (hW.at _ _) flX2_25 rfl dX2_send_70 ?_
    refine lv_iload C.x C.b dX2_send_73 (lv_at hl 0 rfl) ?_
    refine lv_iconst (v := 0) C.x C.b dX2_send_75 (by decide) ?_
    refine lv_aload_n C.x C.b dX2_send_76 rfl (lv_at hl 5 rfl) ?_
    refine z_get C hw (hW.m hx6).lt ((hW.m hx6).at _ _) flX2_68 rfl dX2_send_77 ?_
    have hk_3 : z_3.1 (b + 50) 3 = nI (qk + 1) := by rw [ez_3, zi_at, if_pos ⟨rfl, rfl⟩]
    refine z_V0 (As := [.int (nI qk), .int 0, .int (nI x)]) (rest := []) C hw hl (m_X1_set hO _ hW.queue hk_3 (by omega) (r := qk) (c := 0) (by omega) (by omega)) ivX2_92 hW.queue.lt (hW.queue.at _ _) rfl rfl ⟨(Nat.le_of_ble_eq_true rfl), (Nat.le_of_ble_eq_true rfl)⟩ (Nat.le_of_ble_eq_true rfl) ⟨Nat.zero_le _, Nat.zero_le _⟩ dX2_send_80 (fun H locs hw => ?_)
    obtain ⟨z_4, ez_4⟩ : ∃ q_9, q_9 = zi z_3 (b + 50 + 1) (qk * 5 + 0) (nI x) := ⟨_, rfl⟩
    have hw : zS G N Λ z_4 sS H locs := by rw [ez_4]; exact hw
    refine lv_aload_n C.x C.b dX2_send_83 rfl (lv_at hl 4 rfl) ?_
    refine z_get C hw hW.lt (hW.at _ _) flX2_25 rfl dX2_send_84 ?_
    refine lv_iload C.x C.b dX2_send_87 (lv_at hl 0 rfl) ?_
    refine lv_iconst (v := 1) C.x C.b dX2_send_89 (by decide) ?_
    refine z_pc (pc2 := 90) rfl ?_
    refine lv_iload C.x C.b dX2_send_90 (lv_at hl 1 rfl) ?_
    have hk_4 : z_4.1 (b + 50) 3 = nI (qk + 1) := by rw [ez_4, zi_at, if_neg (by omega), hk_3]
    refine z_V0 (As := [.int (nI qk), .int 1, .int (nI T.1)]) (rest := []) C hw hl (m_X1_set hO _ hW.queue hk_4 (by omega) (r := qk) (c := 1) (by omega) (by omega)) ivX2_92 hW.queue.lt (hW.queue.at _ _) rfl rfl ⟨(Nat.le_of_ble_eq_true rfl), (Nat.le_of_ble_eq_true rfl)⟩ (Nat.le_of_ble_eq_true rfl) ⟨Nat.zero_le _, Nat.zero_le _⟩ dX2_send_92 (fun H locs hw => ?_)
    obtain ⟨z_5, ez_5⟩ : ∃ q_9, q_9 = zi z_4 (b + 50 + 1) (qk * 5 + 1) (nI T.1) := ⟨_, rfl⟩
    have hw : zS G N Λ z_5 sS H locs := by rw [ez_5]; exact hw
    refine lv_aload_n C.x C.b dX2_send_95 rfl (lv_at hl 4 rfl) ?_
    refine z_get C hw hW.lt (hW.at _ _) flX2_25 rfl dX2_send_96 ?_
    refine lv_iload C.x C.b dX2_send_99 (lv_at hl 0 rfl) ?_
    refine lv_iconst (v := 2) C.x C.b dX2_send_101 (by decide) ?_
    refine lv_aload_n C.x C.b dX2_send_102 rfl (lv_at hl 5 rfl) ?_
    refine lv_iload C.x C.b dX2_send_103 (lv_at hl 1 rfl) ?_
    refine lv_iconst (v := 1) C.x C.b dX2_send_105 (by decide) ?_
    refine lv_iadd C.x C.b dX2_send_106 ?_
    refine z_topi (y := nI (T.1 + 1)) (nI_1 _) ?_
    have hf5 : ∀ i, i ≠ b + 50 → i ≠ b + 50 + 1 → z_5.1 i = z_2.1 i := fun i h8 h9 => by rw [ez_5, (zi_fr _ _ _ _).1 i (by omega), ez_4, (zi_fr _ _ _ _).1 i (by omega), ez_3, (zi_fr _ _ _ _).1 i (by omega)]
    have hL5 : rLog z_5 (b + 2 + 8 * x + 2) (tpush T (row3 2 (gt x st n + 1) (outv st li))) := hL2.cg (hf5 _ (by omega) (by omega)) (hf5 _ (by omega) (by omega))
    refine z_Vv (As := [.int (nI (T.1 + 1))]) (rest := [.int 2, .int (nI qk), .ref (G.h + (b + 50))]) C hw hl (m_X0_chainAt hO _ (hW.m hx6) hL5.1 (show T.1 + 1 ≤ 40 by omega) (i := T.1 + 1) (show T.1 + 1 ≤ T.1 + 1 by omega)) ivX2_95 (hW.m hx6).lt ((hW.m hx6).at _ _) rfl rfl ⟨(Nat.le_of_ble_eq_true rfl), (Nat.le_of_ble_eq_true rfl)⟩ (Nat.le_of_ble_eq_true rfl) ⟨Nat.zero_le _, Nat.zero_le _⟩ dX2_send_107 (fun H locs hw => ?_)
    refine z_topi (y := nI (CH (tpush T (row3 2 (gt x st n + 1) (outv st li))).2 (T.1 + 1))) (chv_log hL5 (Nat.le_refl _)) ?_
    have hk_5 : z_5.1 (b + 50) 3 = nI (qk + 1) := by rw [ez_5, zi_at, if_neg (by omega), hk_4]
    refine z_V0 (As := [.int (nI qk), .int 2, .int (nI (CH (tpush T (row3 2 (gt x st n + 1) (outv st li))).2 (T.1 + 1)))]) (rest := []) C hw hl (m_X1_set hO _ hW.queue hk_5 (by omega) (r := qk) (c := 2) (by omega) (by omega)) ivX2_92 hW.queue.lt (hW.queue.at _ _) rfl rfl ⟨(Nat.le_of_ble_eq_true rfl), (Nat.le_of_ble_eq_true rfl)⟩ (Nat.le_of_ble_eq_true rfl) ⟨Nat.zero_le _, Nat.zero_le _⟩ dX2_send_110 (fun H locs hw => ?_)
    obtain ⟨z_6, ez_6⟩ : ∃ q_9, q_9 = zi z_5 (b + 50 + 1) (qk * 5 + 2) (nI (CH (tpush T (row3 2 (gt x st n + 1) (outv st li))).2 (T.1 + 1))) := ⟨_, rfl⟩
    have hw : zS G N Λ z_6 sS H locs := by rw [ez_6]; exact hw
    refine lv_aload_n C.x C.b dX2_send_113 rfl (lv_at hl 4 rfl) ?_
    refine z_get C hw hW.lt (hW.at _ _) flX2_25 rfl dX2_send_114 ?_
    refine lv_iload C.x C.b dX2_send_117 (lv_at hl 0 rfl) ?_
    refine lv_iconst (v := 3) C.x C.b dX2_send_119 (by decide) ?_
    refine lv_iload_n C.x C.b dX2_send_120 rfl (lv_at hl 3 rfl) ?_
    have hk_6 : z_6.1 (b + 50) 3 = nI (qk + 1) := by rw [ez_6, zi_at, if_neg (by omega), hk_5]
    refine z_V0 (As := [.int (nI qk), .int 3, .int (nI (gt x st n))]) (rest := []) C hw hl (m_X1_set hO _ hW.queue hk_6 (by omega) (r := qk) (c := 3) (by omega) (by omega)) ivX2_92 hW.queue.lt (hW.queue.at _ _) rfl rfl ⟨(Nat.le_of_ble_eq_true rfl), (Nat.le_of_ble_eq_true rfl)⟩ (Nat.le_of_ble_eq_true rfl) ⟨Nat.zero_le _, Nat.zero_le _⟩ dX2_send_121 (fun H locs hw => ?_)
    obtain ⟨z_7, ez_7⟩ : ∃ q_9, q_9 = zi z_6 (b + 50 + 1) (qk * 5 + 3) (nI (gt x st n)) := ⟨_, rfl⟩
    have hw : zS G N Λ z_7 sS H locs := by rw [ez_7]; exact hw
    refine lv_aload_n C.x C.b dX2_send_124 rfl (lv_at hl 4 rfl) ?_
    refine z_get C hw hW.lt (hW.at _ _) flX2_25 rfl dX2_send_125 ?_
    refine z_pc (pc2 := 128) rfl ?_
    refine lv_iload C.x C.b dX2_send_128 (lv_at hl 0 rfl) ?_
    refine lv_iconst (v := 4) C.x C.b dX2_send_130 (by decide) ?_
    refine lv_iload_n C.x C.b dX2_send_131 rfl (lv_at hl 2 rfl) ?_
    have hk_7 : z_7.1 (b + 50) 3 = nI (qk + 1) := by rw [ez_7, zi_at, if_neg (by omega), hk_6]
    refine z_V0 (As := [.int (nI qk), .int 4, .int (nI (outv st li))]) (rest := []) C hw hl (m_X1_set hO _ hW.queue hk_7 (by omega) (r := qk) (c := 4) (by omega) (by omega)) ivX2_92 hW.queue.lt (hW.queue.at _ _) rfl rfl ⟨(Nat.le_of_ble_eq_true rfl), (Nat.le_of_ble_eq_true rfl)⟩ (Nat.le_of_ble_eq_true rfl) ⟨Nat.zero_le _, Nat.zero_le _⟩ dX2_send_132 (fun H locs hw => ?_)
    obtain ⟨z_8, ez_8⟩ : ∃ q_9, q_9 = zi z_7 (b + 50 + 1) (qk * 5 + 4) (nI (outv st li)) := ⟨_, rfl⟩
    have hw : zS G N Λ z_8 sS H locs := by rw [ez_8]; exact hw
    exact z_vret C hw dX2_send_135 (rfl) (by rw [ez_8, ez_7, ez_6, ez_5, ez_4, ez_3, ez_2, ez_1]; rfl)
  · refine lv_iload_n C.x C.b dX2_send_31 rfl (lv_at hl 0 rfl) ?_
    refine lv_iconst (v := 1) C.x C.b dX2_send_32 (by decide) ?_
    refine lv_iadd C.x C.b dX2_send_33 ?_
    refine z_topi (y := nI (st % 1000 + 1)) (nI_1 _) ?_
    refine lv_sipush (v := 1000) C.x C.b dX2_send_34 (by decide) ?_
    refine z_pc (pc2 := 37) rfl ?_
    refine lv_irem C.x C.b dX2_send_37 (by decide) ?_
    refine z_topi (y := nI (outv st li)) (by
        have hl1 : li = 1 := by have := zpos c_28; omega
        rw [outv, hl1]; exact zrem 1000 (by omega) (by omega) (by omega)) ?_
    refine lv_istore_n (lv' := [(3, .int (nI (outv st li))), (2, .int (nI (gt x st n))), (0, .ref (G.h + b)), (1, .ref (G.h + (b + 2 + 8 * x)))]) C.x C.b dX2_send_38 rfl hl (by decide) rfl (fun ls hl => ?_)
    refine lv_aload_n C.x C.b dX2_send_39 rfl (lv_at hl 3 rfl) ?_
    refine lv_iconst (v := 0) C.x C.b dX2_send_40 (by decide) ?_
    refine z_put C hw (hW.m hx6).lt ((hW.m hx6).at _ _) ptX2_78 ((hW.m hx6).at _ _) (rfl) (rfl) (Nat.le_of_ble_eq_true rfl) dX2_send_41 (fun H locs hw => ?_)
    obtain ⟨z_1, ez_1⟩ : ∃ q_9, q_9 = zi z (b + 2 + 8 * x) 3 0 := ⟨_, rfl⟩
    have hw : zS G N Λ z_1 sS H locs := by rw [ez_1]; exact hw
    have hf1 : ∀ i, i ≠ b + 2 + 8 * x → z_1.1 i = z.1 i := fun i hi => by rw [ez_1]; exact (zi_fr _ _ _ _).1 i (by omega)
    have hL1 : rLog z_1 (b + 2 + 8 * x + 2) T := hL.cg (hf1 _ (by omega)) (hf1 _ (by omega))
    refine lv_aload_n C.x C.b dX2_send_44 rfl (lv_at hl 3 rfl) ?_
    refine z_get C hw (hW.m hx6).lt ((hW.m hx6).at _ _) flX2_82 rfl dX2_send_45 ?_
    refine z_get C hw (hW.m hx6).log.lt ((hW.m hx6).log.at _ _) flX2_85 rfl dX2_send_48 ?_
    refine z_topi (y := nI T.1) (hL1.1) ?_
    refine lv_istore (lv' := [(4, .int (nI T.1)), (3, .int (nI (outv st li))), (2, .int (nI (gt x st n))), (0, .ref (G.h + b)), (1, .ref (G.h + (b + 2 + 8 * x)))]) C.x C.b dX2_send_51 hl (by decide) rfl (fun ls hl => ?_)
    refine lv_aload_n C.x C.b dX2_send_53 rfl (lv_at hl 4 rfl) ?_
    refine lv_iconst (v := 2) C.x C.b dX2_send_54 (by decide) ?_
    refine lv_iload_n C.x C.b dX2_send_55 rfl (lv_at hl 2 rfl) ?_
    refine z_topi (y := pI (gt x st n + 1)) ((pI_s _).symm) ?_
    refine lv_iload_n C.x C.b dX2_send_56 rfl (lv_at hl 1 rfl) ?_
    refine z_V0 (As := [.int 2, .int (pI (gt x st n + 1)), .int (nI (outv st li))]) (rest := []) C hw hl (m_X0_append hO _ (hW.m hx6) hL1.1 hT (h := CH T.2 T.1) (chv_log hL1 (Nat.le_refl _)) (CH_lt _ _) (a := 2) (q := gt x st n + 1) (v := outv st li) (by omega) (by have := gt_lt (x := x) (m := st) hn; omega) (Nat.mod_lt _ (by omega))) ivX2_50 (hW.m hx6).lt ((hW.m hx6).at _ _) rfl rfl ⟨(Nat.le_of_ble_eq_true rfl), (Nat.le_of_ble_eq_true rfl)⟩ (Nat.le_of_ble_eq_true rfl) ⟨Nat.zero_le _, Nat.zero_le _⟩ dX2_send_57 (fun H locs hw => ?_)
    obtain ⟨z_2, ez_2⟩ : ∃ q_9, q_9 = lapp z_1 (b + 2 + 8 * x + 2) T.1 2 (gt x st n + 1) (outv st li) (CH T.2 T.1) := ⟨_, rfl⟩
    have hw : zS G N Λ z_2 sS H locs := by rw [ez_2]; exact hw
    refine lv_aload_n C.x C.b dX2_send_60 rfl (lv_at hl 3 rfl) ?_
    refine z_get C hw hW.lt (hW.at _ _) flX2_25 rfl dX2_send_61 ?_
    have hf2 := lapp_fr z_1 (b + 2 + 8 * x + 2) T.1 2 (gt x st n + 1) (outv st li) (CH T.2 T.1)
    have hq2 : z_2.1 (b + 50) 3 = nI qk := by rw [ez_2, hf2.1 _ (by omega), hf1 _ (by omega)]; exact hq
    have hL2 : rLog z_2 (b + 2 + 8 * x + 2) (tpush T (row3 2 (gt x st n + 1) (outv st li))) := by rw [ez_2]; exact lapp_log hL1 _ _ _
    refine z_Vv (As := []) (rest := []) C hw hl (m_X1_addRow hO _ hW.queue hq2 (by omega) hqk) ivX2_88 hW.queue.lt (hW.queue.at _ _) rfl rfl ⟨(Nat.le_of_ble_eq_true rfl), (Nat.le_of_ble_eq_true rfl)⟩ (Nat.le_of_ble_eq_true rfl) ⟨Nat.zero_le _, Nat.zero_le _⟩ dX2_send_64 (fun H locs hw => ?_)
    obtain ⟨z_3, ez_3⟩ : ∃ q_9, q_9 = zi z_2 (b + 50) 3 (nI (qk + 1)) := ⟨_, rfl⟩
    have hw : zS G N Λ z_3 sS H locs := by rw [ez_3]; exact hw
    refine lv_istore (lv' := [(5, .int (nI qk)), (4, .int (nI T.1)), (3, .int (nI (outv st li))), (2, .int (nI (gt x st n))), (0, .ref (G.h + b)), (1, .ref (G.h + (b + 2 + 8 * x)))]) C.x C.b dX2_send_67 hl (by decide) rfl (fun ls hl => ?_)
    refine lv_aload_n C.x C.b dX2_send_69 rfl (lv_at hl 4 rfl) ?_
    refine z_get C hw hW.lt (hW.at _ _) flX2_25 rfl dX2_send_70 ?_
    refine z_pc (pc2 := 73) rfl ?_
    refine lv_iload C.x C.b dX2_send_73 (lv_at hl 0 rfl) ?_
    refine lv_iconst (v := 0) C.x C.b dX2_send_75 (by decide) ?_
    refine lv_aload_n C.x C.b dX2_send_76 rfl (lv_at hl 5 rfl) ?_
    refine z_get C hw (hW.m hx6).lt ((hW.m hx6).at _ _) flX2_68 rfl dX2_send_77 ?_
    have hk_3 : z_3.1 (b + 50) 3 = nI (qk + 1) := by rw [ez_3, zi_at, if_pos ⟨rfl, rfl⟩]
    refine z_V0 (As := [.int (nI qk), .int 0, .int (nI x)]) (rest := []) C hw hl (m_X1_set hO _ hW.queue hk_3 (by omega) (r := qk) (c := 0) (by omega) (by omega)) ivX2_92 hW.queue.lt (hW.queue.at _ _) rfl rfl ⟨(Nat.le_of_ble_eq_true rfl), (Nat.le_of_ble_eq_true rfl)⟩ (Nat.le_of_ble_eq_true rfl) ⟨Nat.zero_le _, Nat.zero_le _⟩ dX2_send_80 (fun H locs hw => ?_)
    obtain ⟨z_4, ez_4⟩ : ∃ q_9, q_9 = zi z_3 (b + 50 + 1) (qk * 5 + 0) (nI x) := ⟨_, rfl⟩
    have hw : zS G N Λ z_4 sS H locs := by rw [ez_4]; exact hw
    refine lv_aload_n C.x C.b dX2_send_83 rfl (lv_at hl 4 rfl) ?_
    refine z_get C hw hW.lt (hW.at _ _) flX2_25 rfl dX2_send_84 ?_
    refine lv_iload C.x C.b dX2_send_87 (lv_at hl 0 rfl) ?_
    refine lv_iconst (v := 1) C.x C.b dX2_send_89 (by decide) ?_
    refine lv_iload C.x C.b dX2_send_90 (lv_at hl 1 rfl) ?_
    have hk_4 : z_4.1 (b + 50) 3 = nI (qk + 1) := by rw [ez_4, zi_at, if_neg (by omega), hk_3]
    refine z_V0 (As := [.int (nI qk), .int 1, .int (nI T.1)]) (rest := []) C hw hl (m_X1_set hO _ hW.queue hk_4 (by omega) (r := qk) (c := 1) (by omega) (by omega)) ivX2_92 hW.queue.lt (hW.queue.at _ _) rfl rfl ⟨(Nat.le_of_ble_eq_true rfl), (Nat.le_of_ble_eq_true rfl)⟩ (Nat.le_of_ble_eq_true rfl) ⟨Nat.zero_le _, Nat.zero_le _⟩ dX2_send_92 (fun H locs hw => ?_)
    obtain ⟨z_5, ez_5⟩ : ∃ q_9, q_9 = zi z_4 (b + 50 + 1) (qk * 5 + 1) (nI T.1) := ⟨_, rfl⟩
    have hw : zS G N Λ z_5 sS H locs := by rw [ez_5]; exact hw
    refine lv_aload_n C.x C.b dX2_send_95 rfl (lv_at hl 4 rfl) ?_
    refine z_get C hw hW.lt (hW.at _ _) flX2_25 rfl dX2_send_96 ?_
    refine lv_iload C.x C.b dX2_send_99 (lv_at hl 0 rfl) ?_
    refine lv_iconst (v := 2) C.x C.b dX2_send_101 (by decide) ?_
    refine lv_aload_n C.x C.b dX2_send_102 rfl (lv_at hl 5 rfl) ?_
    refine lv_iload C.x C.b dX2_send_103 (lv_at hl 1 rfl) ?_
    refine lv_iconst (v := 1) C.x C.b dX2_send_105 (by decide) ?_
    refine lv_iadd C.x C.b dX2_send_106 ?_
    refine z_topi (y := nI (T.1 + 1)) (nI_1 _) ?_
    have hf5 : ∀ i, i ≠ b + 50 → i ≠ b + 50 + 1 → z_5.1 i = z_2.1 i := fun i h8 h9 => by rw [ez_5, (zi_fr _ _ _ _).1 i (by omega), ez_4, (zi_fr _ _ _ _).1 i (by omega), ez_3, (zi_fr _ _ _ _).1 i (by omega)]
    have hL5 : rLog z_5 (b + 2 + 8 * x + 2) (tpush T (row3 2 (gt x st n + 1) (outv st li))) := hL2.cg (hf5 _ (by omega) (by omega)) (hf5 _ (by omega) (by omega))
    refine z_Vv (As := [.int (nI (T.1 + 1))]) (rest := [.int 2, .int (nI qk), .ref (G.h + (b + 50))]) C hw hl (m_X0_chainAt hO _ (hW.m hx6) hL5.1 (show T.1 + 1 ≤ 40 by omega) (i := T.1 + 1) (show T.1 + 1 ≤ T.1 + 1 by omega)) ivX2_95 (hW.m hx6).lt ((hW.m hx6).at _ _) rfl rfl ⟨(Nat.le_of_ble_eq_true rfl), (Nat.le_of_ble_eq_true rfl)⟩ (Nat.le_of_ble_eq_true rfl) ⟨Nat.zero_le _, Nat.zero_le _⟩ dX2_send_107 (fun H locs hw => ?_)
    refine z_topi (y := nI (CH (tpush T (row3 2 (gt x st n + 1) (outv st li))).2 (T.1 + 1))) (chv_log hL5 (Nat.le_refl _)) ?_
    refine z_pc (pc2 := 110) rfl ?_
    have hk_5 : z_5.1 (b + 50) 3 = nI (qk + 1) := by rw [ez_5, zi_at, if_neg (by omega), hk_4]
    refine z_V0 (As := [.int (nI qk), .int 2, .int (nI (CH (tpush T (row3 2 (gt x st n + 1) (outv st li))).2 (T.1 + 1)))]) (rest := []) C hw hl (m_X1_set hO _ hW.queue hk_5 (by omega) (r := qk) (c := 2) (by omega) (by omega)) ivX2_92 hW.queue.lt (hW.queue.at _ _) rfl rfl ⟨(Nat.le_of_ble_eq_true rfl), (Nat.le_of_ble_eq_true rfl)⟩ (Nat.le_of_ble_eq_true rfl) ⟨Nat.zero_le _, Nat.zero_le _⟩ dX2_send_110 (fun H locs hw => ?_)
    obtain ⟨z_6, ez_6⟩ : ∃ q_9, q_9 = zi z_5 (b + 50 + 1) (qk * 5 + 2) (nI (CH (tpush T (row3 2 (gt x st n + 1) (outv st li))).2 (T.1 + 1))) := ⟨_, rfl⟩
    have hw : zS G N Λ z_6 sS H locs := by rw [ez_6]; exact hw
    refine lv_aload_n C.x C.b dX2_send_113 rfl (lv_at hl 4 rfl) ?_
    refine z_get C hw hW.lt (hW.at _ _) flX2_25 rfl dX2_send_114 ?_
    refine lv_iload C.x C.b dX2_send_117 (lv_at hl 0 rfl) ?_
    refine lv_iconst (v := 3) C.x C.b dX2_send_119 (by decide) ?_
    refine lv_iload_n C.x C.b dX2_send_120 rfl (lv_at hl 3 rfl) ?_
    have hk_6 : z_6.1 (b + 50) 3 = nI (qk + 1) := by rw [ez_6, zi_at, if_neg (by omega), hk_5]
    refine z_V0 (As := [.int (nI qk), .int 3, .int (nI (gt x st n))]) (rest := []) C hw hl (m_X1_set hO _ hW.queue hk_6 (by omega) (r := qk) (c := 3) (by omega) (by omega)) ivX2_92 hW.queue.lt (hW.queue.at _ _) rfl rfl ⟨(Nat.le_of_ble_eq_true rfl), (Nat.le_of_ble_eq_true rfl)⟩ (Nat.le_of_ble_eq_true rfl) ⟨Nat.zero_le _, Nat.zero_le _⟩ dX2_send_121 (fun H locs hw => ?_)
    obtain ⟨z_7, ez_7⟩ : ∃ q_9, q_9 = zi z_6 (b + 50 + 1) (qk * 5 + 3) (nI (gt x st n)) := ⟨_, rfl⟩
    have hw : zS G N Λ z_7 sS H locs := by rw [ez_7]; exact hw
    refine lv_aload_n C.x C.b dX2_send_124 rfl (lv_at hl 4 rfl) ?_
    refine z_get C hw hW.lt (hW.at _ _) flX2_25 rfl dX2_send_125 ?_
    refine lv_iload C.x C.b dX2_send_128 (lv_at hl 0 rfl) ?_
    refine lv_iconst (v := 4) C.x C.b dX2_send_130 (by decide) ?_
    refine lv_iload_n C.x C.b dX2_send_131 rfl (lv_at hl 2 rfl) ?_
    have hk_7 : z_7.1 (b + 50) 3 = nI (qk + 1) := by rw [ez_7, zi_at, if_neg (by omega), hk_6]
    refine z_V0 (As := [.int (nI qk), .int 4, .int (nI (outv st li))]) (rest := []) C hw hl (m_X1_set hO _ hW.queue hk_7 (by omega) (r := qk) (c := 4) (by omega) (by omega)) ivX2_92 hW.queue.lt (hW.queue.at _ _) rfl rfl ⟨(Nat.le_of_ble_eq_true rfl), (Nat.le_of_ble_eq_true rfl)⟩ (Nat.le_of_ble_eq_true rfl) ⟨Nat.zero_le _, Nat.zero_le _⟩ dX2_send_132 (fun H locs hw => ?_)
    obtain ⟨z_8, ez_8⟩ : ∃ q_9, q_9 = zi z_7 (b + 50 + 1) (qk * 5 + 4) (nI (outv st li)) := ⟨_, rfl⟩
    have hw : zS G N Λ z_8 sS H locs := by rw [ez_8]; exact hw
    exact z_vret C hw dX2_send_135 (rfl) (by rw [ez_8, ez_7, ez_6, ez_5, ez_4, ez_3, ez_2, ez_1]; rfl)

set_option maxRecDepth 100000 in
set_option maxHeartbeats 4000000 in
theorem m_X2_take {G : zG} {N : Nat} {Λ : zLay} {l : Launch} (hO : zOK G l) (z : zM) {b : Nat} (hW : zWo G N Λ b) {x n st li qk : Nat} {T : aT} (hn : 2 ≤ n) (hn6 : n ≤ 6) (hx : x < n) (hx6 : x < 6) (h1 : z.1 (b + 2 + 8 * x) 1 = nI st) (hst : st < 9973) (h3 : z.1 (b + 2 + 8 * x) 3 = nI li) (hli : li < 2) (h0 : z.1 b 0 = nI n) (hL : rLog z (b + 2 + 8 * x + 2) T) (hT : T.1 ≤ 38) (hq : z.1 (b + 50) 3 = nI qk) (hqk : qk < 40) {a q v : Nat} (ha : a ≤ 2) (hq6 : q ≤ 6) (hv : v < 1000) : zMet G N Λ l yX2_take cX2_take 5 none 4 [.ref (G.h + b), .ref (G.h + (b + 2 + 8 * x)), .int (nI a), .int (pI q), .int (nI v)] z none (tkz z b x n st li qk T a q v) := by
  refine zMet_of hO (by decide) (Nat.le_of_ble_eq_true rfl) ?_
  intro pP eE sS mM bB tT cC ls C hw hl
  have hl : lv_has ls 5 [(0, .ref (G.h + b)), (1, .ref (G.h + (b + 2 + 8 * x))), (2, .int (nI a)), (3, .int (pI q)), (4, .int (nI v))] := hl
  refine lv_aload_n C.x C.b dX2_take_0 rfl (lv_at hl 1 rfl) ?_
  refine lv_iload_n C.x C.b dX2_take_1 rfl (lv_at hl 2 rfl) ?_
  refine lv_iload_n C.x C.b dX2_take_2 rfl (lv_at hl 3 rfl) ?_
  refine lv_iload C.x C.b dX2_take_3 (lv_at hl 4 rfl) ?_
  refine z_V0 (As := [.int (nI a), .int (pI q), .int (nI v)]) (rest := []) C hw hl (m_X0_append hO _ (hW.m hx6) hL.1 (by omega) (h := CH T.2 T.1) (chv_log hL (Nat.le_refl _)) (CH_lt _ _) ha hq6 hv) ivX2_50 (hW.m hx6).lt ((hW.m hx6).at _ _) rfl rfl ⟨(Nat.le_of_ble_eq_true rfl), (Nat.le_of_ble_eq_true rfl)⟩ (Nat.le_of_ble_eq_true rfl) ⟨Nat.zero_le _, Nat.zero_le _⟩ dX2_take_5 (fun H locs hw => ?_)
  obtain ⟨z_1, ez_1⟩ : ∃ q_9, q_9 = lapp z (b + 2 + 8 * x + 2) T.1 a q v (CH T.2 T.1) := ⟨_, rfl⟩
  have hw : zS G N Λ z_1 sS H locs := by rw [ez_1]; exact hw
  have hf1 : ∀ i, i ≠ b + 2 + 8 * x + 2 → i ≠ b + 2 + 8 * x + 2 + 1 → z_1.1 i = z.1 i := fun i h8 h9 => by rw [ez_1]; exact (lapp_fr _ _ _ _ _ _ _).1 i (by omega)
  refine lv_aload_n C.x C.b dX2_take_8 rfl (lv_at hl 1 rfl) ?_
  refine lv_aload_n C.x C.b dX2_take_9 rfl (lv_at hl 1 rfl) ?_
  refine z_get C hw (hW.m hx6).lt ((hW.m hx6).at _ _) flX2_54 rfl dX2_take_10 ?_
  refine z_topi (y := nI st) (by rw [hf1 _ (by omega) (by omega)]; exact h1) ?_
  refine lv_iload_n C.x C.b dX2_take_13 rfl (lv_at hl 3 rfl) ?_
  refine lv_iload C.x C.b dX2_take_14 (lv_at hl 4 rfl) ?_
  refine z_Nv (As := [.int (nI st), .int (pI q), .int (nI v)]) (rest := [.ref (G.h + (b + 2 + 8 * x))]) C hw hl (m_X3_nextState hO _ hst hv hq6) ivX2_57 rfl rfl ⟨(Nat.le_of_ble_eq_true rfl), (Nat.le_of_ble_eq_true rfl)⟩ (Nat.le_of_ble_eq_true rfl) ⟨Nat.zero_le _, Nat.zero_le _⟩ dX2_take_16 (fun H locs hw => ?_)
  refine z_put C hw (hW.m hx6).lt ((hW.m hx6).at _ _) ptX2_54 ((hW.m hx6).at _ _) (rfl) (rfl) (Nat.le_of_ble_eq_true rfl) dX2_take_19 (fun H locs hw => ?_)
  obtain ⟨z_2, ez_2⟩ : ∃ q_9, q_9 = zi z_1 (b + 2 + 8 * x) 1 (nI (nx st v q)) := ⟨_, rfl⟩
  have hw : zS G N Λ z_2 sS H locs := by rw [ez_2]; exact hw
  refine lv_aload_n C.x C.b dX2_take_22 rfl (lv_at hl 1 rfl) ?_
  refine z_get C hw (hW.m hx6).lt ((hW.m hx6).at _ _) flX2_54 rfl dX2_take_23 ?_
  refine z_topi (y := nI (nx st v q)) (by rw [ez_2, zi_at, if_pos ⟨rfl, rfl⟩]) ?_
  refine z_Nv (As := [.int (nI (nx st v q))]) (rest := []) C hw hl (m_X3_hasOutput hO _ (nx_lt _ _ _)) ivX2_61 rfl rfl ⟨(Nat.le_of_ble_eq_true rfl), (Nat.le_of_ble_eq_true rfl)⟩ (Nat.le_of_ble_eq_true rfl) ⟨Nat.zero_le _, Nat.zero_le _⟩ dX2_take_26 (fun H locs hw => ?_)
  refine lv_if_eq (tgt := 37) C.x C.b dX2_take_29 (by decide) (fun c_29 => ?_) (fun c_29 => ?_)
  · exact z_vret C hw dX2_take_37 (rfl) (by rw [tkz, if_neg (hasO_0 c_29), ez_2, ez_1]; rfl)
  · refine lv_aload_n C.x C.b dX2_take_32 rfl (lv_at hl 0 rfl) ?_
    refine lv_aload_n C.x C.b dX2_take_33 rfl (lv_at hl 1 rfl) ?_
    have hf2 : ∀ i, i ≠ b + 2 + 8 * x → z_2.1 i = z_1.1 i := fun i h8 => by rw [ez_2]; exact (zi_fr _ _ _ _).1 i (by omega)
    have hL2 : rLog z_2 (b + 2 + 8 * x + 2) (tpush T (row3 a q v)) := by
      have h9 := lapp_log hL a q v
      rw [← ez_1] at h9
      exact h9.cg (hf2 _ (by omega)) (hf2 _ (by omega))
    refine z_V0 (As := [.ref (G.h + (b + 2 + 8 * x))]) (rest := []) C hw hl (m_X2_send hO _ hW hn hn6 hx hx6 (by rw [ez_2, zi_at, if_pos ⟨rfl, rfl⟩]) (nx_lt _ _ _) (li := li) (by rw [ez_2, zi_at, if_neg (by omega), hf1 _ (by omega) (by omega)]; exact h3) hli (by rw [hf2 _ (by omega), hf1 _ (by omega) (by omega)]; exact h0) hL2 (show T.1 + 1 < 40 by omega) (by rw [hf2 _ (by omega), hf1 _ (by omega) (by omega)]; exact hq) hqk) ivX2_65 hW.lt (hW.at _ _) rfl rfl ⟨(Nat.le_of_ble_eq_true rfl), (Nat.le_of_ble_eq_true rfl)⟩ (Nat.le_of_ble_eq_true rfl) ⟨Nat.zero_le _, Nat.zero_le _⟩ dX2_take_34 (fun H locs hw => ?_)
    obtain ⟨z_3, ez_3⟩ : ∃ q_9, q_9 = sndz z_2 b x n (nx st v q) li qk (tpush T (row3 a q v)) := ⟨_, rfl⟩
    have hw : zS G N Λ z_3 sS H locs := by rw [ez_3]; exact hw
    refine z_pc (pc2 := 37) rfl ?_
    exact z_vret C hw dX2_take_37 (rfl) (by rw [tkz, if_pos (hasO_n c_29), ez_3, ez_2, ez_1]; rfl)
