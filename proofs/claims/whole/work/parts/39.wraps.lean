theorem cwL_reset : zW (.codeWith yL_reset cL_reset 4 (some .int) [(0, 9, 12, 13)]) := ⟨by decide +kernel, rfl⟩
theorem w_reset {G : zG} {N : Nat} {Λ : zLay} {l : Launch} (hO : zOK G l) (z : zM) (hA : zPo G N Λ) (hJl : 275 < N) (hJ : zJA G Λ 275 1) {a0 : Int32} {z' : zM} {v : Int32} (hm : zMet G N Λ l yX3_reset cX3_reset 3 (some .int) 5 [.ref (G.h + 0), .int a0] z (some (.int v)) z') : zMW G N Λ l yL_reset cL_reset 4 (some .int) [(0, 9, 12, 13)] 9 [.ref (G.h + 0), .int a0, .ref (G.h + 275)] z (some (.int 0)) (zl z' 275 0 v.toInt64) := by
  refine zMW_of hO (by decide) (Nat.le_of_ble_eq_true rfl) cwL_reset ?_
  intro pP eE sS mM bB tT cC ls C htab hw hl
  have hl : lv_has ls 4 [(0, .ref (G.h + 0)), (1, .int a0), (2, .ref (G.h + 275))] := hl
  refine lv_aload_n C.x C.b dL_reset_0 rfl (lv_at hl 2 rfl) ?_
  refine lv_iconst (v := 0) C.x C.b dL_reset_1 (by decide) ?_
  refine lv_aload_n C.x C.b dL_reset_2 rfl (lv_at hl 0 rfl) ?_
  refine lv_iload_n C.x C.b dL_reset_3 rfl (lv_at hl 1 rfl) ?_
  refine z_Vv (As := [.int a0]) (rest := [.int 0, .ref (G.h + 275)]) C hw hl (hm) ivL_7 hA.lt (hA.at _ _) rfl rfl ⟨(Nat.le_of_ble_eq_true rfl), (Nat.le_of_ble_eq_true rfl)⟩ (Nat.le_of_ble_eq_true rfl) ⟨Nat.zero_le _, Nat.zero_le _⟩ dL_reset_4 (fun H locs hw => ?_)
  refine lv_i2l C.x C.b dL_reset_7 rfl ?_
  refine z_last C hw hJl hJ ((zvin (x := 0) (by omega) (by omega))) dL_reset_8 (fun H locs hw => ?_)
  obtain ⟨z_1, ez_1⟩ : ∃ q_9, q_9 = zl z' 275 (0 : Int32).toNatClampNeg v.toInt64 := ⟨_, rfl⟩
  have hw : zS G N Λ z_1 sS H locs := by rw [ez_1]; exact hw
  refine lv_goto (tgt := 15) C.x C.b dL_reset_9 (by decide) ?_
  refine z_wid (k := 1) (n := 6) (Nat.zero_le _) (Nat.zero_le _) ?_
  refine lv_iconst (v := 0) C.x C.b dL_reset_15 (by decide) ?_
  exact z_iret C hw dL_reset_16 (rfl) (by rw [ez_1]; rfl)

theorem wx_reset1 {G : zG} {N : Nat} {Λ : zLay} {l : Launch} (hO : zOK G l) (z : zM) (hA : zPo G N Λ) (hJl : 275 < N) (hJ : zJA G Λ 275 1) {a0 : Int32} (hm : zMX G N Λ l yX3_reset cX3_reset 3 (some .int) 6 [.ref (G.h + 0), .int a0] z "java/lang/IllegalArgumentException") : zMW G N Λ l yL_reset cL_reset 4 (some .int) [(0, 9, 12, 13)] 9 [.ref (G.h + 0), .int a0, .ref (G.h + 275)] z (some (.int 1)) z := by
  refine zMW_of hO (by decide) (Nat.le_of_ble_eq_true rfl) cwL_reset ?_
  intro pP eE sS mM bB tT cC ls C htab hw hl
  have hl : lv_has ls 4 [(0, .ref (G.h + 0)), (1, .int a0), (2, .ref (G.h + 275))] := hl
  refine lv_aload_n C.x C.b dL_reset_0 rfl (lv_at hl 2 rfl) ?_
  refine lv_iconst (v := 0) C.x C.b dL_reset_1 (by decide) ?_
  refine lv_aload_n C.x C.b dL_reset_2 rfl (lv_at hl 0 rfl) ?_
  refine lv_iload_n C.x C.b dL_reset_3 rfl (lv_at hl 1 rfl) ?_
  refine z_VC (As := [.int a0]) (rest := [.int 0, .ref (G.h + 275)]) [] ⟨0, 9, 12, 13⟩ [] C htab rfl (fun r hr => by cases hr) rfl (by decide) zl_13 zc_IAE hw hl hm ivL_7 hA.lt (hA.at _ _) rfl rfl ⟨(Nat.le_of_ble_eq_true rfl), (Nat.le_of_ble_eq_true rfl)⟩ (Nat.le_of_ble_eq_true rfl) ⟨(Nat.le_of_ble_eq_true rfl), (Nat.le_of_ble_eq_true rfl)⟩ dL_reset_4 (fun H locs q hw => ?_)
  refine lv_astore_n (lv' := [(3, .ref q), (0, .ref (G.h + 0)), (1, .int a0), (2, .ref (G.h + 275))]) C.x C.b dL_reset_12 rfl hl (by decide) rfl (fun ls hl => ?_)
  refine lv_iconst (v := 1) C.x C.b dL_reset_13 (by decide) ?_
  exact z_iret C hw dL_reset_14 (rfl) (rfl)

theorem cwL_input : zW (.codeWith yL_input cL_input 5 (some .int) [(0, 10, 13, 19), (0, 10, 17, 13), (0, 10, 21, 21)]) := ⟨by decide +kernel, rfl⟩
theorem w_input {G : zG} {N : Nat} {Λ : zLay} {l : Launch} (hO : zOK G l) (z : zM) (hA : zPo G N Λ) (hJl : 275 < N) (hJ : zJA G Λ 275 1) {a0 a1 : Int32} {z' : zM} {v : Int32} (hm : zMet G N Λ l yX3_input cX3_input 4 (some .int) 5 [.ref (G.h + 0), .int a0, .int a1] z (some (.int v)) z') : zMW G N Λ l yL_input cL_input 5 (some .int) [(0, 10, 13, 19), (0, 10, 17, 13), (0, 10, 21, 21)] 9 [.ref (G.h + 0), .int a0, .int a1, .ref (G.h + 275)] z (some (.int 0)) (zl z' 275 0 v.toInt64) := by
  refine zMW_of hO (by decide) (Nat.le_of_ble_eq_true rfl) cwL_input ?_
  intro pP eE sS mM bB tT cC ls C htab hw hl
  have hl : lv_has ls 5 [(0, .ref (G.h + 0)), (1, .int a0), (2, .int a1), (3, .ref (G.h + 275))] := hl
  refine lv_aload_n C.x C.b dL_input_0 rfl (lv_at hl 3 rfl) ?_
  refine lv_iconst (v := 0) C.x C.b dL_input_1 (by decide) ?_
  refine lv_aload_n C.x C.b dL_input_2 rfl (lv_at hl 0 rfl) ?_
  refine lv_iload_n C.x C.b dL_input_3 rfl (lv_at hl 1 rfl) ?_
  refine lv_iload_n C.x C.b dL_input_4 rfl (lv_at hl 2 rfl) ?_
  refine z_Vv (As := [.int a0, .int a1]) (rest := [.int 0, .ref (G.h + 275)]) C hw hl (hm) ivL_15 hA.lt (hA.at _ _) rfl rfl ⟨(Nat.le_of_ble_eq_true rfl), (Nat.le_of_ble_eq_true rfl)⟩ (Nat.le_of_ble_eq_true rfl) ⟨Nat.zero_le _, Nat.zero_le _⟩ dL_input_5 (fun H locs hw => ?_)
  refine lv_i2l C.x C.b dL_input_8 rfl ?_
  refine z_last C hw hJl hJ ((zvin (x := 0) (by omega) (by omega))) dL_input_9 (fun H locs hw => ?_)
  obtain ⟨z_1, ez_1⟩ : ∃ q_9, q_9 = zl z' 275 (0 : Int32).toNatClampNeg v.toInt64 := ⟨_, rfl⟩
  have hw : zS G N Λ z_1 sS H locs := by rw [ez_1]; exact hw
  refine lv_goto (tgt := 25) C.x C.b dL_input_10 (by decide) ?_
  refine z_wid (k := 1) (n := 6) (Nat.zero_le _) (Nat.zero_le _) ?_
  refine lv_iconst (v := 0) C.x C.b dL_input_25 (by decide) ?_
  exact z_iret C hw dL_input_26 (rfl) (by rw [ez_1]; rfl)

theorem wx_input1 {G : zG} {N : Nat} {Λ : zLay} {l : Launch} (hO : zOK G l) (z : zM) (hA : zPo G N Λ) (hJl : 275 < N) (hJ : zJA G Λ 275 1) {a0 a1 : Int32} (hm : zMX G N Λ l yX3_input cX3_input 4 (some .int) 7 [.ref (G.h + 0), .int a0, .int a1] z "java/lang/IndexOutOfBoundsException") : zMW G N Λ l yL_input cL_input 5 (some .int) [(0, 10, 13, 19), (0, 10, 17, 13), (0, 10, 21, 21)] 9 [.ref (G.h + 0), .int a0, .int a1, .ref (G.h + 275)] z (some (.int 1)) z := by
  refine zMW_of hO (by decide) (Nat.le_of_ble_eq_true rfl) cwL_input ?_
  intro pP eE sS mM bB tT cC ls C htab hw hl
  have hl : lv_has ls 5 [(0, .ref (G.h + 0)), (1, .int a0), (2, .int a1), (3, .ref (G.h + 275))] := hl
  refine lv_aload_n C.x C.b dL_input_0 rfl (lv_at hl 3 rfl) ?_
  refine lv_iconst (v := 0) C.x C.b dL_input_1 (by decide) ?_
  refine lv_aload_n C.x C.b dL_input_2 rfl (lv_at hl 0 rfl) ?_
  refine lv_iload_n C.x C.b dL_input_3 rfl (lv_at hl 1 rfl) ?_
  refine lv_iload_n C.x C.b dL_input_4 rfl (lv_at hl 2 rfl) ?_
  refine z_VC (As := [.int a0, .int a1]) (rest := [.int 0, .ref (G.h + 275)]) [] ⟨0, 10, 13, 19⟩ [⟨0, 10, 17, 13⟩, ⟨0, 10, 21, 21⟩] C htab rfl (fun r hr => by cases hr) rfl (by decide) zl_19 zc_IOB hw hl hm ivL_15 hA.lt (hA.at _ _) rfl rfl ⟨(Nat.le_of_ble_eq_true rfl), (Nat.le_of_ble_eq_true rfl)⟩ (Nat.le_of_ble_eq_true rfl) ⟨(Nat.le_of_ble_eq_true rfl), (Nat.le_of_ble_eq_true rfl)⟩ dL_input_5 (fun H locs q hw => ?_)
  refine lv_astore (lv' := [(4, .ref q), (0, .ref (G.h + 0)), (1, .int a0), (2, .int a1), (3, .ref (G.h + 275))]) C.x C.b dL_input_13 hl (by decide) rfl (fun ls hl => ?_)
  refine lv_iconst (v := 1) C.x C.b dL_input_15 (by decide) ?_
  exact z_iret C hw dL_input_16 (rfl) (rfl)

theorem wx_input2 {G : zG} {N : Nat} {Λ : zLay} {l : Launch} (hO : zOK G l) (z : zM) (hA : zPo G N Λ) (hJl : 275 < N) (hJ : zJA G Λ 275 1) {a0 a1 : Int32} (hm : zMX G N Λ l yX3_input cX3_input 4 (some .int) 7 [.ref (G.h + 0), .int a0, .int a1] z "java/lang/IllegalArgumentException") : zMW G N Λ l yL_input cL_input 5 (some .int) [(0, 10, 13, 19), (0, 10, 17, 13), (0, 10, 21, 21)] 9 [.ref (G.h + 0), .int a0, .int a1, .ref (G.h + 275)] z (some (.int 2)) z := by
  refine zMW_of hO (by decide) (Nat.le_of_ble_eq_true rfl) cwL_input ?_
  intro pP eE sS mM bB tT cC ls C htab hw hl
  have hl : lv_has ls 5 [(0, .ref (G.h + 0)), (1, .int a0), (2, .int a1), (3, .ref (G.h + 275))] := hl
  refine lv_aload_n C.x C.b dL_input_0 rfl (lv_at hl 3 rfl) ?_
  refine lv_iconst (v := 0) C.x C.b dL_input_1 (by decide) ?_
  refine lv_aload_n C.x C.b dL_input_2 rfl (lv_at hl 0 rfl) ?_
  refine lv_iload_n C.x C.b dL_input_3 rfl (lv_at hl 1 rfl) ?_
  refine lv_iload_n C.x C.b dL_input_4 rfl (lv_at hl 2 rfl) ?_
  refine z_VC (As := [.int a0, .int a1]) (rest := [.int 0, .ref (G.h + 275)]) [⟨0, 10, 13, 19⟩] ⟨0, 10, 17, 13⟩ [⟨0, 10, 21, 21⟩] C htab rfl (fun r hr => by
      rcases List.mem_cons.mp hr with rfl | hr
      · exact ⟨by decide, _, zl_19, zn_AO⟩
      cases hr) rfl (by decide) zl_13 zc_IAE hw hl hm ivL_15 hA.lt (hA.at _ _) rfl rfl ⟨(Nat.le_of_ble_eq_true rfl), (Nat.le_of_ble_eq_true rfl)⟩ (Nat.le_of_ble_eq_true rfl) ⟨(Nat.le_of_ble_eq_true rfl), (Nat.le_of_ble_eq_true rfl)⟩ dL_input_5 (fun H locs q hw => ?_)
  refine lv_astore (lv' := [(4, .ref q), (0, .ref (G.h + 0)), (1, .int a0), (2, .int a1), (3, .ref (G.h + 275))]) C.x C.b dL_input_17 hl (by decide) rfl (fun ls hl => ?_)
  refine lv_iconst (v := 2) C.x C.b dL_input_19 (by decide) ?_
  exact z_iret C hw dL_input_20 (rfl) (rfl)

theorem wx_input3 {G : zG} {N : Nat} {Λ : zLay} {l : Launch} (hO : zOK G l) (z : zM) (hA : zPo G N Λ) (hJl : 275 < N) (hJ : zJA G Λ 275 1) {a0 a1 : Int32} (hm : zMX G N Λ l yX3_input cX3_input 4 (some .int) 6 [.ref (G.h + 0), .int a0, .int a1] z "java/lang/IllegalStateException") : zMW G N Λ l yL_input cL_input 5 (some .int) [(0, 10, 13, 19), (0, 10, 17, 13), (0, 10, 21, 21)] 9 [.ref (G.h + 0), .int a0, .int a1, .ref (G.h + 275)] z (some (.int 3)) z := by
  refine zMW_of hO (by decide) (Nat.le_of_ble_eq_true rfl) cwL_input ?_
  intro pP eE sS mM bB tT cC ls C htab hw hl
  have hl : lv_has ls 5 [(0, .ref (G.h + 0)), (1, .int a0), (2, .int a1), (3, .ref (G.h + 275))] := hl
  refine lv_aload_n C.x C.b dL_input_0 rfl (lv_at hl 3 rfl) ?_
  refine lv_iconst (v := 0) C.x C.b dL_input_1 (by decide) ?_
  refine lv_aload_n C.x C.b dL_input_2 rfl (lv_at hl 0 rfl) ?_
  refine lv_iload_n C.x C.b dL_input_3 rfl (lv_at hl 1 rfl) ?_
  refine lv_iload_n C.x C.b dL_input_4 rfl (lv_at hl 2 rfl) ?_
  refine z_VC (As := [.int a0, .int a1]) (rest := [.int 0, .ref (G.h + 275)]) [⟨0, 10, 13, 19⟩, ⟨0, 10, 17, 13⟩] ⟨0, 10, 21, 21⟩ [] C htab rfl (fun r hr => by
      rcases List.mem_cons.mp hr with rfl | hr
      · exact ⟨by decide, _, zl_19, zn_SO⟩
      rcases List.mem_cons.mp hr with rfl | hr
      · exact ⟨by decide, _, zl_13, zn_SA⟩
      cases hr) rfl (by decide) zl_21 zc_ISE hw hl hm ivL_15 hA.lt (hA.at _ _) rfl rfl ⟨(Nat.le_of_ble_eq_true rfl), (Nat.le_of_ble_eq_true rfl)⟩ (Nat.le_of_ble_eq_true rfl) ⟨(Nat.le_of_ble_eq_true rfl), (Nat.le_of_ble_eq_true rfl)⟩ dL_input_5 (fun H locs q hw => ?_)
  refine lv_astore (lv' := [(4, .ref q), (0, .ref (G.h + 0)), (1, .int a0), (2, .int a1), (3, .ref (G.h + 275))]) C.x C.b dL_input_21 hl (by decide) rfl (fun ls hl => ?_)
  refine lv_iconst (v := 3) C.x C.b dL_input_23 (by decide) ?_
  exact z_iret C hw dL_input_24 (rfl) (rfl)

theorem cwL_deliver : zW (.codeWith yL_deliver cL_deliver 3 (some .int) [(0, 8, 11, 21)]) := ⟨by decide +kernel, rfl⟩
theorem w_deliver {G : zG} {N : Nat} {Λ : zLay} {l : Launch} (hO : zOK G l) (z : zM) (hA : zPo G N Λ) (hJl : 275 < N) (hJ : zJA G Λ 275 1) {z' : zM} {v : Int32} (hm : zMet G N Λ l yX3_deliver cX3_deliver 2 (some .int) 6 [.ref (G.h + 0)] z (some (.int v)) z') : zMW G N Λ l yL_deliver cL_deliver 3 (some .int) [(0, 8, 11, 21)] 9 [.ref (G.h + 0), .ref (G.h + 275)] z (some (.int 0)) (zl z' 275 0 v.toInt64) := by
  refine zMW_of hO (by decide) (Nat.le_of_ble_eq_true rfl) cwL_deliver ?_
  intro pP eE sS mM bB tT cC ls C htab hw hl
  have hl : lv_has ls 3 [(0, .ref (G.h + 0)), (1, .ref (G.h + 275))] := hl
  refine lv_aload_n C.x C.b dL_deliver_0 rfl (lv_at hl 1 rfl) ?_
  refine lv_iconst (v := 0) C.x C.b dL_deliver_1 (by decide) ?_
  refine lv_aload_n C.x C.b dL_deliver_2 rfl (lv_at hl 0 rfl) ?_
  refine z_Vv (As := []) (rest := [.int 0, .ref (G.h + 275)]) C hw hl (hm) ivL_23 hA.lt (hA.at _ _) rfl rfl ⟨(Nat.le_of_ble_eq_true rfl), (Nat.le_of_ble_eq_true rfl)⟩ (Nat.le_of_ble_eq_true rfl) ⟨Nat.zero_le _, Nat.zero_le _⟩ dL_deliver_3 (fun H locs hw => ?_)
  refine lv_i2l C.x C.b dL_deliver_6 rfl ?_
  refine z_last C hw hJl hJ ((zvin (x := 0) (by omega) (by omega))) dL_deliver_7 (fun H locs hw => ?_)
  obtain ⟨z_1, ez_1⟩ : ∃ q_9, q_9 = zl z' 275 (0 : Int32).toNatClampNeg v.toInt64 := ⟨_, rfl⟩
  have hw : zS G N Λ z_1 sS H locs := by rw [ez_1]; exact hw
  refine lv_goto (tgt := 14) C.x C.b dL_deliver_8 (by decide) ?_
  refine z_wid (k := 1) (n := 6) (Nat.zero_le _) (Nat.zero_le _) ?_
  refine lv_iconst (v := 0) C.x C.b dL_deliver_14 (by decide) ?_
  exact z_iret C hw dL_deliver_15 (rfl) (by rw [ez_1]; rfl)

theorem wx_deliver1 {G : zG} {N : Nat} {Λ : zLay} {l : Launch} (hO : zOK G l) (z : zM) (hA : zPo G N Λ) (hJl : 275 < N) (hJ : zJA G Λ 275 1) (hm : zMX G N Λ l yX3_deliver cX3_deliver 2 (some .int) 6 [.ref (G.h + 0)] z "java/lang/IllegalStateException") : zMW G N Λ l yL_deliver cL_deliver 3 (some .int) [(0, 8, 11, 21)] 9 [.ref (G.h + 0), .ref (G.h + 275)] z (some (.int 1)) z := by
  refine zMW_of hO (by decide) (Nat.le_of_ble_eq_true rfl) cwL_deliver ?_
  intro pP eE sS mM bB tT cC ls C htab hw hl
  have hl : lv_has ls 3 [(0, .ref (G.h + 0)), (1, .ref (G.h + 275))] := hl
  refine lv_aload_n C.x C.b dL_deliver_0 rfl (lv_at hl 1 rfl) ?_
  refine lv_iconst (v := 0) C.x C.b dL_deliver_1 (by decide) ?_
  refine lv_aload_n C.x C.b dL_deliver_2 rfl (lv_at hl 0 rfl) ?_
  refine z_VC (As := []) (rest := [.int 0, .ref (G.h + 275)]) [] ⟨0, 8, 11, 21⟩ [] C htab rfl (fun r hr => by cases hr) rfl (by decide) zl_21 zc_ISE hw hl hm ivL_23 hA.lt (hA.at _ _) rfl rfl ⟨(Nat.le_of_ble_eq_true rfl), (Nat.le_of_ble_eq_true rfl)⟩ (Nat.le_of_ble_eq_true rfl) ⟨(Nat.le_of_ble_eq_true rfl), (Nat.le_of_ble_eq_true rfl)⟩ dL_deliver_3 (fun H locs q hw => ?_)
  refine lv_astore_n (lv' := [(2, .ref q), (0, .ref (G.h + 0)), (1, .ref (G.h + 275))]) C.x C.b dL_deliver_11 rfl hl (by decide) rfl (fun ls hl => ?_)
  refine lv_iconst (v := 1) C.x C.b dL_deliver_12 (by decide) ?_
  exact z_iret C hw dL_deliver_13 (rfl) (rfl)

theorem w_deliver0 {G : zG} {N : Nat} {Λ : zLay} {l : Launch} (hO : zOK G l) (z : zM) (hA : zPo G N Λ) (hJl : 275 < N) (hJ : zJA G Λ 275 1) {z' : zM} {v : Int32} (hm : zMet G N Λ l yX3_deliver cX3_deliver 2 (some .int) 2 [.ref (G.h + 0)] z (some (.int v)) z') : zMW G N Λ l yL_deliver cL_deliver 3 (some .int) [(0, 8, 11, 21)] 9 [.ref (G.h + 0), .ref (G.h + 275)] z (some (.int 0)) (zl z' 275 0 v.toInt64) := by
  refine zMW_of hO (by decide) (Nat.le_of_ble_eq_true rfl) cwL_deliver ?_
  intro pP eE sS mM bB tT cC ls C htab hw hl
  have hl : lv_has ls 3 [(0, .ref (G.h + 0)), (1, .ref (G.h + 275))] := hl
  refine lv_aload_n C.x C.b dL_deliver_0 rfl (lv_at hl 1 rfl) ?_
  refine lv_iconst (v := 0) C.x C.b dL_deliver_1 (by decide) ?_
  refine lv_aload_n C.x C.b dL_deliver_2 rfl (lv_at hl 0 rfl) ?_
  refine z_Vv (As := []) (rest := [.int 0, .ref (G.h + 275)]) C hw hl (hm) ivL_23 hA.lt (hA.at _ _) rfl rfl ⟨(Nat.le_of_ble_eq_true rfl), (Nat.le_of_ble_eq_true rfl)⟩ (Nat.le_of_ble_eq_true rfl) ⟨Nat.zero_le _, Nat.zero_le _⟩ dL_deliver_3 (fun H locs hw => ?_)
  refine lv_i2l C.x C.b dL_deliver_6 rfl ?_
  refine z_last C hw hJl hJ ((zvin (x := 0) (by omega) (by omega))) dL_deliver_7 (fun H locs hw => ?_)
  obtain ⟨z_1, ez_1⟩ : ∃ q_9, q_9 = zl z' 275 (0 : Int32).toNatClampNeg v.toInt64 := ⟨_, rfl⟩
  have hw : zS G N Λ z_1 sS H locs := by rw [ez_1]; exact hw
  refine lv_goto (tgt := 14) C.x C.b dL_deliver_8 (by decide) ?_
  refine z_wid (k := 1) (n := 6) (Nat.zero_le _) (Nat.zero_le _) ?_
  refine lv_iconst (v := 0) C.x C.b dL_deliver_14 (by decide) ?_
  exact z_iret C hw dL_deliver_15 (rfl) (by rw [ez_1]; rfl)

theorem cwL_run : zW (.codeWith yL_run cL_run 4 (some .int) [(0, 9, 12, 13)]) := ⟨by decide +kernel, rfl⟩
theorem w_run {G : zG} {N : Nat} {Λ : zLay} {l : Launch} (hO : zOK G l) (z : zM) (hA : zPo G N Λ) (hJl : 275 < N) (hJ : zJA G Λ 275 1) {a0 : Int32} {z' : zM} {v : Int32} (hm : zMet G N Λ l yX3_run cX3_run 3 (some .int) 6 [.ref (G.h + 0), .int a0] z (some (.int v)) z') : zMW G N Λ l yL_run cL_run 4 (some .int) [(0, 9, 12, 13)] 9 [.ref (G.h + 0), .int a0, .ref (G.h + 275)] z (some (.int 0)) (zl z' 275 0 v.toInt64) := by
  refine zMW_of hO (by decide) (Nat.le_of_ble_eq_true rfl) cwL_run ?_
  intro pP eE sS mM bB tT cC ls C htab hw hl
  have hl : lv_has ls 4 [(0, .ref (G.h + 0)), (1, .int a0), (2, .ref (G.h + 275))] := hl
  refine lv_aload_n C.x C.b dL_run_0 rfl (lv_at hl 2 rfl) ?_
  refine lv_iconst (v := 0) C.x C.b dL_run_1 (by decide) ?_
  refine lv_aload_n C.x C.b dL_run_2 rfl (lv_at hl 0 rfl) ?_
  refine lv_iload_n C.x C.b dL_run_3 rfl (lv_at hl 1 rfl) ?_
  refine z_Vv (As := [.int a0]) (rest := [.int 0, .ref (G.h + 275)]) C hw hl (hm) ivL_27 hA.lt (hA.at _ _) rfl rfl ⟨(Nat.le_of_ble_eq_true rfl), (Nat.le_of_ble_eq_true rfl)⟩ (Nat.le_of_ble_eq_true rfl) ⟨Nat.zero_le _, Nat.zero_le _⟩ dL_run_4 (fun H locs hw => ?_)
  refine lv_i2l C.x C.b dL_run_7 rfl ?_
  refine z_last C hw hJl hJ ((zvin (x := 0) (by omega) (by omega))) dL_run_8 (fun H locs hw => ?_)
  obtain ⟨z_1, ez_1⟩ : ∃ q_9, q_9 = zl z' 275 (0 : Int32).toNatClampNeg v.toInt64 := ⟨_, rfl⟩
  have hw : zS G N Λ z_1 sS H locs := by rw [ez_1]; exact hw
  refine lv_goto (tgt := 15) C.x C.b dL_run_9 (by decide) ?_
  refine z_wid (k := 1) (n := 6) (Nat.zero_le _) (Nat.zero_le _) ?_
  refine lv_iconst (v := 0) C.x C.b dL_run_15 (by decide) ?_
  exact z_iret C hw dL_run_16 (rfl) (by rw [ez_1]; rfl)

theorem wx_run1 {G : zG} {N : Nat} {Λ : zLay} {l : Launch} (hO : zOK G l) (z : zM) (hA : zPo G N Λ) (hJl : 275 < N) (hJ : zJA G Λ 275 1) {a0 : Int32} (hm : zMX G N Λ l yX3_run cX3_run 3 (some .int) 6 [.ref (G.h + 0), .int a0] z "java/lang/IllegalArgumentException") : zMW G N Λ l yL_run cL_run 4 (some .int) [(0, 9, 12, 13)] 9 [.ref (G.h + 0), .int a0, .ref (G.h + 275)] z (some (.int 1)) z := by
  refine zMW_of hO (by decide) (Nat.le_of_ble_eq_true rfl) cwL_run ?_
  intro pP eE sS mM bB tT cC ls C htab hw hl
  have hl : lv_has ls 4 [(0, .ref (G.h + 0)), (1, .int a0), (2, .ref (G.h + 275))] := hl
  refine lv_aload_n C.x C.b dL_run_0 rfl (lv_at hl 2 rfl) ?_
  refine lv_iconst (v := 0) C.x C.b dL_run_1 (by decide) ?_
  refine lv_aload_n C.x C.b dL_run_2 rfl (lv_at hl 0 rfl) ?_
  refine lv_iload_n C.x C.b dL_run_3 rfl (lv_at hl 1 rfl) ?_
  refine z_VC (As := [.int a0]) (rest := [.int 0, .ref (G.h + 275)]) [] ⟨0, 9, 12, 13⟩ [] C htab rfl (fun r hr => by cases hr) rfl (by decide) zl_13 zc_IAE hw hl hm ivL_27 hA.lt (hA.at _ _) rfl rfl ⟨(Nat.le_of_ble_eq_true rfl), (Nat.le_of_ble_eq_true rfl)⟩ (Nat.le_of_ble_eq_true rfl) ⟨(Nat.le_of_ble_eq_true rfl), (Nat.le_of_ble_eq_true rfl)⟩ dL_run_4 (fun H locs q hw => ?_)
  refine lv_astore_n (lv' := [(3, .ref q), (0, .ref (G.h + 0)), (1, .int a0), (2, .ref (G.h + 275))]) C.x C.b dL_run_12 rfl hl (by decide) rfl (fun ls hl => ?_)
  refine lv_iconst (v := 1) C.x C.b dL_run_13 (by decide) ?_
  exact z_iret C hw dL_run_14 (rfl) (rfl)

theorem cwL_state : zW (.codeWith yL_state cL_state 4 (some .int) [(0, 9, 12, 19)]) := ⟨by decide +kernel, rfl⟩
theorem w_state {G : zG} {N : Nat} {Λ : zLay} {l : Launch} (hO : zOK G l) (z : zM) (hA : zPo G N Λ) (hJl : 275 < N) (hJ : zJA G Λ 275 1) {a0 : Int32} {z' : zM} {v : Int32} (hm : zMet G N Λ l yX3_state cX3_state 2 (some .int) 2 [.ref (G.h + 0), .int a0] z (some (.int v)) z') : zMW G N Λ l yL_state cL_state 4 (some .int) [(0, 9, 12, 19)] 9 [.ref (G.h + 0), .int a0, .ref (G.h + 275)] z (some (.int 0)) (zl z' 275 0 v.toInt64) := by
  refine zMW_of hO (by decide) (Nat.le_of_ble_eq_true rfl) cwL_state ?_
  intro pP eE sS mM bB tT cC ls C htab hw hl
  have hl : lv_has ls 4 [(0, .ref (G.h + 0)), (1, .int a0), (2, .ref (G.h + 275))] := hl
  refine lv_aload_n C.x C.b dL_state_0 rfl (lv_at hl 2 rfl) ?_
  refine lv_iconst (v := 0) C.x C.b dL_state_1 (by decide) ?_
  refine lv_aload_n C.x C.b dL_state_2 rfl (lv_at hl 0 rfl) ?_
  refine lv_iload_n C.x C.b dL_state_3 rfl (lv_at hl 1 rfl) ?_
  refine z_Vv (As := [.int a0]) (rest := [.int 0, .ref (G.h + 275)]) C hw hl (hm) ivL_30 hA.lt (hA.at _ _) rfl rfl ⟨(Nat.le_of_ble_eq_true rfl), (Nat.le_of_ble_eq_true rfl)⟩ (Nat.le_of_ble_eq_true rfl) ⟨Nat.zero_le _, Nat.zero_le _⟩ dL_state_4 (fun H locs hw => ?_)
  refine lv_i2l C.x C.b dL_state_7 rfl ?_
  refine z_last C hw hJl hJ ((zvin (x := 0) (by omega) (by omega))) dL_state_8 (fun H locs hw => ?_)
  obtain ⟨z_1, ez_1⟩ : ∃ q_9, q_9 = zl z' 275 (0 : Int32).toNatClampNeg v.toInt64 := ⟨_, rfl⟩
  have hw : zS G N Λ z_1 sS H locs := by rw [ez_1]; exact hw
  refine lv_goto (tgt := 15) C.x C.b dL_state_9 (by decide) ?_
  refine z_wid (k := 1) (n := 6) (Nat.zero_le _) (Nat.zero_le _) ?_
  refine lv_iconst (v := 0) C.x C.b dL_state_15 (by decide) ?_
  exact z_iret C hw dL_state_16 (rfl) (by rw [ez_1]; rfl)

theorem wx_state1 {G : zG} {N : Nat} {Λ : zLay} {l : Launch} (hO : zOK G l) (z : zM) (hA : zPo G N Λ) (hJl : 275 < N) (hJ : zJA G Λ 275 1) {a0 : Int32} (hm : zMX G N Λ l yX3_state cX3_state 2 (some .int) 7 [.ref (G.h + 0), .int a0] z "java/lang/IndexOutOfBoundsException") : zMW G N Λ l yL_state cL_state 4 (some .int) [(0, 9, 12, 19)] 9 [.ref (G.h + 0), .int a0, .ref (G.h + 275)] z (some (.int 1)) z := by
  refine zMW_of hO (by decide) (Nat.le_of_ble_eq_true rfl) cwL_state ?_
  intro pP eE sS mM bB tT cC ls C htab hw hl
  have hl : lv_has ls 4 [(0, .ref (G.h + 0)), (1, .int a0), (2, .ref (G.h + 275))] := hl
  refine lv_aload_n C.x C.b dL_state_0 rfl (lv_at hl 2 rfl) ?_
  refine lv_iconst (v := 0) C.x C.b dL_state_1 (by decide) ?_
  refine lv_aload_n C.x C.b dL_state_2 rfl (lv_at hl 0 rfl) ?_
  refine lv_iload_n C.x C.b dL_state_3 rfl (lv_at hl 1 rfl) ?_
  refine z_VC (As := [.int a0]) (rest := [.int 0, .ref (G.h + 275)]) [] ⟨0, 9, 12, 19⟩ [] C htab rfl (fun r hr => by cases hr) rfl (by decide) zl_19 zc_IOB hw hl hm ivL_30 hA.lt (hA.at _ _) rfl rfl ⟨(Nat.le_of_ble_eq_true rfl), (Nat.le_of_ble_eq_true rfl)⟩ (Nat.le_of_ble_eq_true rfl) ⟨(Nat.le_of_ble_eq_true rfl), (Nat.le_of_ble_eq_true rfl)⟩ dL_state_4 (fun H locs q hw => ?_)
  refine lv_astore_n (lv' := [(3, .ref q), (0, .ref (G.h + 0)), (1, .int a0), (2, .ref (G.h + 275))]) C.x C.b dL_state_12 rfl hl (by decide) rfl (fun ls hl => ?_)
  refine lv_iconst (v := 1) C.x C.b dL_state_13 (by decide) ?_
  exact z_iret C hw dL_state_14 (rfl) (rfl)

theorem cwL_setSilent : zW (.codeWith yL_setSilent cL_setSilent 5 (some .int) [(0, 10, 13, 19)]) := ⟨by decide +kernel, rfl⟩
theorem w_setSilent {G : zG} {N : Nat} {Λ : zLay} {l : Launch} (hO : zOK G l) (z : zM) (hA : zPo G N Λ) (hJl : 275 < N) (hJ : zJA G Λ 275 1) {a0 a1 : Int32} {z' : zM} {v : Int32} (hm : zMet G N Λ l yX3_setSilent cX3_setSilent 4 (some .int) 5 [.ref (G.h + 0), .int a0, .int a1] z (some (.int v)) z') : zMW G N Λ l yL_setSilent cL_setSilent 5 (some .int) [(0, 10, 13, 19)] 9 [.ref (G.h + 0), .int a0, .int a1, .ref (G.h + 275)] z (some (.int 0)) (zl z' 275 0 v.toInt64) := by
  refine zMW_of hO (by decide) (Nat.le_of_ble_eq_true rfl) cwL_setSilent ?_
  intro pP eE sS mM bB tT cC ls C htab hw hl
  have hl : lv_has ls 5 [(0, .ref (G.h + 0)), (1, .int a0), (2, .int a1), (3, .ref (G.h + 275))] := hl
  refine lv_aload_n C.x C.b dL_setSilent_0 rfl (lv_at hl 3 rfl) ?_
  refine lv_iconst (v := 0) C.x C.b dL_setSilent_1 (by decide) ?_
  refine lv_aload_n C.x C.b dL_setSilent_2 rfl (lv_at hl 0 rfl) ?_
  refine lv_iload_n C.x C.b dL_setSilent_3 rfl (lv_at hl 1 rfl) ?_
  refine lv_iload_n C.x C.b dL_setSilent_4 rfl (lv_at hl 2 rfl) ?_
  refine z_Vv (As := [.int a0, .int a1]) (rest := [.int 0, .ref (G.h + 275)]) C hw hl (hm) ivL_33 hA.lt (hA.at _ _) rfl rfl ⟨(Nat.le_of_ble_eq_true rfl), (Nat.le_of_ble_eq_true rfl)⟩ (Nat.le_of_ble_eq_true rfl) ⟨Nat.zero_le _, Nat.zero_le _⟩ dL_setSilent_5 (fun H locs hw => ?_)
  refine lv_i2l C.x C.b dL_setSilent_8 rfl ?_
  refine z_last C hw hJl hJ ((zvin (x := 0) (by omega) (by omega))) dL_setSilent_9 (fun H locs hw => ?_)
  obtain ⟨z_1, ez_1⟩ : ∃ q_9, q_9 = zl z' 275 (0 : Int32).toNatClampNeg v.toInt64 := ⟨_, rfl⟩
  have hw : zS G N Λ z_1 sS H locs := by rw [ez_1]; exact hw
  refine lv_goto (tgt := 17) C.x C.b dL_setSilent_10 (by decide) ?_
  refine z_wid (k := 1) (n := 6) (Nat.zero_le _) (Nat.zero_le _) ?_
  refine lv_iconst (v := 0) C.x C.b dL_setSilent_17 (by decide) ?_
  exact z_iret C hw dL_setSilent_18 (rfl) (by rw [ez_1]; rfl)

theorem wx_setSilent1 {G : zG} {N : Nat} {Λ : zLay} {l : Launch} (hO : zOK G l) (z : zM) (hA : zPo G N Λ) (hJl : 275 < N) (hJ : zJA G Λ 275 1) {a0 a1 : Int32} (hm : zMX G N Λ l yX3_setSilent cX3_setSilent 4 (some .int) 7 [.ref (G.h + 0), .int a0, .int a1] z "java/lang/IndexOutOfBoundsException") : zMW G N Λ l yL_setSilent cL_setSilent 5 (some .int) [(0, 10, 13, 19)] 9 [.ref (G.h + 0), .int a0, .int a1, .ref (G.h + 275)] z (some (.int 1)) z := by
  refine zMW_of hO (by decide) (Nat.le_of_ble_eq_true rfl) cwL_setSilent ?_
  intro pP eE sS mM bB tT cC ls C htab hw hl
  have hl : lv_has ls 5 [(0, .ref (G.h + 0)), (1, .int a0), (2, .int a1), (3, .ref (G.h + 275))] := hl
  refine lv_aload_n C.x C.b dL_setSilent_0 rfl (lv_at hl 3 rfl) ?_
  refine lv_iconst (v := 0) C.x C.b dL_setSilent_1 (by decide) ?_
  refine lv_aload_n C.x C.b dL_setSilent_2 rfl (lv_at hl 0 rfl) ?_
  refine lv_iload_n C.x C.b dL_setSilent_3 rfl (lv_at hl 1 rfl) ?_
  refine lv_iload_n C.x C.b dL_setSilent_4 rfl (lv_at hl 2 rfl) ?_
  refine z_VC (As := [.int a0, .int a1]) (rest := [.int 0, .ref (G.h + 275)]) [] ⟨0, 10, 13, 19⟩ [] C htab rfl (fun r hr => by cases hr) rfl (by decide) zl_19 zc_IOB hw hl hm ivL_33 hA.lt (hA.at _ _) rfl rfl ⟨(Nat.le_of_ble_eq_true rfl), (Nat.le_of_ble_eq_true rfl)⟩ (Nat.le_of_ble_eq_true rfl) ⟨(Nat.le_of_ble_eq_true rfl), (Nat.le_of_ble_eq_true rfl)⟩ dL_setSilent_5 (fun H locs q hw => ?_)
  refine lv_astore (lv' := [(4, .ref q), (0, .ref (G.h + 0)), (1, .int a0), (2, .int a1), (3, .ref (G.h + 275))]) C.x C.b dL_setSilent_13 hl (by decide) rfl (fun ls hl => ?_)
  refine lv_iconst (v := 1) C.x C.b dL_setSilent_15 (by decide) ?_
  exact z_iret C hw dL_setSilent_16 (rfl) (rfl)

theorem cwL_pending : zW (.codeWith yL_pending cL_pending 4 (some .int) [(0, 9, 12, 19)]) := ⟨by decide +kernel, rfl⟩
theorem w_pending {G : zG} {N : Nat} {Λ : zLay} {l : Launch} (hO : zOK G l) (z : zM) (hA : zPo G N Λ) (hJl : 275 < N) (hJ : zJA G Λ 275 1) {a0 : Int32} {z' : zM} {v : Int32} (hm : zMet G N Λ l yX3_pending cX3_pending 2 (some .int) 2 [.ref (G.h + 0), .int a0] z (some (.int v)) z') : zMW G N Λ l yL_pending cL_pending 4 (some .int) [(0, 9, 12, 19)] 9 [.ref (G.h + 0), .int a0, .ref (G.h + 275)] z (some (.int 0)) (zl z' 275 0 v.toInt64) := by
  refine zMW_of hO (by decide) (Nat.le_of_ble_eq_true rfl) cwL_pending ?_
  intro pP eE sS mM bB tT cC ls C htab hw hl
  have hl : lv_has ls 4 [(0, .ref (G.h + 0)), (1, .int a0), (2, .ref (G.h + 275))] := hl
  refine lv_aload_n C.x C.b dL_pending_0 rfl (lv_at hl 2 rfl) ?_
  refine lv_iconst (v := 0) C.x C.b dL_pending_1 (by decide) ?_
  refine lv_aload_n C.x C.b dL_pending_2 rfl (lv_at hl 0 rfl) ?_
  refine lv_iload_n C.x C.b dL_pending_3 rfl (lv_at hl 1 rfl) ?_
  refine z_Vv (As := [.int a0]) (rest := [.int 0, .ref (G.h + 275)]) C hw hl (hm) ivL_37 hA.lt (hA.at _ _) rfl rfl ⟨(Nat.le_of_ble_eq_true rfl), (Nat.le_of_ble_eq_true rfl)⟩ (Nat.le_of_ble_eq_true rfl) ⟨Nat.zero_le _, Nat.zero_le _⟩ dL_pending_4 (fun H locs hw => ?_)
  refine lv_i2l C.x C.b dL_pending_7 rfl ?_
  refine z_last C hw hJl hJ ((zvin (x := 0) (by omega) (by omega))) dL_pending_8 (fun H locs hw => ?_)
  obtain ⟨z_1, ez_1⟩ : ∃ q_9, q_9 = zl z' 275 (0 : Int32).toNatClampNeg v.toInt64 := ⟨_, rfl⟩
  have hw : zS G N Λ z_1 sS H locs := by rw [ez_1]; exact hw
  refine lv_goto (tgt := 15) C.x C.b dL_pending_9 (by decide) ?_
  refine z_wid (k := 1) (n := 6) (Nat.zero_le _) (Nat.zero_le _) ?_
  refine lv_iconst (v := 0) C.x C.b dL_pending_15 (by decide) ?_
  exact z_iret C hw dL_pending_16 (rfl) (by rw [ez_1]; rfl)

theorem wx_pending1 {G : zG} {N : Nat} {Λ : zLay} {l : Launch} (hO : zOK G l) (z : zM) (hA : zPo G N Λ) (hJl : 275 < N) (hJ : zJA G Λ 275 1) {a0 : Int32} (hm : zMX G N Λ l yX3_pending cX3_pending 2 (some .int) 7 [.ref (G.h + 0), .int a0] z "java/lang/IndexOutOfBoundsException") : zMW G N Λ l yL_pending cL_pending 4 (some .int) [(0, 9, 12, 19)] 9 [.ref (G.h + 0), .int a0, .ref (G.h + 275)] z (some (.int 1)) z := by
  refine zMW_of hO (by decide) (Nat.le_of_ble_eq_true rfl) cwL_pending ?_
  intro pP eE sS mM bB tT cC ls C htab hw hl
  have hl : lv_has ls 4 [(0, .ref (G.h + 0)), (1, .int a0), (2, .ref (G.h + 275))] := hl
  refine lv_aload_n C.x C.b dL_pending_0 rfl (lv_at hl 2 rfl) ?_
  refine lv_iconst (v := 0) C.x C.b dL_pending_1 (by decide) ?_
  refine lv_aload_n C.x C.b dL_pending_2 rfl (lv_at hl 0 rfl) ?_
  refine lv_iload_n C.x C.b dL_pending_3 rfl (lv_at hl 1 rfl) ?_
  refine z_VC (As := [.int a0]) (rest := [.int 0, .ref (G.h + 275)]) [] ⟨0, 9, 12, 19⟩ [] C htab rfl (fun r hr => by cases hr) rfl (by decide) zl_19 zc_IOB hw hl hm ivL_37 hA.lt (hA.at _ _) rfl rfl ⟨(Nat.le_of_ble_eq_true rfl), (Nat.le_of_ble_eq_true rfl)⟩ (Nat.le_of_ble_eq_true rfl) ⟨(Nat.le_of_ble_eq_true rfl), (Nat.le_of_ble_eq_true rfl)⟩ dL_pending_4 (fun H locs q hw => ?_)
  refine lv_astore_n (lv' := [(3, .ref q), (0, .ref (G.h + 0)), (1, .int a0), (2, .ref (G.h + 275))]) C.x C.b dL_pending_12 rfl hl (by decide) rfl (fun ls hl => ?_)
  refine lv_iconst (v := 1) C.x C.b dL_pending_13 (by decide) ?_
  exact z_iret C hw dL_pending_14 (rfl) (rfl)

theorem cwL_resend : zW (.codeWith yL_resend cL_resend 4 (some .int) [(0, 9, 12, 19), (0, 9, 15, 21)]) := ⟨by decide +kernel, rfl⟩
theorem w_resend {G : zG} {N : Nat} {Λ : zLay} {l : Launch} (hO : zOK G l) (z : zM) (hA : zPo G N Λ) (hJl : 275 < N) (hJ : zJA G Λ 275 1) {a0 : Int32} {z' : zM} {v : Int32} (hm : zMet G N Λ l yX3_resend cX3_resend 5 (some .int) 5 [.ref (G.h + 0), .int a0] z (some (.int v)) z') : zMW G N Λ l yL_resend cL_resend 4 (some .int) [(0, 9, 12, 19), (0, 9, 15, 21)] 9 [.ref (G.h + 0), .int a0, .ref (G.h + 275)] z (some (.int 0)) (zl z' 275 0 v.toInt64) := by
  refine zMW_of hO (by decide) (Nat.le_of_ble_eq_true rfl) cwL_resend ?_
  intro pP eE sS mM bB tT cC ls C htab hw hl
  have hl : lv_has ls 4 [(0, .ref (G.h + 0)), (1, .int a0), (2, .ref (G.h + 275))] := hl
  refine lv_aload_n C.x C.b dL_resend_0 rfl (lv_at hl 2 rfl) ?_
  refine lv_iconst (v := 0) C.x C.b dL_resend_1 (by decide) ?_
  refine lv_aload_n C.x C.b dL_resend_2 rfl (lv_at hl 0 rfl) ?_
  refine lv_iload_n C.x C.b dL_resend_3 rfl (lv_at hl 1 rfl) ?_
  refine z_Vv (As := [.int a0]) (rest := [.int 0, .ref (G.h + 275)]) C hw hl (hm) ivL_40 hA.lt (hA.at _ _) rfl rfl ⟨(Nat.le_of_ble_eq_true rfl), (Nat.le_of_ble_eq_true rfl)⟩ (Nat.le_of_ble_eq_true rfl) ⟨Nat.zero_le _, Nat.zero_le _⟩ dL_resend_4 (fun H locs hw => ?_)
  refine lv_i2l C.x C.b dL_resend_7 rfl ?_
  refine z_last C hw hJl hJ ((zvin (x := 0) (by omega) (by omega))) dL_resend_8 (fun H locs hw => ?_)
  obtain ⟨z_1, ez_1⟩ : ∃ q_9, q_9 = zl z' 275 (0 : Int32).toNatClampNeg v.toInt64 := ⟨_, rfl⟩
  have hw : zS G N Λ z_1 sS H locs := by rw [ez_1]; exact hw
  refine lv_goto (tgt := 18) C.x C.b dL_resend_9 (by decide) ?_
  refine z_wid (k := 1) (n := 6) (Nat.zero_le _) (Nat.zero_le _) ?_
  refine lv_iconst (v := 0) C.x C.b dL_resend_18 (by decide) ?_
  exact z_iret C hw dL_resend_19 (rfl) (by rw [ez_1]; rfl)

theorem wx_resend1 {G : zG} {N : Nat} {Λ : zLay} {l : Launch} (hO : zOK G l) (z : zM) (hA : zPo G N Λ) (hJl : 275 < N) (hJ : zJA G Λ 275 1) {a0 : Int32} (hm : zMX G N Λ l yX3_resend cX3_resend 5 (some .int) 7 [.ref (G.h + 0), .int a0] z "java/lang/IndexOutOfBoundsException") : zMW G N Λ l yL_resend cL_resend 4 (some .int) [(0, 9, 12, 19), (0, 9, 15, 21)] 9 [.ref (G.h + 0), .int a0, .ref (G.h + 275)] z (some (.int 1)) z := by
  refine zMW_of hO (by decide) (Nat.le_of_ble_eq_true rfl) cwL_resend ?_
  intro pP eE sS mM bB tT cC ls C htab hw hl
  have hl : lv_has ls 4 [(0, .ref (G.h + 0)), (1, .int a0), (2, .ref (G.h + 275))] := hl
  refine lv_aload_n C.x C.b dL_resend_0 rfl (lv_at hl 2 rfl) ?_
  refine lv_iconst (v := 0) C.x C.b dL_resend_1 (by decide) ?_
  refine lv_aload_n C.x C.b dL_resend_2 rfl (lv_at hl 0 rfl) ?_
  refine lv_iload_n C.x C.b dL_resend_3 rfl (lv_at hl 1 rfl) ?_
  refine z_VC (As := [.int a0]) (rest := [.int 0, .ref (G.h + 275)]) [] ⟨0, 9, 12, 19⟩ [⟨0, 9, 15, 21⟩] C htab rfl (fun r hr => by cases hr) rfl (by decide) zl_19 zc_IOB hw hl hm ivL_40 hA.lt (hA.at _ _) rfl rfl ⟨(Nat.le_of_ble_eq_true rfl), (Nat.le_of_ble_eq_true rfl)⟩ (Nat.le_of_ble_eq_true rfl) ⟨(Nat.le_of_ble_eq_true rfl), (Nat.le_of_ble_eq_true rfl)⟩ dL_resend_4 (fun H locs q hw => ?_)
  refine lv_astore_n (lv' := [(3, .ref q), (0, .ref (G.h + 0)), (1, .int a0), (2, .ref (G.h + 275))]) C.x C.b dL_resend_12 rfl hl (by decide) rfl (fun ls hl => ?_)
  refine lv_iconst (v := 1) C.x C.b dL_resend_13 (by decide) ?_
  exact z_iret C hw dL_resend_14 (rfl) (rfl)

theorem wx_resend2 {G : zG} {N : Nat} {Λ : zLay} {l : Launch} (hO : zOK G l) (z : zM) (hA : zPo G N Λ) (hJl : 275 < N) (hJ : zJA G Λ 275 1) {a0 : Int32} (hm : zMX G N Λ l yX3_resend cX3_resend 5 (some .int) 6 [.ref (G.h + 0), .int a0] z "java/lang/IllegalStateException") : zMW G N Λ l yL_resend cL_resend 4 (some .int) [(0, 9, 12, 19), (0, 9, 15, 21)] 9 [.ref (G.h + 0), .int a0, .ref (G.h + 275)] z (some (.int 2)) z := by
  refine zMW_of hO (by decide) (Nat.le_of_ble_eq_true rfl) cwL_resend ?_
  intro pP eE sS mM bB tT cC ls C htab hw hl
  have hl : lv_has ls 4 [(0, .ref (G.h + 0)), (1, .int a0), (2, .ref (G.h + 275))] := hl
  refine lv_aload_n C.x C.b dL_resend_0 rfl (lv_at hl 2 rfl) ?_
  refine lv_iconst (v := 0) C.x C.b dL_resend_1 (by decide) ?_
  refine lv_aload_n C.x C.b dL_resend_2 rfl (lv_at hl 0 rfl) ?_
  refine lv_iload_n C.x C.b dL_resend_3 rfl (lv_at hl 1 rfl) ?_
  refine z_VC (As := [.int a0]) (rest := [.int 0, .ref (G.h + 275)]) [⟨0, 9, 12, 19⟩] ⟨0, 9, 15, 21⟩ [] C htab rfl (fun r hr => by
      rcases List.mem_cons.mp hr with rfl | hr
      · exact ⟨by decide, _, zl_19, zn_SO⟩
      cases hr) rfl (by decide) zl_21 zc_ISE hw hl hm ivL_40 hA.lt (hA.at _ _) rfl rfl ⟨(Nat.le_of_ble_eq_true rfl), (Nat.le_of_ble_eq_true rfl)⟩ (Nat.le_of_ble_eq_true rfl) ⟨(Nat.le_of_ble_eq_true rfl), (Nat.le_of_ble_eq_true rfl)⟩ dL_resend_4 (fun H locs q hw => ?_)
  refine lv_astore_n (lv' := [(3, .ref q), (0, .ref (G.h + 0)), (1, .int a0), (2, .ref (G.h + 275))]) C.x C.b dL_resend_15 rfl hl (by decide) rfl (fun ls hl => ?_)
  refine lv_iconst (v := 2) C.x C.b dL_resend_16 (by decide) ?_
  exact z_iret C hw dL_resend_17 (rfl) (rfl)

theorem cwL_lie : zW (.codeWith yL_lie cL_lie 4 (some .int) [(0, 16, 19, 19)]) := ⟨by decide +kernel, rfl⟩
theorem w_lie {G : zG} {N : Nat} {Λ : zLay} {l : Launch} (hO : zOK G l) (z : zM) (hA : zPo G N Λ) (hJl : 275 < N) (hJ : zJA G Λ 275 1) {a0 : Int32} {z' : zM} {b : Nat} (hb : b < 2) (hm : zMet G N Λ l yX3_lie cX3_lie 4 (some .boolean) 5 [.ref (G.h + 0), .int a0] z (some (.int (nI b))) z') : zMW G N Λ l yL_lie cL_lie 4 (some .int) [(0, 16, 19, 19)] 9 [.ref (G.h + 0), .int a0, .ref (G.h + 275)] z (some (.int 0)) (zl z' 275 0 (nI b).toInt64) := by
  refine zMW_of hO (by decide) (Nat.le_of_ble_eq_true rfl) cwL_lie ?_
  intro pP eE sS mM bB tT cC ls C htab hw hl
  have hl : lv_has ls 4 [(0, .ref (G.h + 0)), (1, .int a0), (2, .ref (G.h + 275))] := hl
  refine lv_aload_n C.x C.b dL_lie_0 rfl (lv_at hl 2 rfl) ?_
  refine lv_iconst (v := 0) C.x C.b dL_lie_1 (by decide) ?_
  refine lv_aload_n C.x C.b dL_lie_2 rfl (lv_at hl 0 rfl) ?_
  refine lv_iload_n C.x C.b dL_lie_3 rfl (lv_at hl 1 rfl) ?_
  refine z_Vv (As := [.int a0]) (rest := [.int 0, .ref (G.h + 275)]) C hw hl (hm) ivL_43 hA.lt (hA.at _ _) rfl rfl ⟨(Nat.le_of_ble_eq_true rfl), (Nat.le_of_ble_eq_true rfl)⟩ (Nat.le_of_ble_eq_true rfl) ⟨Nat.zero_le _, Nat.zero_le _⟩ dL_lie_4 (fun H locs hw => ?_)
  refine lv_if_eq (tgt := 14) C.x C.b dL_lie_7 (by decide) (fun c_7 => ?_) (fun c_7 => ?_)
  · refine lv_lconst (v := 0) C.x C.b dL_lie_14 (by decide) ?_
    refine z_topl (y := (nI b).toInt64) (by rw [zzero (by omega) c_7]; rfl) ?_
    refine z_last C hw hJl hJ ((zvin (x := 0) (by omega) (by omega))) dL_lie_15 (fun H locs hw => ?_)
    obtain ⟨z_1, ez_1⟩ : ∃ q_9, q_9 = zl z' 275 (0 : Int32).toNatClampNeg ((nI b).toInt64) := ⟨_, rfl⟩
    have hw : zS G N Λ z_1 sS H locs := by rw [ez_1]; exact hw
    refine lv_goto (tgt := 22) C.x C.b dL_lie_16 (by decide) ?_
    refine z_wid (k := 1) (n := 6) (Nat.zero_le _) (Nat.zero_le _) ?_
    refine lv_iconst (v := 0) C.x C.b dL_lie_22 (by decide) ?_
    exact z_iret C hw dL_lie_23 (rfl) (by rw [ez_1]; rfl)
  · refine lv_lconst (v := 1) C.x C.b dL_lie_10 (by decide) ?_
    refine lv_goto (tgt := 15) C.x C.b dL_lie_11 (by decide) ?_
    refine z_topl (y := (nI b).toInt64) (by rw [zbl1 hb c_7]; rfl) ?_
    refine z_last C hw hJl hJ ((zvin (x := 0) (by omega) (by omega))) dL_lie_15 (fun H locs hw => ?_)
    obtain ⟨z_2, ez_2⟩ : ∃ q_9, q_9 = zl z' 275 (0 : Int32).toNatClampNeg ((nI b).toInt64) := ⟨_, rfl⟩
    have hw : zS G N Λ z_2 sS H locs := by rw [ez_2]; exact hw
    refine lv_goto (tgt := 22) C.x C.b dL_lie_16 (by decide) ?_
    refine z_wid (k := 1) (n := 6) (Nat.zero_le _) (Nat.zero_le _) ?_
    refine lv_iconst (v := 0) C.x C.b dL_lie_22 (by decide) ?_
    exact z_iret C hw dL_lie_23 (rfl) (by rw [ez_2]; rfl)

theorem wx_lie1 {G : zG} {N : Nat} {Λ : zLay} {l : Launch} (hO : zOK G l) (z : zM) (hA : zPo G N Λ) (hJl : 275 < N) (hJ : zJA G Λ 275 1) {a0 : Int32} (hm : zMX G N Λ l yX3_lie cX3_lie 4 (some .boolean) 7 [.ref (G.h + 0), .int a0] z "java/lang/IndexOutOfBoundsException") : zMW G N Λ l yL_lie cL_lie 4 (some .int) [(0, 16, 19, 19)] 9 [.ref (G.h + 0), .int a0, .ref (G.h + 275)] z (some (.int 1)) z := by
  refine zMW_of hO (by decide) (Nat.le_of_ble_eq_true rfl) cwL_lie ?_
  intro pP eE sS mM bB tT cC ls C htab hw hl
  have hl : lv_has ls 4 [(0, .ref (G.h + 0)), (1, .int a0), (2, .ref (G.h + 275))] := hl
  refine lv_aload_n C.x C.b dL_lie_0 rfl (lv_at hl 2 rfl) ?_
  refine lv_iconst (v := 0) C.x C.b dL_lie_1 (by decide) ?_
  refine lv_aload_n C.x C.b dL_lie_2 rfl (lv_at hl 0 rfl) ?_
  refine lv_iload_n C.x C.b dL_lie_3 rfl (lv_at hl 1 rfl) ?_
  refine z_VC (As := [.int a0]) (rest := [.int 0, .ref (G.h + 275)]) [] ⟨0, 16, 19, 19⟩ [] C htab rfl (fun r hr => by cases hr) rfl (by decide) zl_19 zc_IOB hw hl hm ivL_43 hA.lt (hA.at _ _) rfl rfl ⟨(Nat.le_of_ble_eq_true rfl), (Nat.le_of_ble_eq_true rfl)⟩ (Nat.le_of_ble_eq_true rfl) ⟨(Nat.le_of_ble_eq_true rfl), (Nat.le_of_ble_eq_true rfl)⟩ dL_lie_4 (fun H locs q hw => ?_)
  refine lv_astore_n (lv' := [(3, .ref q), (0, .ref (G.h + 0)), (1, .int a0), (2, .ref (G.h + 275))]) C.x C.b dL_lie_19 rfl hl (by decide) rfl (fun ls hl => ?_)
  refine lv_iconst (v := 1) C.x C.b dL_lie_20 (by decide) ?_
  exact z_iret C hw dL_lie_21 (rfl) (rfl)

theorem cwL_tamper : zW (.codeWith yL_tamper cL_tamper 6 (some .int) [(0, 12, 15, 19), (0, 12, 19, 13)]) := ⟨by decide +kernel, rfl⟩
theorem w_tamper {G : zG} {N : Nat} {Λ : zLay} {l : Launch} (hO : zOK G l) (z : zM) (hA : zPo G N Λ) (hJl : 275 < N) (hJ : zJA G Λ 275 1) {a0 a1 a2 : Int32} {z' : zM} {v : Int32} (hm : zMet G N Λ l yX3_tamper cX3_tamper 6 (some .int) 5 [.ref (G.h + 0), .int a0, .int a1, .int a2] z (some (.int v)) z') : zMW G N Λ l yL_tamper cL_tamper 6 (some .int) [(0, 12, 15, 19), (0, 12, 19, 13)] 9 [.ref (G.h + 0), .int a0, .int a1, .int a2, .ref (G.h + 275)] z (some (.int 0)) (zl z' 275 0 v.toInt64) := by
  refine zMW_of hO (by decide) (Nat.le_of_ble_eq_true rfl) cwL_tamper ?_
  intro pP eE sS mM bB tT cC ls C htab hw hl
  have hl : lv_has ls 6 [(0, .ref (G.h + 0)), (1, .int a0), (2, .int a1), (3, .int a2), (4, .ref (G.h + 275))] := hl
  refine lv_aload C.x C.b dL_tamper_0 (lv_at hl 4 rfl) ?_
  refine lv_iconst (v := 0) C.x C.b dL_tamper_2 (by decide) ?_
  refine lv_aload_n C.x C.b dL_tamper_3 rfl (lv_at hl 0 rfl) ?_
  refine lv_iload_n C.x C.b dL_tamper_4 rfl (lv_at hl 1 rfl) ?_
  refine lv_iload_n C.x C.b dL_tamper_5 rfl (lv_at hl 2 rfl) ?_
  refine lv_iload_n C.x C.b dL_tamper_6 rfl (lv_at hl 3 rfl) ?_
  refine z_Vv (As := [.int a0, .int a1, .int a2]) (rest := [.int 0, .ref (G.h + 275)]) C hw hl (hm) ivL_47 hA.lt (hA.at _ _) rfl rfl ⟨(Nat.le_of_ble_eq_true rfl), (Nat.le_of_ble_eq_true rfl)⟩ (Nat.le_of_ble_eq_true rfl) ⟨Nat.zero_le _, Nat.zero_le _⟩ dL_tamper_7 (fun H locs hw => ?_)
  refine lv_i2l C.x C.b dL_tamper_10 rfl ?_
  refine z_last C hw hJl hJ ((zvin (x := 0) (by omega) (by omega))) dL_tamper_11 (fun H locs hw => ?_)
  obtain ⟨z_1, ez_1⟩ : ∃ q_9, q_9 = zl z' 275 (0 : Int32).toNatClampNeg v.toInt64 := ⟨_, rfl⟩
  have hw : zS G N Λ z_1 sS H locs := by rw [ez_1]; exact hw
  refine lv_goto (tgt := 23) C.x C.b dL_tamper_12 (by decide) ?_
  refine z_wid (k := 1) (n := 6) (Nat.zero_le _) (Nat.zero_le _) ?_
  refine lv_iconst (v := 0) C.x C.b dL_tamper_23 (by decide) ?_
  exact z_iret C hw dL_tamper_24 (rfl) (by rw [ez_1]; rfl)

theorem wx_tamper1 {G : zG} {N : Nat} {Λ : zLay} {l : Launch} (hO : zOK G l) (z : zM) (hA : zPo G N Λ) (hJl : 275 < N) (hJ : zJA G Λ 275 1) {a0 a1 a2 : Int32} (hm : zMX G N Λ l yX3_tamper cX3_tamper 6 (some .int) 8 [.ref (G.h + 0), .int a0, .int a1, .int a2] z "java/lang/IndexOutOfBoundsException") : zMW G N Λ l yL_tamper cL_tamper 6 (some .int) [(0, 12, 15, 19), (0, 12, 19, 13)] 9 [.ref (G.h + 0), .int a0, .int a1, .int a2, .ref (G.h + 275)] z (some (.int 1)) z := by
  refine zMW_of hO (by decide) (Nat.le_of_ble_eq_true rfl) cwL_tamper ?_
  intro pP eE sS mM bB tT cC ls C htab hw hl
  have hl : lv_has ls 6 [(0, .ref (G.h + 0)), (1, .int a0), (2, .int a1), (3, .int a2), (4, .ref (G.h + 275))] := hl
  refine lv_aload C.x C.b dL_tamper_0 (lv_at hl 4 rfl) ?_
  refine lv_iconst (v := 0) C.x C.b dL_tamper_2 (by decide) ?_
  refine lv_aload_n C.x C.b dL_tamper_3 rfl (lv_at hl 0 rfl) ?_
  refine lv_iload_n C.x C.b dL_tamper_4 rfl (lv_at hl 1 rfl) ?_
  refine lv_iload_n C.x C.b dL_tamper_5 rfl (lv_at hl 2 rfl) ?_
  refine lv_iload_n C.x C.b dL_tamper_6 rfl (lv_at hl 3 rfl) ?_
  refine z_VC (As := [.int a0, .int a1, .int a2]) (rest := [.int 0, .ref (G.h + 275)]) [] ⟨0, 12, 15, 19⟩ [⟨0, 12, 19, 13⟩] C htab rfl (fun r hr => by cases hr) rfl (by decide) zl_19 zc_IOB hw hl hm ivL_47 hA.lt (hA.at _ _) rfl rfl ⟨(Nat.le_of_ble_eq_true rfl), (Nat.le_of_ble_eq_true rfl)⟩ (Nat.le_of_ble_eq_true rfl) ⟨(Nat.le_of_ble_eq_true rfl), (Nat.le_of_ble_eq_true rfl)⟩ dL_tamper_7 (fun H locs q hw => ?_)
  refine lv_astore (lv' := [(5, .ref q), (0, .ref (G.h + 0)), (1, .int a0), (2, .int a1), (3, .int a2), (4, .ref (G.h + 275))]) C.x C.b dL_tamper_15 hl (by decide) rfl (fun ls hl => ?_)
  refine lv_iconst (v := 1) C.x C.b dL_tamper_17 (by decide) ?_
  exact z_iret C hw dL_tamper_18 (rfl) (rfl)

theorem wx_tamper2 {G : zG} {N : Nat} {Λ : zLay} {l : Launch} (hO : zOK G l) (z : zM) (hA : zPo G N Λ) (hJl : 275 < N) (hJ : zJA G Λ 275 1) {a0 a1 a2 : Int32} (hm : zMX G N Λ l yX3_tamper cX3_tamper 6 (some .int) 8 [.ref (G.h + 0), .int a0, .int a1, .int a2] z "java/lang/IllegalArgumentException") : zMW G N Λ l yL_tamper cL_tamper 6 (some .int) [(0, 12, 15, 19), (0, 12, 19, 13)] 9 [.ref (G.h + 0), .int a0, .int a1, .int a2, .ref (G.h + 275)] z (some (.int 2)) z := by
  refine zMW_of hO (by decide) (Nat.le_of_ble_eq_true rfl) cwL_tamper ?_
  intro pP eE sS mM bB tT cC ls C htab hw hl
  have hl : lv_has ls 6 [(0, .ref (G.h + 0)), (1, .int a0), (2, .int a1), (3, .int a2), (4, .ref (G.h + 275))] := hl
  refine lv_aload C.x C.b dL_tamper_0 (lv_at hl 4 rfl) ?_
  refine lv_iconst (v := 0) C.x C.b dL_tamper_2 (by decide) ?_
  refine lv_aload_n C.x C.b dL_tamper_3 rfl (lv_at hl 0 rfl) ?_
  refine lv_iload_n C.x C.b dL_tamper_4 rfl (lv_at hl 1 rfl) ?_
  refine lv_iload_n C.x C.b dL_tamper_5 rfl (lv_at hl 2 rfl) ?_
  refine lv_iload_n C.x C.b dL_tamper_6 rfl (lv_at hl 3 rfl) ?_
  refine z_VC (As := [.int a0, .int a1, .int a2]) (rest := [.int 0, .ref (G.h + 275)]) [⟨0, 12, 15, 19⟩] ⟨0, 12, 19, 13⟩ [] C htab rfl (fun r hr => by
      rcases List.mem_cons.mp hr with rfl | hr
      · exact ⟨by decide, _, zl_19, zn_AO⟩
      cases hr) rfl (by decide) zl_13 zc_IAE hw hl hm ivL_47 hA.lt (hA.at _ _) rfl rfl ⟨(Nat.le_of_ble_eq_true rfl), (Nat.le_of_ble_eq_true rfl)⟩ (Nat.le_of_ble_eq_true rfl) ⟨(Nat.le_of_ble_eq_true rfl), (Nat.le_of_ble_eq_true rfl)⟩ dL_tamper_7 (fun H locs q hw => ?_)
  refine lv_astore (lv' := [(5, .ref q), (0, .ref (G.h + 0)), (1, .int a0), (2, .int a1), (3, .int a2), (4, .ref (G.h + 275))]) C.x C.b dL_tamper_19 hl (by decide) rfl (fun ls hl => ?_)
  refine lv_iconst (v := 2) C.x C.b dL_tamper_21 (by decide) ?_
  exact z_iret C hw dL_tamper_22 (rfl) (rfl)

theorem cwL_cut : zW (.codeWith yL_cut cL_cut 5 (some .int) [(0, 10, 13, 19), (0, 10, 17, 13)]) := ⟨by decide +kernel, rfl⟩
theorem w_cut {G : zG} {N : Nat} {Λ : zLay} {l : Launch} (hO : zOK G l) (z : zM) (hA : zPo G N Λ) (hJl : 275 < N) (hJ : zJA G Λ 275 1) {a0 a1 : Int32} {z' : zM} {v : Int32} (hm : zMet G N Λ l yX3_cut cX3_cut 4 (some .int) 5 [.ref (G.h + 0), .int a0, .int a1] z (some (.int v)) z') : zMW G N Λ l yL_cut cL_cut 5 (some .int) [(0, 10, 13, 19), (0, 10, 17, 13)] 9 [.ref (G.h + 0), .int a0, .int a1, .ref (G.h + 275)] z (some (.int 0)) (zl z' 275 0 v.toInt64) := by
  refine zMW_of hO (by decide) (Nat.le_of_ble_eq_true rfl) cwL_cut ?_
  intro pP eE sS mM bB tT cC ls C htab hw hl
  have hl : lv_has ls 5 [(0, .ref (G.h + 0)), (1, .int a0), (2, .int a1), (3, .ref (G.h + 275))] := hl
  refine lv_aload_n C.x C.b dL_cut_0 rfl (lv_at hl 3 rfl) ?_
  refine lv_iconst (v := 0) C.x C.b dL_cut_1 (by decide) ?_
  refine lv_aload_n C.x C.b dL_cut_2 rfl (lv_at hl 0 rfl) ?_
  refine lv_iload_n C.x C.b dL_cut_3 rfl (lv_at hl 1 rfl) ?_
  refine lv_iload_n C.x C.b dL_cut_4 rfl (lv_at hl 2 rfl) ?_
  refine z_Vv (As := [.int a0, .int a1]) (rest := [.int 0, .ref (G.h + 275)]) C hw hl (hm) ivL_51 hA.lt (hA.at _ _) rfl rfl ⟨(Nat.le_of_ble_eq_true rfl), (Nat.le_of_ble_eq_true rfl)⟩ (Nat.le_of_ble_eq_true rfl) ⟨Nat.zero_le _, Nat.zero_le _⟩ dL_cut_5 (fun H locs hw => ?_)
  refine lv_i2l C.x C.b dL_cut_8 rfl ?_
  refine z_last C hw hJl hJ ((zvin (x := 0) (by omega) (by omega))) dL_cut_9 (fun H locs hw => ?_)
  obtain ⟨z_1, ez_1⟩ : ∃ q_9, q_9 = zl z' 275 (0 : Int32).toNatClampNeg v.toInt64 := ⟨_, rfl⟩
  have hw : zS G N Λ z_1 sS H locs := by rw [ez_1]; exact hw
  refine lv_goto (tgt := 21) C.x C.b dL_cut_10 (by decide) ?_
  refine z_wid (k := 1) (n := 6) (Nat.zero_le _) (Nat.zero_le _) ?_
  refine lv_iconst (v := 0) C.x C.b dL_cut_21 (by decide) ?_
  exact z_iret C hw dL_cut_22 (rfl) (by rw [ez_1]; rfl)

theorem wx_cut1 {G : zG} {N : Nat} {Λ : zLay} {l : Launch} (hO : zOK G l) (z : zM) (hA : zPo G N Λ) (hJl : 275 < N) (hJ : zJA G Λ 275 1) {a0 a1 : Int32} (hm : zMX G N Λ l yX3_cut cX3_cut 4 (some .int) 7 [.ref (G.h + 0), .int a0, .int a1] z "java/lang/IndexOutOfBoundsException") : zMW G N Λ l yL_cut cL_cut 5 (some .int) [(0, 10, 13, 19), (0, 10, 17, 13)] 9 [.ref (G.h + 0), .int a0, .int a1, .ref (G.h + 275)] z (some (.int 1)) z := by
  refine zMW_of hO (by decide) (Nat.le_of_ble_eq_true rfl) cwL_cut ?_
  intro pP eE sS mM bB tT cC ls C htab hw hl
  have hl : lv_has ls 5 [(0, .ref (G.h + 0)), (1, .int a0), (2, .int a1), (3, .ref (G.h + 275))] := hl
  refine lv_aload_n C.x C.b dL_cut_0 rfl (lv_at hl 3 rfl) ?_
  refine lv_iconst (v := 0) C.x C.b dL_cut_1 (by decide) ?_
  refine lv_aload_n C.x C.b dL_cut_2 rfl (lv_at hl 0 rfl) ?_
  refine lv_iload_n C.x C.b dL_cut_3 rfl (lv_at hl 1 rfl) ?_
  refine lv_iload_n C.x C.b dL_cut_4 rfl (lv_at hl 2 rfl) ?_
  refine z_VC (As := [.int a0, .int a1]) (rest := [.int 0, .ref (G.h + 275)]) [] ⟨0, 10, 13, 19⟩ [⟨0, 10, 17, 13⟩] C htab rfl (fun r hr => by cases hr) rfl (by decide) zl_19 zc_IOB hw hl hm ivL_51 hA.lt (hA.at _ _) rfl rfl ⟨(Nat.le_of_ble_eq_true rfl), (Nat.le_of_ble_eq_true rfl)⟩ (Nat.le_of_ble_eq_true rfl) ⟨(Nat.le_of_ble_eq_true rfl), (Nat.le_of_ble_eq_true rfl)⟩ dL_cut_5 (fun H locs q hw => ?_)
  refine lv_astore (lv' := [(4, .ref q), (0, .ref (G.h + 0)), (1, .int a0), (2, .int a1), (3, .ref (G.h + 275))]) C.x C.b dL_cut_13 hl (by decide) rfl (fun ls hl => ?_)
  refine lv_iconst (v := 1) C.x C.b dL_cut_15 (by decide) ?_
  exact z_iret C hw dL_cut_16 (rfl) (rfl)

theorem wx_cut2 {G : zG} {N : Nat} {Λ : zLay} {l : Launch} (hO : zOK G l) (z : zM) (hA : zPo G N Λ) (hJl : 275 < N) (hJ : zJA G Λ 275 1) {a0 a1 : Int32} (hm : zMX G N Λ l yX3_cut cX3_cut 4 (some .int) 6 [.ref (G.h + 0), .int a0, .int a1] z "java/lang/IllegalArgumentException") : zMW G N Λ l yL_cut cL_cut 5 (some .int) [(0, 10, 13, 19), (0, 10, 17, 13)] 9 [.ref (G.h + 0), .int a0, .int a1, .ref (G.h + 275)] z (some (.int 2)) z := by
  refine zMW_of hO (by decide) (Nat.le_of_ble_eq_true rfl) cwL_cut ?_
  intro pP eE sS mM bB tT cC ls C htab hw hl
  have hl : lv_has ls 5 [(0, .ref (G.h + 0)), (1, .int a0), (2, .int a1), (3, .ref (G.h + 275))] := hl
  refine lv_aload_n C.x C.b dL_cut_0 rfl (lv_at hl 3 rfl) ?_
  refine lv_iconst (v := 0) C.x C.b dL_cut_1 (by decide) ?_
  refine lv_aload_n C.x C.b dL_cut_2 rfl (lv_at hl 0 rfl) ?_
  refine lv_iload_n C.x C.b dL_cut_3 rfl (lv_at hl 1 rfl) ?_
  refine lv_iload_n C.x C.b dL_cut_4 rfl (lv_at hl 2 rfl) ?_
  refine z_VC (As := [.int a0, .int a1]) (rest := [.int 0, .ref (G.h + 275)]) [⟨0, 10, 13, 19⟩] ⟨0, 10, 17, 13⟩ [] C htab rfl (fun r hr => by
      rcases List.mem_cons.mp hr with rfl | hr
      · exact ⟨by decide, _, zl_19, zn_AO⟩
      cases hr) rfl (by decide) zl_13 zc_IAE hw hl hm ivL_51 hA.lt (hA.at _ _) rfl rfl ⟨(Nat.le_of_ble_eq_true rfl), (Nat.le_of_ble_eq_true rfl)⟩ (Nat.le_of_ble_eq_true rfl) ⟨(Nat.le_of_ble_eq_true rfl), (Nat.le_of_ble_eq_true rfl)⟩ dL_cut_5 (fun H locs q hw => ?_)
  refine lv_astore (lv' := [(4, .ref q), (0, .ref (G.h + 0)), (1, .int a0), (2, .int a1), (3, .ref (G.h + 275))]) C.x C.b dL_cut_17 hl (by decide) rfl (fun ls hl => ?_)
  refine lv_iconst (v := 2) C.x C.b dL_cut_19 (by decide) ?_
  exact z_iret C hw dL_cut_20 (rfl) (rfl)

theorem cwL_logLength : zW (.codeWith yL_logLength cL_logLength 4 (some .int) [(0, 9, 12, 19)]) := ⟨by decide +kernel, rfl⟩
theorem w_logLength {G : zG} {N : Nat} {Λ : zLay} {l : Launch} (hO : zOK G l) (z : zM) (hA : zPo G N Λ) (hJl : 275 < N) (hJ : zJA G Λ 275 1) {a0 : Int32} {z' : zM} {v : Int32} (hm : zMet G N Λ l yX3_logLength cX3_logLength 2 (some .int) 2 [.ref (G.h + 0), .int a0] z (some (.int v)) z') : zMW G N Λ l yL_logLength cL_logLength 4 (some .int) [(0, 9, 12, 19)] 9 [.ref (G.h + 0), .int a0, .ref (G.h + 275)] z (some (.int 0)) (zl z' 275 0 v.toInt64) := by
  refine zMW_of hO (by decide) (Nat.le_of_ble_eq_true rfl) cwL_logLength ?_
  intro pP eE sS mM bB tT cC ls C htab hw hl
  have hl : lv_has ls 4 [(0, .ref (G.h + 0)), (1, .int a0), (2, .ref (G.h + 275))] := hl
  refine lv_aload_n C.x C.b dL_logLength_0 rfl (lv_at hl 2 rfl) ?_
  refine lv_iconst (v := 0) C.x C.b dL_logLength_1 (by decide) ?_
  refine lv_aload_n C.x C.b dL_logLength_2 rfl (lv_at hl 0 rfl) ?_
  refine lv_iload_n C.x C.b dL_logLength_3 rfl (lv_at hl 1 rfl) ?_
  refine z_Vv (As := [.int a0]) (rest := [.int 0, .ref (G.h + 275)]) C hw hl (hm) ivL_54 hA.lt (hA.at _ _) rfl rfl ⟨(Nat.le_of_ble_eq_true rfl), (Nat.le_of_ble_eq_true rfl)⟩ (Nat.le_of_ble_eq_true rfl) ⟨Nat.zero_le _, Nat.zero_le _⟩ dL_logLength_4 (fun H locs hw => ?_)
  refine lv_i2l C.x C.b dL_logLength_7 rfl ?_
  refine z_last C hw hJl hJ ((zvin (x := 0) (by omega) (by omega))) dL_logLength_8 (fun H locs hw => ?_)
  obtain ⟨z_1, ez_1⟩ : ∃ q_9, q_9 = zl z' 275 (0 : Int32).toNatClampNeg v.toInt64 := ⟨_, rfl⟩
  have hw : zS G N Λ z_1 sS H locs := by rw [ez_1]; exact hw
  refine lv_goto (tgt := 15) C.x C.b dL_logLength_9 (by decide) ?_
  refine z_wid (k := 1) (n := 6) (Nat.zero_le _) (Nat.zero_le _) ?_
  refine lv_iconst (v := 0) C.x C.b dL_logLength_15 (by decide) ?_
  exact z_iret C hw dL_logLength_16 (rfl) (by rw [ez_1]; rfl)

theorem wx_logLength1 {G : zG} {N : Nat} {Λ : zLay} {l : Launch} (hO : zOK G l) (z : zM) (hA : zPo G N Λ) (hJl : 275 < N) (hJ : zJA G Λ 275 1) {a0 : Int32} (hm : zMX G N Λ l yX3_logLength cX3_logLength 2 (some .int) 7 [.ref (G.h + 0), .int a0] z "java/lang/IndexOutOfBoundsException") : zMW G N Λ l yL_logLength cL_logLength 4 (some .int) [(0, 9, 12, 19)] 9 [.ref (G.h + 0), .int a0, .ref (G.h + 275)] z (some (.int 1)) z := by
  refine zMW_of hO (by decide) (Nat.le_of_ble_eq_true rfl) cwL_logLength ?_
  intro pP eE sS mM bB tT cC ls C htab hw hl
  have hl : lv_has ls 4 [(0, .ref (G.h + 0)), (1, .int a0), (2, .ref (G.h + 275))] := hl
  refine lv_aload_n C.x C.b dL_logLength_0 rfl (lv_at hl 2 rfl) ?_
  refine lv_iconst (v := 0) C.x C.b dL_logLength_1 (by decide) ?_
  refine lv_aload_n C.x C.b dL_logLength_2 rfl (lv_at hl 0 rfl) ?_
  refine lv_iload_n C.x C.b dL_logLength_3 rfl (lv_at hl 1 rfl) ?_
  refine z_VC (As := [.int a0]) (rest := [.int 0, .ref (G.h + 275)]) [] ⟨0, 9, 12, 19⟩ [] C htab rfl (fun r hr => by cases hr) rfl (by decide) zl_19 zc_IOB hw hl hm ivL_54 hA.lt (hA.at _ _) rfl rfl ⟨(Nat.le_of_ble_eq_true rfl), (Nat.le_of_ble_eq_true rfl)⟩ (Nat.le_of_ble_eq_true rfl) ⟨(Nat.le_of_ble_eq_true rfl), (Nat.le_of_ble_eq_true rfl)⟩ dL_logLength_4 (fun H locs q hw => ?_)
  refine lv_astore_n (lv' := [(3, .ref q), (0, .ref (G.h + 0)), (1, .int a0), (2, .ref (G.h + 275))]) C.x C.b dL_logLength_12 rfl hl (by decide) rfl (fun ls hl => ?_)
  refine lv_iconst (v := 1) C.x C.b dL_logLength_13 (by decide) ?_
  exact z_iret C hw dL_logLength_14 (rfl) (rfl)

theorem cwL_entry : zW (.codeWith yL_entry cL_entry 5 (some .int) [(0, 10, 13, 19)]) := ⟨by decide +kernel, rfl⟩
theorem w_entry {G : zG} {N : Nat} {Λ : zLay} {l : Launch} (hO : zOK G l) (z : zM) (hA : zPo G N Λ) (hJl : 275 < N) (hJ : zJA G Λ 275 1) {a0 a1 : Int32} {z' : zM} {v : Int32} (hm : zMet G N Λ l yX3_entry cX3_entry 3 (some .int) 3 [.ref (G.h + 0), .int a0, .int a1] z (some (.int v)) z') : zMW G N Λ l yL_entry cL_entry 5 (some .int) [(0, 10, 13, 19)] 9 [.ref (G.h + 0), .int a0, .int a1, .ref (G.h + 275)] z (some (.int 0)) (zl z' 275 0 v.toInt64) := by
  refine zMW_of hO (by decide) (Nat.le_of_ble_eq_true rfl) cwL_entry ?_
  intro pP eE sS mM bB tT cC ls C htab hw hl
  have hl : lv_has ls 5 [(0, .ref (G.h + 0)), (1, .int a0), (2, .int a1), (3, .ref (G.h + 275))] := hl
  refine lv_aload_n C.x C.b dL_entry_0 rfl (lv_at hl 3 rfl) ?_
  refine lv_iconst (v := 0) C.x C.b dL_entry_1 (by decide) ?_
  refine lv_aload_n C.x C.b dL_entry_2 rfl (lv_at hl 0 rfl) ?_
  refine lv_iload_n C.x C.b dL_entry_3 rfl (lv_at hl 1 rfl) ?_
  refine lv_iload_n C.x C.b dL_entry_4 rfl (lv_at hl 2 rfl) ?_
  refine z_Vv (As := [.int a0, .int a1]) (rest := [.int 0, .ref (G.h + 275)]) C hw hl (hm) ivL_57 hA.lt (hA.at _ _) rfl rfl ⟨(Nat.le_of_ble_eq_true rfl), (Nat.le_of_ble_eq_true rfl)⟩ (Nat.le_of_ble_eq_true rfl) ⟨Nat.zero_le _, Nat.zero_le _⟩ dL_entry_5 (fun H locs hw => ?_)
  refine lv_i2l C.x C.b dL_entry_8 rfl ?_
  refine z_last C hw hJl hJ ((zvin (x := 0) (by omega) (by omega))) dL_entry_9 (fun H locs hw => ?_)
  obtain ⟨z_1, ez_1⟩ : ∃ q_9, q_9 = zl z' 275 (0 : Int32).toNatClampNeg v.toInt64 := ⟨_, rfl⟩
  have hw : zS G N Λ z_1 sS H locs := by rw [ez_1]; exact hw
  refine lv_goto (tgt := 17) C.x C.b dL_entry_10 (by decide) ?_
  refine z_wid (k := 1) (n := 6) (Nat.zero_le _) (Nat.zero_le _) ?_
  refine lv_iconst (v := 0) C.x C.b dL_entry_17 (by decide) ?_
  exact z_iret C hw dL_entry_18 (rfl) (by rw [ez_1]; rfl)

theorem wx_entry1 {G : zG} {N : Nat} {Λ : zLay} {l : Launch} (hO : zOK G l) (z : zM) (hA : zPo G N Λ) (hJl : 275 < N) (hJ : zJA G Λ 275 1) {a0 a1 : Int32} (hm : zMX G N Λ l yX3_entry cX3_entry 3 (some .int) 8 [.ref (G.h + 0), .int a0, .int a1] z "java/lang/IndexOutOfBoundsException") : zMW G N Λ l yL_entry cL_entry 5 (some .int) [(0, 10, 13, 19)] 9 [.ref (G.h + 0), .int a0, .int a1, .ref (G.h + 275)] z (some (.int 1)) z := by
  refine zMW_of hO (by decide) (Nat.le_of_ble_eq_true rfl) cwL_entry ?_
  intro pP eE sS mM bB tT cC ls C htab hw hl
  have hl : lv_has ls 5 [(0, .ref (G.h + 0)), (1, .int a0), (2, .int a1), (3, .ref (G.h + 275))] := hl
  refine lv_aload_n C.x C.b dL_entry_0 rfl (lv_at hl 3 rfl) ?_
  refine lv_iconst (v := 0) C.x C.b dL_entry_1 (by decide) ?_
  refine lv_aload_n C.x C.b dL_entry_2 rfl (lv_at hl 0 rfl) ?_
  refine lv_iload_n C.x C.b dL_entry_3 rfl (lv_at hl 1 rfl) ?_
  refine lv_iload_n C.x C.b dL_entry_4 rfl (lv_at hl 2 rfl) ?_
  refine z_VC (As := [.int a0, .int a1]) (rest := [.int 0, .ref (G.h + 275)]) [] ⟨0, 10, 13, 19⟩ [] C htab rfl (fun r hr => by cases hr) rfl (by decide) zl_19 zc_IOB hw hl hm ivL_57 hA.lt (hA.at _ _) rfl rfl ⟨(Nat.le_of_ble_eq_true rfl), (Nat.le_of_ble_eq_true rfl)⟩ (Nat.le_of_ble_eq_true rfl) ⟨(Nat.le_of_ble_eq_true rfl), (Nat.le_of_ble_eq_true rfl)⟩ dL_entry_5 (fun H locs q hw => ?_)
  refine lv_astore (lv' := [(4, .ref q), (0, .ref (G.h + 0)), (1, .int a0), (2, .int a1), (3, .ref (G.h + 275))]) C.x C.b dL_entry_13 hl (by decide) rfl (fun ls hl => ?_)
  refine lv_iconst (v := 1) C.x C.b dL_entry_15 (by decide) ?_
  exact z_iret C hw dL_entry_16 (rfl) (rfl)

theorem cwL_chain : zW (.codeWith yL_chain cL_chain 5 (some .int) [(0, 10, 13, 19)]) := ⟨by decide +kernel, rfl⟩
theorem w_chain {G : zG} {N : Nat} {Λ : zLay} {l : Launch} (hO : zOK G l) (z : zM) (hA : zPo G N Λ) (hJl : 275 < N) (hJ : zJA G Λ 275 1) {a0 a1 : Int32} {z' : zM} {v : Int32} (hm : zMet G N Λ l yX3_chain cX3_chain 4 (some .int) 2 [.ref (G.h + 0), .int a0, .int a1] z (some (.int v)) z') : zMW G N Λ l yL_chain cL_chain 5 (some .int) [(0, 10, 13, 19)] 9 [.ref (G.h + 0), .int a0, .int a1, .ref (G.h + 275)] z (some (.int 0)) (zl z' 275 0 v.toInt64) := by
  refine zMW_of hO (by decide) (Nat.le_of_ble_eq_true rfl) cwL_chain ?_
  intro pP eE sS mM bB tT cC ls C htab hw hl
  have hl : lv_has ls 5 [(0, .ref (G.h + 0)), (1, .int a0), (2, .int a1), (3, .ref (G.h + 275))] := hl
  refine lv_aload_n C.x C.b dL_chain_0 rfl (lv_at hl 3 rfl) ?_
  refine lv_iconst (v := 0) C.x C.b dL_chain_1 (by decide) ?_
  refine lv_aload_n C.x C.b dL_chain_2 rfl (lv_at hl 0 rfl) ?_
  refine lv_iload_n C.x C.b dL_chain_3 rfl (lv_at hl 1 rfl) ?_
  refine lv_iload_n C.x C.b dL_chain_4 rfl (lv_at hl 2 rfl) ?_
  refine z_Vv (As := [.int a0, .int a1]) (rest := [.int 0, .ref (G.h + 275)]) C hw hl (hm) ivL_60 hA.lt (hA.at _ _) rfl rfl ⟨(Nat.le_of_ble_eq_true rfl), (Nat.le_of_ble_eq_true rfl)⟩ (Nat.le_of_ble_eq_true rfl) ⟨Nat.zero_le _, Nat.zero_le _⟩ dL_chain_5 (fun H locs hw => ?_)
  refine lv_i2l C.x C.b dL_chain_8 rfl ?_
  refine z_last C hw hJl hJ ((zvin (x := 0) (by omega) (by omega))) dL_chain_9 (fun H locs hw => ?_)
  obtain ⟨z_1, ez_1⟩ : ∃ q_9, q_9 = zl z' 275 (0 : Int32).toNatClampNeg v.toInt64 := ⟨_, rfl⟩
  have hw : zS G N Λ z_1 sS H locs := by rw [ez_1]; exact hw
  refine lv_goto (tgt := 17) C.x C.b dL_chain_10 (by decide) ?_
  refine z_wid (k := 1) (n := 6) (Nat.zero_le _) (Nat.zero_le _) ?_
  refine lv_iconst (v := 0) C.x C.b dL_chain_17 (by decide) ?_
  exact z_iret C hw dL_chain_18 (rfl) (by rw [ez_1]; rfl)

theorem wx_chain1 {G : zG} {N : Nat} {Λ : zLay} {l : Launch} (hO : zOK G l) (z : zM) (hA : zPo G N Λ) (hJl : 275 < N) (hJ : zJA G Λ 275 1) {a0 a1 : Int32} (hm : zMX G N Λ l yX3_chain cX3_chain 4 (some .int) 7 [.ref (G.h + 0), .int a0, .int a1] z "java/lang/IndexOutOfBoundsException") : zMW G N Λ l yL_chain cL_chain 5 (some .int) [(0, 10, 13, 19)] 9 [.ref (G.h + 0), .int a0, .int a1, .ref (G.h + 275)] z (some (.int 1)) z := by
  refine zMW_of hO (by decide) (Nat.le_of_ble_eq_true rfl) cwL_chain ?_
  intro pP eE sS mM bB tT cC ls C htab hw hl
  have hl : lv_has ls 5 [(0, .ref (G.h + 0)), (1, .int a0), (2, .int a1), (3, .ref (G.h + 275))] := hl
  refine lv_aload_n C.x C.b dL_chain_0 rfl (lv_at hl 3 rfl) ?_
  refine lv_iconst (v := 0) C.x C.b dL_chain_1 (by decide) ?_
  refine lv_aload_n C.x C.b dL_chain_2 rfl (lv_at hl 0 rfl) ?_
  refine lv_iload_n C.x C.b dL_chain_3 rfl (lv_at hl 1 rfl) ?_
  refine lv_iload_n C.x C.b dL_chain_4 rfl (lv_at hl 2 rfl) ?_
  refine z_VC (As := [.int a0, .int a1]) (rest := [.int 0, .ref (G.h + 275)]) [] ⟨0, 10, 13, 19⟩ [] C htab rfl (fun r hr => by cases hr) rfl (by decide) zl_19 zc_IOB hw hl hm ivL_60 hA.lt (hA.at _ _) rfl rfl ⟨(Nat.le_of_ble_eq_true rfl), (Nat.le_of_ble_eq_true rfl)⟩ (Nat.le_of_ble_eq_true rfl) ⟨(Nat.le_of_ble_eq_true rfl), (Nat.le_of_ble_eq_true rfl)⟩ dL_chain_5 (fun H locs q hw => ?_)
  refine lv_astore (lv' := [(4, .ref q), (0, .ref (G.h + 0)), (1, .int a0), (2, .int a1), (3, .ref (G.h + 275))]) C.x C.b dL_chain_13 hl (by decide) rfl (fun ls hl => ?_)
  refine lv_iconst (v := 1) C.x C.b dL_chain_15 (by decide) ?_
  exact z_iret C hw dL_chain_16 (rfl) (rfl)

theorem cwL_held : zW (.codeWith yL_held cL_held 4 (some .int) [(0, 9, 12, 19)]) := ⟨by decide +kernel, rfl⟩
theorem w_held {G : zG} {N : Nat} {Λ : zLay} {l : Launch} (hO : zOK G l) (z : zM) (hA : zPo G N Λ) (hJl : 275 < N) (hJ : zJA G Λ 275 1) {a0 : Int32} {z' : zM} {v : Int32} (hm : zMet G N Λ l yX3_held cX3_held 2 (some .int) 2 [.ref (G.h + 0), .int a0] z (some (.int v)) z') : zMW G N Λ l yL_held cL_held 4 (some .int) [(0, 9, 12, 19)] 9 [.ref (G.h + 0), .int a0, .ref (G.h + 275)] z (some (.int 0)) (zl z' 275 0 v.toInt64) := by
  refine zMW_of hO (by decide) (Nat.le_of_ble_eq_true rfl) cwL_held ?_
  intro pP eE sS mM bB tT cC ls C htab hw hl
  have hl : lv_has ls 4 [(0, .ref (G.h + 0)), (1, .int a0), (2, .ref (G.h + 275))] := hl
  refine lv_aload_n C.x C.b dL_held_0 rfl (lv_at hl 2 rfl) ?_
  refine lv_iconst (v := 0) C.x C.b dL_held_1 (by decide) ?_
  refine lv_aload_n C.x C.b dL_held_2 rfl (lv_at hl 0 rfl) ?_
  refine lv_iload_n C.x C.b dL_held_3 rfl (lv_at hl 1 rfl) ?_
  refine z_Vv (As := [.int a0]) (rest := [.int 0, .ref (G.h + 275)]) C hw hl (hm) ivL_63 hA.lt (hA.at _ _) rfl rfl ⟨(Nat.le_of_ble_eq_true rfl), (Nat.le_of_ble_eq_true rfl)⟩ (Nat.le_of_ble_eq_true rfl) ⟨Nat.zero_le _, Nat.zero_le _⟩ dL_held_4 (fun H locs hw => ?_)
  refine lv_i2l C.x C.b dL_held_7 rfl ?_
  refine z_last C hw hJl hJ ((zvin (x := 0) (by omega) (by omega))) dL_held_8 (fun H locs hw => ?_)
  obtain ⟨z_1, ez_1⟩ : ∃ q_9, q_9 = zl z' 275 (0 : Int32).toNatClampNeg v.toInt64 := ⟨_, rfl⟩
  have hw : zS G N Λ z_1 sS H locs := by rw [ez_1]; exact hw
  refine lv_goto (tgt := 15) C.x C.b dL_held_9 (by decide) ?_
  refine z_wid (k := 1) (n := 6) (Nat.zero_le _) (Nat.zero_le _) ?_
  refine lv_iconst (v := 0) C.x C.b dL_held_15 (by decide) ?_
  exact z_iret C hw dL_held_16 (rfl) (by rw [ez_1]; rfl)

theorem wx_held1 {G : zG} {N : Nat} {Λ : zLay} {l : Launch} (hO : zOK G l) (z : zM) (hA : zPo G N Λ) (hJl : 275 < N) (hJ : zJA G Λ 275 1) {a0 : Int32} (hm : zMX G N Λ l yX3_held cX3_held 2 (some .int) 7 [.ref (G.h + 0), .int a0] z "java/lang/IndexOutOfBoundsException") : zMW G N Λ l yL_held cL_held 4 (some .int) [(0, 9, 12, 19)] 9 [.ref (G.h + 0), .int a0, .ref (G.h + 275)] z (some (.int 1)) z := by
  refine zMW_of hO (by decide) (Nat.le_of_ble_eq_true rfl) cwL_held ?_
  intro pP eE sS mM bB tT cC ls C htab hw hl
  have hl : lv_has ls 4 [(0, .ref (G.h + 0)), (1, .int a0), (2, .ref (G.h + 275))] := hl
  refine lv_aload_n C.x C.b dL_held_0 rfl (lv_at hl 2 rfl) ?_
  refine lv_iconst (v := 0) C.x C.b dL_held_1 (by decide) ?_
  refine lv_aload_n C.x C.b dL_held_2 rfl (lv_at hl 0 rfl) ?_
  refine lv_iload_n C.x C.b dL_held_3 rfl (lv_at hl 1 rfl) ?_
  refine z_VC (As := [.int a0]) (rest := [.int 0, .ref (G.h + 275)]) [] ⟨0, 9, 12, 19⟩ [] C htab rfl (fun r hr => by cases hr) rfl (by decide) zl_19 zc_IOB hw hl hm ivL_63 hA.lt (hA.at _ _) rfl rfl ⟨(Nat.le_of_ble_eq_true rfl), (Nat.le_of_ble_eq_true rfl)⟩ (Nat.le_of_ble_eq_true rfl) ⟨(Nat.le_of_ble_eq_true rfl), (Nat.le_of_ble_eq_true rfl)⟩ dL_held_4 (fun H locs q hw => ?_)
  refine lv_astore_n (lv' := [(3, .ref q), (0, .ref (G.h + 0)), (1, .int a0), (2, .ref (G.h + 275))]) C.x C.b dL_held_12 rfl hl (by decide) rfl (fun ls hl => ?_)
  refine lv_iconst (v := 1) C.x C.b dL_held_13 (by decide) ?_
  exact z_iret C hw dL_held_14 (rfl) (rfl)

theorem cwL_authenticator : zW (.codeWith yL_authenticator cL_authenticator 6 (some .int) [(0, 12, 15, 19), (0, 12, 19, 13)]) := ⟨by decide +kernel, rfl⟩
theorem w_authenticator {G : zG} {N : Nat} {Λ : zLay} {l : Launch} (hO : zOK G l) (z : zM) (hA : zPo G N Λ) (hJl : 275 < N) (hJ : zJA G Λ 275 1) {a0 a1 a2 : Int32} {z' : zM} {v : Int32} (hm : zMet G N Λ l yX3_authenticator cX3_authenticator 5 (some .int) 2 [.ref (G.h + 0), .int a0, .int a1, .int a2] z (some (.int v)) z') : zMW G N Λ l yL_authenticator cL_authenticator 6 (some .int) [(0, 12, 15, 19), (0, 12, 19, 13)] 9 [.ref (G.h + 0), .int a0, .int a1, .int a2, .ref (G.h + 275)] z (some (.int 0)) (zl z' 275 0 v.toInt64) := by
  refine zMW_of hO (by decide) (Nat.le_of_ble_eq_true rfl) cwL_authenticator ?_
  intro pP eE sS mM bB tT cC ls C htab hw hl
  have hl : lv_has ls 6 [(0, .ref (G.h + 0)), (1, .int a0), (2, .int a1), (3, .int a2), (4, .ref (G.h + 275))] := hl
  refine lv_aload C.x C.b dL_authenticator_0 (lv_at hl 4 rfl) ?_
  refine lv_iconst (v := 0) C.x C.b dL_authenticator_2 (by decide) ?_
  refine lv_aload_n C.x C.b dL_authenticator_3 rfl (lv_at hl 0 rfl) ?_
  refine lv_iload_n C.x C.b dL_authenticator_4 rfl (lv_at hl 1 rfl) ?_
  refine lv_iload_n C.x C.b dL_authenticator_5 rfl (lv_at hl 2 rfl) ?_
  refine lv_iload_n C.x C.b dL_authenticator_6 rfl (lv_at hl 3 rfl) ?_
  refine z_Vv (As := [.int a0, .int a1, .int a2]) (rest := [.int 0, .ref (G.h + 275)]) C hw hl (hm) ivL_66 hA.lt (hA.at _ _) rfl rfl ⟨(Nat.le_of_ble_eq_true rfl), (Nat.le_of_ble_eq_true rfl)⟩ (Nat.le_of_ble_eq_true rfl) ⟨Nat.zero_le _, Nat.zero_le _⟩ dL_authenticator_7 (fun H locs hw => ?_)
  refine lv_i2l C.x C.b dL_authenticator_10 rfl ?_
  refine z_last C hw hJl hJ ((zvin (x := 0) (by omega) (by omega))) dL_authenticator_11 (fun H locs hw => ?_)
  obtain ⟨z_1, ez_1⟩ : ∃ q_9, q_9 = zl z' 275 (0 : Int32).toNatClampNeg v.toInt64 := ⟨_, rfl⟩
  have hw : zS G N Λ z_1 sS H locs := by rw [ez_1]; exact hw
  refine lv_goto (tgt := 23) C.x C.b dL_authenticator_12 (by decide) ?_
  refine z_wid (k := 1) (n := 6) (Nat.zero_le _) (Nat.zero_le _) ?_
  refine lv_iconst (v := 0) C.x C.b dL_authenticator_23 (by decide) ?_
  exact z_iret C hw dL_authenticator_24 (rfl) (by rw [ez_1]; rfl)

theorem wx_authenticator1 {G : zG} {N : Nat} {Λ : zLay} {l : Launch} (hO : zOK G l) (z : zM) (hA : zPo G N Λ) (hJl : 275 < N) (hJ : zJA G Λ 275 1) {a0 a1 a2 : Int32} (hm : zMX G N Λ l yX3_authenticator cX3_authenticator 5 (some .int) 7 [.ref (G.h + 0), .int a0, .int a1, .int a2] z "java/lang/IndexOutOfBoundsException") : zMW G N Λ l yL_authenticator cL_authenticator 6 (some .int) [(0, 12, 15, 19), (0, 12, 19, 13)] 9 [.ref (G.h + 0), .int a0, .int a1, .int a2, .ref (G.h + 275)] z (some (.int 1)) z := by
  refine zMW_of hO (by decide) (Nat.le_of_ble_eq_true rfl) cwL_authenticator ?_
  intro pP eE sS mM bB tT cC ls C htab hw hl
  have hl : lv_has ls 6 [(0, .ref (G.h + 0)), (1, .int a0), (2, .int a1), (3, .int a2), (4, .ref (G.h + 275))] := hl
  refine lv_aload C.x C.b dL_authenticator_0 (lv_at hl 4 rfl) ?_
  refine lv_iconst (v := 0) C.x C.b dL_authenticator_2 (by decide) ?_
  refine lv_aload_n C.x C.b dL_authenticator_3 rfl (lv_at hl 0 rfl) ?_
  refine lv_iload_n C.x C.b dL_authenticator_4 rfl (lv_at hl 1 rfl) ?_
  refine lv_iload_n C.x C.b dL_authenticator_5 rfl (lv_at hl 2 rfl) ?_
  refine lv_iload_n C.x C.b dL_authenticator_6 rfl (lv_at hl 3 rfl) ?_
  refine z_VC (As := [.int a0, .int a1, .int a2]) (rest := [.int 0, .ref (G.h + 275)]) [] ⟨0, 12, 15, 19⟩ [⟨0, 12, 19, 13⟩] C htab rfl (fun r hr => by cases hr) rfl (by decide) zl_19 zc_IOB hw hl hm ivL_66 hA.lt (hA.at _ _) rfl rfl ⟨(Nat.le_of_ble_eq_true rfl), (Nat.le_of_ble_eq_true rfl)⟩ (Nat.le_of_ble_eq_true rfl) ⟨(Nat.le_of_ble_eq_true rfl), (Nat.le_of_ble_eq_true rfl)⟩ dL_authenticator_7 (fun H locs q hw => ?_)
  refine lv_astore (lv' := [(5, .ref q), (0, .ref (G.h + 0)), (1, .int a0), (2, .int a1), (3, .int a2), (4, .ref (G.h + 275))]) C.x C.b dL_authenticator_15 hl (by decide) rfl (fun ls hl => ?_)
  refine lv_iconst (v := 1) C.x C.b dL_authenticator_17 (by decide) ?_
  exact z_iret C hw dL_authenticator_18 (rfl) (rfl)

theorem wx_authenticator2 {G : zG} {N : Nat} {Λ : zLay} {l : Launch} (hO : zOK G l) (z : zM) (hA : zPo G N Λ) (hJl : 275 < N) (hJ : zJA G Λ 275 1) {a0 a1 a2 : Int32} (hm : zMX G N Λ l yX3_authenticator cX3_authenticator 5 (some .int) 7 [.ref (G.h + 0), .int a0, .int a1, .int a2] z "java/lang/IllegalArgumentException") : zMW G N Λ l yL_authenticator cL_authenticator 6 (some .int) [(0, 12, 15, 19), (0, 12, 19, 13)] 9 [.ref (G.h + 0), .int a0, .int a1, .int a2, .ref (G.h + 275)] z (some (.int 2)) z := by
  refine zMW_of hO (by decide) (Nat.le_of_ble_eq_true rfl) cwL_authenticator ?_
  intro pP eE sS mM bB tT cC ls C htab hw hl
  have hl : lv_has ls 6 [(0, .ref (G.h + 0)), (1, .int a0), (2, .int a1), (3, .int a2), (4, .ref (G.h + 275))] := hl
  refine lv_aload C.x C.b dL_authenticator_0 (lv_at hl 4 rfl) ?_
  refine lv_iconst (v := 0) C.x C.b dL_authenticator_2 (by decide) ?_
  refine lv_aload_n C.x C.b dL_authenticator_3 rfl (lv_at hl 0 rfl) ?_
  refine lv_iload_n C.x C.b dL_authenticator_4 rfl (lv_at hl 1 rfl) ?_
  refine lv_iload_n C.x C.b dL_authenticator_5 rfl (lv_at hl 2 rfl) ?_
  refine lv_iload_n C.x C.b dL_authenticator_6 rfl (lv_at hl 3 rfl) ?_
  refine z_VC (As := [.int a0, .int a1, .int a2]) (rest := [.int 0, .ref (G.h + 275)]) [⟨0, 12, 15, 19⟩] ⟨0, 12, 19, 13⟩ [] C htab rfl (fun r hr => by
      rcases List.mem_cons.mp hr with rfl | hr
      · exact ⟨by decide, _, zl_19, zn_AO⟩
      cases hr) rfl (by decide) zl_13 zc_IAE hw hl hm ivL_66 hA.lt (hA.at _ _) rfl rfl ⟨(Nat.le_of_ble_eq_true rfl), (Nat.le_of_ble_eq_true rfl)⟩ (Nat.le_of_ble_eq_true rfl) ⟨(Nat.le_of_ble_eq_true rfl), (Nat.le_of_ble_eq_true rfl)⟩ dL_authenticator_7 (fun H locs q hw => ?_)
  refine lv_astore (lv' := [(5, .ref q), (0, .ref (G.h + 0)), (1, .int a0), (2, .int a1), (3, .int a2), (4, .ref (G.h + 275))]) C.x C.b dL_authenticator_19 hl (by decide) rfl (fun ls hl => ?_)
  refine lv_iconst (v := 2) C.x C.b dL_authenticator_21 (by decide) ?_
  exact z_iret C hw dL_authenticator_22 (rfl) (rfl)

theorem cwL_setWitnesses : zW (.codeWith yL_setWitnesses cL_setWitnesses 5 (some .int) [(0, 10, 13, 19), (0, 10, 17, 13)]) := ⟨by decide +kernel, rfl⟩
theorem w_setWitnesses {G : zG} {N : Nat} {Λ : zLay} {l : Launch} (hO : zOK G l) (z : zM) (hA : zPo G N Λ) (hJl : 275 < N) (hJ : zJA G Λ 275 1) {a0 a1 : Int32} {z' : zM} {v : Int32} (hm : zMet G N Λ l yX3_setWitnesses cX3_setWitnesses 5 (some .int) 5 [.ref (G.h + 0), .int a0, .int a1] z (some (.int v)) z') : zMW G N Λ l yL_setWitnesses cL_setWitnesses 5 (some .int) [(0, 10, 13, 19), (0, 10, 17, 13)] 9 [.ref (G.h + 0), .int a0, .int a1, .ref (G.h + 275)] z (some (.int 0)) (zl z' 275 0 v.toInt64) := by
  refine zMW_of hO (by decide) (Nat.le_of_ble_eq_true rfl) cwL_setWitnesses ?_
  intro pP eE sS mM bB tT cC ls C htab hw hl
  have hl : lv_has ls 5 [(0, .ref (G.h + 0)), (1, .int a0), (2, .int a1), (3, .ref (G.h + 275))] := hl
  refine lv_aload_n C.x C.b dL_setWitnesses_0 rfl (lv_at hl 3 rfl) ?_
  refine lv_iconst (v := 0) C.x C.b dL_setWitnesses_1 (by decide) ?_
  refine lv_aload_n C.x C.b dL_setWitnesses_2 rfl (lv_at hl 0 rfl) ?_
  refine lv_iload_n C.x C.b dL_setWitnesses_3 rfl (lv_at hl 1 rfl) ?_
  refine lv_iload_n C.x C.b dL_setWitnesses_4 rfl (lv_at hl 2 rfl) ?_
  refine z_Vv (As := [.int a0, .int a1]) (rest := [.int 0, .ref (G.h + 275)]) C hw hl (hm) ivL_69 hA.lt (hA.at _ _) rfl rfl ⟨(Nat.le_of_ble_eq_true rfl), (Nat.le_of_ble_eq_true rfl)⟩ (Nat.le_of_ble_eq_true rfl) ⟨Nat.zero_le _, Nat.zero_le _⟩ dL_setWitnesses_5 (fun H locs hw => ?_)
  refine lv_i2l C.x C.b dL_setWitnesses_8 rfl ?_
  refine z_last C hw hJl hJ ((zvin (x := 0) (by omega) (by omega))) dL_setWitnesses_9 (fun H locs hw => ?_)
  obtain ⟨z_1, ez_1⟩ : ∃ q_9, q_9 = zl z' 275 (0 : Int32).toNatClampNeg v.toInt64 := ⟨_, rfl⟩
  have hw : zS G N Λ z_1 sS H locs := by rw [ez_1]; exact hw
  refine lv_goto (tgt := 21) C.x C.b dL_setWitnesses_10 (by decide) ?_
  refine z_wid (k := 1) (n := 6) (Nat.zero_le _) (Nat.zero_le _) ?_
  refine lv_iconst (v := 0) C.x C.b dL_setWitnesses_21 (by decide) ?_
  exact z_iret C hw dL_setWitnesses_22 (rfl) (by rw [ez_1]; rfl)

theorem wx_setWitnesses1 {G : zG} {N : Nat} {Λ : zLay} {l : Launch} (hO : zOK G l) (z : zM) (hA : zPo G N Λ) (hJl : 275 < N) (hJ : zJA G Λ 275 1) {a0 a1 : Int32} (hm : zMX G N Λ l yX3_setWitnesses cX3_setWitnesses 5 (some .int) 7 [.ref (G.h + 0), .int a0, .int a1] z "java/lang/IndexOutOfBoundsException") : zMW G N Λ l yL_setWitnesses cL_setWitnesses 5 (some .int) [(0, 10, 13, 19), (0, 10, 17, 13)] 9 [.ref (G.h + 0), .int a0, .int a1, .ref (G.h + 275)] z (some (.int 1)) z := by
  refine zMW_of hO (by decide) (Nat.le_of_ble_eq_true rfl) cwL_setWitnesses ?_
  intro pP eE sS mM bB tT cC ls C htab hw hl
  have hl : lv_has ls 5 [(0, .ref (G.h + 0)), (1, .int a0), (2, .int a1), (3, .ref (G.h + 275))] := hl
  refine lv_aload_n C.x C.b dL_setWitnesses_0 rfl (lv_at hl 3 rfl) ?_
  refine lv_iconst (v := 0) C.x C.b dL_setWitnesses_1 (by decide) ?_
  refine lv_aload_n C.x C.b dL_setWitnesses_2 rfl (lv_at hl 0 rfl) ?_
  refine lv_iload_n C.x C.b dL_setWitnesses_3 rfl (lv_at hl 1 rfl) ?_
  refine lv_iload_n C.x C.b dL_setWitnesses_4 rfl (lv_at hl 2 rfl) ?_
  refine z_VC (As := [.int a0, .int a1]) (rest := [.int 0, .ref (G.h + 275)]) [] ⟨0, 10, 13, 19⟩ [⟨0, 10, 17, 13⟩] C htab rfl (fun r hr => by cases hr) rfl (by decide) zl_19 zc_IOB hw hl hm ivL_69 hA.lt (hA.at _ _) rfl rfl ⟨(Nat.le_of_ble_eq_true rfl), (Nat.le_of_ble_eq_true rfl)⟩ (Nat.le_of_ble_eq_true rfl) ⟨(Nat.le_of_ble_eq_true rfl), (Nat.le_of_ble_eq_true rfl)⟩ dL_setWitnesses_5 (fun H locs q hw => ?_)
  refine lv_astore (lv' := [(4, .ref q), (0, .ref (G.h + 0)), (1, .int a0), (2, .int a1), (3, .ref (G.h + 275))]) C.x C.b dL_setWitnesses_13 hl (by decide) rfl (fun ls hl => ?_)
  refine lv_iconst (v := 1) C.x C.b dL_setWitnesses_15 (by decide) ?_
  exact z_iret C hw dL_setWitnesses_16 (rfl) (rfl)

theorem wx_setWitnesses2 {G : zG} {N : Nat} {Λ : zLay} {l : Launch} (hO : zOK G l) (z : zM) (hA : zPo G N Λ) (hJl : 275 < N) (hJ : zJA G Λ 275 1) {a0 a1 : Int32} (hm : zMX G N Λ l yX3_setWitnesses cX3_setWitnesses 5 (some .int) 6 [.ref (G.h + 0), .int a0, .int a1] z "java/lang/IllegalArgumentException") : zMW G N Λ l yL_setWitnesses cL_setWitnesses 5 (some .int) [(0, 10, 13, 19), (0, 10, 17, 13)] 9 [.ref (G.h + 0), .int a0, .int a1, .ref (G.h + 275)] z (some (.int 2)) z := by
  refine zMW_of hO (by decide) (Nat.le_of_ble_eq_true rfl) cwL_setWitnesses ?_
  intro pP eE sS mM bB tT cC ls C htab hw hl
  have hl : lv_has ls 5 [(0, .ref (G.h + 0)), (1, .int a0), (2, .int a1), (3, .ref (G.h + 275))] := hl
  refine lv_aload_n C.x C.b dL_setWitnesses_0 rfl (lv_at hl 3 rfl) ?_
  refine lv_iconst (v := 0) C.x C.b dL_setWitnesses_1 (by decide) ?_
  refine lv_aload_n C.x C.b dL_setWitnesses_2 rfl (lv_at hl 0 rfl) ?_
  refine lv_iload_n C.x C.b dL_setWitnesses_3 rfl (lv_at hl 1 rfl) ?_
  refine lv_iload_n C.x C.b dL_setWitnesses_4 rfl (lv_at hl 2 rfl) ?_
  refine z_VC (As := [.int a0, .int a1]) (rest := [.int 0, .ref (G.h + 275)]) [⟨0, 10, 13, 19⟩] ⟨0, 10, 17, 13⟩ [] C htab rfl (fun r hr => by
      rcases List.mem_cons.mp hr with rfl | hr
      · exact ⟨by decide, _, zl_19, zn_AO⟩
      cases hr) rfl (by decide) zl_13 zc_IAE hw hl hm ivL_69 hA.lt (hA.at _ _) rfl rfl ⟨(Nat.le_of_ble_eq_true rfl), (Nat.le_of_ble_eq_true rfl)⟩ (Nat.le_of_ble_eq_true rfl) ⟨(Nat.le_of_ble_eq_true rfl), (Nat.le_of_ble_eq_true rfl)⟩ dL_setWitnesses_5 (fun H locs q hw => ?_)
  refine lv_astore (lv' := [(4, .ref q), (0, .ref (G.h + 0)), (1, .int a0), (2, .int a1), (3, .ref (G.h + 275))]) C.x C.b dL_setWitnesses_17 hl (by decide) rfl (fun ls hl => ?_)
  refine lv_iconst (v := 2) C.x C.b dL_setWitnesses_19 (by decide) ?_
  exact z_iret C hw dL_setWitnesses_20 (rfl) (rfl)

theorem cwL_audit : zW (.codeWith yL_audit cL_audit 5 (some .int) [(0, 10, 13, 19), (0, 10, 17, 21)]) := ⟨by decide +kernel, rfl⟩
theorem w_audit {G : zG} {N : Nat} {Λ : zLay} {l : Launch} (hO : zOK G l) (z : zM) (hA : zPo G N Λ) (hJl : 275 < N) (hJ : zJA G Λ 275 1) {a0 a1 : Int32} {z' : zM} {v : Int32} (hm : zMet G N Λ l yX3_audit cX3_audit 4 (some .int) 5 [.ref (G.h + 0), .int a0, .int a1] z (some (.int v)) z') : zMW G N Λ l yL_audit cL_audit 5 (some .int) [(0, 10, 13, 19), (0, 10, 17, 21)] 9 [.ref (G.h + 0), .int a0, .int a1, .ref (G.h + 275)] z (some (.int 0)) (zl z' 275 0 v.toInt64) := by
  refine zMW_of hO (by decide) (Nat.le_of_ble_eq_true rfl) cwL_audit ?_
  intro pP eE sS mM bB tT cC ls C htab hw hl
  have hl : lv_has ls 5 [(0, .ref (G.h + 0)), (1, .int a0), (2, .int a1), (3, .ref (G.h + 275))] := hl
  refine lv_aload_n C.x C.b dL_audit_0 rfl (lv_at hl 3 rfl) ?_
  refine lv_iconst (v := 0) C.x C.b dL_audit_1 (by decide) ?_
  refine lv_aload_n C.x C.b dL_audit_2 rfl (lv_at hl 0 rfl) ?_
  refine lv_iload_n C.x C.b dL_audit_3 rfl (lv_at hl 1 rfl) ?_
  refine lv_iload_n C.x C.b dL_audit_4 rfl (lv_at hl 2 rfl) ?_
  refine z_Vv (As := [.int a0, .int a1]) (rest := [.int 0, .ref (G.h + 275)]) C hw hl (hm) ivL_72 hA.lt (hA.at _ _) rfl rfl ⟨(Nat.le_of_ble_eq_true rfl), (Nat.le_of_ble_eq_true rfl)⟩ (Nat.le_of_ble_eq_true rfl) ⟨Nat.zero_le _, Nat.zero_le _⟩ dL_audit_5 (fun H locs hw => ?_)
  refine lv_i2l C.x C.b dL_audit_8 rfl ?_
  refine z_last C hw hJl hJ ((zvin (x := 0) (by omega) (by omega))) dL_audit_9 (fun H locs hw => ?_)
  obtain ⟨z_1, ez_1⟩ : ∃ q_9, q_9 = zl z' 275 (0 : Int32).toNatClampNeg v.toInt64 := ⟨_, rfl⟩
  have hw : zS G N Λ z_1 sS H locs := by rw [ez_1]; exact hw
  refine lv_goto (tgt := 21) C.x C.b dL_audit_10 (by decide) ?_
  refine z_wid (k := 1) (n := 6) (Nat.zero_le _) (Nat.zero_le _) ?_
  refine lv_iconst (v := 0) C.x C.b dL_audit_21 (by decide) ?_
  exact z_iret C hw dL_audit_22 (rfl) (by rw [ez_1]; rfl)

theorem wx_audit1 {G : zG} {N : Nat} {Λ : zLay} {l : Launch} (hO : zOK G l) (z : zM) (hA : zPo G N Λ) (hJl : 275 < N) (hJ : zJA G Λ 275 1) {a0 a1 : Int32} (hm : zMX G N Λ l yX3_audit cX3_audit 4 (some .int) 7 [.ref (G.h + 0), .int a0, .int a1] z "java/lang/IndexOutOfBoundsException") : zMW G N Λ l yL_audit cL_audit 5 (some .int) [(0, 10, 13, 19), (0, 10, 17, 21)] 9 [.ref (G.h + 0), .int a0, .int a1, .ref (G.h + 275)] z (some (.int 1)) z := by
  refine zMW_of hO (by decide) (Nat.le_of_ble_eq_true rfl) cwL_audit ?_
  intro pP eE sS mM bB tT cC ls C htab hw hl
  have hl : lv_has ls 5 [(0, .ref (G.h + 0)), (1, .int a0), (2, .int a1), (3, .ref (G.h + 275))] := hl
  refine lv_aload_n C.x C.b dL_audit_0 rfl (lv_at hl 3 rfl) ?_
  refine lv_iconst (v := 0) C.x C.b dL_audit_1 (by decide) ?_
  refine lv_aload_n C.x C.b dL_audit_2 rfl (lv_at hl 0 rfl) ?_
  refine lv_iload_n C.x C.b dL_audit_3 rfl (lv_at hl 1 rfl) ?_
  refine lv_iload_n C.x C.b dL_audit_4 rfl (lv_at hl 2 rfl) ?_
  refine z_VC (As := [.int a0, .int a1]) (rest := [.int 0, .ref (G.h + 275)]) [] ⟨0, 10, 13, 19⟩ [⟨0, 10, 17, 21⟩] C htab rfl (fun r hr => by cases hr) rfl (by decide) zl_19 zc_IOB hw hl hm ivL_72 hA.lt (hA.at _ _) rfl rfl ⟨(Nat.le_of_ble_eq_true rfl), (Nat.le_of_ble_eq_true rfl)⟩ (Nat.le_of_ble_eq_true rfl) ⟨(Nat.le_of_ble_eq_true rfl), (Nat.le_of_ble_eq_true rfl)⟩ dL_audit_5 (fun H locs q hw => ?_)
  refine lv_astore (lv' := [(4, .ref q), (0, .ref (G.h + 0)), (1, .int a0), (2, .int a1), (3, .ref (G.h + 275))]) C.x C.b dL_audit_13 hl (by decide) rfl (fun ls hl => ?_)
  refine lv_iconst (v := 1) C.x C.b dL_audit_15 (by decide) ?_
  exact z_iret C hw dL_audit_16 (rfl) (rfl)

theorem wx_audit2 {G : zG} {N : Nat} {Λ : zLay} {l : Launch} (hO : zOK G l) (z : zM) (hA : zPo G N Λ) (hJl : 275 < N) (hJ : zJA G Λ 275 1) {a0 a1 : Int32} (hm : zMX G N Λ l yX3_audit cX3_audit 4 (some .int) 6 [.ref (G.h + 0), .int a0, .int a1] z "java/lang/IllegalStateException") : zMW G N Λ l yL_audit cL_audit 5 (some .int) [(0, 10, 13, 19), (0, 10, 17, 21)] 9 [.ref (G.h + 0), .int a0, .int a1, .ref (G.h + 275)] z (some (.int 2)) z := by
  refine zMW_of hO (by decide) (Nat.le_of_ble_eq_true rfl) cwL_audit ?_
  intro pP eE sS mM bB tT cC ls C htab hw hl
  have hl : lv_has ls 5 [(0, .ref (G.h + 0)), (1, .int a0), (2, .int a1), (3, .ref (G.h + 275))] := hl
  refine lv_aload_n C.x C.b dL_audit_0 rfl (lv_at hl 3 rfl) ?_
  refine lv_iconst (v := 0) C.x C.b dL_audit_1 (by decide) ?_
  refine lv_aload_n C.x C.b dL_audit_2 rfl (lv_at hl 0 rfl) ?_
  refine lv_iload_n C.x C.b dL_audit_3 rfl (lv_at hl 1 rfl) ?_
  refine lv_iload_n C.x C.b dL_audit_4 rfl (lv_at hl 2 rfl) ?_
  refine z_VC (As := [.int a0, .int a1]) (rest := [.int 0, .ref (G.h + 275)]) [⟨0, 10, 13, 19⟩] ⟨0, 10, 17, 21⟩ [] C htab rfl (fun r hr => by
      rcases List.mem_cons.mp hr with rfl | hr
      · exact ⟨by decide, _, zl_19, zn_SO⟩
      cases hr) rfl (by decide) zl_21 zc_ISE hw hl hm ivL_72 hA.lt (hA.at _ _) rfl rfl ⟨(Nat.le_of_ble_eq_true rfl), (Nat.le_of_ble_eq_true rfl)⟩ (Nat.le_of_ble_eq_true rfl) ⟨(Nat.le_of_ble_eq_true rfl), (Nat.le_of_ble_eq_true rfl)⟩ dL_audit_5 (fun H locs q hw => ?_)
  refine lv_astore (lv' := [(4, .ref q), (0, .ref (G.h + 0)), (1, .int a0), (2, .int a1), (3, .ref (G.h + 275))]) C.x C.b dL_audit_17 hl (by decide) rfl (fun ls hl => ?_)
  refine lv_iconst (v := 2) C.x C.b dL_audit_19 (by decide) ?_
  exact z_iret C hw dL_audit_20 (rfl) (rfl)

theorem cwL_verdict : zW (.codeWith yL_verdict cL_verdict 5 (some .int) [(0, 10, 13, 19)]) := ⟨by decide +kernel, rfl⟩
theorem w_verdict {G : zG} {N : Nat} {Λ : zLay} {l : Launch} (hO : zOK G l) (z : zM) (hA : zPo G N Λ) (hJl : 275 < N) (hJ : zJA G Λ 275 1) {a0 a1 : Int32} {z' : zM} {v : Int32} (hm : zMet G N Λ l yX3_verdict cX3_verdict 3 (some .int) 2 [.ref (G.h + 0), .int a0, .int a1] z (some (.int v)) z') : zMW G N Λ l yL_verdict cL_verdict 5 (some .int) [(0, 10, 13, 19)] 9 [.ref (G.h + 0), .int a0, .int a1, .ref (G.h + 275)] z (some (.int 0)) (zl z' 275 0 v.toInt64) := by
  refine zMW_of hO (by decide) (Nat.le_of_ble_eq_true rfl) cwL_verdict ?_
  intro pP eE sS mM bB tT cC ls C htab hw hl
  have hl : lv_has ls 5 [(0, .ref (G.h + 0)), (1, .int a0), (2, .int a1), (3, .ref (G.h + 275))] := hl
  refine lv_aload_n C.x C.b dL_verdict_0 rfl (lv_at hl 3 rfl) ?_
  refine lv_iconst (v := 0) C.x C.b dL_verdict_1 (by decide) ?_
  refine lv_aload_n C.x C.b dL_verdict_2 rfl (lv_at hl 0 rfl) ?_
  refine lv_iload_n C.x C.b dL_verdict_3 rfl (lv_at hl 1 rfl) ?_
  refine lv_iload_n C.x C.b dL_verdict_4 rfl (lv_at hl 2 rfl) ?_
  refine z_Vv (As := [.int a0, .int a1]) (rest := [.int 0, .ref (G.h + 275)]) C hw hl (hm) ivL_75 hA.lt (hA.at _ _) rfl rfl ⟨(Nat.le_of_ble_eq_true rfl), (Nat.le_of_ble_eq_true rfl)⟩ (Nat.le_of_ble_eq_true rfl) ⟨Nat.zero_le _, Nat.zero_le _⟩ dL_verdict_5 (fun H locs hw => ?_)
  refine lv_i2l C.x C.b dL_verdict_8 rfl ?_
  refine z_last C hw hJl hJ ((zvin (x := 0) (by omega) (by omega))) dL_verdict_9 (fun H locs hw => ?_)
  obtain ⟨z_1, ez_1⟩ : ∃ q_9, q_9 = zl z' 275 (0 : Int32).toNatClampNeg v.toInt64 := ⟨_, rfl⟩
  have hw : zS G N Λ z_1 sS H locs := by rw [ez_1]; exact hw
  refine lv_goto (tgt := 17) C.x C.b dL_verdict_10 (by decide) ?_
  refine z_wid (k := 1) (n := 6) (Nat.zero_le _) (Nat.zero_le _) ?_
  refine lv_iconst (v := 0) C.x C.b dL_verdict_17 (by decide) ?_
  exact z_iret C hw dL_verdict_18 (rfl) (by rw [ez_1]; rfl)

theorem wx_verdict1 {G : zG} {N : Nat} {Λ : zLay} {l : Launch} (hO : zOK G l) (z : zM) (hA : zPo G N Λ) (hJl : 275 < N) (hJ : zJA G Λ 275 1) {a0 a1 : Int32} (hm : zMX G N Λ l yX3_verdict cX3_verdict 3 (some .int) 7 [.ref (G.h + 0), .int a0, .int a1] z "java/lang/IndexOutOfBoundsException") : zMW G N Λ l yL_verdict cL_verdict 5 (some .int) [(0, 10, 13, 19)] 9 [.ref (G.h + 0), .int a0, .int a1, .ref (G.h + 275)] z (some (.int 1)) z := by
  refine zMW_of hO (by decide) (Nat.le_of_ble_eq_true rfl) cwL_verdict ?_
  intro pP eE sS mM bB tT cC ls C htab hw hl
  have hl : lv_has ls 5 [(0, .ref (G.h + 0)), (1, .int a0), (2, .int a1), (3, .ref (G.h + 275))] := hl
  refine lv_aload_n C.x C.b dL_verdict_0 rfl (lv_at hl 3 rfl) ?_
  refine lv_iconst (v := 0) C.x C.b dL_verdict_1 (by decide) ?_
  refine lv_aload_n C.x C.b dL_verdict_2 rfl (lv_at hl 0 rfl) ?_
  refine lv_iload_n C.x C.b dL_verdict_3 rfl (lv_at hl 1 rfl) ?_
  refine lv_iload_n C.x C.b dL_verdict_4 rfl (lv_at hl 2 rfl) ?_
  refine z_VC (As := [.int a0, .int a1]) (rest := [.int 0, .ref (G.h + 275)]) [] ⟨0, 10, 13, 19⟩ [] C htab rfl (fun r hr => by cases hr) rfl (by decide) zl_19 zc_IOB hw hl hm ivL_75 hA.lt (hA.at _ _) rfl rfl ⟨(Nat.le_of_ble_eq_true rfl), (Nat.le_of_ble_eq_true rfl)⟩ (Nat.le_of_ble_eq_true rfl) ⟨(Nat.le_of_ble_eq_true rfl), (Nat.le_of_ble_eq_true rfl)⟩ dL_verdict_5 (fun H locs q hw => ?_)
  refine lv_astore (lv' := [(4, .ref q), (0, .ref (G.h + 0)), (1, .int a0), (2, .int a1), (3, .ref (G.h + 275))]) C.x C.b dL_verdict_13 hl (by decide) rfl (fun ls hl => ?_)
  refine lv_iconst (v := 1) C.x C.b dL_verdict_15 (by decide) ?_
  exact z_iret C hw dL_verdict_16 (rfl) (rfl)

theorem cwL_verdictMask : zW (.codeWith yL_verdictMask cL_verdictMask 4 (some .int) [(0, 9, 12, 13)]) := ⟨by decide +kernel, rfl⟩
theorem w_verdictMask {G : zG} {N : Nat} {Λ : zLay} {l : Launch} (hO : zOK G l) (z : zM) (hA : zPo G N Λ) (hJl : 275 < N) (hJ : zJA G Λ 275 1) {a0 : Int32} {z' : zM} {v : Int32} (hm : zMet G N Λ l yX3_verdictMask cX3_verdictMask 4 (some .int) 2 [.ref (G.h + 0), .int a0] z (some (.int v)) z') : zMW G N Λ l yL_verdictMask cL_verdictMask 4 (some .int) [(0, 9, 12, 13)] 9 [.ref (G.h + 0), .int a0, .ref (G.h + 275)] z (some (.int 0)) (zl z' 275 0 v.toInt64) := by
  refine zMW_of hO (by decide) (Nat.le_of_ble_eq_true rfl) cwL_verdictMask ?_
  intro pP eE sS mM bB tT cC ls C htab hw hl
  have hl : lv_has ls 4 [(0, .ref (G.h + 0)), (1, .int a0), (2, .ref (G.h + 275))] := hl
  refine lv_aload_n C.x C.b dL_verdictMask_0 rfl (lv_at hl 2 rfl) ?_
  refine lv_iconst (v := 0) C.x C.b dL_verdictMask_1 (by decide) ?_
  refine lv_aload_n C.x C.b dL_verdictMask_2 rfl (lv_at hl 0 rfl) ?_
  refine lv_iload_n C.x C.b dL_verdictMask_3 rfl (lv_at hl 1 rfl) ?_
  refine z_Vv (As := [.int a0]) (rest := [.int 0, .ref (G.h + 275)]) C hw hl (hm) ivL_78 hA.lt (hA.at _ _) rfl rfl ⟨(Nat.le_of_ble_eq_true rfl), (Nat.le_of_ble_eq_true rfl)⟩ (Nat.le_of_ble_eq_true rfl) ⟨Nat.zero_le _, Nat.zero_le _⟩ dL_verdictMask_4 (fun H locs hw => ?_)
  refine lv_i2l C.x C.b dL_verdictMask_7 rfl ?_
  refine z_last C hw hJl hJ ((zvin (x := 0) (by omega) (by omega))) dL_verdictMask_8 (fun H locs hw => ?_)
  obtain ⟨z_1, ez_1⟩ : ∃ q_9, q_9 = zl z' 275 (0 : Int32).toNatClampNeg v.toInt64 := ⟨_, rfl⟩
  have hw : zS G N Λ z_1 sS H locs := by rw [ez_1]; exact hw
  refine lv_goto (tgt := 15) C.x C.b dL_verdictMask_9 (by decide) ?_
  refine z_wid (k := 1) (n := 6) (Nat.zero_le _) (Nat.zero_le _) ?_
  refine lv_iconst (v := 0) C.x C.b dL_verdictMask_15 (by decide) ?_
  exact z_iret C hw dL_verdictMask_16 (rfl) (by rw [ez_1]; rfl)

theorem wx_verdictMask1 {G : zG} {N : Nat} {Λ : zLay} {l : Launch} (hO : zOK G l) (z : zM) (hA : zPo G N Λ) (hJl : 275 < N) (hJ : zJA G Λ 275 1) {a0 : Int32} (hm : zMX G N Λ l yX3_verdictMask cX3_verdictMask 4 (some .int) 6 [.ref (G.h + 0), .int a0] z "java/lang/IllegalArgumentException") : zMW G N Λ l yL_verdictMask cL_verdictMask 4 (some .int) [(0, 9, 12, 13)] 9 [.ref (G.h + 0), .int a0, .ref (G.h + 275)] z (some (.int 1)) z := by
  refine zMW_of hO (by decide) (Nat.le_of_ble_eq_true rfl) cwL_verdictMask ?_
  intro pP eE sS mM bB tT cC ls C htab hw hl
  have hl : lv_has ls 4 [(0, .ref (G.h + 0)), (1, .int a0), (2, .ref (G.h + 275))] := hl
  refine lv_aload_n C.x C.b dL_verdictMask_0 rfl (lv_at hl 2 rfl) ?_
  refine lv_iconst (v := 0) C.x C.b dL_verdictMask_1 (by decide) ?_
  refine lv_aload_n C.x C.b dL_verdictMask_2 rfl (lv_at hl 0 rfl) ?_
  refine lv_iload_n C.x C.b dL_verdictMask_3 rfl (lv_at hl 1 rfl) ?_
  refine z_VC (As := [.int a0]) (rest := [.int 0, .ref (G.h + 275)]) [] ⟨0, 9, 12, 13⟩ [] C htab rfl (fun r hr => by cases hr) rfl (by decide) zl_13 zc_IAE hw hl hm ivL_78 hA.lt (hA.at _ _) rfl rfl ⟨(Nat.le_of_ble_eq_true rfl), (Nat.le_of_ble_eq_true rfl)⟩ (Nat.le_of_ble_eq_true rfl) ⟨(Nat.le_of_ble_eq_true rfl), (Nat.le_of_ble_eq_true rfl)⟩ dL_verdictMask_4 (fun H locs q hw => ?_)
  refine lv_astore_n (lv' := [(3, .ref q), (0, .ref (G.h + 0)), (1, .int a0), (2, .ref (G.h + 275))]) C.x C.b dL_verdictMask_12 rfl hl (by decide) rfl (fun ls hl => ?_)
  refine lv_iconst (v := 1) C.x C.b dL_verdictMask_13 (by decide) ?_
  exact z_iret C hw dL_verdictMask_14 (rfl) (rfl)

theorem cwL_evidence : zW (.codeWith yL_evidence cL_evidence 5 (some .int) [(0, 10, 13, 19), (0, 10, 17, 13)]) := ⟨by decide +kernel, rfl⟩
theorem w_evidence {G : zG} {N : Nat} {Λ : zLay} {l : Launch} (hO : zOK G l) (z : zM) (hA : zPo G N Λ) (hJl : 275 < N) (hJ : zJA G Λ 275 1) {a0 a1 : Int32} {z' : zM} {v : Int32} (hm : zMet G N Λ l yX3_evidence cX3_evidence 3 (some .int) 1 [.ref (G.h + 0), .int a0, .int a1] z (some (.int v)) z') : zMW G N Λ l yL_evidence cL_evidence 5 (some .int) [(0, 10, 13, 19), (0, 10, 17, 13)] 9 [.ref (G.h + 0), .int a0, .int a1, .ref (G.h + 275)] z (some (.int 0)) (zl z' 275 0 v.toInt64) := by
  refine zMW_of hO (by decide) (Nat.le_of_ble_eq_true rfl) cwL_evidence ?_
  intro pP eE sS mM bB tT cC ls C htab hw hl
  have hl : lv_has ls 5 [(0, .ref (G.h + 0)), (1, .int a0), (2, .int a1), (3, .ref (G.h + 275))] := hl
  refine lv_aload_n C.x C.b dL_evidence_0 rfl (lv_at hl 3 rfl) ?_
  refine lv_iconst (v := 0) C.x C.b dL_evidence_1 (by decide) ?_
  refine lv_aload_n C.x C.b dL_evidence_2 rfl (lv_at hl 0 rfl) ?_
  refine lv_iload_n C.x C.b dL_evidence_3 rfl (lv_at hl 1 rfl) ?_
  refine lv_iload_n C.x C.b dL_evidence_4 rfl (lv_at hl 2 rfl) ?_
  refine z_Vv (As := [.int a0, .int a1]) (rest := [.int 0, .ref (G.h + 275)]) C hw hl (hm) ivL_81 hA.lt (hA.at _ _) rfl rfl ⟨(Nat.le_of_ble_eq_true rfl), (Nat.le_of_ble_eq_true rfl)⟩ (Nat.le_of_ble_eq_true rfl) ⟨Nat.zero_le _, Nat.zero_le _⟩ dL_evidence_5 (fun H locs hw => ?_)
  refine lv_i2l C.x C.b dL_evidence_8 rfl ?_
  refine z_last C hw hJl hJ ((zvin (x := 0) (by omega) (by omega))) dL_evidence_9 (fun H locs hw => ?_)
  obtain ⟨z_1, ez_1⟩ : ∃ q_9, q_9 = zl z' 275 (0 : Int32).toNatClampNeg v.toInt64 := ⟨_, rfl⟩
  have hw : zS G N Λ z_1 sS H locs := by rw [ez_1]; exact hw
  refine lv_goto (tgt := 21) C.x C.b dL_evidence_10 (by decide) ?_
  refine z_wid (k := 1) (n := 6) (Nat.zero_le _) (Nat.zero_le _) ?_
  refine lv_iconst (v := 0) C.x C.b dL_evidence_21 (by decide) ?_
  exact z_iret C hw dL_evidence_22 (rfl) (by rw [ez_1]; rfl)

theorem wx_evidence1 {G : zG} {N : Nat} {Λ : zLay} {l : Launch} (hO : zOK G l) (z : zM) (hA : zPo G N Λ) (hJl : 275 < N) (hJ : zJA G Λ 275 1) {a0 a1 : Int32} (hm : zMX G N Λ l yX3_evidence cX3_evidence 3 (some .int) 6 [.ref (G.h + 0), .int a0, .int a1] z "java/lang/IndexOutOfBoundsException") : zMW G N Λ l yL_evidence cL_evidence 5 (some .int) [(0, 10, 13, 19), (0, 10, 17, 13)] 9 [.ref (G.h + 0), .int a0, .int a1, .ref (G.h + 275)] z (some (.int 1)) z := by
  refine zMW_of hO (by decide) (Nat.le_of_ble_eq_true rfl) cwL_evidence ?_
  intro pP eE sS mM bB tT cC ls C htab hw hl
  have hl : lv_has ls 5 [(0, .ref (G.h + 0)), (1, .int a0), (2, .int a1), (3, .ref (G.h + 275))] := hl
  refine lv_aload_n C.x C.b dL_evidence_0 rfl (lv_at hl 3 rfl) ?_
  refine lv_iconst (v := 0) C.x C.b dL_evidence_1 (by decide) ?_
  refine lv_aload_n C.x C.b dL_evidence_2 rfl (lv_at hl 0 rfl) ?_
  refine lv_iload_n C.x C.b dL_evidence_3 rfl (lv_at hl 1 rfl) ?_
  refine lv_iload_n C.x C.b dL_evidence_4 rfl (lv_at hl 2 rfl) ?_
  refine z_VC (As := [.int a0, .int a1]) (rest := [.int 0, .ref (G.h + 275)]) [] ⟨0, 10, 13, 19⟩ [⟨0, 10, 17, 13⟩] C htab rfl (fun r hr => by cases hr) rfl (by decide) zl_19 zc_IOB hw hl hm ivL_81 hA.lt (hA.at _ _) rfl rfl ⟨(Nat.le_of_ble_eq_true rfl), (Nat.le_of_ble_eq_true rfl)⟩ (Nat.le_of_ble_eq_true rfl) ⟨(Nat.le_of_ble_eq_true rfl), (Nat.le_of_ble_eq_true rfl)⟩ dL_evidence_5 (fun H locs q hw => ?_)
  refine lv_astore (lv' := [(4, .ref q), (0, .ref (G.h + 0)), (1, .int a0), (2, .int a1), (3, .ref (G.h + 275))]) C.x C.b dL_evidence_13 hl (by decide) rfl (fun ls hl => ?_)
  refine lv_iconst (v := 1) C.x C.b dL_evidence_15 (by decide) ?_
  exact z_iret C hw dL_evidence_16 (rfl) (rfl)

theorem wx_evidence2 {G : zG} {N : Nat} {Λ : zLay} {l : Launch} (hO : zOK G l) (z : zM) (hA : zPo G N Λ) (hJl : 275 < N) (hJ : zJA G Λ 275 1) {a0 a1 : Int32} (hm : zMX G N Λ l yX3_evidence cX3_evidence 3 (some .int) 6 [.ref (G.h + 0), .int a0, .int a1] z "java/lang/IllegalArgumentException") : zMW G N Λ l yL_evidence cL_evidence 5 (some .int) [(0, 10, 13, 19), (0, 10, 17, 13)] 9 [.ref (G.h + 0), .int a0, .int a1, .ref (G.h + 275)] z (some (.int 2)) z := by
  refine zMW_of hO (by decide) (Nat.le_of_ble_eq_true rfl) cwL_evidence ?_
  intro pP eE sS mM bB tT cC ls C htab hw hl
  have hl : lv_has ls 5 [(0, .ref (G.h + 0)), (1, .int a0), (2, .int a1), (3, .ref (G.h + 275))] := hl
  refine lv_aload_n C.x C.b dL_evidence_0 rfl (lv_at hl 3 rfl) ?_
  refine lv_iconst (v := 0) C.x C.b dL_evidence_1 (by decide) ?_
  refine lv_aload_n C.x C.b dL_evidence_2 rfl (lv_at hl 0 rfl) ?_
  refine lv_iload_n C.x C.b dL_evidence_3 rfl (lv_at hl 1 rfl) ?_
  refine lv_iload_n C.x C.b dL_evidence_4 rfl (lv_at hl 2 rfl) ?_
  refine z_VC (As := [.int a0, .int a1]) (rest := [.int 0, .ref (G.h + 275)]) [⟨0, 10, 13, 19⟩] ⟨0, 10, 17, 13⟩ [] C htab rfl (fun r hr => by
      rcases List.mem_cons.mp hr with rfl | hr
      · exact ⟨by decide, _, zl_19, zn_AO⟩
      cases hr) rfl (by decide) zl_13 zc_IAE hw hl hm ivL_81 hA.lt (hA.at _ _) rfl rfl ⟨(Nat.le_of_ble_eq_true rfl), (Nat.le_of_ble_eq_true rfl)⟩ (Nat.le_of_ble_eq_true rfl) ⟨(Nat.le_of_ble_eq_true rfl), (Nat.le_of_ble_eq_true rfl)⟩ dL_evidence_5 (fun H locs q hw => ?_)
  refine lv_astore (lv' := [(4, .ref q), (0, .ref (G.h + 0)), (1, .int a0), (2, .int a1), (3, .ref (G.h + 275))]) C.x C.b dL_evidence_17 hl (by decide) rfl (fun ls hl => ?_)
  refine lv_iconst (v := 2) C.x C.b dL_evidence_19 (by decide) ?_
  exact z_iret C hw dL_evidence_20 (rfl) (rfl)

theorem cwL_undo : zW (.codeWith yL_undo cL_undo 3 (some .int) [(0, 8, 11, 21)]) := ⟨by decide +kernel, rfl⟩
theorem w_undo {G : zG} {N : Nat} {Λ : zLay} {l : Launch} (hO : zOK G l) (z : zM) (hA : zPo G N Λ) (hJl : 275 < N) (hJ : zJA G Λ 275 1) {z' : zM} {v : Int32} (hm : zMet G N Λ l yX3_undo cX3_undo 1 (some .int) 4 [.ref (G.h + 0)] z (some (.int v)) z') : zMW G N Λ l yL_undo cL_undo 3 (some .int) [(0, 8, 11, 21)] 9 [.ref (G.h + 0), .ref (G.h + 275)] z (some (.int 0)) (zl z' 275 0 v.toInt64) := by
  refine zMW_of hO (by decide) (Nat.le_of_ble_eq_true rfl) cwL_undo ?_
  intro pP eE sS mM bB tT cC ls C htab hw hl
  have hl : lv_has ls 3 [(0, .ref (G.h + 0)), (1, .ref (G.h + 275))] := hl
  refine lv_aload_n C.x C.b dL_undo_0 rfl (lv_at hl 1 rfl) ?_
  refine lv_iconst (v := 0) C.x C.b dL_undo_1 (by decide) ?_
  refine lv_aload_n C.x C.b dL_undo_2 rfl (lv_at hl 0 rfl) ?_
  refine z_Vv (As := []) (rest := [.int 0, .ref (G.h + 275)]) C hw hl (hm) ivL_84 hA.lt (hA.at _ _) rfl rfl ⟨(Nat.le_of_ble_eq_true rfl), (Nat.le_of_ble_eq_true rfl)⟩ (Nat.le_of_ble_eq_true rfl) ⟨Nat.zero_le _, Nat.zero_le _⟩ dL_undo_3 (fun H locs hw => ?_)
  refine lv_i2l C.x C.b dL_undo_6 rfl ?_
  refine z_last C hw hJl hJ ((zvin (x := 0) (by omega) (by omega))) dL_undo_7 (fun H locs hw => ?_)
  obtain ⟨z_1, ez_1⟩ : ∃ q_9, q_9 = zl z' 275 (0 : Int32).toNatClampNeg v.toInt64 := ⟨_, rfl⟩
  have hw : zS G N Λ z_1 sS H locs := by rw [ez_1]; exact hw
  refine lv_goto (tgt := 14) C.x C.b dL_undo_8 (by decide) ?_
  refine z_wid (k := 1) (n := 6) (Nat.zero_le _) (Nat.zero_le _) ?_
  refine lv_iconst (v := 0) C.x C.b dL_undo_14 (by decide) ?_
  exact z_iret C hw dL_undo_15 (rfl) (by rw [ez_1]; rfl)

theorem wx_undo1 {G : zG} {N : Nat} {Λ : zLay} {l : Launch} (hO : zOK G l) (z : zM) (hA : zPo G N Λ) (hJl : 275 < N) (hJ : zJA G Λ 275 1) (hm : zMX G N Λ l yX3_undo cX3_undo 1 (some .int) 6 [.ref (G.h + 0)] z "java/lang/IllegalStateException") : zMW G N Λ l yL_undo cL_undo 3 (some .int) [(0, 8, 11, 21)] 9 [.ref (G.h + 0), .ref (G.h + 275)] z (some (.int 1)) z := by
  refine zMW_of hO (by decide) (Nat.le_of_ble_eq_true rfl) cwL_undo ?_
  intro pP eE sS mM bB tT cC ls C htab hw hl
  have hl : lv_has ls 3 [(0, .ref (G.h + 0)), (1, .ref (G.h + 275))] := hl
  refine lv_aload_n C.x C.b dL_undo_0 rfl (lv_at hl 1 rfl) ?_
  refine lv_iconst (v := 0) C.x C.b dL_undo_1 (by decide) ?_
  refine lv_aload_n C.x C.b dL_undo_2 rfl (lv_at hl 0 rfl) ?_
  refine z_VC (As := []) (rest := [.int 0, .ref (G.h + 275)]) [] ⟨0, 8, 11, 21⟩ [] C htab rfl (fun r hr => by cases hr) rfl (by decide) zl_21 zc_ISE hw hl hm ivL_84 hA.lt (hA.at _ _) rfl rfl ⟨(Nat.le_of_ble_eq_true rfl), (Nat.le_of_ble_eq_true rfl)⟩ (Nat.le_of_ble_eq_true rfl) ⟨(Nat.le_of_ble_eq_true rfl), (Nat.le_of_ble_eq_true rfl)⟩ dL_undo_3 (fun H locs q hw => ?_)
  refine lv_astore_n (lv' := [(2, .ref q), (0, .ref (G.h + 0)), (1, .ref (G.h + 275))]) C.x C.b dL_undo_11 rfl hl (by decide) rfl (fun ls hl => ?_)
  refine lv_iconst (v := 1) C.x C.b dL_undo_12 (by decide) ?_
  exact z_iret C hw dL_undo_13 (rfl) (rfl)
