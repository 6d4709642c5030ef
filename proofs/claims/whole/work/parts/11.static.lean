set_option maxRecDepth 100000 in
set_option maxHeartbeats 4000000 in
theorem m_X3_nextState {G : zG} {N : Nat} {Λ : zLay} {l : Launch} (hO : zOK G l) (z : zM) {m v q : Nat} (hm : m < 9973) (hv : v < 1000) (hq : q ≤ 6) : zMet G N Λ l yX3_nextState cX3_nextState 3 (some .int) 0 [.int (nI m), .int (pI q), .int (nI v)] z (some (.int (nI (nx m v q)))) z := by
  refine zMet_of hO (by decide) (Nat.le_of_ble_eq_true rfl) ?_
  intro pP eE sS mM bB tT cC ls C hw hl
  have hl : lv_has ls 3 [(0, .int (nI m)), (1, .int (pI q)), (2, .int (nI v))] := hl
  refine lv_bipush (v := 31) C.x C.b dX3_nextState_0 (by decide) ?_
  refine lv_iload_n C.x C.b dX3_nextState_2 rfl (lv_at hl 0 rfl) ?_
  refine lv_imul C.x C.b dX3_nextState_3 ?_
  refine lv_bipush (v := 17) C.x C.b dX3_nextState_4 (by decide) ?_
  refine lv_iload_n C.x C.b dX3_nextState_6 rfl (lv_at hl 2 rfl) ?_
  refine lv_imul C.x C.b dX3_nextState_7 ?_
  refine lv_iadd C.x C.b dX3_nextState_8 ?_
  refine lv_iload_n C.x C.b dX3_nextState_9 rfl (lv_at hl 1 rfl) ?_
  refine lv_iadd C.x C.b dX3_nextState_10 ?_
  refine lv_iconst (v := 2) C.x C.b dX3_nextState_11 (by decide) ?_
  refine lv_iadd C.x C.b dX3_nextState_12 ?_
  refine z_topi (y := nI (31 * m + 17 * v + q + 1)) (nx_i m v q) ?_
  refine lv_sipush (v := 9973) C.x C.b dX3_nextState_13 (by decide) ?_
  refine lv_irem C.x C.b dX3_nextState_16 (by decide) ?_
  refine z_topi (y := nI (nx m v q)) (zrem 9973 (by omega) (by omega) (by omega)) ?_
  exact z_iret C hw dX3_nextState_17 (rfl) (rfl)

set_option maxRecDepth 100000 in
set_option maxHeartbeats 4000000 in
theorem m_X3_hasOutput {G : zG} {N : Nat} {Λ : zLay} {l : Launch} (hO : zOK G l) (z : zM) {m : Nat} (hm : m < 9973) : zMet G N Λ l yX3_hasOutput cX3_hasOutput 1 (some .boolean) 0 [.int (nI m)] z (some (.int (hasO m))) z := by
  refine zMet_of hO (by decide) (Nat.le_of_ble_eq_true rfl) ?_
  intro pP eE sS mM bB tT cC ls C hw hl
  have hl : lv_has ls 1 [(0, .int (nI m))] := hl
  refine lv_iload_n C.x C.b dX3_hasOutput_0 rfl (lv_at hl 0 rfl) ?_
  refine lv_iconst (v := 3) C.x C.b dX3_hasOutput_1 (by decide) ?_
  refine lv_irem C.x C.b dX3_hasOutput_2 (by decide) ?_
  refine z_topi (y := nI (m % 3)) (zrem 3 (by omega) (by omega) (by omega)) ?_
  refine lv_if_ne (tgt := 10) C.x C.b dX3_hasOutput_3 (by decide) (fun c_3 => ?_) (fun c_3 => ?_)
  · refine lv_iconst (v := 0) C.x C.b dX3_hasOutput_10 (by decide) ?_
    exact z_zret C hw dX3_hasOutput_11 (by decide) (by rw [hasO, if_neg (fun q => c_3 (by rw [q]; rfl))]) (rfl)
  · refine lv_iconst (v := 1) C.x C.b dX3_hasOutput_6 (by decide) ?_
    refine lv_goto (tgt := 11) C.x C.b dX3_hasOutput_7 (by decide) ?_
    exact z_zret C hw dX3_hasOutput_11 (by decide) (by rw [hasO, if_pos ((nI_eq (b := 0) (by omega) (by omega)).mp c_3)]) (rfl)

set_option maxRecDepth 100000 in
set_option maxHeartbeats 4000000 in
theorem m_X3_outputValue {G : zG} {N : Nat} {Λ : zLay} {l : Launch} (hO : zOK G l) (z : zM) {m : Nat} (hm : m < 9973) : zMet G N Λ l yX3_outputValue cX3_outputValue 1 (some .int) 0 [.int (nI m)] z (some (.int (nI (m % 1000)))) z := by
  refine zMet_of hO (by decide) (Nat.le_of_ble_eq_true rfl) ?_
  intro pP eE sS mM bB tT cC ls C hw hl
  have hl : lv_has ls 1 [(0, .int (nI m))] := hl
  refine lv_iload_n C.x C.b dX3_outputValue_0 rfl (lv_at hl 0 rfl) ?_
  refine lv_sipush (v := 1000) C.x C.b dX3_outputValue_1 (by decide) ?_
  refine lv_irem C.x C.b dX3_outputValue_4 (by decide) ?_
  refine z_topi (y := nI (m % 1000)) (zrem 1000 (by omega) (by omega) (by omega)) ?_
  exact z_iret C hw dX3_outputValue_5 (rfl) (rfl)

set_option maxRecDepth 100000 in
set_option maxHeartbeats 4000000 in
theorem m_X3_outputPeer {G : zG} {N : Nat} {Λ : zLay} {l : Launch} (hO : zOK G l) (z : zM) {x m n : Nat} (hm : m < 9973) (hn : 2 ≤ n) (hn6 : n ≤ 6) (hx : x < n) : zMet G N Λ l yX3_outputPeer cX3_outputPeer 5 (some .int) 0 [.int (nI x), .int (nI m), .int (nI n)] z (some (.int (nI (gt x m n)))) z := by
  refine zMet_of hO (by decide) (Nat.le_of_ble_eq_true rfl) ?_
  intro pP eE sS mM bB tT cC ls C hw hl
  have hl : lv_has ls 5 [(0, .int (nI x)), (1, .int (nI m)), (2, .int (nI n))] := hl
  have h1 : m % (n - 1) < n - 1 := Nat.mod_lt _ (by omega)
  refine lv_iload_n C.x C.b dX3_outputPeer_0 rfl (lv_at hl 2 rfl) ?_
  refine lv_iconst (v := 1) C.x C.b dX3_outputPeer_1 (by decide) ?_
  refine lv_isub C.x C.b dX3_outputPeer_2 ?_
  refine z_topi (y := nI (n - 1)) (by rw [zlit 1, zsub (by omega)]) ?_
  refine lv_istore_n (lv' := [(3, .int (nI (n - 1))), (0, .int (nI x)), (1, .int (nI m)), (2, .int (nI n))]) C.x C.b dX3_outputPeer_3 rfl hl (by decide) rfl (fun ls hl => ?_)
  refine lv_iload_n C.x C.b dX3_outputPeer_4 rfl (lv_at hl 1 rfl) ?_
  refine lv_iconst (v := 1) C.x C.b dX3_outputPeer_5 (by decide) ?_
  refine lv_iadd C.x C.b dX3_outputPeer_6 ?_
  refine lv_iload_n C.x C.b dX3_outputPeer_7 rfl (lv_at hl 0 rfl) ?_
  refine lv_if_le (tgt := 17) C.x C.b dX3_outputPeer_8 (by decide) (fun c_8 => absurd c_8 (nI_nle (by omega) (by omega))) (fun c_8 => ?_)
  refine lv_iload_n C.x C.b dX3_outputPeer_11 rfl (lv_at hl 2 rfl) ?_
  refine lv_iload_n C.x C.b dX3_outputPeer_12 rfl (lv_at hl 0 rfl) ?_
  refine lv_irem C.x C.b dX3_outputPeer_13 (nI_ne0 (by omega) (by omega)) ?_
  refine z_topi (y := nI (m % (n - 1))) (zrem (n - 1) (by omega) (by omega) (by omega)) ?_
  refine lv_goto (tgt := 18) C.x C.b dX3_outputPeer_14 (by decide) ?_
  refine lv_iadd C.x C.b dX3_outputPeer_18 ?_
  refine z_topi (y := nI (x + 1 + m % (n - 1))) (by rw [zlit 1, nI_add, nI_add]) ?_
  refine lv_istore (lv' := [(4, .int (nI (x + 1 + m % (n - 1)))), (3, .int (nI (n - 1))), (0, .int (nI x)), (1, .int (nI m)), (2, .int (nI n))]) C.x C.b dX3_outputPeer_19 hl (by decide) rfl (fun ls hl => ?_)
  refine lv_iload C.x C.b dX3_outputPeer_21 (lv_at hl 0 rfl) ?_
  refine lv_iload_n C.x C.b dX3_outputPeer_23 rfl (lv_at hl 4 rfl) ?_
  refine lv_icmp_lt (tgt := 34) C.x C.b dX3_outputPeer_24 (by decide) (fun c_24 => ?_) (fun c_24 => ?_)
  · refine lv_iload C.x C.b dX3_outputPeer_34 (lv_at hl 0 rfl) ?_
    refine z_pc (pc2 := 36) rfl ?_
    exact z_iret C hw dX3_outputPeer_36 (by rw [gt_lo ((nI_ltI (by omega) (by omega)).mp c_24)]) (rfl)
  · refine lv_iload C.x C.b dX3_outputPeer_27 (lv_at hl 0 rfl) ?_
    refine z_pc (pc2 := 29) rfl ?_
    refine lv_iload_n C.x C.b dX3_outputPeer_29 rfl (lv_at hl 4 rfl) ?_
    refine lv_isub C.x C.b dX3_outputPeer_30 ?_
    refine z_topi (y := nI (x + 1 + m % (n - 1) - n)) (zsub (Nat.le_of_not_lt (fun q => c_24 (zlt (by omega) q)))) ?_
    refine lv_goto (tgt := 36) C.x C.b dX3_outputPeer_31 (by decide) ?_
    exact z_iret C hw dX3_outputPeer_36 (by rw [gt_hi hn hx (fun q => c_24 (zlt (by omega) q))]) (rfl)

set_option maxRecDepth 100000 in
set_option maxHeartbeats 4000000 in
theorem m_X3_nextChain {G : zG} {N : Nat} {Λ : zLay} {l : Launch} (hO : zOK G l) (z : zM) {h a q v : Nat} (hh : h < 2147483647) (ha : a ≤ 2) (hq : q ≤ 6) (hv : v < 1000) : zMet G N Λ l yX3_nextChain cX3_nextChain 4 (some .int) 0 [.int (nI h), .int (nI a), .int (pI q), .int (nI v)] z (some (.int (nI (nc h a q v)))) z := by
  refine zMet_of hO (by decide) (Nat.le_of_ble_eq_true rfl) ?_
  intro pP eE sS mM bB tT cC ls C hw hl
  have hl : lv_has ls 4 [(0, .int (nI h)), (1, .int (nI a)), (2, .int (pI q)), (3, .int (nI v))] := hl
  refine lv_iload_n C.x C.b dX3_nextChain_0 rfl (lv_at hl 0 rfl) ?_
  refine lv_i2l C.x C.b dX3_nextChain_1 rfl ?_
  refine lv_ldc2 (v := 1000003) C.x C.b C.ow (C.w ctX3_224) dX3_nextChain_2 ?_
  refine lv_lmul C.x C.b dX3_nextChain_5 ?_
  refine lv_bipush (v := 7) C.x C.b dX3_nextChain_6 (by decide) ?_
  refine lv_iload_n C.x C.b dX3_nextChain_8 rfl (lv_at hl 1 rfl) ?_
  refine lv_imul C.x C.b dX3_nextChain_9 ?_
  refine lv_i2l C.x C.b dX3_nextChain_10 rfl ?_
  refine lv_ladd C.x C.b dX3_nextChain_11 ?_
  refine lv_bipush (v := 31) C.x C.b dX3_nextChain_12 (by decide) ?_
  refine lv_iload_n C.x C.b dX3_nextChain_14 rfl (lv_at hl 2 rfl) ?_
  refine lv_iconst (v := 1) C.x C.b dX3_nextChain_15 (by decide) ?_
  refine lv_iadd C.x C.b dX3_nextChain_16 ?_
  refine lv_imul C.x C.b dX3_nextChain_17 ?_
  refine lv_i2l C.x C.b dX3_nextChain_18 rfl ?_
  refine lv_ladd C.x C.b dX3_nextChain_19 ?_
  refine lv_sipush (v := 257) C.x C.b dX3_nextChain_20 (by decide) ?_
  refine lv_iload_n C.x C.b dX3_nextChain_23 rfl (lv_at hl 3 rfl) ?_
  refine lv_imul C.x C.b dX3_nextChain_24 ?_
  refine z_pc (pc2 := 25) rfl ?_
  refine lv_i2l C.x C.b dX3_nextChain_25 rfl ?_
  refine lv_ladd C.x C.b dX3_nextChain_26 ?_
  refine lv_ldc2 (v := 2147483647) C.x C.b C.ow (C.w ctX3_226) dX3_nextChain_27 ?_
  refine lv_lrem C.x C.b dX3_nextChain_30 (by decide) ?_
  refine lv_l2i C.x C.b dX3_nextChain_31 rfl ?_
  refine z_topi (y := nI (nc h a q v)) (by rw [nc_sum hh ha hq hv, zlitL 2147483647, pk_lRem (by omega) (by omega) (by omega), lN_i]; rfl) ?_
  exact z_iret C hw dX3_nextChain_32 (rfl) (rfl)

set_option maxRecDepth 100000 in
set_option maxHeartbeats 4000000 in
theorem m_X3_othersOf {G : zG} {N : Nat} {Λ : zLay} {l : Launch} (hO : zOK G l) (z : zM) {x n : Nat} : zMet G N Λ l yX3_othersOf cX3_othersOf 2 (some .int) 0 [.int (nI x), .int (nI n)] z (some (.int (othI x n))) z := by
  refine zMet_of hO (by decide) (Nat.le_of_ble_eq_true rfl) ?_
  intro pP eE sS mM bB tT cC ls C hw hl
  have hl : lv_has ls 2 [(0, .int (nI x)), (1, .int (nI n))] := hl
  refine lv_iconst (v := 1) C.x C.b dX3_othersOf_0 (by decide) ?_
  refine lv_iload_n C.x C.b dX3_othersOf_1 rfl (lv_at hl 1 rfl) ?_
  refine lv_ishl C.x C.b dX3_othersOf_2 ?_
  refine lv_iconst (v := 1) C.x C.b dX3_othersOf_3 (by decide) ?_
  refine lv_isub C.x C.b dX3_othersOf_4 ?_
  refine lv_iconst (v := 1) C.x C.b dX3_othersOf_5 (by decide) ?_
  refine lv_iload_n C.x C.b dX3_othersOf_6 rfl (lv_at hl 0 rfl) ?_
  refine lv_ishl C.x C.b dX3_othersOf_7 ?_
  refine lv_iconst (v := -1) C.x C.b dX3_othersOf_8 (by decide) ?_
  refine lv_ixor C.x C.b dX3_othersOf_9 ?_
  refine lv_iand C.x C.b dX3_othersOf_10 ?_
  exact z_iret C hw dX3_othersOf_11 (rfl) (rfl)

set_option maxRecDepth 100000 in
set_option maxHeartbeats 4000000 in
theorem m_X3_mix {G : zG} {N : Nat} {Λ : zLay} {l : Launch} (hO : zOK G l) (z : zM) {h v : Int64} : zMet G N Λ l yX3_mix cX3_mix 4 (some .long) 0 [.long h, .long v] z (some (.long (31 * h + v))) z := by
  refine zMet_of hO (by decide) (Nat.le_of_ble_eq_true rfl) ?_
  intro pP eE sS mM bB tT cC ls C hw hl
  have hl : lv_has ls 4 [(0, .long h), (2, .long v)] := hl
  refine lv_ldc2 (v := 31) C.x C.b C.ow (C.w ctX3_222) dX3_mix_0 ?_
  refine lv_lload_n C.x C.b dX3_mix_3 rfl (lv_at hl 0 rfl) ?_
  refine lv_lmul C.x C.b dX3_mix_4 ?_
  refine lv_lload_n C.x C.b dX3_mix_5 rfl (lv_at hl 1 rfl) ?_
  refine lv_ladd C.x C.b dX3_mix_6 ?_
  exact z_lret C hw dX3_mix_7 (rfl) (rfl)
