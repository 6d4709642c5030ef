theorem zshl1 {w : Nat} (h : w < 6) : (1 : Int32) <<< (nI w &&& 31) = nI (2 ^ w) := by
  rcases (show w = 0 ∨ w = 1 ∨ w = 2 ∨ w = 3 ∨ w = 4 ∨ w = 5 by omega) with rfl | rfl | rfl | rfl | rfl | rfl <;> decide
theorem zbit (k : Nat) {w : Nat} (h : w < 6) : nI k &&& nI (2 ^ w) = 0 ↔ k.testBit w = false := fa_bit (by omega)
set_option maxRecDepth 100000 in
set_option maxHeartbeats 4000000 in
theorem m_X0_chainAt {G : zG} {N : Nat} {Λ : zLay} {l : Launch} (hO : zOK G l) (z : zM) {b x : Nat} (hM : zMa G N Λ b x) {k : Nat} (hk : z.1 (b + 2) 3 = nI k) (hk2 : k ≤ 40) {i : Nat} (hi : i ≤ k) : zMet G N Λ l yX0_chainAt cX0_chainAt 2 (some .int) 1 [.ref (G.h + b), .int (nI i)] z (some (.int (chv z (b + 2 + 1) i))) z := by
  refine zMet_of hO (by decide) (Nat.le_of_ble_eq_true rfl) ?_
  intro pP eE sS mM bB tT cC ls C hw hl
  have hl : lv_has ls 2 [(0, .ref (G.h + b)), (1, .int (nI i))] := hl
  refine lv_iload_n C.x C.b dX0_chainAt_0 rfl (lv_at hl 1 rfl) ?_
  refine lv_if_ne (tgt := 8) C.x C.b dX0_chainAt_1 (by decide) (fun c_1 => ?_) (fun c_1 => ?_)
  · refine lv_aload_n C.x C.b dX0_chainAt_8 rfl (lv_at hl 0 rfl) ?_
    refine z_get C hw hM.lt (hM.at _ _) flX0_24 rfl dX0_chainAt_9 ?_
    refine lv_iload_n C.x C.b dX0_chainAt_12 rfl (lv_at hl 1 rfl) ?_
    refine lv_iconst (v := 1) C.x C.b dX0_chainAt_13 (by decide) ?_
    refine lv_isub C.x C.b dX0_chainAt_14 ?_
    have h1 := zpos c_1
    refine z_topi (y := nI (i - 1)) (by rw [zlit 1, zsub h1]) ?_
    refine lv_iconst (v := 3) C.x C.b dX0_chainAt_15 (by decide) ?_
    refine z_Vv (As := [.int (nI (i - 1)), .int 3]) (rest := []) C hw hl (m_X1_get hO _ hM.log hk hk2 (r := i - 1) (c := 3) (by omega) (by omega)) ivX0_68 hM.log.lt (hM.log.at _ _) rfl rfl ⟨(Nat.le_of_ble_eq_true rfl), (Nat.le_of_ble_eq_true rfl)⟩ (Nat.le_of_ble_eq_true rfl) ⟨Nat.zero_le _, Nat.zero_le _⟩ dX0_chainAt_16 (fun H locs hw => ?_)
    exact z_iret C hw dX0_chainAt_19 (by rw [chv, if_neg (by omega)]) (rfl)
  · refine lv_iconst (v := 1) C.x C.b dX0_chainAt_4 (by decide) ?_
    refine lv_goto (tgt := 19) C.x C.b dX0_chainAt_5 (by decide) ?_
    exact z_iret C hw dX0_chainAt_19 (by rw [chv, if_pos (zzero (by omega) c_1)]) (rfl)

set_option maxRecDepth 100000 in
set_option maxHeartbeats 4000000 in
theorem m_X0_packedEntry {G : zG} {N : Nat} {Λ : zLay} {l : Launch} (hO : zOK G l) (z : zM) {b x : Nat} (hM : zMa G N Λ b x) {k : Nat} (hk : z.1 (b + 2) 3 = nI k) (hk2 : k ≤ 40) {r : Nat → Nat → Nat} (hR : rRow z (b + 2) k r) (hok : okRow r k) {j : Nat} (hj : j < k) : zMet G N Λ l yX0_packedEntry cX0_packedEntry 2 (some .int) 1 [.ref (G.h + b), .int (nI j)] z (some (.int (nI (pk (r j 0) (r j 1) (r j 2))))) z := by
  refine zMet_of hO (by decide) (Nat.le_of_ble_eq_true rfl) ?_
  intro pP eE sS mM bB tT cC ls C hw hl
  have hl : lv_has ls 2 [(0, .ref (G.h + b)), (1, .int (nI j))] := hl
  refine lv_ldc (v := 100000) C.x C.b C.ow (C.w ctX0_71) dX0_packedEntry_0 ?_
  refine lv_aload_n C.x C.b dX0_packedEntry_2 rfl (lv_at hl 0 rfl) ?_
  refine z_get C hw hM.lt (hM.at _ _) flX0_24 rfl dX0_packedEntry_3 ?_
  refine lv_iload_n C.x C.b dX0_packedEntry_6 rfl (lv_at hl 1 rfl) ?_
  refine lv_iconst (v := 0) C.x C.b dX0_packedEntry_7 (by decide) ?_
  refine z_Vv (As := [.int (nI j), .int 0]) (rest := [.int 100000]) C hw hl (m_X1_get hO _ hM.log hk hk2 (r := j) (c := 0) (hj) (by omega)) ivX0_68 hM.log.lt (hM.log.at _ _) rfl rfl ⟨(Nat.le_of_ble_eq_true rfl), (Nat.le_of_ble_eq_true rfl)⟩ (Nat.le_of_ble_eq_true rfl) ⟨Nat.zero_le _, Nat.zero_le _⟩ dX0_packedEntry_8 (fun H locs hw => ?_)
  refine z_topi (y := nI (r j 0)) ((hR j hj).1) ?_
  refine lv_imul C.x C.b dX0_packedEntry_11 ?_
  refine lv_sipush (v := 10000) C.x C.b dX0_packedEntry_12 (by decide) ?_
  refine lv_aload_n C.x C.b dX0_packedEntry_15 rfl (lv_at hl 0 rfl) ?_
  refine z_get C hw hM.lt (hM.at _ _) flX0_24 rfl dX0_packedEntry_16 ?_
  refine lv_iload_n C.x C.b dX0_packedEntry_19 rfl (lv_at hl 1 rfl) ?_
  refine lv_iconst (v := 1) C.x C.b dX0_packedEntry_20 (by decide) ?_
  refine z_Vv (As := [.int (nI j), .int 1]) (rest := [.int 10000, .int (100000 * (nI (r j 0)))]) C hw hl (m_X1_get hO _ hM.log hk hk2 (r := j) (c := 1) (hj) (by omega)) ivX0_68 hM.log.lt (hM.log.at _ _) rfl rfl ⟨(Nat.le_of_ble_eq_true rfl), (Nat.le_of_ble_eq_true rfl)⟩ (Nat.le_of_ble_eq_true rfl) ⟨Nat.zero_le _, Nat.zero_le _⟩ dX0_packedEntry_21 (fun H locs hw => ?_)
  refine z_topi (y := pI (r j 1)) ((hR j hj).2.1) ?_
  refine lv_iconst (v := 1) C.x C.b dX0_packedEntry_24 (by decide) ?_
  refine lv_iadd C.x C.b dX0_packedEntry_25 ?_
  refine z_topi (y := nI (r j 1)) (pI_1 _) ?_
  refine lv_imul C.x C.b dX0_packedEntry_26 ?_
  refine lv_iadd C.x C.b dX0_packedEntry_27 ?_
  refine lv_aload_n C.x C.b dX0_packedEntry_28 rfl (lv_at hl 0 rfl) ?_
  refine z_get C hw hM.lt (hM.at _ _) flX0_24 rfl dX0_packedEntry_29 ?_
  refine z_pc (pc2 := 32) rfl ?_
  refine lv_iload_n C.x C.b dX0_packedEntry_32 rfl (lv_at hl 1 rfl) ?_
  refine lv_iconst (v := 2) C.x C.b dX0_packedEntry_33 (by decide) ?_
  refine z_Vv (As := [.int (nI j), .int 2]) (rest := [.int ((100000 * (nI (r j 0))) + (10000 * (nI (r j 1))))]) C hw hl (m_X1_get hO _ hM.log hk hk2 (r := j) (c := 2) (hj) (by omega)) ivX0_68 hM.log.lt (hM.log.at _ _) rfl rfl ⟨(Nat.le_of_ble_eq_true rfl), (Nat.le_of_ble_eq_true rfl)⟩ (Nat.le_of_ble_eq_true rfl) ⟨Nat.zero_le _, Nat.zero_le _⟩ dX0_packedEntry_34 (fun H locs hw => ?_)
  refine z_topi (y := nI (r j 2)) ((hR j hj).2.2) ?_
  refine lv_iadd C.x C.b dX0_packedEntry_37 ?_
  refine z_topi (y := nI (pk (r j 0) (r j 1) (r j 2))) (by rw [zlit 100000, zlit 10000, pk_mul, pk_mul, nI_add, nI_add]; rfl) ?_
  exact z_iret C hw dX0_packedEntry_38 (rfl) (rfl)

set_option maxRecDepth 100000 in
set_option maxHeartbeats 4000000 in
theorem m_X0_append {G : zG} {N : Nat} {Λ : zLay} {l : Launch} (hO : zOK G l) (z : zM) {b x : Nat} (hM : zMa G N Λ b x) {k : Nat} (hk : z.1 (b + 2) 3 = nI k) (hk2 : k < 40) {h : Nat} (hh : chv z (b + 2 + 1) k = nI h) (hhl : h < 2147483647) {a q v : Nat} (ha : a ≤ 2) (hq : q ≤ 6) (hv : v < 1000) : zMet G N Λ l yX0_append cX0_append 5 none 2 [.ref (G.h + b), .int (nI a), .int (pI q), .int (nI v)] z none (lapp z (b + 2) k a q v h) := by
  refine zMet_of hO (by decide) (Nat.le_of_ble_eq_true rfl) ?_
  intro pP eE sS mM bB tT cC ls C hw hl
  have hl : lv_has ls 5 [(0, .ref (G.h + b)), (1, .int (nI a)), (2, .int (pI q)), (3, .int (nI v))] := hl
  refine lv_aload_n C.x C.b dX0_append_0 rfl (lv_at hl 0 rfl) ?_
  refine z_get C hw hM.lt (hM.at _ _) flX0_24 rfl dX0_append_1 ?_
  refine z_Vv (As := []) (rest := []) C hw hl (m_X1_addRow hO _ hM.log hk (Nat.le_of_lt hk2) hk2) ivX0_72 hM.log.lt (hM.log.at _ _) rfl rfl ⟨(Nat.le_of_ble_eq_true rfl), (Nat.le_of_ble_eq_true rfl)⟩ (Nat.le_of_ble_eq_true rfl) ⟨Nat.zero_le _, Nat.zero_le _⟩ dX0_append_4 (fun H locs hw => ?_)
  obtain ⟨z_1, ez_1⟩ : ∃ q_9, q_9 = zi z (b + 2) 3 (nI (k + 1)) := ⟨_, rfl⟩
  have hw : zS G N Λ z_1 sS H locs := by rw [ez_1]; exact hw
  refine lv_istore (lv' := [(4, .int (nI k)), (0, .ref (G.h + b)), (1, .int (nI a)), (2, .int (pI q)), (3, .int (nI v))]) C.x C.b dX0_append_7 hl (by decide) rfl (fun ls hl => ?_)
  refine lv_aload_n C.x C.b dX0_append_9 rfl (lv_at hl 1 rfl) ?_
  refine z_get C hw hM.lt (hM.at _ _) flX0_24 rfl dX0_append_10 ?_
  refine lv_iload C.x C.b dX0_append_13 (lv_at hl 0 rfl) ?_
  refine lv_iconst (v := 0) C.x C.b dX0_append_15 (by decide) ?_
  refine lv_iload_n C.x C.b dX0_append_16 rfl (lv_at hl 2 rfl) ?_
  have hk_1 : z_1.1 (b + 2) 3 = nI (k + 1) := by rw [ez_1, zi_at, if_pos ⟨rfl, rfl⟩]
  refine z_V0 (As := [.int (nI k), .int 0, .int (nI a)]) (rest := []) C hw hl (m_X1_set hO _ hM.log hk_1 (by omega) (r := k) (c := 0) (by omega) (by omega)) ivX0_76 hM.log.lt (hM.log.at _ _) rfl rfl ⟨(Nat.le_of_ble_eq_true rfl), (Nat.le_of_ble_eq_true rfl)⟩ (Nat.le_of_ble_eq_true rfl) ⟨Nat.zero_le _, Nat.zero_le _⟩ dX0_append_17 (fun H locs hw => ?_)
  obtain ⟨z_2, ez_2⟩ : ∃ q_9, q_9 = zi z_1 (b + 2 + 1) (k * 4 + 0) (nI a) := ⟨_, rfl⟩
  have hw : zS G N Λ z_2 sS H locs := by rw [ez_2]; exact hw
  refine lv_aload_n C.x C.b dX0_append_20 rfl (lv_at hl 1 rfl) ?_
  refine z_get C hw hM.lt (hM.at _ _) flX0_24 rfl dX0_append_21 ?_
  refine lv_iload C.x C.b dX0_append_24 (lv_at hl 0 rfl) ?_
  refine lv_iconst (v := 1) C.x C.b dX0_append_26 (by decide) ?_
  refine lv_iload_n C.x C.b dX0_append_27 rfl (lv_at hl 3 rfl) ?_
  have hk_2 : z_2.1 (b + 2) 3 = nI (k + 1) := by rw [ez_2, zi_at, if_neg (by omega), hk_1]
  refine z_V0 (As := [.int (nI k), .int 1, .int (pI q)]) (rest := []) C hw hl (m_X1_set hO _ hM.log hk_2 (by omega) (r := k) (c := 1) (by omega) (by omega)) ivX0_76 hM.log.lt (hM.log.at _ _) rfl rfl ⟨(Nat.le_of_ble_eq_true rfl), (Nat.le_of_ble_eq_true rfl)⟩ (Nat.le_of_ble_eq_true rfl) ⟨Nat.zero_le _, Nat.zero_le _⟩ dX0_append_28 (fun H locs hw => ?_)
  obtain ⟨z_3, ez_3⟩ : ∃ q_9, q_9 = zi z_2 (b + 2 + 1) (k * 4 + 1) (pI q) := ⟨_, rfl⟩
  have hw : zS G N Λ z_3 sS H locs := by rw [ez_3]; exact hw
  refine lv_aload_n C.x C.b dX0_append_31 rfl (lv_at hl 1 rfl) ?_
  refine z_get C hw hM.lt (hM.at _ _) flX0_24 rfl dX0_append_32 ?_
  refine lv_iload C.x C.b dX0_append_35 (lv_at hl 0 rfl) ?_
  refine z_pc (pc2 := 37) rfl ?_
  refine lv_iconst (v := 2) C.x C.b dX0_append_37 (by decide) ?_
  refine lv_iload_n C.x C.b dX0_append_38 rfl (lv_at hl 4 rfl) ?_
  have hk_3 : z_3.1 (b + 2) 3 = nI (k + 1) := by rw [ez_3, zi_at, if_neg (by omega), hk_2]
  refine z_V0 (As := [.int (nI k), .int 2, .int (nI v)]) (rest := []) C hw hl (m_X1_set hO _ hM.log hk_3 (by omega) (r := k) (c := 2) (by omega) (by omega)) ivX0_76 hM.log.lt (hM.log.at _ _) rfl rfl ⟨(Nat.le_of_ble_eq_true rfl), (Nat.le_of_ble_eq_true rfl)⟩ (Nat.le_of_ble_eq_true rfl) ⟨Nat.zero_le _, Nat.zero_le _⟩ dX0_append_39 (fun H locs hw => ?_)
  obtain ⟨z_4, ez_4⟩ : ∃ q_9, q_9 = zi z_3 (b + 2 + 1) (k * 4 + 2) (nI v) := ⟨_, rfl⟩
  have hw : zS G N Λ z_4 sS H locs := by rw [ez_4]; exact hw
  refine lv_aload_n C.x C.b dX0_append_42 rfl (lv_at hl 1 rfl) ?_
  refine z_get C hw hM.lt (hM.at _ _) flX0_24 rfl dX0_append_43 ?_
  refine lv_iload C.x C.b dX0_append_46 (lv_at hl 0 rfl) ?_
  refine lv_iconst (v := 3) C.x C.b dX0_append_48 (by decide) ?_
  refine lv_aload_n C.x C.b dX0_append_49 rfl (lv_at hl 1 rfl) ?_
  refine lv_iload C.x C.b dX0_append_50 (lv_at hl 0 rfl) ?_
  have hk_4 : z_4.1 (b + 2) 3 = nI (k + 1) := by rw [ez_4, zi_at, if_neg (by omega), hk_3]
  refine z_Vv (As := [.int (nI k)]) (rest := [.int 3, .int (nI k), .ref (G.h + (b + 2))]) C hw hl (m_X0_chainAt hO _ hM hk_4 (by omega) (i := k) (by omega)) ivX0_80 hM.lt (hM.at _ _) rfl rfl ⟨(Nat.le_of_ble_eq_true rfl), (Nat.le_of_ble_eq_true rfl)⟩ (Nat.le_of_ble_eq_true rfl) ⟨Nat.zero_le _, Nat.zero_le _⟩ dX0_append_52 (fun H locs hw => ?_)
  refine z_topi (y := nI h) (by
      rw [← hh]
      unfold chv
      by_cases h0 : k = 0
      · rw [if_pos h0, if_pos h0]
      · rw [if_neg h0, if_neg h0, ez_4, zi_at, if_neg (by omega), ez_3, zi_at, if_neg (by omega), ez_2, zi_at, if_neg (by omega), ez_1, zi_at, if_neg (by omega)]) ?_
  refine lv_iload_n C.x C.b dX0_append_55 rfl (lv_at hl 2 rfl) ?_
  refine lv_iload_n C.x C.b dX0_append_56 rfl (lv_at hl 3 rfl) ?_
  refine lv_iload_n C.x C.b dX0_append_57 rfl (lv_at hl 4 rfl) ?_
  refine z_Nv (As := [.int (nI h), .int (nI a), .int (pI q), .int (nI v)]) (rest := [.int 3, .int (nI k), .ref (G.h + (b + 2))]) C hw hl (m_X3_nextChain hO _ hhl ha hq hv) ivX0_84 rfl rfl ⟨(Nat.le_of_ble_eq_true rfl), (Nat.le_of_ble_eq_true rfl)⟩ (Nat.le_of_ble_eq_true rfl) ⟨Nat.zero_le _, Nat.zero_le _⟩ dX0_append_58 (fun H locs hw => ?_)
  refine z_V0 (As := [.int (nI k), .int 3, .int (nI (nc h a q v))]) (rest := []) C hw hl (m_X1_set hO _ hM.log hk_4 (by omega) (r := k) (c := 3) (by omega) (by omega)) ivX0_76 hM.log.lt (hM.log.at _ _) rfl rfl ⟨(Nat.le_of_ble_eq_true rfl), (Nat.le_of_ble_eq_true rfl)⟩ (Nat.le_of_ble_eq_true rfl) ⟨Nat.zero_le _, Nat.zero_le _⟩ dX0_append_61 (fun H locs hw => ?_)
  obtain ⟨z_5, ez_5⟩ : ∃ q_9, q_9 = zi z_4 (b + 2 + 1) (k * 4 + 3) (nI (nc h a q v)) := ⟨_, rfl⟩
  have hw : zS G N Λ z_5 sS H locs := by rw [ez_5]; exact hw
  exact z_vret C hw dX0_append_64 (rfl) (by rw [ez_5, ez_4, ez_3, ez_2, ez_1]; rfl)

set_option maxRecDepth 100000 in
set_option maxHeartbeats 4000000 in
theorem m_X0_rechain {G : zG} {N : Nat} {Λ : zLay} {l : Launch} (hO : zOK G l) (z : zM) {b x : Nat} (hM : zMa G N Λ b x) {k : Nat} (hk : z.1 (b + 2) 3 = nI k) (hk2 : k ≤ 40) {r : Nat → Nat → Nat} (hR : rRow z (b + 2) k r) (hok : okRow r k) {e : Nat} (hek : e ≤ k) (hc : ∀ j, j < e → z.1 (b + 2 + 1) (j * 4 + 3) = nI (CH r (j + 1))) : zMet G N Λ l yX0_rechain cX0_rechain 4 none 2 [.ref (G.h + b), .int (nI e)] z none (rchz z (b + 2 + 1) r e k) := by
  refine zMet_of hO (by decide) (Nat.le_of_ble_eq_true rfl) ?_
  intro pP eE sS mM bB tT cC ls C hw hl
  have hl : lv_has ls 4 [(0, .ref (G.h + b)), (1, .int (nI e))] := hl
  refine lv_iload_n C.x C.b dX0_rechain_0 rfl (lv_at hl 1 rfl) ?_
  refine lv_istore_n (lv' := [(2, .int (nI e)), (0, .ref (G.h + b)), (1, .int (nI e))]) C.x C.b dX0_rechain_1 rfl hl (by decide) rfl (fun ls hl => ?_)
  have loop : ∀ (d : Nat) (j : Nat) (H : Heap) (locs : List Loc) (ls : Array Slot) (hj : j + d = k) (he : e ≤ j), zS G N Λ (rchz z (b + 2 + 1) r e j) sS H locs → lv_has ls 4 [(0, .ref (G.h + b)), (2, .int (nI j))] → W pP l eE (zR 2) sS mM ([.ref (G.h + b), .int (nI e)] : List Value).toArray bB tT cC H locs 0 0 (MQ bB (zQc G N Λ none (rchz z (b + 2 + 1) r e k)) ([.ref (G.h + b), .int (nI e)] : List Value).toArray sS 0 0 (zA G)) (F0 mM 2 ls []) := by
    intro d
    induction d with
    | zero =>
      intro j H locs ls hj he hw hl
      refine lv_iload_n C.x C.b dX0_rechain_2 rfl (lv_at hl 1 rfl) ?_
      have hkj : (rchz z (b + 2 + 1) r e j).1 (b + 2) 3 = nI k := by rw [rchz_n _ _ _ _ (by omega)]; exact hk
      refine lv_aload_n C.x C.b dX0_rechain_3 rfl (lv_at hl 0 rfl) ?_
      refine z_get C hw hM.lt (hM.at _ _) flX0_24 rfl dX0_rechain_4 ?_
      refine z_get C hw hM.log.lt (hM.log.at _ _) flX0_65 rfl dX0_rechain_7 ?_
      refine lv_icmp_ge (tgt := 65) C.x C.b dX0_rechain_10 (by decide) (fun c_10 => ?_) (fun c_10 => absurd (by rw [hkj]; exact zle (by omega) (by omega)) c_10)
      exact z_vret C hw dX0_rechain_65 (rfl) (by
        have h9 : j = k := by omega
        rw [h9])
    | succ d ih =>
      intro j H locs ls hj he hw hl
      refine lv_iload_n C.x C.b dX0_rechain_2 rfl (lv_at hl 1 rfl) ?_
      have hkj : (rchz z (b + 2 + 1) r e j).1 (b + 2) 3 = nI k := by rw [rchz_n _ _ _ _ (by omega)]; exact hk
      refine lv_aload_n C.x C.b dX0_rechain_3 rfl (lv_at hl 0 rfl) ?_
      refine z_get C hw hM.lt (hM.at _ _) flX0_24 rfl dX0_rechain_4 ?_
      refine z_get C hw hM.log.lt (hM.log.at _ _) flX0_65 rfl dX0_rechain_7 ?_
      refine lv_icmp_ge (tgt := 65) C.x C.b dX0_rechain_10 (by decide) (fun c_10 => absurd c_10 (by rw [hkj]; exact znle (by omega) (by omega))) (fun c_10 => ?_)
      refine lv_aload_n C.x C.b dX0_rechain_13 rfl (lv_at hl 0 rfl) ?_
      refine lv_iload_n C.x C.b dX0_rechain_14 rfl (lv_at hl 1 rfl) ?_
      refine z_Vv (As := [.int (nI j)]) (rest := []) C hw hl (m_X0_chainAt hO _ hM hkj hk2 (i := j) (by omega)) ivX0_80 hM.lt (hM.at _ _) rfl rfl ⟨(Nat.le_of_ble_eq_true rfl), (Nat.le_of_ble_eq_true rfl)⟩ (Nat.le_of_ble_eq_true rfl) ⟨Nat.zero_le _, Nat.zero_le _⟩ dX0_rechain_15 (fun H locs hw => ?_)
      refine z_topi (y := nI (CH r j)) (rchz_chv hc j) ?_
      refine lv_aload_n C.x C.b dX0_rechain_18 rfl (lv_at hl 0 rfl) ?_
      refine z_get C hw hM.lt (hM.at _ _) flX0_24 rfl dX0_rechain_19 ?_
      refine lv_iload_n C.x C.b dX0_rechain_22 rfl (lv_at hl 1 rfl) ?_
      refine lv_iconst (v := 0) C.x C.b dX0_rechain_23 (by decide) ?_
      refine z_Vv (As := [.int (nI j), .int 0]) (rest := [.int (nI (CH r j))]) C hw hl (m_X1_get hO _ hM.log hkj hk2 (r := j) (c := 0) (by omega) (by omega)) ivX0_68 hM.log.lt (hM.log.at _ _) rfl rfl ⟨(Nat.le_of_ble_eq_true rfl), (Nat.le_of_ble_eq_true rfl)⟩ (Nat.le_of_ble_eq_true rfl) ⟨Nat.zero_le _, Nat.zero_le _⟩ dX0_rechain_24 (fun H locs hw => ?_)
      refine z_topi (y := nI (r j 0)) (((rchz_row hR e j) j (by omega)).1) ?_
      refine lv_aload_n C.x C.b dX0_rechain_27 rfl (lv_at hl 0 rfl) ?_
      refine z_get C hw hM.lt (hM.at _ _) flX0_24 rfl dX0_rechain_28 ?_
      refine lv_iload_n C.x C.b dX0_rechain_31 rfl (lv_at hl 1 rfl) ?_
      refine lv_iconst (v := 1) C.x C.b dX0_rechain_32 (by decide) ?_
      refine z_Vv (As := [.int (nI j), .int 1]) (rest := [.int (nI (r j 0)), .int (nI (CH r j))]) C hw hl (m_X1_get hO _ hM.log hkj hk2 (r := j) (c := 1) (by omega) (by omega)) ivX0_68 hM.log.lt (hM.log.at _ _) rfl rfl ⟨(Nat.le_of_ble_eq_true rfl), (Nat.le_of_ble_eq_true rfl)⟩ (Nat.le_of_ble_eq_true rfl) ⟨Nat.zero_le _, Nat.zero_le _⟩ dX0_rechain_33 (fun H locs hw => ?_)
      refine z_topi (y := pI (r j 1)) (((rchz_row hR e j) j (by omega)).2.1) ?_
      refine lv_aload_n C.x C.b dX0_rechain_36 rfl (lv_at hl 0 rfl) ?_
      refine z_pc (pc2 := 37) rfl ?_
      refine z_get C hw hM.lt (hM.at _ _) flX0_24 rfl dX0_rechain_37 ?_
      refine lv_iload_n C.x C.b dX0_rechain_40 rfl (lv_at hl 1 rfl) ?_
      refine lv_iconst (v := 2) C.x C.b dX0_rechain_41 (by decide) ?_
      refine z_Vv (As := [.int (nI j), .int 2]) (rest := [.int (pI (r j 1)), .int (nI (r j 0)), .int (nI (CH r j))]) C hw hl (m_X1_get hO _ hM.log hkj hk2 (r := j) (c := 2) (by omega) (by omega)) ivX0_68 hM.log.lt (hM.log.at _ _) rfl rfl ⟨(Nat.le_of_ble_eq_true rfl), (Nat.le_of_ble_eq_true rfl)⟩ (Nat.le_of_ble_eq_true rfl) ⟨Nat.zero_le _, Nat.zero_le _⟩ dX0_rechain_42 (fun H locs hw => ?_)
      refine z_topi (y := nI (r j 2)) (((rchz_row hR e j) j (by omega)).2.2) ?_
      have hjk := hok j (by omega)
      refine z_Nv (As := [.int (nI (CH r j)), .int (nI (r j 0)), .int (pI (r j 1)), .int (nI (r j 2))]) (rest := []) C hw hl (m_X3_nextChain hO _ (CH_lt r j) hjk.1 hjk.2.1 hjk.2.2) ivX0_84 rfl rfl ⟨(Nat.le_of_ble_eq_true rfl), (Nat.le_of_ble_eq_true rfl)⟩ (Nat.le_of_ble_eq_true rfl) ⟨Nat.zero_le _, Nat.zero_le _⟩ dX0_rechain_45 (fun H locs hw => ?_)
      refine lv_istore_n (lv' := [(3, .int (nI (nc (CH r j) (r j 0) (r j 1) (r j 2)))), (0, .ref (G.h + b)), (2, .int (nI j))]) C.x C.b dX0_rechain_48 rfl hl (by decide) rfl (fun ls hl => ?_)
      refine lv_aload_n C.x C.b dX0_rechain_49 rfl (lv_at hl 1 rfl) ?_
      refine z_get C hw hM.lt (hM.at _ _) flX0_24 rfl dX0_rechain_50 ?_
      refine lv_iload_n C.x C.b dX0_rechain_53 rfl (lv_at hl 2 rfl) ?_
      refine lv_iconst (v := 3) C.x C.b dX0_rechain_54 (by decide) ?_
      refine lv_iload_n C.x C.b dX0_rechain_55 rfl (lv_at hl 0 rfl) ?_
      refine z_V0 (As := [.int (nI j), .int 3, .int (nI (nc (CH r j) (r j 0) (r j 1) (r j 2)))]) (rest := []) C hw hl (m_X1_set hO _ hM.log hkj hk2 (r := j) (c := 3) (by omega) (by omega)) ivX0_76 hM.log.lt (hM.log.at _ _) rfl rfl ⟨(Nat.le_of_ble_eq_true rfl), (Nat.le_of_ble_eq_true rfl)⟩ (Nat.le_of_ble_eq_true rfl) ⟨Nat.zero_le _, Nat.zero_le _⟩ dX0_rechain_56 (fun H locs hw => ?_)
      obtain ⟨z_1, ez_1⟩ : ∃ q_9, q_9 = zi (rchz z (b + 2 + 1) r e j) (b + 2 + 1) (j * 4 + 3) (nI (nc (CH r j) (r j 0) (r j 1) (r j 2))) := ⟨_, rfl⟩
      have hw : zS G N Λ z_1 sS H locs := by rw [ez_1]; exact hw
      refine lv_iinc (v := nI j + 1) (lv' := [(2, .int (nI j + 1)), (3, .int (nI (nc (CH r j) (r j 0) (r j 1) (r j 2)))), (0, .ref (G.h + b))]) C.x C.b dX0_rechain_59 hl (k := 2) rfl rfl (by decide) rfl (fun ls hl => ?_)
      have hl : lv_has ls 4 [(2, .int (nI (j + 1))), (3, .int (nI (nc (CH r j) (r j 0) (r j 1) (r j 2)))), (0, .ref (G.h + b))] := by
        have e9 : nI j + 1 = nI (j + 1) := nI_1 j
        rw [← e9]; exact hl
      have h_ch : nI (nc (CH r j) (r j 0) (r j 1) (r j 2)) = nI (CH r (j + 1)) := rfl
      refine lv_goto (tgt := 2) C.x C.b dX0_rechain_62 (by decide) ?_
      exact ih (j + 1) _ _ _ (by omega) (by omega) (by rw [← rchz_step z _ r he, ← h_ch, ← ez_1]; exact hw) (lv_sub hl [2, 0] rfl)
  exact loop (k - e) e _ _ _ (by omega) (Nat.le_refl e) (by rw [rchz_0]; exact hw) (lv_sub hl [1, 0] rfl)

set_option maxRecDepth 100000 in
set_option maxHeartbeats 4000000 in
theorem m_X0_hold {G : zG} {N : Nat} {Λ : zLay} {l : Launch} (hO : zOK G l) (z : zM) {b x : Nat} (hM : zMa G N Λ b x) {k : Nat} (hk : z.1 (b + 4) 3 = nI k) (hk2 : k < 60) {mm ee ch : Int32} : zMet G N Λ l yX0_hold cX0_hold 5 none 2 [.ref (G.h + b), .int mm, .int ee, .int ch] z none (hld z (b + 4) k mm ee ch) := by
  refine zMet_of hO (by decide) (Nat.le_of_ble_eq_true rfl) ?_
  intro pP eE sS mM bB tT cC ls C hw hl
  have hl : lv_has ls 5 [(0, .ref (G.h + b)), (1, .int mm), (2, .int ee), (3, .int ch)] := hl
  refine lv_aload_n C.x C.b dX0_hold_0 rfl (lv_at hl 0 rfl) ?_
  refine z_get C hw hM.lt (hM.at _ _) flX0_28 rfl dX0_hold_1 ?_
  refine z_get C hw hM.held.lt (hM.held.at _ _) flX0_65 rfl dX0_hold_4 ?_
  refine lv_bipush (v := 60) C.x C.b dX0_hold_7 (by decide) ?_
  refine lv_icmp_lt (tgt := 19) C.x C.b dX0_hold_9 (by decide) (fun c_9 => ?_) (fun c_9 => absurd (by rw [hk]; exact zlt (b := 60) (by omega) hk2) c_9)
  refine lv_aload_n C.x C.b dX0_hold_19 rfl (lv_at hl 0 rfl) ?_
  refine z_get C hw hM.lt (hM.at _ _) flX0_28 rfl dX0_hold_20 ?_
  refine z_Vv (As := []) (rest := []) C hw hl (m_X1_addRow hO _ hM.held hk (by omega) hk2) ivX0_72 hM.held.lt (hM.held.at _ _) rfl rfl ⟨(Nat.le_of_ble_eq_true rfl), (Nat.le_of_ble_eq_true rfl)⟩ (Nat.le_of_ble_eq_true rfl) ⟨Nat.zero_le _, Nat.zero_le _⟩ dX0_hold_23 (fun H locs hw => ?_)
  obtain ⟨z_1, ez_1⟩ : ∃ q_9, q_9 = zi z (b + 4) 3 (nI (k + 1)) := ⟨_, rfl⟩
  have hw : zS G N Λ z_1 sS H locs := by rw [ez_1]; exact hw
  refine lv_istore (lv' := [(4, .int (nI k)), (0, .ref (G.h + b)), (1, .int mm), (2, .int ee), (3, .int ch)]) C.x C.b dX0_hold_26 hl (by decide) rfl (fun ls hl => ?_)
  refine lv_aload_n C.x C.b dX0_hold_28 rfl (lv_at hl 1 rfl) ?_
  refine z_get C hw hM.lt (hM.at _ _) flX0_28 rfl dX0_hold_29 ?_
  refine lv_iload C.x C.b dX0_hold_32 (lv_at hl 0 rfl) ?_
  refine lv_iconst (v := 0) C.x C.b dX0_hold_34 (by decide) ?_
  refine lv_iload_n C.x C.b dX0_hold_35 rfl (lv_at hl 2 rfl) ?_
  have hk_1 : z_1.1 (b + 4) 3 = nI (k + 1) := by rw [ez_1, zi_at, if_pos ⟨rfl, rfl⟩]
  refine z_V0 (As := [.int (nI k), .int 0, .int mm]) (rest := []) C hw hl (m_X1_set hO _ hM.held hk_1 (by omega) (r := k) (c := 0) (by omega) (by omega)) ivX0_76 hM.held.lt (hM.held.at _ _) rfl rfl ⟨(Nat.le_of_ble_eq_true rfl), (Nat.le_of_ble_eq_true rfl)⟩ (Nat.le_of_ble_eq_true rfl) ⟨Nat.zero_le _, Nat.zero_le _⟩ dX0_hold_36 (fun H locs hw => ?_)
  obtain ⟨z_2, ez_2⟩ : ∃ q_9, q_9 = zi z_1 (b + 4 + 1) (k * 3 + 0) (mm) := ⟨_, rfl⟩
  have hw : zS G N Λ z_2 sS H locs := by rw [ez_2]; exact hw
  refine lv_aload_n C.x C.b dX0_hold_39 rfl (lv_at hl 1 rfl) ?_
  refine z_get C hw hM.lt (hM.at _ _) flX0_28 rfl dX0_hold_40 ?_
  refine lv_iload C.x C.b dX0_hold_43 (lv_at hl 0 rfl) ?_
  refine lv_iconst (v := 1) C.x C.b dX0_hold_45 (by decide) ?_
  refine z_pc (pc2 := 46) rfl ?_
  refine lv_iload_n C.x C.b dX0_hold_46 rfl (lv_at hl 3 rfl) ?_
  have hk_2 : z_2.1 (b + 4) 3 = nI (k + 1) := by rw [ez_2, zi_at, if_neg (by omega), hk_1]
  refine z_V0 (As := [.int (nI k), .int 1, .int ee]) (rest := []) C hw hl (m_X1_set hO _ hM.held hk_2 (by omega) (r := k) (c := 1) (by omega) (by omega)) ivX0_76 hM.held.lt (hM.held.at _ _) rfl rfl ⟨(Nat.le_of_ble_eq_true rfl), (Nat.le_of_ble_eq_true rfl)⟩ (Nat.le_of_ble_eq_true rfl) ⟨Nat.zero_le _, Nat.zero_le _⟩ dX0_hold_47 (fun H locs hw => ?_)
  obtain ⟨z_3, ez_3⟩ : ∃ q_9, q_9 = zi z_2 (b + 4 + 1) (k * 3 + 1) (ee) := ⟨_, rfl⟩
  have hw : zS G N Λ z_3 sS H locs := by rw [ez_3]; exact hw
  refine lv_aload_n C.x C.b dX0_hold_50 rfl (lv_at hl 1 rfl) ?_
  refine z_get C hw hM.lt (hM.at _ _) flX0_28 rfl dX0_hold_51 ?_
  refine lv_iload C.x C.b dX0_hold_54 (lv_at hl 0 rfl) ?_
  refine lv_iconst (v := 2) C.x C.b dX0_hold_56 (by decide) ?_
  refine lv_iload_n C.x C.b dX0_hold_57 rfl (lv_at hl 4 rfl) ?_
  have hk_3 : z_3.1 (b + 4) 3 = nI (k + 1) := by rw [ez_3, zi_at, if_neg (by omega), hk_2]
  refine z_V0 (As := [.int (nI k), .int 2, .int ch]) (rest := []) C hw hl (m_X1_set hO _ hM.held hk_3 (by omega) (r := k) (c := 2) (by omega) (by omega)) ivX0_76 hM.held.lt (hM.held.at _ _) rfl rfl ⟨(Nat.le_of_ble_eq_true rfl), (Nat.le_of_ble_eq_true rfl)⟩ (Nat.le_of_ble_eq_true rfl) ⟨Nat.zero_le _, Nat.zero_le _⟩ dX0_hold_58 (fun H locs hw => ?_)
  obtain ⟨z_4, ez_4⟩ : ∃ q_9, q_9 = zi z_3 (b + 4 + 1) (k * 3 + 2) (ch) := ⟨_, rfl⟩
  have hw : zS G N Λ z_4 sS H locs := by rw [ez_4]; exact hw
  exact z_vret C hw dX0_hold_61 (rfl) (by rw [ez_4, ez_3, ez_2, ez_1]; rfl)

set_option maxRecDepth 100000 in
set_option maxHeartbeats 4000000 in
theorem m_X0_hold_full {G : zG} {N : Nat} {Λ : zLay} {l : Launch} (hO : zOK G l) (z : zM) {b x : Nat} (hM : zMa G N Λ b x) (hk : z.1 (b + 4) 3 = nI 60) {mm ee ch : Int32} : zMet G N Λ l yX0_hold cX0_hold 5 none 2 [.ref (G.h + b), .int mm, .int ee, .int ch] z none (hld (rmv z (b + 4) 3 60) (b + 4) 59 mm ee ch) := by
  refine zMet_of hO (by decide) (Nat.le_of_ble_eq_true rfl) ?_
  intro pP eE sS mM bB tT cC ls C hw hl
  have hl : lv_has ls 5 [(0, .ref (G.h + b)), (1, .int mm), (2, .int ee), (3, .int ch)] := hl
  refine lv_aload_n C.x C.b dX0_hold_0 rfl (lv_at hl 0 rfl) ?_
  refine z_get C hw hM.lt (hM.at _ _) flX0_28 rfl dX0_hold_1 ?_
  refine z_get C hw hM.held.lt (hM.held.at _ _) flX0_65 rfl dX0_hold_4 ?_
  refine lv_bipush (v := 60) C.x C.b dX0_hold_7 (by decide) ?_
  refine lv_icmp_lt (tgt := 19) C.x C.b dX0_hold_9 (by decide) (fun c_9 => absurd c_9 (by rw [hk]; exact znlt (b := 60) (by omega) (by omega))) (fun c_9 => ?_)
  refine lv_aload_n C.x C.b dX0_hold_12 rfl (lv_at hl 0 rfl) ?_
  refine z_get C hw hM.lt (hM.at _ _) flX0_28 rfl dX0_hold_13 ?_
  refine z_V0 (As := []) (rest := []) C hw hl (m_X1_removeFirst hO _ hM.held hk (by omega) (by omega)) ivX0_88 hM.held.lt (hM.held.at _ _) rfl rfl ⟨(Nat.le_of_ble_eq_true rfl), (Nat.le_of_ble_eq_true rfl)⟩ (Nat.le_of_ble_eq_true rfl) ⟨Nat.zero_le _, Nat.zero_le _⟩ dX0_hold_16 (fun H locs hw => ?_)
  obtain ⟨z_1, ez_1⟩ : ∃ q_9, q_9 = rmv z (b + 4) 3 60 := ⟨_, rfl⟩
  have hw : zS G N Λ z_1 sS H locs := by rw [ez_1]; exact hw
  refine lv_aload_n C.x C.b dX0_hold_19 rfl (lv_at hl 0 rfl) ?_
  refine z_get C hw hM.lt (hM.at _ _) flX0_28 rfl dX0_hold_20 ?_
  have hk_1 : z_1.1 (b + 4) 3 = nI 59 := by rw [ez_1, rmv, zr_n _ _ (by omega), zi_at, if_pos ⟨rfl, rfl⟩]
  refine z_Vv (As := []) (rest := []) C hw hl (m_X1_addRow hO _ hM.held hk_1 (by omega) (by omega)) ivX0_72 hM.held.lt (hM.held.at _ _) rfl rfl ⟨(Nat.le_of_ble_eq_true rfl), (Nat.le_of_ble_eq_true rfl)⟩ (Nat.le_of_ble_eq_true rfl) ⟨Nat.zero_le _, Nat.zero_le _⟩ dX0_hold_23 (fun H locs hw => ?_)
  obtain ⟨z_2, ez_2⟩ : ∃ q_9, q_9 = zi z_1 (b + 4) 3 (nI (59 + 1)) := ⟨_, rfl⟩
  have hw : zS G N Λ z_2 sS H locs := by rw [ez_2]; exact hw
  refine lv_istore (lv' := [(4, .int (nI 59)), (0, .ref (G.h + b)), (1, .int mm), (2, .int ee), (3, .int ch)]) C.x C.b dX0_hold_26 hl (by decide) rfl (fun ls hl => ?_)
  refine lv_aload_n C.x C.b dX0_hold_28 rfl (lv_at hl 1 rfl) ?_
  refine z_get C hw hM.lt (hM.at _ _) flX0_28 rfl dX0_hold_29 ?_
  refine lv_iload C.x C.b dX0_hold_32 (lv_at hl 0 rfl) ?_
  refine lv_iconst (v := 0) C.x C.b dX0_hold_34 (by decide) ?_
  refine lv_iload_n C.x C.b dX0_hold_35 rfl (lv_at hl 2 rfl) ?_
  have hk_2 : z_2.1 (b + 4) 3 = nI (59 + 1) := by rw [ez_2, zi_at, if_pos ⟨rfl, rfl⟩]
  refine z_V0 (As := [.int (nI 59), .int 0, .int mm]) (rest := []) C hw hl (m_X1_set hO _ hM.held hk_2 (by omega) (r := 59) (c := 0) (by omega) (by omega)) ivX0_76 hM.held.lt (hM.held.at _ _) rfl rfl ⟨(Nat.le_of_ble_eq_true rfl), (Nat.le_of_ble_eq_true rfl)⟩ (Nat.le_of_ble_eq_true rfl) ⟨Nat.zero_le _, Nat.zero_le _⟩ dX0_hold_36 (fun H locs hw => ?_)
  obtain ⟨z_3, ez_3⟩ : ∃ q_9, q_9 = zi z_2 (b + 4 + 1) (59 * 3 + 0) (mm) := ⟨_, rfl⟩
  have hw : zS G N Λ z_3 sS H locs := by rw [ez_3]; exact hw
  refine lv_aload_n C.x C.b dX0_hold_39 rfl (lv_at hl 1 rfl) ?_
  refine z_pc (pc2 := 40) rfl ?_
  refine z_get C hw hM.lt (hM.at _ _) flX0_28 rfl dX0_hold_40 ?_
  refine lv_iload C.x C.b dX0_hold_43 (lv_at hl 0 rfl) ?_
  refine lv_iconst (v := 1) C.x C.b dX0_hold_45 (by decide) ?_
  refine lv_iload_n C.x C.b dX0_hold_46 rfl (lv_at hl 3 rfl) ?_
  have hk_3 : z_3.1 (b + 4) 3 = nI (59 + 1) := by rw [ez_3, zi_at, if_neg (by omega), hk_2]
  refine z_V0 (As := [.int (nI 59), .int 1, .int ee]) (rest := []) C hw hl (m_X1_set hO _ hM.held hk_3 (by omega) (r := 59) (c := 1) (by omega) (by omega)) ivX0_76 hM.held.lt (hM.held.at _ _) rfl rfl ⟨(Nat.le_of_ble_eq_true rfl), (Nat.le_of_ble_eq_true rfl)⟩ (Nat.le_of_ble_eq_true rfl) ⟨Nat.zero_le _, Nat.zero_le _⟩ dX0_hold_47 (fun H locs hw => ?_)
  obtain ⟨z_4, ez_4⟩ : ∃ q_9, q_9 = zi z_3 (b + 4 + 1) (59 * 3 + 1) (ee) := ⟨_, rfl⟩
  have hw : zS G N Λ z_4 sS H locs := by rw [ez_4]; exact hw
  refine lv_aload_n C.x C.b dX0_hold_50 rfl (lv_at hl 1 rfl) ?_
  refine z_get C hw hM.lt (hM.at _ _) flX0_28 rfl dX0_hold_51 ?_
  refine lv_iload C.x C.b dX0_hold_54 (lv_at hl 0 rfl) ?_
  refine lv_iconst (v := 2) C.x C.b dX0_hold_56 (by decide) ?_
  refine lv_iload_n C.x C.b dX0_hold_57 rfl (lv_at hl 4 rfl) ?_
  have hk_4 : z_4.1 (b + 4) 3 = nI (59 + 1) := by rw [ez_4, zi_at, if_neg (by omega), hk_3]
  refine z_V0 (As := [.int (nI 59), .int 2, .int ch]) (rest := []) C hw hl (m_X1_set hO _ hM.held hk_4 (by omega) (r := 59) (c := 2) (by omega) (by omega)) ivX0_76 hM.held.lt (hM.held.at _ _) rfl rfl ⟨(Nat.le_of_ble_eq_true rfl), (Nat.le_of_ble_eq_true rfl)⟩ (Nat.le_of_ble_eq_true rfl) ⟨Nat.zero_le _, Nat.zero_le _⟩ dX0_hold_58 (fun H locs hw => ?_)
  obtain ⟨z_5, ez_5⟩ : ∃ q_9, q_9 = zi z_4 (b + 4 + 1) (59 * 3 + 2) (ch) := ⟨_, rfl⟩
  have hw : zS G N Λ z_5 sS H locs := by rw [ez_5]; exact hw
  exact z_vret C hw dX0_hold_61 (rfl) (by rw [ez_5, ez_4, ez_3, ez_2, ez_1]; rfl)

set_option maxRecDepth 100000 in
set_option maxHeartbeats 4000000 in
theorem m_X0_hasRoom {G : zG} {N : Nat} {Λ : zLay} {l : Launch} (hO : zOK G l) (z : zM) {b x : Nat} (hM : zMa G N Λ b x) {k : Nat} (hk : z.1 (b + 2) 3 = nI k) (hk2 : k ≤ 40) {q : Nat} (hq : q < 2 ^ 31) : zMet G N Λ l yX0_hasRoom cX0_hasRoom 2 (some .boolean) 0 [.ref (G.h + b), .int (nI q)] z (some (.int (if k ≤ 38 ∧ q ≤ 39 then 1 else 0))) z := by
  refine zMet_of hO (by decide) (Nat.le_of_ble_eq_true rfl) ?_
  intro pP eE sS mM bB tT cC ls C hw hl
  have hl : lv_has ls 2 [(0, .ref (G.h + b)), (1, .int (nI q))] := hl
  refine lv_aload_n C.x C.b dX0_hasRoom_0 rfl (lv_at hl 0 rfl) ?_
  refine z_get C hw hM.lt (hM.at _ _) flX0_24 rfl dX0_hasRoom_1 ?_
  refine z_get C hw hM.log.lt (hM.log.at _ _) flX0_65 rfl dX0_hasRoom_4 ?_
  refine lv_bipush (v := 38) C.x C.b dX0_hasRoom_7 (by decide) ?_
  refine lv_icmp_gt (tgt := 22) C.x C.b dX0_hasRoom_9 (by decide) (fun c_9 => ?_) (fun c_9 => ?_)
  · refine lv_iconst (v := 0) C.x C.b dX0_hasRoom_22 (by decide) ?_
    exact z_zret C hw dX0_hasRoom_23 (by decide) (by rw [if_neg (fun h => absurd c_9 (by rw [hk]; exact znlt (a := 38) (by omega) h.1))]) (rfl)
  · refine lv_iload_n C.x C.b dX0_hasRoom_12 rfl (lv_at hl 1 rfl) ?_
    refine lv_bipush (v := 39) C.x C.b dX0_hasRoom_13 (by decide) ?_
    refine lv_icmp_gt (tgt := 22) C.x C.b dX0_hasRoom_15 (by decide) (fun c_15 => ?_) (fun c_15 => ?_)
    · refine lv_iconst (v := 0) C.x C.b dX0_hasRoom_22 (by decide) ?_
      exact z_zret C hw dX0_hasRoom_23 (by decide) (by rw [if_neg (fun h => absurd c_15 (znlt (a := 39) (by omega) h.2))]) (rfl)
    · refine lv_iconst (v := 1) C.x C.b dX0_hasRoom_18 (by decide) ?_
      refine lv_goto (tgt := 23) C.x C.b dX0_hasRoom_19 (by decide) ?_
      exact z_zret C hw dX0_hasRoom_23 (by decide) (by rw [if_pos ⟨Nat.le_of_not_lt (fun h => c_9 (by rw [hk]; exact zlt (a := 38) (by omega) h)), Nat.le_of_not_lt (fun h => c_15 (zlt (a := 39) (by omega) h))⟩]) (rfl)

set_option maxRecDepth 100000 in
set_option maxHeartbeats 4000000 in
theorem m_X0_hasWitness {G : zG} {N : Nat} {Λ : zLay} {l : Launch} (hO : zOK G l) (z : zM) {b x : Nat} (hM : zMa G N Λ b x) {k w : Nat} (hk : z.1 b 4 = nI k) (hw6 : w < 6) : zMet G N Λ l yX0_hasWitness cX0_hasWitness 2 (some .boolean) 0 [.ref (G.h + b), .int (nI w)] z (some (.int (if k.testBit w then 1 else 0))) z := by
  refine zMet_of hO (by decide) (Nat.le_of_ble_eq_true rfl) ?_
  intro pP eE sS mM bB tT cC ls C hw hl
  have hl : lv_has ls 2 [(0, .ref (G.h + b)), (1, .int (nI w))] := hl
  refine lv_aload_n C.x C.b dX0_hasWitness_0 rfl (lv_at hl 0 rfl) ?_
  refine z_get C hw hM.lt (hM.at _ _) flX0_48 rfl dX0_hasWitness_1 ?_
  refine lv_iconst (v := 1) C.x C.b dX0_hasWitness_4 (by decide) ?_
  refine lv_iload_n C.x C.b dX0_hasWitness_5 rfl (lv_at hl 1 rfl) ?_
  refine lv_ishl C.x C.b dX0_hasWitness_6 ?_
  refine z_topi (y := nI (2 ^ w)) (zshl1 hw6) ?_
  refine lv_iand C.x C.b dX0_hasWitness_7 ?_
  refine lv_if_eq (tgt := 15) C.x C.b dX0_hasWitness_8 (by decide) (fun c_8 => ?_) (fun c_8 => ?_)
  · refine lv_iconst (v := 0) C.x C.b dX0_hasWitness_15 (by decide) ?_
    exact z_zret C hw dX0_hasWitness_16 (by decide) (by rw [if_neg (by rw [(zbit k hw6).mp (by rw [hk] at c_8; exact c_8)]; decide)]) (rfl)
  · refine lv_iconst (v := 1) C.x C.b dX0_hasWitness_11 (by decide) ?_
    refine lv_goto (tgt := 16) C.x C.b dX0_hasWitness_12 (by decide) ?_
    exact z_zret C hw dX0_hasWitness_16 (by decide) (by rw [if_pos (by cases hb : k.testBit w with | true => rfl | false => exact absurd ((zbit k hw6).mpr hb) (by rw [hk] at c_8; exact c_8))]) (rfl)
