theorem zi_same {z : zM} {i j : Nat} {v : Int32} (h : z.1 i j = v) : zi z i j v = z := by
  refine Prod.ext (funext fun a => funext fun b => ?_) rfl
  rw [zi_at]
  by_cases q : a = i ∧ b = j
  · rw [if_pos q, q.1, q.2, h]
  · rw [if_neg q]
-- Table.get of a cell that is there
set_option maxRecDepth 100000 in
set_option maxHeartbeats 4000000 in
theorem m_X1_get {G : zG} {N : Nat} {Λ : zLay} {l : Launch} (hO : zOK G l) (z : zM) {t w mc : Nat} (hT : zT G N Λ t w mc) {k : Nat} (hk : z.1 t 3 = nI k) (hk2 : k ≤ mc) {r c : Nat} (hr : r < k) (hc : c < w) : zMet G N Λ l yX1_get cX1_get 3 (some .int) 0 [.ref (G.h + t), .int (nI r), .int (nI c)] z (some (.int (z.1 (t + 1) (r * w + c)))) z := by
  refine zMet_of hO (by decide) (Nat.le_of_ble_eq_true rfl) ?_
  intro pP eE sS mM bB tT cC ls C hw hl
  have hl : lv_has ls 3 [(0, .ref (G.h + t)), (1, .int (nI r)), (2, .int (nI c))] := hl
  have hm := hT.mc
  have hw5 := hT.w5
  have h31 := zcell31 hw5 hm
  refine lv_iload_n C.x C.b dX1_get_0 rfl (lv_at hl 1 rfl) ?_
  refine lv_if_lt (tgt := 24) C.x C.b dX1_get_1 (by decide) (fun c_1 => absurd c_1 (zneg (by omega))) (fun c_1 => ?_)
  refine lv_iload_n C.x C.b dX1_get_4 rfl (lv_at hl 1 rfl) ?_
  refine lv_aload_n C.x C.b dX1_get_5 rfl (lv_at hl 0 rfl) ?_
  refine z_get C hw hT.lt (hT.at _ _) flX1_22 rfl dX1_get_6 ?_
  refine lv_icmp_ge (tgt := 24) C.x C.b dX1_get_9 (by decide) (fun c_9 => absurd c_9 (by rw [hk]; exact znle (by omega) hr)) (fun c_9 => ?_)
  refine lv_iload_n C.x C.b dX1_get_12 rfl (lv_at hl 2 rfl) ?_
  refine lv_if_lt (tgt := 24) C.x C.b dX1_get_13 (by decide) (fun c_13 => absurd c_13 (zneg (by omega))) (fun c_13 => ?_)
  refine lv_iload_n C.x C.b dX1_get_16 rfl (lv_at hl 2 rfl) ?_
  refine lv_aload_n C.x C.b dX1_get_17 rfl (lv_at hl 0 rfl) ?_
  refine z_get C hw hT.lt (hT.at _ _) flX1_9 rfl dX1_get_18 ?_
  refine lv_icmp_lt (tgt := 26) C.x C.b dX1_get_21 (by decide) (fun c_21 => ?_) (fun c_21 => absurd (zlt (by omega) hc) c_21)
  refine lv_aload_n C.x C.b dX1_get_26 rfl (lv_at hl 0 rfl) ?_
  refine z_get C hw hT.lt (hT.at _ _) flX1_18 rfl dX1_get_27 ?_
  refine lv_iload_n C.x C.b dX1_get_30 rfl (lv_at hl 1 rfl) ?_
  refine lv_aload_n C.x C.b dX1_get_31 rfl (lv_at hl 0 rfl) ?_
  refine z_get C hw hT.lt (hT.at _ _) flX1_9 rfl dX1_get_32 ?_
  refine lv_imul C.x C.b dX1_get_35 ?_
  refine lv_iload_n C.x C.b dX1_get_36 rfl (lv_at hl 2 rfl) ?_
  refine z_pc (pc2 := 37) rfl ?_
  refine lv_iadd C.x C.b dX1_get_37 ?_
  refine z_topi (y := nI (r * w + c)) (zcellN r c w) ?_
  refine z_iald C hw hT.lt1 hT.arr (zvin (zcellL hr hk2 hc) h31) dX1_get_38 ?_
  exact z_iret C hw dX1_get_39 (by rw [zcl (zcellL hr hk2 hc) h31]) (rfl)

-- Table.get of a row that is not there
set_option maxRecDepth 100000 in
set_option maxHeartbeats 4000000 in
theorem m_X1_get_no {G : zG} {N : Nat} {Λ : zLay} {l : Launch} (hO : zOK G l) (z : zM) {t w mc : Nat} (hT : zT G N Λ t w mc) {k : Nat} (hk : z.1 t 3 = nI k) (hk2 : k ≤ mc) {r : Nat} {c : Int32} (hr : k ≤ r) (hr2 : r < 2 ^ 31) : zMet G N Λ l yX1_get cX1_get 3 (some .int) 0 [.ref (G.h + t), .int (nI r), .int c] z (some (.int (-1))) z := by
  refine zMet_of hO (by decide) (Nat.le_of_ble_eq_true rfl) ?_
  intro pP eE sS mM bB tT cC ls C hw hl
  have hl : lv_has ls 3 [(0, .ref (G.h + t)), (1, .int (nI r)), (2, .int c)] := hl
  have hm := hT.mc
  have hw5 := hT.w5
  have h31 := zcell31 hw5 hm
  refine lv_iload_n C.x C.b dX1_get_0 rfl (lv_at hl 1 rfl) ?_
  refine lv_if_lt (tgt := 24) C.x C.b dX1_get_1 (by decide) (fun c_1 => absurd c_1 (zneg hr2)) (fun c_1 => ?_)
  refine lv_iload_n C.x C.b dX1_get_4 rfl (lv_at hl 1 rfl) ?_
  refine lv_aload_n C.x C.b dX1_get_5 rfl (lv_at hl 0 rfl) ?_
  refine z_get C hw hT.lt (hT.at _ _) flX1_22 rfl dX1_get_6 ?_
  refine lv_icmp_ge (tgt := 24) C.x C.b dX1_get_9 (by decide) (fun c_9 => ?_) (fun c_9 => absurd (by rw [hk]; exact zle hr2 hr) c_9)
  refine lv_iconst (v := -1) C.x C.b dX1_get_24 (by decide) ?_
  exact z_iret C hw dX1_get_25 (rfl) (rfl)

-- Table.set of a cell that is there
set_option maxRecDepth 100000 in
set_option maxHeartbeats 4000000 in
theorem m_X1_set {G : zG} {N : Nat} {Λ : zLay} {l : Launch} (hO : zOK G l) (z : zM) {t w mc : Nat} (hT : zT G N Λ t w mc) {k : Nat} (hk : z.1 t 3 = nI k) (hk2 : k ≤ mc) {r c : Nat} {v : Int32} (hr : r < k) (hc : c < w) : zMet G N Λ l yX1_set cX1_set 4 none 0 [.ref (G.h + t), .int (nI r), .int (nI c), .int v] z none (zi z (t + 1) (r * w + c) v) := by
  refine zMet_of hO (by decide) (Nat.le_of_ble_eq_true rfl) ?_
  intro pP eE sS mM bB tT cC ls C hw hl
  have hl : lv_has ls 4 [(0, .ref (G.h + t)), (1, .int (nI r)), (2, .int (nI c)), (3, .int v)] := hl
  have hm := hT.mc
  have hw5 := hT.w5
  have h31 := zcell31 hw5 hm
  refine lv_iload_n C.x C.b dX1_set_0 rfl (lv_at hl 1 rfl) ?_
  refine lv_if_lt (tgt := 38) C.x C.b dX1_set_1 (by decide) (fun c_1 => absurd c_1 (zneg (by omega))) (fun c_1 => ?_)
  refine lv_iload_n C.x C.b dX1_set_4 rfl (lv_at hl 1 rfl) ?_
  refine lv_aload_n C.x C.b dX1_set_5 rfl (lv_at hl 0 rfl) ?_
  refine z_get C hw hT.lt (hT.at _ _) flX1_22 rfl dX1_set_6 ?_
  refine lv_icmp_ge (tgt := 38) C.x C.b dX1_set_9 (by decide) (fun c_9 => absurd c_9 (by rw [hk]; exact znle (by omega) hr)) (fun c_9 => ?_)
  refine lv_iload_n C.x C.b dX1_set_12 rfl (lv_at hl 2 rfl) ?_
  refine lv_if_lt (tgt := 38) C.x C.b dX1_set_13 (by decide) (fun c_13 => absurd c_13 (zneg (by omega))) (fun c_13 => ?_)
  refine lv_iload_n C.x C.b dX1_set_16 rfl (lv_at hl 2 rfl) ?_
  refine lv_aload_n C.x C.b dX1_set_17 rfl (lv_at hl 0 rfl) ?_
  refine z_get C hw hT.lt (hT.at _ _) flX1_9 rfl dX1_set_18 ?_
  refine lv_icmp_ge (tgt := 38) C.x C.b dX1_set_21 (by decide) (fun c_21 => absurd c_21 (znle (by omega) hc)) (fun c_21 => ?_)
  refine lv_aload_n C.x C.b dX1_set_24 rfl (lv_at hl 0 rfl) ?_
  refine z_get C hw hT.lt (hT.at _ _) flX1_18 rfl dX1_set_25 ?_
  refine lv_iload_n C.x C.b dX1_set_28 rfl (lv_at hl 1 rfl) ?_
  refine lv_aload_n C.x C.b dX1_set_29 rfl (lv_at hl 0 rfl) ?_
  refine z_get C hw hT.lt (hT.at _ _) flX1_9 rfl dX1_set_30 ?_
  refine lv_imul C.x C.b dX1_set_33 ?_
  refine lv_iload_n C.x C.b dX1_set_34 rfl (lv_at hl 2 rfl) ?_
  refine z_pc (pc2 := 35) rfl ?_
  refine lv_iadd C.x C.b dX1_set_35 ?_
  refine z_topi (y := nI (r * w + c)) (zcellN r c w) ?_
  refine lv_iload_n C.x C.b dX1_set_36 rfl (lv_at hl 3 rfl) ?_
  refine z_iast C hw hT.lt1 hT.arr (zvin (zcellL hr hk2 hc) h31) dX1_set_37 (fun H locs hw => ?_)
  obtain ⟨z_1, ez_1⟩ : ∃ q_9, q_9 = zi z (t + 1) (nI (r * w + c)).toNatClampNeg v := ⟨_, rfl⟩
  have hw : zS G N Λ z_1 sS H locs := by rw [ez_1]; exact hw
  exact z_vret C hw dX1_set_38 (rfl) (by rw [ez_1, zcl (zcellL hr hk2 hc) h31])

-- Table.set of row -1
set_option maxRecDepth 100000 in
set_option maxHeartbeats 4000000 in
theorem m_X1_set_no {G : zG} {N : Nat} {Λ : zLay} {l : Launch} (hO : zOK G l) (z : zM) {t w mc : Nat} (hT : zT G N Λ t w mc) {c v : Int32} : zMet G N Λ l yX1_set cX1_set 4 none 0 [.ref (G.h + t), .int (-1), .int c, .int v] z none z := by
  refine zMet_of hO (by decide) (Nat.le_of_ble_eq_true rfl) ?_
  intro pP eE sS mM bB tT cC ls C hw hl
  have hl : lv_has ls 4 [(0, .ref (G.h + t)), (1, .int (-1)), (2, .int c), (3, .int v)] := hl
  refine lv_iload_n C.x C.b dX1_set_0 rfl (lv_at hl 1 rfl) ?_
  refine lv_if_lt (tgt := 38) C.x C.b dX1_set_1 (by decide) (fun c_1 => ?_) (fun c_1 => absurd (zm1lt) c_1)
  exact z_vret C hw dX1_set_38 (rfl) (rfl)

-- Table.addRow with a place left
set_option maxRecDepth 100000 in
set_option maxHeartbeats 4000000 in
theorem m_X1_addRow {G : zG} {N : Nat} {Λ : zLay} {l : Launch} (hO : zOK G l) (z : zM) {t w mc : Nat} (hT : zT G N Λ t w mc) {k : Nat} (hk : z.1 t 3 = nI k) (hk2 : k ≤ mc) (hlt : k < mc) : zMet G N Λ l yX1_addRow cX1_addRow 1 (some .int) 0 [.ref (G.h + t)] z (some (.int (nI k))) (zi z t 3 (nI (k + 1))) := by
  refine zMet_of hO (by decide) (Nat.le_of_ble_eq_true rfl) ?_
  intro pP eE sS mM bB tT cC ls C hw hl
  have hl : lv_has ls 1 [(0, .ref (G.h + t))] := hl
  have hm := hT.mc
  have hw5 := hT.w5
  have h31 := zcell31 hw5 hm
  refine lv_aload_n C.x C.b dX1_addRow_0 rfl (lv_at hl 0 rfl) ?_
  refine z_get C hw hT.lt (hT.at _ _) flX1_22 rfl dX1_addRow_1 ?_
  refine lv_aload_n C.x C.b dX1_addRow_4 rfl (lv_at hl 0 rfl) ?_
  refine z_get C hw hT.lt (hT.at _ _) flX1_15 rfl dX1_addRow_5 ?_
  refine lv_icmp_lt (tgt := 13) C.x C.b dX1_addRow_8 (by decide) (fun c_8 => ?_) (fun c_8 => absurd (by rw [hk]; exact zlt (by omega) hlt) c_8)
  refine lv_aload_n C.x C.b dX1_addRow_13 rfl (lv_at hl 0 rfl) ?_
  refine lv_dup C.x C.b dX1_addRow_14 rfl ?_
  refine z_get C hw hT.lt (hT.at _ _) flX1_22 rfl dX1_addRow_15 ?_
  refine lv_iconst (v := 1) C.x C.b dX1_addRow_18 (by decide) ?_
  refine lv_iadd C.x C.b dX1_addRow_19 ?_
  refine z_topi (y := nI (k + 1)) (by rw [hk]; exact nI_1 k) ?_
  refine z_put C hw hT.lt (hT.at _ _) ptX1_22 (hT.at _ _) (rfl) (rfl) (Nat.le_of_ble_eq_true rfl) dX1_addRow_20 (fun H locs hw => ?_)
  obtain ⟨z_1, ez_1⟩ : ∃ q_9, q_9 = zi z t 3 (nI (k + 1)) := ⟨_, rfl⟩
  have hw : zS G N Λ z_1 sS H locs := by rw [ez_1]; exact hw
  refine lv_aload_n C.x C.b dX1_addRow_23 rfl (lv_at hl 0 rfl) ?_
  refine z_get C hw hT.lt (hT.at _ _) flX1_22 rfl dX1_addRow_24 ?_
  refine lv_iconst (v := 1) C.x C.b dX1_addRow_27 (by decide) ?_
  refine lv_isub C.x C.b dX1_addRow_28 ?_
  refine z_topi (y := nI k) (by rw [ez_1, zi_at, if_pos ⟨rfl, rfl⟩]; exact nI_pred k) ?_
  exact z_iret C hw dX1_addRow_29 (rfl) (ez_1.symm)

-- Table.addRow of a full table
set_option maxRecDepth 100000 in
set_option maxHeartbeats 4000000 in
theorem m_X1_addRow_no {G : zG} {N : Nat} {Λ : zLay} {l : Launch} (hO : zOK G l) (z : zM) {t w mc : Nat} (hT : zT G N Λ t w mc) (hk : z.1 t 3 = nI mc) : zMet G N Λ l yX1_addRow cX1_addRow 1 (some .int) 0 [.ref (G.h + t)] z (some (.int (-1))) z := by
  refine zMet_of hO (by decide) (Nat.le_of_ble_eq_true rfl) ?_
  intro pP eE sS mM bB tT cC ls C hw hl
  have hl : lv_has ls 1 [(0, .ref (G.h + t))] := hl
  have hm := hT.mc
  refine lv_aload_n C.x C.b dX1_addRow_0 rfl (lv_at hl 0 rfl) ?_
  refine z_get C hw hT.lt (hT.at _ _) flX1_22 rfl dX1_addRow_1 ?_
  refine lv_aload_n C.x C.b dX1_addRow_4 rfl (lv_at hl 0 rfl) ?_
  refine z_get C hw hT.lt (hT.at _ _) flX1_15 rfl dX1_addRow_5 ?_
  refine lv_icmp_lt (tgt := 13) C.x C.b dX1_addRow_8 (by decide) (fun c_8 => absurd c_8 (by rw [hk]; exact znlt (by omega) (Nat.le_refl _))) (fun c_8 => ?_)
  refine lv_iconst (v := -1) C.x C.b dX1_addRow_11 (by decide) ?_
  exact z_iret C hw dX1_addRow_12 (rfl) (rfl)

-- Table.keepFirst(0)
set_option maxRecDepth 100000 in
set_option maxHeartbeats 4000000 in
theorem m_X1_keep0 {G : zG} {N : Nat} {Λ : zLay} {l : Launch} (hO : zOK G l) (z : zM) {t w mc : Nat} (hT : zT G N Λ t w mc) {k : Nat} (hk : z.1 t 3 = nI k) (hk2 : k ≤ mc) : zMet G N Λ l yX1_keepFirst cX1_keepFirst 2 none 0 [.ref (G.h + t), .int 0] z none (zi z t 3 0) := by
  refine zMet_of hO (by decide) (Nat.le_of_ble_eq_true rfl) ?_
  intro pP eE sS mM bB tT cC ls C hw hl
  have hl : lv_has ls 2 [(0, .ref (G.h + t)), (1, .int 0)] := hl
  have hm := hT.mc
  have hw5 := hT.w5
  have h31 := zcell31 hw5 hm
  refine lv_iload_n C.x C.b dX1_keepFirst_0 rfl (lv_at hl 1 rfl) ?_
  refine lv_if_lt (tgt := 17) C.x C.b dX1_keepFirst_1 (by decide) (fun c_1 => absurd c_1 (by decide)) (fun c_1 => ?_)
  refine lv_iload_n C.x C.b dX1_keepFirst_4 rfl (lv_at hl 1 rfl) ?_
  refine lv_aload_n C.x C.b dX1_keepFirst_5 rfl (lv_at hl 0 rfl) ?_
  refine z_get C hw hT.lt (hT.at _ _) flX1_22 rfl dX1_keepFirst_6 ?_
  refine lv_icmp_ge (tgt := 17) C.x C.b dX1_keepFirst_9 (by decide) (fun c_9 => ?_) (fun c_9 => ?_)
  · exact z_vret C hw dX1_keepFirst_17 (rfl) (by
        have h0 : k = 0 := Nat.eq_zero_of_not_pos (fun q => znle (by omega) q (hk ▸ c_9))
        subst h0
        exact zi_same (by rw [hk]; rfl))
  · refine lv_aload_n C.x C.b dX1_keepFirst_12 rfl (lv_at hl 0 rfl) ?_
    refine lv_iload_n C.x C.b dX1_keepFirst_13 rfl (lv_at hl 1 rfl) ?_
    refine z_put C hw hT.lt (hT.at _ _) ptX1_22 (hT.at _ _) (rfl) (rfl) (Nat.le_of_ble_eq_true rfl) dX1_keepFirst_14 (fun H locs hw => ?_)
    obtain ⟨z_1, ez_1⟩ : ∃ q_9, q_9 = zi z t 3 0 := ⟨_, rfl⟩
    have hw : zS G N Λ z_1 sS H locs := by rw [ez_1]; exact hw
    exact z_vret C hw dX1_keepFirst_17 (rfl) (ez_1.symm)

-- Table.keepFirst(r), r less than count
set_option maxRecDepth 100000 in
set_option maxHeartbeats 4000000 in
theorem m_X1_keep {G : zG} {N : Nat} {Λ : zLay} {l : Launch} (hO : zOK G l) (z : zM) {t w mc : Nat} (hT : zT G N Λ t w mc) {k : Nat} (hk : z.1 t 3 = nI k) (hk2 : k ≤ mc) {r : Nat} (hr : r < k) : zMet G N Λ l yX1_keepFirst cX1_keepFirst 2 none 0 [.ref (G.h + t), .int (nI r)] z none (zi z t 3 (nI r)) := by
  refine zMet_of hO (by decide) (Nat.le_of_ble_eq_true rfl) ?_
  intro pP eE sS mM bB tT cC ls C hw hl
  have hl : lv_has ls 2 [(0, .ref (G.h + t)), (1, .int (nI r))] := hl
  have hm := hT.mc
  have hw5 := hT.w5
  have h31 := zcell31 hw5 hm
  refine lv_iload_n C.x C.b dX1_keepFirst_0 rfl (lv_at hl 1 rfl) ?_
  refine lv_if_lt (tgt := 17) C.x C.b dX1_keepFirst_1 (by decide) (fun c_1 => absurd c_1 (zneg (by omega))) (fun c_1 => ?_)
  refine lv_iload_n C.x C.b dX1_keepFirst_4 rfl (lv_at hl 1 rfl) ?_
  refine lv_aload_n C.x C.b dX1_keepFirst_5 rfl (lv_at hl 0 rfl) ?_
  refine z_get C hw hT.lt (hT.at _ _) flX1_22 rfl dX1_keepFirst_6 ?_
  refine lv_icmp_ge (tgt := 17) C.x C.b dX1_keepFirst_9 (by decide) (fun c_9 => absurd c_9 (by rw [hk]; exact znle (by omega) hr)) (fun c_9 => ?_)
  refine lv_aload_n C.x C.b dX1_keepFirst_12 rfl (lv_at hl 0 rfl) ?_
  refine lv_iload_n C.x C.b dX1_keepFirst_13 rfl (lv_at hl 1 rfl) ?_
  refine z_put C hw hT.lt (hT.at _ _) ptX1_22 (hT.at _ _) (rfl) (rfl) (Nat.le_of_ble_eq_true rfl) dX1_keepFirst_14 (fun H locs hw => ?_)
  obtain ⟨z_1, ez_1⟩ : ∃ q_9, q_9 = zi z t 3 (nI r) := ⟨_, rfl⟩
  have hw : zS G N Λ z_1 sS H locs := by rw [ez_1]; exact hw
  exact z_vret C hw dX1_keepFirst_17 (rfl) (ez_1.symm)

-- Table.removeFirst
set_option maxRecDepth 100000 in
set_option maxHeartbeats 4000000 in
theorem m_X1_removeFirst {G : zG} {N : Nat} {Λ : zLay} {l : Launch} (hO : zOK G l) (z : zM) {t w mc : Nat} (hT : zT G N Λ t w mc) {k : Nat} (hk : z.1 t 3 = nI k) (hk2 : k ≤ mc) (h0 : 0 < k) : zMet G N Λ l yX1_removeFirst cX1_removeFirst 1 none 1 [.ref (G.h + t)] z none (zr (zi z t 3 (nI (k - 1))) (t + 1) (va_cpy (z.1 (t + 1)) (z.1 (t + 1)) w 0 ((k - 1) * w))) := by
  refine zMet_of hO (by decide) (Nat.le_of_ble_eq_true rfl) ?_
  intro pP eE sS mM bB tT cC ls C hw hl
  have hl : lv_has ls 1 [(0, .ref (G.h + t))] := hl
  have hm := hT.mc
  have hw5 := hT.w5
  have h31 := zcell31 hw5 hm
  have hkw : (k - 1) * w + w ≤ w * mc := by
    have h1 : (k - 1 + 1) * w ≤ mc * w := Nat.mul_le_mul_right w (by omega)
    rw [Nat.succ_mul] at h1; rw [Nat.mul_comm w mc]; exact h1
  refine lv_aload_n C.x C.b dX1_removeFirst_0 rfl (lv_at hl 0 rfl) ?_
  refine z_get C hw hT.lt (hT.at _ _) flX1_22 rfl dX1_removeFirst_1 ?_
  refine lv_if_le (tgt := 42) C.x C.b dX1_removeFirst_4 (by decide) (fun c_4 => absurd c_4 (by rw [hk]; exact nI_nle h0 (by omega))) (fun c_4 => ?_)
  refine lv_aload_n C.x C.b dX1_removeFirst_7 rfl (lv_at hl 0 rfl) ?_
  refine lv_dup C.x C.b dX1_removeFirst_8 rfl ?_
  refine z_get C hw hT.lt (hT.at _ _) flX1_22 rfl dX1_removeFirst_9 ?_
  refine lv_iconst (v := 1) C.x C.b dX1_removeFirst_12 (by decide) ?_
  refine lv_isub C.x C.b dX1_removeFirst_13 ?_
  refine z_topi (y := nI (k - 1)) (by rw [hk, zlit, zsub h0]) ?_
  refine z_put C hw hT.lt (hT.at _ _) ptX1_22 (hT.at _ _) (rfl) (rfl) (Nat.le_of_ble_eq_true rfl) dX1_removeFirst_14 (fun H locs hw => ?_)
  obtain ⟨z_1, ez_1⟩ : ∃ q_9, q_9 = zi z t 3 (nI (k - 1)) := ⟨_, rfl⟩
  have hw : zS G N Λ z_1 sS H locs := by rw [ez_1]; exact hw
  refine lv_aload_n C.x C.b dX1_removeFirst_17 rfl (lv_at hl 0 rfl) ?_
  refine z_get C hw hT.lt (hT.at _ _) flX1_18 rfl dX1_removeFirst_18 ?_
  refine lv_aload_n C.x C.b dX1_removeFirst_21 rfl (lv_at hl 0 rfl) ?_
  refine z_get C hw hT.lt (hT.at _ _) flX1_9 rfl dX1_removeFirst_22 ?_
  refine lv_aload_n C.x C.b dX1_removeFirst_25 rfl (lv_at hl 0 rfl) ?_
  refine z_get C hw hT.lt (hT.at _ _) flX1_18 rfl dX1_removeFirst_26 ?_
  refine lv_iconst (v := 0) C.x C.b dX1_removeFirst_29 (by decide) ?_
  refine lv_aload_n C.x C.b dX1_removeFirst_30 rfl (lv_at hl 0 rfl) ?_
  refine z_get C hw hT.lt (hT.at _ _) flX1_22 rfl dX1_removeFirst_31 ?_
  refine lv_aload_n C.x C.b dX1_removeFirst_34 rfl (lv_at hl 0 rfl) ?_
  refine z_pc (pc2 := 35) rfl ?_
  refine z_get C hw hT.lt (hT.at _ _) flX1_9 rfl dX1_removeFirst_35 ?_
  have hz1 : z_1.1 t 3 = nI (k - 1) := by rw [ez_1, zi_at, if_pos ⟨rfl, rfl⟩]
  refine lv_imul C.x C.b dX1_removeFirst_38 ?_
  refine z_topi (y := nI ((k - 1) * w)) (by rw [hz1, pk_mul]) ?_
  refine z_copy C hw hl hT.lt1 hT.arr hT.lt1 hT.arr cpX1_37 (zneg (by omega)) (by decide) (zneg (by omega)) (by rw [zcl (n := 6) (by omega) (by omega), nI_clamp (by omega)]; omega) (by rw [nI_clamp (by omega)]; show 0 + _ ≤ _; omega) (by decide) (by decide) dX1_removeFirst_39 (fun H locs hw => ?_)
  obtain ⟨z_2, ez_2⟩ : ∃ q_9, q_9 = zr z_1 (t + 1) (va_cpy (z_1.1 (t + 1)) (z_1.1 (t + 1)) (nI w).toNatClampNeg (0 : Int32).toNatClampNeg (nI ((k - 1) * w)).toNatClampNeg) := ⟨_, rfl⟩
  have hw : zS G N Λ z_2 sS H locs := by rw [ez_2]; exact hw
  exact z_vret C hw dX1_removeFirst_42 (rfl) (by
      have h9 : z_1.1 (t + 1) = z.1 (t + 1) := by rw [ez_1]; exact zr_n _ _ (by omega)
      rw [ez_2, h9, ez_1, nI_clamp (by omega), nI_clamp (by omega)]; rfl)

-- Table.copyRows
set_option maxRecDepth 100000 in
set_option maxHeartbeats 4000000 in
theorem m_X1_copyRows {G : zG} {N : Nat} {Λ : zLay} {l : Launch} (hO : zOK G l) (z : zM) {t o w mc : Nat} (hT : zT G N Λ t w mc) (hT2 : zT G N Λ o w mc) {k : Nat} (hk : z.1 o 3 = nI k) (hk2 : k ≤ mc) : zMet G N Λ l yX1_copyRows cX1_copyRows 2 none 1 [.ref (G.h + t), .ref (G.h + o)] z none (zr (zi z t 3 (nI k)) (t + 1) (va_cpy ((zi z t 3 (nI k)).1 (o + 1)) (z.1 (t + 1)) 0 0 (k * w))) := by
  refine zMet_of hO (by decide) (Nat.le_of_ble_eq_true rfl) ?_
  intro pP eE sS mM bB tT cC ls C hw hl
  have hl : lv_has ls 2 [(0, .ref (G.h + t)), (1, .ref (G.h + o))] := hl
  have hm := hT.mc
  have hw5 := hT.w5
  have h31 := zcell31 hw5 hm
  have hkw : k * w ≤ w * mc := by
    rw [Nat.mul_comm w mc]; exact Nat.mul_le_mul_right w hk2
  refine lv_aload_n C.x C.b dX1_copyRows_0 rfl (lv_at hl 0 rfl) ?_
  refine lv_aload_n C.x C.b dX1_copyRows_1 rfl (lv_at hl 1 rfl) ?_
  refine z_get C hw hT2.lt (hT2.at _ _) flX1_22 rfl dX1_copyRows_2 ?_
  refine z_topi (y := nI k) (hk) ?_
  refine z_put C hw hT.lt (hT.at _ _) ptX1_22 (hT.at _ _) (rfl) (rfl) (Nat.le_of_ble_eq_true rfl) dX1_copyRows_5 (fun H locs hw => ?_)
  obtain ⟨z_1, ez_1⟩ : ∃ q_9, q_9 = zi z t 3 (nI k) := ⟨_, rfl⟩
  have hw : zS G N Λ z_1 sS H locs := by rw [ez_1]; exact hw
  refine lv_aload_n C.x C.b dX1_copyRows_8 rfl (lv_at hl 1 rfl) ?_
  refine z_get C hw hT2.lt (hT2.at _ _) flX1_18 rfl dX1_copyRows_9 ?_
  refine lv_iconst (v := 0) C.x C.b dX1_copyRows_12 (by decide) ?_
  refine lv_aload_n C.x C.b dX1_copyRows_13 rfl (lv_at hl 0 rfl) ?_
  refine z_get C hw hT.lt (hT.at _ _) flX1_18 rfl dX1_copyRows_14 ?_
  refine lv_iconst (v := 0) C.x C.b dX1_copyRows_17 (by decide) ?_
  refine lv_aload_n C.x C.b dX1_copyRows_18 rfl (lv_at hl 0 rfl) ?_
  refine z_get C hw hT.lt (hT.at _ _) flX1_22 rfl dX1_copyRows_19 ?_
  refine lv_aload_n C.x C.b dX1_copyRows_22 rfl (lv_at hl 0 rfl) ?_
  refine z_get C hw hT.lt (hT.at _ _) flX1_9 rfl dX1_copyRows_23 ?_
  have hz1 : z_1.1 t 3 = nI k := by rw [ez_1, zi_at, if_pos ⟨rfl, rfl⟩]
  refine lv_imul C.x C.b dX1_copyRows_26 ?_
  refine z_topi (y := nI (k * w)) (by rw [hz1, pk_mul]) ?_
  refine z_copy C hw hl hT2.lt1 hT2.arr hT.lt1 hT.arr cpX1_37 (by decide) (by decide) (zneg (by omega)) (by rw [nI_clamp (by omega)]; show 0 + _ ≤ _; omega) (by rw [nI_clamp (by omega)]; show 0 + _ ≤ _; omega) (by decide) (by decide) dX1_copyRows_27 (fun H locs hw => ?_)
  obtain ⟨z_2, ez_2⟩ : ∃ q_9, q_9 = zr z_1 (t + 1) (va_cpy (z_1.1 (o + 1)) (z_1.1 (t + 1)) (0 : Int32).toNatClampNeg (0 : Int32).toNatClampNeg (nI (k * w)).toNatClampNeg) := ⟨_, rfl⟩
  have hw : zS G N Λ z_2 sS H locs := by rw [ez_2]; exact hw
  exact z_vret C hw dX1_copyRows_30 (rfl) (by
      have h9 : z_1.1 (t + 1) = z.1 (t + 1) := by rw [ez_1]; exact zr_n _ _ (by omega)
      rw [ez_2, h9, ez_1, nI_clamp (by omega)]; rfl)
