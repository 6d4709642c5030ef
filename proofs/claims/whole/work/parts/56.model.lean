/-! ===== the reference's constructor ===== -/
theorem pfX4_7 : zPutF RX4 7 4 0 (.array .int) := ⟨RX4, TX4, 5, tyX4, rfl, by decide, ⟨by decide +kernel, rfl⟩, rfl, rfl, rfl, by decide +kernel, zlayX4, tyX4_ok, nmX4⟩
theorem pfX4_13 : zPutF RX4 13 4 1 (.array .int) := ⟨RX4, TX4, 5, tyX4, rfl, by decide, ⟨by decide +kernel, rfl⟩, rfl, rfl, rfl, by decide +kernel, zlayX4, tyX4_ok, nmX4⟩
def zF0q : va_E := .inr (4, [.null, .null, .int 0, .int 0, .long 0])
set_option maxHeartbeats 4000000 in
theorem n_model {G : zG} {l : Launch} (hO : zOK G l) (hAr : zAr G) : zNw G l yX4_init cX4_init 1 2 2 14605 [.ref (G.h + 272)] 273 (va_up (zL (lP G) zb1) 272 zF0q) 275 (zL (lP G) zb2) := by
  refine zNw_of hO (by decide) (Nat.le_of_ble_eq_true rfl) ?_
  intro pP eE sS mM bB tT cC ls C hnm hw hz hl
  have hl : lv_has ls 1 [(0, .ref (G.h + 272))] := hl
  refine lv_aload_n C.x C.b dX4_init_0 rfl (lv_at hl 0 rfl) ?_
  refine zn_obj C hl zobX4 dX4_init_1 (Nat.le_of_ble_eq_true rfl) (Nat.le_of_ble_eq_true rfl) ?_
  refine lv_aload_n C.x C.b dX4_init_4 rfl (lv_at hl 0 rfl) ?_
  refine lv_sipush (v := 2921) C.x C.b dX4_init_5 (by decide) ?_
  refine zn_arr C hw (atype := .int) (M := 2921) zarI (hAr.I C.E) (a0 := (2921, .inl (fun _ => 0))) rfl (by decide) (by decide) (Nat.le_of_ble_eq_true rfl) (Nat.le_of_ble_eq_true rfl) (Nat.le_of_ble_eq_true rfl) dX4_init_8 (fun H hw => ?_)
  refine zn_put (i := 272) C hnm hw (by omega) (by rw [va_up_ne _ _ (by omega), va_up_self]; rfl) pfX4_7 rfl rfl (Nat.le_of_ble_eq_true rfl) dX4_init_10 (fun H locs hw => ?_)
  refine lv_aload_n C.x C.b dX4_init_13 rfl (lv_at hl 0 rfl) ?_
  refine lv_sipush (v := 11684) C.x C.b dX4_init_14 (by decide) ?_
  refine zn_arr C hw (atype := .int) (M := 11684) zarI (hAr.I C.E) (a0 := (11684, .inl (fun _ => 0))) rfl (by decide) (by decide) (Nat.le_of_ble_eq_true rfl) (Nat.le_of_ble_eq_true rfl) (Nat.le_of_ble_eq_true rfl) dX4_init_17 (fun H hw => ?_)
  refine zn_put (i := 272) C hnm hw (by omega) (by rw [va_up_ne _ _ (by omega), va_up_self]) pfX4_13 rfl rfl (Nat.le_of_ble_eq_true rfl) dX4_init_19 (fun H locs hw => ?_)
  have hw : zN G 275 (zL (lP G) zb1) sS H locs := hw.cg (fun j hj => by
    rcases (show j = 272 ∨ j = 274 ∨ j = 273 ∨ j < 272 by omega) with h | h | h | h
    · subst h
      rw [va_up_self]
      unfold zL
      rw [zb1_n (by omega), zb1_2, lP_272]
      rfl
    · subst h
      rw [va_up_ne _ _ (by omega), va_up_self]
      unfold zL
      rw [zb1_n (by omega), lP_274]
      rfl
    · subst h
      rw [va_up_ne _ _ (by omega), va_up_ne _ _ (by omega), va_up_ne _ _ (by omega), va_up_self]
      unfold zL
      rw [zb1_n (by omega), lP_273]
      rfl
    · rw [va_up_ne _ _ (by omega), va_up_ne _ _ (by omega), va_up_ne _ _ (by omega), va_up_ne _ _ (by omega), va_up_ne _ _ (by omega)])
  refine lv_aload_n C.x C.b dX4_init_22 rfl (lv_at hl 0 rfl) ?_
  refine lv_iconst (v := 3) C.x C.b dX4_init_23 (by decide) ?_
  have hwS : zS G 275 (lP G) zb1 sS H locs := ⟨hw.1.1, hw.2⟩
  have hB : zMo G 275 (lP G) := lP_Mo (by omega)
  refine z_V0 (As := [.int 3]) (rest := []) (i := 272) C hwS hl (m_X4_begins hO zb1 hB (n := 3) (by omega)) ivX4_16 (by omega) (hB.at _ _) rfl rfl ⟨Nat.le_of_ble_eq_true rfl, Nat.le_of_ble_eq_true rfl⟩ (Nat.le_of_ble_eq_true rfl) ⟨Nat.le_of_ble_eq_true rfl, Nat.le_of_ble_eq_true rfl⟩ dX4_init_24 (fun H locs hwS => ?_)
  have hPS : va_P G.D vwCl (zpl G.h 275 (zL (lP G) zb2)) H := hwS.1
  refine zn_size hPS (by omega) (by omega) (fun hs => ?_)
  have hw : zN G 275 (zL (lP G) zb2) sS H locs := ⟨⟨hPS, hs⟩, hwS.2⟩
  exact zn_vret C hw dX4_init_27
