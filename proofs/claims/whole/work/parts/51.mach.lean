theorem va_upd {α : Type} (f : Nat → α) (i : Nat) (v : α) (j : Nat) : va_up f i v j = if j = i then v else f j := by
  by_cases h : j = i
  · subst h; rw [va_up_self, if_pos rfl]
  · rw [va_up_ne _ _ h, if_neg h]
set_option maxHeartbeats 4000000 in
theorem n_X0_init {G : zG} {l : Launch} (hO : zOK G l) (hAr : zAr G) {N i x : Nat} {F : Nat → va_E} (hi : i < N) (he : F i = zF0m) : zNw G l yX0_init cX0_init 2 3 7 558 [.ref (G.h + i), .int (nI x)] N F (N + 7) (va_up (zTab G (zTab G (zTab G (va_up F N (zFa G 6)) (N + 1) 4 40) (N + 3) 3 60) (N + 5) 5 40) i (zFm G x N)) := by
  refine zNw_of hO (by decide) (Nat.le_of_ble_eq_true rfl) ?_
  intro pP eE sS mM bB tT cC ls C hnm hw hz hl
  have hl : lv_has ls 2 [(0, .ref (G.h + i)), (1, .int (nI x))] := hl
  refine lv_aload_n C.x C.b dX0_init_0 rfl (lv_at hl 0 rfl) ?_
  refine zn_obj C hl zobX0 dX0_init_1 (Nat.le_of_ble_eq_true rfl) (Nat.le_of_ble_eq_true rfl) ?_
  refine lv_aload_n C.x C.b dX0_init_4 rfl (lv_at hl 0 rfl) ?_
  refine lv_iload_n C.x C.b dX0_init_5 rfl (lv_at hl 1 rfl) ?_
  refine zn_put C hnm hw hi he pfX0_9 rfl rfl (Nat.le_of_ble_eq_true rfl) dX0_init_6 (fun H locs hw => ?_)
  refine lv_aload_n C.x C.b dX0_init_9 rfl (lv_at hl 0 rfl) ?_
  refine lv_bipush (v := 6) C.x C.b dX0_init_10 (by decide) ?_
  refine zn_arr C hw (atype := .int) (M := 6) zarI (hAr.I C.E) (a0 := (6, .inl (fun _ => 0))) rfl (by decide) (by decide) (by decide) (Nat.le_of_ble_eq_true rfl) (Nat.le_of_ble_eq_true rfl) dX0_init_12 (fun H hw => ?_)
  refine zn_put C hnm hw (show i < N + 1 by omega) (by rw [va_up_ne _ _ (by omega), va_up_self]) pfX0_15 rfl rfl (Nat.le_of_ble_eq_true rfl) dX0_init_14 (fun H locs hw => ?_)
  have hw := hw.cg (F' := va_up (va_up F N (zFa G 6)) i (.inr (0, [.int (nI x), .int 0, .int 0, .int 0, .int 0, .ref (G.h + N), .null, .null, .null]))) (fun j hj => by
    rcases (show j = i ∨ (j < N ∧ j ≠ i) ∨ j = N ∨ j = N + 1 ∨ j = N + 2 ∨ j = N + 3 ∨ j = N + 4 ∨ j = N + 5 ∨ j = N + 6 by omega) with h | h | h | h | h | h | h | h | h <;> (first | omega | (simp only [zTab, va_upd]; repeat (first | rw [if_pos (by omega)] | rw [if_neg (by omega)])) <;> try rfl))
  refine lv_aload_n C.x C.b dX0_init_17 rfl (lv_at hl 0 rfl) ?_
  refine zn_new (ci := 1) C hw (fun q h => Nat.le_trans C.E.2.1 h) (fs := [.int 0, .int 0, .null, .int 0]) zlayX1 tyX1 tyX1_ok znlX0_19 zniX1 znjX1 rfl (fun j hj => by rcases (show j = 0 ∨ j = 1 ∨ j = 2 ∨ j = 3 by omega) with rfl | rfl | rfl | rfl <;> rfl) (Nat.le_of_ble_eq_true rfl) (Nat.le_of_ble_eq_true rfl) dX0_init_18 (fun H hw => ?_)
  refine lv_dup C.x C.b dX0_init_21 rfl ?_
  refine lv_iconst (v := 4) C.x C.b dX0_init_22 (by decide) ?_
  refine lv_bipush (v := 40) C.x C.b dX0_init_23 (by decide) ?_
  refine zn_tabc (w := 4) (q := 40) C hO hAr hw hl iiX0_21 (by omega) ⟨Nat.le_of_ble_eq_true rfl, Nat.le_of_ble_eq_true rfl⟩ (Nat.le_of_ble_eq_true rfl) ⟨Nat.le_of_ble_eq_true rfl, Nat.le_of_ble_eq_true rfl⟩ (by omega) dX0_init_25 (fun H locs hw => ?_)
  refine zn_put C hnm hw (show i < N + 1 + 2 by omega) (by rw [zTab, va_up_ne _ _ (by omega), va_up_ne _ _ (by omega), va_up_ne _ _ (by omega), va_up_self]) pfX0_24 rfl rfl (Nat.le_of_ble_eq_true rfl) dX0_init_28 (fun H locs hw => ?_)
  have hw := hw.cg (F' := va_up (zTab G (va_up F N (zFa G 6)) (N + 1) 4 40) i (.inr (0, [.int (nI x), .int 0, .int 0, .int 0, .int 0, .ref (G.h + N), .ref (G.h + (N + 1)), .null, .null]))) (fun j hj => by
    rcases (show j = i ∨ (j < N ∧ j ≠ i) ∨ j = N ∨ j = N + 1 ∨ j = N + 2 ∨ j = N + 3 ∨ j = N + 4 ∨ j = N + 5 ∨ j = N + 6 by omega) with h | h | h | h | h | h | h | h | h <;> (first | omega | (simp only [zTab, va_upd]; repeat (first | rw [if_pos (by omega)] | rw [if_neg (by omega)])) <;> try rfl))
  refine lv_aload_n C.x C.b dX0_init_31 rfl (lv_at hl 0 rfl) ?_
  refine zn_new (ci := 1) C hw (fun q h => Nat.le_trans C.E.2.1 h) (fs := [.int 0, .int 0, .null, .int 0]) zlayX1 tyX1 tyX1_ok znlX0_19 zniX1 znjX1 rfl (fun j hj => by rcases (show j = 0 ∨ j = 1 ∨ j = 2 ∨ j = 3 by omega) with rfl | rfl | rfl | rfl <;> rfl) (Nat.le_of_ble_eq_true rfl) (Nat.le_of_ble_eq_true rfl) dX0_init_32 (fun H hw => ?_)
  refine lv_dup C.x C.b dX0_init_35 rfl ?_
  refine lv_iconst (v := 3) C.x C.b dX0_init_36 (by decide) ?_
  refine lv_bipush (v := 60) C.x C.b dX0_init_37 (by decide) ?_
  refine zn_tabc (w := 3) (q := 60) C hO hAr hw hl iiX0_21 (by omega) ⟨Nat.le_of_ble_eq_true rfl, Nat.le_of_ble_eq_true rfl⟩ (Nat.le_of_ble_eq_true rfl) ⟨Nat.le_of_ble_eq_true rfl, Nat.le_of_ble_eq_true rfl⟩ (by omega) dX0_init_39 (fun H locs hw => ?_)
  refine zn_put C hnm hw (show i < N + 3 + 2 by omega) (by rw [zTab, va_up_ne _ _ (by omega), va_up_ne _ _ (by omega), va_up_ne _ _ (by omega), va_up_self]) pfX0_28 rfl rfl (Nat.le_of_ble_eq_true rfl) dX0_init_42 (fun H locs hw => ?_)
  have hw := hw.cg (F' := va_up (zTab G (zTab G (va_up F N (zFa G 6)) (N + 1) 4 40) (N + 3) 3 60) i (.inr (0, [.int (nI x), .int 0, .int 0, .int 0, .int 0, .ref (G.h + N), .ref (G.h + (N + 1)), .ref (G.h + (N + 3)), .null]))) (fun j hj => by
    rcases (show j = i ∨ (j < N ∧ j ≠ i) ∨ j = N ∨ j = N + 1 ∨ j = N + 2 ∨ j = N + 3 ∨ j = N + 4 ∨ j = N + 5 ∨ j = N + 6 by omega) with h | h | h | h | h | h | h | h | h <;> (first | omega | (simp only [zTab, va_upd]; repeat (first | rw [if_pos (by omega)] | rw [if_neg (by omega)])) <;> try rfl))
  refine lv_aload_n C.x C.b dX0_init_45 rfl (lv_at hl 0 rfl) ?_
  refine zn_new (ci := 1) C hw (fun q h => Nat.le_trans C.E.2.1 h) (fs := [.int 0, .int 0, .null, .int 0]) zlayX1 tyX1 tyX1_ok znlX0_19 zniX1 znjX1 rfl (fun j hj => by rcases (show j = 0 ∨ j = 1 ∨ j = 2 ∨ j = 3 by omega) with rfl | rfl | rfl | rfl <;> rfl) (Nat.le_of_ble_eq_true rfl) (Nat.le_of_ble_eq_true rfl) dX0_init_46 (fun H hw => ?_)
  refine lv_dup C.x C.b dX0_init_49 rfl ?_
  refine lv_iconst (v := 5) C.x C.b dX0_init_50 (by decide) ?_
  refine lv_bipush (v := 40) C.x C.b dX0_init_51 (by decide) ?_
  refine zn_tabc (w := 5) (q := 40) C hO hAr hw hl iiX0_21 (by omega) ⟨Nat.le_of_ble_eq_true rfl, Nat.le_of_ble_eq_true rfl⟩ (Nat.le_of_ble_eq_true rfl) ⟨Nat.le_of_ble_eq_true rfl, Nat.le_of_ble_eq_true rfl⟩ (by omega) dX0_init_53 (fun H locs hw => ?_)
  refine zn_put C hnm hw (show i < N + 5 + 2 by omega) (by rw [zTab, va_up_ne _ _ (by omega), va_up_ne _ _ (by omega), va_up_ne _ _ (by omega), va_up_self]) pfX0_31 rfl rfl (Nat.le_of_ble_eq_true rfl) dX0_init_56 (fun H locs hw => ?_)
  have hw := hw.cg (F' := va_up (zTab G (zTab G (zTab G (va_up F N (zFa G 6)) (N + 1) 4 40) (N + 3) 3 60) (N + 5) 5 40) i (.inr (0, [.int (nI x), .int 0, .int 0, .int 0, .int 0, .ref (G.h + N), .ref (G.h + (N + 1)), .ref (G.h + (N + 3)), .ref (G.h + (N + 5))]))) (fun j hj => by
    rcases (show j = i ∨ (j < N ∧ j ≠ i) ∨ j = N ∨ j = N + 1 ∨ j = N + 2 ∨ j = N + 3 ∨ j = N + 4 ∨ j = N + 5 ∨ j = N + 6 by omega) with h | h | h | h | h | h | h | h | h <;> (first | omega | (simp only [zTab, va_upd]; repeat (first | rw [if_pos (by omega)] | rw [if_neg (by omega)])) <;> try rfl))
  exact zn_vret C hw dX0_init_59
