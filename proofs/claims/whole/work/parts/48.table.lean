/-! ===== constructors ===== -/
theorem pfX1_9 : zPutF RX1 9 1 0 .int := ⟨RX1, TX1, 4, tyX1, rfl, by decide, ⟨by decide +kernel, rfl⟩, rfl, rfl, rfl, by decide +kernel, zlayX1, tyX1_ok, nmX1⟩
theorem pfX1_15 : zPutF RX1 15 1 1 .int := ⟨RX1, TX1, 4, tyX1, rfl, by decide, ⟨by decide +kernel, rfl⟩, rfl, rfl, rfl, by decide +kernel, zlayX1, tyX1_ok, nmX1⟩
theorem pfX1_18 : zPutF RX1 18 1 2 (.array .int) := ⟨RX1, TX1, 4, tyX1, rfl, by decide, ⟨by decide +kernel, rfl⟩, rfl, rfl, rfl, by decide +kernel, zlayX1, tyX1_ok, nmX1⟩
theorem zarI : zW (.arrayClass .int) := ⟨by decide +kernel, rfl⟩
theorem zarJ : zW (.arrayClass .long) := ⟨by decide +kernel, rfl⟩
theorem zN.cg {G : zG} {N : Nat} {F F' : Nat → va_E} {s : State} {H : Heap} {locs : List Loc} (h : zN G N F s H locs) (he : ∀ i, i < N → F i = F' i) : zN G N F' s H locs := ⟨⟨by rw [← zpl_congr he]; exact h.1.1, h.1.2⟩, h.2⟩
theorem zAr.I {G : zG} {s : State} (h : zAr G) (hE : zE G s) : s.vm.findClass "[I" = some G.cI := by rw [hE.1.alike.findClass]; exact h.1
def zFt (G : zG) (w q a : Nat) : va_E := .inr (1, [.int (nI w), .int (nI q), .ref (G.h + a), .int 0])
def zF0t : va_E := .inr (1, [.int 0, .int 0, .null, .int 0])
def zFa (G : zG) (n : Nat) : va_E := .inl (G.cI, n, .inl (fun _ => 0))
set_option maxHeartbeats 4000000 in
theorem n_X1_init {G : zG} {l : Launch} (hO : zOK G l) (hAr : zAr G) {N i w q : Nat} {F : Nat → va_E} (hi : i < N) (he : F i = zF0t) (hwq : w * q ≤ 1000) : zNw G l yX1_init cX1_init 3 1 1 (w * q) [.ref (G.h + i), .int (nI w), .int (nI q)] N F (N + 1) (va_up (va_up F N (zFa G (w * q))) i (zFt G w q N)) := by
  refine zNw_of hO (by decide) (Nat.le_of_ble_eq_true rfl) ?_
  intro pP eE sS mM bB tT cC ls C hnm hw hz hl
  have hl : lv_has ls 3 [(0, .ref (G.h + i)), (1, .int (nI w)), (2, .int (nI q))] := hl
  refine lv_aload_n C.x C.b dX1_init_0 rfl (lv_at hl 0 rfl) ?_
  refine zn_obj C hl zobX1 dX1_init_1 (Nat.le_refl 1) (Nat.le_of_ble_eq_true rfl) ?_
  refine lv_aload_n C.x C.b dX1_init_4 rfl (lv_at hl 0 rfl) ?_
  refine lv_iload_n C.x C.b dX1_init_5 rfl (lv_at hl 1 rfl) ?_
  refine zn_put C hnm hw hi he pfX1_9 rfl rfl (Nat.le_of_ble_eq_true rfl) dX1_init_6 (fun H locs hw => ?_)
  refine lv_aload_n C.x C.b dX1_init_9 rfl (lv_at hl 0 rfl) ?_
  refine lv_iload_n C.x C.b dX1_init_10 rfl (lv_at hl 2 rfl) ?_
  refine zn_put C hnm hw hi (va_up_self _ _ _) pfX1_15 rfl rfl (Nat.le_of_ble_eq_true rfl) dX1_init_11 (fun H locs hw => ?_)
  refine lv_aload_n C.x C.b dX1_init_14 rfl (lv_at hl 0 rfl) ?_
  refine lv_iload_n C.x C.b dX1_init_15 rfl (lv_at hl 1 rfl) ?_
  refine lv_iload_n C.x C.b dX1_init_16 rfl (lv_at hl 2 rfl) ?_
  refine lv_imul C.x C.b dX1_init_17 ?_
  refine z_topi (y := nI (w * q)) (pk_mul _ _) ?_
  refine zn_arr C hw (atype := .int) zarI (hAr.I C.E) (a0 := (w * q, .inl (fun _ => 0))) rfl (zneg (by omega)) (nI_clamp (by omega)) (by show w * q * 4 ≤ _; omega) (by show 0 + 1 ≤ 1; omega) (by show 0 + w * q ≤ w * q; omega) dX1_init_18 (fun H hw => ?_)
  refine zn_put C hnm hw (show i < N + 1 by omega) (by rw [va_up_ne _ _ (by omega), va_up_self]) pfX1_18 rfl rfl (Nat.le_of_ble_eq_true rfl) dX1_init_20 (fun H locs hw => ?_)
  have hw := hw.cg (F' := va_up (va_up F N (zFa G (w * q))) i (zFt G w q N)) (fun j hj => by
    by_cases h1 : j = i
    · subst h1; rw [va_up_self, va_up_self]; rfl
    · rw [va_up_ne _ _ h1, va_up_ne _ _ h1]
      by_cases h2 : j = N
      · subst h2; rw [va_up_self, va_up_self]; rfl
      · rw [va_up_ne _ _ h2, va_up_ne _ _ h2, va_up_ne _ _ h1, va_up_ne _ _ h1])
  refine z_wid (k := 1) (n := w * q) (by omega) (by omega) ?_
  exact zn_vret C hw dX1_init_23
