theorem pW_end {G : zG} {F : Nat → va_E} {b : Nat} (j : Nat) (hj : j < b + 54) : va_up (zTab G (va_up (zTab G (pW G F b 6) (b + 50) 5 40) b (.inr (2, [.int 0, .ref (G.h + (b + 1)), .ref (G.h + (b + 50)), .null]))) (b + 52) 4 30) b (.inr (2, [.int 0, .ref (G.h + (b + 1)), .ref (G.h + (b + 50)), .ref (G.h + (b + 52))])) j = if j < b then F j else lW G b (j - b) (fun _ => 0) := by
  rcases (show j < b ∨ j = b ∨ j = b + 1 ∨ (b + 1 < j ∧ j < b + 50) ∨ j = b + 50 ∨ j = b + 51 ∨ j = b + 52 ∨ j = b + 53 by omega) with h | h | h | h | h | h | h | h
  · simp only [zTab, va_upd, pW]
    repeat (first | rw [if_pos (by omega)] | rw [if_neg (by omega)])
  · subst h
    rw [va_up_self, if_neg (by omega), Nat.sub_self]
    rfl
  · simp only [zTab, va_upd]
    repeat (first | rw [if_pos (by omega)] | rw [if_neg (by omega)])
    rw [h, pW_a, fW_6, Nat.add_sub_cancel_left]
    rfl
  · simp only [zTab, va_upd, pW, lW]
    repeat (first | rw [if_pos (by omega)] | rw [if_neg (by omega)])
  · simp only [zTab, va_upd]
    repeat (first | rw [if_pos (by omega)] | rw [if_neg (by omega)])
    rw [show j - b = 50 by omega]
    rfl
  · simp only [zTab, va_upd]
    repeat (first | rw [if_pos (by omega)] | rw [if_neg (by omega)])
    rw [show j - b = 51 by omega]
    rfl
  · simp only [zTab, va_upd]
    repeat (first | rw [if_pos (by omega)] | rw [if_neg (by omega)])
    rw [show j - b = 52 by omega]
    rfl
  · simp only [zTab, va_upd]
    repeat (first | rw [if_pos (by omega)] | rw [if_neg (by omega)])
    rw [show j - b = 53 by omega]
    rfl
set_option maxHeartbeats 4000000 in
theorem n_world {G : zG} {l : Launch} (hO : zOK G l) (hAr : zAr G) (hAo : zAo G) {b : Nat} {F : Nat → va_E} : zNw G l yX2_init cX2_init 2 4 53 3736 [.ref (G.h + b)] (b + 1) (va_up F b zF0w) (b + 54) (fun j => if j < b then F j else lW G b (j - b) (fun _ => 0)) := by
  refine zNw_of hO (by decide) (Nat.le_of_ble_eq_true rfl) ?_
  intro pP eE sS mM bB tT cC ls C hnm hw hz hl
  have hl : lv_has ls 2 [(0, .ref (G.h + b))] := hl
  refine lv_aload_n C.x C.b dX2_init_0 rfl (lv_at hl 0 rfl) ?_
  refine zn_obj C hl zobX2 dX2_init_1 (Nat.le_of_ble_eq_true rfl) (Nat.le_of_ble_eq_true rfl) ?_
  refine lv_aload_n C.x C.b dX2_init_4 rfl (lv_at hl 0 rfl) ?_
  refine lv_bipush (v := 6) C.x C.b dX2_init_5 (by decide) ?_
  refine zn_anew (M := 6) C hw znlX2_9 (hAo.M C.E) (hAr.M C.E) (by decide) (by decide) (by decide) (Nat.le_of_ble_eq_true rfl) (Nat.le_of_ble_eq_true rfl) dX2_init_7 (fun H hw => ?_)
  have hw := hw.cq (f := fW G b 0) (fun k hk => by unfold fW; rw [if_pos (by omega)])
  refine zn_put C hnm hw (show b < b + 1 + 1 by omega) (by rw [va_up_ne _ _ (by omega), va_up_self]; rfl) pfX2_11 rfl rfl (Nat.le_of_ble_eq_true rfl) dX2_init_10 (fun H locs hw => ?_)
  have hw : zN G (b + 2 + 8 * 0) (pW G F b 0) sS H locs := hw.cg (fun j hj => by
    rcases (show j < b ∨ j = b ∨ j = b + 1 by omega) with h | h | h
    · simp only [va_upd, pW]
      repeat (first | rw [if_pos (by omega)] | rw [if_neg (by omega)])
    · subst h
      rw [va_up_self, pW_b]
      rfl
    · subst h
      rw [va_up_ne _ _ (by omega), va_up_self, pW_a])
  refine lv_iconst (v := 0) C.x C.b dX2_init_13 (by decide) ?_
  refine lv_istore_n (lv' := [(1, .int 0), (0, .ref (G.h + b))]) C.x C.b dX2_init_14 rfl hl (by decide) rfl (fun ls hl => ?_)
  have loop : ∀ (d : Nat) (x : Nat) (H : Heap) (locs : List Loc) (ls : Array Slot) (hj : x + d = 6), zN G (b + 2 + 8 * x) (pW G F b x) sS H locs → lv_has ls 2 [(0, .ref (G.h + b)), (1, .int (nI x))] → W pP l eE (zRn 4 53 3736) sS mM ([.ref (G.h + b)] : List Value).toArray bB tT cC H locs (1 + 8 * x) (6 + 567 * x) (MQ bB (zQn G (b + 54) (fun j => if j < b then F j else lW G b (j - b) (fun _ => 0))) ([.ref (G.h + b)] : List Value).toArray sS 53 3736 (zA G)) (F0 mM 15 ls []) := by
    intro d
    induction d with
    | zero =>
      intro x H locs ls hj hw hl
      obtain rfl : x = 6 := by omega
      refine lv_iload_n C.x C.b dX2_init_15 rfl (lv_at hl 1 rfl) ?_
      refine lv_bipush (v := 6) C.x C.b dX2_init_16 (by decide) ?_
      refine lv_icmp_ge (tgt := 41) C.x C.b dX2_init_18 (by decide) (fun c_18 => ?_) (fun c_18 => absurd (zle (a := 6) (b := 6) (by omega) (by omega)) c_18)
      refine lv_aload_n C.x C.b dX2_init_41 rfl (lv_at hl 0 rfl) ?_
      refine zn_new (ci := 1) C hw (fun q h => Nat.le_trans C.E.2.1 h) (fs := [.int 0, .int 0, .null, .int 0]) zlayX1 tyX1 tyX1_ok znlX2_20 zniX1 znjX1 rfl (fun j hj => by rcases (show j = 0 ∨ j = 1 ∨ j = 2 ∨ j = 3 by omega) with rfl | rfl | rfl | rfl <;> rfl) (Nat.le_of_ble_eq_true rfl) (Nat.le_of_ble_eq_true rfl) dX2_init_42 (fun H hw => ?_)
      refine lv_dup C.x C.b dX2_init_45 rfl ?_
      refine lv_iconst (v := 5) C.x C.b dX2_init_46 (by decide) ?_
      refine lv_bipush (v := 40) C.x C.b dX2_init_47 (by decide) ?_
      refine zn_tabc (w := 5) (q := 40) C hO hAr hw hl iiX2_22 (by omega) ⟨Nat.le_of_ble_eq_true rfl, Nat.le_of_ble_eq_true rfl⟩ (Nat.le_of_ble_eq_true rfl) ⟨Nat.le_of_ble_eq_true rfl, Nat.le_of_ble_eq_true rfl⟩ (by omega) dX2_init_49 (fun H locs hw => ?_)
      refine zn_put C hnm hw (show b < b + 2 + 8 * 6 + 2 by omega) (by rw [zTab, va_up_ne _ _ (by omega), va_up_ne _ _ (by omega), va_up_ne _ _ (by omega), pW_b]) pfX2_25 rfl rfl (Nat.le_of_ble_eq_true rfl) dX2_init_52 (fun H locs hw => ?_)
      refine lv_aload_n C.x C.b dX2_init_55 rfl (lv_at hl 0 rfl) ?_
      refine zn_new (ci := 1) C hw (fun q h => Nat.le_trans C.E.2.1 h) (fs := [.int 0, .int 0, .null, .int 0]) zlayX1 tyX1 tyX1_ok znlX2_20 zniX1 znjX1 rfl (fun j hj => by rcases (show j = 0 ∨ j = 1 ∨ j = 2 ∨ j = 3 by omega) with rfl | rfl | rfl | rfl <;> rfl) (Nat.le_of_ble_eq_true rfl) (Nat.le_of_ble_eq_true rfl) dX2_init_56 (fun H hw => ?_)
      refine lv_dup C.x C.b dX2_init_59 rfl ?_
      refine lv_iconst (v := 4) C.x C.b dX2_init_60 (by decide) ?_
      refine lv_bipush (v := 30) C.x C.b dX2_init_61 (by decide) ?_
      refine zn_tabc (w := 4) (q := 30) C hO hAr hw hl iiX2_22 (by omega) ⟨Nat.le_of_ble_eq_true rfl, Nat.le_of_ble_eq_true rfl⟩ (Nat.le_of_ble_eq_true rfl) ⟨Nat.le_of_ble_eq_true rfl, Nat.le_of_ble_eq_true rfl⟩ (by omega) dX2_init_63 (fun H locs hw => ?_)
      refine zn_put C hnm hw (show b < b + 2 + 8 * 6 + 2 + 2 by omega) (by rw [zTab, va_up_ne _ _ (by omega), va_up_ne _ _ (by omega), va_up_ne _ _ (by omega), va_up_self]) pfX2_29 rfl rfl (Nat.le_of_ble_eq_true rfl) dX2_init_66 (fun H locs hw => ?_)
      have hw : zN G (b + 54) (fun j => if j < b then F j else lW G b (j - b) (fun _ => 0)) sS H locs := hw.cg (fun j hj => pW_end j hj)
      exact zn_vret C hw dX2_init_69
    | succ d ih =>
      intro x H locs ls hj hw hl
      have hx : x < 6 := by omega
      refine lv_iload_n C.x C.b dX2_init_15 rfl (lv_at hl 1 rfl) ?_
      refine lv_bipush (v := 6) C.x C.b dX2_init_16 (by decide) ?_
      refine lv_icmp_ge (tgt := 41) C.x C.b dX2_init_18 (by decide) (fun c_18 => absurd c_18 (znle (a := x) (b := 6) (by omega) (by omega))) (fun c_18 => ?_)
      refine lv_aload_n C.x C.b dX2_init_21 rfl (lv_at hl 0 rfl) ?_
      refine zn_get C hw (show b < b + 2 + 8 * x by omega) pW_b flX2_11 rfl dX2_init_22 ?_
      refine lv_iload_n C.x C.b dX2_init_25 rfl (lv_at hl 1 rfl) ?_
      refine zn_new (ci := 0) C hw (fun q h => Nat.le_trans C.E.2.1 h) (fs := [.int 0, .int 0, .int 0, .int 0, .int 0, .null, .null, .null, .null]) zlayX0 tyX0 tyX0_ok znlX2_9 zniX0 znjX0 rfl (fun j hj => by rcases (show j = 0 ∨ j = 1 ∨ j = 2 ∨ j = 3 ∨ j = 4 ∨ j = 5 ∨ j = 6 ∨ j = 7 ∨ j = 8 by omega) with rfl | rfl | rfl | rfl | rfl | rfl | rfl | rfl | rfl <;> rfl) (by show _ ≤ 53; omega) (by show _ ≤ 3736; omega) dX2_init_26 (fun H hw => ?_)
      have hw : zN G (b + 2 + 8 * x + 1) (va_up (pW G F b x) (b + 2 + 8 * x) zF0m) sS H locs := hw
      refine lv_dup C.x C.b dX2_init_29 rfl ?_
      refine lv_iload_n C.x C.b dX2_init_30 rfl (lv_at hl 1 rfl) ?_
      refine zn_call (As := [.int (nI x)]) C hw hl (n_mach hO hAr (i := b + 2 + 8 * x) (x := x)) iiX2_17 rfl rfl ⟨Nat.le_of_ble_eq_true rfl, Nat.le_of_ble_eq_true rfl⟩ (Nat.le_of_ble_eq_true rfl) ⟨by show _ ≤ 53; omega, by show _ ≤ 3736; omega⟩ dX2_init_31 (fun H locs h => ?_)
      refine zn_size h.1 (by omega) (by omega) (fun hs => ?_)
      have hw : zN G (b + 2 + 8 * x + 8) (fun j => if j < b + 2 + 8 * x then pW G F b x j else lM G (b + 2 + 8 * x) x (j - (b + 2 + 8 * x)) (fun _ => 0)) sS H locs := ⟨⟨h.1, hs⟩, h.2⟩
      refine zn_aast (t0 := 2) (a0 := b + 1) (qk := b + 2 + 8 * x) (r := (RX0, TX0, 9)) (ci := 0) (n := 6) (f := fW G b x) C hw (by omega) (by show (if _ then _ else _) = _; rw [if_pos (by omega), pW_a]) rfl (by omega) (by show (if _ then _ else _) = _; rw [if_neg (by omega), Nat.sub_self]; rfl) rfl (zvin hx (by omega)) dX2_init_34 (fun H locs hw => ?_)
      rw [zcl hx (by omega)] at hw
      have hw : zN G (b + 2 + 8 * (x + 1)) (pW G F b (x + 1)) sS H locs := hw.cg (fun j hj => pW_step hx j (by omega))
      refine lv_iinc (v := nI (x + 1)) (lv' := [(1, .int (nI (x + 1))), (0, .ref (G.h + b))]) C.x C.b dX2_init_35 hl (k := 1) rfl (by show nI x + nI 1 = _; rw [nI_add]) (by decide) rfl (fun ls hl => ?_)
      refine lv_goto (tgt := 15) C.x C.b dX2_init_38 (by decide) ?_
      refine z_wid (k := 1 + 8 * (x + 1)) (n := 6 + 567 * (x + 1)) (by omega) (by omega) ?_
      exact ih (x + 1) H locs ls (by omega) hw (lv_sub hl [1, 0] rfl)
  exact loop 6 0 H locs ls rfl hw (lv_sub hl [1, 0] rfl)
