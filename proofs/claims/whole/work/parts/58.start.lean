/-! ===== the law, from its entry ===== -/
theorem zniX3 : zW (.instantiable RX3 4) := ⟨by decide +kernel, rfl⟩
theorem znjX3 : zW (.initialized RX3) := ⟨by decide +kernel, rfl⟩
theorem zniX4 : zW (.instantiable RX4 5) := ⟨by decide +kernel, rfl⟩
theorem znjX4 : zW (.initialized RX4) := ⟨by decide +kernel, rfl⟩
theorem znlL_8 : zW (.classLink RL 8 RX3) := ⟨by decide +kernel, rfl⟩
theorem znlL_88 : zW (.classLink RL 88 RX4) := ⟨by decide +kernel, rfl⟩
theorem iiL_87 : zIi RL 87 yX3_init cX3_init 2 0 := ⟨⟨by decide +kernel, rfl⟩, ⟨by decide +kernel, rfl⟩, ⟨by decide +kernel, rfl⟩, ⟨by decide +kernel, rfl⟩, rfl, ⟨by decide, by decide⟩, by decide +kernel⟩
theorem iiL_90 : zIi RL 90 yX4_init cX4_init 1 0 := ⟨⟨by decide +kernel, rfl⟩, ⟨by decide +kernel, rfl⟩, ⟨by decide +kernel, rfl⟩, ⟨by decide +kernel, rfl⟩, rfl, ⟨by decide, by decide⟩, by decide +kernel⟩
theorem zaoX0 : Cond.arrayOver (.object RX0) ∈ lw_tbl := by decide +kernel
theorem zaoX2 : Cond.arrayOver (.object RX2) ∈ lw_tbl := by decide +kernel
theorem znamI : "[" ++ FieldType.int.toString = "[I" := by decide +kernel
theorem znamJ : "[" ++ FieldType.long.toString = "[J" := by decide +kernel
theorem znamM : "[" ++ (FieldType.object RX0).toString = "[LPeerAudit$Machine;" := by decide +kernel
theorem znamW : "[" ++ (FieldType.object RX2).toString = "[LPeerAudit$World;" := by decide +kernel
/-- the place at the law's entry -/
theorem zG_start {s : State} {a : Array Value} (hts : ∀ w ∈ lw_tbl, w.before a s = true) : ∃ G : zG, G.s0 = s ∧ G.a0 = a ∧ va_K G.D vwCl G.tys G.s0 ∧ zAr G ∧ zAo G := by
  obtain ⟨c0, i0, k0⟩ := u_known (C := RX0) (T := TX0) (N := 9) (n := 9) hts (fun w hw => (zlayX0 w hw).1) (hts _ zniX0.1)
  obtain ⟨c1, i1, k1⟩ := u_known (C := RX1) (T := TX1) (N := 4) (n := 4) hts (fun w hw => (zlayX1 w hw).1) (hts _ zniX1.1)
  obtain ⟨c2, i2, k2⟩ := u_known (C := RX2) (T := TX2) (N := 4) (n := 4) hts (fun w hw => (zlayX2 w hw).1) (hts _ zniX2.1)
  obtain ⟨c3, i3, k3⟩ := u_known (C := RX3) (T := TX3) (N := 4) (n := 4) hts (fun w hw => (zlayX3 w hw).1) (hts _ zniX3.1)
  obtain ⟨c4, i4, k4⟩ := u_known (C := RX4) (T := TX4) (N := 5) (n := 5) hts (fun w hw => (zlayX4 w hw).1) (hts _ zniX4.1)
  obtain ⟨cI, kI, pI1, aI1, aI2, aI3⟩ := Cond.arrayClass_spec (hts _ zarI.1)
  obtain ⟨cJ, kJ, pJ1, aJ1, aJ2, aJ3⟩ := Cond.arrayClass_spec (hts _ zarJ.1)
  obtain ⟨pM, cM, kM, aM1, aM2, aM3, aM4, aM5⟩ := Cond.arrayOver_spec (hts _ zaoX0)
  obtain ⟨pW1, cW, kW, aW1, aW2, aW3, aW4, aW5⟩ := Cond.arrayOver_spec (hts _ zaoX2)
  refine ⟨(s, a, (fun k => if k = 0 then c0 else if k = 1 then c1 else if k = 2 then c2 else if k = 3 then c3 else c4), (fun k => if k = 0 then i0 else if k = 1 then i1 else if k = 2 then i2 else if k = 3 then i3 else i4), cI, cJ, cM, cW), rfl, rfl, ⟨?_, ?_⟩, ⟨?_, ?_, ?_, ?_⟩, hts _ zaoX0, hts _ zaoX2⟩
  · intro k q hq
    match k, hq with
    | 0, hq => cases hq; exact k0
    | 1, hq => cases hq; exact k1
    | 2, hq => cases hq; exact k2
    | 3, hq => cases hq; exact k3
    | 4, hq => cases hq; exact k4
    | k + 5, hq => simp [vwCl] at hq
  · intro k q hq
    match k, hq with
    | 0, hq => cases hq; exact ⟨fun n z => ⟨(fun k h => by cases h), kI, aI2, pI1, aI3⟩, aI1⟩
    | 1, hq => cases hq; exact ⟨fun n z => ⟨(fun k h => by cases h), kJ, aJ2, pJ1, aJ3⟩, aJ1⟩
    | 2, hq => cases hq; exact ⟨fun n z => ⟨(fun k h => by cases h), kM, aM3, pM, aM4⟩, kM, pM, aM3, aM4, aM1, aM5⟩
    | 3, hq => cases hq; exact ⟨fun n z => ⟨(fun k h => by cases h), kW, aW3, pW1, aW4⟩, kW, pW1, aW3, aW4, aW1, aW5⟩
    | k + 4, hq => simp at hq
  · show s.vm.findClass _ = some cI
    rw [← znamI]; exact aI1
  · show s.vm.findClass _ = some cJ
    rw [← znamJ]; exact aJ1
  · show s.vm.findClass _ = some cM
    rw [← znamM]; exact aM5
  · show s.vm.findClass _ = some cW
    rw [← znamW]; exact aW5
set_option maxHeartbeats 4000000 in
set_option maxRecDepth 100000 in
theorem whole_start {p : Program} {e : Env} {s : State} {m : MethodId} {below : List Frame} {meth : Method} {c : Code} (l : Launch) (hflags : l.flags = flags0) {b L : Nat} {xs : Nat → Int32} (hL : L ≤ 2048) (C0 : lw_At p s m meth c b L xs) : W p l e room_1 s m #[Value.ref b] below meth c s.heap [] 0 0 (lw_Z below #[Value.ref b] s) (entryFrame m ([Value.ref b] : List Value).toArray 7) := by
  obtain ⟨hx, hb, hr, hml, hown, hts, hX, hbl, hlocks, hgv⟩ := id C0
  obtain ⟨G, eG, eA0, hK, hAr, hAo⟩ := zG_start hts
  subst eG
  have hh : G.h = G.s0.heap.size := rfl
  have hO : zOK G l := ⟨by rw [eA0]; exact hts, hK, hflags, by rw [eA0]; exact hgv⟩
  have hE : zE G G.s0 := ⟨State.WarmedH.refl _, Nat.le_refl _, fun _ _ _ => rfl⟩
  have C : zC G l p G.s0 m meth c cL_law 7 RL (some .boolean) := ⟨hx, hb, hml, hown, hr, hlocks, hE, hO⟩
  have hbA : ¬ zA G b := Nat.not_le.mpr hbl
  have hl := lv_entry ([.ref b]) (n := 7) (Nat.le_of_ble_eq_true rfl)
  rw [lg_entry_eq]
  generalize (lg_sl ([.ref b]) ++ List.replicate (7 - (lg_sl ([.ref b])).length) Slot.unset).toArray = ls at hl ⊢
  have hl : lv_has ls 7 [(0, .ref b)] := hl
  have hw : zN G 0 (fun _ => zF0w) G.s0 G.s0.heap [] := ⟨⟨fun k q hq => absurd (zpl_lt hq).1 (Nat.not_lt_zero _), rfl⟩, va_S.rf⟩
  refine zn_new (ci := 3) C hw (fun q h => h) (fs := [.null, .null, .int 0, .int 0]) zlayX3 tyX3 tyX3_ok znlL_8 zniX3 znjX3 rfl (fun j hj => by rcases (show j = 0 ∨ j = 1 ∨ j = 2 ∨ j = 3 by omega) with rfl | rfl | rfl | rfl <;> rfl) (Nat.le_of_ble_eq_true rfl) (Nat.le_of_ble_eq_true rfl) dL_law_0 (fun H hw => ?_)
  have hw : zN G 1 (va_up (fun _ => zF0w) 0 zF0p) G.s0 H [] := hw
  refine lv_dup C.x C.b dL_law_3 rfl ?_
  refine zn_call (As := []) (i := 0) C hw hl (n_peer hO hAr hAo) iiL_87 rfl rfl ⟨Nat.le_of_ble_eq_true rfl, Nat.le_of_ble_eq_true rfl⟩ (Nat.le_of_ble_eq_true rfl) ⟨Nat.le_of_ble_eq_true rfl, Nat.le_of_ble_eq_true rfl⟩ dL_law_4 (fun H locs h => ?_)
  refine zn_size h.1 (by omega) (by omega) (fun hs => ?_)
  have hw : zN G 272 (zL (lP G) zb1) G.s0 H locs := ⟨⟨h.1, hs⟩, h.2⟩
  refine lv_astore_n (lv' := [(1, .ref (G.h + 0)), (0, .ref b)]) C.x C.b dL_law_7 rfl hl (by decide) rfl (fun ls hl => ?_)
  refine zn_new (ci := 4) C hw (fun q h => h) (fs := [.null, .null, .int 0, .int 0, .long 0]) zlayX4 tyX4 tyX4_ok znlL_88 zniX4 znjX4 rfl (fun j hj => by rcases (show j = 0 ∨ j = 1 ∨ j = 2 ∨ j = 3 ∨ j = 4 by omega) with rfl | rfl | rfl | rfl | rfl <;> rfl) (Nat.le_of_ble_eq_true rfl) (Nat.le_of_ble_eq_true rfl) dL_law_8 (fun H hw => ?_)
  have hw : zN G 273 (va_up (zL (lP G) zb1) 272 zF0q) G.s0 H locs := hw
  refine lv_dup C.x C.b dL_law_11 rfl ?_
  refine zn_call (As := []) (i := 272) C hw hl (n_model hO hAr) iiL_90 rfl rfl ⟨Nat.le_of_ble_eq_true rfl, Nat.le_of_ble_eq_true rfl⟩ (Nat.le_of_ble_eq_true rfl) ⟨Nat.le_of_ble_eq_true rfl, Nat.le_of_ble_eq_true rfl⟩ dL_law_12 (fun H locs h => ?_)
  refine zn_size h.1 (by omega) (by omega) (fun hs => ?_)
  have hw : zN G 275 (zL (lP G) zb2) G.s0 H locs := ⟨⟨h.1, hs⟩, h.2⟩
  refine lv_astore_n (lv' := [(2, .ref (G.h + 272)), (1, .ref (G.h + 0)), (0, .ref b)]) C.x C.b dL_law_15 rfl hl (by decide) rfl (fun ls hl => ?_)
  refine lv_iconst (v := 1) C.x C.b dL_law_16 (by decide) ?_
  refine zn_arr C hw (atype := .long) (M := 1) zarJ (hAr.J C.E) (a0 := (1, .inr (.inl (fun _ => 0)))) rfl (by decide) (by decide) (Nat.le_of_ble_eq_true rfl) (Nat.le_of_ble_eq_true rfl) (Nat.le_of_ble_eq_true rfl) dL_law_17 (fun H hw => ?_)
  have hw : zN G 276 (zL (lP G) zb2) G.s0 H locs := hw.cg (fun j hj => by
    by_cases h : j = 275
    · subst h
      rw [va_up_self]
      unfold zL
      rw [lP_275, zb2_2]
    · rw [va_up_ne _ _ h])
  refine lv_astore_n (lv' := [(3, .ref (G.h + 275)), (2, .ref (G.h + 272)), (1, .ref (G.h + 0)), (0, .ref b)]) C.x C.b dL_law_19 rfl hl (by decide) rfl (fun ls hl => ?_)
  refine lv_iconst (v := 0) C.x C.b dL_law_20 (by decide) ?_
  refine lv_istore (lv' := [(4, .int 0), (3, .ref (G.h + 275)), (2, .ref (G.h + 272)), (1, .ref (G.h + 0)), (0, .ref b)]) C.x C.b dL_law_21 hl (by decide) rfl (fun ls hl => ?_)
  refine z_wid (k := 276) (n := 33319) (by omega) (by omega) ?_
  refine law_loop C (lP_Po (N := 276) (by omega)) (lP_Mo (by omega)) (by omega) lP_275 hX hbl hbA hL (fun H locs cells slots ls z hw h1 h2 => ?_) 513 0 276 33319 zb2 (aI 3) 0 (fun _ => aI 3) H locs ls (by omega) (by omega) (by omega) (by omega) (zb2_LI _) ⟨hw.1.1, hw.2⟩ (lv_sub hl [4, 3, 2, 1, 0] rfl)
  refine va_forget (fun q hq => hw.2.2.2 q hq) ?_
  refine z_wid (k := 601024) (n := 7293034) h1 h2 ?_
  refine lv_iconst (v := 1) C.x C.b dL_law_1602 (by decide) ?_
  exact lw_ret hx hb hr hlocks dL_law_1603
