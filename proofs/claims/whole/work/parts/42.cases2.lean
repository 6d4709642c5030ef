theorem s_lie2 {G : zG} {N : Nat} {Λ : zLay} {l : Launch} (hO : zOK G l) (hA : zPo G N Λ) (hB : zMo G N Λ) (hJl : 275 < N) (hJ : zJA G Λ 275 1) {z : zM} {S : aS} {c : Nat} {Lf : Nat → aS} (h : LI z S c Lf) (a0 : Int32) : ∃ (k : Nat) (z1 z2 : zM) (r : Int32) (S' : aS) (c' : Nat) (Lf' : Nat → aS), (zMW G N Λ l yL_lie cL_lie 4 (some .int) [(0, 16, 19, 19)] 9 [.ref (G.h + 0), .int a0, .ref (G.h + 275)] z (some (.int (nI k))) z1 ∧ zMet G N Λ l yX4_lie cX4_lie 3 (some .boolean) 2 [.ref (G.h + 272), .int a0] z1 (some (.int r)) z2) ∧ sE z2 k r ∧ LI z2 S' c' Lf' ∧ (r = 0 ∨ r = 1) := by
  have hn6 := h.1.o.n6
  by_cases hv0 : isM a0 S.n
  · obtain ⟨x, hx, rfl⟩ := hv0
    obtain ⟨z', hc, hm⟩ := c_lie hO hA h.1 hx
    obtain ⟨z2, hn, hm2⟩ := n_lie hO hB (s_ok h hc _) h.1.o hx
    have hli := (h.1.o.m hx).lie
    refine ⟨0, _, z2, _, _, _, _, ⟨w_lie hO z hA hJl hJ hli hm, hm2⟩, (s_fin hc hn).1, (s_fin hc hn).2, ?_⟩
    rcases (show (S.m x).lie = 0 ∨ (S.m x).lie = 1 by omega) with q | q
    · exact Or.inl (by rw [q]; rfl)
    · exact Or.inr (by rw [q]; rfl)
  · exact ⟨1, z, _, 0, _, _, _, ⟨wx_lie1 hO z hA hJl hJ (x_X3_lie hO z hA h.1.w h.1.o hv0), f_X4_lie hO z hB h.2 h.1.o hv0⟩, (s_ref h (by omega) (by omega)).1, (s_ref h (by omega) (by omega)).2, Or.inl rfl⟩
theorem k_setSilent {p : Program} {l : Launch} {e : Env} {s : State} {m : MethodId} {args : Array Value} {below : List Frame} {meth : Method} {c : Code} {H : Heap} {locs : List Loc} {cells slots : Nat} {Q : State → Prop} {ls : Array Slot} {G : zG} {N : Nat} {Λ : zLay} {z : zM} (C : zC G l p s m meth c cL_law 7 RL (some .boolean)) (hA : zPo G N Λ) (hB : zMo G N Λ) (hJl : 275 < N) (hJ : zJA G Λ 275 1) {b L : Nat} {xs : Nat → Int32} (hX : va_X b L xs s s.heap) (hbl : b < s.heap.size) (hbA : ¬ zA G b) {i : Nat} (hi : i + 4 ≤ L) (hL : L ≤ 2048) {S : aS} {cn : Nat} {Lf : Nat → aS} (h : LI z S cn Lf) (hw : zS G N Λ z s H locs) (hl : lv_has ls 7 [(0, .ref b), (1, .ref (G.h + 0)), (2, .ref (G.h + 272)), (3, .ref (G.h + 275)), (4, .int (nI i))]) (hc1 : cells + 1 ≤ 601024) (hc2 : slots + 6 ≤ 7293034)
    (kk : ∀ (z' : zM) (S' : aS) (cn' : Nat) (Lf' : Nat → aS) (H : Heap) (locs : List Loc) (ls : Array Slot), LI z' S' cn' Lf' → zS G N Λ z' s H locs → lv_has ls 7 [(0, .ref b), (1, .ref (G.h + 0)), (2, .ref (G.h + 272)), (3, .ref (G.h + 275)), (4, .int (nI i))] → W p l e room_1 s m args below meth c H locs (cells + 1) (slots + 6) Q (F0 m 1596 ls [])) : W p l e room_1 s m args below meth c H locs cells slots Q (F0 m 449 ls []) := by
  refine lv_aload_n C.x C.b dL_law_449 rfl (lv_at hl 1 rfl) ?_
  refine lv_aload_n C.x C.b dL_law_450 rfl (lv_at hl 0 rfl) ?_
  refine lv_iload C.x C.b dL_law_451 (lv_at hl 4 rfl) ?_
  refine lv_iconst (v := 1) C.x C.b dL_law_453 (by decide) ?_
  refine lv_iadd C.x C.b dL_law_454 ?_
  refine z_topi (y := nI (i + 1)) (by rw [zlit 1, nI_add]) ?_
  refine va_sld C.x C.b hX hbl hbA hw.2 (i := nI (i + 1)) (vp_in_nI (by omega) (by omega)) dL_law_455 ?_
  refine z_topi (y := xs (i + 1)) (congrArg xs (nI_clamp (by omega))) ?_
  refine lv_aload_n C.x C.b dL_law_456 rfl (lv_at hl 0 rfl) ?_
  refine lv_iload C.x C.b dL_law_457 (lv_at hl 4 rfl) ?_
  refine lv_iconst (v := 2) C.x C.b dL_law_459 (by decide) ?_
  refine lv_iadd C.x C.b dL_law_460 ?_
  refine z_topi (y := nI (i + 2)) (by rw [zlit 2, nI_add]) ?_
  refine va_sld C.x C.b hX hbl hbA hw.2 (i := nI (i + 2)) (vp_in_nI (by omega) (by omega)) dL_law_461 ?_
  refine z_topi (y := xs (i + 2)) (congrArg xs (nI_clamp (by omega))) ?_
  refine lv_if_eq (tgt := 469) C.x C.b dL_law_462 (by decide) (fun c_462 => ?_) (fun c_462 => ?_)
  · refine lv_iconst (v := 0) C.x C.b dL_law_469 (by decide) ?_
    refine lv_aload_n C.x C.b dL_law_470 rfl (lv_at hl 3 rfl) ?_
    obtain ⟨k, z1, z2, r, S2, c2, L2, ⟨hmw, hmm⟩, hsE, hLI⟩ := s_setSilent C.O hA hB hJl hJ h (xs (i + 1)) (b := 0) (by omega)
    refine z_SW (As := [.ref (G.h + 0), .int (xs (i + 1)), .int 0, .ref (G.h + 275)]) (rest := []) C hw hl hmw iwL_118 rfl rfl ⟨(Nat.le_of_ble_eq_true rfl), (Nat.le_of_ble_eq_true rfl)⟩ (Nat.le_of_ble_eq_true rfl) ⟨hc1, hc2⟩ dL_law_471 (fun H locs hw => ?_)
    refine lv_istore (lv' := [(5, .int (nI k)), (0, .ref b), (1, .ref (G.h + 0)), (2, .ref (G.h + 272)), (3, .ref (G.h + 275)), (4, .int (nI i))]) C.x C.b dL_law_474 hl (by decide) rfl (fun ls hl => ?_)
    refine lv_aload_n C.x C.b dL_law_476 rfl (lv_at hl 3 rfl) ?_
    refine lv_aload_n C.x C.b dL_law_477 rfl (lv_at hl 1 rfl) ?_
    refine lv_iload C.x C.b dL_law_478 (lv_at hl 5 rfl) ?_
    refine lv_iconst (v := 1) C.x C.b dL_law_480 (by decide) ?_
    refine z_pc (pc2 := 481) rfl ?_
    refine lv_iadd C.x C.b dL_law_481 ?_
    refine z_topi (y := nI (i + 1)) (by rw [zlit 1, nI_add]) ?_
    refine va_sld C.x C.b hX hbl hbA hw.2 (i := nI (i + 1)) (vp_in_nI (by omega) (by omega)) dL_law_482 ?_
    refine z_topi (y := xs (i + 1)) (congrArg xs (nI_clamp (by omega))) ?_
    refine lv_aload_n C.x C.b dL_law_483 rfl (lv_at hl 1 rfl) ?_
    refine lv_iload C.x C.b dL_law_484 (lv_at hl 5 rfl) ?_
    refine lv_iconst (v := 2) C.x C.b dL_law_486 (by decide) ?_
    refine lv_iadd C.x C.b dL_law_487 ?_
    refine z_topi (y := nI (i + 2)) (by rw [zlit 2, nI_add]) ?_
    refine va_sld C.x C.b hX hbl hbA hw.2 (i := nI (i + 2)) (vp_in_nI (by omega) (by omega)) dL_law_488 ?_
    refine z_topi (y := xs (i + 2)) (congrArg xs (nI_clamp (by omega))) ?_
    refine lv_if_eq (tgt := 496) C.x C.b dL_law_489 (by decide) (fun c_489 => ?_) (fun c_489 => absurd (c_462) c_489)
    refine lv_iconst (v := 0) C.x C.b dL_law_496 (by decide) ?_
    refine z_Vv (As := [.int (xs (i + 1)), .int 0]) (rest := []) C hw hl hmm ivL_121 hB.lt (hB.at _ _) rfl rfl ⟨(Nat.le_of_ble_eq_true rfl), (Nat.le_of_ble_eq_true rfl)⟩ (Nat.le_of_ble_eq_true rfl) ⟨by show cells + 1 ≤ 601024; omega, by show slots + 6 ≤ 7293034; omega⟩ dL_law_497 (fun H locs hw => ?_)
    refine lv_istore (lv' := [(6, .int r), (5, .int (nI k)), (0, .ref b), (1, .ref (G.h + 0)), (2, .ref (G.h + 272)), (3, .ref (G.h + 275)), (4, .int (nI i))]) C.x C.b dL_law_500 hl (by decide) rfl (fun ls hl => ?_)
    refine lv_aload_n C.x C.b dL_law_502 rfl (lv_at hl 4 rfl) ?_
    refine z_Vv (As := []) (rest := []) C hw hl (m_X4_thrown C.O z2 hB hsE.2.1) ivL_97 hB.lt (hB.at _ _) rfl rfl ⟨(Nat.le_of_ble_eq_true rfl), (Nat.le_of_ble_eq_true rfl)⟩ (Nat.le_of_ble_eq_true rfl) ⟨by show cells + 1 ≤ 601024; omega, by show slots + 6 ≤ 7293034; omega⟩ dL_law_503 (fun H locs hw => ?_)
    refine lv_iload C.x C.b dL_law_506 (lv_at hl 1 rfl) ?_
    refine lv_icmp_eq (tgt := 513) C.x C.b dL_law_508 (by decide) (fun c_508 => ?_) (fun c_508 => absurd (rfl) c_508)
    refine lv_iload C.x C.b dL_law_513 (lv_at hl 1 rfl) ?_
    refine lv_if_ne (tgt := 530) C.x C.b dL_law_515 (by decide) (fun c_515 => ?_) (fun c_515 => ?_)
    · refine lv_goto (tgt := 1596) C.x C.b dL_law_530 (by decide) ?_
      exact kk z2 S2 c2 L2 _ _ _ hLI hw (lv_sub hl [2, 3, 4, 5, 6] rfl)
    · refine lv_aload_n C.x C.b dL_law_518 rfl (lv_at hl 5 rfl) ?_
      refine lv_iconst (v := 0) C.x C.b dL_law_519 (by decide) ?_
      refine z_lald C hw hJl hJ ((zvin (x := 0) (by omega) (by omega))) dL_law_520 ?_
      have hk0 : k = 0 := zzero (by have := hsE.1; omega) c_515
      refine z_topl (y := r.toInt64) (hsE.2.2 hk0) ?_
      refine lv_iload C.x C.b dL_law_521 (lv_at hl 0 rfl) ?_
      refine lv_i2l C.x C.b dL_law_523 rfl ?_
      refine z_pc (pc2 := 524) rfl ?_
      refine W.lcmp C.x C.b dL_law_524 ?_
      refine lv_if_eq (tgt := 530) C.x C.b dL_law_525 (by decide) (fun c_525 => ?_) (fun c_525 => absurd (lg_cmp_self _) c_525)
      refine lv_goto (tgt := 1596) C.x C.b dL_law_530 (by decide) ?_
      exact kk z2 S2 c2 L2 _ _ _ hLI hw (lv_sub hl [2, 3, 4, 5, 6] rfl)
  · refine lv_iconst (v := 1) C.x C.b dL_law_465 (by decide) ?_
    refine lv_goto (tgt := 470) C.x C.b dL_law_466 (by decide) ?_
    refine lv_aload_n C.x C.b dL_law_470 rfl (lv_at hl 3 rfl) ?_
    obtain ⟨k, z1, z2, r, S2, c2, L2, ⟨hmw, hmm⟩, hsE, hLI⟩ := s_setSilent C.O hA hB hJl hJ h (xs (i + 1)) (b := 1) (by omega)
    refine z_SW (As := [.ref (G.h + 0), .int (xs (i + 1)), .int 1, .ref (G.h + 275)]) (rest := []) C hw hl hmw iwL_118 rfl rfl ⟨(Nat.le_of_ble_eq_true rfl), (Nat.le_of_ble_eq_true rfl)⟩ (Nat.le_of_ble_eq_true rfl) ⟨hc1, hc2⟩ dL_law_471 (fun H locs hw => ?_)
    refine lv_istore (lv' := [(5, .int (nI k)), (0, .ref b), (1, .ref (G.h + 0)), (2, .ref (G.h + 272)), (3, .ref (G.h + 275)), (4, .int (nI i))]) C.x C.b dL_law_474 hl (by decide) rfl (fun ls hl => ?_)
    refine lv_aload_n C.x C.b dL_law_476 rfl (lv_at hl 3 rfl) ?_
    refine lv_aload_n C.x C.b dL_law_477 rfl (lv_at hl 1 rfl) ?_
    refine lv_iload C.x C.b dL_law_478 (lv_at hl 5 rfl) ?_
    refine z_pc (pc2 := 480) rfl ?_
    refine lv_iconst (v := 1) C.x C.b dL_law_480 (by decide) ?_
    refine lv_iadd C.x C.b dL_law_481 ?_
    refine z_topi (y := nI (i + 1)) (by rw [zlit 1, nI_add]) ?_
    refine va_sld C.x C.b hX hbl hbA hw.2 (i := nI (i + 1)) (vp_in_nI (by omega) (by omega)) dL_law_482 ?_
    refine z_topi (y := xs (i + 1)) (congrArg xs (nI_clamp (by omega))) ?_
    refine lv_aload_n C.x C.b dL_law_483 rfl (lv_at hl 1 rfl) ?_
    refine lv_iload C.x C.b dL_law_484 (lv_at hl 5 rfl) ?_
    refine lv_iconst (v := 2) C.x C.b dL_law_486 (by decide) ?_
    refine lv_iadd C.x C.b dL_law_487 ?_
    refine z_topi (y := nI (i + 2)) (by rw [zlit 2, nI_add]) ?_
    refine va_sld C.x C.b hX hbl hbA hw.2 (i := nI (i + 2)) (vp_in_nI (by omega) (by omega)) dL_law_488 ?_
    refine z_topi (y := xs (i + 2)) (congrArg xs (nI_clamp (by omega))) ?_
    refine lv_if_eq (tgt := 496) C.x C.b dL_law_489 (by decide) (fun c_489 => absurd c_489 (c_462)) (fun c_489 => ?_)
    refine lv_iconst (v := 1) C.x C.b dL_law_492 (by decide) ?_
    refine lv_goto (tgt := 497) C.x C.b dL_law_493 (by decide) ?_
    refine z_Vv (As := [.int (xs (i + 1)), .int 1]) (rest := []) C hw hl hmm ivL_121 hB.lt (hB.at _ _) rfl rfl ⟨(Nat.le_of_ble_eq_true rfl), (Nat.le_of_ble_eq_true rfl)⟩ (Nat.le_of_ble_eq_true rfl) ⟨by show cells + 1 ≤ 601024; omega, by show slots + 6 ≤ 7293034; omega⟩ dL_law_497 (fun H locs hw => ?_)
    refine lv_istore (lv' := [(6, .int r), (5, .int (nI k)), (0, .ref b), (1, .ref (G.h + 0)), (2, .ref (G.h + 272)), (3, .ref (G.h + 275)), (4, .int (nI i))]) C.x C.b dL_law_500 hl (by decide) rfl (fun ls hl => ?_)
    refine lv_aload_n C.x C.b dL_law_502 rfl (lv_at hl 4 rfl) ?_
    refine z_Vv (As := []) (rest := []) C hw hl (m_X4_thrown C.O z2 hB hsE.2.1) ivL_97 hB.lt (hB.at _ _) rfl rfl ⟨(Nat.le_of_ble_eq_true rfl), (Nat.le_of_ble_eq_true rfl)⟩ (Nat.le_of_ble_eq_true rfl) ⟨by show cells + 1 ≤ 601024; omega, by show slots + 6 ≤ 7293034; omega⟩ dL_law_503 (fun H locs hw => ?_)
    refine lv_iload C.x C.b dL_law_506 (lv_at hl 1 rfl) ?_
    refine lv_icmp_eq (tgt := 513) C.x C.b dL_law_508 (by decide) (fun c_508 => ?_) (fun c_508 => absurd (rfl) c_508)
    refine lv_iload C.x C.b dL_law_513 (lv_at hl 1 rfl) ?_
    refine lv_if_ne (tgt := 530) C.x C.b dL_law_515 (by decide) (fun c_515 => ?_) (fun c_515 => ?_)
    · refine lv_goto (tgt := 1596) C.x C.b dL_law_530 (by decide) ?_
      exact kk z2 S2 c2 L2 _ _ _ hLI hw (lv_sub hl [2, 3, 4, 5, 6] rfl)
    · refine lv_aload_n C.x C.b dL_law_518 rfl (lv_at hl 5 rfl) ?_
      refine lv_iconst (v := 0) C.x C.b dL_law_519 (by decide) ?_
      refine z_lald C hw hJl hJ ((zvin (x := 0) (by omega) (by omega))) dL_law_520 ?_
      have hk0 : k = 0 := zzero (by have := hsE.1; omega) c_515
      refine z_topl (y := r.toInt64) (hsE.2.2 hk0) ?_
      refine z_pc (pc2 := 521) rfl ?_
      refine lv_iload C.x C.b dL_law_521 (lv_at hl 0 rfl) ?_
      refine lv_i2l C.x C.b dL_law_523 rfl ?_
      refine W.lcmp C.x C.b dL_law_524 ?_
      refine lv_if_eq (tgt := 530) C.x C.b dL_law_525 (by decide) (fun c_525 => ?_) (fun c_525 => absurd (lg_cmp_self _) c_525)
      refine lv_goto (tgt := 1596) C.x C.b dL_law_530 (by decide) ?_
      exact kk z2 S2 c2 L2 _ _ _ hLI hw (lv_sub hl [2, 3, 4, 5, 6] rfl)

theorem k_lie {p : Program} {l : Launch} {e : Env} {s : State} {m : MethodId} {args : Array Value} {below : List Frame} {meth : Method} {c : Code} {H : Heap} {locs : List Loc} {cells slots : Nat} {Q : State → Prop} {ls : Array Slot} {G : zG} {N : Nat} {Λ : zLay} {z : zM} (C : zC G l p s m meth c cL_law 7 RL (some .boolean)) (hA : zPo G N Λ) (hB : zMo G N Λ) (hJl : 275 < N) (hJ : zJA G Λ 275 1) {b L : Nat} {xs : Nat → Int32} (hX : va_X b L xs s s.heap) (hbl : b < s.heap.size) (hbA : ¬ zA G b) {i : Nat} (hi : i + 4 ≤ L) (hL : L ≤ 2048) {S : aS} {cn : Nat} {Lf : Nat → aS} (h : LI z S cn Lf) (hw : zS G N Λ z s H locs) (hl : lv_has ls 7 [(0, .ref b), (1, .ref (G.h + 0)), (2, .ref (G.h + 272)), (3, .ref (G.h + 275)), (4, .int (nI i))]) (hc1 : cells + 1 ≤ 601024) (hc2 : slots + 6 ≤ 7293034)
    (kk : ∀ (z' : zM) (S' : aS) (cn' : Nat) (Lf' : Nat → aS) (H : Heap) (locs : List Loc) (ls : Array Slot), LI z' S' cn' Lf' → zS G N Λ z' s H locs → lv_has ls 7 [(0, .ref b), (1, .ref (G.h + 0)), (2, .ref (G.h + 272)), (3, .ref (G.h + 275)), (4, .int (nI i))] → W p l e room_1 s m args below meth c H locs (cells + 1) (slots + 6) Q (F0 m 1596 ls [])) : W p l e room_1 s m args below meth c H locs cells slots Q (F0 m 645 ls []) := by
  refine lv_aload_n C.x C.b dL_law_645 rfl (lv_at hl 1 rfl) ?_
  refine lv_aload_n C.x C.b dL_law_646 rfl (lv_at hl 0 rfl) ?_
  refine lv_iload C.x C.b dL_law_647 (lv_at hl 4 rfl) ?_
  refine lv_iconst (v := 1) C.x C.b dL_law_649 (by decide) ?_
  refine lv_iadd C.x C.b dL_law_650 ?_
  refine z_topi (y := nI (i + 1)) (by rw [zlit 1, nI_add]) ?_
  refine va_sld C.x C.b hX hbl hbA hw.2 (i := nI (i + 1)) (vp_in_nI (by omega) (by omega)) dL_law_651 ?_
  refine z_topi (y := xs (i + 1)) (congrArg xs (nI_clamp (by omega))) ?_
  refine lv_aload_n C.x C.b dL_law_652 rfl (lv_at hl 3 rfl) ?_
  obtain ⟨k, z1, z2, r, S2, c2, L2, ⟨hmw, hmm⟩, hsE, hLI, hr01⟩ := s_lie2 C.O hA hB hJl hJ h (xs (i + 1))
  refine z_SW (As := [.ref (G.h + 0), .int (xs (i + 1)), .ref (G.h + 275)]) (rest := []) C hw hl hmw iwL_128 rfl rfl ⟨(Nat.le_of_ble_eq_true rfl), (Nat.le_of_ble_eq_true rfl)⟩ (Nat.le_of_ble_eq_true rfl) ⟨hc1, hc2⟩ dL_law_653 (fun H locs hw => ?_)
  refine lv_istore (lv' := [(5, .int (nI k)), (0, .ref b), (1, .ref (G.h + 0)), (2, .ref (G.h + 272)), (3, .ref (G.h + 275)), (4, .int (nI i))]) C.x C.b dL_law_656 hl (by decide) rfl (fun ls hl => ?_)
  refine lv_aload_n C.x C.b dL_law_658 rfl (lv_at hl 3 rfl) ?_
  refine lv_aload_n C.x C.b dL_law_659 rfl (lv_at hl 1 rfl) ?_
  refine lv_iload C.x C.b dL_law_660 (lv_at hl 5 rfl) ?_
  refine lv_iconst (v := 1) C.x C.b dL_law_662 (by decide) ?_
  refine lv_iadd C.x C.b dL_law_663 ?_
  refine z_topi (y := nI (i + 1)) (by rw [zlit 1, nI_add]) ?_
  refine va_sld C.x C.b hX hbl hbA hw.2 (i := nI (i + 1)) (vp_in_nI (by omega) (by omega)) dL_law_664 ?_
  refine z_topi (y := xs (i + 1)) (congrArg xs (nI_clamp (by omega))) ?_
  refine z_Vv (As := [.int (xs (i + 1))]) (rest := []) C hw hl hmm ivL_130 hB.lt (hB.at _ _) rfl rfl ⟨(Nat.le_of_ble_eq_true rfl), (Nat.le_of_ble_eq_true rfl)⟩ (Nat.le_of_ble_eq_true rfl) ⟨by show cells + 1 ≤ 601024; omega, by show slots + 6 ≤ 7293034; omega⟩ dL_law_665 (fun H locs hw => ?_)
  refine lv_istore (lv' := [(6, .int r), (5, .int (nI k)), (0, .ref b), (1, .ref (G.h + 0)), (2, .ref (G.h + 272)), (3, .ref (G.h + 275)), (4, .int (nI i))]) C.x C.b dL_law_668 hl (by decide) rfl (fun ls hl => ?_)
  refine lv_aload_n C.x C.b dL_law_670 rfl (lv_at hl 4 rfl) ?_
  refine z_Vv (As := []) (rest := []) C hw hl (m_X4_thrown C.O z2 hB hsE.2.1) ivL_97 hB.lt (hB.at _ _) rfl rfl ⟨(Nat.le_of_ble_eq_true rfl), (Nat.le_of_ble_eq_true rfl)⟩ (Nat.le_of_ble_eq_true rfl) ⟨by show cells + 1 ≤ 601024; omega, by show slots + 6 ≤ 7293034; omega⟩ dL_law_671 (fun H locs hw => ?_)
  refine lv_iload C.x C.b dL_law_674 (lv_at hl 1 rfl) ?_
  refine lv_icmp_eq (tgt := 681) C.x C.b dL_law_676 (by decide) (fun c_676 => ?_) (fun c_676 => absurd (rfl) c_676)
  refine lv_iload C.x C.b dL_law_681 (lv_at hl 1 rfl) ?_
  refine z_pc (pc2 := 683) rfl ?_
  refine lv_if_ne (tgt := 705) C.x C.b dL_law_683 (by decide) (fun c_683 => ?_) (fun c_683 => ?_)
  · refine lv_goto (tgt := 1596) C.x C.b dL_law_705 (by decide) ?_
    exact kk z2 S2 c2 L2 _ _ _ hLI hw (lv_sub hl [2, 3, 4, 5, 6] rfl)
  · refine lv_aload_n C.x C.b dL_law_686 rfl (lv_at hl 5 rfl) ?_
    refine lv_iconst (v := 0) C.x C.b dL_law_687 (by decide) ?_
    refine z_lald C hw hJl hJ ((zvin (x := 0) (by omega) (by omega))) dL_law_688 ?_
    have hk0 : k = 0 := zzero (by have := hsE.1; omega) c_683
    refine z_topl (y := r.toInt64) (hsE.2.2 hk0) ?_
    refine lv_iload C.x C.b dL_law_689 (lv_at hl 0 rfl) ?_
    refine lv_if_eq (tgt := 698) C.x C.b dL_law_691 (by decide) (fun c_691 => ?_) (fun c_691 => ?_)
    · refine lv_lconst (v := 0) C.x C.b dL_law_698 (by decide) ?_
      refine z_topl (y := r.toInt64) (by rw [c_691]; rfl) ?_
      refine W.lcmp C.x C.b dL_law_699 ?_
      refine lv_if_eq (tgt := 705) C.x C.b dL_law_700 (by decide) (fun c_700 => ?_) (fun c_700 => absurd (lg_cmp_self _) c_700)
      refine lv_goto (tgt := 1596) C.x C.b dL_law_705 (by decide) ?_
      exact kk z2 S2 c2 L2 _ _ _ hLI hw (lv_sub hl [2, 3, 4, 5, 6] rfl)
    · refine lv_lconst (v := 1) C.x C.b dL_law_694 (by decide) ?_
      refine lv_goto (tgt := 699) C.x C.b dL_law_695 (by decide) ?_
      refine z_topl (y := r.toInt64) (by rw [hr01.elim (fun q => absurd q c_691) id]; rfl) ?_
      refine W.lcmp C.x C.b dL_law_699 ?_
      refine lv_if_eq (tgt := 705) C.x C.b dL_law_700 (by decide) (fun c_700 => ?_) (fun c_700 => absurd (lg_cmp_self _) c_700)
      refine lv_goto (tgt := 1596) C.x C.b dL_law_705 (by decide) ?_
      exact kk z2 S2 c2 L2 _ _ _ hLI hw (lv_sub hl [2, 3, 4, 5, 6] rfl)

theorem k_queued {p : Program} {l : Launch} {e : Env} {s : State} {m : MethodId} {args : Array Value} {below : List Frame} {meth : Method} {c : Code} {H : Heap} {locs : List Loc} {cells slots : Nat} {Q : State → Prop} {ls : Array Slot} {G : zG} {N : Nat} {Λ : zLay} {z : zM} (C : zC G l p s m meth c cL_law 7 RL (some .boolean)) (hA : zPo G N Λ) (hB : zMo G N Λ) (hJl : 275 < N) (hJ : zJA G Λ 275 1) {b L : Nat} {xs : Nat → Int32} (hX : va_X b L xs s s.heap) (hbl : b < s.heap.size) (hbA : ¬ zA G b) {i : Nat} (hi : i + 4 ≤ L) (hL : L ≤ 2048) {S : aS} {cn : Nat} {Lf : Nat → aS} (h : LI z S cn Lf) (hw : zS G N Λ z s H locs) (hl : lv_has ls 7 [(0, .ref b), (1, .ref (G.h + 0)), (2, .ref (G.h + 272)), (3, .ref (G.h + 275)), (4, .int (nI i))]) (hc1 : cells + 1 ≤ 601024) (hc2 : slots + 6 ≤ 7293034)
    (kk : ∀ (z' : zM) (S' : aS) (cn' : Nat) (Lf' : Nat → aS) (H : Heap) (locs : List Loc) (ls : Array Slot), LI z' S' cn' Lf' → zS G N Λ z' s H locs → lv_has ls 7 [(0, .ref b), (1, .ref (G.h + 0)), (2, .ref (G.h + 272)), (3, .ref (G.h + 275)), (4, .int (nI i))] → W p l e room_1 s m args below meth c H locs (cells + 1) (slots + 6) Q (F0 m 1596 ls [])) : W p l e room_1 s m args below meth c H locs cells slots Q (F0 m 380 ls []) := by
  refine lv_aload_n C.x C.b dL_law_380 rfl (lv_at hl 1 rfl) ?_
  obtain ⟨z1, z2, r, S2, c2, L2, ⟨hmw, hmm⟩, hLI⟩ := s_queued C.O hA hB hJl hJ h
  refine z_Vv (As := []) (rest := []) C hw hl hmw ivL_111 hA.lt (hA.at _ _) rfl rfl ⟨(Nat.le_of_ble_eq_true rfl), (Nat.le_of_ble_eq_true rfl)⟩ (Nat.le_of_ble_eq_true rfl) ⟨by show cells ≤ 601024; omega, by show slots ≤ 7293034; omega⟩ dL_law_381 (fun H locs hw => ?_)
  refine lv_aload_n C.x C.b dL_law_384 rfl (lv_at hl 2 rfl) ?_
  refine z_Vv (As := []) (rest := [.int r]) C hw hl hmm ivL_114 hB.lt (hB.at _ _) rfl rfl ⟨(Nat.le_of_ble_eq_true rfl), (Nat.le_of_ble_eq_true rfl)⟩ (Nat.le_of_ble_eq_true rfl) ⟨by show cells ≤ 601024; omega, by show slots ≤ 7293034; omega⟩ dL_law_385 (fun H locs hw => ?_)
  refine lv_icmp_eq (tgt := 1596) C.x C.b dL_law_388 (by decide) (fun c_388 => ?_) (fun c_388 => absurd (rfl) c_388)
  refine z_wid (k := cells + 1) (n := slots + 6) (by omega) (by omega) ?_
  exact kk z2 S2 c2 L2 _ _ _ hLI hw (lv_sub hl [0, 1, 2, 3, 4] rfl)

theorem k_auditAll {p : Program} {l : Launch} {e : Env} {s : State} {m : MethodId} {args : Array Value} {below : List Frame} {meth : Method} {c : Code} {H : Heap} {locs : List Loc} {cells slots : Nat} {Q : State → Prop} {ls : Array Slot} {G : zG} {N : Nat} {Λ : zLay} {z : zM} (C : zC G l p s m meth c cL_law 7 RL (some .boolean)) (hA : zPo G N Λ) (hB : zMo G N Λ) (hJl : 275 < N) (hJ : zJA G Λ 275 1) {b L : Nat} {xs : Nat → Int32} (hX : va_X b L xs s s.heap) (hbl : b < s.heap.size) (hbA : ¬ zA G b) {i : Nat} (hi : i + 4 ≤ L) (hL : L ≤ 2048) {S : aS} {cn : Nat} {Lf : Nat → aS} (h : LI z S cn Lf) (hw : zS G N Λ z s H locs) (hl : lv_has ls 7 [(0, .ref b), (1, .ref (G.h + 0)), (2, .ref (G.h + 272)), (3, .ref (G.h + 275)), (4, .int (nI i))]) (hc1 : cells + 1 ≤ 601024) (hc2 : slots + 6 ≤ 7293034)
    (kk : ∀ (z' : zM) (S' : aS) (cn' : Nat) (Lf' : Nat → aS) (H : Heap) (locs : List Loc) (ls : Array Slot), LI z' S' cn' Lf' → zS G N Λ z' s H locs → lv_has ls 7 [(0, .ref b), (1, .ref (G.h + 0)), (2, .ref (G.h + 272)), (3, .ref (G.h + 275)), (4, .int (nI i))] → W p l e room_1 s m args below meth c H locs (cells + 1) (slots + 6) Q (F0 m 1596 ls [])) : W p l e room_1 s m args below meth c H locs cells slots Q (F0 m 1320 ls []) := by
  refine lv_aload_n C.x C.b dL_law_1320 rfl (lv_at hl 1 rfl) ?_
  obtain ⟨z1, z2, r, S2, c2, L2, ⟨hmw, hmm⟩, hLI⟩ := s_auditAll C.O hA hB hJl hJ h
  refine z_Vv (As := []) (rest := []) C hw hl hmw ivL_159 hA.lt (hA.at _ _) rfl rfl ⟨(Nat.le_of_ble_eq_true rfl), (Nat.le_of_ble_eq_true rfl)⟩ (Nat.le_of_ble_eq_true rfl) ⟨by show cells ≤ 601024; omega, by show slots ≤ 7293034; omega⟩ dL_law_1321 (fun H locs hw => ?_)
  refine lv_aload_n C.x C.b dL_law_1324 rfl (lv_at hl 2 rfl) ?_
  refine z_Vv (As := []) (rest := [.int r]) C hw hl hmm ivL_162 hB.lt (hB.at _ _) rfl rfl ⟨(Nat.le_of_ble_eq_true rfl), (Nat.le_of_ble_eq_true rfl)⟩ (Nat.le_of_ble_eq_true rfl) ⟨by show cells ≤ 601024; omega, by show slots ≤ 7293034; omega⟩ dL_law_1325 (fun H locs hw => ?_)
  refine lv_icmp_eq (tgt := 1596) C.x C.b dL_law_1328 (by decide) (fun c_1328 => ?_) (fun c_1328 => absurd (rfl) c_1328)
  refine z_wid (k := cells + 1) (n := slots + 6) (by omega) (by omega) ?_
  exact kk z2 S2 c2 L2 _ _ _ hLI hw (lv_sub hl [0, 1, 2, 3, 4] rfl)

theorem k_evidenceCount {p : Program} {l : Launch} {e : Env} {s : State} {m : MethodId} {args : Array Value} {below : List Frame} {meth : Method} {c : Code} {H : Heap} {locs : List Loc} {cells slots : Nat} {Q : State → Prop} {ls : Array Slot} {G : zG} {N : Nat} {Λ : zLay} {z : zM} (C : zC G l p s m meth c cL_law 7 RL (some .boolean)) (hA : zPo G N Λ) (hB : zMo G N Λ) (hJl : 275 < N) (hJ : zJA G Λ 275 1) {b L : Nat} {xs : Nat → Int32} (hX : va_X b L xs s s.heap) (hbl : b < s.heap.size) (hbA : ¬ zA G b) {i : Nat} (hi : i + 4 ≤ L) (hL : L ≤ 2048) {S : aS} {cn : Nat} {Lf : Nat → aS} (h : LI z S cn Lf) (hw : zS G N Λ z s H locs) (hl : lv_has ls 7 [(0, .ref b), (1, .ref (G.h + 0)), (2, .ref (G.h + 272)), (3, .ref (G.h + 275)), (4, .int (nI i))]) (hc1 : cells + 1 ≤ 601024) (hc2 : slots + 6 ≤ 7293034)
    (kk : ∀ (z' : zM) (S' : aS) (cn' : Nat) (Lf' : Nat → aS) (H : Heap) (locs : List Loc) (ls : Array Slot), LI z' S' cn' Lf' → zS G N Λ z' s H locs → lv_has ls 7 [(0, .ref b), (1, .ref (G.h + 0)), (2, .ref (G.h + 272)), (3, .ref (G.h + 275)), (4, .int (nI i))] → W p l e room_1 s m args below meth c H locs (cells + 1) (slots + 6) Q (F0 m 1596 ls [])) : W p l e room_1 s m args below meth c H locs cells slots Q (F0 m 1457 ls []) := by
  refine lv_aload_n C.x C.b dL_law_1457 rfl (lv_at hl 1 rfl) ?_
  obtain ⟨z1, z2, r, S2, c2, L2, ⟨hmw, hmm⟩, hLI⟩ := s_evidenceCount C.O hA hB hJl hJ h
  refine z_Vv (As := []) (rest := []) C hw hl hmw ivL_169 hA.lt (hA.at _ _) rfl rfl ⟨(Nat.le_of_ble_eq_true rfl), (Nat.le_of_ble_eq_true rfl)⟩ (Nat.le_of_ble_eq_true rfl) ⟨by show cells ≤ 601024; omega, by show slots ≤ 7293034; omega⟩ dL_law_1458 (fun H locs hw => ?_)
  refine lv_aload_n C.x C.b dL_law_1461 rfl (lv_at hl 2 rfl) ?_
  refine z_Vv (As := []) (rest := [.int r]) C hw hl hmm ivL_172 hB.lt (hB.at _ _) rfl rfl ⟨(Nat.le_of_ble_eq_true rfl), (Nat.le_of_ble_eq_true rfl)⟩ (Nat.le_of_ble_eq_true rfl) ⟨by show cells ≤ 601024; omega, by show slots ≤ 7293034; omega⟩ dL_law_1462 (fun H locs hw => ?_)
  refine lv_icmp_eq (tgt := 1596) C.x C.b dL_law_1465 (by decide) (fun c_1465 => ?_) (fun c_1465 => absurd (rfl) c_1465)
  refine z_wid (k := cells + 1) (n := slots + 6) (by omega) (by omega) ?_
  exact kk z2 S2 c2 L2 _ _ _ hLI hw (lv_sub hl [0, 1, 2, 3, 4] rfl)

theorem k_digest {p : Program} {l : Launch} {e : Env} {s : State} {m : MethodId} {args : Array Value} {below : List Frame} {meth : Method} {c : Code} {H : Heap} {locs : List Loc} {cells slots : Nat} {Q : State → Prop} {ls : Array Slot} {G : zG} {N : Nat} {Λ : zLay} {z : zM} (C : zC G l p s m meth c cL_law 7 RL (some .boolean)) (hA : zPo G N Λ) (hB : zMo G N Λ) (hJl : 275 < N) (hJ : zJA G Λ 275 1) {b L : Nat} {xs : Nat → Int32} (hX : va_X b L xs s s.heap) (hbl : b < s.heap.size) (hbA : ¬ zA G b) {i : Nat} (hi : i + 4 ≤ L) (hL : L ≤ 2048) {S : aS} {cn : Nat} {Lf : Nat → aS} (h : LI z S cn Lf) (hw : zS G N Λ z s H locs) (hl : lv_has ls 7 [(0, .ref b), (1, .ref (G.h + 0)), (2, .ref (G.h + 272)), (3, .ref (G.h + 275)), (4, .int (nI i))]) (hc1 : cells + 1 ≤ 601024) (hc2 : slots + 6 ≤ 7293034)
    (kk : ∀ (z' : zM) (S' : aS) (cn' : Nat) (Lf' : Nat → aS) (H : Heap) (locs : List Loc) (ls : Array Slot), LI z' S' cn' Lf' → zS G N Λ z' s H locs → lv_has ls 7 [(0, .ref b), (1, .ref (G.h + 0)), (2, .ref (G.h + 272)), (3, .ref (G.h + 275)), (4, .int (nI i))] → W p l e room_1 s m args below meth c H locs (cells + 1) (slots + 6) Q (F0 m 1596 ls [])) : W p l e room_1 s m args below meth c H locs cells slots Q (F0 m 1582 ls []) := by
  refine lv_aload_n C.x C.b dL_law_1582 rfl (lv_at hl 1 rfl) ?_
  obtain ⟨z1, z2, r, S2, c2, L2, ⟨hmw, hmm⟩, hLI⟩ := s_digest C.O hA hB hJl hJ h
  refine z_Vv (As := []) (rest := []) C hw hl hmw ivL_179 hA.lt (hA.at _ _) rfl rfl ⟨(Nat.le_of_ble_eq_true rfl), (Nat.le_of_ble_eq_true rfl)⟩ (Nat.le_of_ble_eq_true rfl) ⟨by show cells ≤ 601024; omega, by show slots ≤ 7293034; omega⟩ dL_law_1583 (fun H locs hw => ?_)
  refine lv_aload_n C.x C.b dL_law_1586 rfl (lv_at hl 2 rfl) ?_
  refine z_Vv (As := []) (rest := [.long r]) C hw hl hmm ivL_183 hB.lt (hB.at _ _) rfl rfl ⟨(Nat.le_of_ble_eq_true rfl), (Nat.le_of_ble_eq_true rfl)⟩ (Nat.le_of_ble_eq_true rfl) ⟨by show cells ≤ 601024; omega, by show slots ≤ 7293034; omega⟩ dL_law_1587 (fun H locs hw => ?_)
  refine W.lcmp C.x C.b dL_law_1590 ?_
  refine lv_if_eq (tgt := 1596) C.x C.b dL_law_1591 (by decide) (fun c_1591 => ?_) (fun c_1591 => absurd (lg_cmp_self _) c_1591)
  refine z_wid (k := cells + 1) (n := slots + 6) (by omega) (by omega) ?_
  exact kk z2 S2 c2 L2 _ _ _ hLI hw (lv_sub hl [0, 1, 2, 3, 4] rfl)
