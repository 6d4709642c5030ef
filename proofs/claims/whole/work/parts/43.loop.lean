/-! ===== the law's loop ===== -/
theorem and31 (v : Int32) : ∃ k, k < 32 ∧ v &&& 31 = nI k := by
  have hle : v.toBitVec.toNat &&& 31 ≤ 31 := Nat.and_le_right
  refine ⟨v.toBitVec.toNat &&& 31, by omega, ?_⟩
  apply Int32.toBitVec_inj.mp
  apply BitVec.eq_of_toNat_eq
  rw [Int32.toBitVec_and, BitVec.toNat_and, nI_nat (by omega)]
  rfl
theorem len4 {L i : Nat} (hL : L ≤ 2048) (hi : i < 2 ^ 30) (h : ¬ nI L - 4 < nI i) : i + 4 ≤ L := by
  rcases Nat.lt_or_ge L 4 with q | q
  · have h4 : ∀ L, L < 4 → nI L - 4 < 0 := by decide
    exact absurd (Int32.lt_of_lt_of_le (h4 L q) (znege (by omega))) h
  · rw [zlit 4, zsub q] at h
    have h2 : ¬ L - 4 < i := fun w => h (zlt (by omega) w)
    omega
set_option maxHeartbeats 4000000 in
set_option maxRecDepth 100000 in
theorem law_loop {p : Program} {l : Launch} {e : Env} {s : State} {m : MethodId} {args : Array Value} {below : List Frame} {meth : Method} {c : Code} {Q : State → Prop} {G : zG} {N : Nat} {Λ : zLay} (C : zC G l p s m meth c cL_law 7 RL (some .boolean)) (hA : zPo G N Λ) (hB : zMo G N Λ) (hJl : 275 < N) (hJ : zJA G Λ 275 1) {b L : Nat} {xs : Nat → Int32} (hX : va_X b L xs s s.heap) (hbl : b < s.heap.size) (hbA : ¬ zA G b) (hL : L ≤ 2048)
    (kend : ∀ (H : Heap) (locs : List Loc) (cells slots : Nat) (ls : Array Slot) (z : zM), zS G N Λ z s H locs → cells ≤ 601024 → slots ≤ 7293034 → W p l e room_1 s m args below meth c H locs cells slots Q (F0 m 1602 ls [])) :
    ∀ (n i cells slots : Nat) (z : zM) (S : aS) (cn : Nat) (Lf : Nat → aS) (H : Heap) (locs : List Loc) (ls : Array Slot), L ≤ i + 4 * n → i ≤ 2048 + 4 → cells + n ≤ 601024 → slots + 6 * n ≤ 7293034 → LI z S cn Lf → zS G N Λ z s H locs → lv_has ls 7 [(0, .ref b), (1, .ref (G.h + 0)), (2, .ref (G.h + 272)), (3, .ref (G.h + 275)), (4, .int (nI i))] → W p l e room_1 s m args below meth c H locs cells slots Q (F0 m 23 ls []) := by
  intro n
  induction n with
  | zero =>
    intro i cells slots z S cn Lf H locs ls hn hi hc1 hc2 h hw hl
    refine lv_iload C.x C.b dL_law_23 (lv_at hl 4 rfl) ?_
    refine lv_aload_n C.x C.b dL_law_25 rfl (lv_at hl 0 rfl) ?_
    refine va_slen C.x C.b hX hbl hbA hw.2 dL_law_26 ?_
    refine lv_iconst (v := 4) C.x C.b dL_law_27 (by decide) ?_
    refine lv_isub C.x C.b dL_law_28 ?_
    refine lv_icmp_gt (tgt := 1602) C.x C.b dL_law_29 (by decide) (fun c_29 => ?_) (fun c_29 => ?_)
    · exact kend H locs cells slots ls z hw (by omega) (by omega)
    · have h4 := len4 (i := i) hL (by omega) c_29
      omega
  | succ n ih =>
    intro i cells slots z S cn Lf H locs ls hn hi hc1 hc2 h hw hl
    refine lv_iload C.x C.b dL_law_23 (lv_at hl 4 rfl) ?_
    refine lv_aload_n C.x C.b dL_law_25 rfl (lv_at hl 0 rfl) ?_
    refine va_slen C.x C.b hX hbl hbA hw.2 dL_law_26 ?_
    refine lv_iconst (v := 4) C.x C.b dL_law_27 (by decide) ?_
    refine lv_isub C.x C.b dL_law_28 ?_
    refine lv_icmp_gt (tgt := 1602) C.x C.b dL_law_29 (by decide) (fun c_29 => ?_) (fun c_29 => ?_)
    · exact kend H locs cells slots ls z hw (by omega) (by omega)
    · have h4 : i + 4 ≤ L := len4 (i := i) hL (by omega) c_29
      have hgo : ∀ (z' : zM) (S' : aS) (cn' : Nat) (Lf' : Nat → aS) (H : Heap) (locs : List Loc) (ls : Array Slot), LI z' S' cn' Lf' → zS G N Λ z' s H locs → lv_has ls 7 [(0, .ref b), (1, .ref (G.h + 0)), (2, .ref (G.h + 272)), (3, .ref (G.h + 275)), (4, .int (nI i))] → W p l e room_1 s m args below meth c H locs (cells + 1) (slots + 6) Q (F0 m 1596 ls []) := by
        intro z' S' cn' Lf' H locs ls h' hw hl
        refine lv_iinc (v := nI (i + 4)) (lv' := [(4, .int (nI (i + 4))), (0, .ref b), (1, .ref (G.h + 0)), (2, .ref (G.h + 272)), (3, .ref (G.h + 275))]) C.x C.b dL_law_1596 hl (k := 4) rfl (by show nI i + nI 4 = _; rw [nI_add]) (by decide) rfl (fun ls hl => ?_)
        refine lv_goto (tgt := 23) C.x C.b dL_law_1599 (by decide) ?_
        exact ih (i + 4) (cells + 1) (slots + 6) z' S' cn' Lf' H locs ls (by omega) (by omega) (by omega) (by omega) h' hw (lv_sub hl [1, 2, 3, 4, 0] rfl)
      refine lv_aload_n C.x C.b dL_law_32 rfl (lv_at hl 0 rfl) ?_
      refine lv_iload C.x C.b dL_law_33 (lv_at hl 4 rfl) ?_
      refine va_sld C.x C.b hX hbl hbA hw.2 (i := nI i) (vp_in_nI (by omega) (by omega)) dL_law_35 ?_
      refine lv_bipush (v := 31) C.x C.b dL_law_36 (by decide) ?_
      refine lv_iand C.x C.b dL_law_38 ?_
      obtain ⟨k, hk, ek⟩ := and31 (xs (nI i).toNatClampNeg)
      refine z_topi ek ?_
      rcases Nat.lt_or_ge k 26 with hk26 | hk26
      · match k, hk26 with
        | 0, _ =>
          refine lv_tableIn (off := 117) (tgt := 156) C.x C.b dL_law_39 (by decide) (by decide) (by decide) (by decide) ?_
          exact k_reset C hA hB hJl hJ hX hbl hbA h4 hL h hw hl (by omega) (by omega) hgo
        | 1, _ =>
          refine lv_tableIn (off := 173) (tgt := 212) C.x C.b dL_law_39 (by decide) (by decide) (by decide) (by decide) ?_
          exact k_input C hA hB hJl hJ hX hbl hbA h4 hL h hw hl (by omega) (by omega) hgo
        | 2, _ =>
          refine lv_tableIn (off := 241) (tgt := 280) C.x C.b dL_law_39 (by decide) (by decide) (by decide) (by decide) ?_
          exact k_deliver C hA hB hJl hJ hX hbl hbA h4 hL h hw hl (by omega) (by omega) hgo
        | 3, _ =>
          refine lv_tableIn (off := 285) (tgt := 324) C.x C.b dL_law_39 (by decide) (by decide) (by decide) (by decide) ?_
          exact k_run C hA hB hJl hJ hX hbl hbA h4 hL h hw hl (by omega) (by omega) hgo
        | 4, _ =>
          refine lv_tableIn (off := 341) (tgt := 380) C.x C.b dL_law_39 (by decide) (by decide) (by decide) (by decide) ?_
          exact k_queued C hA hB hJl hJ hX hbl hbA h4 hL h hw hl (by omega) (by omega) hgo
        | 5, _ =>
          refine lv_tableIn (off := 354) (tgt := 393) C.x C.b dL_law_39 (by decide) (by decide) (by decide) (by decide) ?_
          exact k_state C hA hB hJl hJ hX hbl hbA h4 hL h hw hl (by omega) (by omega) hgo
        | 6, _ =>
          refine lv_tableIn (off := 410) (tgt := 449) C.x C.b dL_law_39 (by decide) (by decide) (by decide) (by decide) ?_
          exact k_setSilent C hA hB hJl hJ hX hbl hbA h4 hL h hw hl (by omega) (by omega) hgo
        | 7, _ =>
          refine lv_tableIn (off := 494) (tgt := 533) C.x C.b dL_law_39 (by decide) (by decide) (by decide) (by decide) ?_
          exact k_pending C hA hB hJl hJ hX hbl hbA h4 hL h hw hl (by omega) (by omega) hgo
        | 8, _ =>
          refine lv_tableIn (off := 550) (tgt := 589) C.x C.b dL_law_39 (by decide) (by decide) (by decide) (by decide) ?_
          exact k_resend C hA hB hJl hJ hX hbl hbA h4 hL h hw hl (by omega) (by omega) hgo
        | 9, _ =>
          refine lv_tableIn (off := 606) (tgt := 645) C.x C.b dL_law_39 (by decide) (by decide) (by decide) (by decide) ?_
          exact k_lie C hA hB hJl hJ hX hbl hbA h4 hL h hw hl (by omega) (by omega) hgo
        | 10, _ =>
          refine lv_tableIn (off := 669) (tgt := 708) C.x C.b dL_law_39 (by decide) (by decide) (by decide) (by decide) ?_
          exact k_tamper C hA hB hJl hJ hX hbl hbA h4 hL h hw hl (by omega) (by omega) hgo
        | 11, _ =>
          refine lv_tableIn (off := 749) (tgt := 788) C.x C.b dL_law_39 (by decide) (by decide) (by decide) (by decide) ?_
          exact k_cut C hA hB hJl hJ hX hbl hbA h4 hL h hw hl (by omega) (by omega) hgo
        | 12, _ =>
          refine lv_tableIn (off := 817) (tgt := 856) C.x C.b dL_law_39 (by decide) (by decide) (by decide) (by decide) ?_
          exact k_logLength C hA hB hJl hJ hX hbl hbA h4 hL h hw hl (by omega) (by omega) hgo
        | 13, _ =>
          refine lv_tableIn (off := 873) (tgt := 912) C.x C.b dL_law_39 (by decide) (by decide) (by decide) (by decide) ?_
          exact k_entry C hA hB hJl hJ hX hbl hbA h4 hL h hw hl (by omega) (by omega) hgo
        | 14, _ =>
          refine lv_tableIn (off := 941) (tgt := 980) C.x C.b dL_law_39 (by decide) (by decide) (by decide) (by decide) ?_
          exact k_chain C hA hB hJl hJ hX hbl hbA h4 hL h hw hl (by omega) (by omega) hgo
        | 15, _ =>
          refine lv_tableIn (off := 1009) (tgt := 1048) C.x C.b dL_law_39 (by decide) (by decide) (by decide) (by decide) ?_
          exact k_held C hA hB hJl hJ hX hbl hbA h4 hL h hw hl (by omega) (by omega) hgo
        | 16, _ =>
          refine lv_tableIn (off := 1065) (tgt := 1104) C.x C.b dL_law_39 (by decide) (by decide) (by decide) (by decide) ?_
          exact k_authenticator C hA hB hJl hJ hX hbl hbA h4 hL h hw hl (by omega) (by omega) hgo
        | 17, _ =>
          refine lv_tableIn (off := 1145) (tgt := 1184) C.x C.b dL_law_39 (by decide) (by decide) (by decide) (by decide) ?_
          exact k_setWitnesses C hA hB hJl hJ hX hbl hbA h4 hL h hw hl (by omega) (by omega) hgo
        | 18, _ =>
          refine lv_tableIn (off := 1213) (tgt := 1252) C.x C.b dL_law_39 (by decide) (by decide) (by decide) (by decide) ?_
          exact k_audit C hA hB hJl hJ hX hbl hbA h4 hL h hw hl (by omega) (by omega) hgo
        | 19, _ =>
          refine lv_tableIn (off := 1281) (tgt := 1320) C.x C.b dL_law_39 (by decide) (by decide) (by decide) (by decide) ?_
          exact k_auditAll C hA hB hJl hJ hX hbl hbA h4 hL h hw hl (by omega) (by omega) hgo
        | 20, _ =>
          refine lv_tableIn (off := 1294) (tgt := 1333) C.x C.b dL_law_39 (by decide) (by decide) (by decide) (by decide) ?_
          exact k_verdict C hA hB hJl hJ hX hbl hbA h4 hL h hw hl (by omega) (by omega) hgo
        | 21, _ =>
          refine lv_tableIn (off := 1362) (tgt := 1401) C.x C.b dL_law_39 (by decide) (by decide) (by decide) (by decide) ?_
          exact k_verdictMask C hA hB hJl hJ hX hbl hbA h4 hL h hw hl (by omega) (by omega) hgo
        | 22, _ =>
          refine lv_tableIn (off := 1418) (tgt := 1457) C.x C.b dL_law_39 (by decide) (by decide) (by decide) (by decide) ?_
          exact k_evidenceCount C hA hB hJl hJ hX hbl hbA h4 hL h hw hl (by omega) (by omega) hgo
        | 23, _ =>
          refine lv_tableIn (off := 1431) (tgt := 1470) C.x C.b dL_law_39 (by decide) (by decide) (by decide) (by decide) ?_
          exact k_evidence C hA hB hJl hJ hX hbl hbA h4 hL h hw hl (by omega) (by omega) hgo
        | 24, _ =>
          refine lv_tableIn (off := 1499) (tgt := 1538) C.x C.b dL_law_39 (by decide) (by decide) (by decide) (by decide) ?_
          exact k_undo C hA hB hJl hJ hX hbl hbA h4 hL h hw hl (by omega) (by omega) hgo
        | 25, _ =>
          refine lv_tableIn (off := 1543) (tgt := 1582) C.x C.b dL_law_39 (by decide) (by decide) (by decide) (by decide) ?_
          exact k_digest C hA hB hJl hJ hX hbl hbA h4 hL h hw hl (by omega) (by omega) hgo
        | k + 26, q => exact absurd q (by omega)
      · refine lv_tableOut (tgt := 1596) C.x C.b dL_law_39 (Or.inr (by rw [nI_toInt (by omega)]; omega)) (by decide) ?_
        refine z_wid (k := cells + 1) (n := slots + 6) (by omega) (by omega) ?_
        exact hgo z S cn Lf H locs ls h hw hl
