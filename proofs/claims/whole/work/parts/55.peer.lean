/-! ===== PeerAudit's constructor ===== -/
theorem pfX3_12 : zPutF RX3 12 3 0 (.object RX2) := ⟨RX3, TX3, 4, tyX3, rfl, by decide, ⟨by decide +kernel, rfl⟩, rfl, rfl, rfl, by decide +kernel, zlayX3, tyX3_ok, nmX3⟩
theorem pfX3_20 : zPutF RX3 20 3 1 (.array (.object RX2)) := ⟨RX3, TX3, 4, tyX3, rfl, by decide, ⟨by decide +kernel, rfl⟩, rfl, rfl, rfl, by decide +kernel, zlayX3, tyX3_ok, nmX3⟩
theorem zniX2 : zW (.instantiable RX2 4) := ⟨by decide +kernel, rfl⟩
theorem znjX2 : zW (.initialized RX2) := ⟨by decide +kernel, rfl⟩
theorem znlX3_9 : zW (.classLink RX3 9 RX2) := ⟨by decide +kernel, rfl⟩
theorem iiX3_11 : zIi RX3 11 yX2_init cX2_init 2 0 := ⟨⟨by decide +kernel, rfl⟩, ⟨by decide +kernel, rfl⟩, ⟨by decide +kernel, rfl⟩, ⟨by decide +kernel, rfl⟩, rfl, ⟨by decide, by decide⟩, by decide +kernel⟩
def zF0p : va_E := .inr (3, [.null, .null, .int 0, .int 0])
/-- while it is made: its own cell is not yet as it will be -/
def lP1 (G : zG) : zLay := fun i f τ => if i = 0 then .inr (3, [.ref (G.h + 1), .null, .int 0, .int 0]) else lP G i f τ
theorem lP1_w {G : zG} : zWo G 55 (lP1 G) 1 := zWo_of (by omega) (fun j hj f τ => by unfold lP1; rw [if_neg (by omega), lP_w hj])
/-- while the ring's worlds are made: k of them stand -/
def gS (G : zG) (k : Nat) : Nat → Option Nat := fun j => if k ≤ j ∧ j < 4 then none else some (G.h + (56 + 54 * j))
def pS (G : zG) (k : Nat) : Nat → va_E := fun j =>
  if j = 0 then .inr (3, [.ref (G.h + 1), .ref (G.h + 55), .int 0, .int 0])
  else if j = 55 then .inl (G.cW, 4, .inr (.inr (.inr (.inr (gS G k)))))
  else zL (lP G) zb1 j
theorem pS_0 {G : zG} {k : Nat} : pS G k 0 = .inr (3, [.ref (G.h + 1), .ref (G.h + 55), .int 0, .int 0]) := by
  unfold pS; rw [if_pos rfl]
theorem pS_55 {G : zG} {k : Nat} : pS G k 55 = .inl (G.cW, 4, .inr (.inr (.inr (.inr (gS G k))))) := by
  unfold pS; rw [if_neg (by omega), if_pos rfl]
theorem gS_step {G : zG} {k : Nat} (hk : k < 4) : va_up (gS G k) k (some (G.h + (56 + 54 * k))) = gS G (k + 1) := by
  funext j
  rw [va_upd]
  unfold gS
  by_cases h : j = k
  · subst h; rw [if_pos rfl, if_neg (by omega)]
  · rw [if_neg h]
    by_cases h2 : k ≤ j ∧ j < 4
    · rw [if_pos h2, if_pos (by omega)]
    · rw [if_neg h2, if_neg (by omega)]
theorem gS_4 {G : zG} : gS G 4 = fun j => some (G.h + (56 + 54 * j)) := by
  funext j
  unfold gS
  rw [if_neg (by omega)]
theorem pS_step {G : zG} {k : Nat} (hk : k < 4) (j : Nat) (hj : j < 56 + 54 * k + 54) : va_up (fun j => if j < 56 + 54 * k then pS G k j else lW G (56 + 54 * k) (j - (56 + 54 * k)) (fun _ => 0)) 55 (.inl (G.cW, 4, .inr (.inr (.inr (.inr (va_up (gS G k) k (some (G.h + (56 + 54 * k))))))))) j = pS G (k + 1) j := by
  rw [gS_step hk, va_upd]
  by_cases h1 : j = 55
  · subst h1; rw [if_pos rfl, pS_55]
  · rw [if_neg h1]
    by_cases h2 : j < 56 + 54 * k
    · rw [if_pos h2]
      unfold pS
      rw [if_neg h1, if_neg h1]
    · rw [if_neg h2]
      unfold pS
      rw [if_neg (by omega), if_neg h1]
      unfold zL
      rw [zb1_n (by omega)]
      obtain ⟨i, hi, rfl⟩ : ∃ i, i < 54 ∧ j = 56 + 54 * k + i := ⟨j - (56 + 54 * k), by omega, by omega⟩
      rw [lP_s hk hi, Nat.add_sub_cancel_left]
theorem pS_end {G : zG} (j : Nat) : pS G 4 j = zL (lP G) zb1 j := by
  unfold pS zL
  by_cases h0 : j = 0
  · subst h0
    rw [if_pos rfl, zb1_n (Or.inl rfl), lP_0]
  · rw [if_neg h0]
    by_cases h1 : j = 55
    · subst h1
      rw [if_pos rfl, gS_4, lP_55]
    · rw [if_neg h1]
set_option maxHeartbeats 4000000 in
theorem n_peer {G : zG} {l : Launch} (hO : zOK G l) (hAr : zAr G) (hAo : zAo G) {F : Nat → va_E} : zNw G l yX3_init cX3_init 2 5 271 18704 [.ref (G.h + 0)] 1 (va_up F 0 zF0p) 272 (zL (lP G) zb1) := by
  refine zNw_of hO (by decide) (Nat.le_of_ble_eq_true rfl) ?_
  intro pP eE sS mM bB tT cC ls C hnm hw hz hl
  have hl : lv_has ls 2 [(0, .ref (G.h + 0))] := hl
  refine lv_aload_n C.x C.b dX3_init_0 rfl (lv_at hl 0 rfl) ?_
  refine zn_obj C hl zobX3 dX3_init_1 (Nat.le_of_ble_eq_true rfl) (Nat.le_of_ble_eq_true rfl) ?_
  refine lv_aload_n C.x C.b dX3_init_4 rfl (lv_at hl 0 rfl) ?_
  refine zn_new (ci := 2) C hw (fun q h => Nat.le_trans C.E.2.1 h) (fs := [.int 0, .null, .null, .null]) zlayX2 tyX2 tyX2_ok znlX3_9 zniX2 znjX2 rfl (fun j hj => by rcases (show j = 0 ∨ j = 1 ∨ j = 2 ∨ j = 3 by omega) with rfl | rfl | rfl | rfl <;> rfl) (Nat.le_of_ble_eq_true rfl) (Nat.le_of_ble_eq_true rfl) dX3_init_5 (fun H hw => ?_)
  have hw : zN G (1 + 1) (va_up (va_up F 0 zF0p) 1 zF0w) sS H [] := hw
  refine lv_dup C.x C.b dX3_init_8 rfl ?_
  refine zn_call (As := []) (i := 1) C hw hl (n_world hO hAr hAo (b := 1)) iiX3_11 rfl rfl ⟨Nat.le_of_ble_eq_true rfl, Nat.le_of_ble_eq_true rfl⟩ (Nat.le_of_ble_eq_true rfl) ⟨Nat.le_of_ble_eq_true rfl, Nat.le_of_ble_eq_true rfl⟩ dX3_init_9 (fun H locs h => ?_)
  refine zn_size h.1 (by omega) (by omega) (fun hs => ?_)
  have hw : zN G 55 (fun j => if j < 1 then va_up F 0 zF0p j else lW G 1 (j - 1) (fun _ => 0)) sS H locs := ⟨⟨h.1, hs⟩, h.2⟩
  refine zn_put (i := 0) C hnm hw (by omega) (by show (if _ then _ else _) = _; rw [if_pos (by omega), va_up_self]; rfl) pfX3_12 rfl rfl (Nat.le_of_ble_eq_true rfl) dX3_init_12 (fun H locs hw => ?_)
  have hw : zN G 55 (zL (lP1 G) zb0) sS H locs := hw.cg (fun j hj => by
    unfold zL
    by_cases h0 : j = 0
    · subst h0
      rw [va_up_self]
      unfold lP1
      rw [if_pos rfl]
      rfl
    · rw [va_up_ne _ _ h0, if_neg (by omega)]
      unfold lP1
      rw [if_neg h0]
      obtain ⟨i, hi, rfl⟩ : ∃ i, i < 54 ∧ j = 1 + i := ⟨j - 1, by omega, by omega⟩
      rw [lP_w hi, Nat.add_sub_cancel_left]
      rfl)
  refine lv_aload_n C.x C.b dX3_init_15 rfl (lv_at hl 0 rfl) ?_
  refine zn_get (i := 0) (fs := [.ref (G.h + 1), .null, .int 0, .int 0]) C hw (by omega) (by unfold zL lP1; rw [if_pos rfl]) flX3_12 rfl dX3_init_16 ?_
  refine lv_iconst (v := 3) C.x C.b dX3_init_19 (by decide) ?_
  have hwS : zS G 55 (lP1 G) zb0 sS H locs := ⟨hw.1.1, hw.2⟩
  refine z_V0 (As := [.int 3]) (rest := []) (i := 1) C hwS hl (m_X2_begin hO zb0 lP1_w (zb0_all 1) (n := 3) (by omega)) ivX3_16 (by omega) (lP1_w.at _ _) rfl rfl ⟨Nat.le_of_ble_eq_true rfl, Nat.le_of_ble_eq_true rfl⟩ (Nat.le_of_ble_eq_true rfl) ⟨Nat.le_of_ble_eq_true rfl, Nat.le_of_ble_eq_true rfl⟩ dX3_init_20 (fun H locs hwS => ?_)
  have hPS : va_P G.D vwCl (zpl G.h 55 (zL (lP1 G) zb1)) H := hwS.1
  refine zn_size hPS (by omega) (by omega) (fun hs => ?_)
  have hw : zN G 55 (zL (lP1 G) zb1) sS H locs := ⟨⟨hPS, hs⟩, hwS.2⟩
  refine lv_aload_n C.x C.b dX3_init_23 rfl (lv_at hl 0 rfl) ?_
  refine lv_iconst (v := 4) C.x C.b dX3_init_24 (by decide) ?_
  refine zn_anew (M := 4) C hw znlX3_9 (hAo.W C.E) (hAr.W C.E) (by decide) (by decide) (by decide) (Nat.le_of_ble_eq_true rfl) (Nat.le_of_ble_eq_true rfl) dX3_init_25 (fun H hw => ?_)
  have hw := hw.cq (f := gS G 0) (fun k hk => by unfold gS; rw [if_pos (by omega)])
  refine zn_put (i := 0) (fs := [.ref (G.h + 1), .null, .int 0, .int 0]) C hnm hw (by omega) (by rw [va_up_ne _ _ (by omega)]; unfold zL lP1; rw [if_pos rfl]) pfX3_20 rfl rfl (Nat.le_of_ble_eq_true rfl) dX3_init_28 (fun H locs hw => ?_)
  have hw : zN G (56 + 54 * 0) (pS G 0) sS H locs := hw.cg (fun j hj => by
    by_cases h0 : j = 0
    · subst h0
      rw [va_up_self, pS_0]
      rfl
    · rw [va_up_ne _ _ h0]
      by_cases h1 : j = 55
      · subst h1
        rw [va_up_self, pS_55]
      · rw [va_up_ne _ _ h1]
        unfold zL lP1 pS zL
        rw [if_neg h0, if_neg h0, if_neg h1])
  refine lv_iconst (v := 0) C.x C.b dX3_init_31 (by decide) ?_
  refine lv_istore_n (lv' := [(1, .int 0), (0, .ref (G.h + 0))]) C.x C.b dX3_init_32 rfl hl (by decide) rfl (fun ls hl => ?_)
  have loop : ∀ (d : Nat) (k : Nat) (H : Heap) (locs : List Loc) (ls : Array Slot) (hj : k + d = 4), zN G (56 + 54 * k) (pS G k) sS H locs → lv_has ls 2 [(0, .ref (G.h + 0)), (1, .int (nI k))] → W pP l eE (zRn 5 271 18704) sS mM ([.ref (G.h + 0)] : List Value).toArray bB tT cC H locs (55 + 54 * k) (3744 + 3740 * k) (MQ bB (zQn G 272 (zL (lP G) zb1)) ([.ref (G.h + 0)] : List Value).toArray sS 271 18704 (zA G)) (F0 mM 33 ls []) := by
    intro d
    induction d with
    | zero =>
      intro k H locs ls hj hw hl
      obtain rfl : k = 4 := by omega
      refine lv_iload_n C.x C.b dX3_init_33 rfl (lv_at hl 1 rfl) ?_
      refine lv_iconst (v := 4) C.x C.b dX3_init_34 (by decide) ?_
      refine lv_icmp_ge (tgt := 57) C.x C.b dX3_init_35 (by decide) (fun c_18 => ?_) (fun c_18 => absurd (zle (a := 4) (b := 4) (by omega) (by omega)) c_18)
      have hw : zN G 272 (zL (lP G) zb1) sS H locs := hw.cg (fun j hj => pS_end j)
      exact zn_vret C hw dX3_init_57
    | succ d ih =>
      intro k H locs ls hj hw hl
      have hk : k < 4 := by omega
      refine lv_iload_n C.x C.b dX3_init_33 rfl (lv_at hl 1 rfl) ?_
      refine lv_iconst (v := 4) C.x C.b dX3_init_34 (by decide) ?_
      refine lv_icmp_ge (tgt := 57) C.x C.b dX3_init_35 (by decide) (fun c_18 => absurd c_18 (znle (a := k) (b := 4) (by omega) (by omega))) (fun c_18 => ?_)
      refine lv_aload_n C.x C.b dX3_init_38 rfl (lv_at hl 0 rfl) ?_
      refine zn_get (i := 0) C hw (by omega) pS_0 flX3_20 rfl dX3_init_39 ?_
      refine lv_iload_n C.x C.b dX3_init_42 rfl (lv_at hl 1 rfl) ?_
      refine zn_new (ci := 2) C hw (fun q h => Nat.le_trans C.E.2.1 h) (fs := [.int 0, .null, .null, .null]) zlayX2 tyX2 tyX2_ok znlX3_9 zniX2 znjX2 rfl (fun j hj => by rcases (show j = 0 ∨ j = 1 ∨ j = 2 ∨ j = 3 by omega) with rfl | rfl | rfl | rfl <;> rfl) (by show _ ≤ 271; omega) (by show _ ≤ 18704; omega) dX3_init_43 (fun H hw => ?_)
      have hw : zN G (56 + 54 * k + 1) (va_up (pS G k) (56 + 54 * k) zF0w) sS H locs := hw
      refine lv_dup C.x C.b dX3_init_46 rfl ?_
      refine zn_call (As := []) (i := 56 + 54 * k) C hw hl (n_world hO hAr hAo (b := 56 + 54 * k)) iiX3_11 rfl rfl ⟨Nat.le_of_ble_eq_true rfl, Nat.le_of_ble_eq_true rfl⟩ (Nat.le_of_ble_eq_true rfl) ⟨by show _ ≤ 271; omega, by show _ ≤ 18704; omega⟩ dX3_init_47 (fun H locs h => ?_)
      refine zn_size h.1 (by omega) (by omega) (fun hs => ?_)
      have hw : zN G (56 + 54 * k + 54) (fun j => if j < 56 + 54 * k then pS G k j else lW G (56 + 54 * k) (j - (56 + 54 * k)) (fun _ => 0)) sS H locs := ⟨⟨h.1, hs⟩, h.2⟩
      refine zn_aast (t0 := 3) (a0 := 55) (qk := 56 + 54 * k) (r := (RX2, TX2, 4)) (ci := 2) (n := 4) (f := gS G k) C hw (by omega) (by show (if _ then _ else _) = _; rw [if_pos (by omega), pS_55]) rfl (by omega) (by show (if _ then _ else _) = _; rw [if_neg (by omega), Nat.sub_self]; rfl) rfl (zvin hk (by omega)) dX3_init_50 (fun H locs hw => ?_)
      rw [zcl hk (by omega)] at hw
      have hw : zN G (56 + 54 * (k + 1)) (pS G (k + 1)) sS H locs := hw.cg (fun j hj => pS_step hk j (by omega))
      refine lv_iinc (v := nI (k + 1)) (lv' := [(1, .int (nI (k + 1))), (0, .ref (G.h + 0))]) C.x C.b dX3_init_51 hl (k := 1) rfl (by show nI k + nI 1 = _; rw [nI_add]) (by decide) rfl (fun ls hl => ?_)
      refine lv_goto (tgt := 33) C.x C.b dX3_init_54 (by decide) ?_
      refine z_wid (k := 55 + 54 * (k + 1)) (n := 3744 + 3740 * (k + 1)) (by omega) (by omega) ?_
      exact ih (k + 1) H locs ls (by omega) hw (lv_sub hl [1, 0] rfl)
  exact loop 4 0 H locs ls rfl hw (lv_sub hl [1, 0] rfl)
