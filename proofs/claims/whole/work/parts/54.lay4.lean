/-! ===== how all lies: the object, its worlds, the reference, the law's own row ===== -/
def lP (G : zG) : zLay := fun i f τ =>
  if i = 0 then .inr (3, [.ref (G.h + 1), .ref (G.h + 55), .int (f 2), .int (f 3)])
  else if i < 55 then lW G 1 (i - 1) f
  else if i = 55 then .inl (G.cW, 4, .inr (.inr (.inr (.inr (fun k => some (G.h + (56 + 54 * k)))))))
  else if i < 272 then lW G (56 + 54 * ((i - 56) / 54)) ((i - 56) % 54) f
  else if i = 272 then .inr (4, [.ref (G.h + 273), .ref (G.h + 274), .int (f 2), .int (f 3), .long (τ 4)])
  else if i = 273 then eA G 2921 f
  else if i = 274 then eA G 11684 f
  else .inl (G.cJ, 1, .inr (.inl τ))
theorem lW_m {G : zG} {b x j : Nat} {f : Nat → Int32} (hx : x < 6) (hj : j < 8) : lW G b (2 + 8 * x + j) f = lM G (b + 2 + 8 * x) x j f := by
  have e1 : (2 + 8 * x + j - 2) / 8 = x := by omega
  have e2 : (2 + 8 * x + j - 2) % 8 = j := by omega
  unfold lW
  rw [if_neg (by omega), if_neg (by omega), if_pos (by omega), e1, e2]
theorem zWo_of {G : zG} {N : Nat} {Λ : zLay} {b : Nat} (hN : b + 53 < N) (h : ∀ j, j < 54 → ∀ f τ, Λ (b + j) f τ = lW G b j f) : zWo G N Λ b := by
  refine ⟨hN, fun f τ => h 0 (by omega) f τ, fun f τ => h 1 (by omega) f τ, fun x hx => ?_, ⟨by omega, fun f τ => h 50 (by omega) f τ, fun f τ => h 51 (by omega) f τ, by omega, by omega, by omega⟩, ⟨by omega, fun f τ => h 52 (by omega) f τ, fun f τ => h 53 (by omega) f τ, by omega, by omega, by omega⟩⟩
  have hm : ∀ j, j < 8 → ∀ f τ, Λ (b + 2 + 8 * x + j) f τ = lM G (b + 2 + 8 * x) x j f := fun j hj f τ => by
    rw [show b + 2 + 8 * x + j = b + (2 + 8 * x + j) by omega, h _ (by omega) f τ, lW_m hx hj]
  exact ⟨by omega, hx, fun f τ => hm 0 (by omega) f τ, fun f τ => hm 1 (by omega) f τ, ⟨by omega, fun f τ => hm 2 (by omega) f τ, fun f τ => hm 3 (by omega) f τ, by omega, by omega, by omega⟩, ⟨by omega, fun f τ => hm 4 (by omega) f τ, fun f τ => hm 5 (by omega) f τ, by omega, by omega, by omega⟩, ⟨by omega, fun f τ => hm 6 (by omega) f τ, fun f τ => hm 7 (by omega) f τ, by omega, by omega, by omega⟩⟩
theorem lP_0 {G : zG} (f : Nat → Int32) (τ : Nat → Int64) : lP G 0 f τ = .inr (3, [.ref (G.h + 1), .ref (G.h + 55), .int (f 2), .int (f 3)]) := by
  unfold lP; rw [if_pos rfl]
theorem lP_w {G : zG} {j : Nat} (hj : j < 54) (f : Nat → Int32) (τ : Nat → Int64) : lP G (1 + j) f τ = lW G 1 j f := by
  unfold lP; rw [if_neg (by omega), if_pos (by omega), Nat.add_sub_cancel_left]
theorem lP_55 {G : zG} (f : Nat → Int32) (τ : Nat → Int64) : lP G 55 f τ = .inl (G.cW, 4, .inr (.inr (.inr (.inr (fun k => some (G.h + (56 + 54 * k))))))) := by
  unfold lP; rw [if_neg (by omega), if_neg (by omega), if_pos rfl]
theorem lP_s {G : zG} {k j : Nat} (hk : k < 4) (hj : j < 54) (f : Nat → Int32) (τ : Nat → Int64) : lP G (56 + 54 * k + j) f τ = lW G (56 + 54 * k) j f := by
  have e1 : (56 + 54 * k + j - 56) / 54 = k := by omega
  have e2 : (56 + 54 * k + j - 56) % 54 = j := by omega
  unfold lP; rw [if_neg (by omega), if_neg (by omega), if_neg (by omega), if_pos (by omega), e1, e2]
theorem lP_272 {G : zG} (f : Nat → Int32) (τ : Nat → Int64) : lP G 272 f τ = .inr (4, [.ref (G.h + 273), .ref (G.h + 274), .int (f 2), .int (f 3), .long (τ 4)]) := by
  unfold lP; rw [if_neg (by omega), if_neg (by omega), if_neg (by omega), if_neg (by omega), if_pos rfl]
theorem lP_273 {G : zG} (f : Nat → Int32) (τ : Nat → Int64) : lP G 273 f τ = eA G 2921 f := by
  unfold lP; rw [if_neg (by omega), if_neg (by omega), if_neg (by omega), if_neg (by omega), if_neg (by omega), if_pos rfl]
theorem lP_274 {G : zG} (f : Nat → Int32) (τ : Nat → Int64) : lP G 274 f τ = eA G 11684 f := by
  unfold lP; rw [if_neg (by omega), if_neg (by omega), if_neg (by omega), if_neg (by omega), if_neg (by omega), if_neg (by omega), if_pos rfl]
theorem lP_275 {G : zG} (f : Nat → Int32) (τ : Nat → Int64) : lP G 275 f τ = .inl (G.cJ, 1, .inr (.inl τ)) := by
  unfold lP; rw [if_neg (by omega), if_neg (by omega), if_neg (by omega), if_neg (by omega), if_neg (by omega), if_neg (by omega), if_neg (by omega)]
theorem lP_Po {G : zG} {N : Nat} (hN : 271 < N) : zPo G N (lP G) := ⟨hN, lP_0, lP_55, zWo_of (by omega) (fun j hj f τ => lP_w hj f τ), fun k hk => zWo_of (by omega) (fun j hj f τ => lP_s hk hj f τ)⟩
theorem lP_Mo {G : zG} {N : Nat} (hN : 274 < N) : zMo G N (lP G) := ⟨hN, lP_272, lP_273, lP_274⟩
/-- nothing written yet; then a world begun; then the reference begun -/
def zb0 : zM := (fun _ _ => 0, fun _ _ => 0)
def zb1 : zM := bgnz zb0 1 3
def zb2 : zM := mbz zb1 3 3
theorem zb0_all (b : Nat) : rAll zb0 b := ⟨fun x _ => ⟨⟨0, Nat.zero_le _, rfl⟩, ⟨0, Nat.zero_le _, rfl⟩, ⟨0, Nat.zero_le _, rfl⟩⟩, ⟨0, Nat.zero_le _, rfl⟩, ⟨0, Nat.zero_le _, rfl⟩⟩
theorem zb1_fr : zfr zb0 zb1 1 54 := (bgn_wI (z := zb0) (b := 1) (n := 3) (zb0_all 1) (by omega)).2
theorem zb1_n {i : Nat} (h : i = 0 ∨ 55 ≤ i) : zb1.1 i = fun _ => 0 := zb1_fr.1 i (by omega)
theorem zb1_2 : zb1.2 = fun _ _ => 0 := zb1_fr.2
theorem zb2_n {i : Nat} (h : i ≠ 273) : zb2.1 i = zb1.1 i := (mbz_mfr zb1 (n := 3) 3 (by omega)).1 i h
theorem zb2_2 : zb2.2 = fun _ _ => 0 := ((mbz_mfr zb1 (n := 3) 3 (by omega)).2.1).trans zb1_2
theorem zb2_LI (Lf : Nat → aS) : LI zb2 (aI 3) 0 Lf := by
  have hw : wI zb1 1 (aI 3) := (bgn_wI (z := zb0) (b := 1) (n := 3) (zb0_all 1) (by omega)).1
  refine ⟨⟨⟨hw.cg (by show 3 ≤ 6; omega) (fun i h1 h2 => zb2_n (by omega)), aOK_I (by omega) (by omega)⟩, 0, ⟨by omega, by omega⟩, ⟨?_, ?_⟩, fun k hk => ?_, fun j hj => absurd hj (Nat.not_lt_zero _)⟩, mbz_S zb1 (by omega), ⟨by omega, ?_⟩, fun j hj => absurd hj (Nat.not_lt_zero _)⟩
  · rw [zb2_n (by omega), zb1_n (Or.inl rfl)]; rfl
  · rw [zb2_n (by omega), zb1_n (Or.inl rfl)]; rfl
  · exact (zb0_all (56 + 54 * k)).cg (fun i h1 h2 => by rw [zb2_n (by omega), zb1_n (by omega)]; rfl)
  · rw [zb2_n (by omega), zb1_n (by omega)]; rfl
