/-! ===== how many pieces of evidence there can be; audits keep the invariant; the first world ===== -/
theorem cnt_le (f : Nat → Bool) (k : Nat) : cnt f k ≤ k := by
  induction k with
  | zero => exact Nat.le_refl _
  | succ k ih => rw [cnt]; split <;> omega
theorem cnt_le1 {f : Nat → Bool} {a : Nat} (ha : f a = false) : ∀ k, a < k → cnt f k + 1 ≤ k := by
  intro k
  induction k with
  | zero => intro h; omega
  | succ k ih =>
    intro h
    rw [cnt]
    by_cases hk : a = k
    · subst hk
      rw [ha]
      have := cnt_le f a
      simp
      exact this
    · have := ih (by omega)
      split <;> omega
theorem cnt_le2 {f : Nat → Bool} {a c : Nat} (ha : f a = false) (hc : f c = false) (hne : a ≠ c) : ∀ k, a < k → c < k → cnt f k + 2 ≤ k := by
  intro k
  induction k with
  | zero => intro h; omega
  | succ k ih =>
    intro h1 h2
    rw [cnt]
    by_cases hk : a = k
    · subst hk
      have := cnt_le1 hc a (by omega)
      rw [ha]
      simp only [Bool.false_eq_true, if_false]
      omega
    · by_cases hk2 : c = k
      · subst hk2
        have := cnt_le1 ha c (by omega)
        rw [hc]
        simp only [Bool.false_eq_true, if_false]
        omega
      · have := ih (by omega) (by omega)
        split <;> omega
theorem cnt_flip {f g : Nat → Bool} {a : Nat} (ha : f a = false) (hg : g a = true) (h : ∀ i, i ≠ a → g i = f i) : ∀ k, a < k → cnt g k = cnt f k + 1 := by
  intro k
  induction k with
  | zero => intro h; omega
  | succ k ih =>
    intro hk
    rw [cnt, cnt]
    by_cases hak : a = k
    · subst hak
      rw [ha, hg, cnt_congr (fun i hi => h i (by omega))]
      simp
    · rw [ih (by omega), h k (Ne.symm hak)]
      split <;> omega
theorem csum_up {f g : Nat → Nat} {a : Nat} (h : ∀ i, i ≠ a → g i = f i) (hg : g a = f a + 1) : ∀ k, a < k → csum g k = csum f k + 1 := by
  intro k
  induction k with
  | zero => intro h; omega
  | succ k ih =>
    intro hk
    rw [csum, csum]
    by_cases hak : a = k
    · subst hak
      rw [hg, csum_congr (fun i hi => h i (by omega))]
      omega
    · rw [ih (by omega), h k (Ne.symm hak)]
      omega
theorem csum_le {f : Nat → Nat} {c : Nat} : ∀ k, (∀ i, i < k → f i ≤ c) → csum f k ≤ k * c := by
  intro k
  induction k with
  | zero => intro _; exact Nat.zero_le _
  | succ k ih =>
    intro h
    rw [csum, Nat.succ_mul]
    have h1 := ih (fun i hi => h i (by omega))
    have h2 := h k (by omega)
    omega
theorem csum_lt {f : Nat → Nat} {c a : Nat} (ha : f a + 1 ≤ c) : ∀ k, a < k → (∀ i, i < k → f i ≤ c) → csum f k + 1 ≤ k * c := by
  intro k
  induction k with
  | zero => intro h; omega
  | succ k ih =>
    intro hk h
    rw [csum, Nat.succ_mul]
    by_cases hak : a = k
    · subst hak
      have h1 := csum_le (f := f) (c := c) a (fun i hi => h i (by omega))
      omega
    · have h1 := ih (by omega) (fun i hi => h i (by omega))
      have h2 := h k (by omega)
      omega
theorem exps_lt {S : aS} (h : aOK S) {x w : Nat} (hx : x < S.n) (hw : w < S.n) (hne : w ≠ x) (hv : ¬ (S.m x).ver w = 2) : S.ev.1 < 30 := by
  rw [h.2.2.2.2]
  have hd : ∀ y, y < S.n → decide ((S.m y).ver y = 2) = false := fun y hy => by
    have h1 : (S.m y).ver y = 0 := (h.m hy).2.1.2
    rw [h1]; decide
  have h1 : ∀ y, y < S.n → cnt (fun w => decide ((S.m y).ver w = 2)) S.n ≤ S.n - 1 := fun y hy => by
    have := cnt_le1 (f := fun w => decide ((S.m y).ver w = 2)) (a := y) (hd y hy) S.n hy
    omega
  have h2 := cnt_le2 (f := fun w => decide ((S.m x).ver w = 2)) (a := x) (c := w) (hd x hx) (decide_eq_false hv) (Ne.symm hne) S.n hx hw
  have h3 := csum_lt (f := fun y => cnt (fun w => decide ((S.m y).ver w = 2)) S.n) (c := S.n - 1) (a := x) (by show cnt _ _ + 1 ≤ _; omega) S.n hx h1
  have h4 : S.n * (S.n - 1) ≤ 6 * 5 := Nat.mul_le_mul h.n6 (by have := h.n6; omega)
  unfold exps
  omega
theorem jRe_v (S : aS) (w x : Nat) : (jRe S w x).1 ≤ 2 := by
  unfold jRe
  split
  · exact Nat.le_refl _
  · show (if 0 < (S.m x).pend.1 then 1 else 0) ≤ 2
    split <;> omega
theorem jdg_v (S : aS) (w x : Nat) : (jdg S w x).1 ≤ 2 := by
  unfold jdg
  split
  · exact Nat.le_refl _
  · split
    · show 1 ≤ 2; omega
    · split
      · exact Nat.le_refl _
      · exact jRe_v S w x
/-- an audit that finds something: the verdict is EXPOSED, and was not; and the other way round -/
theorem jdg_some {S : aS} (h : aOK S) {w x : Nat} (hx : x < S.n) {k : Nat × Nat} (hj : (jdg S w x).2 = some k) : (jdg S w x).1 = 2 ∧ ¬ (S.m x).ver w = 2 ∧ k.1 ≤ 1 ∧ k.2 ≤ 40 := by
  have hl := (h.m hx).log.1
  revert hj
  unfold jdg
  split
  · intro hj; cases hj
  · rename_i hv
    split
    · intro hj; cases hj
    · split
      · rename_i e he
        intro hj
        cases hj
        have := belA_lt h _ _ _ (by omega) he
        refine ⟨rfl, hv, by show 0 ≤ 1; omega, by show e ≤ 40; omega⟩
      · unfold jRe
        split
        · rename_i e he
          intro hj
          cases hj
          have := rpl_le _ _ _ _ he
          exact ⟨rfl, hv, Nat.le_refl _, by show e ≤ 40; omega⟩
        · intro hj; cases hj
theorem jdg_none {S : aS} {w x : Nat} (hj : (jdg S w x).2 = none) : (jdg S w x).1 = 2 ↔ (S.m x).ver w = 2 := by
  revert hj
  unfold jdg
  split
  · rename_i hv; intro _; exact ⟨fun _ => hv, fun _ => rfl⟩
  · rename_i hv
    split
    · intro _
      exact ⟨fun h => absurd (show (1 : Nat) = 2 from h) (by omega), fun h => absurd h hv⟩
    · split
      · intro hj; cases hj
      · unfold jRe
        split
        · intro hj; cases hj
        · intro _
          refine ⟨fun h => ?_, fun h => absurd h hv⟩
          have h : (if 0 < (S.m x).pend.1 then 1 else 0) = 2 := h
          split at h <;> omega
theorem okEv.push {n : Nat} {T : aT} (h : okEv n T) (hk : T.1 < 30) {a c d e : Nat} (ha : a ≤ 1) (hc : c < n) (hd : d < n) (he : e ≤ 40) : okEv n (tpush T (row4 a c d e)) := by
  refine ⟨hk, fun j hj => ?_⟩
  have hj : j < T.1 + 1 := hj
  show va_up T.2 T.1 (row4 a c d e) j 0 ≤ 1 ∧ va_up T.2 T.1 (row4 a c d e) j 1 < n ∧ va_up T.2 T.1 (row4 a c d e) j 2 < n ∧ va_up T.2 T.1 (row4 a c d e) j 3 ≤ 40
  by_cases hjk : j = T.1
  · subst hjk; rw [va_up_self]; exact ⟨ha, hc, hd, he⟩
  · rw [va_up_ne _ _ hjk]; exact h.2 j (by omega)
theorem aJ_n (S : aS) (w x : Nat) (o : Option (Nat × Nat)) : (aJ S w x o).n = S.n := by cases o <;> rfl
theorem aJ_m (S : aS) (w x : Nat) (o : Option (Nat × Nat)) : (aJ S w x o).m = S.m := by cases o <;> rfl
theorem aJ_q (S : aS) (w x : Nat) (o : Option (Nat × Nat)) : (aJ S w x o).q = S.q := by cases o <;> rfl
theorem aAud_n (S : aS) (w x : Nat) : (aAud S w x).n = S.n := aJ_n _ _ _ _
theorem aAud_ms (S : aS) (w x : Nat) : (aAud S w x).m x = (S.m x).setVer (va_up (S.m x).ver w (jdg S w x).1) := aS.setM_s _ _ _
theorem aAud_mn (S : aS) (w : Nat) {x y : Nat} (h : y ≠ x) : (aAud S w x).m y = S.m y := by
  unfold aAud
  rw [aS.setM_n _ _ h, aJ_m]
theorem aOK.aud {S : aS} (h : aOK S) {w x : Nat} (hx : x < S.n) (hw : w < S.n) (hne : w ≠ x) : aOK (aAud S w x) := by
  have hv := jdg_v S w x
  have hM : okM S.n x ((S.m x).setVer (va_up (S.m x).ver w (jdg S w x).1)) := by
    refine ⟨(h.m hx).1, ⟨fun y => ?_, ?_⟩, (h.m hx).log, (h.m hx).held, (h.m hx).pend⟩
    · show va_up (S.m x).ver w (jdg S w x).1 y ≤ 2
      by_cases hy : y = w
      · subst hy; rw [va_up_self]; exact hv
      · rw [va_up_ne _ _ hy]; exact (h.m hx).ver y
    · show va_up (S.m x).ver w (jdg S w x).1 x = 0
      rw [va_up_ne _ _ (Ne.symm hne)]
      exact (h.m hx).2.1.2
  have hm : ∀ y, y < S.n → okM S.n y ((aAud S w x).m y) := fun y hy => by
    by_cases hyx : y = x
    · subst hyx; rw [aAud_ms]; exact hM
    · rw [aAud_mn _ _ hyx]; exact h.m hy
  have hrow : ∀ y, y ≠ x → cnt (fun w' => decide (((aAud S w x).m y).ver w' = 2)) S.n = cnt (fun w' => decide ((S.m y).ver w' = 2)) S.n := fun y hy => by rw [aAud_mn _ _ hy]
  refine ⟨by rw [aAud_n]; exact h.1, fun y hy => ?_, ?_, ?_, ?_⟩
  · rw [aAud_n] at hy ⊢
    exact hm y hy
  · rw [aAud_n]; show okMsg S.n (aJ S w x (jdg S w x).2).q; rw [aJ_q]; exact h.q
  · rw [aAud_n]
    show okEv S.n (aJ S w x (jdg S w x).2).ev
    cases hj : (jdg S w x).2 with
    | none => exact h.e
    | some k =>
      obtain ⟨j1, j2, j3, j4⟩ := jdg_some h hx hj
      exact h.e.push (exps_lt h hx hw hne j2) j3 hx hw j4
  · unfold exps
    rw [aAud_n]
    show (aJ S w x (jdg S w x).2).ev.1 = _
    cases hj : (jdg S w x).2 with
    | none =>
      show S.ev.1 = _
      rw [h.2.2.2.2]
      unfold exps
      refine csum_congr (fun y hy => ?_)
      by_cases hyx : y = x
      · subst hyx
        refine cnt_congr (fun w' _ => ?_)
        rw [aAud_ms]
        show _ = decide (va_up (S.m y).ver w (jdg S w y).1 w' = 2)
        by_cases hww : w' = w
        · subst hww
          rw [va_up_self]
          exact decide_eq_decide.mpr (jdg_none hj).symm
        · rw [va_up_ne _ _ hww]
      · exact (hrow y hyx).symm
    | some k =>
      obtain ⟨j1, j2, -, -⟩ := jdg_some h hx hj
      show S.ev.1 + 1 = _
      rw [h.2.2.2.2]
      refine (csum_up (f := fun y => cnt (fun w' => decide ((S.m y).ver w' = 2)) S.n) (a := x) hrow ?_ S.n hx).symm
      refine cnt_flip (a := w) (decide_eq_false j2) ?_ (fun w' hw' => ?_) S.n hw
      · rw [aAud_ms]
        show decide (va_up (S.m x).ver w (jdg S w x).1 w = 2) = true
        rw [va_up_self, j1]; rfl
      · rw [aAud_ms]
        show decide (va_up (S.m x).ver w (jdg S w x).1 w' = 2) = _
        rw [va_up_ne _ _ hw']
/-- the first world of n machines -/
def oth (x n : Nat) : Nat := 2 ^ n - 1 - 2 ^ x
theorem oth_dec : ∀ n, n < 7 → ∀ x, x < n → othI x n = nI (oth x n) ∧ oth x n < 2 ^ n ∧ (oth x n).testBit x = false := by decide +kernel
def aM0 (x n : Nat) : aM := ((x, 0, 0, oth x n), fun _ => 0, (0, fun _ _ => 0), (0, fun _ _ => 0), (0, fun _ _ => 0))
def aI (n : Nat) : aS := (n, fun x => aM0 x n, (0, fun _ _ => 0), (0, fun _ _ => 0))
theorem aOK_I {n : Nat} (h2 : 2 ≤ n) (h6 : n ≤ 6) : aOK (aI n) := by
  refine ⟨⟨h2, h6⟩, fun x hx => ?_, ⟨Nat.zero_le _, fun j hj => absurd hj (Nat.not_lt_zero _)⟩, ⟨Nat.zero_le _, fun j hj => absurd hj (Nat.not_lt_zero _)⟩, ?_⟩
  · have hx : x < n := hx
    obtain ⟨-, h3, h4⟩ := oth_dec n (by omega) x hx
    exact ⟨⟨by show x < 9973; omega, by show 0 < 2; omega, by show 0 < 2; omega, h3, h4⟩, ⟨fun w => Nat.zero_le _, rfl⟩, ⟨Nat.zero_le _, fun j hj => absurd hj (Nat.not_lt_zero _)⟩, ⟨Nat.zero_le _, fun j hj => absurd hj (Nat.not_lt_zero _)⟩, ⟨Nat.zero_le _, fun j hj => absurd hj (Nat.not_lt_zero _)⟩⟩
  · show 0 = exps (aI n)
    have h1 : ∀ k, cnt (fun _ => decide ((0 : Nat) = 2)) k = 0 := by
      intro k
      induction k with
      | zero => rfl
      | succ k ih => rw [cnt, ih]; rfl
    have h2 : ∀ m k, csum (fun _ => cnt (fun _ => decide ((0 : Nat) = 2)) m) k = 0 := by
      intro m k
      induction k with
      | zero => rfl
      | succ k ih => rw [csum, ih, h1]
    exact (h2 n n).symm
