theorem stz0_n (z : zM) {b i : Nat} (x n : Nat) (h : i ≠ b) : (stz0 z b x n).1 i = z.1 i := by
  unfold stz0
  rw [(zi_fr _ _ _ _).1 i (by omega), (zi_fr _ _ _ _).1 i (by omega), (zi_fr _ _ _ _).1 i (by omega), (zi_fr _ _ _ _).1 i (by omega)]
theorem stz_fr (z : zM) (b x n : Nat) : zfr z (stz z b x n) b 8 := by
  refine ⟨fun i hi => ?_, rfl⟩
  unfold stz
  rw [(zi_fr _ _ _ _).1 i (by omega), (zi_fr _ _ _ _).1 i (by omega), (zi_fr _ _ _ _).1 i (by omega), vz_n _ _ (by omega), stz0_n _ _ _ (by omega)]
theorem stz_rM (z : zM) (b : Nat) {x n : Nat} (hx : x < n) (hn : n < 7) : rM (stz z b x n) b (aM0 x n) := by
  obtain ⟨ho, -, -⟩ := oth_dec n hn x hx
  refine ⟨⟨?_, ?_, ?_, ?_⟩, fun w hw => ?_, ⟨?_, fun j hj => absurd hj (Nat.not_lt_zero _), fun j hj => absurd hj (Nat.not_lt_zero _)⟩, ⟨?_, fun j hj => absurd hj (Nat.not_lt_zero _)⟩, ⟨?_, fun j hj => absurd hj (Nat.not_lt_zero _)⟩⟩
  · unfold stz
    rw [(zi_fr _ _ _ _).1 b (by omega), (zi_fr _ _ _ _).1 b (by omega), (zi_fr _ _ _ _).1 b (by omega), vz_n _ _ (by omega)]
    unfold stz0
    rw [zi_at, if_neg (by omega), zi_at, if_neg (by omega), zi_at, if_neg (by omega), zi_at, if_pos ⟨rfl, rfl⟩]; rfl
  · unfold stz
    rw [(zi_fr _ _ _ _).1 b (by omega), (zi_fr _ _ _ _).1 b (by omega), (zi_fr _ _ _ _).1 b (by omega), vz_n _ _ (by omega)]
    unfold stz0
    rw [zi_at, if_neg (by omega), zi_at, if_neg (by omega), zi_at, if_pos ⟨rfl, rfl⟩]; rfl
  · unfold stz
    rw [(zi_fr _ _ _ _).1 b (by omega), (zi_fr _ _ _ _).1 b (by omega), (zi_fr _ _ _ _).1 b (by omega), vz_n _ _ (by omega)]
    unfold stz0
    rw [zi_at, if_neg (by omega), zi_at, if_pos ⟨rfl, rfl⟩]; rfl
  · unfold stz
    rw [(zi_fr _ _ _ _).1 b (by omega), (zi_fr _ _ _ _).1 b (by omega), (zi_fr _ _ _ _).1 b (by omega), vz_n _ _ (by omega)]
    unfold stz0
    rw [zi_at, if_pos ⟨rfl, rfl⟩]; exact ho
  · unfold stz
    rw [(zi_fr _ _ _ _).1 (b + 1) (by omega), (zi_fr _ _ _ _).1 (b + 1) (by omega), (zi_fr _ _ _ _).1 (b + 1) (by omega), vz_at, if_pos hw]; rfl
  · unfold stz
    rw [zi_at, if_neg (by omega), zi_at, if_neg (by omega), zi_at, if_pos ⟨rfl, rfl⟩]; rfl
  · unfold stz
    rw [zi_at, if_neg (by omega), zi_at, if_pos ⟨rfl, rfl⟩]; rfl
  · unfold stz
    rw [zi_at, if_pos ⟨rfl, rfl⟩]; rfl
def bgz (z : zM) (b n : Nat) : Nat → zM
  | 0 => zi z b 0 (nI n)
  | j + 1 => stz (bgz z b n j) (b + 2 + 8 * j) j n
theorem bgz_n (z : zM) (b n : Nat) : ∀ j i, i ≠ b → (i < b + 2 ∨ b + 2 + 8 * j ≤ i) → (bgz z b n j).1 i = z.1 i := by
  intro j
  induction j with
  | zero => intro i h _; exact (zi_fr _ _ _ _).1 i (by omega)
  | succ j ih =>
    intro i h h2
    show (stz (bgz z b n j) (b + 2 + 8 * j) j n).1 i = z.1 i
    rw [(stz_fr _ _ _ _).1 i (by omega)]
    exact ih i h (by omega)
theorem bgz_0 (z : zM) (b n : Nat) : ∀ j, (bgz z b n j).1 b 0 = nI n := by
  intro j
  induction j with
  | zero => show (zi z b 0 (nI n)).1 b 0 = nI n; rw [zi_at, if_pos ⟨rfl, rfl⟩]
  | succ j ih =>
    show (stz (bgz z b n j) (b + 2 + 8 * j) j n).1 b 0 = nI n
    rw [(stz_fr _ _ _ _).1 b (by omega)]
    exact ih
theorem bgz_2 (z : zM) (b n : Nat) : ∀ j, (bgz z b n j).2 = z.2 := by
  intro j
  induction j with
  | zero => rfl
  | succ j ih => exact ((stz_fr _ _ _ _).2).trans ih
theorem bgz_m (z : zM) (b : Nat) {n : Nat} (hn : n < 7) : ∀ j, j ≤ n → ∀ x, x < j → rM (bgz z b n j) (b + 2 + 8 * x) (aM0 x n) := by
  intro j
  induction j with
  | zero => intro _ x hx; omega
  | succ j ih =>
    intro hj x hx
    show rM (stz (bgz z b n j) (b + 2 + 8 * j) j n) (b + 2 + 8 * x) (aM0 x n)
    by_cases hxj : x = j
    · subst hxj; exact stz_rM _ _ (by omega) hn
    · exact (ih (by omega) x (by omega)).cg (fun i h1 h2 => (stz_fr _ _ _ _).1 i (by omega))
def bgnz (z : zM) (b n : Nat) : zM := zi (zi (bgz z b n n) (b + 50) 3 0) (b + 52) 3 0
theorem bgn_wI {z : zM} {b n : Nat} (hA : rAll z b) (hn6 : n ≤ 6) : wI (bgnz z b n) b (aI n) ∧ zfr z (bgnz z b n) b 54 := by
  have hf : ∀ i, i ≠ b + 50 → i ≠ b + 52 → (bgnz z b n).1 i = (bgz z b n n).1 i := fun i h1 h2 => by
    unfold bgnz
    rw [(zi_fr _ _ _ _).1 i (by omega), (zi_fr _ _ _ _).1 i (by omega)]
  have hm : ∀ x, x < n → rM (bgnz z b n) (b + 2 + 8 * x) (aM0 x n) := fun x hx => (bgz_m z b (by omega) n (Nat.le_refl _) x hx).cg (fun i h1 h2 => hf i (by omega) (by omega))
  have hq : (bgnz z b n).1 (b + 50) 3 = nI 0 := by
    unfold bgnz
    rw [zi_at, if_neg (by omega), zi_at, if_pos ⟨rfl, rfl⟩]; rfl
  have he : (bgnz z b n).1 (b + 52) 3 = nI 0 := by
    unfold bgnz
    rw [zi_at, if_pos ⟨rfl, rfl⟩]; rfl
  refine ⟨⟨⟨?_, hm, ⟨hq, fun j hj => absurd hj (Nat.not_lt_zero _)⟩, ⟨he, fun j hj => absurd hj (Nat.not_lt_zero _)⟩⟩, fun x hx => ?_, ⟨0, by omega, hq⟩, ⟨0, by omega, he⟩⟩, ?_⟩
  · rw [hf b (by omega) (by omega), bgz_0]; rfl
  · by_cases hxn : x < n
    · exact (hm x hxn).sane (Nat.zero_le _) (Nat.zero_le _) (Nat.zero_le _)
    · exact (hA.1 x hx).cg (fun i h1 h2 => by rw [hf i (by omega) (by omega), bgz_n z b n n i (by omega) (by omega)])
  · refine ⟨fun i hi => ?_, ?_⟩
    · rw [hf i (by omega) (by omega), bgz_n z b n n i (by omega) (by omega)]
    · exact bgz_2 z b n n
theorem cpr_fr (z : zM) (t o w k : Nat) : zfr z (cpr z t o w k) t 2 := ⟨fun i hi => cpr_n _ _ _ _ (by omega) (by omega), rfl⟩
theorem cpr_cell {z : zM} {t o w k i : Nat} (hne : o + 2 ≤ t ∨ t + 2 ≤ o) (hi : i < k * w) : (cpr z t o w k).1 (t + 1) i = z.1 (o + 1) i := by
  unfold cpr
  rw [zr_s, pk_cpy_in (by omega) (by omega), (zi_fr _ _ _ _).1 _ (by omega), show 0 + (i - 0) = i by omega]
theorem cpr_cnt (z : zM) (t o w k : Nat) : (cpr z t o w k).1 t 3 = nI k := by
  unfold cpr
  rw [zr_n _ _ (by omega), zi_at, if_pos ⟨rfl, rfl⟩]
theorem cpr_tb {z : zM} {t o w : Nat} {T : aT} (h : rTb z o w T) (hne : o + 2 ≤ t ∨ t + 2 ≤ o) : rTb (cpr z t o w T.1) t w T := by
  refine ⟨cpr_cnt _ _ _ _ _, fun j hj c hc => ?_⟩
  have h3 : (j + 1) * w ≤ T.1 * w := Nat.mul_le_mul_right w (by omega)
  rw [Nat.succ_mul] at h3
  rw [cpr_cell hne (by omega)]
  exact h.2 j hj c hc
theorem cpr_log {z : zM} {t o : Nat} {T : aT} (h : rLog z o T) (hne : o + 2 ≤ t ∨ t + 2 ≤ o) : rLog (cpr z t o 4 T.1) t T := by
  refine ⟨cpr_cnt _ _ _ _ _, fun j hj => ?_, fun j hj => ?_⟩
  · rw [cpr_cell hne (by omega), cpr_cell hne (by omega), cpr_cell hne (by omega)]
    exact h.2.1 j hj
  · rw [cpr_cell hne (by omega)]
    exact h.2.2 j hj
theorem cpm_fr (z : zM) (b b2 s1 s2 k1 k2 k3 : Nat) : zfr z (cpm z b b2 s1 s2 k1 k2 k3) b 8 := by
  refine ⟨fun i hi => ?_, rfl⟩
  unfold cpm
  rw [cpr_n _ _ _ _ (by omega) (by omega), cpr_n _ _ _ _ (by omega) (by omega), cpr_n _ _ _ _ (by omega) (by omega), cpm5_n _ _ _ (by omega) (by omega)]
theorem cpm_rM {z : zM} {b b2 : Nat} {M : aM} (h : rM z b2 M) (hne : b + 8 ≤ b2 ∨ b2 + 8 ≤ b) : rM (cpm z b b2 M.sil M.lie M.log.1 M.held.1 M.pend.1) b M := by
  obtain ⟨⟨a1, a2, a3, a4⟩, a5, a6, a7, a8⟩ := h
  have h4 : ∀ i, i < b + 2 → (cpm z b b2 M.sil M.lie M.log.1 M.held.1 M.pend.1).1 i = (cpm5 z b b2 M.sil M.lie).1 i := fun i hi => by
    unfold cpm
    rw [cpr_n _ _ _ _ (by omega) (by omega), cpr_n _ _ _ _ (by omega) (by omega), cpr_n _ _ _ _ (by omega) (by omega)]
  have h5 : ∀ j, (cpm z b b2 M.sil M.lie M.log.1 M.held.1 M.pend.1).1 b j = (cpm4 z b b2 M.sil M.lie).1 b j := fun j => by
    rw [h4 b (by omega), cpm5, zr_n _ _ (by omega)]
  have s0 : ∀ i, i ≠ b → i ≠ b + 1 → (cpm5 z b b2 M.sil M.lie).1 i = z.1 i := fun i h1 h2 => cpm5_n _ _ _ h1 h2
  have l1 : rLog (cpm5 z b b2 M.sil M.lie) (b2 + 2) M.log := a6.cg (s0 _ (by omega) (by omega)) (s0 _ (by omega) (by omega))
  have t1 : rTb (cpm5 z b b2 M.sil M.lie) (b2 + 4) 3 M.held := a7.cg (s0 _ (by omega) (by omega)) (s0 _ (by omega) (by omega))
  have p1 : rTb (cpm5 z b b2 M.sil M.lie) (b2 + 6) 5 M.pend := a8.cg (s0 _ (by omega) (by omega)) (s0 _ (by omega) (by omega))
  have s1 : ∀ i, i ≠ b + 2 → i ≠ b + 2 + 1 → (cpr (cpm5 z b b2 M.sil M.lie) (b + 2) (b2 + 2) 4 M.log.1).1 i = (cpm5 z b b2 M.sil M.lie).1 i := fun i h1 h2 => cpr_n _ _ _ _ h1 h2
  have t2 := t1.cg (s1 (b2 + 4) (by omega) (by omega)) (s1 (b2 + 4 + 1) (by omega) (by omega))
  have p2 := p1.cg (s1 (b2 + 6) (by omega) (by omega)) (s1 (b2 + 6 + 1) (by omega) (by omega))
  have s2 : ∀ i, i ≠ b + 4 → i ≠ b + 4 + 1 → (cpr (cpr (cpm5 z b b2 M.sil M.lie) (b + 2) (b2 + 2) 4 M.log.1) (b + 4) (b2 + 4) 3 M.held.1).1 i = (cpr (cpm5 z b b2 M.sil M.lie) (b + 2) (b2 + 2) 4 M.log.1).1 i := fun i h1 h2 => cpr_n _ _ _ _ h1 h2
  have p3 := p2.cg (s2 (b2 + 6) (by omega) (by omega)) (s2 (b2 + 6 + 1) (by omega) (by omega))
  have l2 := cpr_log (t := b + 2) l1 (by omega)
  have t3 := cpr_tb (t := b + 4) t2 (by omega)
  have p4 := cpr_tb (t := b + 6) p3 (by omega)
  have s3 : ∀ i, i ≠ b + 6 → i ≠ b + 6 + 1 → (cpm z b b2 M.sil M.lie M.log.1 M.held.1 M.pend.1).1 i = (cpr (cpr (cpm5 z b b2 M.sil M.lie) (b + 2) (b2 + 2) 4 M.log.1) (b + 4) (b2 + 4) 3 M.held.1).1 i := fun i h1 h2 => cpr_n _ _ _ _ h1 h2
  refine ⟨⟨?_, ?_, ?_, ?_⟩, fun w hw => ?_, (l2.cg (s2 _ (by omega) (by omega)) (s2 _ (by omega) (by omega))).cg (s3 _ (by omega) (by omega)) (s3 _ (by omega) (by omega)), t3.cg (s3 _ (by omega) (by omega)) (s3 _ (by omega) (by omega)), p4⟩
  · rw [h5, cpm4, zi_at, if_neg (by omega), zi_at, if_neg (by omega), zi_at, if_neg (by omega), zi_at, if_pos ⟨rfl, rfl⟩]; exact a1
  · rw [h5, cpm4, zi_at, if_neg (by omega), zi_at, if_neg (by omega), zi_at, if_pos ⟨rfl, rfl⟩]
  · rw [h5, cpm4, zi_at, if_neg (by omega), zi_at, if_pos ⟨rfl, rfl⟩]
  · rw [h5, cpm4, zi_at, if_pos ⟨rfl, rfl⟩]; exact a4
  · rw [h4 _ (by omega), cpm5, zr_s, pk_cpy_in (by omega) (by omega), cpm4_n _ _ _ (by omega)]
    rw [show 0 + (w - 0) = w by omega]
    exact a5 w hw
def cwz (z : zM) (b b2 : Nat) (S : aS) : Nat → zM
  | 0 => zi z b 0 (nI S.n)
  | j + 1 => cpm (cwz z b b2 S j) (b + 2 + 8 * j) (b2 + 2 + 8 * j) (S.m j).sil (S.m j).lie (S.m j).log.1 (S.m j).held.1 (S.m j).pend.1
theorem cwz_n (z : zM) (b b2 : Nat) (S : aS) : ∀ j i, i ≠ b → (i < b + 2 ∨ b + 2 + 8 * j ≤ i) → (cwz z b b2 S j).1 i = z.1 i := by
  intro j
  induction j with
  | zero => intro i h _; exact (zi_fr _ _ _ _).1 i (by omega)
  | succ j ih =>
    intro i h h2
    show (cpm (cwz z b b2 S j) (b + 2 + 8 * j) (b2 + 2 + 8 * j) _ _ _ _ _).1 i = z.1 i
    rw [(cpm_fr _ _ _ _ _ _ _ _).1 i (by omega)]
    exact ih i h (by omega)
theorem cwz_0 (z : zM) (b b2 : Nat) (S : aS) : ∀ j, (cwz z b b2 S j).1 b 0 = nI S.n := by
  intro j
  induction j with
  | zero => show (zi z b 0 (nI S.n)).1 b 0 = nI S.n; rw [zi_at, if_pos ⟨rfl, rfl⟩]
  | succ j ih =>
    show (cpm (cwz z b b2 S j) (b + 2 + 8 * j) (b2 + 2 + 8 * j) _ _ _ _ _).1 b 0 = nI S.n
    rw [(cpm_fr _ _ _ _ _ _ _ _).1 b (by omega)]
    exact ih
theorem cwz_2 (z : zM) (b b2 : Nat) (S : aS) : ∀ j, (cwz z b b2 S j).2 = z.2 := by
  intro j
  induction j with
  | zero => rfl
  | succ j ih => exact ((cpm_fr _ _ _ _ _ _ _ _).2).trans ih
theorem cwz_m {z : zM} {b b2 : Nat} {S : aS} (hn6 : S.n ≤ 6) (h : ∀ x, x < S.n → rM z (b2 + 2 + 8 * x) (S.m x)) (hne : b + 54 ≤ b2 ∨ b2 + 54 ≤ b) : ∀ j, j ≤ S.n → ∀ x, x < j → rM (cwz z b b2 S j) (b + 2 + 8 * x) (S.m x) := by
  intro j
  induction j with
  | zero => intro _ x hx; omega
  | succ j ih =>
    intro hj x hx
    show rM (cpm (cwz z b b2 S j) (b + 2 + 8 * j) (b2 + 2 + 8 * j) _ _ _ _ _) (b + 2 + 8 * x) (S.m x)
    by_cases hxj : x = j
    · subst hxj
      exact cpm_rM ((h x (by omega)).cg (fun i h1 h2 => cwz_n z b b2 S x i (by omega) (by omega))) (by omega)
    · exact (ih (by omega) x (by omega)).cg (fun i h1 h2 => (cpm_fr _ _ _ _ _ _ _ _).1 i (by omega))
def cpw (z : zM) (b b2 : Nat) (S : aS) : zM := cpr (cpr (cwz z b b2 S S.n) (b + 50) (b2 + 50) 5 S.q.1) (b + 52) (b2 + 52) 4 S.ev.1
theorem cpw_wI {z : zM} {b b2 : Nat} {S : aS} (hA : rAll z b) (hI : wI z b2 S) (hS : aOK S) (hne : b + 54 ≤ b2 ∨ b2 + 54 ≤ b) : wI (cpw z b b2 S) b S ∧ zfr z (cpw z b b2 S) b 54 := by
  have hn6 := hS.n6
  have hf : ∀ i, (i < b + 50 ∨ b + 54 ≤ i) → (cpw z b b2 S).1 i = (cwz z b b2 S S.n).1 i := fun i h1 => by
    unfold cpw
    rw [cpr_n _ _ _ _ (by omega) (by omega), cpr_n _ _ _ _ (by omega) (by omega)]
  have hm : ∀ x, x < S.n → rM (cpw z b b2 S) (b + 2 + 8 * x) (S.m x) := fun x hx => (cwz_m hn6 hI.1.2.1 hne S.n (Nat.le_refl _) x hx).cg (fun i h1 h2 => hf i (by omega))
  have q1 : rTb (cwz z b b2 S S.n) (b2 + 50) 5 S.q := hI.q.cg (cwz_n z b b2 S S.n _ (by omega) (by omega)) (cwz_n z b b2 S S.n _ (by omega) (by omega))
  have e1 : rTb (cwz z b b2 S S.n) (b2 + 52) 4 S.ev := hI.e.cg (cwz_n z b b2 S S.n _ (by omega) (by omega)) (cwz_n z b b2 S S.n _ (by omega) (by omega))
  have q2 := cpr_tb (t := b + 50) q1 (by omega)
  have e2 := e1.cg ((cpr_fr (cwz z b b2 S S.n) (b + 50) (b2 + 50) 5 S.q.1).1 _ (by omega)) ((cpr_fr (cwz z b b2 S S.n) (b + 50) (b2 + 50) 5 S.q.1).1 _ (by omega))
  have e3 := cpr_tb (t := b + 52) e2 (by omega)
  have q3 : rTb (cpw z b b2 S) (b + 50) 5 S.q := q2.cg ((cpr_fr _ _ _ _ _).1 _ (by omega)) ((cpr_fr _ _ _ _ _).1 _ (by omega))
  refine ⟨⟨⟨?_, hm, q3, e3⟩, fun x hx => ?_, ⟨_, hS.q.1, q3.1⟩, ⟨_, hS.e.1, e3.1⟩⟩, ?_⟩
  · rw [hf b (by omega), cwz_0]
  · by_cases hxn : x < S.n
    · exact (hm x hxn).sane (hS.m hxn).log.1 (hS.m hxn).held.1 (hS.m hxn).pend.1
    · exact (hA.1 x hx).cg (fun i h1 h2 => by rw [hf i (by omega), cwz_n z b b2 S S.n i (by omega) (by omega)])
  · refine ⟨fun i hi => ?_, ?_⟩
    · rw [hf i (by omega), cwz_n z b b2 S S.n i (by omega) (by omega)]
    · exact cwz_2 z b b2 S S.n
def jz1 (z : zM) (b : Nat) (S : aS) (w x : Nat) : zM := zi (jzo z (b + 52) S.ev.1 w x (jdg S w x).2) (b + 2 + 8 * x + 1) w (nI (jdg S w x).1)
theorem jzo_fr (z : zM) (t k w x : Nat) (o : Option (Nat × Nat)) : zfr z (jzo z t k w x o) t 2 := by
  cases o with
  | none => exact zfr.rf _ _ _
  | some k => exact row4z_fr _ _ _ _ _ _ _
theorem jzo_wI {z : zM} {b : Nat} {S : aS} (hI : wI z b S) (hS : aOK S) {w x : Nat} (hx : x < S.n) (hev : ¬ (S.m x).ver w = 2 → S.ev.1 < 30) : wI (jzo z (b + 52) S.ev.1 w x (jdg S w x).2) b (aJ S w x (jdg S w x).2) := by
  cases hj : (jdg S w x).2 with
  | none => exact hI
  | some k =>
    obtain ⟨-, j2, -, -⟩ := jdg_some hS hx hj
    exact hI.setE (row4z_fr _ _ _ _ _ _ _) (row4z_tb hI.e _ _ _ _) (show S.ev.1 + 1 ≤ 30 from hev j2) hS.n6
theorem jz1_wI {z : zM} {b : Nat} {S : aS} (hI : wI z b S) (hS : aOK S) {w x : Nat} (hx : x < S.n) (hev : ¬ (S.m x).ver w = 2 → S.ev.1 < 30) : wI (jz1 z b S w x) b (aAud S w x) ∧ zfr z (jz1 z b S w x) b 54 := by
  have h1 := jzo_wI hI hS hx hev
  have h2 := (h1.m (by rw [aJ_n]; exact hx)).ver (w := w) (jdg S w x).1
  rw [aJ_m] at h2
  have hn6 := hS.n6
  have hf : zfr (jzo z (b + 52) S.ev.1 w x (jdg S w x).2) (jz1 z b S w x) (b + 2 + 8 * x) 8 := (zi_fr _ _ _ _).mono (by omega) (by omega)
  refine ⟨h1.setM (by omega) hf h2 (hS.m hx).log.1 (hS.m hx).held.1 (hS.m hx).pend.1, ?_⟩
  exact ((jzo_fr _ _ _ _ _ _).mono (by omega) (by omega)).tr (hf.mono (by omega) (by omega))
def jba (x : Nat) : Nat → Nat → aS → aS × Nat
  | 0, _, S => (S, 0)
  | d + 1, w, S => if (S.m x).wit.testBit w = true then ((jba x d (w + 1) (aAud S w x)).1, (if (jdg S w x).1 = (S.m x).ver w then 0 else 1) + (jba x d (w + 1) (aAud S w x)).2) else jba x d (w + 1) S
def jbz (b x : Nat) : Nat → Nat → zM → aS → zM
  | 0, _, z, _ => z
  | d + 1, w, z, S => if (S.m x).wit.testBit w = true then jbz b x d (w + 1) (jz1 z b S w x) (aAud S w x) else jbz b x d (w + 1) z S
theorem jba_wI {b x : Nat} : ∀ (d w : Nat) (z : zM) (S : aS), w + d = S.n → x < S.n → wI z b S → aOK S → wI (jbz b x d w z S) b (jba x d w S).1 ∧ zfr z (jbz b x d w z S) b 54 ∧ aOK (jba x d w S).1 ∧ (jba x d w S).1.n = S.n := by
  intro d
  induction d with
  | zero => intro w z S _ _ hI hS; exact ⟨hI, zfr.rf _ _ _, hS, rfl⟩
  | succ d ih =>
    intro w z S hw hx hI hS
    rw [jba, jbz]
    by_cases hb : (S.m x).wit.testBit w = true
    · rw [if_pos hb, if_pos hb]
      have hne : w ≠ x := fun q => by
        subst q
        rw [(hS.m hx).nw] at hb
        cases hb
      have hwn : w < S.n := by omega
      obtain ⟨h1, h2⟩ := jz1_wI (w := w) hI hS hx (fun q => exps_lt hS hx hwn hne q)
      obtain ⟨g1, g2, g3, g4⟩ := ih (w + 1) (jz1 z b S w x) (aAud S w x) (by rw [aAud_n]; omega) (by rw [aAud_n]; exact hx) h1 (hS.aud hx hwn hne)
      exact ⟨g1, h2.tr g2, g3, by rw [← aAud_n S w x]; exact g4⟩
    · rw [if_neg hb, if_neg hb]
      exact ih (w + 1) z S (by omega) hx hI hS
set_option maxRecDepth 100000 in
set_option maxHeartbeats 4000000 in
theorem m_X2_begin {G : zG} {N : Nat} {Λ : zLay} {l : Launch} (hO : zOK G l) (z : zM) {b : Nat} (hW : zWo G N Λ b) (hA : rAll z b) {n : Nat} (hn6 : n ≤ 6) : zMet G N Λ l yX2_begin cX2_begin 3 none 2 [.ref (G.h + b), .int (nI n)] z none (bgnz z b n) := by
  refine zMet_of hO (by decide) (Nat.le_of_ble_eq_true rfl) ?_
  intro pP eE sS mM bB tT cC ls C hw hl
  have hl : lv_has ls 3 [(0, .ref (G.h + b)), (1, .int (nI n))] := hl
  obtain ⟨k1, hk1, e1⟩ := hA.2.1
  obtain ⟨k2, hk2, e2⟩ := hA.2.2
  refine lv_aload_n C.x C.b dX2_begin_0 rfl (lv_at hl 0 rfl) ?_
  refine lv_iload_n C.x C.b dX2_begin_1 rfl (lv_at hl 1 rfl) ?_
  refine z_put C hw hW.lt (hW.at _ _) ptX2_32 (hW.at _ _) (rfl) (rfl) (Nat.le_of_ble_eq_true rfl) dX2_begin_2 (fun H locs hw => ?_)
  obtain ⟨z_1, ez_1⟩ : ∃ q_9, q_9 = zi z b 0 (nI n) := ⟨_, rfl⟩
  have hw : zS G N Λ z_1 sS H locs := by rw [ez_1]; exact hw
  refine lv_iconst (v := 0) C.x C.b dX2_begin_5 (by decide) ?_
  refine lv_istore_n (lv' := [(2, .int 0), (0, .ref (G.h + b)), (1, .int (nI n))]) C.x C.b dX2_begin_6 rfl hl (by decide) rfl (fun ls hl => ?_)
  have loop : ∀ (d : Nat) (j : Nat) (H : Heap) (locs : List Loc) (ls : Array Slot) (hj : j + d = n), zS G N Λ (bgz z b n j) sS H locs → lv_has ls 3 [(0, .ref (G.h + b)), (2, .int (nI j))] → W pP l eE (zR 2) sS mM ([.ref (G.h + b), .int (nI n)] : List Value).toArray bB tT cC H locs 0 0 (MQ bB (zQc G N Λ none (bgnz z b n)) ([.ref (G.h + b), .int (nI n)] : List Value).toArray sS 0 0 (zA G)) (F0 mM 7 ls []) := by
    intro d
    induction d with
    | zero =>
      intro j H locs ls hj hw hl
      refine lv_iload_n C.x C.b dX2_begin_7 rfl (lv_at hl 1 rfl) ?_
      refine lv_aload_n C.x C.b dX2_begin_8 rfl (lv_at hl 0 rfl) ?_
      refine z_get C hw hW.lt (hW.at _ _) flX2_32 rfl dX2_begin_9 ?_
      refine lv_icmp_ge (tgt := 34) C.x C.b dX2_begin_12 (by decide) (fun c_12 => ?_) (fun c_12 => absurd (by rw [bgz_0]; exact zle (by omega) (by omega)) c_12)
      refine lv_aload_n C.x C.b dX2_begin_34 rfl (lv_at hl 0 rfl) ?_
      refine z_get C hw hW.lt (hW.at _ _) flX2_25 rfl dX2_begin_35 ?_
      refine lv_iconst (v := 0) C.x C.b dX2_begin_38 (by decide) ?_
      have hjn : j = n := by omega
      refine z_V0 (As := [.int 0]) (rest := []) C hw hl (m_X1_keep0 hO _ hW.queue (k := k1) (by rw [bgz_n _ _ _ _ _ (by omega) (by omega)]; exact e1) hk1) ivX2_39 hW.queue.lt (hW.queue.at _ _) rfl rfl ⟨(Nat.le_of_ble_eq_true rfl), (Nat.le_of_ble_eq_true rfl)⟩ (Nat.le_of_ble_eq_true rfl) ⟨Nat.zero_le _, Nat.zero_le _⟩ dX2_begin_39 (fun H locs hw => ?_)
      obtain ⟨z_2, ez_2⟩ : ∃ q_9, q_9 = zi (bgz z b n j) (b + 50) 3 0 := ⟨_, rfl⟩
      have hw : zS G N Λ z_2 sS H locs := by rw [ez_2]; exact hw
      refine lv_aload_n C.x C.b dX2_begin_42 rfl (lv_at hl 0 rfl) ?_
      refine z_get C hw hW.lt (hW.at _ _) flX2_29 rfl dX2_begin_43 ?_
      refine lv_iconst (v := 0) C.x C.b dX2_begin_46 (by decide) ?_
      refine z_V0 (As := [.int 0]) (rest := []) C hw hl (m_X1_keep0 hO _ hW.evid (k := k2) (by rw [ez_2, zi_at, if_neg (by omega), bgz_n _ _ _ _ _ (by omega) (by omega)]; exact e2) hk2) ivX2_39 hW.evid.lt (hW.evid.at _ _) rfl rfl ⟨(Nat.le_of_ble_eq_true rfl), (Nat.le_of_ble_eq_true rfl)⟩ (Nat.le_of_ble_eq_true rfl) ⟨Nat.zero_le _, Nat.zero_le _⟩ dX2_begin_47 (fun H locs hw => ?_)
      obtain ⟨z_3, ez_3⟩ : ∃ q_9, q_9 = zi z_2 (b + 52) 3 0 := ⟨_, rfl⟩
      have hw : zS G N Λ z_3 sS H locs := by rw [ez_3]; exact hw
      exact z_vret C hw dX2_begin_50 (rfl) (by rw [ez_3, ez_2, hjn]; rfl)
    | succ d ih =>
      intro j H locs ls hj hw hl
      refine lv_iload_n C.x C.b dX2_begin_7 rfl (lv_at hl 1 rfl) ?_
      refine lv_aload_n C.x C.b dX2_begin_8 rfl (lv_at hl 0 rfl) ?_
      refine z_get C hw hW.lt (hW.at _ _) flX2_32 rfl dX2_begin_9 ?_
      refine lv_icmp_ge (tgt := 34) C.x C.b dX2_begin_12 (by decide) (fun c_12 => absurd c_12 (by rw [bgz_0]; exact znle (by omega) (by omega))) (fun c_12 => ?_)
      have hj6 : j < 6 := by omega
      have hsj : rSane (bgz z b n j) (b + 2 + 8 * j) := (hA.1 j hj6).cg (fun i h1 h2 => bgz_n z b n j i (by omega) (by omega))
      refine lv_aload_n C.x C.b dX2_begin_15 rfl (lv_at hl 0 rfl) ?_
      refine z_get C hw hW.lt (hW.at _ _) flX2_11 rfl dX2_begin_16 ?_
      refine lv_iload_n C.x C.b dX2_begin_19 rfl (lv_at hl 1 rfl) ?_
      refine z_aaldM (a := G.h + (b + 2 + 8 * j)) C hw hW.lt1 hW.ma (zvin hj6 (by omega)) (by rw [zcl hj6 (by omega)]) dX2_begin_20 ?_
      refine lv_aload_n C.x C.b dX2_begin_21 rfl (lv_at hl 0 rfl) ?_
      refine z_get C hw hW.lt (hW.at _ _) flX2_32 rfl dX2_begin_22 ?_
      refine z_topi (y := nI n) (bgz_0 _ _ _ _) ?_
      refine z_V0 (As := [.int (nI n)]) (rest := []) C hw hl (m_X0_start hO _ (hW.m hj6) hsj) ivX2_36 (hW.m hj6).lt ((hW.m hj6).at _ _) rfl rfl ⟨(Nat.le_of_ble_eq_true rfl), (Nat.le_of_ble_eq_true rfl)⟩ (Nat.le_of_ble_eq_true rfl) ⟨Nat.zero_le _, Nat.zero_le _⟩ dX2_begin_25 (fun H locs hw => ?_)
      obtain ⟨z_4, ez_4⟩ : ∃ q_9, q_9 = stz (bgz z b n j) (b + 2 + 8 * j) j n := ⟨_, rfl⟩
      have hw : zS G N Λ z_4 sS H locs := by rw [ez_4]; exact hw
      refine lv_iinc (v := nI j + 1) (lv' := [(2, .int (nI j + 1)), (0, .ref (G.h + b))]) C.x C.b dX2_begin_28 hl (k := 1) rfl rfl (by decide) rfl (fun ls hl => ?_)
      have hl : lv_has ls 3 [(2, .int (nI (j + 1))), (0, .ref (G.h + b))] := by
        have e9 : nI j + 1 = nI (j + 1) := nI_1 j
        rw [← e9]; exact hl
      refine lv_goto (tgt := 7) C.x C.b dX2_begin_31 (by decide) ?_
      exact ih (j + 1) _ _ _ (by omega) (by rw [ez_4] at hw; exact hw) (lv_sub hl [1, 0] rfl)
  exact loop n 0 _ _ _ (by omega) (by rw [ez_1] at hw; exact hw) (lv_sub hl [1, 0] rfl)

set_option maxRecDepth 100000 in
set_option maxHeartbeats 4000000 in
theorem m_X2_copyWorld {G : zG} {N : Nat} {Λ : zLay} {l : Launch} (hO : zOK G l) (z : zM) {b b2 : Nat} (hW : zWo G N Λ b) (hW2 : zWo G N Λ b2) {S : aS} (hI : wI z b2 S) (hS : aOK S) (hne : b + 54 ≤ b2 ∨ b2 + 54 ≤ b) : zMet G N Λ l yX2_copyWorld cX2_copyWorld 3 none 3 [.ref (G.h + b), .ref (G.h + b2)] z none (cpw z b b2 S) := by
  refine zMet_of hO (by decide) (Nat.le_of_ble_eq_true rfl) ?_
  intro pP eE sS mM bB tT cC ls C hw hl
  have hl : lv_has ls 3 [(0, .ref (G.h + b)), (1, .ref (G.h + b2))] := hl
  have hn6 := hS.n6
  refine lv_aload_n C.x C.b dX2_copyWorld_0 rfl (lv_at hl 0 rfl) ?_
  refine lv_aload_n C.x C.b dX2_copyWorld_1 rfl (lv_at hl 1 rfl) ?_
  refine z_get C hw hW2.lt (hW2.at _ _) flX2_32 rfl dX2_copyWorld_2 ?_
  refine z_topi (y := nI S.n) (hI.n) ?_
  refine z_put C hw hW.lt (hW.at _ _) ptX2_32 (hW.at _ _) (rfl) (rfl) (Nat.le_of_ble_eq_true rfl) dX2_copyWorld_5 (fun H locs hw => ?_)
  obtain ⟨z_1, ez_1⟩ : ∃ q_9, q_9 = zi z b 0 (nI S.n) := ⟨_, rfl⟩
  have hw : zS G N Λ z_1 sS H locs := by rw [ez_1]; exact hw
  refine lv_iconst (v := 0) C.x C.b dX2_copyWorld_8 (by decide) ?_
  refine lv_istore_n (lv' := [(2, .int 0), (0, .ref (G.h + b)), (1, .ref (G.h + b2))]) C.x C.b dX2_copyWorld_9 rfl hl (by decide) rfl (fun ls hl => ?_)
  have loop : ∀ (d : Nat) (j : Nat) (H : Heap) (locs : List Loc) (ls : Array Slot) (hj : j + d = S.n), zS G N Λ (cwz z b b2 S j) sS H locs → lv_has ls 3 [(0, .ref (G.h + b)), (1, .ref (G.h + b2)), (2, .int (nI j))] → W pP l eE (zR 3) sS mM ([.ref (G.h + b), .ref (G.h + b2)] : List Value).toArray bB tT cC H locs 0 0 (MQ bB (zQc G N Λ none (cpw z b b2 S)) ([.ref (G.h + b), .ref (G.h + b2)] : List Value).toArray sS 0 0 (zA G)) (F0 mM 10 ls []) := by
    intro d
    induction d with
    | zero =>
      intro j H locs ls hj hw hl
      refine lv_iload_n C.x C.b dX2_copyWorld_10 rfl (lv_at hl 2 rfl) ?_
      refine lv_aload_n C.x C.b dX2_copyWorld_11 rfl (lv_at hl 0 rfl) ?_
      refine z_get C hw hW.lt (hW.at _ _) flX2_32 rfl dX2_copyWorld_12 ?_
      refine lv_icmp_ge (tgt := 39) C.x C.b dX2_copyWorld_15 (by decide) (fun c_15 => ?_) (fun c_15 => absurd (by rw [cwz_0]; exact zle (by omega) (by omega)) c_15)
      refine lv_aload_n C.x C.b dX2_copyWorld_39 rfl (lv_at hl 0 rfl) ?_
      refine z_get C hw hW.lt (hW.at _ _) flX2_25 rfl dX2_copyWorld_40 ?_
      refine lv_aload_n C.x C.b dX2_copyWorld_43 rfl (lv_at hl 1 rfl) ?_
      refine z_get C hw hW2.lt (hW2.at _ _) flX2_25 rfl dX2_copyWorld_44 ?_
      have hjn : j = S.n := by omega
      refine z_V0 (As := [.ref (G.h + (b2 + 50))]) (rest := []) C hw hl (m_X1_copyRows hO _ hW.queue hW2.queue (k := S.q.1) (by rw [cwz_n _ _ _ _ _ _ (by omega) (by omega)]; exact hI.q.1) hS.q.1) ivX2_46 hW.queue.lt (hW.queue.at _ _) rfl rfl ⟨(Nat.le_of_ble_eq_true rfl), (Nat.le_of_ble_eq_true rfl)⟩ (Nat.le_of_ble_eq_true rfl) ⟨Nat.zero_le _, Nat.zero_le _⟩ dX2_copyWorld_47 (fun H locs hw => ?_)
      obtain ⟨z_2, ez_2⟩ : ∃ q_9, q_9 = cpr (cwz z b b2 S j) (b + 50) (b2 + 50) 5 S.q.1 := ⟨_, rfl⟩
      have hw : zS G N Λ z_2 sS H locs := by rw [ez_2]; exact hw
      refine lv_aload_n C.x C.b dX2_copyWorld_50 rfl (lv_at hl 0 rfl) ?_
      refine z_get C hw hW.lt (hW.at _ _) flX2_29 rfl dX2_copyWorld_51 ?_
      refine lv_aload_n C.x C.b dX2_copyWorld_54 rfl (lv_at hl 1 rfl) ?_
      refine z_get C hw hW2.lt (hW2.at _ _) flX2_29 rfl dX2_copyWorld_55 ?_
      refine z_V0 (As := [.ref (G.h + (b2 + 52))]) (rest := []) C hw hl (m_X1_copyRows hO _ hW.evid hW2.evid (k := S.ev.1) (by rw [ez_2, cpr_n _ _ _ _ (by omega) (by omega), cwz_n _ _ _ _ _ _ (by omega) (by omega)]; exact hI.e.1) hS.e.1) ivX2_46 hW.evid.lt (hW.evid.at _ _) rfl rfl ⟨(Nat.le_of_ble_eq_true rfl), (Nat.le_of_ble_eq_true rfl)⟩ (Nat.le_of_ble_eq_true rfl) ⟨Nat.zero_le _, Nat.zero_le _⟩ dX2_copyWorld_58 (fun H locs hw => ?_)
      obtain ⟨z_3, ez_3⟩ : ∃ q_9, q_9 = cpr z_2 (b + 52) (b2 + 52) 4 S.ev.1 := ⟨_, rfl⟩
      have hw : zS G N Λ z_3 sS H locs := by rw [ez_3]; exact hw
      exact z_vret C hw dX2_copyWorld_61 (rfl) (by rw [ez_3, ez_2, hjn]; rfl)
    | succ d ih =>
      intro j H locs ls hj hw hl
      refine lv_iload_n C.x C.b dX2_copyWorld_10 rfl (lv_at hl 2 rfl) ?_
      refine lv_aload_n C.x C.b dX2_copyWorld_11 rfl (lv_at hl 0 rfl) ?_
      refine z_get C hw hW.lt (hW.at _ _) flX2_32 rfl dX2_copyWorld_12 ?_
      refine lv_icmp_ge (tgt := 39) C.x C.b dX2_copyWorld_15 (by decide) (fun c_15 => absurd c_15 (by rw [cwz_0]; exact znle (by omega) (by omega))) (fun c_15 => ?_)
      have hjn : j < S.n := by omega
      have hj6 : j < 6 := by omega
      have hmj : rM (cwz z b b2 S j) (b2 + 2 + 8 * j) (S.m j) := (hI.m hjn).cg (fun i h1 h2 => cwz_n z b b2 S j i (by omega) (by omega))
      have hoj := hS.m hjn
      refine lv_aload_n C.x C.b dX2_copyWorld_18 rfl (lv_at hl 0 rfl) ?_
      refine z_get C hw hW.lt (hW.at _ _) flX2_11 rfl dX2_copyWorld_19 ?_
      refine lv_iload_n C.x C.b dX2_copyWorld_22 rfl (lv_at hl 2 rfl) ?_
      refine z_aaldM (a := G.h + (b + 2 + 8 * j)) C hw hW.lt1 hW.ma (zvin hj6 (by omega)) (by rw [zcl hj6 (by omega)]) dX2_copyWorld_23 ?_
      refine lv_aload_n C.x C.b dX2_copyWorld_24 rfl (lv_at hl 1 rfl) ?_
      refine z_get C hw hW2.lt (hW2.at _ _) flX2_11 rfl dX2_copyWorld_25 ?_
      refine lv_iload_n C.x C.b dX2_copyWorld_28 rfl (lv_at hl 2 rfl) ?_
      refine z_aaldM (a := G.h + (b2 + 2 + 8 * j)) C hw hW2.lt1 hW2.ma (zvin hj6 (by omega)) (by rw [zcl hj6 (by omega)]) dX2_copyWorld_29 ?_
      refine z_V0 (As := [.ref (G.h + (b2 + 2 + 8 * j))]) (rest := []) C hw hl (m_X0_copyMachine hO _ (hW.m hj6) (hW2.m hj6) (by omega) hmj.1.2.1 hoj.sil hmj.1.2.2.1 hoj.lie hmj.2.2.1.1 hoj.log.1 hmj.2.2.2.1.1 hoj.held.1 hmj.2.2.2.2.1 hoj.pend.1) ivX2_42 (hW.m hj6).lt ((hW.m hj6).at _ _) rfl rfl ⟨(Nat.le_of_ble_eq_true rfl), (Nat.le_of_ble_eq_true rfl)⟩ (Nat.le_of_ble_eq_true rfl) ⟨Nat.zero_le _, Nat.zero_le _⟩ dX2_copyWorld_30 (fun H locs hw => ?_)
      obtain ⟨z_4, ez_4⟩ : ∃ q_9, q_9 = cpm (cwz z b b2 S j) (b + 2 + 8 * j) (b2 + 2 + 8 * j) (S.m j).sil (S.m j).lie (S.m j).log.1 (S.m j).held.1 (S.m j).pend.1 := ⟨_, rfl⟩
      have hw : zS G N Λ z_4 sS H locs := by rw [ez_4]; exact hw
      refine lv_iinc (v := nI j + 1) (lv' := [(2, .int (nI j + 1)), (0, .ref (G.h + b)), (1, .ref (G.h + b2))]) C.x C.b dX2_copyWorld_33 hl (k := 2) rfl rfl (by decide) rfl (fun ls hl => ?_)
      have hl : lv_has ls 3 [(2, .int (nI (j + 1))), (0, .ref (G.h + b)), (1, .ref (G.h + b2))] := by
        have e9 : nI j + 1 = nI (j + 1) := nI_1 j
        rw [← e9]; exact hl
      refine lv_goto (tgt := 10) C.x C.b dX2_copyWorld_36 (by decide) ?_
      exact ih (j + 1) _ _ _ (by omega) (by rw [ez_4] at hw; exact hw) (lv_sub hl [1, 2, 0] rfl)
  exact loop S.n 0 _ _ _ (by omega) (by rw [ez_1] at hw; exact hw) (lv_sub hl [1, 2, 0] rfl)

set_option maxRecDepth 100000 in
set_option maxHeartbeats 4000000 in
theorem m_X2_judgeByAll {G : zG} {N : Nat} {Λ : zLay} {l : Launch} (hO : zOK G l) (z : zM) {b : Nat} (hW : zWo G N Λ b) {S : aS} (hI : wI z b S) (hS : aOK S) {x : Nat} (hx : x < S.n) (hx6 : x < 6) : zMet G N Λ l yX2_judgeByAll cX2_judgeByAll 5 (some .int) 5 [.ref (G.h + b), .ref (G.h + (b + 2 + 8 * x))] z (some (.int (nI (jba x S.n 0 S).2))) (jbz b x S.n 0 z S) := by
  refine zMet_of hO (by decide) (Nat.le_of_ble_eq_true rfl) ?_
  intro pP eE sS mM bB tT cC ls C hw hl
  have hl : lv_has ls 5 [(0, .ref (G.h + b)), (1, .ref (G.h + (b + 2 + 8 * x)))] := hl
  refine lv_iconst (v := 0) C.x C.b dX2_judgeByAll_0 (by decide) ?_
  refine lv_istore_n (lv' := [(2, .int 0), (0, .ref (G.h + b)), (1, .ref (G.h + (b + 2 + 8 * x)))]) C.x C.b dX2_judgeByAll_1 rfl hl (by decide) rfl (fun ls hl => ?_)
  refine lv_iconst (v := 0) C.x C.b dX2_judgeByAll_2 (by decide) ?_
  refine lv_istore_n (lv' := [(3, .int 0), (2, .int 0), (0, .ref (G.h + b)), (1, .ref (G.h + (b + 2 + 8 * x)))]) C.x C.b dX2_judgeByAll_3 rfl hl (by decide) rfl (fun ls hl => ?_)
  have loop : ∀ (d : Nat) (w ch : Nat) (zc : zM) (Sc : aS) (H : Heap) (locs : List Loc) (ls : Array Slot) (hwn : w + d = Sc.n) (hch : ch ≤ w) (hxc : x < Sc.n) (hIc : wI zc b Sc) (hSc : aOK Sc) (hz : jbz b x S.n 0 z S = jbz b x d w zc Sc) (hr : (jba x S.n 0 S).2 = ch + (jba x d w Sc).2), zS G N Λ zc sS H locs → lv_has ls 5 [(0, .ref (G.h + b)), (1, .ref (G.h + (b + 2 + 8 * x))), (2, .int (nI ch)), (3, .int (nI w))] → W pP l eE (zR 5) sS mM ([.ref (G.h + b), .ref (G.h + (b + 2 + 8 * x))] : List Value).toArray bB tT cC H locs 0 0 (MQ bB (zQc G N Λ (some (.int (nI (jba x S.n 0 S).2))) (jbz b x S.n 0 z S)) ([.ref (G.h + b), .ref (G.h + (b + 2 + 8 * x))] : List Value).toArray sS 0 0 (zA G)) (F0 mM 4 ls []) := by
    intro d
    induction d with
    | zero =>
      intro w ch zc Sc H locs ls hwn hch hxc hIc hSc hz hr hw hl
      have hn6 := hSc.n6
      refine lv_iload_n C.x C.b dX2_judgeByAll_4 rfl (lv_at hl 3 rfl) ?_
      refine lv_aload_n C.x C.b dX2_judgeByAll_5 rfl (lv_at hl 0 rfl) ?_
      refine z_get C hw hW.lt (hW.at _ _) flX2_32 rfl dX2_judgeByAll_6 ?_
      refine lv_icmp_ge (tgt := 60) C.x C.b dX2_judgeByAll_9 (by decide) (fun c_9 => ?_) (fun c_9 => absurd (by rw [hIc.n]; exact zle (by omega) (by omega)) c_9)
      refine lv_iload_n C.x C.b dX2_judgeByAll_60 rfl (lv_at hl 2 rfl) ?_
      exact z_iret C hw dX2_judgeByAll_61 (by rw [hr]; rfl) (by rw [hz]; rfl)
    | succ d ih =>
      intro w ch zc Sc H locs ls hwn hch hxc hIc hSc hz hr hw hl
      have hn6 := hSc.n6
      have hmx := hIc.m hxc
      have hox := hSc.m hxc
      refine lv_iload_n C.x C.b dX2_judgeByAll_4 rfl (lv_at hl 3 rfl) ?_
      refine lv_aload_n C.x C.b dX2_judgeByAll_5 rfl (lv_at hl 0 rfl) ?_
      refine z_get C hw hW.lt (hW.at _ _) flX2_32 rfl dX2_judgeByAll_6 ?_
      refine lv_icmp_ge (tgt := 60) C.x C.b dX2_judgeByAll_9 (by decide) (fun c_9 => absurd c_9 (by rw [hIc.n]; exact znle (by omega) (by omega))) (fun c_9 => ?_)
      have hwn : w < Sc.n := by omega
      have hw6 : w < 6 := by omega
      have hve := hox.ver w
      have hjv := jdg_v Sc w x
      refine lv_aload_n C.x C.b dX2_judgeByAll_12 rfl (lv_at hl 1 rfl) ?_
      refine lv_iload_n C.x C.b dX2_judgeByAll_13 rfl (lv_at hl 3 rfl) ?_
      refine z_Vv (As := [.int (nI w)]) (rest := []) C hw hl (m_X0_hasWitness hO _ (hW.m hx6) hmx.1.2.2.2 hw6) ivX2_131 (hW.m hx6).lt ((hW.m hx6).at _ _) rfl rfl ⟨(Nat.le_of_ble_eq_true rfl), (Nat.le_of_ble_eq_true rfl)⟩ (Nat.le_of_ble_eq_true rfl) ⟨Nat.zero_le _, Nat.zero_le _⟩ dX2_judgeByAll_14 (fun H locs hw => ?_)
      refine lv_if_eq (tgt := 54) C.x C.b dX2_judgeByAll_17 (by decide) (fun c_17 => ?_) (fun c_17 => ?_)
      · have hb0 : ¬ (Sc.m x).wit.testBit w = true := fun q => by rw [if_pos q] at c_17; exact absurd c_17 (by decide)
        refine lv_iinc (v := nI w + 1) (lv' := [(3, .int (nI w + 1)), (0, .ref (G.h + b)), (1, .ref (G.h + (b + 2 + 8 * x))), (2, .int (nI ch))]) C.x C.b dX2_judgeByAll_54 hl (k := 3) rfl rfl (by decide) rfl (fun ls hl => ?_)
        have hl : lv_has ls 5 [(3, .int (nI (w + 1))), (0, .ref (G.h + b)), (1, .ref (G.h + (b + 2 + 8 * x))), (2, .int (nI ch))] := by
          have e9 : nI w + 1 = nI (w + 1) := nI_1 w
          rw [← e9]; exact hl
        refine lv_goto (tgt := 4) C.x C.b dX2_judgeByAll_57 (by decide) ?_
        exact ih (w + 1) ch zc Sc _ _ _ (by omega) (by omega) hxc hIc hSc (by rw [hz, jbz, if_neg hb0]) (by rw [hr, jba, if_neg hb0]) hw (lv_sub hl [1, 2, 3, 0] rfl)
      · have hb1 : (Sc.m x).wit.testBit w = true := by
          cases h8 : (Sc.m x).wit.testBit w with
          | true => rfl
          | false => rw [h8] at c_17; exact absurd rfl c_17
        have hne : w ≠ x := fun q => by
          subst q
          rw [hox.nw] at hb1
          cases hb1
        have hevc : ¬ (Sc.m x).ver w = 2 → Sc.ev.1 < 30 := fun q => exps_lt hSc hxc hwn hne q
        refine lv_aload_n C.x C.b dX2_judgeByAll_20 rfl (lv_at hl 1 rfl) ?_
        refine z_get C hw (hW.m hx6).lt ((hW.m hx6).at _ _) flX2_134 rfl dX2_judgeByAll_21 ?_
        refine lv_iload_n C.x C.b dX2_judgeByAll_24 rfl (lv_at hl 3 rfl) ?_
        refine z_iald C hw ((hW.m hx6).lt1) ((hW.m hx6).ver) (zvin hw6 (by omega)) dX2_judgeByAll_25 ?_
        refine z_topi (y := nI ((Sc.m x).ver w)) (by rw [zcl hw6 (by omega)]; exact hmx.2.1 w hw6) ?_
        refine lv_istore (lv' := [(4, .int (nI ((Sc.m x).ver w))), (0, .ref (G.h + b)), (1, .ref (G.h + (b + 2 + 8 * x))), (2, .int (nI ch)), (3, .int (nI w))]) C.x C.b dX2_judgeByAll_26 hl (by decide) rfl (fun ls hl => ?_)
        refine lv_aload_n C.x C.b dX2_judgeByAll_28 rfl (lv_at hl 2 rfl) ?_
        refine z_get C hw (hW.m hx6).lt ((hW.m hx6).at _ _) flX2_134 rfl dX2_judgeByAll_29 ?_
        refine lv_iload_n C.x C.b dX2_judgeByAll_32 rfl (lv_at hl 4 rfl) ?_
        refine lv_aload_n C.x C.b dX2_judgeByAll_33 rfl (lv_at hl 1 rfl) ?_
        refine lv_iload_n C.x C.b dX2_judgeByAll_34 rfl (lv_at hl 4 rfl) ?_
        refine lv_aload_n C.x C.b dX2_judgeByAll_35 rfl (lv_at hl 2 rfl) ?_
        refine z_pc (pc2 := 36) rfl ?_
        refine z_Vv (As := [.int (nI w), .ref (G.h + (b + 2 + 8 * x))]) (rest := [.int (nI w), .ref (G.h + (b + 2 + 8 * x + 1))]) C hw hl (m_X2_judge hO _ hW hIc hSc hxc hx6 hw6 hevc) ivX2_138 hW.lt (hW.at _ _) rfl rfl ⟨(Nat.le_of_ble_eq_true rfl), (Nat.le_of_ble_eq_true rfl)⟩ (Nat.le_of_ble_eq_true rfl) ⟨Nat.zero_le _, Nat.zero_le _⟩ dX2_judgeByAll_36 (fun H locs hw => ?_)
        obtain ⟨z_1, ez_1⟩ : ∃ q_9, q_9 = jzo zc (b + 52) Sc.ev.1 w x (jdg Sc w x).2 := ⟨_, rfl⟩
        have hw : zS G N Λ z_1 sS H locs := by rw [ez_1]; exact hw
        refine z_iast C hw ((hW.m hx6).lt1) ((hW.m hx6).ver) (zvin hw6 (by omega)) dX2_judgeByAll_39 (fun H locs hw => ?_)
        obtain ⟨z_2, ez_2⟩ : ∃ q_9, q_9 = zi z_1 (b + 2 + 8 * x + 1) (nI w).toNatClampNeg (nI (jdg Sc w x).1) := ⟨_, rfl⟩
        have hw : zS G N Λ z_2 sS H locs := by rw [ez_2]; exact hw
        have ej : z_2 = jz1 zc b Sc w x := by rw [ez_2, ez_1, zcl hw6 (by omega)]; rfl
        refine lv_aload_n C.x C.b dX2_judgeByAll_40 rfl (lv_at hl 2 rfl) ?_
        refine z_get C hw (hW.m hx6).lt ((hW.m hx6).at _ _) flX2_134 rfl dX2_judgeByAll_41 ?_
        refine lv_iload_n C.x C.b dX2_judgeByAll_44 rfl (lv_at hl 4 rfl) ?_
        refine z_iald C hw ((hW.m hx6).lt1) ((hW.m hx6).ver) (zvin hw6 (by omega)) dX2_judgeByAll_45 ?_
        refine z_topi (y := nI (jdg Sc w x).1) (by rw [ej, zcl hw6 (by omega), jz1, zi_at, if_pos ⟨rfl, rfl⟩]) ?_
        refine lv_iload C.x C.b dX2_judgeByAll_46 (lv_at hl 0 rfl) ?_
        refine lv_icmp_eq (tgt := 54) C.x C.b dX2_judgeByAll_48 (by decide) (fun c_48 => ?_) (fun c_48 => ?_)
        · have h7 : (jdg Sc w x).1 = (Sc.m x).ver w := (nI_eq (by omega) (by omega)).mp c_48
          refine lv_iinc (v := nI w + 1) (lv' := [(3, .int (nI w + 1)), (4, .int (nI ((Sc.m x).ver w))), (0, .ref (G.h + b)), (1, .ref (G.h + (b + 2 + 8 * x))), (2, .int (nI ch))]) C.x C.b dX2_judgeByAll_54 hl (k := 4) rfl rfl (by decide) rfl (fun ls hl => ?_)
          have hl : lv_has ls 5 [(3, .int (nI (w + 1))), (4, .int (nI ((Sc.m x).ver w))), (0, .ref (G.h + b)), (1, .ref (G.h + (b + 2 + 8 * x))), (2, .int (nI ch))] := by
            have e9 : nI w + 1 = nI (w + 1) := nI_1 w
            rw [← e9]; exact hl
          refine lv_goto (tgt := 4) C.x C.b dX2_judgeByAll_57 (by decide) ?_
          exact ih (w + 1) ch (jz1 zc b Sc w x) (aAud Sc w x) _ _ _ (by rw [aAud_n]; omega) (by omega) (by rw [aAud_n]; exact hxc) ((jz1_wI hIc hSc hxc hevc).1) (hSc.aud hxc hwn hne) (by rw [hz, jbz, if_pos hb1]) (by rw [hr, jba, if_pos hb1, if_pos h7]; show ch + (0 + _) = _; omega) (by rw [ej] at hw; exact hw) (lv_sub hl [2, 3, 4, 0] rfl)
        · have h7 : ¬ (jdg Sc w x).1 = (Sc.m x).ver w := fun q => c_48 (by rw [q])
          refine lv_iinc (v := nI ch + 1) (lv' := [(2, .int (nI ch + 1)), (4, .int (nI ((Sc.m x).ver w))), (0, .ref (G.h + b)), (1, .ref (G.h + (b + 2 + 8 * x))), (3, .int (nI w))]) C.x C.b dX2_judgeByAll_51 hl (k := 3) rfl rfl (by decide) rfl (fun ls hl => ?_)
          have hl : lv_has ls 5 [(2, .int (nI (ch + 1))), (4, .int (nI ((Sc.m x).ver w))), (0, .ref (G.h + b)), (1, .ref (G.h + (b + 2 + 8 * x))), (3, .int (nI w))] := by
            have e9 : nI ch + 1 = nI (ch + 1) := nI_1 ch
            rw [← e9]; exact hl
          refine lv_iinc (v := nI w + 1) (lv' := [(3, .int (nI w + 1)), (2, .int (nI (ch + 1))), (4, .int (nI ((Sc.m x).ver w))), (0, .ref (G.h + b)), (1, .ref (G.h + (b + 2 + 8 * x)))]) C.x C.b dX2_judgeByAll_54 hl (k := 4) rfl rfl (by decide) rfl (fun ls hl => ?_)
          have hl : lv_has ls 5 [(3, .int (nI (w + 1))), (2, .int (nI (ch + 1))), (4, .int (nI ((Sc.m x).ver w))), (0, .ref (G.h + b)), (1, .ref (G.h + (b + 2 + 8 * x)))] := by
            have e9 : nI w + 1 = nI (w + 1) := nI_1 w
            rw [← e9]; exact hl
          refine lv_goto (tgt := 4) C.x C.b dX2_judgeByAll_57 (by decide) ?_
          exact ih (w + 1) (ch + 1) (jz1 zc b Sc w x) (aAud Sc w x) _ _ _ (by rw [aAud_n]; omega) (by omega) (by rw [aAud_n]; exact hxc) ((jz1_wI hIc hSc hxc hevc).1) (hSc.aud hxc hwn hne) (by rw [hz, jbz, if_pos hb1]) (by rw [hr, jba, if_pos hb1, if_neg h7]; show ch + (1 + _) = _; omega) (by rw [ej] at hw; exact hw) (lv_sub hl [3, 4, 1, 0] rfl)
  exact loop S.n 0 0 z S _ _ _ (by omega) (by omega) hx hI hS rfl (by rw [Nat.zero_add]) hw (lv_sub hl [2, 3, 1, 0] rfl)
