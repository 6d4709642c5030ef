/-! ===== what a state IS: numbers, by machine and table; and how the class's cells show it ===== -/
/-- a table: how many rows, and what they hold, by row and column -/
abbrev aT : Type := Nat × (Nat → Nat → Nat)
/-- a machine: (state, silent, about to lie, witnesses), verdicts, log (kind, peer + 1, value), held (machine, entry, chain), pending -/
abbrev aM : Type := (Nat × Nat × Nat × Nat) × (Nat → Nat) × aT × aT × aT
/-- a world: how many machines, the machines, the queue (sender, entry, chain, receiver, value), the evidence -/
abbrev aS : Type := Nat × (Nat → aM) × aT × aT
abbrev aM.st (M : aM) : Nat := M.1.1
abbrev aM.sil (M : aM) : Nat := M.1.2.1
abbrev aM.lie (M : aM) : Nat := M.1.2.2.1
abbrev aM.wit (M : aM) : Nat := M.1.2.2.2
abbrev aM.ver (M : aM) : Nat → Nat := M.2.1
abbrev aM.log (M : aM) : aT := M.2.2.1
abbrev aM.held (M : aM) : aT := M.2.2.2.1
abbrev aM.pend (M : aM) : aT := M.2.2.2.2
abbrev aS.n (S : aS) : Nat := S.1
abbrev aS.m (S : aS) : Nat → aM := S.2.1
abbrev aS.q (S : aS) : aT := S.2.2.1
abbrev aS.ev (S : aS) : aT := S.2.2.2
def row3 (a b c : Nat) : Nat → Nat := fun k => match k with
  | 0 => a
  | 1 => b
  | _ => c
def row4 (a b c d : Nat) : Nat → Nat := fun k => match k with
  | 0 => a
  | 1 => b
  | 2 => c
  | _ => d
def row5 (a b c d f : Nat) : Nat → Nat := fun k => match k with
  | 0 => a
  | 1 => b
  | 2 => c
  | 3 => d
  | _ => f
def tpush (T : aT) (r : Nat → Nat) : aT := (T.1 + 1, va_up T.2 T.1 r)
def tpop (T : aT) : aT := (T.1 - 1, fun j => T.2 (j + 1))
def tkeep (T : aT) (k : Nat) : aT := (k, T.2)
/-- the chain over a log's rows -/
def CH (r : Nat → Nat → Nat) : Nat → Nat
  | 0 => 1
  | j + 1 => nc (CH r j) (r j 0) (r j 1) (r j 2)
theorem CH_lt (r : Nat → Nat → Nat) (j : Nat) : CH r j < 2147483647 := by
  cases j with
  | zero => show 1 < 2147483647; decide
  | succ j => exact nc_lt _ _ _ _
theorem CH_congr {r r' : Nat → Nat → Nat} {k : Nat} (h : ∀ j, j < k → r j = r' j) : CH r k = CH r' k := by
  induction k with
  | zero => rfl
  | succ k ih =>
    show nc _ _ _ _ = nc _ _ _ _
    rw [ih (fun j hj => h j (Nat.lt_succ_of_lt hj)), h k (Nat.lt_succ_self k)]
def pk (a q v : Nat) : Nat := 100000 * a + 10000 * q + v
/-- a table's cells in the class: the object at t, the cells at t + 1 -/
def rTb (z : zM) (t w : Nat) (T : aT) : Prop := z.1 t 3 = nI T.1 ∧ ∀ j, j < T.1 → ∀ c, c < w → z.1 (t + 1) (j * w + c) = nI (T.2 j c)
/-- a log's rows, its chain left out -/
def rRow (z : zM) (t k : Nat) (r : Nat → Nat → Nat) : Prop := ∀ j, j < k → z.1 (t + 1) (j * 4 + 0) = nI (r j 0) ∧ z.1 (t + 1) (j * 4 + 1) = pI (r j 1) ∧ z.1 (t + 1) (j * 4 + 2) = nI (r j 2)
def rLog (z : zM) (t : Nat) (T : aT) : Prop := z.1 t 3 = nI T.1 ∧ rRow z t T.1 T.2 ∧ ∀ j, j < T.1 → z.1 (t + 1) (j * 4 + 3) = nI (CH T.2 (j + 1))
def rM (z : zM) (b : Nat) (M : aM) : Prop := (z.1 b 1 = nI M.st ∧ z.1 b 2 = nI M.sil ∧ z.1 b 3 = nI M.lie ∧ z.1 b 4 = nI M.wit) ∧ (∀ w, w < 6 → z.1 (b + 1) w = nI (M.ver w)) ∧ rLog z (b + 2) M.log ∧ rTb z (b + 4) 3 M.held ∧ rTb z (b + 6) 5 M.pend
def rCnt (z : zM) (t mc : Nat) : Prop := ∃ k, k ≤ mc ∧ z.1 t 3 = nI k
/-- the counts of a machine's tables are in range, whether the machine is in use or not -/
def rSane (z : zM) (b : Nat) : Prop := rCnt z (b + 2) 40 ∧ rCnt z (b + 4) 60 ∧ rCnt z (b + 6) 40
def rW (z : zM) (b : Nat) (S : aS) : Prop := z.1 b 0 = nI S.n ∧ (∀ x, x < S.n → rM z (b + 2 + 8 * x) (S.m x)) ∧ rTb z (b + 50) 5 S.q ∧ rTb z (b + 52) 4 S.ev
def rAll (z : zM) (b : Nat) : Prop := (∀ x, x < 6 → rSane z (b + 2 + 8 * x)) ∧ rCnt z (b + 50) 40 ∧ rCnt z (b + 52) 30
/-- nothing but the n cells from lo on has changed -/
def zfr (z z' : zM) (lo n : Nat) : Prop := (∀ i, (i < lo ∨ lo + n ≤ i) → z'.1 i = z.1 i) ∧ z'.2 = z.2
/-- what a log's rows may hold -/
def okRow (r : Nat → Nat → Nat) (k : Nat) : Prop := ∀ j, j < k → r j 0 ≤ 2 ∧ r j 1 ≤ 6 ∧ r j 2 < 1000
def chv (z : zM) (c i : Nat) : Int32 := if i = 0 then 1 else z.1 c ((i - 1) * 4 + 3)
theorem chv_log {z : zM} {t : Nat} {T : aT} (h : rLog z t T) {i : Nat} (hi : i ≤ T.1) : chv z (t + 1) i = nI (CH T.2 i) := by
  cases i with
  | zero => rfl
  | succ i => exact h.2.2 i (by omega)
def lapp (z : zM) (t k a q v h : Nat) : zM := zi (zi (zi (zi (zi z t 3 (nI (k + 1))) (t + 1) (k * 4 + 0) (nI a)) (t + 1) (k * 4 + 1) (pI q)) (t + 1) (k * 4 + 2) (nI v)) (t + 1) (k * 4 + 3) (nI (nc h a q v))
theorem lapp_fr (z : zM) (t k a q v h : Nat) : zfr z (lapp z t k a q v h) t 2 := by
  refine ⟨fun i hi => ?_, rfl⟩
  funext j
  simp only [lapp, zi_at]
  rw [if_neg (by omega), if_neg (by omega), if_neg (by omega), if_neg (by omega), if_neg (by omega)]
theorem lapp_log {z : zM} {t : Nat} {T : aT} (h : rLog z t T) (a q v : Nat) : rLog (lapp z t T.1 a q v (CH T.2 T.1)) t (tpush T (row3 a q v)) := by
  have hr : ∀ j, j < T.1 → (tpush T (row3 a q v)).2 j = T.2 j := fun j hj => va_up_ne _ _ (by omega)
  have hrk : (tpush T (row3 a q v)).2 T.1 = row3 a q v := va_up_self _ _ _
  have hn : ∀ i j, i = t + 1 → (∀ c, c < 4 → j ≠ T.1 * 4 + c) → (lapp z t T.1 a q v (CH T.2 T.1)).1 i j = z.1 i j := by
    intro i j hi hj
    have h0 := hj 0 (by omega)
    have h1 := hj 1 (by omega)
    have h2 := hj 2 (by omega)
    have h3 := hj 3 (by omega)
    simp only [lapp, zi_at]
    rw [if_neg (by omega), if_neg (by omega), if_neg (by omega), if_neg (by omega), if_neg (by omega)]
  have hc : ∀ j, j ≤ T.1 → CH (tpush T (row3 a q v)).2 j = CH T.2 j := fun j hj => CH_congr (fun i hi => hr i (by omega))
  refine ⟨?_, fun j hj => ?_, fun j hj => ?_⟩
  · simp only [lapp, zi_at]
    rw [if_neg (by omega), if_neg (by omega), if_neg (by omega), if_neg (by omega), if_pos (by simp)]
    rfl
  · have hj : j < T.1 + 1 := hj
    by_cases hjk : j = T.1
    · subst hjk
      rw [hrk]
      simp only [lapp, zi_at]
      refine ⟨?_, ?_, ?_⟩
      · rw [if_neg (by omega), if_neg (by omega), if_neg (by omega), if_pos (by simp)]; rfl
      · rw [if_neg (by omega), if_neg (by omega), if_pos (by simp)]; rfl
      · rw [if_neg (by omega), if_pos (by simp)]; rfl
    · have hj2 : j < T.1 := by omega
      rw [hr j hj2, hn _ _ rfl (by omega), hn _ _ rfl (by omega), hn _ _ rfl (by omega)]
      exact h.2.1 j hj2
  · have hj : j < T.1 + 1 := hj
    by_cases hjk : j = T.1
    · subst hjk
      show _ = nI (nc (CH (tpush T (row3 a q v)).2 T.1) _ _ _)
      rw [hc _ (Nat.le_refl _), hrk]
      simp only [lapp, zi_at]
      rw [if_pos (by simp)]; rfl
    · have hj2 : j < T.1 := by omega
      rw [hc (j + 1) (by omega), hn _ _ rfl (by omega)]
      exact h.2.2 j hj2
theorem zpos {i : Nat} (h : ¬ nI i = 0) : 1 ≤ i := Nat.pos_of_ne_zero (fun q => h (by rw [q]; rfl))
theorem zzero {i : Nat} (hi : i < 2 ^ 31) (h : nI i = 0) : i = 0 := (nI_eq (b := 0) hi (by omega)).mp h
theorem zbool {n : Nat} (h : n < 2) : narrow .boolean (.int (nI n)) = .int (nI n) := by
  rcases (show n = 0 ∨ n = 1 by omega) with rfl | rfl <;> rfl
theorem zboolf {n : Nat} (h : n < 2) : fits .boolean (.int (nI n)) = true := by
  rcases (show n = 0 ∨ n = 1 by omega) with rfl | rfl <;> rfl
theorem pI_eq {a b : Nat} (ha : a ≤ 6) (hb : b ≤ 6) : pI a = pI b ↔ a = b := by
  refine ⟨fun h => ?_, fun h => by rw [h]⟩
  have h2 : pI a + 1 = pI b + 1 := by rw [h]
  rw [pI_1, pI_1] at h2
  exact (nI_eq (by omega) (by omega)).mp h2
def oI (o : Option Nat) : Int32 := match o with
  | none => -1
  | some e => nI e
/-- the log's chain anew, from entry e on, as far as entry k -/
def rchz (z : zM) (c : Nat) (r : Nat → Nat → Nat) (e k : Nat) : zM := zr z c (fun i => if i % 4 = 3 ∧ e ≤ i / 4 ∧ i / 4 < k then nI (CH r (i / 4 + 1)) else z.1 c i)
theorem rchz_0 (z : zM) (c : Nat) (r : Nat → Nat → Nat) (e : Nat) : rchz z c r e e = z := by
  refine Prod.ext (funext fun a => ?_) rfl
  by_cases h : a = c
  · subst h
    rw [rchz, zr_s]
    funext i
    rw [if_neg (by omega)]
  · rw [rchz, zr_n _ _ h]
theorem rchz_at (z : zM) (c : Nat) (r : Nat → Nat → Nat) (e k i : Nat) : (rchz z c r e k).1 c i = if i % 4 = 3 ∧ e ≤ i / 4 ∧ i / 4 < k then nI (CH r (i / 4 + 1)) else z.1 c i := by rw [rchz, zr_s]
theorem rchz_n (z : zM) {c i : Nat} (r : Nat → Nat → Nat) (e k : Nat) (h : i ≠ c) : (rchz z c r e k).1 i = z.1 i := zr_n _ _ h
theorem rchz_fr (z : zM) (c : Nat) (r : Nat → Nat → Nat) (e k : Nat) : zfr z (rchz z c r e k) c 1 := ⟨fun i hi => rchz_n z r e k (by omega), rfl⟩
theorem rchz_step (z : zM) (c : Nat) (r : Nat → Nat → Nat) {e k : Nat} (h : e ≤ k) : zi (rchz z c r e k) c (k * 4 + 3) (nI (CH r (k + 1))) = rchz z c r e (k + 1) := by
  refine Prod.ext (funext fun a => funext fun i => ?_) rfl
  rw [zi_at]
  by_cases ha : a = c
  · subst ha
    rw [rchz_at, rchz_at]
    by_cases hi : i = k * 4 + 3
    · subst hi
      have h1 : (k * 4 + 3) % 4 = 3 := by omega
      have h2 : (k * 4 + 3) / 4 = k := by omega
      rw [if_pos ⟨rfl, rfl⟩, h1, h2, if_pos ⟨rfl, h, Nat.lt_succ_self k⟩]
    · rw [if_neg (fun q => hi q.2)]
      by_cases hq : i % 4 = 3 ∧ e ≤ i / 4 ∧ i / 4 < k
      · rw [if_pos hq, if_pos (by omega)]
      · rw [if_neg hq, if_neg (by omega)]
  · rw [if_neg (fun q => ha q.1), rchz_n _ _ _ _ ha, rchz_n _ _ _ _ ha]
theorem rchz_row {z : zM} {t : Nat} {r : Nat → Nat → Nat} {k : Nat} (h : rRow z t k r) (e j : Nat) : rRow (rchz z (t + 1) r e j) t k r := fun i hi => by
  rw [rchz_at, rchz_at, rchz_at, if_neg (by omega), if_neg (by omega), if_neg (by omega)]
  exact h i hi
theorem rchz_ch {z : zM} {c : Nat} {r : Nat → Nat → Nat} {e : Nat} (h : ∀ j, j < e → z.1 c (j * 4 + 3) = nI (CH r (j + 1))) (k j : Nat) (hj : j < k) : (rchz z c r e k).1 c (j * 4 + 3) = nI (CH r (j + 1)) := by
  have h1 : (j * 4 + 3) % 4 = 3 := by omega
  have h2 : (j * 4 + 3) / 4 = j := by omega
  rw [rchz_at, h1, h2]
  by_cases he : e ≤ j
  · rw [if_pos ⟨rfl, he, hj⟩]
  · rw [if_neg (by omega)]
    exact h j (by omega)
theorem rchz_chv {z : zM} {c : Nat} {r : Nat → Nat → Nat} {e : Nat} (h : ∀ j, j < e → z.1 c (j * 4 + 3) = nI (CH r (j + 1))) (k : Nat) : chv (rchz z c r e k) c k = nI (CH r k) := by
  cases k with
  | zero => rfl
  | succ k => exact rchz_ch h (k + 1) k (Nat.lt_succ_self k)
theorem rchz_log {z : zM} {t : Nat} {T : aT} (hk : z.1 t 3 = nI T.1) (hr : rRow z t T.1 T.2) {e : Nat} (h : ∀ j, j < e → z.1 (t + 1) (j * 4 + 3) = nI (CH T.2 (j + 1))) : rLog (rchz z (t + 1) T.2 e T.1) t T :=
  ⟨by rw [rchz_n _ _ _ _ (by omega)]; exact hk, rchz_row hr e T.1, fun j hj => rchz_ch h T.1 j hj⟩
/-- a row of three behind the last -/
def hld (z : zM) (t k : Nat) (m e c : Int32) : zM := zi (zi (zi (zi z t 3 (nI (k + 1))) (t + 1) (k * 3 + 0) m) (t + 1) (k * 3 + 1) e) (t + 1) (k * 3 + 2) c
def rmv (z : zM) (t w k : Nat) : zM := zr (zi z t 3 (nI (k - 1))) (t + 1) (va_cpy (z.1 (t + 1)) (z.1 (t + 1)) w 0 ((k - 1) * w))
/-- the first entry of machine x that a holder's authenticators belie -/
def bel (Hd L : aT) (x : Nat) : Nat → Nat → Option Nat
  | 0, _ => none
  | d + 1, j => if Hd.2 j 0 = x ∧ (L.1 ≤ Hd.2 j 1 ∨ CH L.2 (Hd.2 j 1 + 1) ≠ Hd.2 j 2) then some (Hd.2 j 1) else bel Hd L x d (j + 1)
/-- the first place at which a log isn't what its machine would do -/
def rpl (r : Nat → Nat → Nat) (k x n : Nat) : Nat → Nat → Nat → Option Nat
  | 0, _, _ => none
  | d + 1, j, st => if k ≤ j then none else if r j 0 = 2 then some j else if nx st (r j 2) (r j 1) % 3 = 0 then (if j + 1 < k ∧ r (j + 1) 0 = 2 ∧ r (j + 1) 1 = gt x (nx st (r j 2) (r j 1)) n + 1 ∧ r (j + 1) 2 = nx st (r j 2) (r j 1) % 1000 then rpl r k x n d (j + 2) (nx st (r j 2) (r j 1)) else some (j + 1)) else rpl r k x n d (j + 1) (nx st (r j 2) (r j 1))
def isS (r : Nat → Nat → Nat) (k j q v : Nat) : Int32 := if j < k ∧ r j 0 = 2 ∧ r j 1 = q ∧ r j 2 = v then 1 else 0
