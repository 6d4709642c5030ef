/-! ===== worlds: what may happen to them, and how the class's cells follow ===== -/
def aM.setSt (M : aM) (s : Nat) : aM := ((s, M.sil, M.lie, M.wit), M.2)
def aM.setSil (M : aM) (s : Nat) : aM := ((M.st, s, M.lie, M.wit), M.2)
def aM.setLie (M : aM) (s : Nat) : aM := ((M.st, M.sil, s, M.wit), M.2)
def aM.setWit (M : aM) (s : Nat) : aM := ((M.st, M.sil, M.lie, s), M.2)
def aM.setVer (M : aM) (f : Nat → Nat) : aM := (M.1, f, M.2.2)
def aM.setLog (M : aM) (T : aT) : aM := (M.1, M.ver, T, M.held, M.pend)
def aM.setHeld (M : aM) (T : aT) : aM := (M.1, M.ver, M.log, T, M.pend)
def aM.setPend (M : aM) (T : aT) : aM := (M.1, M.ver, M.log, M.held, T)
def aS.setM (S : aS) (x : Nat) (M : aM) : aS := (S.n, va_up S.m x M, S.q, S.ev)
def aS.setQ (S : aS) (T : aT) : aS := (S.n, S.m, T, S.ev)
def aS.setE (S : aS) (T : aT) : aS := (S.n, S.m, S.q, T)
theorem aS.setM_s (S : aS) (x : Nat) (M : aM) : (S.setM x M).m x = M := va_up_self _ _ _
theorem aS.setM_n (S : aS) {x y : Nat} (M : aM) (h : y ≠ x) : (S.setM x M).m y = S.m y := va_up_ne _ _ h
/-- a machine gets an authenticator: the oldest goes where there are 60 -/
def thold (T : aT) (r : Nat → Nat) : aT := tpush (if T.1 = 60 then tpop T else T) r
def aHold (S : aS) (x : Nat) (r : Nat → Nat) : aS := S.setM x ((S.m x).setHeld (thold (S.m x).held r))
def aSend (S : aS) (x : Nat) : aS :=
  (S.setM x (((S.m x).setLie 0).setLog (tpush (S.m x).log (row3 2 (gt x (S.m x).st S.n + 1) (((S.m x).st % 1000 + (S.m x).lie) % 1000))))).setQ
    (tpush S.q (row5 x (S.m x).log.1 (CH (tpush (S.m x).log (row3 2 (gt x (S.m x).st S.n + 1) (((S.m x).st % 1000 + (S.m x).lie) % 1000))).2 ((S.m x).log.1 + 1)) (gt x (S.m x).st S.n) (((S.m x).st % 1000 + (S.m x).lie) % 1000)))
def aTk1 (S : aS) (x a q v : Nat) : aS := S.setM x (((S.m x).setLog (tpush (S.m x).log (row3 a q v))).setSt (nx (S.m x).st v q))
/-- a machine takes a value v of kind a from the peer q - 1 -/
def aTake (S : aS) (x a q v : Nat) : aS := if nx (S.m x).st v q % 3 = 0 then aSend (aTk1 S x a q v) x else aTk1 S x a q v
def aPopQ (S : aS) : aS := S.setQ (tpop S.q)
def aPend (S : aS) (x : Nat) (r : Nat → Nat) : aS := S.setM x ((S.m x).setPend (if (S.m x).pend.1 < 40 then tpush (S.m x).pend r else (S.m x).pend))
def aDel2 (S : aS) (x y k : Nat) : aS := aHold S y (row3 x k (CH (S.m x).log.2 (k + 1)))
/-- the first message is delivered -/
def aDel (S : aS) : aS :=
  if (S.m (S.q.2 0 3)).sil = 0 then
    aDel2 (aTake (aPopQ (aHold S (S.q.2 0 3) (row3 (S.q.2 0 0) (S.q.2 0 1) (S.q.2 0 2)))) (S.q.2 0 3) 1 (S.q.2 0 0 + 1) (S.q.2 0 4)) (S.q.2 0 3) (S.q.2 0 0) (S.m (S.q.2 0 3)).log.1
  else aPopQ (aPend S (S.q.2 0 3) (S.q.2 0))
/-- whether the first message can be delivered -/
def aCan (S : aS) : Bool := decide (0 < S.q.1 ∧ (¬ (S.m (S.q.2 0 3)).sil = 0 ∨ (S.m (S.q.2 0 3)).log.1 ≤ 38))
theorem aCan_iff {S : aS} : aCan S = true ↔ 0 < S.q.1 ∧ (¬ (S.m (S.q.2 0 3)).sil = 0 ∨ (S.m (S.q.2 0 3)).log.1 ≤ 38) := decide_eq_true_iff
/-- an audit of machine x -/
def belA (S : aS) (x : Nat) : Nat → Nat → Option Nat
  | 0, _ => none
  | d + 1, y => if (S.m y).sil = 0 then (match bel (S.m y).held (S.m x).log x (S.m y).held.1 0 with
      | some e => some e
      | none => belA S x d (y + 1)) else belA S x d (y + 1)
def jRe (S : aS) (w x : Nat) : Nat × Option (Nat × Nat) := match rpl (S.m x).log.2 (S.m x).log.1 x S.n ((S.m x).log.1 + 1) 0 x with
  | some e => (2, some (1, e))
  | none => (if 0 < (S.m x).pend.1 then 1 else 0, none)
def jdg (S : aS) (w x : Nat) : Nat × Option (Nat × Nat) :=
  if (S.m x).ver w = 2 then (2, none) else if ¬ (S.m x).sil = 0 then (1, none) else match belA S x S.n 0 with
    | some e => (2, some (0, e))
    | none => jRe S w x
def aJ (S : aS) (w x : Nat) (o : Option (Nat × Nat)) : aS := match o with
  | none => S
  | some k => S.setE (tpush S.ev (row4 k.1 x w k.2))
def aAud (S : aS) (w x : Nat) : aS := (aJ S w x (jdg S w x).2).setM x ((S.m x).setVer (va_up (S.m x).ver w (jdg S w x).1))
/-- how often it holds below k -/
def cnt (f : Nat → Bool) : Nat → Nat
  | 0 => 0
  | k + 1 => cnt f k + (if f k then 1 else 0)
def csum (f : Nat → Nat) : Nat → Nat
  | 0 => 0
  | k + 1 => csum f k + f k
def exps (S : aS) : Nat := csum (fun x => cnt (fun w => decide ((S.m x).ver w = 2)) S.n) S.n
def okLog (n : Nat) (T : aT) : Prop := T.1 ≤ 40 ∧ ∀ j, j < T.1 → T.2 j 0 ≤ 2 ∧ T.2 j 1 ≤ n ∧ T.2 j 2 < 1000
def okHeld (n : Nat) (T : aT) : Prop := T.1 ≤ 60 ∧ ∀ j, j < T.1 → T.2 j 0 < n ∧ T.2 j 1 < 40 ∧ T.2 j 2 < 2147483647
def okMsg (n : Nat) (T : aT) : Prop := T.1 ≤ 40 ∧ ∀ j, j < T.1 → T.2 j 0 < n ∧ T.2 j 1 < 40 ∧ T.2 j 2 < 2147483647 ∧ T.2 j 3 < n ∧ T.2 j 4 < 1000
def okEv (n : Nat) (T : aT) : Prop := T.1 ≤ 30 ∧ ∀ j, j < T.1 → T.2 j 0 ≤ 1 ∧ T.2 j 1 < n ∧ T.2 j 2 < n ∧ T.2 j 3 ≤ 40
def okM (n x : Nat) (M : aM) : Prop := (M.st < 9973 ∧ M.sil < 2 ∧ M.lie < 2 ∧ M.wit < 2 ^ n ∧ M.wit.testBit x = false) ∧ ((∀ w, M.ver w ≤ 2) ∧ M.ver x = 0) ∧ okLog n M.log ∧ okHeld n M.held ∧ okMsg n M.pend
def aOK (S : aS) : Prop := (2 ≤ S.n ∧ S.n ≤ 6) ∧ (∀ x, x < S.n → okM S.n x (S.m x)) ∧ okMsg S.n S.q ∧ okEv S.n S.ev ∧ S.ev.1 = exps S
theorem zfr.mono {z z' : zM} {lo n lo2 n2 : Nat} (h : zfr z z' lo n) (h1 : lo2 ≤ lo) (h2 : lo + n ≤ lo2 + n2) : zfr z z' lo2 n2 := ⟨fun i hi => h.1 i (by omega), h.2⟩
theorem zfr.tr {z z' z'' : zM} {lo n : Nat} (h : zfr z z' lo n) (h' : zfr z' z'' lo n) : zfr z z'' lo n := ⟨fun i hi => by rw [h'.1 i hi, h.1 i hi], by rw [h'.2, h.2]⟩
theorem zfr.rf (z : zM) (lo n : Nat) : zfr z z lo n := ⟨fun _ _ => rfl, rfl⟩
theorem zi_fr (z : zM) (i j : Nat) (v : Int32) : zfr z (zi z i j v) i 1 := ⟨fun a ha => by funext b; rw [zi_at, if_neg (by omega)], rfl⟩
theorem zr_fr (z : zM) (i : Nat) (f : Nat → Int32) : zfr z (zr z i f) i 1 := ⟨fun a ha => zr_n _ _ (by omega), rfl⟩
theorem rTb.cg {z z' : zM} {t w : Nat} {T : aT} (h : rTb z t w T) (h0 : z'.1 t = z.1 t) (h1 : z'.1 (t + 1) = z.1 (t + 1)) : rTb z' t w T := ⟨by rw [h0]; exact h.1, fun j hj c hc => by rw [h1]; exact h.2 j hj c hc⟩
theorem rLog.cg {z z' : zM} {t : Nat} {T : aT} (h : rLog z t T) (h0 : z'.1 t = z.1 t) (h1 : z'.1 (t + 1) = z.1 (t + 1)) : rLog z' t T := ⟨by rw [h0]; exact h.1, fun j hj => by rw [h1]; exact h.2.1 j hj, fun j hj => by rw [h1]; exact h.2.2 j hj⟩
theorem rCnt.cg {z z' : zM} {t mc : Nat} (h : rCnt z t mc) (h0 : z'.1 t = z.1 t) : rCnt z' t mc := by
  obtain ⟨k, h1, h2⟩ := h
  exact ⟨k, h1, by rw [h0]; exact h2⟩
theorem rM.cg {z z' : zM} {b : Nat} {M : aM} (h : rM z b M) (hf : ∀ i, b ≤ i → i < b + 8 → z'.1 i = z.1 i) : rM z' b M := by
  obtain ⟨⟨a1, a2, a3, a4⟩, a5, a6, a7, a8⟩ := h
  have h0 := hf b (by omega) (by omega)
  have h1 := hf (b + 1) (by omega) (by omega)
  refine ⟨⟨?_, ?_, ?_, ?_⟩, fun w hw => ?_, a6.cg (hf _ (by omega) (by omega)) (hf _ (by omega) (by omega)), a7.cg (hf _ (by omega) (by omega)) (hf _ (by omega) (by omega)), a8.cg (hf _ (by omega) (by omega)) (hf _ (by omega) (by omega))⟩
  · rw [h0]; exact a1
  · rw [h0]; exact a2
  · rw [h0]; exact a3
  · rw [h0]; exact a4
  · rw [h1]; exact a5 w hw
theorem rSane.cg {z z' : zM} {b : Nat} (h : rSane z b) (hf : ∀ i, b ≤ i → i < b + 8 → z'.1 i = z.1 i) : rSane z' b :=
  ⟨h.1.cg (hf _ (by omega) (by omega)), h.2.1.cg (hf _ (by omega) (by omega)), h.2.2.cg (hf _ (by omega) (by omega))⟩
/-- the cells of a world: what they show, and the counts in range -/
def wI (z : zM) (b : Nat) (S : aS) : Prop := rW z b S ∧ rAll z b
theorem rM.sane {z : zM} {b : Nat} {M : aM} (h : rM z b M) (h1 : M.log.1 ≤ 40) (h2 : M.held.1 ≤ 60) (h3 : M.pend.1 ≤ 40) : rSane z b := ⟨⟨_, h1, h.2.2.1.1⟩, ⟨_, h2, h.2.2.2.1.1⟩, ⟨_, h3, h.2.2.2.2.1⟩⟩
theorem wI.setM {z z' : zM} {b x : Nat} {S : aS} {M : aM} (h : wI z b S) (hx : x < 6) (hf : zfr z z' (b + 2 + 8 * x) 8) (hm : rM z' (b + 2 + 8 * x) M) (h1 : M.log.1 ≤ 40) (h2 : M.held.1 ≤ 60) (h3 : M.pend.1 ≤ 40) : wI z' b (S.setM x M) := by
  obtain ⟨⟨a1, a2, a3, a4⟩, b1, b2, b3⟩ := h
  refine ⟨⟨by rw [hf.1 b (by omega)]; exact a1, fun y hy => ?_, a3.cg (hf.1 _ (by omega)) (hf.1 _ (by omega)), a4.cg (hf.1 _ (by omega)) (hf.1 _ (by omega))⟩, fun y hy => ?_, b2.cg (hf.1 _ (by omega)), b3.cg (hf.1 _ (by omega))⟩
  · by_cases hyx : y = x
    · subst hyx; rw [aS.setM_s]; exact hm
    · rw [aS.setM_n _ _ hyx]
      exact (a2 y hy).cg (fun i h1 h2 => hf.1 i (by omega))
  · by_cases hyx : y = x
    · subst hyx; exact hm.sane h1 h2 h3
    · exact (b1 y hy).cg (fun i h1 h2 => hf.1 i (by omega))
theorem wI.setQ {z z' : zM} {b : Nat} {S : aS} {T : aT} (h : wI z b S) (hf : zfr z z' (b + 50) 2) (hm : rTb z' (b + 50) 5 T) (h1 : T.1 ≤ 40) (hn : S.n ≤ 6) : wI z' b (S.setQ T) := by
  obtain ⟨⟨a1, a2, a3, a4⟩, b1, b2, b3⟩ := h
  have a2' : ∀ y, y < S.n → rM z (b + 2 + 8 * y) (S.m y) := a2
  refine ⟨⟨by rw [hf.1 b (by omega)]; exact a1, fun y hy => (a2 y hy).cg (fun i h1 h2 => hf.1 i ?_), hm, a4.cg (hf.1 _ (by omega)) (hf.1 _ (by omega))⟩, fun y hy => (b1 y hy).cg (fun i h1 h2 => hf.1 i (by omega)), ⟨_, h1, hm.1⟩, b3.cg (hf.1 _ (by omega))⟩
  have hy : y < S.n := hy
  omega
theorem wI.setE {z z' : zM} {b : Nat} {S : aS} {T : aT} (h : wI z b S) (hf : zfr z z' (b + 52) 2) (hm : rTb z' (b + 52) 4 T) (h1 : T.1 ≤ 30) (hn : S.n ≤ 6) : wI z' b (S.setE T) := by
  obtain ⟨⟨a1, a2, a3, a4⟩, b1, b2, b3⟩ := h
  refine ⟨⟨by rw [hf.1 b (by omega)]; exact a1, fun y hy => (a2 y hy).cg (fun i h1 h2 => hf.1 i ?_), a3.cg (hf.1 _ (by omega)) (hf.1 _ (by omega)), hm⟩, fun y hy => (b1 y hy).cg (fun i h1 h2 => hf.1 i (by omega)), b2.cg (hf.1 _ (by omega)), ⟨_, h1, hm.1⟩⟩
  have hy : y < S.n := hy
  omega
theorem wI.cg {z z' : zM} {b : Nat} {S : aS} (h : wI z b S) (hn : S.n ≤ 6) (hf : ∀ i, b ≤ i → i < b + 54 → z'.1 i = z.1 i) : wI z' b S := by
  obtain ⟨⟨a1, a2, a3, a4⟩, b1, b2, b3⟩ := h
  refine ⟨⟨by rw [hf b (by omega) (by omega)]; exact a1, fun y hy => (a2 y hy).cg (fun i h1 h2 => hf i (by omega) ?_), a3.cg (hf _ (by omega) (by omega)) (hf _ (by omega) (by omega)), a4.cg (hf _ (by omega) (by omega)) (hf _ (by omega) (by omega))⟩, fun y hy => (b1 y hy).cg (fun i h1 h2 => hf i (by omega) (by omega)), b2.cg (hf _ (by omega) (by omega)), b3.cg (hf _ (by omega) (by omega))⟩
  omega
/-- machines: one thing changes -/
theorem rM.st {z : zM} {b : Nat} {M : aM} (h : rM z b M) (s : Nat) : rM (zi z b 1 (nI s)) b (M.setSt s) := by
  obtain ⟨⟨a1, a2, a3, a4⟩, a5, a6, a7, a8⟩ := h
  have hn : ∀ i, i ≠ b → (zi z b 1 (nI s)).1 i = z.1 i := fun i hi => (zi_fr z b 1 (nI s)).1 i (by omega)
  refine ⟨⟨?_, ?_, ?_, ?_⟩, fun w hw => ?_, a6.cg (hn _ (by omega)) (hn _ (by omega)), a7.cg (hn _ (by omega)) (hn _ (by omega)), a8.cg (hn _ (by omega)) (hn _ (by omega))⟩
  · rw [zi_at, if_pos ⟨rfl, rfl⟩]; rfl
  · rw [zi_at, if_neg (by omega)]; exact a2
  · rw [zi_at, if_neg (by omega)]; exact a3
  · rw [zi_at, if_neg (by omega)]; exact a4
  · rw [hn _ (by omega)]; exact a5 w hw
theorem rM.sil {z : zM} {b : Nat} {M : aM} (h : rM z b M) (s : Nat) : rM (zi z b 2 (nI s)) b (M.setSil s) := by
  obtain ⟨⟨a1, a2, a3, a4⟩, a5, a6, a7, a8⟩ := h
  have hn : ∀ i, i ≠ b → (zi z b 2 (nI s)).1 i = z.1 i := fun i hi => (zi_fr z b 2 (nI s)).1 i (by omega)
  refine ⟨⟨?_, ?_, ?_, ?_⟩, fun w hw => ?_, a6.cg (hn _ (by omega)) (hn _ (by omega)), a7.cg (hn _ (by omega)) (hn _ (by omega)), a8.cg (hn _ (by omega)) (hn _ (by omega))⟩
  · rw [zi_at, if_neg (by omega)]; exact a1
  · rw [zi_at, if_pos ⟨rfl, rfl⟩]; rfl
  · rw [zi_at, if_neg (by omega)]; exact a3
  · rw [zi_at, if_neg (by omega)]; exact a4
  · rw [hn _ (by omega)]; exact a5 w hw
theorem rM.lie {z : zM} {b : Nat} {M : aM} (h : rM z b M) (s : Nat) : rM (zi z b 3 (nI s)) b (M.setLie s) := by
  obtain ⟨⟨a1, a2, a3, a4⟩, a5, a6, a7, a8⟩ := h
  have hn : ∀ i, i ≠ b → (zi z b 3 (nI s)).1 i = z.1 i := fun i hi => (zi_fr z b 3 (nI s)).1 i (by omega)
  refine ⟨⟨?_, ?_, ?_, ?_⟩, fun w hw => ?_, a6.cg (hn _ (by omega)) (hn _ (by omega)), a7.cg (hn _ (by omega)) (hn _ (by omega)), a8.cg (hn _ (by omega)) (hn _ (by omega))⟩
  · rw [zi_at, if_neg (by omega)]; exact a1
  · rw [zi_at, if_neg (by omega)]; exact a2
  · rw [zi_at, if_pos ⟨rfl, rfl⟩]; rfl
  · rw [zi_at, if_neg (by omega)]; exact a4
  · rw [hn _ (by omega)]; exact a5 w hw
theorem rM.wit {z : zM} {b : Nat} {M : aM} (h : rM z b M) (s : Nat) : rM (zi z b 4 (nI s)) b (M.setWit s) := by
  obtain ⟨⟨a1, a2, a3, a4⟩, a5, a6, a7, a8⟩ := h
  have hn : ∀ i, i ≠ b → (zi z b 4 (nI s)).1 i = z.1 i := fun i hi => (zi_fr z b 4 (nI s)).1 i (by omega)
  refine ⟨⟨?_, ?_, ?_, ?_⟩, fun w hw => ?_, a6.cg (hn _ (by omega)) (hn _ (by omega)), a7.cg (hn _ (by omega)) (hn _ (by omega)), a8.cg (hn _ (by omega)) (hn _ (by omega))⟩
  · rw [zi_at, if_neg (by omega)]; exact a1
  · rw [zi_at, if_neg (by omega)]; exact a2
  · rw [zi_at, if_neg (by omega)]; exact a3
  · rw [zi_at, if_pos ⟨rfl, rfl⟩]; rfl
  · rw [hn _ (by omega)]; exact a5 w hw
theorem rM.ver {z : zM} {b : Nat} {M : aM} (h : rM z b M) {w : Nat} (v : Nat) : rM (zi z (b + 1) w (nI v)) b (M.setVer (va_up M.ver w v)) := by
  obtain ⟨⟨a1, a2, a3, a4⟩, a5, a6, a7, a8⟩ := h
  have hn : ∀ i, i ≠ b + 1 → (zi z (b + 1) w (nI v)).1 i = z.1 i := fun i hi => (zi_fr z (b + 1) w (nI v)).1 i (by omega)
  refine ⟨⟨?_, ?_, ?_, ?_⟩, fun y hy => ?_, a6.cg (hn _ (by omega)) (hn _ (by omega)), a7.cg (hn _ (by omega)) (hn _ (by omega)), a8.cg (hn _ (by omega)) (hn _ (by omega))⟩
  · rw [hn _ (by omega)]; exact a1
  · rw [hn _ (by omega)]; exact a2
  · rw [hn _ (by omega)]; exact a3
  · rw [hn _ (by omega)]; exact a4
  · rw [zi_at]
    by_cases hyw : y = w
    · subst hyw
      rw [if_pos ⟨rfl, rfl⟩]
      show nI v = nI (va_up M.ver y v y)
      rw [va_up_self]
    · rw [if_neg (fun q => hyw q.2)]
      show _ = nI (va_up M.ver w v y)
      rw [va_up_ne _ _ hyw]
      exact a5 y hy
theorem rM.logc {z z' : zM} {b : Nat} {M : aM} (h : rM z b M) {T : aT} (hf : zfr z z' (b + 2) 2) (hl : rLog z' (b + 2) T) : rM z' b (M.setLog T) := by
  obtain ⟨⟨a1, a2, a3, a4⟩, a5, a6, a7, a8⟩ := h
  refine ⟨⟨?_, ?_, ?_, ?_⟩, fun y hy => ?_, hl, a7.cg (hf.1 _ (by omega)) (hf.1 _ (by omega)), a8.cg (hf.1 _ (by omega)) (hf.1 _ (by omega))⟩
  · rw [hf.1 _ (by omega)]; exact a1
  · rw [hf.1 _ (by omega)]; exact a2
  · rw [hf.1 _ (by omega)]; exact a3
  · rw [hf.1 _ (by omega)]; exact a4
  · rw [hf.1 _ (by omega)]; exact a5 y hy
theorem rM.heldc {z z' : zM} {b : Nat} {M : aM} (h : rM z b M) {T : aT} (hf : zfr z z' (b + 4) 2) (hl : rTb z' (b + 4) 3 T) : rM z' b (M.setHeld T) := by
  obtain ⟨⟨a1, a2, a3, a4⟩, a5, a6, a7, a8⟩ := h
  refine ⟨⟨?_, ?_, ?_, ?_⟩, fun y hy => ?_, a6.cg (hf.1 _ (by omega)) (hf.1 _ (by omega)), hl, a8.cg (hf.1 _ (by omega)) (hf.1 _ (by omega))⟩
  · rw [hf.1 _ (by omega)]; exact a1
  · rw [hf.1 _ (by omega)]; exact a2
  · rw [hf.1 _ (by omega)]; exact a3
  · rw [hf.1 _ (by omega)]; exact a4
  · rw [hf.1 _ (by omega)]; exact a5 y hy
theorem rM.pendc {z z' : zM} {b : Nat} {M : aM} (h : rM z b M) {T : aT} (hf : zfr z z' (b + 6) 2) (hl : rTb z' (b + 6) 5 T) : rM z' b (M.setPend T) := by
  obtain ⟨⟨a1, a2, a3, a4⟩, a5, a6, a7, a8⟩ := h
  refine ⟨⟨?_, ?_, ?_, ?_⟩, fun y hy => ?_, a6.cg (hf.1 _ (by omega)) (hf.1 _ (by omega)), a7.cg (hf.1 _ (by omega)) (hf.1 _ (by omega)), hl⟩
  · rw [hf.1 _ (by omega)]; exact a1
  · rw [hf.1 _ (by omega)]; exact a2
  · rw [hf.1 _ (by omega)]; exact a3
  · rw [hf.1 _ (by omega)]; exact a4
  · rw [hf.1 _ (by omega)]; exact a5 y hy
/-- tables: a row behind the last, the first row away, fewer rows -/
theorem rTb.push {z z' : zM} {t w : Nat} {T : aT} (h : rTb z t w T) {r : Nat → Nat} (h0 : z'.1 t 3 = nI (T.1 + 1)) (h1 : ∀ i, i < T.1 * w → z'.1 (t + 1) i = z.1 (t + 1) i) (h2 : ∀ c, c < w → z'.1 (t + 1) (T.1 * w + c) = nI (r c)) : rTb z' t w (tpush T r) := by
  refine ⟨h0, fun j hj c hc => ?_⟩
  have hj : j < T.1 + 1 := hj
  show _ = nI (va_up T.2 T.1 r j c)
  by_cases hjk : j = T.1
  · subst hjk
    rw [va_up_self]
    exact h2 c hc
  · rw [va_up_ne _ _ hjk, h1 _ (by
      have h3 : (j + 1) * w ≤ T.1 * w := Nat.mul_le_mul_right w (by omega)
      rw [Nat.succ_mul] at h3
      omega)]
    exact h.2 j (by omega) c hc
theorem rTb.pop {z : zM} {t w : Nat} {T : aT} (h : rTb z t w T) (h0 : 0 < T.1) : rTb (rmv z t w T.1) t w (tpop T) := by
  refine ⟨?_, fun j hj c hc => ?_⟩
  · rw [rmv, zr_n _ _ (by omega), zi_at, if_pos ⟨rfl, rfl⟩]; rfl
  · have hj : j < T.1 - 1 := hj
    have h3 : (j + 1) * w ≤ (T.1 - 1) * w := Nat.mul_le_mul_right w (by omega)
    rw [Nat.succ_mul] at h3
    rw [rmv, zr_s, pk_cpy_in (by omega) (by omega)]
    have h4 := h.2 (j + 1) (by omega) c hc
    rw [Nat.succ_mul] at h4
    rw [show w + (j * w + c - 0) = j * w + w + c by omega]
    exact h4
theorem rmv_fr (z : zM) (t w k : Nat) : zfr z (rmv z t w k) t 2 := ((zi_fr _ _ _ _).mono (by omega) (by omega)).tr ((zr_fr _ _ _).mono (by omega) (by omega))
theorem rTb.keep {z : zM} {t w : Nat} {T : aT} (h : rTb z t w T) {k : Nat} (hk : k ≤ T.1) : rTb (zi z t 3 (nI k)) t w (tkeep T k) := by
  refine ⟨by rw [zi_at, if_pos ⟨rfl, rfl⟩]; rfl, fun j hj c hc => ?_⟩
  have hj : j < k := hj
  rw [zi_at, if_neg (by omega)]
  exact h.2 j (by omega) c hc
theorem hld_fr (z : zM) (t k : Nat) (m e c : Int32) : zfr z (hld z t k m e c) t 2 := (((zi_fr _ _ _ _).mono (by omega) (by omega)).tr ((zi_fr _ _ _ _).mono (by omega) (by omega))).tr (((zi_fr _ _ _ _).mono (by omega) (by omega)).tr ((zi_fr _ _ _ _).mono (by omega) (by omega)))
theorem hld_tb {z : zM} {t : Nat} {T : aT} (h : rTb z t 3 T) (a e c : Nat) : rTb (hld z t T.1 (nI a) (nI e) (nI c)) t 3 (tpush T (row3 a e c)) := by
  refine h.push ?_ (fun i hi => ?_) (fun k hk => ?_)
  · simp only [hld, zi_at]
    rw [if_neg (by omega), if_neg (by omega), if_neg (by omega), if_pos (by simp)]
  · simp only [hld, zi_at]
    rw [if_neg (by omega), if_neg (by omega), if_neg (by omega), if_neg (by omega)]
  · simp only [hld, zi_at]
    rcases (show k = 0 ∨ k = 1 ∨ k = 2 by omega) with rfl | rfl | rfl
    · rw [if_neg (by omega), if_neg (by omega), if_pos (by simp)]; rfl
    · rw [if_neg (by omega), if_pos (by simp)]; rfl
    · rw [if_pos (by simp)]; rfl
