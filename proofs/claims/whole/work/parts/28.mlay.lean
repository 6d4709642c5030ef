/-! ===== the reference: its object at 272, its present row at 273, its past rows at 274 ===== -/
def zMo (G : zG) (N : Nat) (Λ : zLay) : Prop := 274 < N ∧ (∀ f τ, Λ 272 f τ = .inr (4, [.ref (G.h + 273), .ref (G.h + 274), .int (f 2), .int (f 3), .long (τ 4)])) ∧ zIA G Λ 273 2921 ∧ zIA G Λ 274 11684
theorem zMo.lt {G : zG} {N : Nat} {Λ : zLay} (h : zMo G N Λ) : 272 < N := by have := h.1; omega
theorem zMo.ltn {G : zG} {N : Nat} {Λ : zLay} (h : zMo G N Λ) : 273 < N := by have := h.1; omega
theorem zMo.ltp {G : zG} {N : Nat} {Λ : zLay} (h : zMo G N Λ) : 274 < N := h.1
theorem zMo.at {G : zG} {N : Nat} {Λ : zLay} (h : zMo G N Λ) (f : Nat → Int32) (τ : Nat → Int64) : Λ 272 f τ = .inr (4, [.ref (G.h + 273), .ref (G.h + 274), .int (f 2), .int (f 3), .long (τ 4)]) := h.2.1 f τ
theorem zMo.now {G : zG} {N : Nat} {Λ : zLay} (h : zMo G N Λ) : zIA G Λ 273 2921 := h.2.2.1
theorem zMo.past {G : zG} {N : Nat} {Λ : zLay} (h : zMo G N Λ) : zIA G Λ 274 11684 := h.2.2.2
def mat (x o : Nat) : Nat := 1 + 433 * x + o
theorem mat_i (x o : Nat) : 1 + 433 * nI x + nI o = nI (mat x o) := by
  rw [zlit 1, zlit 433, pk_mul, nI_add, nI_add]; rfl
theorem mat_lt {x o : Nat} (hx : x < 6) (ho : o < 433) : mat x o < 2599 := by unfold mat; omega
theorem mat_lt2 {x o : Nat} (hx : x < 6) (ho : o < 433) : mat x o < 2921 := by unfold mat; omega
/-- a message, as the reference lays it: to, from, value, entry, chain -/
def mMsg (z : zM) (p : Nat) (r : Nat → Nat) : Prop := z.1 273 p = nI (r 3) ∧ z.1 273 (p + 1) = nI (r 0) ∧ z.1 273 (p + 2) = nI (r 4) ∧ z.1 273 (p + 3) = nI (r 1) ∧ z.1 273 (p + 4) = nI (r 2)
def mLog (z : zM) (x : Nat) (T : aT) : Prop := T.1 ≤ 40 ∧ z.1 273 (mat x 4) = nI T.1 ∧ ∀ j, j < T.1 → z.1 273 (mat x (5 + j)) = nI (pk (T.2 j 0) (T.2 j 1) (T.2 j 2))
def mHeld (z : zM) (x : Nat) (T : aT) : Prop := T.1 ≤ 60 ∧ z.1 273 (mat x 45) = nI T.1 ∧ ∀ j, j < T.1 → ∀ c, c < 3 → z.1 273 (mat x (46 + 3 * j) + c) = nI (T.2 j c)
def mPend (z : zM) (x : Nat) (T : aT) : Prop := T.1 ≤ 40 ∧ z.1 273 (mat x 226) = nI T.1 ∧ ∀ j, j < T.1 → mMsg z (mat x (227 + 5 * j)) (T.2 j)
def mM (z : zM) (x : Nat) (M : aM) : Prop := (z.1 273 (mat x 0) = nI M.st ∧ z.1 273 (mat x 1) = nI M.sil ∧ z.1 273 (mat x 2) = nI M.lie ∧ z.1 273 (mat x 3) = nI M.wit) ∧ mLog z x M.log ∧ mHeld z x M.held ∧ mPend z x M.pend ∧ ∀ w, w < 6 → z.1 273 (mat x (427 + w)) = nI (M.ver w)
def mQ (z : zM) (T : aT) : Prop := T.1 ≤ 40 ∧ z.1 273 2599 = nI T.1 ∧ ∀ j, j < T.1 → mMsg z (2600 + 5 * j) (T.2 j)
def mE (z : zM) (T : aT) : Prop := T.1 ≤ 30 ∧ z.1 273 2800 = nI T.1 ∧ ∀ j, j < T.1 → ∀ c, c < 4 → z.1 273 (2801 + 4 * j + c) = nI (T.2 j c)
/-- the present row shows the world S -/
def mS (z : zM) (S : aS) : Prop := (S.n ≤ 6 ∧ z.1 273 0 = nI S.n) ∧ (∀ x, x < S.n → mM z x (S.m x)) ∧ mQ z S.q ∧ mE z S.ev
theorem mS.n6 {z : zM} {S : aS} (h : mS z S) : S.n ≤ 6 := h.1.1
theorem mS.n {z : zM} {S : aS} (h : mS z S) : z.1 273 0 = nI S.n := h.1.2
theorem mS.m {z : zM} {S : aS} (h : mS z S) {x : Nat} (hx : x < S.n) : mM z x (S.m x) := h.2.1 x hx
theorem mS.q {z : zM} {S : aS} (h : mS z S) : mQ z S.q := h.2.2.1
theorem mS.e {z : zM} {S : aS} (h : mS z S) : mE z S.ev := h.2.2.2
/-- the row agrees with another one between lo and hi -/
def mcg (z z' : zM) (lo hi : Nat) : Prop := ∀ i, lo ≤ i → i < hi → z'.1 273 i = z.1 273 i
theorem mMsg.cg {z z' : zM} {p : Nat} {r : Nat → Nat} (h : mMsg z p r) {lo hi : Nat} (hc : mcg z z' lo hi) (h1 : lo ≤ p) (h2 : p + 5 ≤ hi) : mMsg z' p r := by
  obtain ⟨a0, a1, a2, a3, a4⟩ := h
  exact ⟨by rw [hc _ (by omega) (by omega)]; exact a0, by rw [hc _ (by omega) (by omega)]; exact a1, by rw [hc _ (by omega) (by omega)]; exact a2, by rw [hc _ (by omega) (by omega)]; exact a3, by rw [hc _ (by omega) (by omega)]; exact a4⟩
theorem mLog.cg {z z' : zM} {x : Nat} {T : aT} (h : mLog z x T) (hc : mcg z z' (mat x 4) (mat x 45)) : mLog z' x T := by
  obtain ⟨a0, a1, a2⟩ := h
  exact ⟨a0, by rw [hc _ (by omega) (by unfold mat; omega)]; exact a1, fun j hj => by rw [hc _ (by unfold mat; omega) (by unfold mat; omega)]; exact a2 j hj⟩
theorem mHeld.cg {z z' : zM} {x : Nat} {T : aT} (h : mHeld z x T) (hc : mcg z z' (mat x 45) (mat x 226)) : mHeld z' x T := by
  obtain ⟨a0, a1, a2⟩ := h
  exact ⟨a0, by rw [hc _ (by omega) (by unfold mat; omega)]; exact a1, fun j hj c hc3 => by rw [hc _ (by unfold mat; omega) (by unfold mat; omega)]; exact a2 j hj c hc3⟩
theorem mPend.cg {z z' : zM} {x : Nat} {T : aT} (h : mPend z x T) (hc : mcg z z' (mat x 226) (mat x 427)) : mPend z' x T := by
  obtain ⟨a0, a1, a2⟩ := h
  exact ⟨a0, by rw [hc _ (by omega) (by unfold mat; omega)]; exact a1, fun j hj => (a2 j hj).cg hc (by unfold mat; omega) (by unfold mat; omega)⟩
theorem mcg.sub {z z' : zM} {lo hi lo2 hi2 : Nat} (h : mcg z z' lo hi) (h1 : lo ≤ lo2) (h2 : hi2 ≤ hi) : mcg z z' lo2 hi2 := fun i q1 q2 => h i (by omega) (by omega)
theorem mcg.tr {z z' z'' : zM} {lo hi : Nat} (h : mcg z z' lo hi) (h' : mcg z' z'' lo hi) : mcg z z'' lo hi := fun i q1 q2 => by rw [h' i q1 q2, h i q1 q2]
theorem mM.cg {z z' : zM} {x : Nat} {M : aM} (h : mM z x M) (hc : mcg z z' (mat x 0) (mat x 433)) : mM z' x M := by
  obtain ⟨⟨a1, a2, a3, a4⟩, a5, a6, a7, a8⟩ := h
  have e : ∀ o, o < 433 → z'.1 273 (mat x o) = z.1 273 (mat x o) := fun o ho => hc _ (by unfold mat; omega) (by unfold mat; omega)
  refine ⟨⟨?_, ?_, ?_, ?_⟩, a5.cg (hc.sub (by unfold mat; omega) (by unfold mat; omega)), a6.cg (hc.sub (by unfold mat; omega) (by unfold mat; omega)), a7.cg (hc.sub (by unfold mat; omega) (by unfold mat; omega)), fun w hw => ?_⟩
  · rw [e 0 (by omega)]; exact a1
  · rw [e 1 (by omega)]; exact a2
  · rw [e 2 (by omega)]; exact a3
  · rw [e 3 (by omega)]; exact a4
  · rw [e _ (by omega)]; exact a8 w hw
theorem mQ.cg {z z' : zM} {T : aT} (h : mQ z T) (hc : mcg z z' 2599 2800) : mQ z' T := by
  obtain ⟨a0, a1, a2⟩ := h
  exact ⟨a0, by rw [hc _ (by omega) (by omega)]; exact a1, fun j hj => (a2 j hj).cg hc (by omega) (by omega)⟩
theorem mE.cg {z z' : zM} {T : aT} (h : mE z T) (hc : mcg z z' 2800 2921) : mE z' T := by
  obtain ⟨a0, a1, a2⟩ := h
  exact ⟨a0, by rw [hc _ (by omega) (by omega)]; exact a1, fun j hj c hc4 => by rw [hc _ (by omega) (by omega)]; exact a2 j hj c hc4⟩
theorem mS.cg {z z' : zM} {S : aS} (h : mS z S) (hc : mcg z z' 0 2921) : mS z' S := by
  have hn6 := h.n6
  exact ⟨⟨hn6, by rw [hc 0 (by omega) (by omega)]; exact h.n⟩, fun x hx => (h.m hx).cg (hc.sub (by omega) (by unfold mat; omega)), h.q.cg (hc.sub (by omega) (by omega)), h.e.cg (hc.sub (by omega) (by omega))⟩
/-- outside lo .. lo + n - 1 of the present row nothing has changed -/
def mfr (z z' : zM) (lo n : Nat) : Prop := (∀ i, i ≠ 273 → z'.1 i = z.1 i) ∧ z'.2 = z.2 ∧ ∀ j, (j < lo ∨ lo + n ≤ j) → z'.1 273 j = z.1 273 j
theorem mfr.mono {z z' : zM} {lo n lo2 n2 : Nat} (h : mfr z z' lo n) (h1 : lo2 ≤ lo) (h2 : lo + n ≤ lo2 + n2) : mfr z z' lo2 n2 := ⟨h.1, h.2.1, fun i hi => h.2.2 i (by omega)⟩
theorem mfr.tr {z z' z'' : zM} {lo n : Nat} (h : mfr z z' lo n) (h' : mfr z' z'' lo n) : mfr z z'' lo n := ⟨fun i hi => by rw [h'.1 i hi, h.1 i hi], by rw [h'.2.1, h.2.1], fun i hi => by rw [h'.2.2 i hi, h.2.2 i hi]⟩
theorem mfr.rf (z : zM) (lo n : Nat) : mfr z z lo n := ⟨fun _ _ => rfl, rfl, fun _ _ => rfl⟩
theorem mfr.cg {z z' : zM} {lo n : Nat} (h : mfr z z' lo n) {a c : Nat} (hac : c ≤ lo ∨ lo + n ≤ a) : mcg z z' a c := fun i h1 h2 => h.2.2 i (by omega)
theorem zi_mfr (z : zM) (j : Nat) (v : Int32) : mfr z (zi z 273 j v) j 1 := ⟨fun i hi => by funext b; rw [zi_at, if_neg (by omega)], rfl, fun i hi => by rw [zi_at, if_neg (by omega)]⟩
theorem mS.setM {z z' : zM} {x : Nat} {S : aS} {M : aM} (h : mS z S) (hx6 : x < 6) (hf : mfr z z' (mat x 0) 433) (hm : mM z' x M) : mS z' (S.setM x M) := by
  have hn6 := h.n6
  refine ⟨⟨hn6, by rw [hf.2.2 0 (by unfold mat; omega)]; exact h.n⟩, fun y hy => ?_, h.q.cg (hf.cg (by unfold mat; omega)), h.e.cg (hf.cg (by unfold mat; omega))⟩
  have hy : y < S.n := hy
  by_cases hyx : y = x
  · subst hyx; rw [aS.setM_s]; exact hm
  · rw [aS.setM_n _ _ hyx]
    exact (h.m hy).cg (hf.cg (by unfold mat; omega))
theorem mS.setQ {z z' : zM} {S : aS} {T : aT} (h : mS z S) (hf : mfr z z' 2599 201) (hm : mQ z' T) : mS z' (S.setQ T) := by
  have hn6 := h.n6
  refine ⟨⟨hn6, by rw [hf.2.2 0 (by omega)]; exact h.n⟩, fun y hy => (h.m hy).cg (hf.cg ?_), hm, h.e.cg (hf.cg (by omega))⟩
  have hy : y < S.n := hy
  unfold mat; omega
theorem mS.setE {z z' : zM} {S : aS} {T : aT} (h : mS z S) (hf : mfr z z' 2800 121) (hm : mE z' T) : mS z' (S.setE T) := by
  have hn6 := h.n6
  refine ⟨⟨hn6, by rw [hf.2.2 0 (by omega)]; exact h.n⟩, fun y hy => (h.m hy).cg (hf.cg ?_), h.q.cg (hf.cg (by omega)), hm⟩
  have hy : y < S.n := hy
  unfold mat; omega
/-- machines: one thing changes -/
theorem mM.one {z z' : zM} {x : Nat} {M : aM} (h : mM z x M) {o : Nat} {v : Int32} (hz : z' = zi z 273 (mat x o) v) (ho : o < 4) : mLog z' x M.log ∧ mHeld z' x M.held ∧ mPend z' x M.pend ∧ ∀ w, w < 6 → z'.1 273 (mat x (427 + w)) = nI (M.ver w) := by
  subst hz
  have hf := zi_mfr z (mat x o) v
  exact ⟨h.2.1.cg (hf.cg (by unfold mat; omega)), h.2.2.1.cg (hf.cg (by unfold mat; omega)), h.2.2.2.1.cg (hf.cg (by unfold mat; omega)), fun w hw => by rw [hf.2.2 _ (by unfold mat; omega)]; exact h.2.2.2.2 w hw⟩
theorem mM.st {z : zM} {x : Nat} {M : aM} (h : mM z x M) (s : Nat) : mM (zi z 273 (mat x 0) (nI s)) x (M.setSt s) := by
  refine ⟨⟨?_, ?_, ?_, ?_⟩, h.one rfl (by omega)⟩
  · rw [zi_at, if_pos ⟨rfl, rfl⟩]; rfl
  · rw [zi_at, if_neg (by unfold mat; omega)]; exact h.1.2.1
  · rw [zi_at, if_neg (by unfold mat; omega)]; exact h.1.2.2.1
  · rw [zi_at, if_neg (by unfold mat; omega)]; exact h.1.2.2.2
theorem mM.sil {z : zM} {x : Nat} {M : aM} (h : mM z x M) (s : Nat) : mM (zi z 273 (mat x 1) (nI s)) x (M.setSil s) := by
  refine ⟨⟨?_, ?_, ?_, ?_⟩, h.one rfl (by omega)⟩
  · rw [zi_at, if_neg (by unfold mat; omega)]; exact h.1.1
  · rw [zi_at, if_pos ⟨rfl, rfl⟩]; rfl
  · rw [zi_at, if_neg (by unfold mat; omega)]; exact h.1.2.2.1
  · rw [zi_at, if_neg (by unfold mat; omega)]; exact h.1.2.2.2
theorem mM.lie {z : zM} {x : Nat} {M : aM} (h : mM z x M) (s : Nat) : mM (zi z 273 (mat x 2) (nI s)) x (M.setLie s) := by
  refine ⟨⟨?_, ?_, ?_, ?_⟩, h.one rfl (by omega)⟩
  · rw [zi_at, if_neg (by unfold mat; omega)]; exact h.1.1
  · rw [zi_at, if_neg (by unfold mat; omega)]; exact h.1.2.1
  · rw [zi_at, if_pos ⟨rfl, rfl⟩]; rfl
  · rw [zi_at, if_neg (by unfold mat; omega)]; exact h.1.2.2.2
theorem mM.wit {z : zM} {x : Nat} {M : aM} (h : mM z x M) (s : Nat) : mM (zi z 273 (mat x 3) (nI s)) x (M.setWit s) := by
  refine ⟨⟨?_, ?_, ?_, ?_⟩, h.one rfl (by omega)⟩
  · rw [zi_at, if_neg (by unfold mat; omega)]; exact h.1.1
  · rw [zi_at, if_neg (by unfold mat; omega)]; exact h.1.2.1
  · rw [zi_at, if_neg (by unfold mat; omega)]; exact h.1.2.2.1
  · rw [zi_at, if_pos ⟨rfl, rfl⟩]; rfl
theorem mM.part {z z' : zM} {x : Nat} {M : aM} (h : mM z x M) {lo hi : Nat} (hf : mfr z z' (mat x lo) (hi - lo)) (h4 : 4 ≤ lo) (hlh : lo ≤ hi) : (z'.1 273 (mat x 0) = nI M.st ∧ z'.1 273 (mat x 1) = nI M.sil ∧ z'.1 273 (mat x 2) = nI M.lie ∧ z'.1 273 (mat x 3) = nI M.wit) := by
  refine ⟨?_, ?_, ?_, ?_⟩
  · rw [hf.2.2 _ (by unfold mat; omega)]; exact h.1.1
  · rw [hf.2.2 _ (by unfold mat; omega)]; exact h.1.2.1
  · rw [hf.2.2 _ (by unfold mat; omega)]; exact h.1.2.2.1
  · rw [hf.2.2 _ (by unfold mat; omega)]; exact h.1.2.2.2
theorem mM.logc {z z' : zM} {x : Nat} {M : aM} (h : mM z x M) {T : aT} (hf : mfr z z' (mat x 4) 41) (hl : mLog z' x T) : mM z' x (M.setLog T) :=
  ⟨h.part (lo := 4) (hi := 45) hf (by omega) (by omega), hl, h.2.2.1.cg (hf.cg (by unfold mat; omega)), h.2.2.2.1.cg (hf.cg (by unfold mat; omega)), fun w hw => by rw [hf.2.2 _ (by unfold mat; omega)]; exact h.2.2.2.2 w hw⟩
theorem mM.heldc {z z' : zM} {x : Nat} {M : aM} (h : mM z x M) {T : aT} (hf : mfr z z' (mat x 45) 181) (hl : mHeld z' x T) : mM z' x (M.setHeld T) :=
  ⟨h.part (lo := 45) (hi := 226) hf (by omega) (by omega), h.2.1.cg (hf.cg (by unfold mat; omega)), hl, h.2.2.2.1.cg (hf.cg (by unfold mat; omega)), fun w hw => by rw [hf.2.2 _ (by unfold mat; omega)]; exact h.2.2.2.2 w hw⟩
theorem mM.pendc {z z' : zM} {x : Nat} {M : aM} (h : mM z x M) {T : aT} (hf : mfr z z' (mat x 226) 201) (hl : mPend z' x T) : mM z' x (M.setPend T) :=
  ⟨h.part (lo := 226) (hi := 427) hf (by omega) (by omega), h.2.1.cg (hf.cg (by unfold mat; omega)), h.2.2.1.cg (hf.cg (by unfold mat; omega)), hl, fun w hw => by rw [hf.2.2 _ (by unfold mat; omega)]; exact h.2.2.2.2 w hw⟩
theorem mM.ver {z : zM} {x : Nat} {M : aM} (h : mM z x M) {w : Nat} (hw6 : w < 6) (v : Nat) : mM (zi z 273 (mat x (427 + w)) (nI v)) x (M.setVer (va_up M.ver w v)) := by
  have hf := zi_mfr z (mat x (427 + w)) (nI v)
  refine ⟨h.part (lo := 427 + w) (hi := 428 + w) (hf.mono (Nat.le_refl _) (by omega)) (by omega) (by omega), h.2.1.cg (hf.cg (by unfold mat; omega)), h.2.2.1.cg (hf.cg (by unfold mat; omega)), h.2.2.2.1.cg (hf.cg (by unfold mat; omega)), fun y hy => ?_⟩
  show _ = nI (va_up M.ver w v y)
  rw [zi_at]
  by_cases hyw : y = w
  · subst hyw; rw [if_pos ⟨rfl, rfl⟩, va_up_self]
  · rw [if_neg (by unfold mat; omega), va_up_ne _ _ hyw]; exact h.2.2.2.2 y hy
