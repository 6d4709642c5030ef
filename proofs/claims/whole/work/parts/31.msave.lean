def mz (z : zM) (k : Nat) : zM := zr z 273 (fun i => if i < k then 0 else z.1 273 i)
theorem mz_0 (z : zM) : mz z 0 = z := by
  refine Prod.ext (funext fun a => ?_) rfl
  by_cases h : a = 273
  · subst h; rw [mz, zr_s]; funext i; rw [if_neg (by omega)]
  · rw [mz, zr_n _ _ h]
theorem mz_step (z : zM) (k : Nat) : zi (mz z k) 273 k 0 = mz z (k + 1) := by
  refine Prod.ext (funext fun a => funext fun i => ?_) rfl
  rw [zi_at]
  by_cases ha : a = 273
  · subst ha
    rw [mz, mz, zr_s, zr_s]
    by_cases hi : i = k
    · subst hi; rw [if_pos ⟨rfl, rfl⟩, if_pos (by omega)]
    · rw [if_neg (fun q => hi q.2)]
      by_cases hq : i < k
      · rw [if_pos hq, if_pos (by omega)]
      · rw [if_neg hq, if_neg (by omega)]
  · rw [if_neg (fun q => ha q.1), mz, mz, zr_n _ _ ha, zr_n _ _ ha]
def mbz (z : zM) (n : Nat) : Nat → zM
  | 0 => zi (mz z 2921) 273 0 (nI n)
  | x + 1 => zi (zi (mbz z n x) 273 (mat x 0) (nI x)) 273 (mat x 3) (othI x n)
theorem mbz_mfr (z : zM) {n : Nat} : ∀ x, x ≤ 6 → mfr z (mbz z n x) 0 2921 := by
  intro x
  induction x with
  | zero =>
    intro _
    have h : mfr z (mz z 2921) 0 2921 := ⟨fun i hi => zr_n _ _ hi, rfl, fun j hj => by rw [mz, zr_s, if_neg (by omega)]⟩
    exact h.tr ((zi_mfr _ _ _).mono (by omega) (by omega))
  | succ x ih =>
    intro hx
    exact ((ih (by omega)).tr ((zi_mfr _ _ _).mono (by omega) (by unfold mat; omega))).tr ((zi_mfr _ _ _).mono (by omega) (by unfold mat; omega))
/-- behind x machines: 0 but for the count, the states and the witnesses -/
theorem mbz_at (z : zM) {n : Nat} : ∀ x, x ≤ 6 → (mbz z n x).1 273 0 = nI n ∧ (∀ y, y < x → (mbz z n x).1 273 (mat y 0) = nI y ∧ (mbz z n x).1 273 (mat y 3) = othI y n) ∧ (∀ i, 0 < i → i < 2921 → (∀ y, y < x → i ≠ mat y 0 ∧ i ≠ mat y 3) → (mbz z n x).1 273 i = 0) := by
  intro x
  induction x with
  | zero =>
    intro _
    refine ⟨by show (zi _ _ _ _).1 _ _ = _; rw [zi_at, if_pos ⟨rfl, rfl⟩], fun y hy => absurd hy (Nat.not_lt_zero _), fun i h0 h1 _ => ?_⟩
    show (zi _ _ _ _).1 _ _ = _
    rw [zi_at, if_neg (by omega), mz, zr_s, if_pos h1]
  | succ x ih =>
    intro hx
    obtain ⟨a, b, c⟩ := ih (by omega)
    refine ⟨?_, fun y hy => ?_, fun i h0 h1 h2 => ?_⟩
    · show (zi (zi _ _ _ _) _ _ _).1 _ _ = _
      rw [zi_at, if_neg (by unfold mat; omega), zi_at, if_neg (by unfold mat; omega)]; exact a
    · show (zi (zi _ _ _ _) _ _ _).1 _ _ = _ ∧ (zi (zi _ _ _ _) _ _ _).1 _ _ = _
      rw [zi_at, zi_at, zi_at, zi_at]
      by_cases hyx : y = x
      · subst hyx
        exact ⟨by rw [if_neg (by unfold mat; omega), if_pos ⟨rfl, rfl⟩], by rw [if_pos ⟨rfl, rfl⟩]⟩
      · rw [if_neg (by unfold mat; omega), if_neg (by unfold mat; omega), if_neg (by unfold mat; omega), if_neg (by unfold mat; omega)]
        exact b y (by omega)
    · obtain ⟨h3, h4⟩ := h2 x (by omega)
      show (zi (zi _ _ _ _) _ _ _).1 _ _ = _
      rw [zi_at, if_neg (by omega), zi_at, if_neg (by omega)]
      exact c i h0 h1 (fun y hy => h2 y (by omega))
theorem mbz_S (z : zM) {n : Nat} (hn : n ≤ 6) : mS (mbz z n n) (aI n) := by
  obtain ⟨a, b, c⟩ := mbz_at z (n := n) n hn
  have hz : ∀ x, x < n → ∀ o, o < 433 → o ≠ 0 → o ≠ 3 → (mbz z n n).1 273 (mat x o) = nI 0 := fun x hx o ho h0 h3 => c _ (by unfold mat; omega) (by unfold mat; omega) (fun y hy => by unfold mat; omega)
  refine ⟨⟨hn, a⟩, fun x hx => ?_, ⟨Nat.zero_le _, c 2599 (by omega) (by omega) (fun y hy => by unfold mat; omega), fun j hj => absurd hj (Nat.not_lt_zero _)⟩, ⟨Nat.zero_le _, c 2800 (by omega) (by omega) (fun y hy => by unfold mat; omega), fun j hj => absurd hj (Nat.not_lt_zero _)⟩⟩
  have hx : x < n := hx
  refine ⟨⟨(b x hx).1, hz x hx 1 (by omega) (by omega) (by omega), hz x hx 2 (by omega) (by omega) (by omega), (b x hx).2.trans (oth_dec n (by omega) x hx).1⟩, ⟨Nat.zero_le _, hz x hx 4 (by omega) (by omega) (by omega), fun j hj => absurd hj (Nat.not_lt_zero _)⟩, ⟨Nat.zero_le _, hz x hx 45 (by omega) (by omega) (by omega), fun j hj => absurd hj (Nat.not_lt_zero _)⟩, ⟨Nat.zero_le _, hz x hx 226 (by omega) (by omega) (by omega), fun j hj => absurd hj (Nat.not_lt_zero _)⟩, fun w hw => hz x hx _ (by omega) (by omega) (by omega)⟩
/-- the past rows: one row forward; the present row into a past one; a past one into the present one -/
def psh (z : zM) (k : Nat) : zM := zr z 274 (fun i => if i < k then z.1 274 (i + 2921) else z.1 274 i)
theorem psh_0 (z : zM) : psh z 0 = z := by
  refine Prod.ext (funext fun a => ?_) rfl
  by_cases h : a = 274
  · subst h; rw [psh, zr_s]; funext i; rw [if_neg (by omega)]
  · rw [psh, zr_n _ _ h]
theorem psh_at (z : zM) (k i : Nat) : (psh z k).1 274 i = if i < k then z.1 274 (i + 2921) else z.1 274 i := by rw [psh, zr_s]
theorem psh_n (z : zM) {i : Nat} (k : Nat) (h : i ≠ 274) : (psh z k).1 i = z.1 i := zr_n _ _ h
theorem psh_step (z : zM) (k : Nat) : zi (psh z k) 274 k ((psh z k).1 274 (k + 2921)) = psh z (k + 1) := by
  refine Prod.ext (funext fun a => funext fun i => ?_) rfl
  rw [psh_at z k (k + 2921), if_neg (by omega), zi_at]
  by_cases ha : a = 274
  · subst ha
    rw [psh_at, psh_at]
    by_cases hi : i = k
    · subst hi; rw [if_pos ⟨rfl, rfl⟩, if_pos (by omega)]
    · rw [if_neg (fun q => hi q.2)]
      by_cases hq : i < k
      · rw [if_pos hq, if_pos (by omega)]
      · rw [if_neg hq, if_neg (by omega)]
  · rw [if_neg (fun q => ha q.1), psh_n _ _ ha, psh_n _ _ ha]
def pcp (z : zM) (c k : Nat) : zM := zr z 274 (fun i => if 2921 * c ≤ i ∧ i < 2921 * c + k then z.1 273 (i - 2921 * c) else z.1 274 i)
theorem pcp_at (z : zM) (c k i : Nat) : (pcp z c k).1 274 i = if 2921 * c ≤ i ∧ i < 2921 * c + k then z.1 273 (i - 2921 * c) else z.1 274 i := by rw [pcp, zr_s]
theorem pcp_n (z : zM) {i : Nat} (c k : Nat) (h : i ≠ 274) : (pcp z c k).1 i = z.1 i := zr_n _ _ h
theorem pcp_0 (z : zM) (c : Nat) : pcp z c 0 = z := by
  refine Prod.ext (funext fun a => ?_) rfl
  by_cases h : a = 274
  · subst h; funext i; rw [pcp_at, if_neg (by omega)]
  · rw [pcp_n _ _ _ h]
theorem pcp_step (z : zM) (c k : Nat) : zi (pcp z c k) 274 (2921 * c + k) ((pcp z c k).1 273 k) = pcp z c (k + 1) := by
  refine Prod.ext (funext fun a => funext fun i => ?_) rfl
  rw [pcp_n z c k (i := 273) (by omega), zi_at]
  by_cases ha : a = 274
  · subst ha
    rw [pcp_at, pcp_at]
    by_cases hi : i = 2921 * c + k
    · subst hi; rw [if_pos ⟨rfl, rfl⟩, if_pos (by omega), show 2921 * c + k - 2921 * c = k by omega]
    · rw [if_neg (fun q => hi q.2)]
      by_cases hq : 2921 * c ≤ i ∧ i < 2921 * c + k
      · rw [if_pos hq, if_pos (by omega)]
      · rw [if_neg hq, if_neg (by omega)]
  · rw [if_neg (fun q => ha q.1), pcp_n _ _ _ ha, pcp_n _ _ _ ha]
def pbk (z : zM) (c k : Nat) : zM := zr z 273 (fun i => if i < k then z.1 274 (2921 * c + i) else z.1 273 i)
theorem pbk_at (z : zM) (c k i : Nat) : (pbk z c k).1 273 i = if i < k then z.1 274 (2921 * c + i) else z.1 273 i := by rw [pbk, zr_s]
theorem pbk_n (z : zM) {i : Nat} (c k : Nat) (h : i ≠ 273) : (pbk z c k).1 i = z.1 i := zr_n _ _ h
theorem pbk_0 (z : zM) (c : Nat) : pbk z c 0 = z := by
  refine Prod.ext (funext fun a => ?_) rfl
  by_cases h : a = 273
  · subst h; funext i; rw [pbk_at, if_neg (by omega)]
  · rw [pbk_n _ _ _ h]
theorem pbk_step (z : zM) (c k : Nat) : zi (pbk z c k) 273 k ((pbk z c k).1 274 (2921 * c + k)) = pbk z c (k + 1) := by
  refine Prod.ext (funext fun a => funext fun i => ?_) rfl
  rw [pbk_n z c k (i := 274) (by omega), zi_at]
  by_cases ha : a = 273
  · subst ha
    rw [pbk_at, pbk_at]
    by_cases hi : i = k
    · subst hi; rw [if_pos ⟨rfl, rfl⟩, if_pos (by omega)]
    · rw [if_neg (fun q => hi q.2)]
      by_cases hq : i < k
      · rw [if_pos hq, if_pos (by omega)]
      · rw [if_neg hq, if_neg (by omega)]
  · rw [if_neg (fun q => ha q.1), pbk_n _ _ _ ha, pbk_n _ _ _ ha]
def msv (z : zM) (c : Nat) : zM := if c = 4 then zi (pcp (zi (psh z 8763) 272 2 (nI 3)) 3 2921) 272 2 (nI 4) else zi (pcp z c 2921) 272 2 (nI (c + 1))
def mun (z : zM) (c : Nat) : zM := pbk (zi z 272 2 (nI (c - 1))) (c - 1) 2921
/-- all that the reference has: its present row, its past rows -/
def mpr (z : zM) (j : Nat) : zM := zr z 273 (fun i => z.1 274 (2921 * j + i))
theorem mpr_at (z : zM) (j i : Nat) : (mpr z j).1 273 i = z.1 274 (2921 * j + i) := by rw [mpr, zr_s]
def mI (z : zM) (S : aS) (c : Nat) (Lf : Nat → aS) : Prop := mS z S ∧ (c ≤ 4 ∧ z.1 272 2 = nI c) ∧ ∀ j, j < c → mS (mpr z j) (Lf j)
theorem mI.s {z : zM} {S : aS} {c : Nat} {Lf : Nat → aS} (h : mI z S c Lf) : mS z S := h.1
theorem mI.c4 {z : zM} {S : aS} {c : Nat} {Lf : Nat → aS} (h : mI z S c Lf) : c ≤ 4 := h.2.1.1
theorem mI.c {z : zM} {S : aS} {c : Nat} {Lf : Nat → aS} (h : mI z S c Lf) : z.1 272 2 = nI c := h.2.1.2
theorem mI.cg {z z' : zM} {S : aS} {c : Nat} {Lf : Nat → aS} (h : mI z S c Lf) (h2 : z'.1 272 2 = z.1 272 2) (h3 : z'.1 273 = z.1 273) (h4 : z'.1 274 = z.1 274) : mI z' S c Lf :=
  ⟨h.1.cg (fun i _ _ => by rw [h3]), ⟨h.c4, h2.trans h.c⟩, fun j hj => (h.2.2 j hj).cg (fun i _ _ => by rw [mpr_at, mpr_at, h4])⟩
theorem mI.ref {z : zM} {S : aS} {c : Nat} {Lf : Nat → aS} (h : mI z S c Lf) (v : Int32) : mI (zi z 272 3 v) S c Lf :=
  h.cg (by rw [zi_at, if_neg (by omega)]) (by funext i; rw [zi_at, if_neg (by omega)]) (by funext i; rw [zi_at, if_neg (by omega)])
theorem mI.up {z z' : zM} {S S' : aS} {c : Nat} {Lf : Nat → aS} (h : mI z S c Lf) (hf : mfr z z' 0 2921) (hs : mS z' S') : mI z' S' c Lf :=
  ⟨hs, ⟨h.c4, by rw [hf.1 272 (by omega)]; exact h.c⟩, fun j hj => (h.2.2 j hj).cg (fun i _ _ => by rw [mpr_at, mpr_at, hf.1 274 (by omega)])⟩
theorem mfr.fr {z z' : zM} {lo n : Nat} (h : mfr z z' lo n) : zfr z z' 272 3 := ⟨fun i hi => h.1 i (by omega), h.2.1⟩
theorem mref_fr (z : zM) (v : Int32) : zfr z (zi z 272 3 v) 272 3 := (zi_fr _ _ _ _).mono (by omega) (by omega)
theorem msv_fr (z : zM) (c : Nat) : zfr z (msv z c) 272 3 ∧ (msv z c).1 272 3 = z.1 272 3 ∧ (msv z c).1 273 = z.1 273 := by
  unfold msv
  split
  · refine ⟨?_, ?_, ?_⟩
    · exact ((((zr_fr z 274 _).mono (lo2 := 272) (n2 := 3) (by omega) (by omega)).tr ((zi_fr _ 272 2 (nI 3)).mono (by omega) (by omega))).tr ((zr_fr _ 274 _).mono (by omega) (by omega))).tr ((zi_fr _ 272 2 (nI 4)).mono (by omega) (by omega))
    · rw [zi_at, if_neg (by omega), pcp_n _ _ _ (by omega), zi_at, if_neg (by omega), psh_n _ _ (by omega)]
    · funext i
      rw [zi_at, if_neg (by omega), pcp_n _ _ _ (by omega), zi_at, if_neg (by omega), psh_n _ _ (by omega)]
  · refine ⟨?_, ?_, ?_⟩
    · exact ((zr_fr z 274 _).mono (lo2 := 272) (n2 := 3) (by omega) (by omega)).tr ((zi_fr _ 272 2 (nI (c + 1))).mono (by omega) (by omega))
    · rw [zi_at, if_neg (by omega), pcp_n _ _ _ (by omega)]
    · funext i
      rw [zi_at, if_neg (by omega), pcp_n _ _ _ (by omega)]
theorem mI.sv {z : zM} {S : aS} {c : Nat} {Lf : Nat → aS} (h : mI z S c Lf) : mI (msv z c) S (svc c) (svf c Lf S) := by
  have h4 := h.c4
  have h73 := (msv_fr z c).2.2
  refine ⟨h.1.cg (fun i _ _ => by rw [h73]), ?_, fun j hj => ?_⟩
  · unfold msv svc
    by_cases hc : c = 4
    · rw [if_pos hc, if_neg (by omega)]
      exact ⟨by omega, by rw [zi_at, if_pos ⟨rfl, rfl⟩]⟩
    · rw [if_neg hc, if_pos (by omega)]
      exact ⟨by omega, by rw [zi_at, if_pos ⟨rfl, rfl⟩]⟩
  · unfold svc at hj
    unfold svf msv
    by_cases hc : c = 4
    · rw [if_neg (by omega)] at hj
      rw [if_pos hc, if_neg (show ¬ c < 4 by omega)]
      by_cases h3 : j = 3
      · rw [if_pos h3]
        refine h.1.cg (fun i _ hi => ?_)
        rw [mpr_at, zi_at, if_neg (by omega), pcp_at, if_pos (by omega), zi_at, if_neg (by omega), psh_n _ _ (by omega), show 2921 * j + i - 2921 * 3 = i by omega]
      · rw [if_neg h3]
        refine (h.2.2 (j + 1) (by omega)).cg (fun i _ hi => ?_)
        rw [mpr_at, mpr_at, zi_at, if_neg (by omega), pcp_at, if_neg (by omega), zi_at, if_neg (by omega), psh_at, if_pos (by omega), show 2921 * j + i + 2921 = 2921 * (j + 1) + i by omega]
    · rw [if_pos (by omega)] at hj
      rw [if_neg hc, if_pos (show c < 4 by omega)]
      by_cases hjc : j = c
      · subst hjc
        rw [va_up_self]
        refine h.1.cg (fun i _ hi => ?_)
        rw [mpr_at, zi_at, if_neg (by omega), pcp_at, if_pos (by omega), show 2921 * j + i - 2921 * j = i by omega]
      · rw [va_up_ne _ _ hjc]
        refine (h.2.2 j (by omega)).cg (fun i _ hi => ?_)
        rw [mpr_at, mpr_at, zi_at, if_neg (by omega), pcp_at, if_neg (by omega)]
theorem mI.un {z : zM} {S : aS} {c : Nat} {Lf : Nat → aS} (h : mI z S c Lf) (h0 : 0 < c) : mI (mun z c) (Lf (c - 1)) (c - 1) Lf := by
  have h4 := h.c4
  unfold mun
  refine ⟨(h.2.2 (c - 1) (by omega)).cg (fun i _ hi => ?_), ⟨by omega, ?_⟩, fun j hj => (h.2.2 j (by omega)).cg (fun i _ hi => ?_)⟩
  · rw [pbk_at, if_pos hi, zi_at, if_neg (by omega), mpr_at]
  · rw [pbk_n _ _ _ (by omega), zi_at, if_pos ⟨rfl, rfl⟩]
  · rw [mpr_at, mpr_at, pbk_n _ _ _ (by omega), zi_at, if_neg (by omega)]
theorem mun_fr (z : zM) (c : Nat) : zfr z (mun z c) 272 3 ∧ (mun z c).1 272 3 = z.1 272 3 := by
  unfold mun
  refine ⟨((zi_fr z 272 2 (nI (c - 1))).mono (lo2 := 272) (n2 := 3) (by omega) (by omega)).tr ((zr_fr _ 273 _).mono (by omega) (by omega)), ?_⟩
  rw [pbk_n _ _ _ (by omega), zi_at, if_neg (by omega)]
/-- what is in a range, and what isn't -/
theorem isM_w {v : Int32} {n : Nat} (hn : n < 2 ^ 31) : (0 ≤ v ∧ v ≤ nI n - 1) ↔ isM v n := by
  constructor
  · rintro ⟨h1, h2⟩
    rcases Nat.eq_zero_or_pos n with h0 | h0
    · subst h0
      have h3 : (0 : Int32) ≤ nI 0 - 1 := Int32.le_trans h1 h2
      exact absurd h3 (by decide)
    · rw [zlit 1, zsub h0] at h2
      exact isM_of (Int32.not_lt.mpr h1) (fun q => absurd (Int32.le_trans q h2) (znle hn (by omega))) hn
  · rintro ⟨x, hx, rfl⟩
    rw [zlit 1, zsub (by omega)]
    exact ⟨znege (by omega), zle (by omega) (by omega)⟩
def isR (v : Int32) (a b : Nat) : Prop := ∃ n, a ≤ n ∧ n ≤ b ∧ v = nI n
theorem isR_w {v : Int32} {a b : Nat} (hb : b < 2 ^ 31 - 1) (hab : a ≤ b) : (nI a ≤ v ∧ v ≤ nI b) ↔ isR v a b := by
  constructor
  · rintro ⟨h1, h2⟩
    have h0 : (0 : Int32) ≤ v := Int32.le_trans (znege (by omega)) h1
    obtain ⟨x, hx, rfl⟩ := isM_of (v := v) (n := b + 1) (Int32.not_lt.mpr h0) (fun q => absurd (Int32.le_trans q h2) (znle (by omega) (by omega))) (by omega)
    refine ⟨x, Nat.le_of_not_lt (fun q => absurd h1 (znle (by omega) q)), by omega, rfl⟩
  · rintro ⟨x, h1, h2, rfl⟩
    exact ⟨zle (by omega) h1, zle (by omega) h2⟩
theorem m_X4_ref0 {G : zG} {N : Nat} {Λ : zLay} {l : Launch} (hO : zOK G l) (z : zM) (hB : zMo G N Λ) : zMet G N Λ l yX4_refused cX4_refused 2 (some .boolean) 0 [.ref (G.h + 272), .int 0] z (some (.int 0)) (zi z 272 3 0) := by
  exact m_X4_refused hO z hB (w := 0) (by omega)
theorem m_X4_ref1 {G : zG} {N : Nat} {Λ : zLay} {l : Launch} (hO : zOK G l) (z : zM) (hB : zMo G N Λ) {w : Nat} (hw9 : w < 10) (hw0 : ¬ w = 0) : zMet G N Λ l yX4_refused cX4_refused 2 (some .boolean) 0 [.ref (G.h + 272), .int (nI w)] z (some (.int 1)) (zi z 272 3 (nI w)) := by
  have h := m_X4_refused (Λ := Λ) (N := N) hO z hB (w := w) hw9
  rw [if_neg hw0] at h
  exact h
theorem m_X4_wy {G : zG} {N : Nat} {Λ : zLay} {l : Launch} (hO : zOK G l) (z : zM) {v a c : Int32} (h : a ≤ v ∧ v ≤ c) : zMet G N Λ l yX4_within cX4_within 3 (some .boolean) 0 [.int v, .int a, .int c] z (some (.int 1)) z := by
  have h1 := m_X4_within (Λ := Λ) (N := N) hO z (v := v) (a := a) (c := c)
  rw [if_pos h] at h1
  exact h1
theorem m_X4_wn {G : zG} {N : Nat} {Λ : zLay} {l : Launch} (hO : zOK G l) (z : zM) {v a c : Int32} (h : ¬ (a ≤ v ∧ v ≤ c)) : zMet G N Λ l yX4_within cX4_within 3 (some .boolean) 0 [.int v, .int a, .int c] z (some (.int 0)) z := by
  have h1 := m_X4_within (Λ := Λ) (N := N) hO z (v := v) (a := a) (c := c)
  rw [if_neg h] at h1
  exact h1
theorem m_X4_isM_y {G : zG} {N : Nat} {Λ : zLay} {l : Launch} (hO : zOK G l) (z : zM) (hB : zMo G N Λ) {n x : Nat} (hn : z.1 273 0 = nI n) (hn6 : n ≤ 6) (hx : x < n) : zMet G N Λ l yX4_isMachine cX4_isMachine 2 (some .boolean) 1 [.ref (G.h + 272), .int (nI x)] z (some (.int 1)) z := by
  have h1 := m_X4_isMachine (Λ := Λ) (N := N) hO z hB (v := nI x) hn (by omega)
  rw [if_pos ⟨znege (by omega), zle (by omega) (by omega)⟩] at h1
  exact h1
theorem m_X4_isM_n {G : zG} {N : Nat} {Λ : zLay} {l : Launch} (hO : zOK G l) (z : zM) (hB : zMo G N Λ) {n : Nat} {v : Int32} (hn : z.1 273 0 = nI n) (hn2 : 2 ≤ n) (hn6 : n ≤ 6) (hv : ¬ isM v n) : zMet G N Λ l yX4_isMachine cX4_isMachine 2 (some .boolean) 1 [.ref (G.h + 272), .int v] z (some (.int 0)) z := by
  have h1 := m_X4_isMachine (Λ := Λ) (N := N) hO z hB (v := v) hn (by omega)
  rw [if_neg (fun q => hv ((isM_w (by omega)).mp ⟨q.1, by rw [zlit 1, zsub (by omega)]; exact q.2⟩))] at h1
  exact h1
set_option maxRecDepth 100000 in
set_option maxHeartbeats 4000000 in
theorem m_X4_begins {G : zG} {N : Nat} {Λ : zLay} {l : Launch} (hO : zOK G l) (z : zM) (hB : zMo G N Λ) {n : Nat} (hn6 : n ≤ 6) : zMet G N Λ l yX4_begins cX4_begins 3 none 1 [.ref (G.h + 272), .int (nI n)] z none (mbz z n n) := by
  refine zMet_of hO (by decide) (Nat.le_of_ble_eq_true rfl) ?_
  intro pP eE sS mM bB tT cC ls C hw hl
  have hl : lv_has ls 3 [(0, .ref (G.h + 272)), (1, .int (nI n))] := hl
  refine lv_iconst (v := 0) C.x C.b dX4_begins_0 (by decide) ?_
  refine lv_istore_n (lv' := [(2, .int 0), (0, .ref (G.h + 272)), (1, .int (nI n))]) C.x C.b dX4_begins_1 rfl hl (by decide) rfl (fun ls hl => ?_)
  have loop : ∀ (d : Nat) (j : Nat) (H : Heap) (locs : List Loc) (ls : Array Slot) (hj : j + d = 2921), zS G N Λ (mz z j) sS H locs → lv_has ls 3 [(0, .ref (G.h + 272)), (1, .int (nI n)), (2, .int (nI j))] → W pP l eE (zR 1) sS mM ([.ref (G.h + 272), .int (nI n)] : List Value).toArray bB tT cC H locs 0 0 (MQ bB (zQc G N Λ none (mbz z n n)) ([.ref (G.h + 272), .int (nI n)] : List Value).toArray sS 0 0 (zA G)) (F0 mM 2 ls []) := by
    intro d
    induction d with
    | zero =>
      intro j H locs ls hj hw hl
      refine lv_iload_n C.x C.b dX4_begins_2 rfl (lv_at hl 2 rfl) ?_
      refine lv_sipush (v := 2921) C.x C.b dX4_begins_3 (by decide) ?_
      refine lv_icmp_ge (tgt := 22) C.x C.b dX4_begins_6 (by decide) (fun c_6 => ?_) (fun c_6 => absurd (zle (a := 2921) (by omega) (by omega)) c_6)
      refine lv_aload_n C.x C.b dX4_begins_22 rfl (lv_at hl 0 rfl) ?_
      refine z_get C hw hB.lt (hB.at _ _) flX4_7 rfl dX4_begins_23 ?_
      refine lv_iconst (v := 0) C.x C.b dX4_begins_26 (by decide) ?_
      refine lv_iload_n C.x C.b dX4_begins_27 rfl (lv_at hl 1 rfl) ?_
      refine z_iast C hw hB.ltn hB.now (zvin (x := 0) (by omega) (by omega)) dX4_begins_28 (fun H locs hw => ?_)
      have e8 : (0 : Int32).toNatClampNeg = 0 := zcl (x := 0) (n := 2921) (by omega) (by omega)
      rw [e8] at hw
      obtain ⟨z_1, ez_1⟩ : ∃ q_9, q_9 = zi (mz z j) 273 0 (nI n) := ⟨_, rfl⟩
      have hw : zS G N Λ z_1 sS H locs := by rw [ez_1]; exact hw
      refine lv_iconst (v := 0) C.x C.b dX4_begins_29 (by decide) ?_
      refine lv_istore_n (lv' := [(2, .int 0), (0, .ref (G.h + 272)), (1, .int (nI n))]) C.x C.b dX4_begins_30 rfl hl (by decide) rfl (fun ls hl => ?_)
      have loop2 : ∀ (d : Nat) (x : Nat) (H : Heap) (locs : List Loc) (ls : Array Slot) (hx : x + d = n), zS G N Λ (mbz z n x) sS H locs → lv_has ls 3 [(0, .ref (G.h + 272)), (1, .int (nI n)), (2, .int (nI x))] → W pP l eE (zR 1) sS mM ([.ref (G.h + 272), .int (nI n)] : List Value).toArray bB tT cC H locs 0 0 (MQ bB (zQc G N Λ none (mbz z n n)) ([.ref (G.h + 272), .int (nI n)] : List Value).toArray sS 0 0 (zA G)) (F0 mM 31 ls []) := by
        intro d
        induction d with
        | zero =>
          intro x H locs ls hx hw hl
          refine lv_iload_n C.x C.b dX4_begins_31 rfl (lv_at hl 2 rfl) ?_
          refine lv_iload_n C.x C.b dX4_begins_32 rfl (lv_at hl 1 rfl) ?_
          refine lv_icmp_ge (tgt := 74) C.x C.b dX4_begins_33 (by decide) (fun c_33 => ?_) (fun c_33 => absurd (zle (by omega) (by omega)) c_33)
          exact z_vret C hw dX4_begins_74 (rfl) (by rw [show x = n by omega])
        | succ d ih =>
          intro x H locs ls hx hw hl
          refine lv_iload_n C.x C.b dX4_begins_31 rfl (lv_at hl 2 rfl) ?_
          refine lv_iload_n C.x C.b dX4_begins_32 rfl (lv_at hl 1 rfl) ?_
          refine lv_icmp_ge (tgt := 74) C.x C.b dX4_begins_33 (by decide) (fun c_33 => absurd c_33 (znle (by omega) (by omega))) (fun c_33 => ?_)
          refine lv_aload_n C.x C.b dX4_begins_36 rfl (lv_at hl 0 rfl) ?_
          refine z_get C hw hB.lt (hB.at _ _) flX4_7 rfl dX4_begins_37 ?_
          refine lv_iload_n C.x C.b dX4_begins_40 rfl (lv_at hl 2 rfl) ?_
          refine lv_iconst (v := 0) C.x C.b dX4_begins_41 (by decide) ?_
          refine z_Sv (As := [.int (nI x), .int 0]) (rest := [.ref (G.h + 273)]) C hw hl (m_X4_at hO _ (o := 0)) ivX4_28 rfl rfl ⟨(Nat.le_of_ble_eq_true rfl), (Nat.le_of_ble_eq_true rfl)⟩ (Nat.le_of_ble_eq_true rfl) ⟨Nat.zero_le _, Nat.zero_le _⟩ dX4_begins_42 (fun H locs hw => ?_)
          refine lv_iload_n C.x C.b dX4_begins_45 rfl (lv_at hl 2 rfl) ?_
          refine z_iast C hw hB.ltn hB.now (zvin (x := mat x 0) (mat_lt2 (by omega) (by omega)) (by omega)) dX4_begins_46 (fun H locs hw => ?_)
          have e8 : (nI (mat x 0)).toNatClampNeg = (mat x 0) := zcl (x := mat x 0) (n := 2921) (mat_lt2 (by omega) (by omega)) (by omega)
          rw [e8] at hw
          obtain ⟨z_2, ez_2⟩ : ∃ q_9, q_9 = zi (mbz z n x) 273 (mat x 0) (nI x) := ⟨_, rfl⟩
          have hw : zS G N Λ z_2 sS H locs := by rw [ez_2]; exact hw
          refine lv_aload_n C.x C.b dX4_begins_47 rfl (lv_at hl 0 rfl) ?_
          refine z_get C hw hB.lt (hB.at _ _) flX4_7 rfl dX4_begins_48 ?_
          refine lv_iload_n C.x C.b dX4_begins_51 rfl (lv_at hl 2 rfl) ?_
          refine lv_iconst (v := 3) C.x C.b dX4_begins_52 (by decide) ?_
          refine z_Sv (As := [.int (nI x), .int 3]) (rest := [.ref (G.h + 273)]) C hw hl (m_X4_at hO _ (o := 3)) ivX4_28 rfl rfl ⟨(Nat.le_of_ble_eq_true rfl), (Nat.le_of_ble_eq_true rfl)⟩ (Nat.le_of_ble_eq_true rfl) ⟨Nat.zero_le _, Nat.zero_le _⟩ dX4_begins_53 (fun H locs hw => ?_)
          refine lv_iconst (v := 1) C.x C.b dX4_begins_56 (by decide) ?_
          refine lv_iload_n C.x C.b dX4_begins_57 rfl (lv_at hl 1 rfl) ?_
          refine lv_ishl C.x C.b dX4_begins_58 ?_
          refine lv_iconst (v := 1) C.x C.b dX4_begins_59 (by decide) ?_
          refine z_pc (pc2 := 60) rfl ?_
          refine lv_isub C.x C.b dX4_begins_60 ?_
          refine lv_iconst (v := 1) C.x C.b dX4_begins_61 (by decide) ?_
          refine lv_iload_n C.x C.b dX4_begins_62 rfl (lv_at hl 2 rfl) ?_
          refine lv_ishl C.x C.b dX4_begins_63 ?_
          refine lv_iconst (v := -1) C.x C.b dX4_begins_64 (by decide) ?_
          refine lv_ixor C.x C.b dX4_begins_65 ?_
          refine lv_iand C.x C.b dX4_begins_66 ?_
          refine z_iast C hw hB.ltn hB.now (zvin (x := mat x 3) (mat_lt2 (by omega) (by omega)) (by omega)) dX4_begins_67 (fun H locs hw => ?_)
          have e8 : (nI (mat x 3)).toNatClampNeg = (mat x 3) := zcl (x := mat x 3) (n := 2921) (mat_lt2 (by omega) (by omega)) (by omega)
          rw [e8] at hw
          obtain ⟨z_3, ez_3⟩ : ∃ q_9, q_9 = zi z_2 273 (mat x 3) ((((1 : Int32) <<< ((nI n) &&& 31)) - 1) &&& (((1 : Int32) <<< ((nI x) &&& 31)) ^^^ (-1))) := ⟨_, rfl⟩
          have hw : zS G N Λ z_3 sS H locs := by rw [ez_3]; exact hw
          refine lv_iinc (v := nI x + 1) (lv' := [(2, .int (nI x + 1)), (0, .ref (G.h + 272)), (1, .int (nI n))]) C.x C.b dX4_begins_68 hl (k := 2) rfl rfl (by decide) rfl (fun ls hl => ?_)
          have hl : lv_has ls 3 [(2, .int (nI (x + 1))), (0, .ref (G.h + 272)), (1, .int (nI n))] := by
            have e9 : nI x + 1 = nI (x + 1) := nI_1 x
            rw [← e9]; exact hl
          refine lv_goto (tgt := 31) C.x C.b dX4_begins_71 (by decide) ?_
          exact ih (x + 1) _ _ _ (by omega) (by rw [ez_3, ez_2] at hw; exact hw) (lv_sub hl [1, 2, 0] rfl)
      exact loop2 n 0 _ _ _ (by omega) (by rw [ez_1, show j = 2921 by omega] at hw; exact hw) (lv_sub hl [1, 2, 0] rfl)
    | succ d ih =>
      intro j H locs ls hj hw hl
      refine lv_iload_n C.x C.b dX4_begins_2 rfl (lv_at hl 2 rfl) ?_
      refine lv_sipush (v := 2921) C.x C.b dX4_begins_3 (by decide) ?_
      refine lv_icmp_ge (tgt := 22) C.x C.b dX4_begins_6 (by decide) (fun c_6 => absurd c_6 (znle (b := 2921) (by omega) (by omega))) (fun c_6 => ?_)
      refine lv_aload_n C.x C.b dX4_begins_9 rfl (lv_at hl 0 rfl) ?_
      refine z_get C hw hB.lt (hB.at _ _) flX4_7 rfl dX4_begins_10 ?_
      refine lv_iload_n C.x C.b dX4_begins_13 rfl (lv_at hl 2 rfl) ?_
      refine lv_iconst (v := 0) C.x C.b dX4_begins_14 (by decide) ?_
      refine z_iast C hw hB.ltn hB.now (zvin (x := j) (by omega) (by omega)) dX4_begins_15 (fun H locs hw => ?_)
      have e8 : (nI j).toNatClampNeg = j := zcl (x := j) (n := 2921) (by omega) (by omega)
      rw [e8] at hw
      obtain ⟨z_4, ez_4⟩ : ∃ q_9, q_9 = zi (mz z j) 273 j 0 := ⟨_, rfl⟩
      have hw : zS G N Λ z_4 sS H locs := by rw [ez_4]; exact hw
      refine lv_iinc (v := nI j + 1) (lv' := [(2, .int (nI j + 1)), (0, .ref (G.h + 272)), (1, .int (nI n))]) C.x C.b dX4_begins_16 hl (k := 2) rfl rfl (by decide) rfl (fun ls hl => ?_)
      have hl : lv_has ls 3 [(2, .int (nI (j + 1))), (0, .ref (G.h + 272)), (1, .int (nI n))] := by
        have e9 : nI j + 1 = nI (j + 1) := nI_1 j
        rw [← e9]; exact hl
      refine lv_goto (tgt := 2) C.x C.b dX4_begins_19 (by decide) ?_
      exact ih (j + 1) _ _ _ (by omega) (by rw [ez_4, mz_step] at hw; exact hw) (lv_sub hl [1, 2, 0] rfl)
  exact loop 2921 0 _ _ _ (by omega) (by rw [mz_0]; exact hw) (lv_sub hl [1, 2, 0] rfl)

set_option maxRecDepth 100000 in
set_option maxHeartbeats 4000000 in
theorem m_X4_saves_n {G : zG} {N : Nat} {Λ : zLay} {l : Launch} (hO : zOK G l) (z : zM) (hB : zMo G N Λ) {c : Nat} (hc : z.1 272 2 = nI c) (hc4 : c < 4) : zMet G N Λ l yX4_saves cX4_saves 2 none 0 [.ref (G.h + 272)] z none (zi (pcp z c 2921) 272 2 (nI (c + 1))) := by
  refine zMet_of hO (by decide) (Nat.le_of_ble_eq_true rfl) ?_
  intro pP eE sS mM bB tT cC ls C hw hl
  have hl : lv_has ls 2 [(0, .ref (G.h + 272))] := hl
  refine lv_aload_n C.x C.b dX4_saves_0 rfl (lv_at hl 0 rfl) ?_
  refine z_get C hw hB.lt (hB.at _ _) flX4_32 rfl dX4_saves_1 ?_
  refine z_topi (y := nI c) (hc) ?_
  refine lv_iconst (v := 4) C.x C.b dX4_saves_4 (by decide) ?_
  refine lv_icmp_ne (tgt := 49) C.x C.b dX4_saves_5 (by decide) (fun c_5 => ?_) (fun c_5 => absurd c_5 (zne (b := 4) (by omega) (by omega) (by omega)))
  refine lv_iconst (v := 0) C.x C.b dX4_saves_49 (by decide) ?_
  refine lv_istore_n (lv' := [(1, .int 0), (0, .ref (G.h + 272))]) C.x C.b dX4_saves_50 rfl hl (by decide) rfl (fun ls hl => ?_)
  have loop2 : ∀ (d : Nat) (k : Nat) (H : Heap) (locs : List Loc) (ls : Array Slot) (hk : k + d = 2921), zS G N Λ (pcp z c k) sS H locs → lv_has ls 2 [(0, .ref (G.h + 272)), (1, .int (nI k))] → W pP l eE (zR 0) sS mM ([.ref (G.h + 272)] : List Value).toArray bB tT cC H locs 0 0 (MQ bB (zQc G N Λ none (zi (pcp z c 2921) 272 2 (nI (c + 1)))) ([.ref (G.h + 272)] : List Value).toArray sS 0 0 (zA G)) (F0 mM 51 ls []) := by
    intro d
    induction d with
    | zero =>
      intro k H locs ls hk hw hl
      refine lv_iload_n C.x C.b dX4_saves_51 rfl (lv_at hl 1 rfl) ?_
      refine lv_sipush (v := 2921) C.x C.b dX4_saves_52 (by decide) ?_
      refine lv_icmp_ge (tgt := 85) C.x C.b dX4_saves_55 (by decide) (fun c_55 => ?_) (fun c_55 => absurd (zle (a := 2921) (by omega) (by omega)) c_55)
      refine lv_aload_n C.x C.b dX4_saves_85 rfl (lv_at hl 0 rfl) ?_
      refine lv_dup C.x C.b dX4_saves_86 rfl ?_
      refine z_get C hw hB.lt (hB.at _ _) flX4_32 rfl dX4_saves_87 ?_
      refine z_topi (y := nI c) (by rw [pcp_n _ _ _ (by omega)]; exact hc) ?_
      refine lv_iconst (v := 1) C.x C.b dX4_saves_90 (by decide) ?_
      refine lv_iadd C.x C.b dX4_saves_91 ?_
      refine z_topi (y := nI (c + 1)) (nI_1 _) ?_
      refine z_put C hw hB.lt (hB.at _ _) ptX4_32 (hB.at _ _) (rfl) (rfl) (Nat.le_of_ble_eq_true rfl) dX4_saves_92 (fun H locs hw => ?_)
      obtain ⟨z_1, ez_1⟩ : ∃ q_9, q_9 = zi (pcp z c k) 272 2 (nI (c + 1)) := ⟨_, rfl⟩
      have hw : zS G N Λ z_1 sS H locs := by rw [ez_1]; exact hw
      exact z_vret C hw dX4_saves_95 (rfl) (by rw [ez_1, show k = 2921 by omega])
    | succ d ih =>
      intro k H locs ls hk hw hl
      refine lv_iload_n C.x C.b dX4_saves_51 rfl (lv_at hl 1 rfl) ?_
      refine lv_sipush (v := 2921) C.x C.b dX4_saves_52 (by decide) ?_
      refine lv_icmp_ge (tgt := 85) C.x C.b dX4_saves_55 (by decide) (fun c_55 => absurd c_55 (znle (b := 2921) (by omega) (by omega))) (fun c_55 => ?_)
      refine lv_aload_n C.x C.b dX4_saves_58 rfl (lv_at hl 0 rfl) ?_
      refine z_get C hw hB.lt (hB.at _ _) flX4_13 rfl dX4_saves_59 ?_
      refine lv_sipush (v := 2921) C.x C.b dX4_saves_62 (by decide) ?_
      refine lv_aload_n C.x C.b dX4_saves_65 rfl (lv_at hl 0 rfl) ?_
      refine z_get C hw hB.lt (hB.at _ _) flX4_32 rfl dX4_saves_66 ?_
      refine z_topi (y := nI c) (by rw [pcp_n _ _ _ (by omega)]; exact hc) ?_
      refine lv_imul C.x C.b dX4_saves_69 ?_
      refine lv_iload_n C.x C.b dX4_saves_70 rfl (lv_at hl 1 rfl) ?_
      refine lv_iadd C.x C.b dX4_saves_71 ?_
      refine z_topi (y := nI (2921 * c + k)) (by rw [zlit 2921, pk_mul, nI_add]) ?_
      refine lv_aload_n C.x C.b dX4_saves_72 rfl (lv_at hl 0 rfl) ?_
      refine z_get C hw hB.lt (hB.at _ _) flX4_7 rfl dX4_saves_73 ?_
      refine lv_iload_n C.x C.b dX4_saves_76 rfl (lv_at hl 1 rfl) ?_
      refine z_iald C hw hB.ltn hB.now (zvin (x := k) (by omega) (by omega)) dX4_saves_77 ?_
      refine z_topi (y := (pcp z c k).1 273 k) (congrArg ((pcp z c k).1 273) (zcl (x := k) (n := 2921) (by omega) (by omega))) ?_
      refine z_iast C hw hB.ltp hB.past (zvin (x := 2921 * c + k) (by omega) (by omega)) dX4_saves_78 (fun H locs hw => ?_)
      have e8 : (nI (2921 * c + k)).toNatClampNeg = (2921 * c + k) := zcl (x := 2921 * c + k) (n := 11684) (by omega) (by omega)
      rw [e8] at hw
      obtain ⟨z_2, ez_2⟩ : ∃ q_9, q_9 = zi (pcp z c k) 274 (2921 * c + k) ((pcp z c k).1 273 k) := ⟨_, rfl⟩
      have hw : zS G N Λ z_2 sS H locs := by rw [ez_2]; exact hw
      refine lv_iinc (v := nI k + 1) (lv' := [(1, .int (nI k + 1)), (0, .ref (G.h + 272))]) C.x C.b dX4_saves_79 hl (k := 1) rfl rfl (by decide) rfl (fun ls hl => ?_)
      have hl : lv_has ls 2 [(1, .int (nI (k + 1))), (0, .ref (G.h + 272))] := by
        have e9 : nI k + 1 = nI (k + 1) := nI_1 k
        rw [← e9]; exact hl
      refine lv_goto (tgt := 51) C.x C.b dX4_saves_82 (by decide) ?_
      exact ih (k + 1) _ _ _ (by omega) (by rw [ez_2, pcp_step] at hw; exact hw) (lv_sub hl [1, 0] rfl)
  exact loop2 2921 0 _ _ _ (by omega) (by rw [pcp_0]; exact hw) (lv_sub hl [1, 0] rfl)

set_option maxRecDepth 100000 in
set_option maxHeartbeats 4000000 in
theorem m_X4_saves_f {G : zG} {N : Nat} {Λ : zLay} {l : Launch} (hO : zOK G l) (z : zM) (hB : zMo G N Λ) (hc : z.1 272 2 = nI 4) : zMet G N Λ l yX4_saves cX4_saves 2 none 0 [.ref (G.h + 272)] z none (zi (pcp (zi (psh z 8763) 272 2 (nI 3)) 3 2921) 272 2 (nI 4)) := by
  refine zMet_of hO (by decide) (Nat.le_of_ble_eq_true rfl) ?_
  intro pP eE sS mM bB tT cC ls C hw hl
  have hl : lv_has ls 2 [(0, .ref (G.h + 272))] := hl
  refine lv_aload_n C.x C.b dX4_saves_0 rfl (lv_at hl 0 rfl) ?_
  refine z_get C hw hB.lt (hB.at _ _) flX4_32 rfl dX4_saves_1 ?_
  refine z_topi (y := nI 4) (hc) ?_
  refine lv_iconst (v := 4) C.x C.b dX4_saves_4 (by decide) ?_
  refine lv_icmp_ne (tgt := 49) C.x C.b dX4_saves_5 (by decide) (fun c_5 => absurd c_5 (fun q => q rfl)) (fun c_5 => ?_)
  refine lv_iconst (v := 0) C.x C.b dX4_saves_8 (by decide) ?_
  refine lv_istore_n (lv' := [(1, .int 0), (0, .ref (G.h + 272))]) C.x C.b dX4_saves_9 rfl hl (by decide) rfl (fun ls hl => ?_)
  have loop : ∀ (d : Nat) (j : Nat) (H : Heap) (locs : List Loc) (ls : Array Slot) (hj : j + d = 8763), zS G N Λ (psh z j) sS H locs → lv_has ls 2 [(0, .ref (G.h + 272)), (1, .int (nI j))] → W pP l eE (zR 0) sS mM ([.ref (G.h + 272)] : List Value).toArray bB tT cC H locs 0 0 (MQ bB (zQc G N Λ none (zi (pcp (zi (psh z 8763) 272 2 (nI 3)) 3 2921) 272 2 (nI 4))) ([.ref (G.h + 272)] : List Value).toArray sS 0 0 (zA G)) (F0 mM 10 ls []) := by
    intro d
    induction d with
    | zero =>
      intro j H locs ls hj hw hl
      refine lv_iload_n C.x C.b dX4_saves_10 rfl (lv_at hl 1 rfl) ?_
      refine lv_sipush (v := 8763) C.x C.b dX4_saves_11 (by decide) ?_
      refine lv_icmp_ge (tgt := 39) C.x C.b dX4_saves_14 (by decide) (fun c_14 => ?_) (fun c_14 => absurd (zle (a := 8763) (by omega) (by omega)) c_14)
      refine lv_aload_n C.x C.b dX4_saves_39 rfl (lv_at hl 0 rfl) ?_
      refine lv_dup C.x C.b dX4_saves_40 rfl ?_
      refine z_get C hw hB.lt (hB.at _ _) flX4_32 rfl dX4_saves_41 ?_
      refine z_topi (y := nI 4) (by rw [psh_n _ _ (by omega)]; exact hc) ?_
      refine lv_iconst (v := 1) C.x C.b dX4_saves_44 (by decide) ?_
      refine lv_isub C.x C.b dX4_saves_45 ?_
      refine z_topi (y := nI 3) (by rw [zlit 1, zsub (by omega)]) ?_
      refine z_put C hw hB.lt (hB.at _ _) ptX4_32 (hB.at _ _) (rfl) (rfl) (Nat.le_of_ble_eq_true rfl) dX4_saves_46 (fun H locs hw => ?_)
      obtain ⟨z_1, ez_1⟩ : ∃ q_9, q_9 = zi (psh z j) 272 2 (nI 3) := ⟨_, rfl⟩
      have hw : zS G N Λ z_1 sS H locs := by rw [ez_1]; exact hw
      have hc3 : z_1.1 272 2 = nI 3 := by rw [ez_1, zi_at, if_pos ⟨rfl, rfl⟩]
      refine lv_iconst (v := 0) C.x C.b dX4_saves_49 (by decide) ?_
      refine lv_istore_n (lv' := [(1, .int 0), (0, .ref (G.h + 272))]) C.x C.b dX4_saves_50 rfl hl (by decide) rfl (fun ls hl => ?_)
      have loop2 : ∀ (d : Nat) (k : Nat) (H : Heap) (locs : List Loc) (ls : Array Slot) (hk : k + d = 2921), zS G N Λ (pcp z_1 3 k) sS H locs → lv_has ls 2 [(0, .ref (G.h + 272)), (1, .int (nI k))] → W pP l eE (zR 0) sS mM ([.ref (G.h + 272)] : List Value).toArray bB tT cC H locs 0 0 (MQ bB (zQc G N Λ none (zi (pcp (zi (psh z 8763) 272 2 (nI 3)) 3 2921) 272 2 (nI 4))) ([.ref (G.h + 272)] : List Value).toArray sS 0 0 (zA G)) (F0 mM 51 ls []) := by
        intro d
        induction d with
        | zero =>
          intro k H locs ls hk hw hl
          refine lv_iload_n C.x C.b dX4_saves_51 rfl (lv_at hl 1 rfl) ?_
          refine lv_sipush (v := 2921) C.x C.b dX4_saves_52 (by decide) ?_
          refine lv_icmp_ge (tgt := 85) C.x C.b dX4_saves_55 (by decide) (fun c_55 => ?_) (fun c_55 => absurd (zle (a := 2921) (by omega) (by omega)) c_55)
          refine lv_aload_n C.x C.b dX4_saves_85 rfl (lv_at hl 0 rfl) ?_
          refine lv_dup C.x C.b dX4_saves_86 rfl ?_
          refine z_get C hw hB.lt (hB.at _ _) flX4_32 rfl dX4_saves_87 ?_
          refine z_topi (y := nI 3) (by rw [pcp_n _ _ _ (by omega)]; exact hc3) ?_
          refine lv_iconst (v := 1) C.x C.b dX4_saves_90 (by decide) ?_
          refine lv_iadd C.x C.b dX4_saves_91 ?_
          refine z_topi (y := nI (3 + 1)) (nI_1 _) ?_
          refine z_put C hw hB.lt (hB.at _ _) ptX4_32 (hB.at _ _) (rfl) (rfl) (Nat.le_of_ble_eq_true rfl) dX4_saves_92 (fun H locs hw => ?_)
          obtain ⟨z_2, ez_2⟩ : ∃ q_9, q_9 = zi (pcp z_1 3 k) 272 2 (nI (3 + 1)) := ⟨_, rfl⟩
          have hw : zS G N Λ z_2 sS H locs := by rw [ez_2]; exact hw
          exact z_vret C hw dX4_saves_95 (rfl) (by rw [ez_2, show k = 2921 by omega, ez_1, show j = 8763 by omega])
        | succ d ih =>
          intro k H locs ls hk hw hl
          refine lv_iload_n C.x C.b dX4_saves_51 rfl (lv_at hl 1 rfl) ?_
          refine lv_sipush (v := 2921) C.x C.b dX4_saves_52 (by decide) ?_
          refine lv_icmp_ge (tgt := 85) C.x C.b dX4_saves_55 (by decide) (fun c_55 => absurd c_55 (znle (b := 2921) (by omega) (by omega))) (fun c_55 => ?_)
          refine lv_aload_n C.x C.b dX4_saves_58 rfl (lv_at hl 0 rfl) ?_
          refine z_get C hw hB.lt (hB.at _ _) flX4_13 rfl dX4_saves_59 ?_
          refine lv_sipush (v := 2921) C.x C.b dX4_saves_62 (by decide) ?_
          refine lv_aload_n C.x C.b dX4_saves_65 rfl (lv_at hl 0 rfl) ?_
          refine z_get C hw hB.lt (hB.at _ _) flX4_32 rfl dX4_saves_66 ?_
          refine z_topi (y := nI 3) (by rw [pcp_n _ _ _ (by omega)]; exact hc3) ?_
          refine lv_imul C.x C.b dX4_saves_69 ?_
          refine lv_iload_n C.x C.b dX4_saves_70 rfl (lv_at hl 1 rfl) ?_
          refine lv_iadd C.x C.b dX4_saves_71 ?_
          refine z_topi (y := nI (2921 * 3 + k)) (by rw [zlit 2921, pk_mul, nI_add]) ?_
          refine lv_aload_n C.x C.b dX4_saves_72 rfl (lv_at hl 0 rfl) ?_
          refine z_get C hw hB.lt (hB.at _ _) flX4_7 rfl dX4_saves_73 ?_
          refine lv_iload_n C.x C.b dX4_saves_76 rfl (lv_at hl 1 rfl) ?_
          refine z_iald C hw hB.ltn hB.now (zvin (x := k) (by omega) (by omega)) dX4_saves_77 ?_
          refine z_topi (y := (pcp z_1 3 k).1 273 k) (congrArg ((pcp z_1 3 k).1 273) (zcl (x := k) (n := 2921) (by omega) (by omega))) ?_
          refine z_iast C hw hB.ltp hB.past (zvin (x := 2921 * 3 + k) (by omega) (by omega)) dX4_saves_78 (fun H locs hw => ?_)
          have e8 : (nI (2921 * 3 + k)).toNatClampNeg = (2921 * 3 + k) := zcl (x := 2921 * 3 + k) (n := 11684) (by omega) (by omega)
          rw [e8] at hw
          obtain ⟨z_3, ez_3⟩ : ∃ q_9, q_9 = zi (pcp z_1 3 k) 274 (2921 * 3 + k) ((pcp z_1 3 k).1 273 k) := ⟨_, rfl⟩
          have hw : zS G N Λ z_3 sS H locs := by rw [ez_3]; exact hw
          refine lv_iinc (v := nI k + 1) (lv' := [(1, .int (nI k + 1)), (0, .ref (G.h + 272))]) C.x C.b dX4_saves_79 hl (k := 1) rfl rfl (by decide) rfl (fun ls hl => ?_)
          have hl : lv_has ls 2 [(1, .int (nI (k + 1))), (0, .ref (G.h + 272))] := by
            have e9 : nI k + 1 = nI (k + 1) := nI_1 k
            rw [← e9]; exact hl
          refine lv_goto (tgt := 51) C.x C.b dX4_saves_82 (by decide) ?_
          exact ih (k + 1) _ _ _ (by omega) (by rw [ez_3, pcp_step] at hw; exact hw) (lv_sub hl [1, 0] rfl)
      exact loop2 2921 0 _ _ _ (by omega) (by rw [pcp_0]; exact hw) (lv_sub hl [1, 0] rfl)
    | succ d ih =>
      intro j H locs ls hj hw hl
      refine lv_iload_n C.x C.b dX4_saves_10 rfl (lv_at hl 1 rfl) ?_
      refine lv_sipush (v := 8763) C.x C.b dX4_saves_11 (by decide) ?_
      refine lv_icmp_ge (tgt := 39) C.x C.b dX4_saves_14 (by decide) (fun c_14 => absurd c_14 (znle (b := 8763) (by omega) (by omega))) (fun c_14 => ?_)
      refine lv_aload_n C.x C.b dX4_saves_17 rfl (lv_at hl 0 rfl) ?_
      refine z_get C hw hB.lt (hB.at _ _) flX4_13 rfl dX4_saves_18 ?_
      refine lv_iload_n C.x C.b dX4_saves_21 rfl (lv_at hl 1 rfl) ?_
      refine lv_aload_n C.x C.b dX4_saves_22 rfl (lv_at hl 0 rfl) ?_
      refine z_get C hw hB.lt (hB.at _ _) flX4_13 rfl dX4_saves_23 ?_
      refine lv_iload_n C.x C.b dX4_saves_26 rfl (lv_at hl 1 rfl) ?_
      refine lv_sipush (v := 2921) C.x C.b dX4_saves_27 (by decide) ?_
      refine lv_iadd C.x C.b dX4_saves_30 ?_
      refine z_topi (y := nI (j + 2921)) (by rw [zlit 2921, nI_add]) ?_
      refine z_iald C hw hB.ltp hB.past (zvin (x := j + 2921) (by omega) (by omega)) dX4_saves_31 ?_
      refine z_topi (y := (psh z j).1 274 (j + 2921)) (congrArg ((psh z j).1 274) (zcl (x := j + 2921) (n := 11684) (by omega) (by omega))) ?_
      refine z_iast C hw hB.ltp hB.past (zvin (x := j) (by omega) (by omega)) dX4_saves_32 (fun H locs hw => ?_)
      have e8 : (nI j).toNatClampNeg = j := zcl (x := j) (n := 11684) (by omega) (by omega)
      rw [e8] at hw
      obtain ⟨z_4, ez_4⟩ : ∃ q_9, q_9 = zi (psh z j) 274 j ((psh z j).1 274 (j + 2921)) := ⟨_, rfl⟩
      have hw : zS G N Λ z_4 sS H locs := by rw [ez_4]; exact hw
      refine lv_iinc (v := nI j + 1) (lv' := [(1, .int (nI j + 1)), (0, .ref (G.h + 272))]) C.x C.b dX4_saves_33 hl (k := 1) rfl rfl (by decide) rfl (fun ls hl => ?_)
      have hl : lv_has ls 2 [(1, .int (nI (j + 1))), (0, .ref (G.h + 272))] := by
        have e9 : nI j + 1 = nI (j + 1) := nI_1 j
        rw [← e9]; exact hl
      refine lv_goto (tgt := 10) C.x C.b dX4_saves_36 (by decide) ?_
      exact ih (j + 1) _ _ _ (by omega) (by rw [ez_4, psh_step] at hw; exact hw) (lv_sub hl [1, 0] rfl)
  exact loop 8763 0 _ _ _ (by omega) (by rw [psh_0]; exact hw) (lv_sub hl [1, 0] rfl)

theorem m_X4_saves {G : zG} {N : Nat} {Λ : zLay} {l : Launch} (hO : zOK G l) (z : zM) (hB : zMo G N Λ) {c : Nat} (hc : z.1 272 2 = nI c) (hc4 : c ≤ 4) : zMet G N Λ l yX4_saves cX4_saves 2 none 0 [.ref (G.h + 272)] z none (msv z c) := by
  unfold msv
  by_cases h : c = 4
  · rw [if_pos h]; subst h; exact m_X4_saves_f hO z hB hc
  · rw [if_neg h]; exact m_X4_saves_n hO z hB hc (by omega)

set_option maxRecDepth 100000 in
set_option maxHeartbeats 4000000 in
theorem m_X4_undo {G : zG} {N : Nat} {Λ : zLay} {l : Launch} (hO : zOK G l) (z : zM) (hB : zMo G N Λ) {c : Nat} (hc : z.1 272 2 = nI c) (hc4 : c ≤ 4) (hc0 : 0 < c) : zMet G N Λ l yX4_undo cX4_undo 2 (some .int) 1 [.ref (G.h + 272)] z (some (.int (nI (c - 1)))) (mun (zi z 272 3 0) c) := by
  refine zMet_of hO (by decide) (Nat.le_of_ble_eq_true rfl) ?_
  intro pP eE sS mM bB tT cC ls C hw hl
  have hl : lv_has ls 2 [(0, .ref (G.h + 272))] := hl
  refine lv_aload_n C.x C.b dX4_undo_0 rfl (lv_at hl 0 rfl) ?_
  refine lv_aload_n C.x C.b dX4_undo_1 rfl (lv_at hl 0 rfl) ?_
  refine z_get C hw hB.lt (hB.at _ _) flX4_32 rfl dX4_undo_2 ?_
  refine z_topi (y := nI c) (hc) ?_
  refine lv_if_ne (tgt := 12) C.x C.b dX4_undo_5 (by decide) (fun c_5 => ?_) (fun c_5 => absurd c_5 (zne (b := 0) (by omega) (by omega) (by omega)))
  refine lv_iconst (v := 0) C.x C.b dX4_undo_12 (by decide) ?_
  refine z_Vv (As := [.int 0]) (rest := []) C hw hl (m_X4_ref0 hO _ hB) ivX4_35 hB.lt (hB.at _ _) rfl rfl ⟨(Nat.le_of_ble_eq_true rfl), (Nat.le_of_ble_eq_true rfl)⟩ (Nat.le_of_ble_eq_true rfl) ⟨Nat.zero_le _, Nat.zero_le _⟩ dX4_undo_13 (fun H locs hw => ?_)
  obtain ⟨z_1, ez_1⟩ : ∃ q_9, q_9 = zi z 272 3 0 := ⟨_, rfl⟩
  have hw : zS G N Λ z_1 sS H locs := by rw [ez_1]; exact hw
  refine lv_if_eq (tgt := 21) C.x C.b dX4_undo_16 (by decide) (fun c_16 => ?_) (fun c_16 => absurd rfl c_16)
  refine lv_aload_n C.x C.b dX4_undo_21 rfl (lv_at hl 0 rfl) ?_
  refine lv_dup C.x C.b dX4_undo_22 rfl ?_
  refine z_get C hw hB.lt (hB.at _ _) flX4_32 rfl dX4_undo_23 ?_
  refine z_topi (y := nI c) (by rw [ez_1, zi_at, if_neg (by omega)]; exact hc) ?_
  refine lv_iconst (v := 1) C.x C.b dX4_undo_26 (by decide) ?_
  refine lv_isub C.x C.b dX4_undo_27 ?_
  refine z_topi (y := nI (c - 1)) (by rw [zlit 1, zsub hc0]) ?_
  refine z_put C hw hB.lt (hB.at _ _) ptX4_32 (hB.at _ _) (rfl) (rfl) (Nat.le_of_ble_eq_true rfl) dX4_undo_28 (fun H locs hw => ?_)
  obtain ⟨z_2, ez_2⟩ : ∃ q_9, q_9 = zi z_1 272 2 (nI (c - 1)) := ⟨_, rfl⟩
  have hw : zS G N Λ z_2 sS H locs := by rw [ez_2]; exact hw
  refine lv_iconst (v := 0) C.x C.b dX4_undo_31 (by decide) ?_
  refine lv_istore_n (lv' := [(1, .int 0), (0, .ref (G.h + 272))]) C.x C.b dX4_undo_32 rfl hl (by decide) rfl (fun ls hl => ?_)
  have loop : ∀ (d : Nat) (k : Nat) (H : Heap) (locs : List Loc) (ls : Array Slot) (hk : k + d = 2921), zS G N Λ (pbk z_2 (c - 1) k) sS H locs → lv_has ls 2 [(0, .ref (G.h + 272)), (1, .int (nI k))] → W pP l eE (zR 1) sS mM ([.ref (G.h + 272)] : List Value).toArray bB tT cC H locs 0 0 (MQ bB (zQc G N Λ (some (.int (nI (c - 1)))) (mun (zi z 272 3 0) c)) ([.ref (G.h + 272)] : List Value).toArray sS 0 0 (zA G)) (F0 mM 33 ls []) := by
    intro d
    induction d with
    | zero =>
      intro k H locs ls hk hw hl
      refine lv_iload_n C.x C.b dX4_undo_33 rfl (lv_at hl 1 rfl) ?_
      refine lv_sipush (v := 2921) C.x C.b dX4_undo_34 (by decide) ?_
      refine lv_icmp_ge (tgt := 67) C.x C.b dX4_undo_37 (by decide) (fun c_37 => ?_) (fun c_37 => absurd (zle (a := 2921) (by omega) (by omega)) c_37)
      refine lv_aload_n C.x C.b dX4_undo_67 rfl (lv_at hl 0 rfl) ?_
      refine z_get C hw hB.lt (hB.at _ _) flX4_32 rfl dX4_undo_68 ?_
      refine z_topi (y := nI (c - 1)) (by rw [pbk_n _ _ _ (by omega), ez_2, zi_at, if_pos ⟨rfl, rfl⟩]) ?_
      exact z_iret C hw dX4_undo_71 (rfl) (by rw [show k = 2921 by omega, ez_2, ez_1]; rfl)
    | succ d ih =>
      intro k H locs ls hk hw hl
      refine lv_iload_n C.x C.b dX4_undo_33 rfl (lv_at hl 1 rfl) ?_
      refine lv_sipush (v := 2921) C.x C.b dX4_undo_34 (by decide) ?_
      refine lv_icmp_ge (tgt := 67) C.x C.b dX4_undo_37 (by decide) (fun c_37 => absurd c_37 (znle (b := 2921) (by omega) (by omega))) (fun c_37 => ?_)
      refine lv_aload_n C.x C.b dX4_undo_40 rfl (lv_at hl 0 rfl) ?_
      refine z_get C hw hB.lt (hB.at _ _) flX4_7 rfl dX4_undo_41 ?_
      refine lv_iload_n C.x C.b dX4_undo_44 rfl (lv_at hl 1 rfl) ?_
      refine lv_aload_n C.x C.b dX4_undo_45 rfl (lv_at hl 0 rfl) ?_
      refine z_get C hw hB.lt (hB.at _ _) flX4_13 rfl dX4_undo_46 ?_
      refine lv_sipush (v := 2921) C.x C.b dX4_undo_49 (by decide) ?_
      refine lv_aload_n C.x C.b dX4_undo_52 rfl (lv_at hl 0 rfl) ?_
      refine z_get C hw hB.lt (hB.at _ _) flX4_32 rfl dX4_undo_53 ?_
      refine z_topi (y := nI (c - 1)) (by rw [pbk_n _ _ _ (by omega), ez_2, zi_at, if_pos ⟨rfl, rfl⟩]) ?_
      refine lv_imul C.x C.b dX4_undo_56 ?_
      refine lv_iload_n C.x C.b dX4_undo_57 rfl (lv_at hl 1 rfl) ?_
      refine lv_iadd C.x C.b dX4_undo_58 ?_
      refine z_topi (y := nI (2921 * (c - 1) + k)) (by rw [zlit 2921, pk_mul, nI_add]) ?_
      refine z_iald C hw hB.ltp hB.past (zvin (x := 2921 * (c - 1) + k) (by omega) (by omega)) dX4_undo_59 ?_
      refine z_topi (y := (pbk z_2 (c - 1) k).1 274 (2921 * (c - 1) + k)) (congrArg ((pbk z_2 (c - 1) k).1 274) (zcl (x := 2921 * (c - 1) + k) (n := 11684) (by omega) (by omega))) ?_
      refine z_iast C hw hB.ltn hB.now (zvin (x := k) (by omega) (by omega)) dX4_undo_60 (fun H locs hw => ?_)
      have e8 : (nI k).toNatClampNeg = k := zcl (x := k) (n := 2921) (by omega) (by omega)
      rw [e8] at hw
      obtain ⟨z_3, ez_3⟩ : ∃ q_9, q_9 = zi (pbk z_2 (c - 1) k) 273 k ((pbk z_2 (c - 1) k).1 274 (2921 * (c - 1) + k)) := ⟨_, rfl⟩
      have hw : zS G N Λ z_3 sS H locs := by rw [ez_3]; exact hw
      refine lv_iinc (v := nI k + 1) (lv' := [(1, .int (nI k + 1)), (0, .ref (G.h + 272))]) C.x C.b dX4_undo_61 hl (k := 1) rfl rfl (by decide) rfl (fun ls hl => ?_)
      have hl : lv_has ls 2 [(1, .int (nI (k + 1))), (0, .ref (G.h + 272))] := by
        have e9 : nI k + 1 = nI (k + 1) := nI_1 k
        rw [← e9]; exact hl
      refine lv_goto (tgt := 33) C.x C.b dX4_undo_64 (by decide) ?_
      exact ih (k + 1) _ _ _ (by omega) (by rw [ez_3, pbk_step] at hw; exact hw) (lv_sub hl [1, 0] rfl)
  exact loop 2921 0 _ _ _ (by omega) (by rw [pbk_0]; exact hw) (lv_sub hl [1, 0] rfl)

set_option maxRecDepth 100000 in
set_option maxHeartbeats 4000000 in
theorem m_X4_undo0 {G : zG} {N : Nat} {Λ : zLay} {l : Launch} (hO : zOK G l) (z : zM) (hB : zMo G N Λ) (hc : z.1 272 2 = nI 0) : zMet G N Λ l yX4_undo cX4_undo 2 (some .int) 1 [.ref (G.h + 272)] z (some (.int 0)) (zi z 272 3 (nI 1)) := by
  refine zMet_of hO (by decide) (Nat.le_of_ble_eq_true rfl) ?_
  intro pP eE sS mM bB tT cC ls C hw hl
  have hl : lv_has ls 2 [(0, .ref (G.h + 272))] := hl
  refine lv_aload_n C.x C.b dX4_undo_0 rfl (lv_at hl 0 rfl) ?_
  refine lv_aload_n C.x C.b dX4_undo_1 rfl (lv_at hl 0 rfl) ?_
  refine z_get C hw hB.lt (hB.at _ _) flX4_32 rfl dX4_undo_2 ?_
  refine z_topi (y := nI 0) (hc) ?_
  refine lv_if_ne (tgt := 12) C.x C.b dX4_undo_5 (by decide) (fun c_5 => absurd c_5 (fun q => q rfl)) (fun c_5 => ?_)
  refine lv_iconst (v := 1) C.x C.b dX4_undo_8 (by decide) ?_
  refine lv_goto (tgt := 13) C.x C.b dX4_undo_9 (by decide) ?_
  refine z_Vv (As := [.int 1]) (rest := []) C hw hl (m_X4_ref1 hO _ hB (w := 1) (by omega) (by omega)) ivX4_35 hB.lt (hB.at _ _) rfl rfl ⟨(Nat.le_of_ble_eq_true rfl), (Nat.le_of_ble_eq_true rfl)⟩ (Nat.le_of_ble_eq_true rfl) ⟨Nat.zero_le _, Nat.zero_le _⟩ dX4_undo_13 (fun H locs hw => ?_)
  obtain ⟨z_1, ez_1⟩ : ∃ q_9, q_9 = zi z 272 3 (nI 1) := ⟨_, rfl⟩
  have hw : zS G N Λ z_1 sS H locs := by rw [ez_1]; exact hw
  refine lv_if_eq (tgt := 21) C.x C.b dX4_undo_16 (by decide) (fun c_16 => absurd c_16 (by decide)) (fun c_16 => ?_)
  refine lv_iconst (v := 0) C.x C.b dX4_undo_19 (by decide) ?_
  exact z_iret C hw dX4_undo_20 (rfl) (by rw [ez_1])
