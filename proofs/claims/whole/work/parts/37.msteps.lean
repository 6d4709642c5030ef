/-! ===== the reference's calls, whole ===== -/
def mX (z z' : zM) (S : aS) (c : Nat) (Lf : Nat → aS) : Prop := mI z' S c Lf ∧ zfr z z' 272 3 ∧ z'.1 272 3 = 0
theorem n_rf {z : zM} {S : aS} {c : Nat} {Lf : Nat → aS} (h : mI z S c Lf) : mX z (zi z 272 3 0) S c Lf := ⟨h.ref 0, mref_fr z 0, by rw [zi_at, if_pos ⟨rfl, rfl⟩]⟩
theorem n_sv {z : zM} {S : aS} {c : Nat} {Lf : Nat → aS} (h : mI z S c Lf) : mX z (msv (zi z 272 3 0) c) S (svc c) (svf c Lf S) := by
  obtain ⟨a, b, d⟩ := n_rf h
  obtain ⟨e, f, -⟩ := msv_fr (zi z 272 3 0) c
  exact ⟨a.sv, b.tr e, f.trans d⟩
theorem n_up {z z2 z' : zM} {S S' : aS} {c : Nat} {Lf : Nat → aS} (h : mX z z2 S c Lf) (hs : mS z' S') (hf : mfr z2 z' 0 2921) : mX z z' S' c Lf := ⟨h.1.up hf hs, h.2.1.tr hf.fr, by rw [hf.1 272 (by omega)]; exact h.2.2⟩
theorem n_m {z z2 : zM} {S : aS} {c : Nat} {Lf : Nat → aS} (h : mX z z2 S c Lf) (hn6 : S.n ≤ 6) {x o : Nat} (hx : x < S.n) (ho : o < 433) {v : Int32} {M : aM} (hm : mM (zi z2 273 (mat x o) v) x M) : mX z (zi z2 273 (mat x o) v) (S.setM x M) c Lf :=
  n_up h (h.1.s.setM (by omega) ((zi_mfr _ _ _).mono (by unfold mat; omega) (by unfold mat; omega)) hm) ((zi_mfr _ _ _).mono (by omega) (by unfold mat; omega))
theorem n_reset {G : zG} {N : Nat} {Λ : zLay} {l : Launch} (hO : zOK G l) (hB : zMo G N Λ) {z : zM} {S : aS} {c : Nat} {Lf : Nat → aS} (h : mI z S c Lf) (hS : aOK S) {n : Nat} (hn2 : 2 ≤ n) (hn6 : n ≤ 6) : ∃ z', (mI z' (aI n) (svc c) (svf c Lf S) ∧ zfr z z' 272 3 ∧ z'.1 272 3 = 0) ∧ zMet G N Λ l yX4_reset cX4_reset 3 (some .int) 2 [.ref (G.h + 272), .int (nI n)] z (some (.int (nI S.n))) z' := by
  exact ⟨_, n_up (n_sv h) (mbz_S _ hn6) (mbz_mfr _ _ hn6), m_X4_reset hO z hB h hS hn2 hn6⟩
theorem n_input {G : zG} {N : Nat} {Λ : zLay} {l : Launch} (hO : zOK G l) (hB : zMo G N Λ) {z : zM} {S : aS} {c : Nat} {Lf : Nat → aS} (h : mI z S c Lf) (hS : aOK S) {x : Nat} (hx : x < S.n) {v : Nat} (hv : v < 1000) (hl38 : (S.m x).log.1 ≤ 38) (hq39 : S.q.1 ≤ 39) : ∃ z', (mI z' (aTake S x 0 0 v) (svc c) (svf c Lf S) ∧ zfr z z' 272 3 ∧ z'.1 272 3 = 0) ∧ zMet G N Λ l yX4_input cX4_input 3 (some .int) 5 [.ref (G.h + 272), .int (nI x), .int (nI v)] z (some (.int (nI (nx (S.m x).st v 0)))) z' := by
  have h2 := n_sv h
  have hM2 := h2.1.s
  have hn6 := hS.n6
  have hx6 : x < 6 := by omega
  have hmx := hM2.m hx
  have hox := hS.m hx
  obtain ⟨q1, q2⟩ := mtk_S hM2 hx hl38 (by omega) 0 0 v
  exact ⟨_, n_up h2 q1 q2, m_X4_input hO z hB h hS hx hx6 hv hl38 hq39⟩
theorem n_setSilent {G : zG} {N : Nat} {Λ : zLay} {l : Launch} (hO : zOK G l) (hB : zMo G N Λ) {z : zM} {S : aS} {c : Nat} {Lf : Nat → aS} (h : mI z S c Lf) (hS : aOK S) {x : Nat} (hx : x < S.n) {b : Nat} (hb : b < 2) : ∃ z', (mI z' (S.setM x ((S.m x).setSil b)) (svc c) (svf c Lf S) ∧ zfr z z' 272 3 ∧ z'.1 272 3 = 0) ∧ zMet G N Λ l yX4_setSilent cX4_setSilent 3 (some .int) 2 [.ref (G.h + 272), .int (nI x), .int (nI b)] z (some (.int (nI (S.m x).pend.1))) z' := by
  have h2 := n_sv h
  have hM2 := h2.1.s
  have hn6 := hS.n6
  have hx6 : x < 6 := by omega
  have hmx := hM2.m hx
  have hox := hS.m hx
  exact ⟨_, n_m h2 hn6 hx (by omega) (hmx.sil b), m_X4_setSilent hO z hB h hS hx hx6 hb⟩
theorem n_lie {G : zG} {N : Nat} {Λ : zLay} {l : Launch} (hO : zOK G l) (hB : zMo G N Λ) {z : zM} {S : aS} {c : Nat} {Lf : Nat → aS} (h : mI z S c Lf) (hS : aOK S) {x : Nat} (hx : x < S.n) : ∃ z', (mI z' (S.setM x ((S.m x).setLie 1)) (svc c) (svf c Lf S) ∧ zfr z z' 272 3 ∧ z'.1 272 3 = 0) ∧ zMet G N Λ l yX4_lie cX4_lie 3 (some .boolean) 2 [.ref (G.h + 272), .int (nI x)] z (some (.int (nI (S.m x).lie))) z' := by
  have h2 := n_sv h
  have hM2 := h2.1.s
  have hn6 := hS.n6
  have hx6 : x < 6 := by omega
  have hmx := hM2.m hx
  have hox := hS.m hx
  exact ⟨_, n_m h2 hn6 hx (by omega) (hmx.lie 1), m_X4_lie hO z hB h hS hx hx6⟩
theorem n_cut {G : zG} {N : Nat} {Λ : zLay} {l : Launch} (hO : zOK G l) (hB : zMo G N Λ) {z : zM} {S : aS} {c : Nat} {Lf : Nat → aS} (h : mI z S c Lf) (hS : aOK S) {x : Nat} (hx : x < S.n) {k : Nat} (hk1 : 1 ≤ k) (hk2 : k ≤ (S.m x).log.1) : ∃ z', (mI z' (S.setM x ((S.m x).setLog (tkeep (S.m x).log ((S.m x).log.1 - k)))) (svc c) (svf c Lf S) ∧ zfr z z' 272 3 ∧ z'.1 272 3 = 0) ∧ zMet G N Λ l yX4_cut cX4_cut 3 (some .int) 2 [.ref (G.h + 272), .int (nI x), .int (nI k)] z (some (.int (nI ((S.m x).log.1 - k)))) z' := by
  have h2 := n_sv h
  have hM2 := h2.1.s
  have hn6 := hS.n6
  have hx6 : x < 6 := by omega
  have hmx := hM2.m hx
  have hox := hS.m hx
  have hl40 := hox.log.1
  exact ⟨_, n_m h2 hn6 hx (by omega) (hmx.logc ((zi_mfr _ _ _).mono (by omega) (by omega)) ⟨by show (S.m x).log.1 - k ≤ 40; omega, by rw [zi_at, if_pos ⟨rfl, rfl⟩]; rfl, fun j hj => by
    have hj : j < (S.m x).log.1 - k := hj
    rw [zi_at, if_neg (by unfold mat; omega)]; exact hmx.2.1.2.2 j (by omega)⟩), m_X4_cut hO z hB h hS hx hx6 hk1 hk2⟩
theorem n_tamper {G : zG} {N : Nat} {Λ : zLay} {l : Launch} (hO : zOK G l) (hB : zMo G N Λ) {z : zM} {S : aS} {c : Nat} {Lf : Nat → aS} (h : mI z S c Lf) (hS : aOK S) {x : Nat} (hx : x < S.n) {e v : Nat} (he : e < (S.m x).log.1) (hv : v < 1000) : ∃ z', (mI z' (S.setM x ((S.m x).setLog ((S.m x).log.1, tmr (S.m x).log.2 e v))) (svc c) (svf c Lf S) ∧ zfr z z' 272 3 ∧ z'.1 272 3 = 0) ∧ zMet G N Λ l yX4_tamper cX4_tamper 5 (some .int) 3 [.ref (G.h + 272), .int (nI x), .int (nI e), .int (nI v)] z (some (.int (nI ((S.m x).log.2 e 2)))) z' := by
  have h2 := n_sv h
  have hM2 := h2.1.s
  have hn6 := hS.n6
  have hx6 : x < 6 := by omega
  have hmx := hM2.m hx
  have hox := hS.m hx
  have hl40 := hox.log.1
  exact ⟨_, n_m h2 hn6 hx (by omega) (hmx.logc ((zi_mfr _ _ _).mono (by unfold mat; omega) (by unfold mat; omega)) ⟨hl40, by rw [zi_at, if_neg (by unfold mat; omega)]; exact hmx.2.1.2.1, fun j hj => by
    show _ = nI (pk (tmr (S.m x).log.2 e v j 0) (tmr (S.m x).log.2 e v j 1) (tmr (S.m x).log.2 e v j 2))
    unfold tmr
    rw [zi_at]
    by_cases hje : j = e
    · subst hje; rw [if_pos ⟨rfl, rfl⟩, va_up_self]; rfl
    · rw [if_neg (by unfold mat; omega), va_up_ne _ _ hje]; exact hmx.2.1.2.2 j hj⟩), m_X4_tamper hO z hB h hS hx hx6 he hv⟩
theorem n_setWitnesses {G : zG} {N : Nat} {Λ : zLay} {l : Launch} (hO : zOK G l) (hB : zMo G N Λ) {z : zM} {S : aS} {c : Nat} {Lf : Nat → aS} (h : mI z S c Lf) (hS : aOK S) {x : Nat} (hx : x < S.n) {k : Nat} (hk : k < 2 ^ S.n) (hb : k.testBit x = false) : ∃ z', (mI z' (S.setM x ((S.m x).setWit k)) (svc c) (svf c Lf S) ∧ zfr z z' 272 3 ∧ z'.1 272 3 = 0) ∧ zMet G N Λ l yX4_setWitnesses cX4_setWitnesses 4 (some .int) 2 [.ref (G.h + 272), .int (nI x), .int (nI k)] z (some (.int (nI (S.m x).wit))) z' := by
  have h2 := n_sv h
  have hM2 := h2.1.s
  have hn6 := hS.n6
  have hx6 : x < 6 := by omega
  have hmx := hM2.m hx
  have hox := hS.m hx
  exact ⟨_, n_m h2 hn6 hx (by omega) (hmx.wit k), m_X4_setWitnesses hO z hB h hS hx hx6 ⟨k, hk, hb, rfl⟩⟩
theorem n_audit {G : zG} {N : Nat} {Λ : zLay} {l : Launch} (hO : zOK G l) (hB : zMo G N Λ) {z : zM} {S : aS} {c : Nat} {Lf : Nat → aS} (h : mI z S c Lf) (hS : aOK S) {x : Nat} (hx : x < S.n) {w : Nat} (hwn : w < S.n) (hb : (S.m x).wit.testBit w = true) : ∃ z', (mI z' (aAud S w x) (svc c) (svf c Lf S) ∧ zfr z z' 272 3 ∧ z'.1 272 3 = 0) ∧ zMet G N Λ l yX4_audit cX4_audit 4 (some .int) 6 [.ref (G.h + 272), .int (nI w), .int (nI x)] z (some (.int (nI (jdg S w x).1))) z' := by
  have h2 := n_sv h
  have hM2 := h2.1.s
  have hn6 := hS.n6
  have hx6 : x < 6 := by omega
  have hmx := hM2.m hx
  have hox := hS.m hx
  have hne : w ≠ x := fun q => by rw [q, hox.nw] at hb; exact absurd hb (by decide)
  obtain ⟨q1, q2⟩ := maz_S hM2 hS hx hwn hne
  exact ⟨_, n_up h2 q1 q2, m_X4_audit hO z hB h hS hx hx6 hwn (by omega) hb⟩
theorem mjb_S {x : Nat} : ∀ (d w : Nat) (z : zM) (S : aS), w + d = S.n → x < S.n → mS z S → aOK S → mS (mjb x d w z S) (jba x d w S).1 ∧ mfr z (mjb x d w z S) 0 2921 ∧ aOK (jba x d w S).1 ∧ (jba x d w S).1.n = S.n := by
  intro d
  induction d with
  | zero => intro w z S _ _ hI hS; exact ⟨hI, mfr.rf _ _ _, hS, rfl⟩
  | succ d ih =>
    intro w z S hw hx hI hS
    rw [mjb, jba]
    by_cases hb : (S.m x).wit.testBit w = true
    · rw [if_pos hb, if_pos hb]
      have hne : w ≠ x := fun q => by rw [q, (hS.m hx).nw] at hb; exact absurd hb (by decide)
      obtain ⟨a, b⟩ := maz_S hI hS hx (show w < S.n by omega) hne
      obtain ⟨g1, g2, g3, g4⟩ := ih (w + 1) (maz z S w x) (aAud S w x) (by rw [aAud_n]; omega) (by rw [aAud_n]; exact hx) a (hS.aud hx (by omega) hne)
      exact ⟨g1, b.tr g2, g3, by rw [g4, aAud_n]⟩
    · rw [if_neg hb, if_neg hb]
      exact ih (w + 1) z S (by omega) hx hI hS
theorem mAll_S : ∀ (d x : Nat) (z : zM) (S : aS), x + d = S.n → mS z S → aOK S → mS (mAll d x z S) (aAll d x S).1 ∧ mfr z (mAll d x z S) 0 2921 := by
  intro d
  induction d with
  | zero => intro x z S _ hI hS; exact ⟨hI, mfr.rf _ _ _⟩
  | succ d ih =>
    intro x z S hx hI hS
    obtain ⟨g1, g2, g3, g4⟩ := mjb_S (x := x) S.n 0 z S (by omega) (by omega) hI hS
    obtain ⟨k1, k2⟩ := ih (x + 1) (mjb x S.n 0 z S) (jba x S.n 0 S).1 (by rw [g4]; omega) g1 g3
    exact ⟨k1, g2.tr k2⟩
theorem n_auditAll {G : zG} {N : Nat} {Λ : zLay} {l : Launch} (hO : zOK G l) (hB : zMo G N Λ) {z : zM} {S : aS} {c : Nat} {Lf : Nat → aS} (h : mI z S c Lf) (hS : aOK S) : ∃ z', (mI z' (aAll S.n 0 S).1 (svc c) (svf c Lf S) ∧ zfr z z' 272 3 ∧ z'.1 272 3 = 0) ∧ zMet G N Λ l yX4_auditAll cX4_auditAll 5 (some .int) 6 [.ref (G.h + 272)] z (some (.int (nI (aAll S.n 0 S).2))) z' := by
  have h2 := n_sv h
  have hM2 := h2.1.s
  have hn6 := hS.n6
  obtain ⟨q1, q2⟩ := mAll_S S.n 0 _ S (by omega) hM2 hS
  exact ⟨_, n_up h2 q1 q2, m_X4_auditAll hO z hB h hS⟩
theorem n_resend {G : zG} {N : Nat} {Λ : zLay} {l : Launch} (hO : zOK G l) (hB : zMo G N Λ) {z : zM} {S : aS} {c : Nat} {Lf : Nat → aS} (h : mI z S c Lf) (hS : aOK S) {x : Nat} (hx : x < S.n) (hq : S.q.1 + (S.m x).pend.1 ≤ 40) : ∃ z', (mI z' (aRes S x) (svc c) (svf c Lf S) ∧ zfr z z' 272 3 ∧ z'.1 272 3 = 0) ∧ zMet G N Λ l yX4_resend cX4_resend 4 (some .int) 2 [.ref (G.h + 272), .int (nI x)] z (some (.int (nI (S.m x).pend.1))) z' := by
  have h2 := n_sv h
  have hM2 := h2.1.s
  have hn6 := hS.n6
  have hx6 : x < 6 := by omega
  have hmx := hM2.m hx
  have hox := hS.m hx
  obtain ⟨q1, q2⟩ := mre_S hM2 hx hq
  exact ⟨_, n_up h2 q1 q2, m_X4_resend hO z hB h hS hx hx6 hq⟩
theorem n_run {G : zG} {N : Nat} {Λ : zLay} {l : Launch} (hO : zOK G l) (hB : zMo G N Λ) {z : zM} {S : aS} {c : Nat} {Lf : Nat → aS} (h : mI z S c Lf) (hS : aOK S) {most : Nat} (hm1 : 1 ≤ most) (hm2 : most ≤ 100) : ∃ z', (mI z' (aRun most S).1 (svc c) (svf c Lf S) ∧ zfr z z' 272 3 ∧ z'.1 272 3 = 0) ∧ zMet G N Λ l yX4_run cX4_run 3 (some .int) 6 [.ref (G.h + 272), .int (nI most)] z (some (.int (nI (aRun most S).2))) z' := by
  have h2 := n_sv h
  have hM2 := h2.1.s
  have hn6 := hS.n6
  obtain ⟨zf, Sq, e0, e1, hQ, hP, hdf⟩ := seqE (Pr := fun z3 S => mS z3 S ∧ aOK S ∧ mfr (msv (zi z 272 3 0) c) z3 0 2921) (Q := fun z z' => zMet G N Λ l yX4_delivers cX4_delivers 7 none 5 [.ref (G.h + 272)] z none z') (fun z3 S hp hc => by
    obtain ⟨z', ⟨a, b⟩, m⟩ := m_X4_delivers hO z3 hB hp.1 hp.2.1 hc
    exact ⟨z', ⟨a, hp.2.1.del hc, hp.2.2.tr b⟩, m⟩) (msv (zi z 272 3 0) c) S ⟨hM2, hS, mfr.rf _ _ _⟩
  have hm := m_X4_run hO z hB h hS hm1 hm2 e0 e1 hQ (fun i => ⟨(hP i).1, (hP i).2.1⟩) hdf
  have h9 := seq_run hQ most 0
  rw [e1, Nat.zero_add] at h9
  obtain ⟨q1, q2, q3⟩ := hP (aRun most S).2
  rw [h9] at q1 q2
  exact ⟨_, n_up h2 q1 q3, hm⟩
theorem n_deliver {G : zG} {N : Nat} {Λ : zLay} {l : Launch} (hO : zOK G l) (hB : zMo G N Λ) {z : zM} {S : aS} {c : Nat} {Lf : Nat → aS} (h : mI z S c Lf) (hS : aOK S) (hc : aCan S = true) : ∃ z', (mI z' (aDel S) (svc c) (svf c Lf S) ∧ zfr z z' 272 3 ∧ z'.1 272 3 = 0) ∧ zMet G N Λ l yX4_deliver cX4_deliver 2 (some .int) 6 [.ref (G.h + 272)] z (some (.int (nI (S.q.2 0 3)))) z' := by
  have h2 := n_sv h
  have hM2 := h2.1.s
  have hn6 := hS.n6
  obtain ⟨z3, ⟨q1, q2⟩, hdl⟩ := m_X4_delivers hO _ hB hM2 hS hc
  have h0 := (aCan_iff.mp hc).1
  exact ⟨_, n_up h2 q1 q2, m_X4_deliver hO z hB h hS h0 ((can_bar h0).mp hc) hdl⟩
theorem n_undo {G : zG} {N : Nat} {Λ : zLay} {l : Launch} (hO : zOK G l) (hB : zMo G N Λ) {z : zM} {S : aS} {c : Nat} {Lf : Nat → aS} (h : mI z S c Lf) (hS : aOK S) (h0 : 0 < c) : ∃ z', (mI z' (Lf (c - 1)) (c - 1) Lf ∧ zfr z z' 272 3 ∧ z'.1 272 3 = 0) ∧ zMet G N Λ l yX4_undo cX4_undo 2 (some .int) 1 [.ref (G.h + 272)] z (some (.int (nI (c - 1)))) z' := by
  obtain ⟨a, b, d⟩ := n_rf h
  obtain ⟨e, f⟩ := mun_fr (zi z 272 3 0) c
  exact ⟨_, ⟨a.un h0, b.tr e, f.trans d⟩, m_X4_undo hO z hB h.c h.c4 h0⟩
