/-! ===== the class's calls, whole ===== -/
theorem tI.w {z : zM} {S : aS} {c : Nat} {Lf : Nat → aS} (h : tI z S c Lf) : wI z 1 S := h.1.1
theorem tI.o {z : zM} {S : aS} {c : Nat} {Lf : Nat → aS} (h : tI z S c Lf) : aOK S := h.1.2
theorem tI.cg {z z' : zM} {S : aS} {c : Nat} {Lf : Nat → aS} (h : tI z S c Lf) (hf : ∀ i, i < 272 → z'.1 i = z.1 i) : tI z' S c Lf := by
  obtain ⟨⟨a, b⟩, ns, ⟨c0, c1, c2, c3⟩⟩ := h
  refine ⟨⟨a.cg b.n6 (fun i h1 h2 => hf i (by omega)), b⟩, ns, c0, ⟨by rw [hf 0 (by omega)]; exact c1.1, by rw [hf 0 (by omega)]; exact c1.2⟩, fun k hk => (c2 k hk).cg (fun i h1 h2 => hf i (by omega)), fun j hj => ?_⟩
  obtain ⟨q1, q2⟩ := c3 j hj
  have := Nat.mod_lt (ns + 4 - c + j) (show 0 < 4 by omega)
  exact ⟨q1.cg q2.n6 (fun i h1 h2 => hf i (by omega)), q2⟩
theorem c_up {z z1 z' : zM} {S S' : aS} {c1 : Nat} {L1 : Nat → aS} (h1 : tI z1 S c1 L1) (hf1 : zfr z z1 0 272) (hw : wI z' 1 S') (hs : aOK S') (hf : zfr z1 z' 1 54) : tI z' S' c1 L1 ∧ zfr z z' 0 272 := ⟨h1.up hw hs hf, hf1.tr (hf.mono (by omega) (by omega))⟩
theorem c_save {G : zG} {N : Nat} {Λ : zLay} {l : Launch} (hO : zOK G l) (hA : zPo G N Λ) {z : zM} {S : aS} {c : Nat} {Lf : Nat → aS} (h : tI z S c Lf) : ∃ z1, (tI z1 S (svc c) (svf c Lf S) ∧ zfr z z1 0 272) ∧ zMet G N Λ l yX3_save cX3_save 1 none 4 [.ref (G.h + 0)] z none z1 := by
  obtain ⟨ns, hT⟩ := h.2
  exact ⟨_, sv_tR h.w h.o hT, m_X3_save0 hO z hA h.w h.o hT⟩
theorem c_reset {G : zG} {N : Nat} {Λ : zLay} {l : Launch} (hO : zOK G l) (hA : zPo G N Λ) {z : zM} {S : aS} {c : Nat} {Lf : Nat → aS} (h : tI z S c Lf) {n : Nat} (hn2 : 2 ≤ n) (hn6 : n ≤ 6) : ∃ z', (tI z' (aI n) (svc c) (svf c Lf S) ∧ zfr z z' 0 272) ∧ zMet G N Λ l yX3_reset cX3_reset 3 (some .int) 5 [.ref (G.h + 0), .int (nI n)] z (some (.int (nI S.n))) z' := by
  obtain ⟨z1, ⟨h1, hf1⟩, hsv⟩ := c_save hO hA h
  obtain ⟨q1, q2⟩ := bgn_wI (n := n) h1.w.2 hn6
  exact ⟨_, c_up h1 hf1 q1 (aOK_I hn2 hn6) q2, m_X3_reset hO z hA h.w h.o hsv h1.w hn2 hn6⟩
theorem c_input {G : zG} {N : Nat} {Λ : zLay} {l : Launch} (hO : zOK G l) (hA : zPo G N Λ) {z : zM} {S : aS} {c : Nat} {Lf : Nat → aS} (h : tI z S c Lf) {x : Nat} (hx : x < S.n) {v : Nat} (hv : v < 1000) (hl38 : (S.m x).log.1 ≤ 38) (hq39 : S.q.1 ≤ 39) : ∃ z', (tI z' (aTake S x 0 0 v) (svc c) (svf c Lf S) ∧ zfr z z' 0 272) ∧ zMet G N Λ l yX3_input cX3_input 4 (some .int) 5 [.ref (G.h + 0), .int (nI x), .int (nI v)] z (some (.int (nI (nx (S.m x).st v 0)))) z' := by
  obtain ⟨z1, ⟨h1, hf1⟩, hsv⟩ := c_save hO hA h
  have hn6 := h.o.n6
  have hx6 : x < 6 := by omega
  have hox := h.o.m hx
  obtain ⟨q1, q2⟩ := tk_wI h1.w hn6 hx hl38 hox.held.1 hox.pend.1 (by omega) 0 0 v
  exact ⟨_, c_up h1 hf1 q1 (h.o.take hx hl38 (by omega) (by omega) (by omega) hv) q2, m_X3_input hO z hA h.w h.o hx hx6 hsv h1.w hv hl38 hq39⟩
theorem c_setSilent {G : zG} {N : Nat} {Λ : zLay} {l : Launch} (hO : zOK G l) (hA : zPo G N Λ) {z : zM} {S : aS} {c : Nat} {Lf : Nat → aS} (h : tI z S c Lf) {x : Nat} (hx : x < S.n) {b : Nat} (hb : b < 2) : ∃ z', (tI z' (S.setM x ((S.m x).setSil b)) (svc c) (svf c Lf S) ∧ zfr z z' 0 272) ∧ zMet G N Λ l yX3_setSilent cX3_setSilent 4 (some .int) 5 [.ref (G.h + 0), .int (nI x), .int (nI b)] z (some (.int (nI (S.m x).pend.1))) z' := by
  obtain ⟨z1, ⟨h1, hf1⟩, hsv⟩ := c_save hO hA h
  have hn6 := h.o.n6
  have hx6 : x < 6 := by omega
  have hox := h.o.m hx
  have q2 := zi_fr z1 (1 + 2 + 8 * x) 2 (nI b)
  exact ⟨_, c_up h1 hf1 (h1.w.setM hx6 (q2.mono (by omega) (by omega)) ((h1.w.m hx).sil b) hox.log.1 hox.held.1 hox.pend.1) (h.o.setM hx ⟨⟨hox.st, hb, hox.lie, hox.wit, hox.nw⟩, hox.2⟩ rfl) (q2.mono (by omega) (by omega)), m_X3_setSilent hO z hA h.w h.o hx hx6 hsv h1.w hb⟩
theorem c_lie {G : zG} {N : Nat} {Λ : zLay} {l : Launch} (hO : zOK G l) (hA : zPo G N Λ) {z : zM} {S : aS} {c : Nat} {Lf : Nat → aS} (h : tI z S c Lf) {x : Nat} (hx : x < S.n) : ∃ z', (tI z' (S.setM x ((S.m x).setLie 1)) (svc c) (svf c Lf S) ∧ zfr z z' 0 272) ∧ zMet G N Λ l yX3_lie cX3_lie 4 (some .boolean) 5 [.ref (G.h + 0), .int (nI x)] z (some (.int (nI (S.m x).lie))) z' := by
  obtain ⟨z1, ⟨h1, hf1⟩, hsv⟩ := c_save hO hA h
  have hn6 := h.o.n6
  have hx6 : x < 6 := by omega
  have hox := h.o.m hx
  have q2 := zi_fr z1 (1 + 2 + 8 * x) 3 1
  exact ⟨_, c_up h1 hf1 (h1.w.setM hx6 (q2.mono (by omega) (by omega)) ((h1.w.m hx).lie 1) hox.log.1 hox.held.1 hox.pend.1) (h.o.setM hx ⟨⟨hox.st, hox.sil, by show 1 < 2; omega, hox.wit, hox.nw⟩, hox.2⟩ rfl) (q2.mono (by omega) (by omega)), m_X3_lie hO z hA h.w h.o hx hx6 hsv h1.w⟩
theorem cut_log {z : zM} {t : Nat} {T : aT} (h : rLog z t T) {k : Nat} (hk : k ≤ T.1) : rLog (zi z t 3 (nI k)) t (tkeep T k) := by
  refine ⟨by rw [zi_at, if_pos ⟨rfl, rfl⟩]; rfl, fun j hj => ?_, fun j hj => ?_⟩
  · have hj : j < k := hj
    obtain ⟨a, b, c⟩ := h.2.1 j (by omega)
    rw [zi_at, zi_at, zi_at, if_neg (by omega), if_neg (by omega), if_neg (by omega)]
    exact ⟨a, b, c⟩
  · have hj : j < k := hj
    rw [zi_at, if_neg (by omega)]
    exact h.2.2 j (by omega)
theorem okLog.keep {n : Nat} {T : aT} (h : okLog n T) {k : Nat} (hk : k ≤ T.1) : okLog n (tkeep T k) := ⟨Nat.le_trans hk h.1, fun j hj => h.2 j (Nat.lt_of_lt_of_le hj hk)⟩
theorem tmr_okl {n : Nat} {T : aT} (h : okLog n T) (e : Nat) {v : Nat} (hv : v < 1000) : okLog n (T.1, tmr T.2 e v) := ⟨h.1, fun j hj => by
  show tmr T.2 e v j 0 ≤ 2 ∧ tmr T.2 e v j 1 ≤ n ∧ tmr T.2 e v j 2 < 1000
  unfold tmr
  by_cases hje : j = e
  · subst hje; rw [va_up_self]; exact ⟨(h.2 j hj).1, (h.2 j hj).2.1, hv⟩
  · rw [va_up_ne _ _ hje]; exact h.2 j hj⟩
theorem c_cut {G : zG} {N : Nat} {Λ : zLay} {l : Launch} (hO : zOK G l) (hA : zPo G N Λ) {z : zM} {S : aS} {c : Nat} {Lf : Nat → aS} (h : tI z S c Lf) {x : Nat} (hx : x < S.n) {k : Nat} (hk1 : 1 ≤ k) (hk2 : k ≤ (S.m x).log.1) : ∃ z', (tI z' (S.setM x ((S.m x).setLog (tkeep (S.m x).log ((S.m x).log.1 - k)))) (svc c) (svf c Lf S) ∧ zfr z z' 0 272) ∧ zMet G N Λ l yX3_cut cX3_cut 4 (some .int) 5 [.ref (G.h + 0), .int (nI x), .int (nI k)] z (some (.int (nI ((S.m x).log.1 - k)))) z' := by
  obtain ⟨z1, ⟨h1, hf1⟩, hsv⟩ := c_save hO hA h
  have hn6 := h.o.n6
  have hx6 : x < 6 := by omega
  have hox := h.o.m hx
  have q2 := zi_fr z1 (1 + 2 + 8 * x + 2) 3 (nI ((S.m x).log.1 - k))
  have hk3 := hox.log.1
  exact ⟨_, c_up h1 hf1 (h1.w.setM hx6 (q2.mono (by omega) (by omega)) ((h1.w.m hx).logc (q2.mono (by omega) (by omega)) (cut_log (h1.w.m hx).2.2.1 (Nat.sub_le _ _))) (by show (S.m x).log.1 - k ≤ 40; omega) hox.held.1 hox.pend.1) (h.o.setM hx ⟨hox.1, hox.2.1, hox.log.keep (Nat.sub_le _ _), hox.held, hox.pend⟩ rfl) (q2.mono (by omega) (by omega)), m_X3_cut hO z hA h.w h.o hx hx6 hsv h1.w hk1 hk2⟩
theorem c_tamper {G : zG} {N : Nat} {Λ : zLay} {l : Launch} (hO : zOK G l) (hA : zPo G N Λ) {z : zM} {S : aS} {c : Nat} {Lf : Nat → aS} (h : tI z S c Lf) {x : Nat} (hx : x < S.n) {e v : Nat} (he : e < (S.m x).log.1) (hv : v < 1000) : ∃ z', (tI z' (S.setM x ((S.m x).setLog ((S.m x).log.1, tmr (S.m x).log.2 e v))) (svc c) (svf c Lf S) ∧ zfr z z' 0 272) ∧ zMet G N Λ l yX3_tamper cX3_tamper 6 (some .int) 5 [.ref (G.h + 0), .int (nI x), .int (nI e), .int (nI v)] z (some (.int (nI ((S.m x).log.2 e 2)))) z' := by
  obtain ⟨z1, ⟨h1, hf1⟩, hsv⟩ := c_save hO hA h
  have hn6 := h.o.n6
  have hx6 : x < 6 := by omega
  have hox := h.o.m hx
  have hlg := (h1.w.m hx).2.2.1
  have q2 : zfr z1 (rchz (zi z1 (1 + 2 + 8 * x + 2 + 1) (e * 4 + 2) (nI v)) (1 + 2 + 8 * x + 2 + 1) (tmr (S.m x).log.2 e v) e (S.m x).log.1) (1 + 2 + 8 * x + 2) 2 := ((zi_fr _ _ _ _).mono (by omega) (by omega)).tr ((rchz_fr _ _ _ _ _).mono (by omega) (by omega))
  have q3 : rLog (rchz (zi z1 (1 + 2 + 8 * x + 2 + 1) (e * 4 + 2) (nI v)) (1 + 2 + 8 * x + 2 + 1) (tmr (S.m x).log.2 e v) e (S.m x).log.1) (1 + 2 + 8 * x + 2) ((S.m x).log.1, tmr (S.m x).log.2 e v) := rchz_log (T := ((S.m x).log.1, tmr (S.m x).log.2 e v)) (by rw [zi_at, if_neg (by omega)]; exact hlg.1) (tmr_row hlg.2.1 e v) (fun j hj => by
    rw [zi_at, if_neg (by omega)]
    show _ = nI (CH (tmr (S.m x).log.2 e v) (j + 1))
    rw [tmr_ch _ _ _ _ (by omega)]
    exact hlg.2.2 j (by omega))
  exact ⟨_, c_up h1 hf1 (h1.w.setM hx6 (q2.mono (by omega) (by omega)) ((h1.w.m hx).logc q2 q3) hox.log.1 hox.held.1 hox.pend.1) (h.o.setM hx ⟨hox.1, hox.2.1, tmr_okl hox.log e hv, hox.held, hox.pend⟩ rfl) (q2.mono (by omega) (by omega)), m_X3_tamper hO z hA h.w h.o hx hx6 hsv h1.w he hv⟩
theorem wit_dec : ∀ n, n < 7 → ∀ x, x < n → ∀ k, k < 64 → k < 2 ^ n → k.testBit x = false → nI k &&& (othI x n ^^^ (-1)) = 0 := by decide +kernel
theorem and_split (w m : Int32) : (w &&& m) ||| (w &&& (m ^^^ (-1))) = w := by
  apply Int32.toBitVec_inj.mp
  ext i hi
  simp only [Int32.toBitVec_or, Int32.toBitVec_and, Int32.toBitVec_xor, BitVec.getElem_or, BitVec.getElem_and, BitVec.getElem_xor]
  have h1 : ((-1 : Int32).toBitVec)[i] = true := by
    have : (-1 : Int32).toBitVec = BitVec.allOnes 32 := by decide
    exact (congrArg (fun b : BitVec 32 => b[i]) this).trans (by simp only [BitVec.getElem_allOnes])
  rw [h1]
  cases w.toBitVec[i] <;> cases m.toBitVec[i] <;> rfl
theorem nI_nat {k : Nat} (hk : k < 2 ^ 32) : (nI k).toBitVec.toNat = k := by
  show (BitVec.ofNat 32 k).toNat = k
  rw [BitVec.toNat_ofNat, Nat.mod_eq_of_lt hk]
theorem wOK_c {w : Int32} {x n : Nat} (hx : x < n) (hn : n ≤ 6) : w &&& (othI x n ^^^ (-1)) = 0 ↔ wOK w x n := by
  have h64 : 2 ^ n ≤ 2 ^ 6 := Nat.pow_le_pow_right (by omega) hn
  constructor
  · intro h
    have h1 := and_split w (othI x n)
    rw [h, Int32.or_zero] at h1
    obtain ⟨e1, e2, e3⟩ := oth_dec n (by omega) x hx
    have hle : w.toBitVec.toNat &&& oth x n ≤ oth x n := Nat.and_le_right
    refine ⟨w.toBitVec.toNat &&& oth x n, by omega, ?_, ?_⟩
    · rw [Nat.testBit_and, e3, Bool.and_false]
    · rw [e1] at h1
      refine h1.symm.trans ?_
      apply Int32.toBitVec_inj.mp
      apply BitVec.eq_of_toNat_eq
      rw [Int32.toBitVec_and, BitVec.toNat_and]
      have e4 : (nI (oth x n)).toBitVec.toNat = oth x n := nI_nat (by omega)
      have e5 : (nI (w.toBitVec.toNat &&& oth x n)).toBitVec.toNat = w.toBitVec.toNat &&& oth x n := nI_nat (by omega)
      rw [e4, e5]
  · rintro ⟨k, h1, h2, rfl⟩
    exact wit_dec n (by omega) x hx k (by omega) h1 h2
theorem c_setWitnesses {G : zG} {N : Nat} {Λ : zLay} {l : Launch} (hO : zOK G l) (hA : zPo G N Λ) {z : zM} {S : aS} {c : Nat} {Lf : Nat → aS} (h : tI z S c Lf) {x : Nat} (hx : x < S.n) {k : Nat} (hk : k < 2 ^ S.n) (hb : k.testBit x = false) : ∃ z', (tI z' (S.setM x ((S.m x).setWit k)) (svc c) (svf c Lf S) ∧ zfr z z' 0 272) ∧ zMet G N Λ l yX3_setWitnesses cX3_setWitnesses 5 (some .int) 5 [.ref (G.h + 0), .int (nI x), .int (nI k)] z (some (.int (nI (S.m x).wit))) z' := by
  obtain ⟨z1, ⟨h1, hf1⟩, hsv⟩ := c_save hO hA h
  have hn6 := h.o.n6
  have hx6 : x < 6 := by omega
  have hox := h.o.m hx
  have q2 := zi_fr z1 (1 + 2 + 8 * x) 4 (nI k)
  exact ⟨_, c_up h1 hf1 (h1.w.setM hx6 (q2.mono (by omega) (by omega)) ((h1.w.m hx).wit k) hox.log.1 hox.held.1 hox.pend.1) (h.o.setM hx ⟨⟨hox.st, hox.sil, hox.lie, hk, hb⟩, hox.2⟩ rfl) (q2.mono (by omega) (by omega)), m_X3_setWitnesses hO z hA h.w h.o hx hx6 hsv h1.w ((wOK_c hx hn6).mpr ⟨k, hk, hb, rfl⟩)⟩
theorem c_audit {G : zG} {N : Nat} {Λ : zLay} {l : Launch} (hO : zOK G l) (hA : zPo G N Λ) {z : zM} {S : aS} {c : Nat} {Lf : Nat → aS} (h : tI z S c Lf) {x : Nat} (hx : x < S.n) {w : Nat} (hwn : w < S.n) (hb : (S.m x).wit.testBit w = true) : ∃ z', (tI z' (aAud S w x) (svc c) (svf c Lf S) ∧ zfr z z' 0 272) ∧ zMet G N Λ l yX3_audit cX3_audit 4 (some .int) 5 [.ref (G.h + 0), .int (nI w), .int (nI x)] z (some (.int (nI (jdg S w x).1))) z' := by
  obtain ⟨z1, ⟨h1, hf1⟩, hsv⟩ := c_save hO hA h
  have hn6 := h.o.n6
  have hx6 : x < 6 := by omega
  have hox := h.o.m hx
  have hne : w ≠ x := fun q => by rw [q, hox.nw] at hb; exact absurd hb (by decide)
  obtain ⟨q1, q2⟩ := jz1_wI (w := w) h1.w h.o hx (fun q => exps_lt h.o hx hwn hne q)
  exact ⟨_, c_up h1 hf1 q1 (h.o.aud hx hwn hne) q2, m_X3_audit hO z hA h.w h.o hx hx6 hsv h1.w hwn (by omega) hb⟩
theorem aaz_wI : ∀ (d x : Nat) (z : zM) (S : aS), x + d = S.n → wI z 1 S → aOK S → wI (aaz d x z S) 1 (aAll d x S).1 ∧ zfr z (aaz d x z S) 1 54 ∧ aOK (aAll d x S).1 := by
  intro d
  induction d with
  | zero => intro x z S _ hI hS; exact ⟨hI, zfr.rf _ _ _, hS⟩
  | succ d ih =>
    intro x z S hx hI hS
    obtain ⟨g1, g2, g3, g4⟩ := jba_wI (b := 1) (x := x) S.n 0 z S (by omega) (by omega) hI hS
    obtain ⟨k1, k2, k3⟩ := ih (x + 1) (jbz 1 x S.n 0 z S) (jba x S.n 0 S).1 (by rw [g4]; omega) g1 g3
    exact ⟨k1, g2.tr k2, k3⟩
theorem c_auditAll {G : zG} {N : Nat} {Λ : zLay} {l : Launch} (hO : zOK G l) (hA : zPo G N Λ) {z : zM} {S : aS} {c : Nat} {Lf : Nat → aS} (h : tI z S c Lf) : ∃ z', (tI z' (aAll S.n 0 S).1 (svc c) (svf c Lf S) ∧ zfr z z' 0 272) ∧ zMet G N Λ l yX3_auditAll cX3_auditAll 3 (some .int) 6 [.ref (G.h + 0)] z (some (.int (nI (aAll S.n 0 S).2))) z' := by
  obtain ⟨z1, ⟨h1, hf1⟩, hsv⟩ := c_save hO hA h
  obtain ⟨q1, q2, q3⟩ := aaz_wI S.n 0 z1 S (by omega) h1.w h.o
  exact ⟨_, c_up h1 hf1 q1 q3 q2, m_X3_auditAll hO z hA h.w h.o hsv h1.w⟩
theorem tapp_up (T Pd : aT) (i : Nat) : va_up (tapp T Pd).2 (T.1 + i) (Pd.2 i) = (tapp T Pd).2 := by
  funext j
  by_cases h : j = T.1 + i
  · subst h
    rw [va_up_self]
    show _ = if T.1 + i < T.1 then _ else Pd.2 (T.1 + i - T.1)
    rw [if_neg (by omega), show T.1 + i - T.1 = i by omega]
  · rw [va_up_ne _ _ h]
theorem rsz_tb {z : zM} {x : Nat} {T Pd : aT} (hx6 : x < 6) (h : rTb z (1 + 50) 5 T) (h2 : rTb z (1 + 2 + 8 * x + 6) 5 Pd) : ∀ i, i ≤ Pd.1 → rTb (rsz z x T.1 i) (1 + 50) 5 (T.1 + i, (tapp T Pd).2) := by
  intro i
  induction i with
  | zero =>
    intro _
    refine ⟨h.1, fun j hj k hk => ?_⟩
    have hj : j < T.1 := hj
    show _ = nI ((if j < T.1 then T.2 j else Pd.2 (j - T.1)) k)
    rw [if_pos hj]
    exact h.2 j hj k hk
  | succ i ih =>
    intro hi
    have hp : rTb (rsz z x T.1 i) (1 + 2 + 8 * x + 6) 5 Pd := h2.cg (rsz_n z x T.1 i _ (by omega) (by omega)) (rsz_n z x T.1 i _ (by omega) (by omega))
    have h3 := acz_tb (ih (by omega)) hp (by omega) (r := i) (by omega)
    show rTb _ _ _ (T.1 + i + 1, (tapp T Pd).2)
    rw [← tapp_up T Pd i]
    exact h3
theorem okMsg.app {n : Nat} {T Pd : aT} (h : okMsg n T) (h2 : okMsg n Pd) (hk : T.1 + Pd.1 ≤ 40) : okMsg n (tapp T Pd) := ⟨hk, fun j hj => by
  have hj : j < T.1 + Pd.1 := hj
  show (if j < T.1 then T.2 j else Pd.2 (j - T.1)) 0 < n ∧ (if j < T.1 then T.2 j else Pd.2 (j - T.1)) 1 < 40 ∧ (if j < T.1 then T.2 j else Pd.2 (j - T.1)) 2 < 2147483647 ∧ (if j < T.1 then T.2 j else Pd.2 (j - T.1)) 3 < n ∧ (if j < T.1 then T.2 j else Pd.2 (j - T.1)) 4 < 1000
  by_cases hq : j < T.1
  · rw [if_pos hq]; exact h.2 j hq
  · rw [if_neg hq]; exact h2.2 _ (by omega)⟩
theorem aRes_ok {S : aS} (h : aOK S) {x : Nat} (hx : x < S.n) (hq : S.q.1 + (S.m x).pend.1 ≤ 40) : aOK (aRes S x) := by
  have hox := h.m hx
  exact (h.setQ (h.q.app hox.pend hq)).setM (x := x) hx ⟨hox.1, hox.2.1, hox.log, hox.held, ⟨Nat.zero_le _, fun j hj => absurd hj (Nat.not_lt_zero _)⟩⟩ rfl
theorem c_resend {G : zG} {N : Nat} {Λ : zLay} {l : Launch} (hO : zOK G l) (hA : zPo G N Λ) {z : zM} {S : aS} {c : Nat} {Lf : Nat → aS} (h : tI z S c Lf) {x : Nat} (hx : x < S.n) (hq : S.q.1 + (S.m x).pend.1 ≤ 40) : ∃ z', (tI z' (aRes S x) (svc c) (svf c Lf S) ∧ zfr z z' 0 272) ∧ zMet G N Λ l yX3_resend cX3_resend 5 (some .int) 5 [.ref (G.h + 0), .int (nI x)] z (some (.int (nI (S.m x).pend.1))) z' := by
  obtain ⟨z1, ⟨h1, hf1⟩, hsv⟩ := c_save hO hA h
  have hn6 := h.o.n6
  have hx6 : x < 6 := by omega
  have hox := h.o.m hx
  have g1 := rsz_tb hx6 h1.w.q (h1.w.m hx).2.2.2.2 _ (Nat.le_refl _)
  have g2 : zfr z1 (rsz z1 x S.q.1 (S.m x).pend.1) (1 + 50) 2 := ⟨fun i hi => rsz_n z1 x S.q.1 _ i (by omega) (by omega), rsz_2 z1 x S.q.1 _⟩
  have g3 : wI (rsz z1 x S.q.1 (S.m x).pend.1) 1 (S.setQ (tapp S.q (S.m x).pend)) := h1.w.setQ g2 g1 hq hn6
  have g4 := zi_fr (rsz z1 x S.q.1 (S.m x).pend.1) (1 + 2 + 8 * x + 6) 3 0
  have g5 := g3.setM (x := x) hx6 (g4.mono (by omega) (by omega)) ((g3.m hx).pendc (T := tkeep (S.m x).pend 0) (g4.mono (by omega) (by omega)) ((g3.m hx).2.2.2.2.keep (Nat.zero_le _))) hox.log.1 hox.held.1 (Nat.zero_le _)
  exact ⟨_, c_up h1 hf1 g5 (aRes_ok h.o hx hq) ((g2.mono (by omega) (by omega)).tr (g4.mono (by omega) (by omega))), m_X3_resend hO z hA h.w h.o hx hx6 hsv h1.w hq⟩
/-- deliveries, one behind the other -/
theorem seqE {Pr : zM → aS → Prop} {Q : zM → zM → Prop} (step : ∀ z S, Pr z S → aCan S = true → ∃ z', Pr z' (aDel S) ∧ Q z z') (z1 : zM) (S : aS) (h : Pr z1 S) : ∃ (zf : Nat → zM) (Sq : Nat → aS), zf 0 = z1 ∧ Sq 0 = S ∧ (∀ i, Sq (i + 1) = if aCan (Sq i) = true then aDel (Sq i) else Sq i) ∧ (∀ i, Pr (zf i) (Sq i)) ∧ ∀ i, aCan (Sq i) = true → Q (zf i) (zf (i + 1)) := by
  have hstep : ∀ p : { p : zM × aS // Pr p.1 p.2 }, ∃ q : { p : zM × aS // Pr p.1 p.2 }, (q.1.2 = if aCan p.1.2 = true then aDel p.1.2 else p.1.2) ∧ (aCan p.1.2 = true → Q p.1.1 q.1.1) := fun p => by
    by_cases hc : aCan p.1.2 = true
    · obtain ⟨z', a, b⟩ := step p.1.1 p.1.2 p.2 hc
      exact ⟨⟨(z', aDel p.1.2), a⟩, by rw [if_pos hc], fun _ => b⟩
    · exact ⟨p, by rw [if_neg hc], fun q => absurd q hc⟩
  have nx9 := fun p => Classical.choose_spec (hstep p)
  let f : Nat → { p : zM × aS // Pr p.1 p.2 } := fun n => Nat.rec ⟨(z1, S), h⟩ (fun _ p => Classical.choose (hstep p)) n
  exact ⟨fun i => (f i).1.1, fun i => (f i).1.2, rfl, rfl, fun i => (nx9 (f i)).1, fun i => (f i).2, fun i hc => (nx9 (f i)).2 hc⟩
theorem seq_run {Sq : Nat → aS} (hQ : ∀ i, Sq (i + 1) = if aCan (Sq i) = true then aDel (Sq i) else Sq i) : ∀ d i, Sq (i + (aRun d (Sq i)).2) = (aRun d (Sq i)).1 := by
  intro d
  induction d with
  | zero => intro i; rfl
  | succ d ih =>
    intro i
    rw [aRun]
    by_cases hc : aCan (Sq i) = true
    · rw [if_pos hc]
      have h1 := ih (i + 1)
      have h2 : Sq (i + 1) = aDel (Sq i) := by rw [hQ, if_pos hc]
      rw [h2] at h1
      show Sq (i + ((aRun d (aDel (Sq i))).2 + 1)) = (aRun d (aDel (Sq i))).1
      rw [← h1]
      congr 1
      omega
    · rw [if_neg hc]; rfl
theorem c_run {G : zG} {N : Nat} {Λ : zLay} {l : Launch} (hO : zOK G l) (hA : zPo G N Λ) {z : zM} {S : aS} {c : Nat} {Lf : Nat → aS} (h : tI z S c Lf) {most : Nat} (hm1 : 1 ≤ most) (hm2 : most ≤ 100) : ∃ z', (tI z' (aRun most S).1 (svc c) (svf c Lf S) ∧ zfr z z' 0 272) ∧ zMet G N Λ l yX3_run cX3_run 3 (some .int) 6 [.ref (G.h + 0), .int (nI most)] z (some (.int (nI (aRun most S).2))) z' := by
  obtain ⟨z1, ⟨h1, hf1⟩, hsv⟩ := c_save hO hA h
  obtain ⟨zf, Sq, e0, e1, hQ, hP, hdf⟩ := seqE (Pr := fun z S => wI z 1 S ∧ aOK S ∧ zfr z1 z 1 54) (Q := fun z z' => zMet G N Λ l yX2_deliverFirst cX2_deliverFirst 5 none 5 [.ref (G.h + 1)] z none z') (fun z S hp hc => by
    obtain ⟨z', ⟨a, b⟩, m⟩ := m_X2_deliverFirst hO z hA.w0 hp.1 hp.2.1 hc
    exact ⟨z', ⟨a, hp.2.1.del hc, hp.2.2.tr b⟩, m⟩) z1 S ⟨h1.w, h.o, zfr.rf _ _ _⟩
  have hm := m_X3_run hO z hA h.w h.o hsv hm1 hm2 e0 e1 hQ (fun i => ⟨(hP i).1, (hP i).2.1⟩) hdf
  have h9 := seq_run hQ most 0
  rw [e1, Nat.zero_add] at h9
  obtain ⟨q1, q2, q3⟩ := hP (aRun most S).2
  rw [h9] at q1 q2
  exact ⟨_, c_up h1 hf1 q1 q2 q3, hm⟩
theorem c_deliver {G : zG} {N : Nat} {Λ : zLay} {l : Launch} (hO : zOK G l) (hA : zPo G N Λ) {z : zM} {S : aS} {c : Nat} {Lf : Nat → aS} (h : tI z S c Lf) (hc : aCan S = true) : ∃ z', (tI z' (aDel S) (svc c) (svf c Lf S) ∧ zfr z z' 0 272) ∧ zMet G N Λ l yX3_deliver cX3_deliver 2 (some .int) 6 [.ref (G.h + 0)] z (some (.int (nI (S.q.2 0 3)))) z' := by
  obtain ⟨z1, ⟨h1, hf1⟩, hsv⟩ := c_save hO hA h
  obtain ⟨z2, ⟨q1, q2⟩, hdl⟩ := m_X2_deliverFirst hO z1 hA.w0 h1.w h.o hc
  exact ⟨_, c_up h1 hf1 q1 (h.o.del hc) q2, m_X3_deliver hO z hA h.w h.o (aCan_iff.mp hc).1 hc hsv hdl⟩
theorem c_undo {G : zG} {N : Nat} {Λ : zLay} {l : Launch} (hO : zOK G l) (hA : zPo G N Λ) {z : zM} {S : aS} {c : Nat} {Lf : Nat → aS} (h : tI z S c Lf) (h0 : 0 < c) : ∃ z', (tI z' (Lf (c - 1)) (c - 1) Lf ∧ zfr z z' 0 272) ∧ zMet G N Λ l yX3_undo cX3_undo 1 (some .int) 4 [.ref (G.h + 0)] z (some (.int (nI (c - 1)))) z' := by
  obtain ⟨ns, hT⟩ := h.2
  exact ⟨_, un_tR h.w hT h0, m_X3_undo0 hO z hA h.w h.o hT h0⟩
