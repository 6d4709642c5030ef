/-! ===== worlds: what stays in range; the cells behind each change ===== -/
theorem cnt_congr {f g : Nat → Bool} {k : Nat} (h : ∀ i, i < k → f i = g i) : cnt f k = cnt g k := by
  induction k with
  | zero => rfl
  | succ k ih => rw [cnt, cnt, ih (fun i hi => h i (by omega)), h k (by omega)]
theorem csum_congr {f g : Nat → Nat} {k : Nat} (h : ∀ i, i < k → f i = g i) : csum f k = csum g k := by
  induction k with
  | zero => rfl
  | succ k ih => rw [csum, csum, ih (fun i hi => h i (by omega)), h k (by omega)]
theorem exps_congr {S S' : aS} (hn : S'.n = S.n) (h : ∀ x, x < S.n → (S'.m x).ver = (S.m x).ver) : exps S' = exps S := by
  unfold exps
  rw [hn]
  exact csum_congr (fun x hx => cnt_congr (fun w _ => by rw [h x hx]))
theorem aOK.setM {S : aS} (h : aOK S) {x : Nat} (hx : x < S.n) {M : aM} (hM : okM S.n x M) (hv : M.ver = (S.m x).ver) : aOK (S.setM x M) := by
  obtain ⟨a1, a2, a3, a4, a5⟩ := h
  refine ⟨a1, fun y hy => ?_, a3, a4, ?_⟩
  · by_cases hyx : y = x
    · subst hyx; rw [aS.setM_s]; exact hM
    · rw [aS.setM_n _ _ hyx]; exact a2 y hy
  · show S.ev.1 = exps (S.setM x M)
    rw [a5]
    refine (exps_congr (S := S) (S' := S.setM x M) rfl (fun y hy => ?_)).symm
    by_cases hyx : y = x
    · subst hyx; rw [aS.setM_s]; exact hv
    · rw [aS.setM_n _ _ hyx]
theorem aOK.setQ {S : aS} (h : aOK S) {T : aT} (hT : okMsg S.n T) : aOK (S.setQ T) := ⟨h.1, h.2.1, hT, h.2.2.2.1, h.2.2.2.2⟩
theorem okLog.push {n : Nat} {T : aT} (h : okLog n T) (hk : T.1 < 40) {a q v : Nat} (ha : a ≤ 2) (hq : q ≤ n) (hv : v < 1000) : okLog n (tpush T (row3 a q v)) := by
  refine ⟨hk, fun j hj => ?_⟩
  have hj : j < T.1 + 1 := hj
  show va_up T.2 T.1 (row3 a q v) j 0 ≤ 2 ∧ va_up T.2 T.1 (row3 a q v) j 1 ≤ n ∧ va_up T.2 T.1 (row3 a q v) j 2 < 1000
  by_cases hjk : j = T.1
  · subst hjk; rw [va_up_self]; exact ⟨ha, hq, hv⟩
  · rw [va_up_ne _ _ hjk]; exact h.2 j (by omega)
theorem okHeld.push {n : Nat} {T : aT} (h : okHeld n T) (hk : T.1 < 60) {a e c : Nat} (ha : a < n) (he : e < 40) (hc : c < 2147483647) : okHeld n (tpush T (row3 a e c)) := by
  refine ⟨hk, fun j hj => ?_⟩
  have hj : j < T.1 + 1 := hj
  show va_up T.2 T.1 (row3 a e c) j 0 < n ∧ va_up T.2 T.1 (row3 a e c) j 1 < 40 ∧ va_up T.2 T.1 (row3 a e c) j 2 < 2147483647
  by_cases hjk : j = T.1
  · subst hjk; rw [va_up_self]; exact ⟨ha, he, hc⟩
  · rw [va_up_ne _ _ hjk]; exact h.2 j (by omega)
theorem okHeld.pop {n : Nat} {T : aT} (h : okHeld n T) : okHeld n (tpop T) := ⟨Nat.le_trans (Nat.sub_le _ _) h.1, fun j hj => h.2 (j + 1) (by have hj : j < T.1 - 1 := hj; omega)⟩
theorem okHeld.hold {n : Nat} {T : aT} (h : okHeld n T) {a e c : Nat} (ha : a < n) (he : e < 40) (hc : c < 2147483647) : okHeld n (thold T (row3 a e c)) := by
  unfold thold
  by_cases h6 : T.1 = 60
  · rw [if_pos h6]
    exact h.pop.push (show T.1 - 1 < 60 by omega) ha he hc
  · rw [if_neg h6]
    exact h.push (by have := h.1; omega) ha he hc
theorem okMsg.push {n : Nat} {T : aT} (h : okMsg n T) (hk : T.1 < 40) {r : Nat → Nat} (hr : r 0 < n ∧ r 1 < 40 ∧ r 2 < 2147483647 ∧ r 3 < n ∧ r 4 < 1000) : okMsg n (tpush T r) := by
  refine ⟨hk, fun j hj => ?_⟩
  have hj : j < T.1 + 1 := hj
  show va_up T.2 T.1 r j 0 < n ∧ va_up T.2 T.1 r j 1 < 40 ∧ va_up T.2 T.1 r j 2 < 2147483647 ∧ va_up T.2 T.1 r j 3 < n ∧ va_up T.2 T.1 r j 4 < 1000
  by_cases hjk : j = T.1
  · subst hjk; rw [va_up_self]; exact hr
  · rw [va_up_ne _ _ hjk]; exact h.2 j (by omega)
theorem okMsg.pop {n : Nat} {T : aT} (h : okMsg n T) : okMsg n (tpop T) := ⟨Nat.le_trans (Nat.sub_le _ _) h.1, fun j hj => h.2 (j + 1) (by have hj : j < T.1 - 1 := hj; omega)⟩
theorem aOK.hold {S : aS} (h : aOK S) {x : Nat} (hx : x < S.n) {a e c : Nat} (ha : a < S.n) (he : e < 40) (hc : c < 2147483647) : aOK (aHold S x (row3 a e c)) :=
  h.setM hx ⟨(h.m hx).1, (h.m hx).2.1, (h.m hx).log, (h.m hx).held.hold ha he hc, (h.m hx).pend⟩ rfl
theorem aOK.popQ {S : aS} (h : aOK S) : aOK (aPopQ S) := h.setQ h.q.pop
theorem aOK.pendM {S : aS} (h : aOK S) {x : Nat} (hx : x < S.n) {r : Nat → Nat} (hr : r 0 < S.n ∧ r 1 < 40 ∧ r 2 < 2147483647 ∧ r 3 < S.n ∧ r 4 < 1000) : aOK (aPend S x r) := by
  refine h.setM hx ⟨(h.m hx).1, (h.m hx).2.1, (h.m hx).log, (h.m hx).held, ?_⟩ rfl
  show okMsg S.n (if (S.m x).pend.1 < 40 then tpush (S.m x).pend r else (S.m x).pend)
  by_cases h4 : (S.m x).pend.1 < 40
  · rw [if_pos h4]; exact (h.m hx).pend.push h4 hr
  · rw [if_neg h4]; exact (h.m hx).pend
theorem aOK.send {S : aS} (h : aOK S) {x : Nat} (hx : x < S.n) (hl : (S.m x).log.1 < 40) (hq : S.q.1 < 40) : aOK (aSend S x) := by
  have hg : gt x (S.m x).st S.n < S.n := gt_lt h.n2
  have ho : ((S.m x).st % 1000 + (S.m x).lie) % 1000 < 1000 := Nat.mod_lt _ (by omega)
  have hM : okM S.n x (((S.m x).setLie 0).setLog (tpush (S.m x).log (row3 2 (gt x (S.m x).st S.n + 1) (((S.m x).st % 1000 + (S.m x).lie) % 1000)))) :=
    ⟨⟨(h.m hx).st, (h.m hx).sil, by show 0 < 2; omega, (h.m hx).wit, (h.m hx).nw⟩, (h.m hx).2.1, (h.m hx).log.push hl (by omega) (by omega) ho, (h.m hx).held, (h.m hx).pend⟩
  exact (h.setM hx hM rfl).setQ (h.q.push hq ⟨hx, hl, CH_lt _ _, hg, ho⟩)
theorem aOK.tk1 {S : aS} (h : aOK S) {x : Nat} (hx : x < S.n) (hl : (S.m x).log.1 < 40) {a q v : Nat} (ha : a ≤ 2) (hq : q ≤ S.n) (hv : v < 1000) : aOK (aTk1 S x a q v) :=
  h.setM hx ⟨⟨nx_lt _ _ _, (h.m hx).sil, (h.m hx).lie, (h.m hx).wit, (h.m hx).nw⟩, (h.m hx).2.1, (h.m hx).log.push hl ha hq hv, (h.m hx).held, (h.m hx).pend⟩ rfl
theorem aOK.take {S : aS} (h : aOK S) {x : Nat} (hx : x < S.n) (hl : (S.m x).log.1 ≤ 38) (hQ : S.q.1 < 40) {a q v : Nat} (ha : a ≤ 2) (hq : q ≤ S.n) (hv : v < 1000) : aOK (aTake S x a q v) := by
  have h1 := h.tk1 hx (show (S.m x).log.1 < 40 by omega) ha hq hv
  unfold aTake
  split
  · refine h1.send hx ?_ hQ
    unfold aTk1
    rw [aS.setM_s]
    show (S.m x).log.1 + 1 < 40
    omega
  · exact h1
theorem aTk1_n (S : aS) (x a q v : Nat) : (aTk1 S x a q v).n = S.n := rfl
theorem aTake_n (S : aS) (x a q v : Nat) : (aTake S x a q v).n = S.n := by unfold aTake; split <;> rfl
theorem aDel_n (S : aS) : (aDel S).n = S.n := by
  unfold aDel
  split
  · show (aTake _ _ _ _ _).n = S.n
    rw [aTake_n]; rfl
  · rfl
theorem aOK.del {S : aS} (h : aOK S) (hc : aCan S = true) : aOK (aDel S) := by
  obtain ⟨h0, hc⟩ := aCan_iff.mp hc
  have hm := h.q.2 0 h0
  unfold aDel
  split
  next hs =>
    have hl : (S.m (S.q.2 0 3)).log.1 ≤ 38 := hc.elim (fun q => absurd hs q) id
    have h1 := (h.hold hm.2.2.2.1 hm.1 hm.2.1 hm.2.2.1).popQ
    have h2 := h1.take (x := S.q.2 0 3) (a := 1) (q := S.q.2 0 0 + 1) (v := S.q.2 0 4) hm.2.2.2.1 (by
      show ((aHold S (S.q.2 0 3) _).m (S.q.2 0 3)).log.1 ≤ 38
      unfold aHold
      rw [aS.setM_s]; exact hl) (by show S.q.1 - 1 < 40; have := h.q.1; omega) (by omega) (by show S.q.2 0 0 + 1 ≤ S.n; omega) hm.2.2.2.2
    refine h2.hold (by rw [aTake_n]; exact hm.1) (by rw [aTake_n]; exact hm.2.2.2.1) (by omega) (CH_lt _ _)
  next hs =>
    exact (h.pendM hm.2.2.2.1 hm).popQ
/-- the cells behind each change -/
theorem snd_wI {z : zM} {b x : Nat} {S : aS} (hI : wI z b S) (hn6 : S.n ≤ 6) (hx : x < S.n) (hl : (S.m x).log.1 < 40) (hh : (S.m x).held.1 ≤ 60) (hp : (S.m x).pend.1 ≤ 40) (hq : S.q.1 < 40) : wI (sndz z b x S.n (S.m x).st (S.m x).lie S.q.1 (S.m x).log) b (aSend S x) ∧ zfr z (sndz z b x S.n (S.m x).st (S.m x).lie S.q.1 (S.m x).log) b 54 := by
  have hm := hI.m hx
  have h1 := hm.lie 0
  have hf1 : zfr z (zi z (b + 2 + 8 * x) 3 (nI 0)) (b + 2 + 8 * x) 8 := (zi_fr _ _ _ _).mono (by omega) (by omega)
  have h2 := h1.logc (lapp_fr _ _ (S.m x).log.1 2 (gt x (S.m x).st S.n + 1) (outv (S.m x).st (S.m x).lie) (CH (S.m x).log.2 (S.m x).log.1)) (lapp_log h1.2.2.1 _ _ _)
  have hf2 := hf1.tr ((lapp_fr (zi z (b + 2 + 8 * x) 3 (nI 0)) (b + 2 + 8 * x + 2) (S.m x).log.1 2 (gt x (S.m x).st S.n + 1) (outv (S.m x).st (S.m x).lie) (CH (S.m x).log.2 (S.m x).log.1)).mono (lo2 := b + 2 + 8 * x) (n2 := 8) (by omega) (by omega))
  have h3 := hI.setM (show x < 6 by omega) hf2 h2 (show (S.m x).log.1 + 1 ≤ 40 by omega) hh hp
  have h4 := row5z_tb h3.q x (S.m x).log.1 (CH (tpush (S.m x).log (row3 2 (gt x (S.m x).st S.n + 1) (outv (S.m x).st (S.m x).lie))).2 ((S.m x).log.1 + 1)) (gt x (S.m x).st S.n) (outv (S.m x).st (S.m x).lie)
  have h5 := h3.setQ (row5z_fr _ _ _ _ _ _ _ _) h4 (show S.q.1 + 1 ≤ 40 by omega) hn6
  exact ⟨h5, (hf2.mono (by omega) (by omega)).tr ((row5z_fr _ _ _ _ _ _ _ _).mono (by omega) (by omega))⟩
theorem tk1_wI {z : zM} {b x : Nat} {S : aS} (hI : wI z b S) (hn6 : S.n ≤ 6) (hx : x < S.n) (hl : (S.m x).log.1 < 40) (hh : (S.m x).held.1 ≤ 60) (hp : (S.m x).pend.1 ≤ 40) (a q v : Nat) : wI (tkz1 z b x (S.m x).st (S.m x).log a q v) b (aTk1 S x a q v) ∧ zfr z (tkz1 z b x (S.m x).st (S.m x).log a q v) b 54 := by
  have hm := hI.m hx
  have h1 := hm.logc (lapp_fr z _ (S.m x).log.1 a q v (CH (S.m x).log.2 (S.m x).log.1)) (lapp_log hm.2.2.1 _ _ _)
  have h2 := h1.st (nx (S.m x).st v q)
  have hf : zfr z (tkz1 z b x (S.m x).st (S.m x).log a q v) (b + 2 + 8 * x) 8 := ((lapp_fr _ _ _ _ _ _ _).mono (by omega) (by omega)).tr ((zi_fr _ _ _ _).mono (by omega) (by omega))
  exact ⟨hI.setM (by omega) hf h2 (show (S.m x).log.1 + 1 ≤ 40 by omega) hh hp, hf.mono (by omega) (by omega)⟩
theorem tk_wI {z : zM} {b x : Nat} {S : aS} (hI : wI z b S) (hn6 : S.n ≤ 6) (hx : x < S.n) (hl : (S.m x).log.1 ≤ 38) (hh : (S.m x).held.1 ≤ 60) (hp : (S.m x).pend.1 ≤ 40) (hq : S.q.1 < 40) (a q v : Nat) : wI (tkz z b x S.n (S.m x).st (S.m x).lie S.q.1 (S.m x).log a q v) b (aTake S x a q v) ∧ zfr z (tkz z b x S.n (S.m x).st (S.m x).lie S.q.1 (S.m x).log a q v) b 54 := by
  obtain ⟨h1, hf1⟩ := tk1_wI hI hn6 hx (by omega) hh hp a q v
  unfold tkz aTake
  split
  · have hs : (aTk1 S x a q v).m x = ((S.m x).setLog (tpush (S.m x).log (row3 a q v))).setSt (nx (S.m x).st v q) := aS.setM_s _ _ _
    have h2 := snd_wI (x := x) h1 hn6 hx (by rw [hs]; show (S.m x).log.1 + 1 < 40; omega) (by rw [hs]; exact hh) (by rw [hs]; exact hp) hq
    rw [hs] at h2
    exact ⟨h2.1, hf1.tr h2.2⟩
  · exact ⟨h1, hf1⟩
theorem hold_wI {z : zM} {b x : Nat} {S : aS} (hI : wI z b S) (hx : x < S.n) (hn6 : S.n ≤ 6) (hl : (S.m x).log.1 ≤ 40) (hh : (S.m x).held.1 ≤ 60) (hp : (S.m x).pend.1 ≤ 40) (a e c : Nat) : wI (hdz z (b + 2 + 8 * x + 4) (S.m x).held.1 (nI a) (nI e) (nI c)) b (aHold S x (row3 a e c)) ∧ zfr z (hdz z (b + 2 + 8 * x + 4) (S.m x).held.1 (nI a) (nI e) (nI c)) b 54 := by
  have hm := hI.m hx
  have h1 := hm.heldc (hdz_fr _ _ _ _ _ _) (hdz_tb hm.2.2.2.1 a e c)
  have hf : zfr z (hdz z (b + 2 + 8 * x + 4) (S.m x).held.1 (nI a) (nI e) (nI c)) (b + 2 + 8 * x) 8 := (hdz_fr _ _ _ _ _ _).mono (by omega) (by omega)
  refine ⟨hI.setM (by omega) hf h1 hl ?_ hp, hf.mono (by omega) (by omega)⟩
  show (thold (S.m x).held (row3 a e c)).1 ≤ 60
  unfold thold
  by_cases h6 : (S.m x).held.1 = 60
  · rw [if_pos h6]; show (S.m x).held.1 - 1 + 1 ≤ 60; omega
  · rw [if_neg h6]; show (S.m x).held.1 + 1 ≤ 60; omega
theorem popq_wI {z : zM} {b : Nat} {S : aS} (hI : wI z b S) (hn6 : S.n ≤ 6) (hq : S.q.1 ≤ 40) (h0 : 0 < S.q.1) : wI (rmv z (b + 50) 5 S.q.1) b (aPopQ S) ∧ zfr z (rmv z (b + 50) 5 S.q.1) b 54 :=
  ⟨hI.setQ (rmv_fr _ _ _ _) (hI.q.pop h0) (show S.q.1 - 1 ≤ 40 by omega) hn6, (rmv_fr _ _ _ _).mono (by omega) (by omega)⟩
theorem acz_fr (z : zM) (t o w k r c : Nat) (v : Int32) : zfr z (acz (zi z t 3 v) t o w k r c) t 2 := ((zi_fr _ _ _ _).mono (by omega) (by omega)).tr ((zr_fr _ _ _).mono (by omega) (by omega))
theorem acz_tb {z : zM} {t o w : Nat} {T T2 : aT} (h : rTb z t w T) (h2 : rTb z o w T2) (hne : o + 2 ≤ t ∨ t + 2 ≤ o) {r : Nat} (hr : r < T2.1) : rTb (acz (zi z t 3 (nI (T.1 + 1))) t o w T.1 r w) t w (tpush T (T2.2 r)) := by
  refine h.push ?_ (fun i hi => ?_) (fun c hc => ?_)
  · rw [acz_n _ _ _ _ _ _ (by omega), zi_at, if_pos ⟨rfl, rfl⟩]
  · rw [acz_at, if_neg (by omega), zi_at, if_neg (by omega)]
  · rw [acz_at, if_pos (by omega), zi_at, if_neg (by omega), Nat.add_sub_cancel_left]
    exact h2.2 r hr c hc
def pndz (z : zM) (b x k : Nat) : zM := if k < 40 then acz (zi z (b + 2 + 8 * x + 6) 3 (nI (k + 1))) (b + 2 + 8 * x + 6) (b + 50) 5 k 0 5 else z
theorem pnd_wI {z : zM} {b x : Nat} {S : aS} (hI : wI z b S) (hx : x < S.n) (hn6 : S.n ≤ 6) (hl : (S.m x).log.1 ≤ 40) (hh : (S.m x).held.1 ≤ 60) (hp : (S.m x).pend.1 ≤ 40) (h0 : 0 < S.q.1) : wI (pndz z b x (S.m x).pend.1) b (aPend S x (S.q.2 0)) ∧ zfr z (pndz z b x (S.m x).pend.1) b 54 := by
  have hm := hI.m hx
  unfold pndz aPend
  by_cases h4 : (S.m x).pend.1 < 40
  · rw [if_pos h4, if_pos h4]
    have h1 := hm.pendc (acz_fr _ _ _ _ _ _ _ _) (acz_tb (r := 0) hm.2.2.2.2 hI.q (by omega) h0)
    have hf := (acz_fr z (b + 2 + 8 * x + 6) (b + 50) 5 (S.m x).pend.1 0 5 (nI ((S.m x).pend.1 + 1))).mono (lo2 := b + 2 + 8 * x) (n2 := 8) (by omega) (by omega)
    exact ⟨hI.setM (by omega) hf h1 hl hh (show (S.m x).pend.1 + 1 ≤ 40 by omega), hf.mono (by omega) (by omega)⟩
  · rw [if_neg h4, if_neg h4]
    have h1 : rM z (b + 2 + 8 * x) ((S.m x).setPend (S.m x).pend) := hm
    exact ⟨hI.setM (by omega) (zfr.rf _ _ _) h1 hl hh hp, zfr.rf _ _ _⟩
