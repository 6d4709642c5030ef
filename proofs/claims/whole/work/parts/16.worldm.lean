theorem wI.m {z : zM} {b x : Nat} {S : aS} (h : wI z b S) (hx : x < S.n) : rM z (b + 2 + 8 * x) (S.m x) := h.1.2.1 x hx
theorem wI.n {z : zM} {b : Nat} {S : aS} (h : wI z b S) : z.1 b 0 = nI S.n := h.1.1
theorem wI.q {z : zM} {b : Nat} {S : aS} (h : wI z b S) : rTb z (b + 50) 5 S.q := h.1.2.2.1
theorem wI.e {z : zM} {b : Nat} {S : aS} (h : wI z b S) : rTb z (b + 52) 4 S.ev := h.1.2.2.2
theorem aOK.n2 {S : aS} (h : aOK S) : 2 ≤ S.n := h.1.1
theorem aOK.n6 {S : aS} (h : aOK S) : S.n ≤ 6 := h.1.2
theorem aOK.m {S : aS} (h : aOK S) {x : Nat} (hx : x < S.n) : okM S.n x (S.m x) := h.2.1 x hx
theorem aOK.q {S : aS} (h : aOK S) : okMsg S.n S.q := h.2.2.1
theorem aOK.e {S : aS} (h : aOK S) : okEv S.n S.ev := h.2.2.2.1
theorem okM.st {n x : Nat} {M : aM} (h : okM n x M) : M.st < 9973 := h.1.1
theorem okM.sil {n x : Nat} {M : aM} (h : okM n x M) : M.sil < 2 := h.1.2.1
theorem okM.lie {n x : Nat} {M : aM} (h : okM n x M) : M.lie < 2 := h.1.2.2.1
theorem okM.wit {n x : Nat} {M : aM} (h : okM n x M) : M.wit < 2 ^ n := h.1.2.2.2.1
theorem okM.nw {n x : Nat} {M : aM} (h : okM n x M) : M.wit.testBit x = false := h.1.2.2.2.2
theorem okM.ver {n x : Nat} {M : aM} (h : okM n x M) (w : Nat) : M.ver w ≤ 2 := h.2.1.1 w
theorem okM.log {n x : Nat} {M : aM} (h : okM n x M) : okLog n M.log := h.2.2.1
theorem okM.held {n x : Nat} {M : aM} (h : okM n x M) : okHeld n M.held := h.2.2.2.1
theorem okM.pend {n x : Nat} {M : aM} (h : okM n x M) : okMsg n M.pend := h.2.2.2.2
theorem okLog.row {n : Nat} {T : aT} (h : okLog n T) (hn : n ≤ 6) : okRow T.2 T.1 := fun j hj => ⟨(h.2 j hj).1, Nat.le_trans (h.2 j hj).2.1 hn, (h.2 j hj).2.2⟩
theorem okHeld.b {n : Nat} {T : aT} (h : okHeld n T) (hn : n ≤ 6) : ∀ j, j < T.1 → T.2 j 0 < 6 ∧ T.2 j 1 < 40 ∧ T.2 j 2 < 2147483647 := fun j hj => ⟨Nat.lt_of_lt_of_le (h.2 j hj).1 hn, (h.2 j hj).2.1, (h.2 j hj).2.2⟩
/-- a row of five behind the last -/
def row5z (z : zM) (t k : Nat) (v0 v1 v2 v3 v4 : Int32) : zM := zi (zi (zi (zi (zi (zi z t 3 (nI (k + 1))) (t + 1) (k * 5 + 0) v0) (t + 1) (k * 5 + 1) v1) (t + 1) (k * 5 + 2) v2) (t + 1) (k * 5 + 3) v3) (t + 1) (k * 5 + 4) v4
theorem row5z_fr (z : zM) (t k : Nat) (v0 v1 v2 v3 v4 : Int32) : zfr z (row5z z t k v0 v1 v2 v3 v4) t 2 := ((((zi_fr _ _ _ _).mono (by omega) (by omega)).tr ((zi_fr _ _ _ _).mono (by omega) (by omega))).tr (((zi_fr _ _ _ _).mono (by omega) (by omega)).tr ((zi_fr _ _ _ _).mono (by omega) (by omega)))).tr (((zi_fr _ _ _ _).mono (by omega) (by omega)).tr ((zi_fr _ _ _ _).mono (by omega) (by omega)))
theorem row5z_tb {z : zM} {t : Nat} {T : aT} (h : rTb z t 5 T) (a0 a1 a2 a3 a4 : Nat) : rTb (row5z z t T.1 (nI a0) (nI a1) (nI a2) (nI a3) (nI a4)) t 5 (tpush T (row5 a0 a1 a2 a3 a4)) := by
  refine h.push ?_ (fun i hi => ?_) (fun k hk => ?_)
  · simp only [row5z, zi_at]
    rw [if_neg (by omega), if_neg (by omega), if_neg (by omega), if_neg (by omega), if_neg (by omega), if_pos (by simp)]
  · simp only [row5z, zi_at]
    rw [if_neg (by omega), if_neg (by omega), if_neg (by omega), if_neg (by omega), if_neg (by omega), if_neg (by omega)]
  · simp only [row5z, zi_at]
    rcases (show k = 0 ∨ k = 1 ∨ k = 2 ∨ k = 3 ∨ k = 4 by omega) with rfl | rfl | rfl | rfl | rfl
    · rw [if_neg (by omega), if_neg (by omega), if_neg (by omega), if_neg (by omega), if_pos (by simp)]; rfl
    · rw [if_neg (by omega), if_neg (by omega), if_neg (by omega), if_pos (by simp)]; rfl
    · rw [if_neg (by omega), if_neg (by omega), if_pos (by simp)]; rfl
    · rw [if_neg (by omega), if_pos (by simp)]; rfl
    · rw [if_pos (by simp)]; rfl
def row4z (z : zM) (t k : Nat) (v0 v1 v2 v3 : Int32) : zM := zi (zi (zi (zi (zi z t 3 (nI (k + 1))) (t + 1) (k * 4 + 0) v0) (t + 1) (k * 4 + 1) v1) (t + 1) (k * 4 + 2) v2) (t + 1) (k * 4 + 3) v3
theorem row4z_fr (z : zM) (t k : Nat) (v0 v1 v2 v3 : Int32) : zfr z (row4z z t k v0 v1 v2 v3) t 2 := ((((zi_fr _ _ _ _).mono (by omega) (by omega)).tr ((zi_fr _ _ _ _).mono (by omega) (by omega))).tr (((zi_fr _ _ _ _).mono (by omega) (by omega)).tr ((zi_fr _ _ _ _).mono (by omega) (by omega)))).tr ((zi_fr _ _ _ _).mono (by omega) (by omega))
theorem row4z_tb {z : zM} {t : Nat} {T : aT} (h : rTb z t 4 T) (a0 a1 a2 a3 : Nat) : rTb (row4z z t T.1 (nI a0) (nI a1) (nI a2) (nI a3)) t 4 (tpush T (row4 a0 a1 a2 a3)) := by
  refine h.push ?_ (fun i hi => ?_) (fun k hk => ?_)
  · simp only [row4z, zi_at]
    rw [if_neg (by omega), if_neg (by omega), if_neg (by omega), if_neg (by omega), if_pos (by simp)]
  · simp only [row4z, zi_at]
    rw [if_neg (by omega), if_neg (by omega), if_neg (by omega), if_neg (by omega), if_neg (by omega)]
  · simp only [row4z, zi_at]
    rcases (show k = 0 ∨ k = 1 ∨ k = 2 ∨ k = 3 by omega) with rfl | rfl | rfl | rfl
    · rw [if_neg (by omega), if_neg (by omega), if_neg (by omega), if_pos (by simp)]; rfl
    · rw [if_neg (by omega), if_neg (by omega), if_pos (by simp)]; rfl
    · rw [if_neg (by omega), if_pos (by simp)]; rfl
    · rw [if_pos (by simp)]; rfl
def outv (st li : Nat) : Nat := (st % 1000 + li) % 1000
def sndz (z : zM) (b x n st li qk : Nat) (T : aT) : zM := row5z (lapp (zi z (b + 2 + 8 * x) 3 0) (b + 2 + 8 * x + 2) T.1 2 (gt x st n + 1) (outv st li) (CH T.2 T.1)) (b + 50) qk (nI x) (nI T.1) (nI (CH (tpush T (row3 2 (gt x st n + 1) (outv st li))).2 (T.1 + 1))) (nI (gt x st n)) (nI (outv st li))
def tkz1 (z : zM) (b x st : Nat) (T : aT) (a q v : Nat) : zM := zi (lapp z (b + 2 + 8 * x + 2) T.1 a q v (CH T.2 T.1)) (b + 2 + 8 * x) 1 (nI (nx st v q))
def tkz (z : zM) (b x n st li qk : Nat) (T : aT) (a q v : Nat) : zM := if nx st v q % 3 = 0 then sndz (tkz1 z b x st T a q v) b x n (nx st v q) li qk (tpush T (row3 a q v)) else tkz1 z b x st T a q v
def hdz (z : zM) (t k : Nat) (m e c : Int32) : zM := if k = 60 then hld (rmv z t 3 60) t 59 m e c else hld z t k m e c
theorem hdz_fr (z : zM) (t k : Nat) (m e c : Int32) : zfr z (hdz z t k m e c) t 2 := by
  unfold hdz
  split
  · exact (rmv_fr _ _ _ _).tr (hld_fr _ _ _ _ _ _)
  · exact hld_fr _ _ _ _ _ _
theorem hdz_tb {z : zM} {t : Nat} {T : aT} (h : rTb z t 3 T) (a e c : Nat) : rTb (hdz z t T.1 (nI a) (nI e) (nI c)) t 3 (thold T (row3 a e c)) := by
  unfold hdz thold
  by_cases h6 : T.1 = 60
  · rw [if_pos h6, if_pos h6]
    have h1 := h.pop (by omega)
    rw [h6] at h1
    have h2 := hld_tb h1 a e c
    have h3 : (tpop T).1 = 59 := by show T.1 - 1 = 59; omega
    rw [h3] at h2
    exact h2
  · rw [if_neg h6, if_neg h6]
    exact hld_tb h a e c
theorem m_X0_holdT {G : zG} {N : Nat} {Λ : zLay} {l : Launch} (hO : zOK G l) (z : zM) {b x : Nat} (hM : zMa G N Λ b x) {k : Nat} (hk : z.1 (b + 4) 3 = nI k) (hk2 : k ≤ 60) {mm ee ch : Int32} : zMet G N Λ l yX0_hold cX0_hold 5 none 2 [.ref (G.h + b), .int mm, .int ee, .int ch] z none (hdz z (b + 4) k mm ee ch) := by
  unfold hdz
  by_cases h6 : k = 60
  · rw [if_pos h6]; subst h6; exact m_X0_hold_full hO z hM hk
  · rw [if_neg h6]; exact m_X0_hold hO z hM hk (by omega)
theorem oI_none {o : Option Nat} (h : oI o = -1) (hb : ∀ e, o = some e → e < 2 ^ 31) : o = none := by
  cases o with
  | none => rfl
  | some e => exact absurd h (zm1ne (hb e rfl))
theorem bel_lt {Hd L : aT} {x : Nat} (hb : ∀ j, j < Hd.1 → Hd.2 j 1 < 40) : ∀ (d j e : Nat), j + d = Hd.1 → bel Hd L x d j = some e → e < 40 := by
  intro d
  induction d with
  | zero => intro j e _ h; cases h
  | succ d ih =>
    intro j e hj h
    rw [bel] at h
    split at h
    · cases h; exact hb j (by omega)
    · exact ih (j + 1) e (by omega) h
theorem rpl_le {r : Nat → Nat → Nat} {k x n : Nat} : ∀ (d j st e : Nat), rpl r k x n d j st = some e → e ≤ k := by
  intro d
  induction d with
  | zero => intro j st e h; cases h
  | succ d ih =>
    intro j st e h
    rw [rpl] at h
    split at h
    · cases h
    · split at h
      · cases h; omega
      · split at h
        · split at h
          · exact ih _ _ _ h
          · cases h; omega
        · exact ih _ _ _ h
def jzo (z : zM) (t k w x : Nat) (o : Option (Nat × Nat)) : zM := match o with
  | none => z
  | some p => row4z z t k (nI p.1) (nI x) (nI w) (nI p.2)
def isM (v : Int32) (n : Nat) : Prop := ∃ x, x < n ∧ v = nI x
theorem isM_of {v : Int32} {n : Nat} (h1 : ¬ v < 0) (h2 : ¬ nI n ≤ v) (hn : n < 2 ^ 31) : isM v n := by
  obtain ⟨j, hj, rfl⟩ := nI_of h1
  refine ⟨j, Nat.lt_of_not_le (fun q => h2 (zle hj q)), rfl⟩
theorem belA_lt {S : aS} (hS : aOK S) {x : Nat} : ∀ (d y e : Nat), y + d = S.n → belA S x d y = some e → e < 40 := by
  intro d
  induction d with
  | zero => intro y e _ h; cases h
  | succ d ih =>
    intro y e hy h
    rw [belA] at h
    split at h
    · cases h8 : bel (S.m y).held (S.m x).log x (S.m y).held.1 0 with
      | none => rw [h8] at h; exact ih (y + 1) e (by omega) h
      | some e9 =>
        rw [h8] at h
        cases h
        exact bel_lt (fun j hj => ((hS.m (show y < S.n by omega)).held.2 j hj).2.1) _ _ _ (by omega) h8
    · exact ih (y + 1) e (by omega) h
def swS (S : aS) (x v : Nat) : Nat → Nat → Int32
  | 0, _ => 0
  | d + 1, w => if (S.m x).wit.testBit w = true ∧ (S.m x).ver w = v then 1 else swS S x v d (w + 1)
set_option maxRecDepth 100000 in
set_option maxHeartbeats 4000000 in
theorem m_X2_isMachine {G : zG} {N : Nat} {Λ : zLay} {l : Launch} (hO : zOK G l) (z : zM) {b : Nat} (hW : zWo G N Λ b) {n x : Nat} (hn : z.1 b 0 = nI n) (hn6 : n ≤ 6) (hx : x < n) : zMet G N Λ l yX2_isMachine cX2_isMachine 2 (some .boolean) 0 [.ref (G.h + b), .int (nI x)] z (some (.int 1)) z := by
  refine zMet_of hO (by decide) (Nat.le_of_ble_eq_true rfl) ?_
  intro pP eE sS mM bB tT cC ls C hw hl
  have hl : lv_has ls 2 [(0, .ref (G.h + b)), (1, .int (nI x))] := hl
  refine lv_iload_n C.x C.b dX2_isMachine_0 rfl (lv_at hl 1 rfl) ?_
  refine lv_if_lt (tgt := 16) C.x C.b dX2_isMachine_1 (by decide) (fun c_1 => absurd c_1 (zneg (by omega))) (fun c_1 => ?_)
  refine lv_iload_n C.x C.b dX2_isMachine_4 rfl (lv_at hl 1 rfl) ?_
  refine lv_aload_n C.x C.b dX2_isMachine_5 rfl (lv_at hl 0 rfl) ?_
  refine z_get C hw hW.lt (hW.at _ _) flX2_32 rfl dX2_isMachine_6 ?_
  refine lv_icmp_ge (tgt := 16) C.x C.b dX2_isMachine_9 (by decide) (fun c_9 => absurd c_9 (by rw [hn]; exact znle (by omega) hx)) (fun c_9 => ?_)
  refine lv_iconst (v := 1) C.x C.b dX2_isMachine_12 (by decide) ?_
  refine lv_goto (tgt := 17) C.x C.b dX2_isMachine_13 (by decide) ?_
  exact z_zret C hw dX2_isMachine_17 (by decide) (rfl) (rfl)

set_option maxRecDepth 100000 in
set_option maxHeartbeats 4000000 in
theorem m_X2_isMachine_no {G : zG} {N : Nat} {Λ : zLay} {l : Launch} (hO : zOK G l) (z : zM) {b : Nat} (hW : zWo G N Λ b) {n : Nat} {v : Int32} (hn : z.1 b 0 = nI n) (hn6 : n ≤ 6) (hv : ¬ isM v n) : zMet G N Λ l yX2_isMachine cX2_isMachine 2 (some .boolean) 0 [.ref (G.h + b), .int v] z (some (.int 0)) z := by
  refine zMet_of hO (by decide) (Nat.le_of_ble_eq_true rfl) ?_
  intro pP eE sS mM bB tT cC ls C hw hl
  have hl : lv_has ls 2 [(0, .ref (G.h + b)), (1, .int v)] := hl
  refine lv_iload_n C.x C.b dX2_isMachine_0 rfl (lv_at hl 1 rfl) ?_
  refine lv_if_lt (tgt := 16) C.x C.b dX2_isMachine_1 (by decide) (fun c_1 => ?_) (fun c_1 => ?_)
  · refine lv_iconst (v := 0) C.x C.b dX2_isMachine_16 (by decide) ?_
    exact z_zret C hw dX2_isMachine_17 (by decide) (rfl) (rfl)
  · refine lv_iload_n C.x C.b dX2_isMachine_4 rfl (lv_at hl 1 rfl) ?_
    refine lv_aload_n C.x C.b dX2_isMachine_5 rfl (lv_at hl 0 rfl) ?_
    refine z_get C hw hW.lt (hW.at _ _) flX2_32 rfl dX2_isMachine_6 ?_
    refine lv_icmp_ge (tgt := 16) C.x C.b dX2_isMachine_9 (by decide) (fun c_9 => ?_) (fun c_9 => absurd (isM_of c_1 (by rw [hn] at c_9; exact c_9) (by omega)) hv)
    refine lv_iconst (v := 0) C.x C.b dX2_isMachine_16 (by decide) ?_
    exact z_zret C hw dX2_isMachine_17 (by decide) (rfl) (rfl)

set_option maxRecDepth 100000 in
set_option maxHeartbeats 4000000 in
theorem m_X2_firstReceiver {G : zG} {N : Nat} {Λ : zLay} {l : Launch} (hO : zOK G l) (z : zM) {b : Nat} (hW : zWo G N Λ b) {T : aT} (hq : rTb z (b + 50) 5 T) (hk : T.1 ≤ 40) (h0 : 0 < T.1) : zMet G N Λ l yX2_firstReceiver cX2_firstReceiver 1 (some .int) 1 [.ref (G.h + b)] z (some (.int (nI (T.2 0 3)))) z := by
  refine zMet_of hO (by decide) (Nat.le_of_ble_eq_true rfl) ?_
  intro pP eE sS mM bB tT cC ls C hw hl
  have hl : lv_has ls 1 [(0, .ref (G.h + b))] := hl
  refine lv_aload_n C.x C.b dX2_firstReceiver_0 rfl (lv_at hl 0 rfl) ?_
  refine z_get C hw hW.lt (hW.at _ _) flX2_25 rfl dX2_firstReceiver_1 ?_
  refine lv_iconst (v := 0) C.x C.b dX2_firstReceiver_4 (by decide) ?_
  refine lv_iconst (v := 3) C.x C.b dX2_firstReceiver_5 (by decide) ?_
  refine z_Vv (As := [.int 0, .int 3]) (rest := []) C hw hl (m_X1_get hO _ hW.queue hq.1 hk (r := 0) (c := 3) h0 (by omega)) ivX2_98 hW.queue.lt (hW.queue.at _ _) rfl rfl ⟨(Nat.le_of_ble_eq_true rfl), (Nat.le_of_ble_eq_true rfl)⟩ (Nat.le_of_ble_eq_true rfl) ⟨Nat.zero_le _, Nat.zero_le _⟩ dX2_firstReceiver_6 (fun H locs hw => ?_)
  refine z_topi (y := nI (T.2 0 3)) (hq.2 0 h0 3 (by omega)) ?_
  exact z_iret C hw dX2_firstReceiver_9 (rfl) (rfl)

set_option maxRecDepth 100000 in
set_option maxHeartbeats 4000000 in
theorem m_X2_firstReceiver_no {G : zG} {N : Nat} {Λ : zLay} {l : Launch} (hO : zOK G l) (z : zM) {b : Nat} (hW : zWo G N Λ b) (hq : z.1 (b + 50) 3 = nI 0) : zMet G N Λ l yX2_firstReceiver cX2_firstReceiver 1 (some .int) 1 [.ref (G.h + b)] z (some (.int (-1))) z := by
  refine zMet_of hO (by decide) (Nat.le_of_ble_eq_true rfl) ?_
  intro pP eE sS mM bB tT cC ls C hw hl
  have hl : lv_has ls 1 [(0, .ref (G.h + b))] := hl
  refine lv_aload_n C.x C.b dX2_firstReceiver_0 rfl (lv_at hl 0 rfl) ?_
  refine z_get C hw hW.lt (hW.at _ _) flX2_25 rfl dX2_firstReceiver_1 ?_
  refine lv_iconst (v := 0) C.x C.b dX2_firstReceiver_4 (by decide) ?_
  refine lv_iconst (v := 3) C.x C.b dX2_firstReceiver_5 (by decide) ?_
  refine z_Vv (As := [.int 0, .int 3]) (rest := []) C hw hl (m_X1_get_no hO _ hW.queue hq (by omega) (r := 0) (by omega) (by omega)) ivX2_98 hW.queue.lt (hW.queue.at _ _) rfl rfl ⟨(Nat.le_of_ble_eq_true rfl), (Nat.le_of_ble_eq_true rfl)⟩ (Nat.le_of_ble_eq_true rfl) ⟨Nat.zero_le _, Nat.zero_le _⟩ dX2_firstReceiver_6 (fun H locs hw => ?_)
  exact z_iret C hw dX2_firstReceiver_9 (rfl) (rfl)

set_option maxRecDepth 100000 in
set_option maxHeartbeats 4000000 in
theorem m_X2_canDeliver {G : zG} {N : Nat} {Λ : zLay} {l : Launch} (hO : zOK G l) (z : zM) {b : Nat} (hW : zWo G N Λ b) {S : aS} (hI : wI z b S) (hS : aOK S) (h0 : 0 < S.q.1) : zMet G N Λ l yX2_canDeliver cX2_canDeliver 2 (some .boolean) 2 [.ref (G.h + b)] z (some (.int (if aCan S then 1 else 0))) z := by
  refine zMet_of hO (by decide) (Nat.le_of_ble_eq_true rfl) ?_
  intro pP eE sS mM bB tT cC ls C hw hl
  have hl : lv_has ls 2 [(0, .ref (G.h + b))] := hl
  have hn6 := hS.n6
  have hmq := hS.q.2 0 h0
  have ht6 : S.q.2 0 3 < 6 := by omega
  have hm := hI.m hmq.2.2.2.1
  have hq40 := hS.q.1
  have hom := hS.m hmq.2.2.2.1
  have hsi := hom.sil
  have hlg := hom.log.1
  refine lv_aload_n C.x C.b dX2_canDeliver_0 rfl (lv_at hl 0 rfl) ?_
  refine z_Vv (As := []) (rest := []) C hw hl (m_X2_firstReceiver hO _ hW hI.q hS.q.1 h0) ivX2_102 hW.lt (hW.at _ _) rfl rfl ⟨(Nat.le_of_ble_eq_true rfl), (Nat.le_of_ble_eq_true rfl)⟩ (Nat.le_of_ble_eq_true rfl) ⟨Nat.zero_le _, Nat.zero_le _⟩ dX2_canDeliver_1 (fun H locs hw => ?_)
  refine lv_istore_n (lv' := [(1, .int (nI (S.q.2 0 3))), (0, .ref (G.h + b))]) C.x C.b dX2_canDeliver_4 rfl hl (by decide) rfl (fun ls hl => ?_)
  refine lv_aload_n C.x C.b dX2_canDeliver_5 rfl (lv_at hl 1 rfl) ?_
  refine lv_iload_n C.x C.b dX2_canDeliver_6 rfl (lv_at hl 0 rfl) ?_
  refine z_Vv (As := [.int (nI (S.q.2 0 3))]) (rest := []) C hw hl (m_X2_isMachine hO _ hW hI.n hS.n6 hmq.2.2.2.1) ivX2_105 hW.lt (hW.at _ _) rfl rfl ⟨(Nat.le_of_ble_eq_true rfl), (Nat.le_of_ble_eq_true rfl)⟩ (Nat.le_of_ble_eq_true rfl) ⟨Nat.zero_le _, Nat.zero_le _⟩ dX2_canDeliver_7 (fun H locs hw => ?_)
  refine lv_if_eq (tgt := 29) C.x C.b dX2_canDeliver_10 (by decide) (fun c_10 => absurd c_10 (by decide)) (fun c_10 => ?_)
  refine lv_aload_n C.x C.b dX2_canDeliver_13 rfl (lv_at hl 1 rfl) ?_
  refine lv_aload_n C.x C.b dX2_canDeliver_14 rfl (lv_at hl 1 rfl) ?_
  refine z_get C hw hW.lt (hW.at _ _) flX2_25 rfl dX2_canDeliver_15 ?_
  refine lv_iconst (v := 0) C.x C.b dX2_canDeliver_18 (by decide) ?_
  refine lv_iconst (v := 0) C.x C.b dX2_canDeliver_19 (by decide) ?_
  refine z_Vv (As := [.int 0, .int 0]) (rest := [.ref (G.h + b)]) C hw hl (m_X1_get hO _ hW.queue hI.q.1 hS.q.1 (r := 0) (c := 0) h0 (by omega)) ivX2_98 hW.queue.lt (hW.queue.at _ _) rfl rfl ⟨(Nat.le_of_ble_eq_true rfl), (Nat.le_of_ble_eq_true rfl)⟩ (Nat.le_of_ble_eq_true rfl) ⟨Nat.zero_le _, Nat.zero_le _⟩ dX2_canDeliver_20 (fun H locs hw => ?_)
  refine z_topi (y := nI (S.q.2 0 0)) (hI.q.2 0 h0 0 (by omega)) ?_
  refine z_Vv (As := [.int (nI (S.q.2 0 0))]) (rest := []) C hw hl (m_X2_isMachine hO _ hW hI.n hS.n6 hmq.1) ivX2_105 hW.lt (hW.at _ _) rfl rfl ⟨(Nat.le_of_ble_eq_true rfl), (Nat.le_of_ble_eq_true rfl)⟩ (Nat.le_of_ble_eq_true rfl) ⟨Nat.zero_le _, Nat.zero_le _⟩ dX2_canDeliver_23 (fun H locs hw => ?_)
  refine lv_if_ne (tgt := 31) C.x C.b dX2_canDeliver_26 (by decide) (fun c_26 => ?_) (fun c_26 => absurd c_26 (by decide))
  refine lv_aload_n C.x C.b dX2_canDeliver_31 rfl (lv_at hl 1 rfl) ?_
  refine z_get C hw hW.lt (hW.at _ _) flX2_11 rfl dX2_canDeliver_32 ?_
  refine lv_iload_n C.x C.b dX2_canDeliver_35 rfl (lv_at hl 0 rfl) ?_
  refine z_aaldM (a := G.h + (b + 2 + 8 * (S.q.2 0 3))) C hw hW.lt1 hW.ma (zvin ht6 (by omega)) (by rw [zcl ht6 (by omega)]) dX2_canDeliver_36 ?_
  refine z_pc (pc2 := 37) rfl ?_
  refine z_get C hw (hW.m ht6).lt ((hW.m ht6).at _ _) flX2_108 rfl dX2_canDeliver_37 ?_
  refine z_topi (y := nI (S.m (S.q.2 0 3)).sil) (hm.1.2.1) ?_
  refine lv_if_ne (tgt := 64) C.x C.b dX2_canDeliver_40 (by decide) (fun c_40 => ?_) (fun c_40 => ?_)
  · refine lv_iconst (v := 1) C.x C.b dX2_canDeliver_64 (by decide) ?_
    refine lv_goto (tgt := 69) C.x C.b dX2_canDeliver_65 (by decide) ?_
    exact z_zret C hw dX2_canDeliver_69 (by decide) (by rw [if_pos (aCan_iff.mpr ⟨h0, Or.inl (fun q => c_40 (by rw [q]; rfl))⟩)]) (rfl)
  · refine lv_aload_n C.x C.b dX2_canDeliver_43 rfl (lv_at hl 1 rfl) ?_
    refine z_get C hw hW.lt (hW.at _ _) flX2_11 rfl dX2_canDeliver_44 ?_
    refine lv_iload_n C.x C.b dX2_canDeliver_47 rfl (lv_at hl 0 rfl) ?_
    refine z_aaldM (a := G.h + (b + 2 + 8 * (S.q.2 0 3))) C hw hW.lt1 hW.ma (zvin ht6 (by omega)) (by rw [zcl ht6 (by omega)]) dX2_canDeliver_48 ?_
    refine lv_aload_n C.x C.b dX2_canDeliver_49 rfl (lv_at hl 1 rfl) ?_
    refine z_get C hw hW.lt (hW.at _ _) flX2_25 rfl dX2_canDeliver_50 ?_
    refine z_get C hw hW.queue.lt (hW.queue.at _ _) flX2_85 rfl dX2_canDeliver_53 ?_
    refine z_topi (y := nI S.q.1) (hI.q.1) ?_
    refine lv_iconst (v := 1) C.x C.b dX2_canDeliver_56 (by decide) ?_
    refine lv_isub C.x C.b dX2_canDeliver_57 ?_
    refine z_topi (y := nI (S.q.1 - 1)) (by rw [zlit 1, zsub h0]) ?_
    refine z_Vv (As := [.int (nI (S.q.1 - 1))]) (rest := []) C hw hl (m_X0_hasRoom hO _ (hW.m ht6) hm.2.2.1.1 hlg (q := S.q.1 - 1) (by omega)) ivX2_111 (hW.m ht6).lt ((hW.m ht6).at _ _) rfl rfl ⟨(Nat.le_of_ble_eq_true rfl), (Nat.le_of_ble_eq_true rfl)⟩ (Nat.le_of_ble_eq_true rfl) ⟨Nat.zero_le _, Nat.zero_le _⟩ dX2_canDeliver_58 (fun H locs hw => ?_)
    refine lv_if_eq (tgt := 68) C.x C.b dX2_canDeliver_61 (by decide) (fun c_61 => ?_) (fun c_61 => ?_)
    · refine lv_iconst (v := 0) C.x C.b dX2_canDeliver_68 (by decide) ?_
      exact z_zret C hw dX2_canDeliver_69 (by decide) (by
          have h9 : ¬ (S.m (S.q.2 0 3)).log.1 ≤ 38 := fun q => by rw [if_pos ⟨q, by omega⟩] at c_61; exact absurd c_61 (by decide)
          have h8 := zzero (by omega) c_40
          rw [if_neg (fun q => (aCan_iff.mp q).2.elim (fun w => w h8) h9)]) (rfl)
    · refine lv_iconst (v := 1) C.x C.b dX2_canDeliver_64 (by decide) ?_
      refine lv_goto (tgt := 69) C.x C.b dX2_canDeliver_65 (by decide) ?_
      exact z_zret C hw dX2_canDeliver_69 (by decide) (by
          have h9 : (S.m (S.q.2 0 3)).log.1 ≤ 38 := by
            by_cases q : (S.m (S.q.2 0 3)).log.1 ≤ 38 ∧ S.q.1 - 1 ≤ 39
            · exact q.1
            · rw [if_neg q] at c_61; exact absurd rfl c_61
          rw [if_pos (aCan_iff.mpr ⟨h0, Or.inr h9⟩)]) (rfl)

set_option maxRecDepth 100000 in
set_option maxHeartbeats 4000000 in
theorem m_X2_canDeliver_no {G : zG} {N : Nat} {Λ : zLay} {l : Launch} (hO : zOK G l) (z : zM) {b : Nat} (hW : zWo G N Λ b) {S : aS} (hI : wI z b S) (hS : aOK S) (h0 : S.q.1 = 0) : zMet G N Λ l yX2_canDeliver cX2_canDeliver 2 (some .boolean) 2 [.ref (G.h + b)] z (some (.int 0)) z := by
  refine zMet_of hO (by decide) (Nat.le_of_ble_eq_true rfl) ?_
  intro pP eE sS mM bB tT cC ls C hw hl
  have hl : lv_has ls 2 [(0, .ref (G.h + b))] := hl
  have hq := hI.q.1
  rw [h0] at hq
  refine lv_aload_n C.x C.b dX2_canDeliver_0 rfl (lv_at hl 0 rfl) ?_
  refine z_Vv (As := []) (rest := []) C hw hl (m_X2_firstReceiver_no hO _ hW hq) ivX2_102 hW.lt (hW.at _ _) rfl rfl ⟨(Nat.le_of_ble_eq_true rfl), (Nat.le_of_ble_eq_true rfl)⟩ (Nat.le_of_ble_eq_true rfl) ⟨Nat.zero_le _, Nat.zero_le _⟩ dX2_canDeliver_1 (fun H locs hw => ?_)
  refine lv_istore_n (lv' := [(1, .int (-1)), (0, .ref (G.h + b))]) C.x C.b dX2_canDeliver_4 rfl hl (by decide) rfl (fun ls hl => ?_)
  refine lv_aload_n C.x C.b dX2_canDeliver_5 rfl (lv_at hl 1 rfl) ?_
  refine lv_iload_n C.x C.b dX2_canDeliver_6 rfl (lv_at hl 0 rfl) ?_
  refine z_Vv (As := [.int (-1)]) (rest := []) C hw hl (m_X2_isMachine_no hO _ hW hI.n hS.n6 (by rintro ⟨x, hx, h⟩; have := hS.n6; exact zm1ne (a := x) (by omega) h.symm)) ivX2_105 hW.lt (hW.at _ _) rfl rfl ⟨(Nat.le_of_ble_eq_true rfl), (Nat.le_of_ble_eq_true rfl)⟩ (Nat.le_of_ble_eq_true rfl) ⟨Nat.zero_le _, Nat.zero_le _⟩ dX2_canDeliver_7 (fun H locs hw => ?_)
  refine lv_if_eq (tgt := 29) C.x C.b dX2_canDeliver_10 (by decide) (fun c_10 => ?_) (fun c_10 => absurd (rfl) c_10)
  refine lv_iconst (v := 0) C.x C.b dX2_canDeliver_29 (by decide) ?_
  exact z_zret C hw dX2_canDeliver_30 (by decide) (rfl) (rfl)

set_option maxRecDepth 100000 in
set_option maxHeartbeats 4000000 in
theorem m_X2_addEvidence {G : zG} {N : Nat} {Λ : zLay} {l : Launch} (hO : zOK G l) (z : zM) {b : Nat} (hW : zWo G N Λ b) {k : Nat} (hk : z.1 (b + 52) 3 = nI k) (hk2 : k < 30) {v0 v1 v2 v3 : Int32} : zMet G N Λ l yX2_addEvidence cX2_addEvidence 6 none 1 [.ref (G.h + b), .int v0, .int v1, .int v2, .int v3] z none (row4z z (b + 52) k v0 v1 v2 v3) := by
  refine zMet_of hO (by decide) (Nat.le_of_ble_eq_true rfl) ?_
  intro pP eE sS mM bB tT cC ls C hw hl
  have hl : lv_has ls 6 [(0, .ref (G.h + b)), (1, .int v0), (2, .int v1), (3, .int v2), (4, .int v3)] := hl
  refine lv_aload_n C.x C.b dX2_addEvidence_0 rfl (lv_at hl 0 rfl) ?_
  refine z_get C hw hW.lt (hW.at _ _) flX2_29 rfl dX2_addEvidence_1 ?_
  refine z_Vv (As := []) (rest := []) C hw hl (m_X1_addRow hO _ hW.evid hk (by omega) hk2) ivX2_88 hW.evid.lt (hW.evid.at _ _) rfl rfl ⟨(Nat.le_of_ble_eq_true rfl), (Nat.le_of_ble_eq_true rfl)⟩ (Nat.le_of_ble_eq_true rfl) ⟨Nat.zero_le _, Nat.zero_le _⟩ dX2_addEvidence_4 (fun H locs hw => ?_)
  obtain ⟨z_1, ez_1⟩ : ∃ q_9, q_9 = zi z (b + 52) 3 (nI (k + 1)) := ⟨_, rfl⟩
  have hw : zS G N Λ z_1 sS H locs := by rw [ez_1]; exact hw
  refine lv_istore (lv' := [(5, .int (nI k)), (0, .ref (G.h + b)), (1, .int v0), (2, .int v1), (3, .int v2), (4, .int v3)]) C.x C.b dX2_addEvidence_7 hl (by decide) rfl (fun ls hl => ?_)
  refine lv_aload_n C.x C.b dX2_addEvidence_9 rfl (lv_at hl 1 rfl) ?_
  refine z_get C hw hW.lt (hW.at _ _) flX2_29 rfl dX2_addEvidence_10 ?_
  refine lv_iload C.x C.b dX2_addEvidence_13 (lv_at hl 0 rfl) ?_
  refine lv_iconst (v := 0) C.x C.b dX2_addEvidence_15 (by decide) ?_
  refine lv_iload_n C.x C.b dX2_addEvidence_16 rfl (lv_at hl 2 rfl) ?_
  have hk_1 : z_1.1 (b + 52) 3 = nI (k + 1) := by rw [ez_1, zi_at, if_pos ⟨rfl, rfl⟩]
  refine z_V0 (As := [.int (nI k), .int 0, .int v0]) (rest := []) C hw hl (m_X1_set hO _ hW.evid hk_1 (by omega) (r := k) (c := 0) (by omega) (by omega)) ivX2_92 hW.evid.lt (hW.evid.at _ _) rfl rfl ⟨(Nat.le_of_ble_eq_true rfl), (Nat.le_of_ble_eq_true rfl)⟩ (Nat.le_of_ble_eq_true rfl) ⟨Nat.zero_le _, Nat.zero_le _⟩ dX2_addEvidence_17 (fun H locs hw => ?_)
  obtain ⟨z_2, ez_2⟩ : ∃ q_9, q_9 = zi z_1 (b + 52 + 1) (k * 4 + 0) (v0) := ⟨_, rfl⟩
  have hw : zS G N Λ z_2 sS H locs := by rw [ez_2]; exact hw
  refine lv_aload_n C.x C.b dX2_addEvidence_20 rfl (lv_at hl 1 rfl) ?_
  refine z_get C hw hW.lt (hW.at _ _) flX2_29 rfl dX2_addEvidence_21 ?_
  refine lv_iload C.x C.b dX2_addEvidence_24 (lv_at hl 0 rfl) ?_
  refine lv_iconst (v := 1) C.x C.b dX2_addEvidence_26 (by decide) ?_
  refine lv_iload_n C.x C.b dX2_addEvidence_27 rfl (lv_at hl 3 rfl) ?_
  have hk_2 : z_2.1 (b + 52) 3 = nI (k + 1) := by rw [ez_2, zi_at, if_neg (by omega), hk_1]
  refine z_V0 (As := [.int (nI k), .int 1, .int v1]) (rest := []) C hw hl (m_X1_set hO _ hW.evid hk_2 (by omega) (r := k) (c := 1) (by omega) (by omega)) ivX2_92 hW.evid.lt (hW.evid.at _ _) rfl rfl ⟨(Nat.le_of_ble_eq_true rfl), (Nat.le_of_ble_eq_true rfl)⟩ (Nat.le_of_ble_eq_true rfl) ⟨Nat.zero_le _, Nat.zero_le _⟩ dX2_addEvidence_28 (fun H locs hw => ?_)
  obtain ⟨z_3, ez_3⟩ : ∃ q_9, q_9 = zi z_2 (b + 52 + 1) (k * 4 + 1) (v1) := ⟨_, rfl⟩
  have hw : zS G N Λ z_3 sS H locs := by rw [ez_3]; exact hw
  refine lv_aload_n C.x C.b dX2_addEvidence_31 rfl (lv_at hl 1 rfl) ?_
  refine z_get C hw hW.lt (hW.at _ _) flX2_29 rfl dX2_addEvidence_32 ?_
  refine lv_iload C.x C.b dX2_addEvidence_35 (lv_at hl 0 rfl) ?_
  refine z_pc (pc2 := 37) rfl ?_
  refine lv_iconst (v := 2) C.x C.b dX2_addEvidence_37 (by decide) ?_
  refine lv_iload_n C.x C.b dX2_addEvidence_38 rfl (lv_at hl 4 rfl) ?_
  have hk_3 : z_3.1 (b + 52) 3 = nI (k + 1) := by rw [ez_3, zi_at, if_neg (by omega), hk_2]
  refine z_V0 (As := [.int (nI k), .int 2, .int v2]) (rest := []) C hw hl (m_X1_set hO _ hW.evid hk_3 (by omega) (r := k) (c := 2) (by omega) (by omega)) ivX2_92 hW.evid.lt (hW.evid.at _ _) rfl rfl ⟨(Nat.le_of_ble_eq_true rfl), (Nat.le_of_ble_eq_true rfl)⟩ (Nat.le_of_ble_eq_true rfl) ⟨Nat.zero_le _, Nat.zero_le _⟩ dX2_addEvidence_39 (fun H locs hw => ?_)
  obtain ⟨z_4, ez_4⟩ : ∃ q_9, q_9 = zi z_3 (b + 52 + 1) (k * 4 + 2) (v2) := ⟨_, rfl⟩
  have hw : zS G N Λ z_4 sS H locs := by rw [ez_4]; exact hw
  refine lv_aload_n C.x C.b dX2_addEvidence_42 rfl (lv_at hl 1 rfl) ?_
  refine z_get C hw hW.lt (hW.at _ _) flX2_29 rfl dX2_addEvidence_43 ?_
  refine lv_iload C.x C.b dX2_addEvidence_46 (lv_at hl 0 rfl) ?_
  refine lv_iconst (v := 3) C.x C.b dX2_addEvidence_48 (by decide) ?_
  refine lv_iload C.x C.b dX2_addEvidence_49 (lv_at hl 5 rfl) ?_
  have hk_4 : z_4.1 (b + 52) 3 = nI (k + 1) := by rw [ez_4, zi_at, if_neg (by omega), hk_3]
  refine z_V0 (As := [.int (nI k), .int 3, .int v3]) (rest := []) C hw hl (m_X1_set hO _ hW.evid hk_4 (by omega) (r := k) (c := 3) (by omega) (by omega)) ivX2_92 hW.evid.lt (hW.evid.at _ _) rfl rfl ⟨(Nat.le_of_ble_eq_true rfl), (Nat.le_of_ble_eq_true rfl)⟩ (Nat.le_of_ble_eq_true rfl) ⟨Nat.zero_le _, Nat.zero_le _⟩ dX2_addEvidence_51 (fun H locs hw => ?_)
  obtain ⟨z_5, ez_5⟩ : ∃ q_9, q_9 = zi z_4 (b + 52 + 1) (k * 4 + 3) (v3) := ⟨_, rfl⟩
  have hw : zS G N Λ z_5 sS H locs := by rw [ez_5]; exact hw
  exact z_vret C hw dX2_addEvidence_54 (rfl) (by rw [ez_5, ez_4, ez_3, ez_2, ez_1]; rfl)

set_option maxRecDepth 100000 in
set_option maxHeartbeats 4000000 in
theorem m_X2_beliedEntry {G : zG} {N : Nat} {Λ : zLay} {l : Launch} (hO : zOK G l) (z : zM) {b : Nat} (hW : zWo G N Λ b) {S : aS} (hI : wI z b S) (hS : aOK S) {x : Nat} (hx : x < S.n) (hx6 : x < 6) : zMet G N Λ l yX2_beliedEntry cX2_beliedEntry 4 (some .int) 3 [.ref (G.h + b), .ref (G.h + (b + 2 + 8 * x))] z (some (.int (oI (belA S x S.n 0)))) z := by
  refine zMet_of hO (by decide) (Nat.le_of_ble_eq_true rfl) ?_
  intro pP eE sS mM bB tT cC ls C hw hl
  have hl : lv_has ls 4 [(0, .ref (G.h + b)), (1, .ref (G.h + (b + 2 + 8 * x)))] := hl
  have hn6 := hS.n6
  have hmx := hI.m hx
  have hox := hS.m hx
  refine lv_iconst (v := 0) C.x C.b dX2_beliedEntry_0 (by decide) ?_
  refine lv_istore_n (lv' := [(2, .int 0), (0, .ref (G.h + b)), (1, .ref (G.h + (b + 2 + 8 * x)))]) C.x C.b dX2_beliedEntry_1 rfl hl (by decide) rfl (fun ls hl => ?_)
  have loop : ∀ (d : Nat) (y : Nat) (H : Heap) (locs : List Loc) (ls : Array Slot) (hy : y + d = S.n) (hb : belA S x S.n 0 = belA S x d y), zS G N Λ z sS H locs → lv_has ls 4 [(0, .ref (G.h + b)), (1, .ref (G.h + (b + 2 + 8 * x))), (2, .int (nI y))] → W pP l eE (zR 3) sS mM ([.ref (G.h + b), .ref (G.h + (b + 2 + 8 * x))] : List Value).toArray bB tT cC H locs 0 0 (MQ bB (zQc G N Λ (some (.int (oI (belA S x S.n 0)))) z) ([.ref (G.h + b), .ref (G.h + (b + 2 + 8 * x))] : List Value).toArray sS 0 0 (zA G)) (F0 mM 2 ls []) := by
    intro d
    induction d with
    | zero =>
      intro y H locs ls hy hb hw hl
      refine lv_iload_n C.x C.b dX2_beliedEntry_2 rfl (lv_at hl 2 rfl) ?_
      refine lv_aload_n C.x C.b dX2_beliedEntry_3 rfl (lv_at hl 0 rfl) ?_
      refine z_get C hw hW.lt (hW.at _ _) flX2_32 rfl dX2_beliedEntry_4 ?_
      refine lv_icmp_ge (tgt := 46) C.x C.b dX2_beliedEntry_7 (by decide) (fun c_7 => ?_) (fun c_7 => absurd (by rw [hI.n]; exact zle (by omega) (by omega)) c_7)
      refine lv_iconst (v := -1) C.x C.b dX2_beliedEntry_46 (by decide) ?_
      exact z_iret C hw dX2_beliedEntry_47 (by rw [hb]; rfl) (rfl)
    | succ d ih =>
      intro y H locs ls hy hb hw hl
      refine lv_iload_n C.x C.b dX2_beliedEntry_2 rfl (lv_at hl 2 rfl) ?_
      refine lv_aload_n C.x C.b dX2_beliedEntry_3 rfl (lv_at hl 0 rfl) ?_
      refine z_get C hw hW.lt (hW.at _ _) flX2_32 rfl dX2_beliedEntry_4 ?_
      refine lv_icmp_ge (tgt := 46) C.x C.b dX2_beliedEntry_7 (by decide) (fun c_7 => absurd c_7 (by rw [hI.n]; exact znle (by omega) (by omega))) (fun c_7 => ?_)
      have hyn : y < S.n := by omega
      have hy6 : y < 6 := by omega
      have hmy := hI.m hyn
      have hoy := hS.m hyn
      have hsy := hoy.sil
      refine lv_aload_n C.x C.b dX2_beliedEntry_10 rfl (lv_at hl 0 rfl) ?_
      refine z_get C hw hW.lt (hW.at _ _) flX2_11 rfl dX2_beliedEntry_11 ?_
      refine lv_iload_n C.x C.b dX2_beliedEntry_14 rfl (lv_at hl 2 rfl) ?_
      refine z_aaldM (a := G.h + (b + 2 + 8 * y)) C hw hW.lt1 hW.ma (zvin hy6 (by omega)) (by rw [zcl hy6 (by omega)]) dX2_beliedEntry_15 ?_
      refine z_get C hw (hW.m hy6).lt ((hW.m hy6).at _ _) flX2_108 rfl dX2_beliedEntry_16 ?_
      refine z_topi (y := nI (S.m y).sil) (hmy.1.2.1) ?_
      refine lv_if_ne (tgt := 40) C.x C.b dX2_beliedEntry_19 (by decide) (fun c_19 => ?_) (fun c_19 => ?_)
      · refine lv_iinc (v := nI y + 1) (lv' := [(2, .int (nI y + 1)), (0, .ref (G.h + b)), (1, .ref (G.h + (b + 2 + 8 * x)))]) C.x C.b dX2_beliedEntry_40 hl (k := 2) rfl rfl (by decide) rfl (fun ls hl => ?_)
        have hl : lv_has ls 4 [(2, .int (nI (y + 1))), (0, .ref (G.h + b)), (1, .ref (G.h + (b + 2 + 8 * x)))] := by
          have e9 : nI y + 1 = nI (y + 1) := nI_1 y
          rw [← e9]; exact hl
        refine lv_goto (tgt := 2) C.x C.b dX2_beliedEntry_43 (by decide) ?_
        exact ih (y + 1) _ _ _ (by omega) (by rw [hb, belA, if_neg (fun q => c_19 (by rw [q]; rfl))]) hw (lv_sub hl [1, 2, 0] rfl)
      · refine lv_aload_n C.x C.b dX2_beliedEntry_22 rfl (lv_at hl 0 rfl) ?_
        refine z_get C hw hW.lt (hW.at _ _) flX2_11 rfl dX2_beliedEntry_23 ?_
        refine lv_iload_n C.x C.b dX2_beliedEntry_26 rfl (lv_at hl 2 rfl) ?_
        refine z_aaldM (a := G.h + (b + 2 + 8 * y)) C hw hW.lt1 hW.ma (zvin hy6 (by omega)) (by rw [zcl hy6 (by omega)]) dX2_beliedEntry_27 ?_
        refine lv_aload_n C.x C.b dX2_beliedEntry_28 rfl (lv_at hl 1 rfl) ?_
        refine z_Vv (As := [.ref (G.h + (b + 2 + 8 * x))]) (rest := []) C hw hl (m_X0_beliedEntryOf hO _ (hW.m hy6) (hW.m hx6) hmy.2.2.2.1 hoy.held.1 (hoy.held.b hn6) hmx.2.2.1 hox.log.1) ivX2_153 (hW.m hy6).lt ((hW.m hy6).at _ _) rfl rfl ⟨(Nat.le_of_ble_eq_true rfl), (Nat.le_of_ble_eq_true rfl)⟩ (Nat.le_of_ble_eq_true rfl) ⟨Nat.zero_le _, Nat.zero_le _⟩ dX2_beliedEntry_29 (fun H locs hw => ?_)
        refine lv_istore_n (lv' := [(3, .int (oI (bel (S.m y).held (S.m x).log x (S.m y).held.1 0))), (0, .ref (G.h + b)), (1, .ref (G.h + (b + 2 + 8 * x))), (2, .int (nI y))]) C.x C.b dX2_beliedEntry_32 rfl hl (by decide) rfl (fun ls hl => ?_)
        refine lv_iload_n C.x C.b dX2_beliedEntry_33 rfl (lv_at hl 0 rfl) ?_
        refine lv_iconst (v := -1) C.x C.b dX2_beliedEntry_34 (by decide) ?_
        refine z_pc (pc2 := 35) rfl ?_
        refine lv_icmp_eq (tgt := 40) C.x C.b dX2_beliedEntry_35 (by decide) (fun c_35 => ?_) (fun c_35 => ?_)
        · have h9 : bel (S.m y).held (S.m x).log x (S.m y).held.1 0 = none := oI_none c_35 (fun e9 h8 => by have := bel_lt (fun j hj => (hoy.held.2 j hj).2.1) _ _ _ (by omega) h8; omega)
          refine lv_iinc (v := nI y + 1) (lv' := [(2, .int (nI y + 1)), (3, .int (oI (bel (S.m y).held (S.m x).log x (S.m y).held.1 0))), (0, .ref (G.h + b)), (1, .ref (G.h + (b + 2 + 8 * x)))]) C.x C.b dX2_beliedEntry_40 hl (k := 3) rfl rfl (by decide) rfl (fun ls hl => ?_)
          have hl : lv_has ls 4 [(2, .int (nI (y + 1))), (3, .int (oI (bel (S.m y).held (S.m x).log x (S.m y).held.1 0))), (0, .ref (G.h + b)), (1, .ref (G.h + (b + 2 + 8 * x)))] := by
            have e9 : nI y + 1 = nI (y + 1) := nI_1 y
            rw [← e9]; exact hl
          refine lv_goto (tgt := 2) C.x C.b dX2_beliedEntry_43 (by decide) ?_
          exact ih (y + 1) _ _ _ (by omega) (by rw [hb, belA, if_pos (zzero (by omega) c_19), h9]) hw (lv_sub hl [2, 3, 0] rfl)
        · obtain ⟨e9, h9⟩ : ∃ e9, bel (S.m y).held (S.m x).log x (S.m y).held.1 0 = some e9 := by
            cases h8 : bel (S.m y).held (S.m x).log x (S.m y).held.1 0 with
            | none => rw [h8] at c_35; exact absurd rfl c_35
            | some e9 => exact ⟨e9, rfl⟩
          refine lv_iload_n C.x C.b dX2_beliedEntry_38 rfl (lv_at hl 0 rfl) ?_
          exact z_iret C hw dX2_beliedEntry_39 (by rw [hb, belA, if_pos (zzero (by omega) c_19), h9]) (rfl)
  exact loop S.n 0 _ _ _ (by omega) rfl hw (lv_sub hl [1, 2, 0] rfl)

set_option maxRecDepth 100000 in
set_option maxHeartbeats 4000000 in
theorem m_X2_judge {G : zG} {N : Nat} {Λ : zLay} {l : Launch} (hO : zOK G l) (z : zM) {b : Nat} (hW : zWo G N Λ b) {S : aS} (hI : wI z b S) (hS : aOK S) {w x : Nat} (hx : x < S.n) (hx6 : x < 6) (hw6 : w < 6) (hev : ¬ (S.m x).ver w = 2 → S.ev.1 < 30) : zMet G N Λ l yX2_judge cX2_judge 4 (some .int) 4 [.ref (G.h + b), .int (nI w), .ref (G.h + (b + 2 + 8 * x))] z (some (.int (nI (jdg S w x).1))) (jzo z (b + 52) S.ev.1 w x (jdg S w x).2) := by
  refine zMet_of hO (by decide) (Nat.le_of_ble_eq_true rfl) ?_
  intro pP eE sS mM bB tT cC ls C hw hl
  have hl : lv_has ls 4 [(0, .ref (G.h + b)), (1, .int (nI w)), (2, .ref (G.h + (b + 2 + 8 * x)))] := hl
  have hn6 := hS.n6
  have hmx := hI.m hx
  have hox := hS.m hx
  have hve := hox.ver w
  have hsi := hox.sil
  have hpd := hox.pend.1
  refine lv_aload_n C.x C.b dX2_judge_0 rfl (lv_at hl 2 rfl) ?_
  refine z_get C hw (hW.m hx6).lt ((hW.m hx6).at _ _) flX2_134 rfl dX2_judge_1 ?_
  refine lv_iload_n C.x C.b dX2_judge_4 rfl (lv_at hl 1 rfl) ?_
  refine z_iald C hw ((hW.m hx6).lt1) ((hW.m hx6).ver) (zvin hw6 (by omega)) dX2_judge_5 ?_
  refine z_topi (y := nI ((S.m x).ver w)) (by rw [zcl hw6 (by omega)]; exact hmx.2.1 w hw6) ?_
  refine lv_iconst (v := 2) C.x C.b dX2_judge_6 (by decide) ?_
  refine lv_icmp_ne (tgt := 12) C.x C.b dX2_judge_7 (by decide) (fun c_7 => ?_) (fun c_7 => ?_)
  · have hv2 : ¬ (S.m x).ver w = 2 := fun q => c_7 (by rw [q]; rfl)
    refine lv_aload_n C.x C.b dX2_judge_12 rfl (lv_at hl 2 rfl) ?_
    refine z_get C hw (hW.m hx6).lt ((hW.m hx6).at _ _) flX2_108 rfl dX2_judge_13 ?_
    refine z_topi (y := nI (S.m x).sil) (hmx.1.2.1) ?_
    refine lv_if_eq (tgt := 21) C.x C.b dX2_judge_16 (by decide) (fun c_16 => ?_) (fun c_16 => ?_)
    · have hs0 := zzero (by omega) c_16
      refine lv_aload_n C.x C.b dX2_judge_21 rfl (lv_at hl 0 rfl) ?_
      refine lv_aload_n C.x C.b dX2_judge_22 rfl (lv_at hl 2 rfl) ?_
      refine z_Vv (As := [.ref (G.h + (b + 2 + 8 * x))]) (rest := []) C hw hl (m_X2_beliedEntry hO _ hW hI hS hx hx6) ivX2_142 hW.lt (hW.at _ _) rfl rfl ⟨(Nat.le_of_ble_eq_true rfl), (Nat.le_of_ble_eq_true rfl)⟩ (Nat.le_of_ble_eq_true rfl) ⟨Nat.zero_le _, Nat.zero_le _⟩ dX2_judge_23 (fun H locs hw => ?_)
      refine lv_istore_n (lv' := [(3, .int (oI (belA S x S.n 0))), (0, .ref (G.h + b)), (1, .int (nI w)), (2, .ref (G.h + (b + 2 + 8 * x)))]) C.x C.b dX2_judge_26 rfl hl (by decide) rfl (fun ls hl => ?_)
      refine lv_iload_n C.x C.b dX2_judge_27 rfl (lv_at hl 0 rfl) ?_
      refine lv_iconst (v := -1) C.x C.b dX2_judge_28 (by decide) ?_
      refine lv_icmp_eq (tgt := 45) C.x C.b dX2_judge_29 (by decide) (fun c_29 => ?_) (fun c_29 => ?_)
      · have h9 : belA S x S.n 0 = none := oI_none c_29 (fun e9 h8 => by have := belA_lt hS _ _ _ (by omega) h8; omega)
        refine lv_aload_n C.x C.b dX2_judge_45 rfl (lv_at hl 3 rfl) ?_
        refine lv_aload_n C.x C.b dX2_judge_46 rfl (lv_at hl 1 rfl) ?_
        refine z_get C hw hW.lt (hW.at _ _) flX2_32 rfl dX2_judge_47 ?_
        refine z_topi (y := nI S.n) (hI.n) ?_
        refine z_pc (pc2 := 50) rfl ?_
        refine z_Vv (As := [.int (nI S.n)]) (rest := []) C hw hl (m_X0_replayFault hO _ (hW.m hx6) hmx.2.2.1.1 hox.log.1 hmx.2.2.1.2.1 (hox.log.row hn6) hS.n2 hS.n6 hx) ivX2_150 (hW.m hx6).lt ((hW.m hx6).at _ _) rfl rfl ⟨(Nat.le_of_ble_eq_true rfl), (Nat.le_of_ble_eq_true rfl)⟩ (Nat.le_of_ble_eq_true rfl) ⟨Nat.zero_le _, Nat.zero_le _⟩ dX2_judge_50 (fun H locs hw => ?_)
        refine lv_istore_n (lv' := [(3, .int (oI (rpl (S.m x).log.2 (S.m x).log.1 x S.n ((S.m x).log.1 + 1) 0 x))), (0, .ref (G.h + b)), (1, .int (nI w)), (2, .ref (G.h + (b + 2 + 8 * x)))]) C.x C.b dX2_judge_53 rfl hl (by decide) rfl (fun ls hl => ?_)
        refine lv_iload_n C.x C.b dX2_judge_54 rfl (lv_at hl 0 rfl) ?_
        refine lv_iconst (v := -1) C.x C.b dX2_judge_55 (by decide) ?_
        refine lv_icmp_eq (tgt := 72) C.x C.b dX2_judge_56 (by decide) (fun c_56 => ?_) (fun c_56 => ?_)
        · have h7 : rpl (S.m x).log.2 (S.m x).log.1 x S.n ((S.m x).log.1 + 1) 0 x = none := oI_none c_56 (fun e9 h8 => by have := rpl_le _ _ _ _ h8; have := hox.log.1; omega)
          have hj : jdg S w x = (if 0 < (S.m x).pend.1 then 1 else 0, none) := by rw [jdg, if_neg hv2, if_neg (fun q => q hs0), h9]; show jRe S w x = _; rw [jRe, h7]
          refine lv_aload_n C.x C.b dX2_judge_72 rfl (lv_at hl 3 rfl) ?_
          refine z_get C hw (hW.m hx6).lt ((hW.m hx6).at _ _) flX2_114 rfl dX2_judge_73 ?_
          refine z_get C hw (hW.m hx6).pend.lt ((hW.m hx6).pend.at _ _) flX2_85 rfl dX2_judge_76 ?_
          refine z_topi (y := nI (S.m x).pend.1) (hmx.2.2.2.2.1) ?_
          refine lv_if_le (tgt := 86) C.x C.b dX2_judge_79 (by decide) (fun c_79 => ?_) (fun c_79 => ?_)
          · refine lv_iconst (v := 0) C.x C.b dX2_judge_86 (by decide) ?_
            exact z_iret C hw dX2_judge_87 (by rw [hj, if_neg (fun q => absurd c_79 (nI_nle q (by omega)))]; rfl) (by rw [hj]; rfl)
          · refine lv_iconst (v := 1) C.x C.b dX2_judge_82 (by decide) ?_
            refine lv_goto (tgt := 87) C.x C.b dX2_judge_83 (by decide) ?_
            exact z_iret C hw dX2_judge_87 (by rw [hj, if_pos ((nI_ltI (a := 0) (by omega) (by omega)).mp (Int32.not_le.mp c_79))]; rfl) (by rw [hj]; rfl)
        · obtain ⟨e9, h7⟩ : ∃ e9, rpl (S.m x).log.2 (S.m x).log.1 x S.n ((S.m x).log.1 + 1) 0 x = some e9 := by
            cases h8 : rpl (S.m x).log.2 (S.m x).log.1 x S.n ((S.m x).log.1 + 1) 0 x with
            | none => rw [h8] at c_56; exact absurd rfl c_56
            | some e9 => exact ⟨e9, rfl⟩
          have hj : jdg S w x = (2, some (1, e9)) := by rw [jdg, if_neg hv2, if_neg (fun q => q hs0), h9]; show jRe S w x = _; rw [jRe, h7]
          refine lv_aload_n C.x C.b dX2_judge_59 rfl (lv_at hl 1 rfl) ?_
          refine lv_iconst (v := 1) C.x C.b dX2_judge_60 (by decide) ?_
          refine lv_aload_n C.x C.b dX2_judge_61 rfl (lv_at hl 3 rfl) ?_
          refine z_get C hw (hW.m hx6).lt ((hW.m hx6).at _ _) flX2_68 rfl dX2_judge_62 ?_
          refine lv_iload_n C.x C.b dX2_judge_65 rfl (lv_at hl 2 rfl) ?_
          refine lv_iload_n C.x C.b dX2_judge_66 rfl (lv_at hl 0 rfl) ?_
          refine z_topi (y := nI e9) (by rw [h7]; rfl) ?_
          refine z_V0 (As := [.int 1, .int (nI x), .int (nI w), .int (nI e9)]) (rest := []) C hw hl (m_X2_addEvidence hO _ hW hI.e.1 (hev hv2)) ivX2_146 hW.lt (hW.at _ _) rfl rfl ⟨(Nat.le_of_ble_eq_true rfl), (Nat.le_of_ble_eq_true rfl)⟩ (Nat.le_of_ble_eq_true rfl) ⟨Nat.zero_le _, Nat.zero_le _⟩ dX2_judge_67 (fun H locs hw => ?_)
          obtain ⟨z_1, ez_1⟩ : ∃ q_9, q_9 = row4z z (b + 52) S.ev.1 1 (nI x) (nI w) (nI e9) := ⟨_, rfl⟩
          have hw : zS G N Λ z_1 sS H locs := by rw [ez_1]; exact hw
          refine lv_iconst (v := 2) C.x C.b dX2_judge_70 (by decide) ?_
          exact z_iret C hw dX2_judge_71 (by rw [hj]; rfl) (by rw [hj, ez_1]; rfl)
      · obtain ⟨e9, h9⟩ : ∃ e9, belA S x S.n 0 = some e9 := by
          cases h8 : belA S x S.n 0 with
          | none => rw [h8] at c_29; exact absurd rfl c_29
          | some e9 => exact ⟨e9, rfl⟩
        have hj : jdg S w x = (2, some (0, e9)) := by rw [jdg, if_neg hv2, if_neg (fun q => q hs0), h9]
        refine lv_aload_n C.x C.b dX2_judge_32 rfl (lv_at hl 1 rfl) ?_
        refine lv_iconst (v := 0) C.x C.b dX2_judge_33 (by decide) ?_
        refine lv_aload_n C.x C.b dX2_judge_34 rfl (lv_at hl 3 rfl) ?_
        refine z_pc (pc2 := 35) rfl ?_
        refine z_get C hw (hW.m hx6).lt ((hW.m hx6).at _ _) flX2_68 rfl dX2_judge_35 ?_
        refine lv_iload_n C.x C.b dX2_judge_38 rfl (lv_at hl 2 rfl) ?_
        refine lv_iload_n C.x C.b dX2_judge_39 rfl (lv_at hl 0 rfl) ?_
        refine z_topi (y := nI e9) (by rw [h9]; rfl) ?_
        refine z_V0 (As := [.int 0, .int (nI x), .int (nI w), .int (nI e9)]) (rest := []) C hw hl (m_X2_addEvidence hO _ hW hI.e.1 (hev hv2)) ivX2_146 hW.lt (hW.at _ _) rfl rfl ⟨(Nat.le_of_ble_eq_true rfl), (Nat.le_of_ble_eq_true rfl)⟩ (Nat.le_of_ble_eq_true rfl) ⟨Nat.zero_le _, Nat.zero_le _⟩ dX2_judge_40 (fun H locs hw => ?_)
        obtain ⟨z_2, ez_2⟩ : ∃ q_9, q_9 = row4z z (b + 52) S.ev.1 0 (nI x) (nI w) (nI e9) := ⟨_, rfl⟩
        have hw : zS G N Λ z_2 sS H locs := by rw [ez_2]; exact hw
        refine lv_iconst (v := 2) C.x C.b dX2_judge_43 (by decide) ?_
        exact z_iret C hw dX2_judge_44 (by rw [hj]; rfl) (by rw [hj, ez_2]; rfl)
    · have hj : jdg S w x = (1, none) := by rw [jdg, if_neg hv2, if_pos (fun q => c_16 (by rw [q]; rfl))]
      refine lv_iconst (v := 1) C.x C.b dX2_judge_19 (by decide) ?_
      exact z_iret C hw dX2_judge_20 (by rw [hj]; rfl) (by rw [hj]; rfl)
  · have hj : jdg S w x = (2, none) := by rw [jdg, if_pos ((nI_eq (b := 2) (by omega) (by omega)).mp c_7)]
    refine lv_iconst (v := 2) C.x C.b dX2_judge_10 (by decide) ?_
    exact z_iret C hw dX2_judge_11 (by rw [hj]; rfl) (by rw [hj]; rfl)

set_option maxRecDepth 100000 in
set_option maxHeartbeats 4000000 in
theorem m_X2_someWitnessSays {G : zG} {N : Nat} {Λ : zLay} {l : Launch} (hO : zOK G l) (z : zM) {b : Nat} (hW : zWo G N Λ b) {S : aS} (hI : wI z b S) (hS : aOK S) {x v : Nat} (hx : x < S.n) (hx6 : x < 6) (hv : v ≤ 2) : zMet G N Λ l yX2_someWitnessSays cX2_someWitnessSays 4 (some .boolean) 1 [.ref (G.h + b), .ref (G.h + (b + 2 + 8 * x)), .int (nI v)] z (some (.int (swS S x v S.n 0))) z := by
  refine zMet_of hO (by decide) (Nat.le_of_ble_eq_true rfl) ?_
  intro pP eE sS mM bB tT cC ls C hw hl
  have hl : lv_has ls 4 [(0, .ref (G.h + b)), (1, .ref (G.h + (b + 2 + 8 * x))), (2, .int (nI v))] := hl
  have hn6 := hS.n6
  have hmx := hI.m hx
  have hox := hS.m hx
  refine lv_iconst (v := 0) C.x C.b dX2_someWitnessSays_0 (by decide) ?_
  refine lv_istore_n (lv' := [(3, .int 0), (0, .ref (G.h + b)), (1, .ref (G.h + (b + 2 + 8 * x))), (2, .int (nI v))]) C.x C.b dX2_someWitnessSays_1 rfl hl (by decide) rfl (fun ls hl => ?_)
  have loop : ∀ (d : Nat) (w : Nat) (H : Heap) (locs : List Loc) (ls : Array Slot) (hwn : w + d = S.n) (hb : swS S x v S.n 0 = swS S x v d w), zS G N Λ z sS H locs → lv_has ls 4 [(0, .ref (G.h + b)), (1, .ref (G.h + (b + 2 + 8 * x))), (2, .int (nI v)), (3, .int (nI w))] → W pP l eE (zR 1) sS mM ([.ref (G.h + b), .ref (G.h + (b + 2 + 8 * x)), .int (nI v)] : List Value).toArray bB tT cC H locs 0 0 (MQ bB (zQc G N Λ (some (.int (swS S x v S.n 0))) z) ([.ref (G.h + b), .ref (G.h + (b + 2 + 8 * x)), .int (nI v)] : List Value).toArray sS 0 0 (zA G)) (F0 mM 2 ls []) := by
    intro d
    induction d with
    | zero =>
      intro w H locs ls hwn hb hw hl
      refine lv_iload_n C.x C.b dX2_someWitnessSays_2 rfl (lv_at hl 3 rfl) ?_
      refine lv_aload_n C.x C.b dX2_someWitnessSays_3 rfl (lv_at hl 0 rfl) ?_
      refine z_get C hw hW.lt (hW.at _ _) flX2_32 rfl dX2_someWitnessSays_4 ?_
      refine lv_icmp_ge (tgt := 36) C.x C.b dX2_someWitnessSays_7 (by decide) (fun c_7 => ?_) (fun c_7 => absurd (by rw [hI.n]; exact zle (by omega) (by omega)) c_7)
      refine lv_iconst (v := 0) C.x C.b dX2_someWitnessSays_36 (by decide) ?_
      exact z_zret C hw dX2_someWitnessSays_37 (by decide) (by rw [hb]; rfl) (rfl)
    | succ d ih =>
      intro w H locs ls hwn hb hw hl
      refine lv_iload_n C.x C.b dX2_someWitnessSays_2 rfl (lv_at hl 3 rfl) ?_
      refine lv_aload_n C.x C.b dX2_someWitnessSays_3 rfl (lv_at hl 0 rfl) ?_
      refine z_get C hw hW.lt (hW.at _ _) flX2_32 rfl dX2_someWitnessSays_4 ?_
      refine lv_icmp_ge (tgt := 36) C.x C.b dX2_someWitnessSays_7 (by decide) (fun c_7 => absurd c_7 (by rw [hI.n]; exact znle (by omega) (by omega))) (fun c_7 => ?_)
      have hw6 : w < 6 := by omega
      have hve := hox.ver w
      refine lv_aload_n C.x C.b dX2_someWitnessSays_10 rfl (lv_at hl 1 rfl) ?_
      refine lv_iload_n C.x C.b dX2_someWitnessSays_11 rfl (lv_at hl 3 rfl) ?_
      refine z_Vv (As := [.int (nI w)]) (rest := []) C hw hl (m_X0_hasWitness hO _ (hW.m hx6) hmx.1.2.2.2 hw6) ivX2_131 (hW.m hx6).lt ((hW.m hx6).at _ _) rfl rfl ⟨(Nat.le_of_ble_eq_true rfl), (Nat.le_of_ble_eq_true rfl)⟩ (Nat.le_of_ble_eq_true rfl) ⟨Nat.zero_le _, Nat.zero_le _⟩ dX2_someWitnessSays_12 (fun H locs hw => ?_)
      refine lv_if_eq (tgt := 30) C.x C.b dX2_someWitnessSays_15 (by decide) (fun c_15 => ?_) (fun c_15 => ?_)
      · refine lv_iinc (v := nI w + 1) (lv' := [(3, .int (nI w + 1)), (0, .ref (G.h + b)), (1, .ref (G.h + (b + 2 + 8 * x))), (2, .int (nI v))]) C.x C.b dX2_someWitnessSays_30 hl (k := 3) rfl rfl (by decide) rfl (fun ls hl => ?_)
        have hl : lv_has ls 4 [(3, .int (nI (w + 1))), (0, .ref (G.h + b)), (1, .ref (G.h + (b + 2 + 8 * x))), (2, .int (nI v))] := by
          have e9 : nI w + 1 = nI (w + 1) := nI_1 w
          rw [← e9]; exact hl
        refine lv_goto (tgt := 2) C.x C.b dX2_someWitnessSays_33 (by decide) ?_
        exact ih (w + 1) _ _ _ (by omega) (by rw [hb, swS, if_neg (fun q => by rw [if_pos q.1] at c_15; exact absurd c_15 (by decide))]) hw (lv_sub hl [1, 2, 3, 0] rfl)
      · have hb1 : (S.m x).wit.testBit w = true := by
          cases h8 : (S.m x).wit.testBit w with
          | true => rfl
          | false => rw [h8] at c_15; exact absurd rfl c_15
        refine lv_aload_n C.x C.b dX2_someWitnessSays_18 rfl (lv_at hl 1 rfl) ?_
        refine z_get C hw (hW.m hx6).lt ((hW.m hx6).at _ _) flX2_134 rfl dX2_someWitnessSays_19 ?_
        refine lv_iload_n C.x C.b dX2_someWitnessSays_22 rfl (lv_at hl 3 rfl) ?_
        refine z_iald C hw ((hW.m hx6).lt1) ((hW.m hx6).ver) (zvin hw6 (by omega)) dX2_someWitnessSays_23 ?_
        refine z_topi (y := nI ((S.m x).ver w)) (by rw [zcl hw6 (by omega)]; exact hmx.2.1 w hw6) ?_
        refine lv_iload_n C.x C.b dX2_someWitnessSays_24 rfl (lv_at hl 2 rfl) ?_
        refine lv_icmp_ne (tgt := 30) C.x C.b dX2_someWitnessSays_25 (by decide) (fun c_25 => ?_) (fun c_25 => ?_)
        · refine lv_iinc (v := nI w + 1) (lv' := [(3, .int (nI w + 1)), (0, .ref (G.h + b)), (1, .ref (G.h + (b + 2 + 8 * x))), (2, .int (nI v))]) C.x C.b dX2_someWitnessSays_30 hl (k := 3) rfl rfl (by decide) rfl (fun ls hl => ?_)
          have hl : lv_has ls 4 [(3, .int (nI (w + 1))), (0, .ref (G.h + b)), (1, .ref (G.h + (b + 2 + 8 * x))), (2, .int (nI v))] := by
            have e9 : nI w + 1 = nI (w + 1) := nI_1 w
            rw [← e9]; exact hl
          refine lv_goto (tgt := 2) C.x C.b dX2_someWitnessSays_33 (by decide) ?_
          exact ih (w + 1) _ _ _ (by omega) (by rw [hb, swS, if_neg (fun q => c_25 (by rw [q.2]))]) hw (lv_sub hl [1, 2, 3, 0] rfl)
        · refine lv_iconst (v := 1) C.x C.b dX2_someWitnessSays_28 (by decide) ?_
          exact z_zret C hw dX2_someWitnessSays_29 (by decide) (by rw [hb, swS, if_pos ⟨hb1, (nI_eq (by omega) (by omega)).mp c_25⟩]) (rfl)
  exact loop S.n 0 _ _ _ (by omega) rfl hw (lv_sub hl [1, 2, 3, 0] rfl)
