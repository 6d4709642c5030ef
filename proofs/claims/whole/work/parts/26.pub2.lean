theorem m_X2_canDeliverT {G : zG} {N : Nat} {Λ : zLay} {l : Launch} (hO : zOK G l) (z : zM) {b : Nat} (hW : zWo G N Λ b) {S : aS} (hI : wI z b S) (hS : aOK S) : zMet G N Λ l yX2_canDeliver cX2_canDeliver 2 (some .boolean) 2 [.ref (G.h + b)] z (some (.int (if aCan S = true then 1 else 0))) z := by
  by_cases h0 : 0 < S.q.1
  · exact m_X2_canDeliver hO z hW hI hS h0
  · rw [if_neg (fun q => h0 (aCan_iff.mp q).1)]
    exact m_X2_canDeliver_no hO z hW hI hS (by omega)
def aRun : Nat → aS → aS × Nat
  | 0, S => (S, 0)
  | d + 1, S => if aCan S = true then ((aRun d (aDel S)).1, (aRun d (aDel S)).2 + 1) else (S, 0)
/-- the queue behind i messages that were pending for x -/
def rsz (z : zM) (x q : Nat) : Nat → zM
  | 0 => z
  | i + 1 => acz (zi (rsz z x q i) (1 + 50) 3 (nI (q + i + 1))) (1 + 50) (1 + 2 + 8 * x + 6) 5 (q + i) i 5
theorem rsz_n (z : zM) (x q : Nat) : ∀ i k, k ≠ 1 + 50 → k ≠ 1 + 50 + 1 → (rsz z x q i).1 k = z.1 k := by
  intro i
  induction i with
  | zero => intro k _ _; rfl
  | succ i ih =>
    intro k h1 h2
    show (acz (zi (rsz z x q i) (1 + 50) 3 (nI (q + i + 1))) (1 + 50) (1 + 2 + 8 * x + 6) 5 (q + i) i 5).1 k = z.1 k
    rw [(acz_fr _ _ _ _ _ _ _ _).1 k (by omega)]
    exact ih k h1 h2
theorem rsz_2 (z : zM) (x q : Nat) : ∀ i, (rsz z x q i).2 = z.2 := by
  intro i
  induction i with
  | zero => rfl
  | succ i ih => exact ((acz_fr _ _ _ _ _ _ _ _).2).trans ih
theorem rsz_q {z : zM} {x q : Nat} (hx6 : x < 6) (h : z.1 (1 + 50) 3 = nI q) : ∀ i, (rsz z x q i).1 (1 + 50) 3 = nI (q + i) := by
  intro i
  cases i with
  | zero => exact h
  | succ i =>
    show (acz (zi (rsz z x q i) (1 + 50) 3 (nI (q + i + 1))) (1 + 50) (1 + 2 + 8 * x + 6) 5 (q + i) i 5).1 (1 + 50) 3 = nI (q + (i + 1))
    rw [acz_n _ _ _ _ _ _ (by omega), zi_at, if_pos ⟨rfl, rfl⟩]
    rfl
/-- a log's rows with another value in row e -/
def tmr (r : Nat → Nat → Nat) (e v : Nat) : Nat → Nat → Nat := va_up r e (row3 (r e 0) (r e 1) v)
theorem tmr_row {z : zM} {t k : Nat} {r : Nat → Nat → Nat} (h : rRow z t k r) (e v : Nat) : rRow (zi z (t + 1) (e * 4 + 2) (nI v)) t k (tmr r e v) := fun j hj => by
  unfold tmr
  rw [zi_at, zi_at, zi_at]
  by_cases hje : j = e
  · subst hje
    rw [if_neg (by omega), if_neg (by omega), if_pos ⟨rfl, rfl⟩, va_up_self]
    exact ⟨(h j hj).1, (h j hj).2.1, rfl⟩
  · rw [if_neg (by omega), if_neg (by omega), if_neg (by omega), va_up_ne _ _ hje]
    exact h j hj
theorem tmr_ok {k : Nat} {r : Nat → Nat → Nat} (h : okRow r k) (e : Nat) {v : Nat} (hv : v < 1000) : okRow (tmr r e v) k := fun j hj => by
  unfold tmr
  by_cases hje : j = e
  · subst hje
    rw [va_up_self]
    exact ⟨(h j hj).1, (h j hj).2.1, hv⟩
  · rw [va_up_ne _ _ hje]
    exact h j hj
theorem tmr_ch (r : Nat → Nat → Nat) (e v k : Nat) (h : k ≤ e) : CH (tmr r e v) k = CH r k := CH_congr (fun j hj => va_up_ne _ _ (by omega))
def aAll : Nat → Nat → aS → aS × Nat
  | 0, _, S => (S, 0)
  | d + 1, x, S => ((aAll d (x + 1) (jba x S.n 0 S).1).1, (jba x S.n 0 S).2 + (aAll d (x + 1) (jba x S.n 0 S).1).2)
def aaz : Nat → Nat → zM → aS → zM
  | 0, _, z, _ => z
  | d + 1, x, z, S => aaz d (x + 1) (jbz 1 x S.n 0 z S) (jba x S.n 0 S).1
theorem jba_le (x : Nat) : ∀ (d w : Nat) (S : aS), (jba x d w S).2 ≤ d := by
  intro d
  induction d with
  | zero => intro w S; exact Nat.le_refl _
  | succ d ih =>
    intro w S
    rw [jba]
    split
    · have h := ih (w + 1) (aAud S w x)
      show (if _ then 0 else 1) + _ ≤ _
      split <;> omega
    · have h := ih (w + 1) S
      omega
def vmk (S : aS) (v : Nat) : Nat → Nat → Int32 → Int32
  | 0, _, m => m
  | d + 1, x, m => if swS S x v S.n 0 = 0 then vmk S v d (x + 1) m else vmk S v d (x + 1) (m ||| nI (2 ^ x))
set_option maxRecDepth 100000 in
set_option maxHeartbeats 4000000 in
theorem m_X3_deliver0 {G : zG} {N : Nat} {Λ : zLay} {l : Launch} (hO : zOK G l) (z : zM) (hA : zPo G N Λ) {S : aS} (hI : wI z 1 S) (hS : aOK S) (h0 : S.q.1 = 0) : zMet G N Λ l yX3_deliver cX3_deliver 2 (some .int) 2 [.ref (G.h + 0)] z (some (.int (-1))) z := by
  refine zMet_of hO (by decide) (Nat.le_of_ble_eq_true rfl) ?_
  intro pP eE sS mM bB tT cC ls C hw hl
  have hl : lv_has ls 2 [(0, .ref (G.h + 0))] := hl
  have hq := hI.q.1
  rw [h0] at hq
  refine lv_aload_n C.x C.b dX3_deliver_0 rfl (lv_at hl 0 rfl) ?_
  refine z_get C hw hA.lt (hA.at _ _) flX3_12 rfl dX3_deliver_1 ?_
  refine z_Vv (As := []) (rest := []) C hw hl (m_X2_firstReceiver_no hO _ hA.w0 hq) ivX3_75 hA.w0.lt (hA.w0.at _ _) rfl rfl ⟨(Nat.le_of_ble_eq_true rfl), (Nat.le_of_ble_eq_true rfl)⟩ (Nat.le_of_ble_eq_true rfl) ⟨Nat.zero_le _, Nat.zero_le _⟩ dX3_deliver_4 (fun H locs hw => ?_)
  refine lv_istore_n (lv' := [(1, .int (-1)), (0, .ref (G.h + 0))]) C.x C.b dX3_deliver_7 rfl hl (by decide) rfl (fun ls hl => ?_)
  refine lv_iload_n C.x C.b dX3_deliver_8 rfl (lv_at hl 0 rfl) ?_
  refine lv_iconst (v := -1) C.x C.b dX3_deliver_9 (by decide) ?_
  refine lv_icmp_ne (tgt := 15) C.x C.b dX3_deliver_10 (by decide) (fun c_10 => absurd c_10 (fun q => q rfl)) (fun c_10 => ?_)
  refine lv_iconst (v := -1) C.x C.b dX3_deliver_13 (by decide) ?_
  exact z_iret C hw dX3_deliver_14 (rfl) (rfl)

set_option maxRecDepth 100000 in
set_option maxHeartbeats 4000000 in
theorem m_X3_deliver {G : zG} {N : Nat} {Λ : zLay} {l : Launch} (hO : zOK G l) (z : zM) (hA : zPo G N Λ) {S : aS} (hI : wI z 1 S) (hS : aOK S) (h0 : 0 < S.q.1) (hc : aCan S = true) {z1 : zM} (hsv : zMet G N Λ l yX3_save cX3_save 1 none 4 [.ref (G.h + 0)] z none z1) {z2 : zM} (hdl : zMet G N Λ l yX2_deliverFirst cX2_deliverFirst 5 none 5 [.ref (G.h + 1)] z1 none z2) : zMet G N Λ l yX3_deliver cX3_deliver 2 (some .int) 6 [.ref (G.h + 0)] z (some (.int (nI (S.q.2 0 3)))) z2 := by
  refine zMet_of hO (by decide) (Nat.le_of_ble_eq_true rfl) ?_
  intro pP eE sS mM bB tT cC ls C hw hl
  have hl : lv_has ls 2 [(0, .ref (G.h + 0))] := hl
  have hmq := hS.q.2 0 h0
  have hn6 := hS.n6
  refine lv_aload_n C.x C.b dX3_deliver_0 rfl (lv_at hl 0 rfl) ?_
  refine z_get C hw hA.lt (hA.at _ _) flX3_12 rfl dX3_deliver_1 ?_
  refine z_Vv (As := []) (rest := []) C hw hl (m_X2_firstReceiver hO _ hA.w0 hI.q hS.q.1 h0) ivX3_75 hA.w0.lt (hA.w0.at _ _) rfl rfl ⟨(Nat.le_of_ble_eq_true rfl), (Nat.le_of_ble_eq_true rfl)⟩ (Nat.le_of_ble_eq_true rfl) ⟨Nat.zero_le _, Nat.zero_le _⟩ dX3_deliver_4 (fun H locs hw => ?_)
  refine lv_istore_n (lv' := [(1, .int (nI (S.q.2 0 3))), (0, .ref (G.h + 0))]) C.x C.b dX3_deliver_7 rfl hl (by decide) rfl (fun ls hl => ?_)
  refine lv_iload_n C.x C.b dX3_deliver_8 rfl (lv_at hl 0 rfl) ?_
  refine lv_iconst (v := -1) C.x C.b dX3_deliver_9 (by decide) ?_
  refine lv_icmp_ne (tgt := 15) C.x C.b dX3_deliver_10 (by decide) (fun c_10 => ?_) (fun c_10 => absurd c_10 (zm1ne (by omega)))
  refine lv_aload_n C.x C.b dX3_deliver_15 rfl (lv_at hl 1 rfl) ?_
  refine z_get C hw hA.lt (hA.at _ _) flX3_12 rfl dX3_deliver_16 ?_
  refine z_Vv (As := []) (rest := []) C hw hl (m_X2_canDeliver hO _ hA.w0 hI hS h0) ivX3_79 hA.w0.lt (hA.w0.at _ _) rfl rfl ⟨(Nat.le_of_ble_eq_true rfl), (Nat.le_of_ble_eq_true rfl)⟩ (Nat.le_of_ble_eq_true rfl) ⟨Nat.zero_le _, Nat.zero_le _⟩ dX3_deliver_19 (fun H locs hw => ?_)
  refine lv_if_ne (tgt := 35) C.x C.b dX3_deliver_22 (by decide) (fun c_22 => ?_) (fun c_22 => absurd c_22 (by rw [if_pos hc]; decide))
  refine lv_aload_n C.x C.b dX3_deliver_35 rfl (lv_at hl 1 rfl) ?_
  refine z_V0 (As := []) (rest := []) C hw hl (hsv) ivX3_31 hA.lt (hA.at _ _) rfl rfl ⟨(Nat.le_of_ble_eq_true rfl), (Nat.le_of_ble_eq_true rfl)⟩ (Nat.le_of_ble_eq_true rfl) ⟨Nat.zero_le _, Nat.zero_le _⟩ dX3_deliver_36 (fun H locs hw => ?_)
  refine lv_aload_n C.x C.b dX3_deliver_39 rfl (lv_at hl 1 rfl) ?_
  refine z_get C hw hA.lt (hA.at _ _) flX3_12 rfl dX3_deliver_40 ?_
  refine z_V0 (As := []) (rest := []) C hw hl (hdl) ivX3_85 hA.w0.lt (hA.w0.at _ _) rfl rfl ⟨(Nat.le_of_ble_eq_true rfl), (Nat.le_of_ble_eq_true rfl)⟩ (Nat.le_of_ble_eq_true rfl) ⟨Nat.zero_le _, Nat.zero_le _⟩ dX3_deliver_43 (fun H locs hw => ?_)
  refine lv_iload_n C.x C.b dX3_deliver_46 rfl (lv_at hl 0 rfl) ?_
  exact z_iret C hw dX3_deliver_47 (rfl) (rfl)

set_option maxRecDepth 100000 in
set_option maxHeartbeats 4000000 in
theorem x_X3_deliver {G : zG} {N : Nat} {Λ : zLay} {l : Launch} (hO : zOK G l) (z : zM) (hA : zPo G N Λ) {S : aS} (hI : wI z 1 S) (hS : aOK S) (h0 : 0 < S.q.1) (hc : ¬ aCan S = true) : zMX G N Λ l yX3_deliver cX3_deliver 2 (some .int) 6 [.ref (G.h + 0)] z "java/lang/IllegalStateException" := by
  refine zMX_of hO (by decide) (Nat.le_of_ble_eq_true rfl) ?_
  intro pP eE sS mM bB tT cC ls C hout hw hl
  have hl : lv_has ls 2 [(0, .ref (G.h + 0))] := hl
  have hmq := hS.q.2 0 h0
  have hn6 := hS.n6
  refine lv_aload_n C.x C.b dX3_deliver_0 rfl (lv_at hl 0 rfl) ?_
  refine z_get C hw hA.lt (hA.at _ _) flX3_12 rfl dX3_deliver_1 ?_
  refine z_Vv (As := []) (rest := []) C hw hl (m_X2_firstReceiver hO _ hA.w0 hI.q hS.q.1 h0) ivX3_75 hA.w0.lt (hA.w0.at _ _) rfl rfl ⟨(Nat.le_of_ble_eq_true rfl), (Nat.le_of_ble_eq_true rfl)⟩ (Nat.le_of_ble_eq_true rfl) ⟨Nat.zero_le _, Nat.zero_le _⟩ dX3_deliver_4 (fun H locs hw => ?_)
  refine lv_istore_n (lv' := [(1, .int (nI (S.q.2 0 3))), (0, .ref (G.h + 0))]) C.x C.b dX3_deliver_7 rfl hl (by decide) rfl (fun ls hl => ?_)
  refine lv_iload_n C.x C.b dX3_deliver_8 rfl (lv_at hl 0 rfl) ?_
  refine lv_iconst (v := -1) C.x C.b dX3_deliver_9 (by decide) ?_
  refine lv_icmp_ne (tgt := 15) C.x C.b dX3_deliver_10 (by decide) (fun c_10 => ?_) (fun c_10 => absurd c_10 (zm1ne (by omega)))
  refine lv_aload_n C.x C.b dX3_deliver_15 rfl (lv_at hl 1 rfl) ?_
  refine z_get C hw hA.lt (hA.at _ _) flX3_12 rfl dX3_deliver_16 ?_
  refine z_Vv (As := []) (rest := []) C hw hl (m_X2_canDeliver hO _ hA.w0 hI hS h0) ivX3_79 hA.w0.lt (hA.w0.at _ _) rfl rfl ⟨(Nat.le_of_ble_eq_true rfl), (Nat.le_of_ble_eq_true rfl)⟩ (Nat.le_of_ble_eq_true rfl) ⟨Nat.zero_le _, Nat.zero_le _⟩ dX3_deliver_19 (fun H locs hw => ?_)
  refine lv_if_ne (tgt := 35) C.x C.b dX3_deliver_22 (by decide) (fun c_22 => absurd c_22 (by rw [if_neg hc]; decide)) (fun c_22 => ?_)
  exact z_thr C hw hl th_83 dX3_deliver_25 dX3_deliver_28 dX3_deliver_29 dX3_deliver_31 dX3_deliver_34 hout (Nat.le_of_ble_eq_true rfl) (Nat.le_of_ble_eq_true rfl) (Nat.le_of_ble_eq_true rfl) (Nat.le_of_ble_eq_true rfl)

set_option maxRecDepth 100000 in
set_option maxHeartbeats 4000000 in
theorem m_X3_run {G : zG} {N : Nat} {Λ : zLay} {l : Launch} (hO : zOK G l) (z : zM) (hA : zPo G N Λ) {S : aS} (hI : wI z 1 S) (hS : aOK S) {z1 : zM} (hsv : zMet G N Λ l yX3_save cX3_save 1 none 4 [.ref (G.h + 0)] z none z1) {most : Nat} (hm1 : 1 ≤ most) (hm2 : most ≤ 100) {zf : Nat → zM} {Sq : Nat → aS} (h0z : zf 0 = z1) (h0S : Sq 0 = S) (hQ : ∀ i, Sq (i + 1) = if aCan (Sq i) = true then aDel (Sq i) else Sq i) (hIf : ∀ i, wI (zf i) 1 (Sq i) ∧ aOK (Sq i)) (hdf : ∀ i, aCan (Sq i) = true → zMet G N Λ l yX2_deliverFirst cX2_deliverFirst 5 none 5 [.ref (G.h + 1)] (zf i) none (zf (i + 1))) : zMet G N Λ l yX3_run cX3_run 3 (some .int) 6 [.ref (G.h + 0), .int (nI most)] z (some (.int (nI (aRun most S).2))) (zf (aRun most S).2) := by
  refine zMet_of hO (by decide) (Nat.le_of_ble_eq_true rfl) ?_
  intro pP eE sS mM bB tT cC ls C hw hl
  have hl : lv_has ls 3 [(0, .ref (G.h + 0)), (1, .int (nI most))] := hl
  refine lv_iload_n C.x C.b dX3_run_0 rfl (lv_at hl 1 rfl) ?_
  refine lv_iconst (v := 1) C.x C.b dX3_run_1 (by decide) ?_
  refine lv_icmp_lt (tgt := 11) C.x C.b dX3_run_2 (by decide) (fun c_2 => absurd c_2 (znlt (b := 1) (by omega) hm1)) (fun c_2 => ?_)
  refine lv_iload_n C.x C.b dX3_run_5 rfl (lv_at hl 1 rfl) ?_
  refine lv_bipush (v := 100) C.x C.b dX3_run_6 (by decide) ?_
  refine lv_icmp_le (tgt := 21) C.x C.b dX3_run_8 (by decide) (fun c_8 => ?_) (fun c_8 => absurd (zle (b := 100) (by omega) hm2) c_8)
  refine lv_aload_n C.x C.b dX3_run_21 rfl (lv_at hl 0 rfl) ?_
  refine z_V0 (As := []) (rest := []) C hw hl (hsv) ivX3_31 hA.lt (hA.at _ _) rfl rfl ⟨(Nat.le_of_ble_eq_true rfl), (Nat.le_of_ble_eq_true rfl)⟩ (Nat.le_of_ble_eq_true rfl) ⟨Nat.zero_le _, Nat.zero_le _⟩ dX3_run_22 (fun H locs hw => ?_)
  refine lv_iconst (v := 0) C.x C.b dX3_run_25 (by decide) ?_
  refine lv_istore_n (lv' := [(2, .int 0), (0, .ref (G.h + 0)), (1, .int (nI most))]) C.x C.b dX3_run_26 rfl hl (by decide) rfl (fun ls hl => ?_)
  have loop : ∀ (d : Nat) (j : Nat) (H : Heap) (locs : List Loc) (ls : Array Slot) (hj : j + d = most) (hr : (aRun most S).2 = j + (aRun d (Sq j)).2), zS G N Λ (zf j) sS H locs → lv_has ls 3 [(0, .ref (G.h + 0)), (1, .int (nI most)), (2, .int (nI j))] → W pP l eE (zR 6) sS mM ([.ref (G.h + 0), .int (nI most)] : List Value).toArray bB tT cC H locs 0 0 (MQ bB (zQc G N Λ (some (.int (nI (aRun most S).2))) (zf (aRun most S).2)) ([.ref (G.h + 0), .int (nI most)] : List Value).toArray sS 0 0 (zA G)) (F0 mM 27 ls []) := by
    intro d
    induction d with
    | zero =>
      intro j H locs ls hj hr hw hl
      refine lv_iload_n C.x C.b dX3_run_27 rfl (lv_at hl 2 rfl) ?_
      refine lv_iload_n C.x C.b dX3_run_28 rfl (lv_at hl 1 rfl) ?_
      refine lv_icmp_ge (tgt := 55) C.x C.b dX3_run_29 (by decide) (fun c_29 => ?_) (fun c_29 => absurd (zle (by omega) (by omega)) c_29)
      refine lv_iload_n C.x C.b dX3_run_55 rfl (lv_at hl 2 rfl) ?_
      exact z_iret C hw dX3_run_56 (by rw [hr]; rfl) (by rw [hr]; rfl)
    | succ d ih =>
      intro j H locs ls hj hr hw hl
      refine lv_iload_n C.x C.b dX3_run_27 rfl (lv_at hl 2 rfl) ?_
      refine lv_iload_n C.x C.b dX3_run_28 rfl (lv_at hl 1 rfl) ?_
      refine lv_icmp_ge (tgt := 55) C.x C.b dX3_run_29 (by decide) (fun c_29 => absurd c_29 (znle (by omega) (by omega))) (fun c_29 => ?_)
      obtain ⟨hIj, hSj⟩ := hIf j
      refine lv_aload_n C.x C.b dX3_run_32 rfl (lv_at hl 0 rfl) ?_
      refine z_get C hw hA.lt (hA.at _ _) flX3_12 rfl dX3_run_33 ?_
      refine z_Vv (As := []) (rest := []) C hw hl (m_X2_canDeliverT hO _ hA.w0 hIj hSj) ivX3_79 hA.w0.lt (hA.w0.at _ _) rfl rfl ⟨(Nat.le_of_ble_eq_true rfl), (Nat.le_of_ble_eq_true rfl)⟩ (Nat.le_of_ble_eq_true rfl) ⟨Nat.zero_le _, Nat.zero_le _⟩ dX3_run_36 (fun H locs hw => ?_)
      
      refine lv_if_eq (tgt := 55) C.x C.b dX3_run_39 (by decide) (fun c_39 => ?_) (fun c_39 => ?_)
      · have hc : ¬ aCan (Sq j) = true := fun q => by rw [if_pos q] at c_39; exact absurd c_39 (by decide)
        refine lv_iload_n C.x C.b dX3_run_55 rfl (lv_at hl 2 rfl) ?_
        exact z_iret C hw dX3_run_56 (by rw [hr, aRun, if_neg hc]; rfl) (by rw [hr, aRun, if_neg hc]; rfl)
      · have hc : aCan (Sq j) = true := by
          cases h8 : aCan (Sq j) with
          | true => rfl
          | false => rw [h8] at c_39; exact absurd rfl c_39
        refine lv_aload_n C.x C.b dX3_run_42 rfl (lv_at hl 0 rfl) ?_
        refine z_get C hw hA.lt (hA.at _ _) flX3_12 rfl dX3_run_43 ?_
        refine z_V0 (As := []) (rest := []) C hw hl (hdf j hc) ivX3_85 hA.w0.lt (hA.w0.at _ _) rfl rfl ⟨(Nat.le_of_ble_eq_true rfl), (Nat.le_of_ble_eq_true rfl)⟩ (Nat.le_of_ble_eq_true rfl) ⟨Nat.zero_le _, Nat.zero_le _⟩ dX3_run_46 (fun H locs hw => ?_)
        refine lv_iinc (v := nI j + 1) (lv' := [(2, .int (nI j + 1)), (0, .ref (G.h + 0)), (1, .int (nI most))]) C.x C.b dX3_run_49 hl (k := 2) rfl rfl (by decide) rfl (fun ls hl => ?_)
        have hl : lv_has ls 3 [(2, .int (nI (j + 1))), (0, .ref (G.h + 0)), (1, .int (nI most))] := by
          have e9 : nI j + 1 = nI (j + 1) := nI_1 j
          rw [← e9]; exact hl
        refine lv_goto (tgt := 27) C.x C.b dX3_run_52 (by decide) ?_
        exact ih (j + 1) _ _ _ (by omega) (by rw [hr, aRun, if_pos hc, hQ j, if_pos hc]; show j + ((aRun d (aDel (Sq j))).2 + 1) = _; omega) hw (lv_sub hl [1, 2, 0] rfl)
  exact loop most 0 _ _ _ (by omega) (by rw [h0S, Nat.zero_add]) (by rw [h0z]; exact hw) (lv_sub hl [1, 2, 0] rfl)

set_option maxRecDepth 100000 in
set_option maxHeartbeats 4000000 in
theorem x_X3_run {G : zG} {N : Nat} {Λ : zLay} {l : Launch} (hO : zOK G l) (z : zM) (hA : zPo G N Λ) {v : Int32} (hv : ¬ ∃ n, 1 ≤ n ∧ n ≤ 100 ∧ v = nI n) : zMX G N Λ l yX3_run cX3_run 3 (some .int) 6 [.ref (G.h + 0), .int v] z "java/lang/IllegalArgumentException" := by
  refine zMX_of hO (by decide) (Nat.le_of_ble_eq_true rfl) ?_
  intro pP eE sS mM bB tT cC ls C hout hw hl
  have hl : lv_has ls 3 [(0, .ref (G.h + 0)), (1, .int v)] := hl
  refine lv_iload_n C.x C.b dX3_run_0 rfl (lv_at hl 1 rfl) ?_
  refine lv_iconst (v := 1) C.x C.b dX3_run_1 (by decide) ?_
  refine lv_icmp_lt (tgt := 11) C.x C.b dX3_run_2 (by decide) (fun c_2 => ?_) (fun c_2 => ?_)
  · exact z_thr C hw hl th_88 dX3_run_11 dX3_run_14 dX3_run_15 dX3_run_17 dX3_run_20 hout (Nat.le_of_ble_eq_true rfl) (Nat.le_of_ble_eq_true rfl) (Nat.le_of_ble_eq_true rfl) (Nat.le_of_ble_eq_true rfl)
  · refine lv_iload_n C.x C.b dX3_run_5 rfl (lv_at hl 1 rfl) ?_
    refine lv_bipush (v := 100) C.x C.b dX3_run_6 (by decide) ?_
    refine lv_icmp_le (tgt := 21) C.x C.b dX3_run_8 (by decide) (fun c_8 => absurd c_8 (fun q => hv (isR_of (lo := 1) (hi := 100) (by omega) (by omega) c_2 q))) (fun c_8 => ?_)
    exact z_thr C hw hl th_88 dX3_run_11 dX3_run_14 dX3_run_15 dX3_run_17 dX3_run_20 hout (Nat.le_of_ble_eq_true rfl) (Nat.le_of_ble_eq_true rfl) (Nat.le_of_ble_eq_true rfl) (Nat.le_of_ble_eq_true rfl)

set_option maxRecDepth 100000 in
set_option maxHeartbeats 4000000 in
theorem m_X3_resend {G : zG} {N : Nat} {Λ : zLay} {l : Launch} (hO : zOK G l) (z : zM) (hA : zPo G N Λ) {S : aS} (hI : wI z 1 S) (hS : aOK S) {x : Nat} (hx : x < S.n) (hx6 : x < 6) {z1 : zM} (hsv : zMet G N Λ l yX3_save cX3_save 1 none 4 [.ref (G.h + 0)] z none z1) (hI1 : wI z1 1 S) (hq : S.q.1 + (S.m x).pend.1 ≤ 40) : zMet G N Λ l yX3_resend cX3_resend 5 (some .int) 5 [.ref (G.h + 0), .int (nI x)] z (some (.int (nI (S.m x).pend.1))) (zi (rsz z1 x S.q.1 (S.m x).pend.1) (1 + 2 + 8 * x + 6) 3 0) := by
  refine zMet_of hO (by decide) (Nat.le_of_ble_eq_true rfl) ?_
  intro pP eE sS mM bB tT cC ls C hw hl
  have hl : lv_has ls 5 [(0, .ref (G.h + 0)), (1, .int (nI x))] := hl
  have hmx := hI.m hx
  have hox := hS.m hx
  have hn6 := hS.n6
  have hm1 := hI1.m hx
  refine lv_aload_n C.x C.b dX3_resend_0 rfl (lv_at hl 0 rfl) ?_
  refine lv_iload_n C.x C.b dX3_resend_1 rfl (lv_at hl 1 rfl) ?_
  refine z_V0 (As := [.int (nI x)]) (rest := []) C hw hl (m_X3_reqM hO _ hA hI hS hx) ivX3_38 hA.lt (hA.at _ _) rfl rfl ⟨(Nat.le_of_ble_eq_true rfl), (Nat.le_of_ble_eq_true rfl)⟩ (Nat.le_of_ble_eq_true rfl) ⟨Nat.zero_le _, Nat.zero_le _⟩ dX3_resend_2 (fun H locs hw => ?_)
  refine lv_aload_n C.x C.b dX3_resend_5 rfl (lv_at hl 0 rfl) ?_
  refine z_get C hw hA.lt (hA.at _ _) flX3_12 rfl dX3_resend_6 ?_
  refine z_get C hw hA.w0.lt (hA.w0.at _ _) flX3_44 rfl dX3_resend_9 ?_
  refine lv_iload_n C.x C.b dX3_resend_12 rfl (lv_at hl 1 rfl) ?_
  refine z_aaldM (a := G.h + (1 + 2 + 8 * x)) C hw hA.w0.lt1 hA.w0.ma (zvin hx6 (by omega)) (by rw [zcl hx6 (by omega)]) dX3_resend_13 ?_
  refine z_get C hw (hA.w0.m hx6).lt ((hA.w0.m hx6).at _ _) flX3_94 rfl dX3_resend_14 ?_
  refine lv_astore_n (lv' := [(2, .ref (G.h + (1 + 2 + 8 * x + 6))), (0, .ref (G.h + 0)), (1, .int (nI x))]) C.x C.b dX3_resend_17 rfl hl (by decide) rfl (fun ls hl => ?_)
  refine lv_aload_n C.x C.b dX3_resend_18 rfl (lv_at hl 0 rfl) ?_
  refine z_get C hw (hA.w0.m hx6).pend.lt ((hA.w0.m hx6).pend.at _ _) flX3_52 rfl dX3_resend_19 ?_
  refine z_topi (y := nI (S.m x).pend.1) (hmx.2.2.2.2.1) ?_
  refine lv_istore_n (lv' := [(3, .int (nI (S.m x).pend.1)), (2, .ref (G.h + (1 + 2 + 8 * x + 6))), (0, .ref (G.h + 0)), (1, .int (nI x))]) C.x C.b dX3_resend_22 rfl hl (by decide) rfl (fun ls hl => ?_)
  refine lv_aload_n C.x C.b dX3_resend_23 rfl (lv_at hl 2 rfl) ?_
  refine z_get C hw hA.lt (hA.at _ _) flX3_12 rfl dX3_resend_24 ?_
  refine z_get C hw hA.w0.lt (hA.w0.at _ _) flX3_48 rfl dX3_resend_27 ?_
  refine z_get C hw hA.w0.queue.lt (hA.w0.queue.at _ _) flX3_52 rfl dX3_resend_30 ?_
  refine z_topi (y := nI S.q.1) (hI.q.1) ?_
  refine lv_iload_n C.x C.b dX3_resend_33 rfl (lv_at hl 0 rfl) ?_
  refine lv_iadd C.x C.b dX3_resend_34 ?_
  refine z_pc (pc2 := 35) rfl ?_
  refine lv_bipush (v := 40) C.x C.b dX3_resend_35 (by decide) ?_
  refine lv_icmp_le (tgt := 50) C.x C.b dX3_resend_37 (by decide) (fun c_37 => ?_) (fun c_37 => absurd (by rw [nI_add]; exact zle (b := 40) (by omega) hq) c_37)
  refine lv_aload_n C.x C.b dX3_resend_50 rfl (lv_at hl 2 rfl) ?_
  refine z_V0 (As := []) (rest := []) C hw hl (hsv) ivX3_31 hA.lt (hA.at _ _) rfl rfl ⟨(Nat.le_of_ble_eq_true rfl), (Nat.le_of_ble_eq_true rfl)⟩ (Nat.le_of_ble_eq_true rfl) ⟨Nat.zero_le _, Nat.zero_le _⟩ dX3_resend_51 (fun H locs hw => ?_)
  refine lv_iconst (v := 0) C.x C.b dX3_resend_54 (by decide) ?_
  refine lv_istore (lv' := [(4, .int 0), (3, .int (nI (S.m x).pend.1)), (2, .ref (G.h + (1 + 2 + 8 * x + 6))), (0, .ref (G.h + 0)), (1, .int (nI x))]) C.x C.b dX3_resend_55 hl (by decide) rfl (fun ls hl => ?_)
  have loop : ∀ (d : Nat) (i : Nat) (H : Heap) (locs : List Loc) (ls : Array Slot) (hi : i + d = (S.m x).pend.1), zS G N Λ (rsz z1 x S.q.1 i) sS H locs → lv_has ls 5 [(0, .ref (G.h + 0)), (2, .ref (G.h + (1 + 2 + 8 * x + 6))), (3, .int (nI (S.m x).pend.1)), (4, .int (nI i))] → W pP l eE (zR 5) sS mM ([.ref (G.h + 0), .int (nI x)] : List Value).toArray bB tT cC H locs 0 0 (MQ bB (zQc G N Λ (some (.int (nI (S.m x).pend.1))) (zi (rsz z1 x S.q.1 (S.m x).pend.1) (1 + 2 + 8 * x + 6) 3 0)) ([.ref (G.h + 0), .int (nI x)] : List Value).toArray sS 0 0 (zA G)) (F0 mM 57 ls []) := by
    intro d
    induction d with
    | zero =>
      intro i H locs ls hi hw hl
      refine lv_iload C.x C.b dX3_resend_57 (lv_at hl 3 rfl) ?_
      refine lv_iload_n C.x C.b dX3_resend_59 rfl (lv_at hl 2 rfl) ?_
      refine lv_icmp_ge (tgt := 82) C.x C.b dX3_resend_60 (by decide) (fun c_60 => ?_) (fun c_60 => absurd (zle (by omega) (by omega)) c_60)
      refine lv_aload_n C.x C.b dX3_resend_82 rfl (lv_at hl 1 rfl) ?_
      refine lv_iconst (v := 0) C.x C.b dX3_resend_83 (by decide) ?_
      have hin : i = (S.m x).pend.1 := by omega
      refine z_V0 (As := [.int 0]) (rest := []) C hw hl (m_X1_keep0 hO _ (hA.w0.m hx6).pend (k := (S.m x).pend.1) (by rw [rsz_n z1 x S.q.1 i _ (by omega) (by omega)]; exact hm1.2.2.2.2.1) hox.pend.1) ivX3_103 (hA.w0.m hx6).pend.lt ((hA.w0.m hx6).pend.at _ _) rfl rfl ⟨(Nat.le_of_ble_eq_true rfl), (Nat.le_of_ble_eq_true rfl)⟩ (Nat.le_of_ble_eq_true rfl) ⟨Nat.zero_le _, Nat.zero_le _⟩ dX3_resend_84 (fun H locs hw => ?_)
      obtain ⟨z_1, ez_1⟩ : ∃ q_9, q_9 = zi (rsz z1 x S.q.1 i) (1 + 2 + 8 * x + 6) 3 0 := ⟨_, rfl⟩
      have hw : zS G N Λ z_1 sS H locs := by rw [ez_1]; exact hw
      refine lv_iload_n C.x C.b dX3_resend_87 rfl (lv_at hl 2 rfl) ?_
      exact z_iret C hw dX3_resend_88 (rfl) (by rw [ez_1, hin])
    | succ d ih =>
      intro i H locs ls hi hw hl
      refine lv_iload C.x C.b dX3_resend_57 (lv_at hl 3 rfl) ?_
      refine lv_iload_n C.x C.b dX3_resend_59 rfl (lv_at hl 2 rfl) ?_
      refine lv_icmp_ge (tgt := 82) C.x C.b dX3_resend_60 (by decide) (fun c_60 => absurd c_60 (znle (by omega) (by omega))) (fun c_60 => ?_)
      refine lv_aload_n C.x C.b dX3_resend_63 rfl (lv_at hl 0 rfl) ?_
      refine z_get C hw hA.lt (hA.at _ _) flX3_12 rfl dX3_resend_64 ?_
      refine z_get C hw hA.w0.lt (hA.w0.at _ _) flX3_48 rfl dX3_resend_67 ?_
      refine lv_aload_n C.x C.b dX3_resend_70 rfl (lv_at hl 1 rfl) ?_
      refine lv_iload C.x C.b dX3_resend_71 (lv_at hl 3 rfl) ?_
      refine z_V0 (As := [.ref (G.h + (1 + 2 + 8 * x + 6)), .int (nI i)]) (rest := []) C hw hl (m_X1_addCopy hO _ hA.w0.queue (hA.w0.m hx6).pend (by omega) (k := S.q.1 + i) (rsz_q (z := z1) (x := x) hx6 hI1.q.1 i) (by omega) (ko := (S.m x).pend.1) (by rw [rsz_n z1 x S.q.1 i _ (by omega) (by omega)]; exact hm1.2.2.2.2.1) hox.pend.1 (r := i) (by omega)) ivX3_99 hA.w0.queue.lt (hA.w0.queue.at _ _) rfl rfl ⟨(Nat.le_of_ble_eq_true rfl), (Nat.le_of_ble_eq_true rfl)⟩ (Nat.le_of_ble_eq_true rfl) ⟨Nat.zero_le _, Nat.zero_le _⟩ dX3_resend_73 (fun H locs hw => ?_)
      obtain ⟨z_2, ez_2⟩ : ∃ q_9, q_9 = rsz z1 x S.q.1 (i + 1) := ⟨_, rfl⟩
      have hw : zS G N Λ z_2 sS H locs := by rw [ez_2]; exact hw
      refine lv_iinc (v := nI i + 1) (lv' := [(4, .int (nI i + 1)), (0, .ref (G.h + 0)), (2, .ref (G.h + (1 + 2 + 8 * x + 6))), (3, .int (nI (S.m x).pend.1))]) C.x C.b dX3_resend_76 hl (k := 3) rfl rfl (by decide) rfl (fun ls hl => ?_)
      have hl : lv_has ls 5 [(4, .int (nI (i + 1))), (0, .ref (G.h + 0)), (2, .ref (G.h + (1 + 2 + 8 * x + 6))), (3, .int (nI (S.m x).pend.1))] := by
        have e9 : nI i + 1 = nI (i + 1) := nI_1 i
        rw [← e9]; exact hl
      refine lv_goto (tgt := 57) C.x C.b dX3_resend_79 (by decide) ?_
      exact ih (i + 1) _ _ _ (by omega) (by rw [ez_2] at hw; exact hw) (lv_sub hl [1, 2, 3, 0] rfl)
  exact loop ((S.m x).pend.1) 0 _ _ _ (by omega) hw (lv_sub hl [3, 2, 1, 0] rfl)

set_option maxRecDepth 100000 in
set_option maxHeartbeats 4000000 in
theorem x_X3_resend1 {G : zG} {N : Nat} {Λ : zLay} {l : Launch} (hO : zOK G l) (z : zM) (hA : zPo G N Λ) {S : aS} (hI : wI z 1 S) (hS : aOK S) {v : Int32} (hv : ¬ isM v S.n) : zMX G N Λ l yX3_resend cX3_resend 5 (some .int) 7 [.ref (G.h + 0), .int v] z "java/lang/IndexOutOfBoundsException" := by
  refine zMX_of hO (by decide) (Nat.le_of_ble_eq_true rfl) ?_
  intro pP eE sS mM bB tT cC ls C hout hw hl
  have hl : lv_has ls 5 [(0, .ref (G.h + 0)), (1, .int v)] := hl
  refine lv_aload_n C.x C.b dX3_resend_0 rfl (lv_at hl 0 rfl) ?_
  refine lv_iload_n C.x C.b dX3_resend_1 rfl (lv_at hl 1 rfl) ?_
  exact z_VX (As := [.int v]) (rest := []) C hout hw hl (x_X3_reqM hO _ hA hI hS hv) ivX3_38 hA.lt (hA.at _ _) rfl rfl ⟨(Nat.le_of_ble_eq_true rfl), (Nat.le_of_ble_eq_true rfl)⟩ (Nat.le_of_ble_eq_true rfl) ⟨(Nat.le_of_ble_eq_true rfl), (Nat.le_of_ble_eq_true rfl)⟩ dX3_resend_2

set_option maxRecDepth 100000 in
set_option maxHeartbeats 4000000 in
theorem x_X3_resend2 {G : zG} {N : Nat} {Λ : zLay} {l : Launch} (hO : zOK G l) (z : zM) (hA : zPo G N Λ) {S : aS} (hI : wI z 1 S) (hS : aOK S) {x : Nat} (hx : x < S.n) (hx6 : x < 6) (hq : ¬ S.q.1 + (S.m x).pend.1 ≤ 40) : zMX G N Λ l yX3_resend cX3_resend 5 (some .int) 6 [.ref (G.h + 0), .int (nI x)] z "java/lang/IllegalStateException" := by
  refine zMX_of hO (by decide) (Nat.le_of_ble_eq_true rfl) ?_
  intro pP eE sS mM bB tT cC ls C hout hw hl
  have hl : lv_has ls 5 [(0, .ref (G.h + 0)), (1, .int (nI x))] := hl
  have hmx := hI.m hx
  have hox := hS.m hx
  have hn6 := hS.n6
  have hp40 := hox.pend.1
  have hq40 := hS.q.1
  refine lv_aload_n C.x C.b dX3_resend_0 rfl (lv_at hl 0 rfl) ?_
  refine lv_iload_n C.x C.b dX3_resend_1 rfl (lv_at hl 1 rfl) ?_
  refine z_V0 (As := [.int (nI x)]) (rest := []) C hw hl (m_X3_reqM hO _ hA hI hS hx) ivX3_38 hA.lt (hA.at _ _) rfl rfl ⟨(Nat.le_of_ble_eq_true rfl), (Nat.le_of_ble_eq_true rfl)⟩ (Nat.le_of_ble_eq_true rfl) ⟨Nat.zero_le _, Nat.zero_le _⟩ dX3_resend_2 (fun H locs hw => ?_)
  refine lv_aload_n C.x C.b dX3_resend_5 rfl (lv_at hl 0 rfl) ?_
  refine z_get C hw hA.lt (hA.at _ _) flX3_12 rfl dX3_resend_6 ?_
  refine z_get C hw hA.w0.lt (hA.w0.at _ _) flX3_44 rfl dX3_resend_9 ?_
  refine lv_iload_n C.x C.b dX3_resend_12 rfl (lv_at hl 1 rfl) ?_
  refine z_aaldM (a := G.h + (1 + 2 + 8 * x)) C hw hA.w0.lt1 hA.w0.ma (zvin hx6 (by omega)) (by rw [zcl hx6 (by omega)]) dX3_resend_13 ?_
  refine z_get C hw (hA.w0.m hx6).lt ((hA.w0.m hx6).at _ _) flX3_94 rfl dX3_resend_14 ?_
  refine lv_astore_n (lv' := [(2, .ref (G.h + (1 + 2 + 8 * x + 6))), (0, .ref (G.h + 0)), (1, .int (nI x))]) C.x C.b dX3_resend_17 rfl hl (by decide) rfl (fun ls hl => ?_)
  refine lv_aload_n C.x C.b dX3_resend_18 rfl (lv_at hl 0 rfl) ?_
  refine z_get C hw (hA.w0.m hx6).pend.lt ((hA.w0.m hx6).pend.at _ _) flX3_52 rfl dX3_resend_19 ?_
  refine z_topi (y := nI (S.m x).pend.1) (hmx.2.2.2.2.1) ?_
  refine lv_istore_n (lv' := [(3, .int (nI (S.m x).pend.1)), (2, .ref (G.h + (1 + 2 + 8 * x + 6))), (0, .ref (G.h + 0)), (1, .int (nI x))]) C.x C.b dX3_resend_22 rfl hl (by decide) rfl (fun ls hl => ?_)
  refine lv_aload_n C.x C.b dX3_resend_23 rfl (lv_at hl 2 rfl) ?_
  refine z_get C hw hA.lt (hA.at _ _) flX3_12 rfl dX3_resend_24 ?_
  refine z_get C hw hA.w0.lt (hA.w0.at _ _) flX3_48 rfl dX3_resend_27 ?_
  refine z_get C hw hA.w0.queue.lt (hA.w0.queue.at _ _) flX3_52 rfl dX3_resend_30 ?_
  refine z_topi (y := nI S.q.1) (hI.q.1) ?_
  refine lv_iload_n C.x C.b dX3_resend_33 rfl (lv_at hl 0 rfl) ?_
  refine lv_iadd C.x C.b dX3_resend_34 ?_
  refine z_pc (pc2 := 35) rfl ?_
  refine lv_bipush (v := 40) C.x C.b dX3_resend_35 (by decide) ?_
  refine lv_icmp_le (tgt := 50) C.x C.b dX3_resend_37 (by decide) (fun c_37 => absurd c_37 (by rw [nI_add]; exact znle (a := 40) (by omega) (by omega))) (fun c_37 => ?_)
  exact z_thr C hw hl th_97 dX3_resend_40 dX3_resend_43 dX3_resend_44 dX3_resend_46 dX3_resend_49 hout (Nat.le_of_ble_eq_true rfl) (Nat.le_of_ble_eq_true rfl) (Nat.le_of_ble_eq_true rfl) (Nat.le_of_ble_eq_true rfl)

set_option maxRecDepth 100000 in
set_option maxHeartbeats 4000000 in
theorem m_X3_tamper {G : zG} {N : Nat} {Λ : zLay} {l : Launch} (hO : zOK G l) (z : zM) (hA : zPo G N Λ) {S : aS} (hI : wI z 1 S) (hS : aOK S) {x : Nat} (hx : x < S.n) (hx6 : x < 6) {z1 : zM} (hsv : zMet G N Λ l yX3_save cX3_save 1 none 4 [.ref (G.h + 0)] z none z1) (hI1 : wI z1 1 S) {e v : Nat} (he : e < (S.m x).log.1) (hv : v < 1000) : zMet G N Λ l yX3_tamper cX3_tamper 6 (some .int) 5 [.ref (G.h + 0), .int (nI x), .int (nI e), .int (nI v)] z (some (.int (nI ((S.m x).log.2 e 2)))) (rchz (zi z1 (1 + 2 + 8 * x + 2 + 1) (e * 4 + 2) (nI v)) (1 + 2 + 8 * x + 2 + 1) (tmr (S.m x).log.2 e v) e (S.m x).log.1) := by
  refine zMet_of hO (by decide) (Nat.le_of_ble_eq_true rfl) ?_
  intro pP eE sS mM bB tT cC ls C hw hl
  have hl : lv_has ls 6 [(0, .ref (G.h + 0)), (1, .int (nI x)), (2, .int (nI e)), (3, .int (nI v))] := hl
  have hmx := hI.m hx
  have hox := hS.m hx
  have hn6 := hS.n6
  have hm1 := hI1.m hx
  have hlg := hox.log.1
  have hl1 := hm1.2.2.1
  have hR2 : rRow (zi z1 (1 + 2 + 8 * x + 2 + 1) (e * 4 + 2) (nI v)) (1 + 2 + 8 * x + 2) (S.m x).log.1 (tmr (S.m x).log.2 e v) := tmr_row hl1.2.1 e v
  have hok2 : okRow (tmr (S.m x).log.2 e v) (S.m x).log.1 := tmr_ok (hox.log.row hn6) e hv
  refine lv_aload_n C.x C.b dX3_tamper_0 rfl (lv_at hl 0 rfl) ?_
  refine lv_iload_n C.x C.b dX3_tamper_1 rfl (lv_at hl 1 rfl) ?_
  refine lv_iload_n C.x C.b dX3_tamper_2 rfl (lv_at hl 2 rfl) ?_
  refine z_V0 (As := [.int (nI x), .int (nI e)]) (rest := []) C hw hl (m_X3_reqE hO _ hA hI hS hx hx6 he) ivX3_109 hA.lt (hA.at _ _) rfl rfl ⟨(Nat.le_of_ble_eq_true rfl), (Nat.le_of_ble_eq_true rfl)⟩ (Nat.le_of_ble_eq_true rfl) ⟨Nat.zero_le _, Nat.zero_le _⟩ dX3_tamper_3 (fun H locs hw => ?_)
  refine lv_iload_n C.x C.b dX3_tamper_6 rfl (lv_at hl 3 rfl) ?_
  refine z_S0 (As := [.int (nI v)]) (rest := []) C hw hl (m_X3_reqV hO _ hv) ivX3_41 rfl rfl ⟨(Nat.le_of_ble_eq_true rfl), (Nat.le_of_ble_eq_true rfl)⟩ (Nat.le_of_ble_eq_true rfl) ⟨Nat.zero_le _, Nat.zero_le _⟩ dX3_tamper_7 (fun H locs hw => ?_)
  refine lv_aload_n C.x C.b dX3_tamper_10 rfl (lv_at hl 0 rfl) ?_
  refine z_V0 (As := []) (rest := []) C hw hl (hsv) ivX3_31 hA.lt (hA.at _ _) rfl rfl ⟨(Nat.le_of_ble_eq_true rfl), (Nat.le_of_ble_eq_true rfl)⟩ (Nat.le_of_ble_eq_true rfl) ⟨Nat.zero_le _, Nat.zero_le _⟩ dX3_tamper_11 (fun H locs hw => ?_)
  refine lv_aload_n C.x C.b dX3_tamper_14 rfl (lv_at hl 0 rfl) ?_
  refine z_get C hw hA.lt (hA.at _ _) flX3_12 rfl dX3_tamper_15 ?_
  refine z_get C hw hA.w0.lt (hA.w0.at _ _) flX3_44 rfl dX3_tamper_18 ?_
  refine lv_iload_n C.x C.b dX3_tamper_21 rfl (lv_at hl 1 rfl) ?_
  refine z_aaldM (a := G.h + (1 + 2 + 8 * x)) C hw hA.w0.lt1 hA.w0.ma (zvin hx6 (by omega)) (by rw [zcl hx6 (by omega)]) dX3_tamper_22 ?_
  refine lv_astore (lv' := [(4, .ref (G.h + (1 + 2 + 8 * x))), (0, .ref (G.h + 0)), (1, .int (nI x)), (2, .int (nI e)), (3, .int (nI v))]) C.x C.b dX3_tamper_23 hl (by decide) rfl (fun ls hl => ?_)
  refine lv_aload C.x C.b dX3_tamper_25 (lv_at hl 0 rfl) ?_
  refine z_get C hw (hA.w0.m hx6).lt ((hA.w0.m hx6).at _ _) flX3_113 rfl dX3_tamper_27 ?_
  refine lv_iload_n C.x C.b dX3_tamper_30 rfl (lv_at hl 3 rfl) ?_
  refine lv_iconst (v := 2) C.x C.b dX3_tamper_31 (by decide) ?_
  refine z_Vv (As := [.int (nI e), .int 2]) (rest := []) C hw hl (m_X1_get hO _ (hA.w0.m hx6).log hl1.1 hlg (r := e) (c := 2) he (by omega)) ivX3_116 (hA.w0.m hx6).log.lt ((hA.w0.m hx6).log.at _ _) rfl rfl ⟨(Nat.le_of_ble_eq_true rfl), (Nat.le_of_ble_eq_true rfl)⟩ (Nat.le_of_ble_eq_true rfl) ⟨Nat.zero_le _, Nat.zero_le _⟩ dX3_tamper_32 (fun H locs hw => ?_)
  refine z_topi (y := nI ((S.m x).log.2 e 2)) ((hl1.2.1 e he).2.2) ?_
  refine z_pc (pc2 := 35) rfl ?_
  refine lv_istore (lv' := [(5, .int (nI ((S.m x).log.2 e 2))), (4, .ref (G.h + (1 + 2 + 8 * x))), (0, .ref (G.h + 0)), (1, .int (nI x)), (2, .int (nI e)), (3, .int (nI v))]) C.x C.b dX3_tamper_35 hl (by decide) rfl (fun ls hl => ?_)
  refine lv_aload C.x C.b dX3_tamper_37 (lv_at hl 1 rfl) ?_
  refine z_get C hw (hA.w0.m hx6).lt ((hA.w0.m hx6).at _ _) flX3_113 rfl dX3_tamper_39 ?_
  refine lv_iload_n C.x C.b dX3_tamper_42 rfl (lv_at hl 4 rfl) ?_
  refine lv_iconst (v := 2) C.x C.b dX3_tamper_43 (by decide) ?_
  refine lv_iload_n C.x C.b dX3_tamper_44 rfl (lv_at hl 5 rfl) ?_
  refine z_V0 (As := [.int (nI e), .int 2, .int (nI v)]) (rest := []) C hw hl (m_X1_set hO _ (hA.w0.m hx6).log hl1.1 hlg (r := e) (c := 2) he (by omega)) ivX3_120 (hA.w0.m hx6).log.lt ((hA.w0.m hx6).log.at _ _) rfl rfl ⟨(Nat.le_of_ble_eq_true rfl), (Nat.le_of_ble_eq_true rfl)⟩ (Nat.le_of_ble_eq_true rfl) ⟨Nat.zero_le _, Nat.zero_le _⟩ dX3_tamper_45 (fun H locs hw => ?_)
  obtain ⟨z_1, ez_1⟩ : ∃ q_9, q_9 = zi z1 (1 + 2 + 8 * x + 2 + 1) (e * 4 + 2) (nI v) := ⟨_, rfl⟩
  have hw : zS G N Λ z_1 sS H locs := by rw [ez_1]; exact hw
  refine lv_aload C.x C.b dX3_tamper_48 (lv_at hl 1 rfl) ?_
  refine lv_iload_n C.x C.b dX3_tamper_50 rfl (lv_at hl 4 rfl) ?_
  rw [← ez_1] at hR2
  refine z_V0 (As := [.int (nI e)]) (rest := []) C hw hl (m_X0_rechain hO _ (hA.w0.m hx6) (k := (S.m x).log.1) (by rw [ez_1, zi_at, if_neg (by omega)]; exact hl1.1) hlg hR2 hok2 (Nat.le_of_lt he) (fun j hj => by rw [ez_1, zi_at, if_neg (by omega), hl1.2.2 j (by omega), tmr_ch _ _ _ _ (by omega)])) ivX3_124 (hA.w0.m hx6).lt ((hA.w0.m hx6).at _ _) rfl rfl ⟨(Nat.le_of_ble_eq_true rfl), (Nat.le_of_ble_eq_true rfl)⟩ (Nat.le_of_ble_eq_true rfl) ⟨Nat.zero_le _, Nat.zero_le _⟩ dX3_tamper_51 (fun H locs hw => ?_)
  obtain ⟨z_2, ez_2⟩ : ∃ q_9, q_9 = rchz z_1 (1 + 2 + 8 * x + 2 + 1) (tmr (S.m x).log.2 e v) e (S.m x).log.1 := ⟨_, rfl⟩
  have hw : zS G N Λ z_2 sS H locs := by rw [ez_2]; exact hw
  refine lv_iload C.x C.b dX3_tamper_54 (lv_at hl 0 rfl) ?_
  exact z_iret C hw dX3_tamper_56 (rfl) (by rw [ez_2, ez_1])

set_option maxRecDepth 100000 in
set_option maxHeartbeats 4000000 in
theorem x_X3_tamper1 {G : zG} {N : Nat} {Λ : zLay} {l : Launch} (hO : zOK G l) (z : zM) (hA : zPo G N Λ) {S : aS} (hI : wI z 1 S) (hS : aOK S) {v e u : Int32} (hv : ¬ isM v S.n) : zMX G N Λ l yX3_tamper cX3_tamper 6 (some .int) 8 [.ref (G.h + 0), .int v, .int e, .int u] z "java/lang/IndexOutOfBoundsException" := by
  refine zMX_of hO (by decide) (Nat.le_of_ble_eq_true rfl) ?_
  intro pP eE sS mM bB tT cC ls C hout hw hl
  have hl : lv_has ls 6 [(0, .ref (G.h + 0)), (1, .int v), (2, .int e), (3, .int u)] := hl
  refine lv_aload_n C.x C.b dX3_tamper_0 rfl (lv_at hl 0 rfl) ?_
  refine lv_iload_n C.x C.b dX3_tamper_1 rfl (lv_at hl 1 rfl) ?_
  refine lv_iload_n C.x C.b dX3_tamper_2 rfl (lv_at hl 2 rfl) ?_
  exact z_VX (As := [.int v, .int e]) (rest := []) C hout hw hl (x_X3_reqE1 hO _ hA hI hS hv) ivX3_109 hA.lt (hA.at _ _) rfl rfl ⟨(Nat.le_of_ble_eq_true rfl), (Nat.le_of_ble_eq_true rfl)⟩ (Nat.le_of_ble_eq_true rfl) ⟨(Nat.le_of_ble_eq_true rfl), (Nat.le_of_ble_eq_true rfl)⟩ dX3_tamper_3

set_option maxRecDepth 100000 in
set_option maxHeartbeats 4000000 in
theorem x_X3_tamper2 {G : zG} {N : Nat} {Λ : zLay} {l : Launch} (hO : zOK G l) (z : zM) (hA : zPo G N Λ) {S : aS} (hI : wI z 1 S) (hS : aOK S) {x : Nat} (hx : x < S.n) (hx6 : x < 6) {e u : Int32} (he : ¬ isM e (S.m x).log.1) : zMX G N Λ l yX3_tamper cX3_tamper 6 (some .int) 8 [.ref (G.h + 0), .int (nI x), .int e, .int u] z "java/lang/IndexOutOfBoundsException" := by
  refine zMX_of hO (by decide) (Nat.le_of_ble_eq_true rfl) ?_
  intro pP eE sS mM bB tT cC ls C hout hw hl
  have hl : lv_has ls 6 [(0, .ref (G.h + 0)), (1, .int (nI x)), (2, .int e), (3, .int u)] := hl
  refine lv_aload_n C.x C.b dX3_tamper_0 rfl (lv_at hl 0 rfl) ?_
  refine lv_iload_n C.x C.b dX3_tamper_1 rfl (lv_at hl 1 rfl) ?_
  refine lv_iload_n C.x C.b dX3_tamper_2 rfl (lv_at hl 2 rfl) ?_
  exact z_VX (As := [.int (nI x), .int e]) (rest := []) C hout hw hl (x_X3_reqE2 hO _ hA hI hS hx hx6 he) ivX3_109 hA.lt (hA.at _ _) rfl rfl ⟨(Nat.le_of_ble_eq_true rfl), (Nat.le_of_ble_eq_true rfl)⟩ (Nat.le_of_ble_eq_true rfl) ⟨(Nat.le_of_ble_eq_true rfl), (Nat.le_of_ble_eq_true rfl)⟩ dX3_tamper_3

set_option maxRecDepth 100000 in
set_option maxHeartbeats 4000000 in
theorem x_X3_tamper3 {G : zG} {N : Nat} {Λ : zLay} {l : Launch} (hO : zOK G l) (z : zM) (hA : zPo G N Λ) {S : aS} (hI : wI z 1 S) (hS : aOK S) {x : Nat} (hx : x < S.n) (hx6 : x < 6) {e : Nat} {u : Int32} (he : e < (S.m x).log.1) (hu : ¬ isM u 1000) : zMX G N Λ l yX3_tamper cX3_tamper 6 (some .int) 8 [.ref (G.h + 0), .int (nI x), .int (nI e), .int u] z "java/lang/IllegalArgumentException" := by
  refine zMX_of hO (by decide) (Nat.le_of_ble_eq_true rfl) ?_
  intro pP eE sS mM bB tT cC ls C hout hw hl
  have hl : lv_has ls 6 [(0, .ref (G.h + 0)), (1, .int (nI x)), (2, .int (nI e)), (3, .int u)] := hl
  refine lv_aload_n C.x C.b dX3_tamper_0 rfl (lv_at hl 0 rfl) ?_
  refine lv_iload_n C.x C.b dX3_tamper_1 rfl (lv_at hl 1 rfl) ?_
  refine lv_iload_n C.x C.b dX3_tamper_2 rfl (lv_at hl 2 rfl) ?_
  refine z_V0 (As := [.int (nI x), .int (nI e)]) (rest := []) C hw hl (m_X3_reqE hO _ hA hI hS hx hx6 he) ivX3_109 hA.lt (hA.at _ _) rfl rfl ⟨(Nat.le_of_ble_eq_true rfl), (Nat.le_of_ble_eq_true rfl)⟩ (Nat.le_of_ble_eq_true rfl) ⟨Nat.zero_le _, Nat.zero_le _⟩ dX3_tamper_3 (fun H locs hw => ?_)
  refine lv_iload_n C.x C.b dX3_tamper_6 rfl (lv_at hl 3 rfl) ?_
  exact z_SX (As := [.int u]) (rest := []) C hout hw hl (x_X3_reqV hO _ hu) ivX3_41 rfl rfl ⟨(Nat.le_of_ble_eq_true rfl), (Nat.le_of_ble_eq_true rfl)⟩ (Nat.le_of_ble_eq_true rfl) ⟨(Nat.le_of_ble_eq_true rfl), (Nat.le_of_ble_eq_true rfl)⟩ dX3_tamper_7

set_option maxRecDepth 100000 in
set_option maxHeartbeats 4000000 in
theorem m_X3_cut {G : zG} {N : Nat} {Λ : zLay} {l : Launch} (hO : zOK G l) (z : zM) (hA : zPo G N Λ) {S : aS} (hI : wI z 1 S) (hS : aOK S) {x : Nat} (hx : x < S.n) (hx6 : x < 6) {z1 : zM} (hsv : zMet G N Λ l yX3_save cX3_save 1 none 4 [.ref (G.h + 0)] z none z1) (hI1 : wI z1 1 S) {k : Nat} (hk1 : 1 ≤ k) (hk2 : k ≤ (S.m x).log.1) : zMet G N Λ l yX3_cut cX3_cut 4 (some .int) 5 [.ref (G.h + 0), .int (nI x), .int (nI k)] z (some (.int (nI ((S.m x).log.1 - k)))) (zi z1 (1 + 2 + 8 * x + 2) 3 (nI ((S.m x).log.1 - k))) := by
  refine zMet_of hO (by decide) (Nat.le_of_ble_eq_true rfl) ?_
  intro pP eE sS mM bB tT cC ls C hw hl
  have hl : lv_has ls 4 [(0, .ref (G.h + 0)), (1, .int (nI x)), (2, .int (nI k))] := hl
  have hmx := hI.m hx
  have hox := hS.m hx
  have hn6 := hS.n6
  have hm1 := hI1.m hx
  have hlg := hox.log.1
  have hl1 := hm1.2.2.1
  refine lv_aload_n C.x C.b dX3_cut_0 rfl (lv_at hl 0 rfl) ?_
  refine lv_iload_n C.x C.b dX3_cut_1 rfl (lv_at hl 1 rfl) ?_
  refine z_V0 (As := [.int (nI x)]) (rest := []) C hw hl (m_X3_reqM hO _ hA hI hS hx) ivX3_38 hA.lt (hA.at _ _) rfl rfl ⟨(Nat.le_of_ble_eq_true rfl), (Nat.le_of_ble_eq_true rfl)⟩ (Nat.le_of_ble_eq_true rfl) ⟨Nat.zero_le _, Nat.zero_le _⟩ dX3_cut_2 (fun H locs hw => ?_)
  refine lv_aload_n C.x C.b dX3_cut_5 rfl (lv_at hl 0 rfl) ?_
  refine z_get C hw hA.lt (hA.at _ _) flX3_12 rfl dX3_cut_6 ?_
  refine z_get C hw hA.w0.lt (hA.w0.at _ _) flX3_44 rfl dX3_cut_9 ?_
  refine lv_iload_n C.x C.b dX3_cut_12 rfl (lv_at hl 1 rfl) ?_
  refine z_aaldM (a := G.h + (1 + 2 + 8 * x)) C hw hA.w0.lt1 hA.w0.ma (zvin hx6 (by omega)) (by rw [zcl hx6 (by omega)]) dX3_cut_13 ?_
  refine z_get C hw (hA.w0.m hx6).lt ((hA.w0.m hx6).at _ _) flX3_113 rfl dX3_cut_14 ?_
  refine lv_astore_n (lv' := [(3, .ref (G.h + (1 + 2 + 8 * x + 2))), (0, .ref (G.h + 0)), (1, .int (nI x)), (2, .int (nI k))]) C.x C.b dX3_cut_17 rfl hl (by decide) rfl (fun ls hl => ?_)
  refine lv_iload_n C.x C.b dX3_cut_18 rfl (lv_at hl 3 rfl) ?_
  refine lv_iconst (v := 1) C.x C.b dX3_cut_19 (by decide) ?_
  refine lv_icmp_lt (tgt := 31) C.x C.b dX3_cut_20 (by decide) (fun c_20 => absurd c_20 (znlt (b := 1) (by omega) hk1)) (fun c_20 => ?_)
  refine lv_iload_n C.x C.b dX3_cut_23 rfl (lv_at hl 3 rfl) ?_
  refine lv_aload_n C.x C.b dX3_cut_24 rfl (lv_at hl 0 rfl) ?_
  refine z_get C hw (hA.w0.m hx6).log.lt ((hA.w0.m hx6).log.at _ _) flX3_52 rfl dX3_cut_25 ?_
  refine lv_icmp_le (tgt := 41) C.x C.b dX3_cut_28 (by decide) (fun c_28 => ?_) (fun c_28 => absurd (by rw [hmx.2.2.1.1]; exact zle (by omega) hk2) c_28)
  refine lv_aload_n C.x C.b dX3_cut_41 rfl (lv_at hl 1 rfl) ?_
  refine z_V0 (As := []) (rest := []) C hw hl (hsv) ivX3_31 hA.lt (hA.at _ _) rfl rfl ⟨(Nat.le_of_ble_eq_true rfl), (Nat.le_of_ble_eq_true rfl)⟩ (Nat.le_of_ble_eq_true rfl) ⟨Nat.zero_le _, Nat.zero_le _⟩ dX3_cut_42 (fun H locs hw => ?_)
  refine z_pc (pc2 := 45) rfl ?_
  refine lv_aload_n C.x C.b dX3_cut_45 rfl (lv_at hl 0 rfl) ?_
  refine lv_aload_n C.x C.b dX3_cut_46 rfl (lv_at hl 0 rfl) ?_
  refine z_get C hw (hA.w0.m hx6).log.lt ((hA.w0.m hx6).log.at _ _) flX3_52 rfl dX3_cut_47 ?_
  refine z_topi (y := nI (S.m x).log.1) (hl1.1) ?_
  refine lv_iload_n C.x C.b dX3_cut_50 rfl (lv_at hl 3 rfl) ?_
  refine lv_isub C.x C.b dX3_cut_51 ?_
  refine z_topi (y := nI ((S.m x).log.1 - k)) (zsub hk2) ?_
  refine z_V0 (As := [.int (nI ((S.m x).log.1 - k))]) (rest := []) C hw hl (m_X1_keep hO _ (hA.w0.m hx6).log hl1.1 hlg (r := (S.m x).log.1 - k) (by omega)) ivX3_103 (hA.w0.m hx6).log.lt ((hA.w0.m hx6).log.at _ _) rfl rfl ⟨(Nat.le_of_ble_eq_true rfl), (Nat.le_of_ble_eq_true rfl)⟩ (Nat.le_of_ble_eq_true rfl) ⟨Nat.zero_le _, Nat.zero_le _⟩ dX3_cut_52 (fun H locs hw => ?_)
  obtain ⟨z_1, ez_1⟩ : ∃ q_9, q_9 = zi z1 (1 + 2 + 8 * x + 2) 3 (nI ((S.m x).log.1 - k)) := ⟨_, rfl⟩
  have hw : zS G N Λ z_1 sS H locs := by rw [ez_1]; exact hw
  refine lv_aload_n C.x C.b dX3_cut_55 rfl (lv_at hl 0 rfl) ?_
  refine z_get C hw (hA.w0.m hx6).log.lt ((hA.w0.m hx6).log.at _ _) flX3_52 rfl dX3_cut_56 ?_
  refine z_topi (y := nI ((S.m x).log.1 - k)) (by rw [ez_1, zi_at, if_pos ⟨rfl, rfl⟩]) ?_
  exact z_iret C hw dX3_cut_59 (rfl) (ez_1.symm)

set_option maxRecDepth 100000 in
set_option maxHeartbeats 4000000 in
theorem x_X3_cut1 {G : zG} {N : Nat} {Λ : zLay} {l : Launch} (hO : zOK G l) (z : zM) (hA : zPo G N Λ) {S : aS} (hI : wI z 1 S) (hS : aOK S) {v u : Int32} (hv : ¬ isM v S.n) : zMX G N Λ l yX3_cut cX3_cut 4 (some .int) 7 [.ref (G.h + 0), .int v, .int u] z "java/lang/IndexOutOfBoundsException" := by
  refine zMX_of hO (by decide) (Nat.le_of_ble_eq_true rfl) ?_
  intro pP eE sS mM bB tT cC ls C hout hw hl
  have hl : lv_has ls 4 [(0, .ref (G.h + 0)), (1, .int v), (2, .int u)] := hl
  refine lv_aload_n C.x C.b dX3_cut_0 rfl (lv_at hl 0 rfl) ?_
  refine lv_iload_n C.x C.b dX3_cut_1 rfl (lv_at hl 1 rfl) ?_
  exact z_VX (As := [.int v]) (rest := []) C hout hw hl (x_X3_reqM hO _ hA hI hS hv) ivX3_38 hA.lt (hA.at _ _) rfl rfl ⟨(Nat.le_of_ble_eq_true rfl), (Nat.le_of_ble_eq_true rfl)⟩ (Nat.le_of_ble_eq_true rfl) ⟨(Nat.le_of_ble_eq_true rfl), (Nat.le_of_ble_eq_true rfl)⟩ dX3_cut_2

set_option maxRecDepth 100000 in
set_option maxHeartbeats 4000000 in
theorem x_X3_cut2 {G : zG} {N : Nat} {Λ : zLay} {l : Launch} (hO : zOK G l) (z : zM) (hA : zPo G N Λ) {S : aS} (hI : wI z 1 S) (hS : aOK S) {x : Nat} (hx : x < S.n) (hx6 : x < 6) {u : Int32} (hu : ¬ ∃ n, 1 ≤ n ∧ n ≤ (S.m x).log.1 ∧ u = nI n) : zMX G N Λ l yX3_cut cX3_cut 4 (some .int) 6 [.ref (G.h + 0), .int (nI x), .int u] z "java/lang/IllegalArgumentException" := by
  refine zMX_of hO (by decide) (Nat.le_of_ble_eq_true rfl) ?_
  intro pP eE sS mM bB tT cC ls C hout hw hl
  have hl : lv_has ls 4 [(0, .ref (G.h + 0)), (1, .int (nI x)), (2, .int u)] := hl
  have hmx := hI.m hx
  have hox := hS.m hx
  have hn6 := hS.n6
  have hlg := hox.log.1
  refine lv_aload_n C.x C.b dX3_cut_0 rfl (lv_at hl 0 rfl) ?_
  refine lv_iload_n C.x C.b dX3_cut_1 rfl (lv_at hl 1 rfl) ?_
  refine z_V0 (As := [.int (nI x)]) (rest := []) C hw hl (m_X3_reqM hO _ hA hI hS hx) ivX3_38 hA.lt (hA.at _ _) rfl rfl ⟨(Nat.le_of_ble_eq_true rfl), (Nat.le_of_ble_eq_true rfl)⟩ (Nat.le_of_ble_eq_true rfl) ⟨Nat.zero_le _, Nat.zero_le _⟩ dX3_cut_2 (fun H locs hw => ?_)
  refine lv_aload_n C.x C.b dX3_cut_5 rfl (lv_at hl 0 rfl) ?_
  refine z_get C hw hA.lt (hA.at _ _) flX3_12 rfl dX3_cut_6 ?_
  refine z_get C hw hA.w0.lt (hA.w0.at _ _) flX3_44 rfl dX3_cut_9 ?_
  refine lv_iload_n C.x C.b dX3_cut_12 rfl (lv_at hl 1 rfl) ?_
  refine z_aaldM (a := G.h + (1 + 2 + 8 * x)) C hw hA.w0.lt1 hA.w0.ma (zvin hx6 (by omega)) (by rw [zcl hx6 (by omega)]) dX3_cut_13 ?_
  refine z_get C hw (hA.w0.m hx6).lt ((hA.w0.m hx6).at _ _) flX3_113 rfl dX3_cut_14 ?_
  refine lv_astore_n (lv' := [(3, .ref (G.h + (1 + 2 + 8 * x + 2))), (0, .ref (G.h + 0)), (1, .int (nI x)), (2, .int u)]) C.x C.b dX3_cut_17 rfl hl (by decide) rfl (fun ls hl => ?_)
  refine lv_iload_n C.x C.b dX3_cut_18 rfl (lv_at hl 3 rfl) ?_
  refine lv_iconst (v := 1) C.x C.b dX3_cut_19 (by decide) ?_
  refine lv_icmp_lt (tgt := 31) C.x C.b dX3_cut_20 (by decide) (fun c_20 => ?_) (fun c_20 => ?_)
  · exact z_thr C hw hl th_127 dX3_cut_31 dX3_cut_34 dX3_cut_35 dX3_cut_37 dX3_cut_40 hout (Nat.le_of_ble_eq_true rfl) (Nat.le_of_ble_eq_true rfl) (Nat.le_of_ble_eq_true rfl) (Nat.le_of_ble_eq_true rfl)
  · refine lv_iload_n C.x C.b dX3_cut_23 rfl (lv_at hl 3 rfl) ?_
    refine lv_aload_n C.x C.b dX3_cut_24 rfl (lv_at hl 0 rfl) ?_
    refine z_get C hw (hA.w0.m hx6).log.lt ((hA.w0.m hx6).log.at _ _) flX3_52 rfl dX3_cut_25 ?_
    refine lv_icmp_le (tgt := 41) C.x C.b dX3_cut_28 (by decide) (fun c_28 => absurd c_28 (fun q => hu (isR_of (lo := 1) (by omega) (by omega) c_20 (by rw [hmx.2.2.1.1] at q; exact q)))) (fun c_28 => ?_)
    exact z_thr C hw hl th_127 dX3_cut_31 dX3_cut_34 dX3_cut_35 dX3_cut_37 dX3_cut_40 hout (Nat.le_of_ble_eq_true rfl) (Nat.le_of_ble_eq_true rfl) (Nat.le_of_ble_eq_true rfl) (Nat.le_of_ble_eq_true rfl)

set_option maxRecDepth 100000 in
set_option maxHeartbeats 4000000 in
theorem m_X3_setWitnesses {G : zG} {N : Nat} {Λ : zLay} {l : Launch} (hO : zOK G l) (z : zM) (hA : zPo G N Λ) {S : aS} (hI : wI z 1 S) (hS : aOK S) {x : Nat} (hx : x < S.n) (hx6 : x < 6) {z1 : zM} (hsv : zMet G N Λ l yX3_save cX3_save 1 none 4 [.ref (G.h + 0)] z none z1) (hI1 : wI z1 1 S) {w : Int32} (hw0 : w &&& (othI x S.n ^^^ (-1)) = 0) : zMet G N Λ l yX3_setWitnesses cX3_setWitnesses 5 (some .int) 5 [.ref (G.h + 0), .int (nI x), .int w] z (some (.int (nI (S.m x).wit))) (zi z1 (1 + 2 + 8 * x) 4 w) := by
  refine zMet_of hO (by decide) (Nat.le_of_ble_eq_true rfl) ?_
  intro pP eE sS mM bB tT cC ls C hw hl
  have hl : lv_has ls 5 [(0, .ref (G.h + 0)), (1, .int (nI x)), (2, .int w)] := hl
  have hmx := hI.m hx
  have hox := hS.m hx
  have hn6 := hS.n6
  have hm1 := hI1.m hx
  refine lv_aload_n C.x C.b dX3_setWitnesses_0 rfl (lv_at hl 0 rfl) ?_
  refine lv_iload_n C.x C.b dX3_setWitnesses_1 rfl (lv_at hl 1 rfl) ?_
  refine z_V0 (As := [.int (nI x)]) (rest := []) C hw hl (m_X3_reqM hO _ hA hI hS hx) ivX3_38 hA.lt (hA.at _ _) rfl rfl ⟨(Nat.le_of_ble_eq_true rfl), (Nat.le_of_ble_eq_true rfl)⟩ (Nat.le_of_ble_eq_true rfl) ⟨Nat.zero_le _, Nat.zero_le _⟩ dX3_setWitnesses_2 (fun H locs hw => ?_)
  refine lv_iload_n C.x C.b dX3_setWitnesses_5 rfl (lv_at hl 2 rfl) ?_
  refine lv_iload_n C.x C.b dX3_setWitnesses_6 rfl (lv_at hl 1 rfl) ?_
  refine lv_aload_n C.x C.b dX3_setWitnesses_7 rfl (lv_at hl 0 rfl) ?_
  refine z_get C hw hA.lt (hA.at _ _) flX3_12 rfl dX3_setWitnesses_8 ?_
  refine z_get C hw hA.w0.lt (hA.w0.at _ _) flX3_34 rfl dX3_setWitnesses_11 ?_
  refine z_topi (y := nI S.n) (hI.n) ?_
  refine z_Sv (As := [.int (nI x), .int (nI S.n)]) (rest := [.int w]) C hw hl (m_X3_othersOf hO _) ivX3_148 rfl rfl ⟨(Nat.le_of_ble_eq_true rfl), (Nat.le_of_ble_eq_true rfl)⟩ (Nat.le_of_ble_eq_true rfl) ⟨Nat.zero_le _, Nat.zero_le _⟩ dX3_setWitnesses_14 (fun H locs hw => ?_)
  refine lv_iconst (v := -1) C.x C.b dX3_setWitnesses_17 (by decide) ?_
  refine lv_ixor C.x C.b dX3_setWitnesses_18 ?_
  refine lv_iand C.x C.b dX3_setWitnesses_19 ?_
  refine lv_if_eq (tgt := 33) C.x C.b dX3_setWitnesses_20 (by decide) (fun c_20 => ?_) (fun c_20 => absurd (hw0) c_20)
  refine lv_aload_n C.x C.b dX3_setWitnesses_33 rfl (lv_at hl 0 rfl) ?_
  refine z_V0 (As := []) (rest := []) C hw hl (hsv) ivX3_31 hA.lt (hA.at _ _) rfl rfl ⟨(Nat.le_of_ble_eq_true rfl), (Nat.le_of_ble_eq_true rfl)⟩ (Nat.le_of_ble_eq_true rfl) ⟨Nat.zero_le _, Nat.zero_le _⟩ dX3_setWitnesses_34 (fun H locs hw => ?_)
  refine lv_aload_n C.x C.b dX3_setWitnesses_37 rfl (lv_at hl 0 rfl) ?_
  refine z_get C hw hA.lt (hA.at _ _) flX3_12 rfl dX3_setWitnesses_38 ?_
  refine z_get C hw hA.w0.lt (hA.w0.at _ _) flX3_44 rfl dX3_setWitnesses_41 ?_
  refine lv_iload_n C.x C.b dX3_setWitnesses_44 rfl (lv_at hl 1 rfl) ?_
  refine z_pc (pc2 := 45) rfl ?_
  refine z_aaldM (a := G.h + (1 + 2 + 8 * x)) C hw hA.w0.lt1 hA.w0.ma (zvin hx6 (by omega)) (by rw [zcl hx6 (by omega)]) dX3_setWitnesses_45 ?_
  refine lv_astore_n (lv' := [(3, .ref (G.h + (1 + 2 + 8 * x))), (0, .ref (G.h + 0)), (1, .int (nI x)), (2, .int w)]) C.x C.b dX3_setWitnesses_46 rfl hl (by decide) rfl (fun ls hl => ?_)
  refine lv_aload_n C.x C.b dX3_setWitnesses_47 rfl (lv_at hl 0 rfl) ?_
  refine z_get C hw (hA.w0.m hx6).lt ((hA.w0.m hx6).at _ _) flX3_153 rfl dX3_setWitnesses_48 ?_
  refine z_topi (y := nI (S.m x).wit) (hm1.1.2.2.2) ?_
  refine lv_istore (lv' := [(4, .int (nI (S.m x).wit)), (3, .ref (G.h + (1 + 2 + 8 * x))), (0, .ref (G.h + 0)), (1, .int (nI x)), (2, .int w)]) C.x C.b dX3_setWitnesses_51 hl (by decide) rfl (fun ls hl => ?_)
  refine lv_aload_n C.x C.b dX3_setWitnesses_53 rfl (lv_at hl 1 rfl) ?_
  refine lv_iload_n C.x C.b dX3_setWitnesses_54 rfl (lv_at hl 4 rfl) ?_
  refine z_put C hw (hA.w0.m hx6).lt ((hA.w0.m hx6).at _ _) ptX3_153 ((hA.w0.m hx6).at _ _) (rfl) (rfl) (Nat.le_of_ble_eq_true rfl) dX3_setWitnesses_55 (fun H locs hw => ?_)
  obtain ⟨z_1, ez_1⟩ : ∃ q_9, q_9 = zi z1 (1 + 2 + 8 * x) 4 w := ⟨_, rfl⟩
  have hw : zS G N Λ z_1 sS H locs := by rw [ez_1]; exact hw
  refine lv_iload C.x C.b dX3_setWitnesses_58 (lv_at hl 0 rfl) ?_
  exact z_iret C hw dX3_setWitnesses_60 (rfl) (ez_1.symm)

set_option maxRecDepth 100000 in
set_option maxHeartbeats 4000000 in
theorem x_X3_setWitnesses1 {G : zG} {N : Nat} {Λ : zLay} {l : Launch} (hO : zOK G l) (z : zM) (hA : zPo G N Λ) {S : aS} (hI : wI z 1 S) (hS : aOK S) {v u : Int32} (hv : ¬ isM v S.n) : zMX G N Λ l yX3_setWitnesses cX3_setWitnesses 5 (some .int) 7 [.ref (G.h + 0), .int v, .int u] z "java/lang/IndexOutOfBoundsException" := by
  refine zMX_of hO (by decide) (Nat.le_of_ble_eq_true rfl) ?_
  intro pP eE sS mM bB tT cC ls C hout hw hl
  have hl : lv_has ls 5 [(0, .ref (G.h + 0)), (1, .int v), (2, .int u)] := hl
  refine lv_aload_n C.x C.b dX3_setWitnesses_0 rfl (lv_at hl 0 rfl) ?_
  refine lv_iload_n C.x C.b dX3_setWitnesses_1 rfl (lv_at hl 1 rfl) ?_
  exact z_VX (As := [.int v]) (rest := []) C hout hw hl (x_X3_reqM hO _ hA hI hS hv) ivX3_38 hA.lt (hA.at _ _) rfl rfl ⟨(Nat.le_of_ble_eq_true rfl), (Nat.le_of_ble_eq_true rfl)⟩ (Nat.le_of_ble_eq_true rfl) ⟨(Nat.le_of_ble_eq_true rfl), (Nat.le_of_ble_eq_true rfl)⟩ dX3_setWitnesses_2

set_option maxRecDepth 100000 in
set_option maxHeartbeats 4000000 in
theorem x_X3_setWitnesses2 {G : zG} {N : Nat} {Λ : zLay} {l : Launch} (hO : zOK G l) (z : zM) (hA : zPo G N Λ) {S : aS} (hI : wI z 1 S) (hS : aOK S) {x : Nat} (hx : x < S.n) (hx6 : x < 6) {w : Int32} (hw0 : ¬ w &&& (othI x S.n ^^^ (-1)) = 0) : zMX G N Λ l yX3_setWitnesses cX3_setWitnesses 5 (some .int) 6 [.ref (G.h + 0), .int (nI x), .int w] z "java/lang/IllegalArgumentException" := by
  refine zMX_of hO (by decide) (Nat.le_of_ble_eq_true rfl) ?_
  intro pP eE sS mM bB tT cC ls C hout hw hl
  have hl : lv_has ls 5 [(0, .ref (G.h + 0)), (1, .int (nI x)), (2, .int w)] := hl
  have hmx := hI.m hx
  have hox := hS.m hx
  have hn6 := hS.n6
  refine lv_aload_n C.x C.b dX3_setWitnesses_0 rfl (lv_at hl 0 rfl) ?_
  refine lv_iload_n C.x C.b dX3_setWitnesses_1 rfl (lv_at hl 1 rfl) ?_
  refine z_V0 (As := [.int (nI x)]) (rest := []) C hw hl (m_X3_reqM hO _ hA hI hS hx) ivX3_38 hA.lt (hA.at _ _) rfl rfl ⟨(Nat.le_of_ble_eq_true rfl), (Nat.le_of_ble_eq_true rfl)⟩ (Nat.le_of_ble_eq_true rfl) ⟨Nat.zero_le _, Nat.zero_le _⟩ dX3_setWitnesses_2 (fun H locs hw => ?_)
  refine lv_iload_n C.x C.b dX3_setWitnesses_5 rfl (lv_at hl 2 rfl) ?_
  refine lv_iload_n C.x C.b dX3_setWitnesses_6 rfl (lv_at hl 1 rfl) ?_
  refine lv_aload_n C.x C.b dX3_setWitnesses_7 rfl (lv_at hl 0 rfl) ?_
  refine z_get C hw hA.lt (hA.at _ _) flX3_12 rfl dX3_setWitnesses_8 ?_
  refine z_get C hw hA.w0.lt (hA.w0.at _ _) flX3_34 rfl dX3_setWitnesses_11 ?_
  refine z_topi (y := nI S.n) (hI.n) ?_
  refine z_Sv (As := [.int (nI x), .int (nI S.n)]) (rest := [.int w]) C hw hl (m_X3_othersOf hO _) ivX3_148 rfl rfl ⟨(Nat.le_of_ble_eq_true rfl), (Nat.le_of_ble_eq_true rfl)⟩ (Nat.le_of_ble_eq_true rfl) ⟨Nat.zero_le _, Nat.zero_le _⟩ dX3_setWitnesses_14 (fun H locs hw => ?_)
  refine lv_iconst (v := -1) C.x C.b dX3_setWitnesses_17 (by decide) ?_
  refine lv_ixor C.x C.b dX3_setWitnesses_18 ?_
  refine lv_iand C.x C.b dX3_setWitnesses_19 ?_
  refine lv_if_eq (tgt := 33) C.x C.b dX3_setWitnesses_20 (by decide) (fun c_20 => absurd c_20 (hw0)) (fun c_20 => ?_)
  exact z_thr C hw hl th_151 dX3_setWitnesses_23 dX3_setWitnesses_26 dX3_setWitnesses_27 dX3_setWitnesses_29 dX3_setWitnesses_32 hout (Nat.le_of_ble_eq_true rfl) (Nat.le_of_ble_eq_true rfl) (Nat.le_of_ble_eq_true rfl) (Nat.le_of_ble_eq_true rfl)

set_option maxRecDepth 100000 in
set_option maxHeartbeats 4000000 in
theorem m_X3_audit {G : zG} {N : Nat} {Λ : zLay} {l : Launch} (hO : zOK G l) (z : zM) (hA : zPo G N Λ) {S : aS} (hI : wI z 1 S) (hS : aOK S) {x : Nat} (hx : x < S.n) (hx6 : x < 6) {z1 : zM} (hsv : zMet G N Λ l yX3_save cX3_save 1 none 4 [.ref (G.h + 0)] z none z1) (hI1 : wI z1 1 S) {w : Nat} (hwn : w < S.n) (hw6 : w < 6) (hb : (S.m x).wit.testBit w = true) : zMet G N Λ l yX3_audit cX3_audit 4 (some .int) 5 [.ref (G.h + 0), .int (nI w), .int (nI x)] z (some (.int (nI (jdg S w x).1))) (jz1 z1 1 S w x) := by
  refine zMet_of hO (by decide) (Nat.le_of_ble_eq_true rfl) ?_
  intro pP eE sS mM bB tT cC ls C hw hl
  have hl : lv_has ls 4 [(0, .ref (G.h + 0)), (1, .int (nI w)), (2, .int (nI x))] := hl
  have hmx := hI.m hx
  have hox := hS.m hx
  have hn6 := hS.n6
  have hm1 := hI1.m hx
  have hne : w ≠ x := fun q => by
    subst q
    rw [hox.nw] at hb
    cases hb
  refine lv_aload_n C.x C.b dX3_audit_0 rfl (lv_at hl 0 rfl) ?_
  refine lv_iload_n C.x C.b dX3_audit_1 rfl (lv_at hl 1 rfl) ?_
  refine z_V0 (As := [.int (nI w)]) (rest := []) C hw hl (m_X3_reqM hO _ hA hI hS hwn) ivX3_38 hA.lt (hA.at _ _) rfl rfl ⟨(Nat.le_of_ble_eq_true rfl), (Nat.le_of_ble_eq_true rfl)⟩ (Nat.le_of_ble_eq_true rfl) ⟨Nat.zero_le _, Nat.zero_le _⟩ dX3_audit_2 (fun H locs hw => ?_)
  refine lv_aload_n C.x C.b dX3_audit_5 rfl (lv_at hl 0 rfl) ?_
  refine lv_iload_n C.x C.b dX3_audit_6 rfl (lv_at hl 2 rfl) ?_
  refine z_V0 (As := [.int (nI x)]) (rest := []) C hw hl (m_X3_reqM hO _ hA hI hS hx) ivX3_38 hA.lt (hA.at _ _) rfl rfl ⟨(Nat.le_of_ble_eq_true rfl), (Nat.le_of_ble_eq_true rfl)⟩ (Nat.le_of_ble_eq_true rfl) ⟨Nat.zero_le _, Nat.zero_le _⟩ dX3_audit_7 (fun H locs hw => ?_)
  refine lv_aload_n C.x C.b dX3_audit_10 rfl (lv_at hl 0 rfl) ?_
  refine z_get C hw hA.lt (hA.at _ _) flX3_12 rfl dX3_audit_11 ?_
  refine z_get C hw hA.w0.lt (hA.w0.at _ _) flX3_44 rfl dX3_audit_14 ?_
  refine lv_iload_n C.x C.b dX3_audit_17 rfl (lv_at hl 2 rfl) ?_
  refine z_aaldM (a := G.h + (1 + 2 + 8 * x)) C hw hA.w0.lt1 hA.w0.ma (zvin hx6 (by omega)) (by rw [zcl hx6 (by omega)]) dX3_audit_18 ?_
  refine lv_astore_n (lv' := [(3, .ref (G.h + (1 + 2 + 8 * x))), (0, .ref (G.h + 0)), (1, .int (nI w)), (2, .int (nI x))]) C.x C.b dX3_audit_19 rfl hl (by decide) rfl (fun ls hl => ?_)
  refine lv_aload_n C.x C.b dX3_audit_20 rfl (lv_at hl 0 rfl) ?_
  refine lv_iload_n C.x C.b dX3_audit_21 rfl (lv_at hl 2 rfl) ?_
  refine z_Vv (As := [.int (nI w)]) (rest := []) C hw hl (m_X0_hasWitness hO _ (hA.w0.m hx6) hmx.1.2.2.2 hw6) ivX3_156 (hA.w0.m hx6).lt ((hA.w0.m hx6).at _ _) rfl rfl ⟨(Nat.le_of_ble_eq_true rfl), (Nat.le_of_ble_eq_true rfl)⟩ (Nat.le_of_ble_eq_true rfl) ⟨Nat.zero_le _, Nat.zero_le _⟩ dX3_audit_22 (fun H locs hw => ?_)
  refine lv_if_ne (tgt := 38) C.x C.b dX3_audit_25 (by decide) (fun c_25 => ?_) (fun c_25 => absurd c_25 (by rw [if_pos hb]; decide))
  refine lv_aload_n C.x C.b dX3_audit_38 rfl (lv_at hl 1 rfl) ?_
  refine z_V0 (As := []) (rest := []) C hw hl (hsv) ivX3_31 hA.lt (hA.at _ _) rfl rfl ⟨(Nat.le_of_ble_eq_true rfl), (Nat.le_of_ble_eq_true rfl)⟩ (Nat.le_of_ble_eq_true rfl) ⟨Nat.zero_le _, Nat.zero_le _⟩ dX3_audit_39 (fun H locs hw => ?_)
  refine lv_aload_n C.x C.b dX3_audit_42 rfl (lv_at hl 0 rfl) ?_
  refine z_pc (pc2 := 43) rfl ?_
  refine z_get C hw (hA.w0.m hx6).lt ((hA.w0.m hx6).at _ _) flX3_161 rfl dX3_audit_43 ?_
  refine lv_iload_n C.x C.b dX3_audit_46 rfl (lv_at hl 2 rfl) ?_
  refine lv_aload_n C.x C.b dX3_audit_47 rfl (lv_at hl 1 rfl) ?_
  refine z_get C hw hA.lt (hA.at _ _) flX3_12 rfl dX3_audit_48 ?_
  refine lv_iload_n C.x C.b dX3_audit_51 rfl (lv_at hl 2 rfl) ?_
  refine lv_aload_n C.x C.b dX3_audit_52 rfl (lv_at hl 0 rfl) ?_
  refine z_Vv (As := [.int (nI w), .ref (G.h + (1 + 2 + 8 * x))]) (rest := [.int (nI w), .ref (G.h + (1 + 2 + 8 * x + 1))]) C hw hl (m_X2_judge hO _ hA.w0 hI1 hS hx hx6 hw6 (fun q => exps_lt hS hx hwn hne q)) ivX3_165 hA.w0.lt (hA.w0.at _ _) rfl rfl ⟨(Nat.le_of_ble_eq_true rfl), (Nat.le_of_ble_eq_true rfl)⟩ (Nat.le_of_ble_eq_true rfl) ⟨Nat.zero_le _, Nat.zero_le _⟩ dX3_audit_53 (fun H locs hw => ?_)
  obtain ⟨z_1, ez_1⟩ : ∃ q_9, q_9 = jzo z1 (1 + 52) S.ev.1 w x (jdg S w x).2 := ⟨_, rfl⟩
  have hw : zS G N Λ z_1 sS H locs := by rw [ez_1]; exact hw
  refine z_iast C hw ((hA.w0.m hx6).lt1) ((hA.w0.m hx6).ver) (zvin hw6 (by omega)) dX3_audit_56 (fun H locs hw => ?_)
  obtain ⟨z_2, ez_2⟩ : ∃ q_9, q_9 = zi z_1 (1 + 2 + 8 * x + 1) (nI w).toNatClampNeg (nI (jdg S w x).1) := ⟨_, rfl⟩
  have hw : zS G N Λ z_2 sS H locs := by rw [ez_2]; exact hw
  have ej : z_2 = jz1 z1 1 S w x := by rw [ez_2, ez_1, zcl hw6 (by omega)]; rfl
  refine lv_aload_n C.x C.b dX3_audit_57 rfl (lv_at hl 0 rfl) ?_
  refine z_get C hw (hA.w0.m hx6).lt ((hA.w0.m hx6).at _ _) flX3_161 rfl dX3_audit_58 ?_
  refine lv_iload_n C.x C.b dX3_audit_61 rfl (lv_at hl 2 rfl) ?_
  refine z_iald C hw ((hA.w0.m hx6).lt1) ((hA.w0.m hx6).ver) (zvin hw6 (by omega)) dX3_audit_62 ?_
  refine z_topi (y := nI (jdg S w x).1) (by rw [ej, zcl hw6 (by omega), jz1, zi_at, if_pos ⟨rfl, rfl⟩]) ?_
  exact z_iret C hw dX3_audit_63 (rfl) (ej.symm)

set_option maxRecDepth 100000 in
set_option maxHeartbeats 4000000 in
theorem x_X3_audit1 {G : zG} {N : Nat} {Λ : zLay} {l : Launch} (hO : zOK G l) (z : zM) (hA : zPo G N Λ) {S : aS} (hI : wI z 1 S) (hS : aOK S) {v x : Int32} (hv : ¬ isM v S.n) : zMX G N Λ l yX3_audit cX3_audit 4 (some .int) 7 [.ref (G.h + 0), .int v, .int x] z "java/lang/IndexOutOfBoundsException" := by
  refine zMX_of hO (by decide) (Nat.le_of_ble_eq_true rfl) ?_
  intro pP eE sS mM bB tT cC ls C hout hw hl
  have hl : lv_has ls 4 [(0, .ref (G.h + 0)), (1, .int v), (2, .int x)] := hl
  refine lv_aload_n C.x C.b dX3_audit_0 rfl (lv_at hl 0 rfl) ?_
  refine lv_iload_n C.x C.b dX3_audit_1 rfl (lv_at hl 1 rfl) ?_
  exact z_VX (As := [.int v]) (rest := []) C hout hw hl (x_X3_reqM hO _ hA hI hS hv) ivX3_38 hA.lt (hA.at _ _) rfl rfl ⟨(Nat.le_of_ble_eq_true rfl), (Nat.le_of_ble_eq_true rfl)⟩ (Nat.le_of_ble_eq_true rfl) ⟨(Nat.le_of_ble_eq_true rfl), (Nat.le_of_ble_eq_true rfl)⟩ dX3_audit_2

set_option maxRecDepth 100000 in
set_option maxHeartbeats 4000000 in
theorem x_X3_audit2 {G : zG} {N : Nat} {Λ : zLay} {l : Launch} (hO : zOK G l) (z : zM) (hA : zPo G N Λ) {S : aS} (hI : wI z 1 S) (hS : aOK S) {w : Nat} (hwn : w < S.n) {v : Int32} (hv : ¬ isM v S.n) : zMX G N Λ l yX3_audit cX3_audit 4 (some .int) 7 [.ref (G.h + 0), .int (nI w), .int v] z "java/lang/IndexOutOfBoundsException" := by
  refine zMX_of hO (by decide) (Nat.le_of_ble_eq_true rfl) ?_
  intro pP eE sS mM bB tT cC ls C hout hw hl
  have hl : lv_has ls 4 [(0, .ref (G.h + 0)), (1, .int (nI w)), (2, .int v)] := hl
  refine lv_aload_n C.x C.b dX3_audit_0 rfl (lv_at hl 0 rfl) ?_
  refine lv_iload_n C.x C.b dX3_audit_1 rfl (lv_at hl 1 rfl) ?_
  refine z_V0 (As := [.int (nI w)]) (rest := []) C hw hl (m_X3_reqM hO _ hA hI hS hwn) ivX3_38 hA.lt (hA.at _ _) rfl rfl ⟨(Nat.le_of_ble_eq_true rfl), (Nat.le_of_ble_eq_true rfl)⟩ (Nat.le_of_ble_eq_true rfl) ⟨Nat.zero_le _, Nat.zero_le _⟩ dX3_audit_2 (fun H locs hw => ?_)
  refine lv_aload_n C.x C.b dX3_audit_5 rfl (lv_at hl 0 rfl) ?_
  refine lv_iload_n C.x C.b dX3_audit_6 rfl (lv_at hl 2 rfl) ?_
  exact z_VX (As := [.int v]) (rest := []) C hout hw hl (x_X3_reqM hO _ hA hI hS hv) ivX3_38 hA.lt (hA.at _ _) rfl rfl ⟨(Nat.le_of_ble_eq_true rfl), (Nat.le_of_ble_eq_true rfl)⟩ (Nat.le_of_ble_eq_true rfl) ⟨(Nat.le_of_ble_eq_true rfl), (Nat.le_of_ble_eq_true rfl)⟩ dX3_audit_7

set_option maxRecDepth 100000 in
set_option maxHeartbeats 4000000 in
theorem x_X3_audit3 {G : zG} {N : Nat} {Λ : zLay} {l : Launch} (hO : zOK G l) (z : zM) (hA : zPo G N Λ) {S : aS} (hI : wI z 1 S) (hS : aOK S) {x : Nat} (hx : x < S.n) (hx6 : x < 6) {w : Nat} (hwn : w < S.n) (hw6 : w < 6) (hb : ¬ (S.m x).wit.testBit w = true) : zMX G N Λ l yX3_audit cX3_audit 4 (some .int) 6 [.ref (G.h + 0), .int (nI w), .int (nI x)] z "java/lang/IllegalStateException" := by
  refine zMX_of hO (by decide) (Nat.le_of_ble_eq_true rfl) ?_
  intro pP eE sS mM bB tT cC ls C hout hw hl
  have hl : lv_has ls 4 [(0, .ref (G.h + 0)), (1, .int (nI w)), (2, .int (nI x))] := hl
  have hmx := hI.m hx
  have hox := hS.m hx
  have hn6 := hS.n6
  refine lv_aload_n C.x C.b dX3_audit_0 rfl (lv_at hl 0 rfl) ?_
  refine lv_iload_n C.x C.b dX3_audit_1 rfl (lv_at hl 1 rfl) ?_
  refine z_V0 (As := [.int (nI w)]) (rest := []) C hw hl (m_X3_reqM hO _ hA hI hS hwn) ivX3_38 hA.lt (hA.at _ _) rfl rfl ⟨(Nat.le_of_ble_eq_true rfl), (Nat.le_of_ble_eq_true rfl)⟩ (Nat.le_of_ble_eq_true rfl) ⟨Nat.zero_le _, Nat.zero_le _⟩ dX3_audit_2 (fun H locs hw => ?_)
  refine lv_aload_n C.x C.b dX3_audit_5 rfl (lv_at hl 0 rfl) ?_
  refine lv_iload_n C.x C.b dX3_audit_6 rfl (lv_at hl 2 rfl) ?_
  refine z_V0 (As := [.int (nI x)]) (rest := []) C hw hl (m_X3_reqM hO _ hA hI hS hx) ivX3_38 hA.lt (hA.at _ _) rfl rfl ⟨(Nat.le_of_ble_eq_true rfl), (Nat.le_of_ble_eq_true rfl)⟩ (Nat.le_of_ble_eq_true rfl) ⟨Nat.zero_le _, Nat.zero_le _⟩ dX3_audit_7 (fun H locs hw => ?_)
  refine lv_aload_n C.x C.b dX3_audit_10 rfl (lv_at hl 0 rfl) ?_
  refine z_get C hw hA.lt (hA.at _ _) flX3_12 rfl dX3_audit_11 ?_
  refine z_get C hw hA.w0.lt (hA.w0.at _ _) flX3_44 rfl dX3_audit_14 ?_
  refine lv_iload_n C.x C.b dX3_audit_17 rfl (lv_at hl 2 rfl) ?_
  refine z_aaldM (a := G.h + (1 + 2 + 8 * x)) C hw hA.w0.lt1 hA.w0.ma (zvin hx6 (by omega)) (by rw [zcl hx6 (by omega)]) dX3_audit_18 ?_
  refine lv_astore_n (lv' := [(3, .ref (G.h + (1 + 2 + 8 * x))), (0, .ref (G.h + 0)), (1, .int (nI w)), (2, .int (nI x))]) C.x C.b dX3_audit_19 rfl hl (by decide) rfl (fun ls hl => ?_)
  refine lv_aload_n C.x C.b dX3_audit_20 rfl (lv_at hl 0 rfl) ?_
  refine lv_iload_n C.x C.b dX3_audit_21 rfl (lv_at hl 2 rfl) ?_
  refine z_Vv (As := [.int (nI w)]) (rest := []) C hw hl (m_X0_hasWitness hO _ (hA.w0.m hx6) hmx.1.2.2.2 hw6) ivX3_156 (hA.w0.m hx6).lt ((hA.w0.m hx6).at _ _) rfl rfl ⟨(Nat.le_of_ble_eq_true rfl), (Nat.le_of_ble_eq_true rfl)⟩ (Nat.le_of_ble_eq_true rfl) ⟨Nat.zero_le _, Nat.zero_le _⟩ dX3_audit_22 (fun H locs hw => ?_)
  refine lv_if_ne (tgt := 38) C.x C.b dX3_audit_25 (by decide) (fun c_25 => absurd c_25 (by rw [if_neg hb]; decide)) (fun c_25 => ?_)
  exact z_thr C hw hl th_159 dX3_audit_28 dX3_audit_31 dX3_audit_32 dX3_audit_34 dX3_audit_37 hout (Nat.le_of_ble_eq_true rfl) (Nat.le_of_ble_eq_true rfl) (Nat.le_of_ble_eq_true rfl) (Nat.le_of_ble_eq_true rfl)

set_option maxRecDepth 100000 in
set_option maxHeartbeats 4000000 in
theorem m_X3_auditAll {G : zG} {N : Nat} {Λ : zLay} {l : Launch} (hO : zOK G l) (z : zM) (hA : zPo G N Λ) {S : aS} (hI : wI z 1 S) (hS : aOK S) {z1 : zM} (hsv : zMet G N Λ l yX3_save cX3_save 1 none 4 [.ref (G.h + 0)] z none z1) (hI1 : wI z1 1 S) : zMet G N Λ l yX3_auditAll cX3_auditAll 3 (some .int) 6 [.ref (G.h + 0)] z (some (.int (nI (aAll S.n 0 S).2))) (aaz S.n 0 z1 S) := by
  refine zMet_of hO (by decide) (Nat.le_of_ble_eq_true rfl) ?_
  intro pP eE sS mM bB tT cC ls C hw hl
  have hl : lv_has ls 3 [(0, .ref (G.h + 0))] := hl
  refine lv_aload_n C.x C.b dX3_auditAll_0 rfl (lv_at hl 0 rfl) ?_
  refine z_V0 (As := []) (rest := []) C hw hl (hsv) ivX3_31 hA.lt (hA.at _ _) rfl rfl ⟨(Nat.le_of_ble_eq_true rfl), (Nat.le_of_ble_eq_true rfl)⟩ (Nat.le_of_ble_eq_true rfl) ⟨Nat.zero_le _, Nat.zero_le _⟩ dX3_auditAll_1 (fun H locs hw => ?_)
  refine lv_iconst (v := 0) C.x C.b dX3_auditAll_4 (by decide) ?_
  refine lv_istore_n (lv' := [(1, .int 0), (0, .ref (G.h + 0))]) C.x C.b dX3_auditAll_5 rfl hl (by decide) rfl (fun ls hl => ?_)
  refine lv_iconst (v := 0) C.x C.b dX3_auditAll_6 (by decide) ?_
  refine lv_istore_n (lv' := [(2, .int 0), (1, .int 0), (0, .ref (G.h + 0))]) C.x C.b dX3_auditAll_7 rfl hl (by decide) rfl (fun ls hl => ?_)
  have loop : ∀ (d : Nat) (x ch : Nat) (zc : zM) (Sc : aS) (H : Heap) (locs : List Loc) (ls : Array Slot) (hxn : x + d = S.n) (hn : Sc.n = S.n) (hch : ch ≤ 6 * x) (hIc : wI zc 1 Sc) (hSc : aOK Sc) (hz : aaz S.n 0 z1 S = aaz d x zc Sc) (hr : (aAll S.n 0 S).2 = ch + (aAll d x Sc).2), zS G N Λ zc sS H locs → lv_has ls 3 [(0, .ref (G.h + 0)), (1, .int (nI ch)), (2, .int (nI x))] → W pP l eE (zR 6) sS mM ([.ref (G.h + 0)] : List Value).toArray bB tT cC H locs 0 0 (MQ bB (zQc G N Λ (some (.int (nI (aAll S.n 0 S).2))) (aaz S.n 0 z1 S)) ([.ref (G.h + 0)] : List Value).toArray sS 0 0 (zA G)) (F0 mM 8 ls []) := by
    intro d
    induction d with
    | zero =>
      intro x ch zc Sc H locs ls hxn hn hch hIc hSc hz hr hw hl
      refine lv_iload_n C.x C.b dX3_auditAll_8 rfl (lv_at hl 2 rfl) ?_
      refine lv_aload_n C.x C.b dX3_auditAll_9 rfl (lv_at hl 0 rfl) ?_
      refine z_get C hw hA.lt (hA.at _ _) flX3_12 rfl dX3_auditAll_10 ?_
      refine z_get C hw hA.w0.lt (hA.w0.at _ _) flX3_34 rfl dX3_auditAll_13 ?_
      refine lv_icmp_ge (tgt := 44) C.x C.b dX3_auditAll_16 (by decide) (fun c_16 => ?_) (fun c_16 => absurd (by rw [hIc.n, hn]; exact zle (by have := hS.n6; omega) (by omega)) c_16)
      refine lv_iload_n C.x C.b dX3_auditAll_44 rfl (lv_at hl 1 rfl) ?_
      exact z_iret C hw dX3_auditAll_45 (by rw [hr]; rfl) (by rw [hz]; rfl)
    | succ d ih =>
      intro x ch zc Sc H locs ls hxn hn hch hIc hSc hz hr hw hl
      refine lv_iload_n C.x C.b dX3_auditAll_8 rfl (lv_at hl 2 rfl) ?_
      refine lv_aload_n C.x C.b dX3_auditAll_9 rfl (lv_at hl 0 rfl) ?_
      refine z_get C hw hA.lt (hA.at _ _) flX3_12 rfl dX3_auditAll_10 ?_
      refine z_get C hw hA.w0.lt (hA.w0.at _ _) flX3_34 rfl dX3_auditAll_13 ?_
      refine lv_icmp_ge (tgt := 44) C.x C.b dX3_auditAll_16 (by decide) (fun c_16 => absurd c_16 (by rw [hIc.n, hn]; exact znle (by have := hS.n6; omega) (by omega))) (fun c_16 => ?_)
      have hn6 := hSc.n6
      have hxc : x < Sc.n := by omega
      have hx6 : x < 6 := by omega
      have hj := jba_wI (b := 1) (x := x) Sc.n 0 zc Sc (by omega) hxc hIc hSc
      refine lv_iload_n C.x C.b dX3_auditAll_19 rfl (lv_at hl 1 rfl) ?_
      refine lv_aload_n C.x C.b dX3_auditAll_20 rfl (lv_at hl 0 rfl) ?_
      refine z_get C hw hA.lt (hA.at _ _) flX3_12 rfl dX3_auditAll_21 ?_
      refine lv_aload_n C.x C.b dX3_auditAll_24 rfl (lv_at hl 0 rfl) ?_
      refine z_get C hw hA.lt (hA.at _ _) flX3_12 rfl dX3_auditAll_25 ?_
      refine z_get C hw hA.w0.lt (hA.w0.at _ _) flX3_44 rfl dX3_auditAll_28 ?_
      refine lv_iload_n C.x C.b dX3_auditAll_31 rfl (lv_at hl 2 rfl) ?_
      refine z_aaldM (a := G.h + (1 + 2 + 8 * x)) C hw hA.w0.lt1 hA.w0.ma (zvin hx6 (by omega)) (by rw [zcl hx6 (by omega)]) dX3_auditAll_32 ?_
      refine z_Vv (As := [.ref (G.h + (1 + 2 + 8 * x))]) (rest := [.int (nI ch)]) C hw hl (m_X2_judgeByAll hO _ hA.w0 hIc hSc hxc hx6) ivX3_169 hA.w0.lt (hA.w0.at _ _) rfl rfl ⟨(Nat.le_of_ble_eq_true rfl), (Nat.le_of_ble_eq_true rfl)⟩ (Nat.le_of_ble_eq_true rfl) ⟨Nat.zero_le _, Nat.zero_le _⟩ dX3_auditAll_33 (fun H locs hw => ?_)
      obtain ⟨z_1, ez_1⟩ : ∃ q_9, q_9 = jbz 1 x Sc.n 0 zc Sc := ⟨_, rfl⟩
      have hw : zS G N Λ z_1 sS H locs := by rw [ez_1]; exact hw
      refine lv_iadd C.x C.b dX3_auditAll_36 ?_
      refine z_topi (y := nI (ch + (jba x Sc.n 0 Sc).2)) (nI_add _ _) ?_
      refine lv_istore_n (lv' := [(1, .int (nI (ch + (jba x Sc.n 0 Sc).2))), (0, .ref (G.h + 0)), (2, .int (nI x))]) C.x C.b dX3_auditAll_37 rfl hl (by decide) rfl (fun ls hl => ?_)
      refine lv_iinc (v := nI x + 1) (lv' := [(2, .int (nI x + 1)), (1, .int (nI (ch + (jba x Sc.n 0 Sc).2))), (0, .ref (G.h + 0))]) C.x C.b dX3_auditAll_38 hl (k := 2) rfl rfl (by decide) rfl (fun ls hl => ?_)
      have hl : lv_has ls 3 [(2, .int (nI (x + 1))), (1, .int (nI (ch + (jba x Sc.n 0 Sc).2))), (0, .ref (G.h + 0))] := by
        have e9 : nI x + 1 = nI (x + 1) := nI_1 x
        rw [← e9]; exact hl
      refine lv_goto (tgt := 8) C.x C.b dX3_auditAll_41 (by decide) ?_
      exact ih (x + 1) (ch + (jba x Sc.n 0 Sc).2) (jbz 1 x Sc.n 0 zc Sc) ((jba x Sc.n 0 Sc).1) _ _ _ (by omega) (by rw [hj.2.2.2]; exact hn) (by have := jba_le x Sc.n 0 Sc; omega) hj.1 hj.2.2.1 (by rw [hz, aaz]) (by rw [hr, aAll]; show ch + ((jba x Sc.n 0 Sc).2 + _) = _; omega) (by rw [ez_1] at hw; exact hw) (lv_sub hl [2, 1, 0] rfl)
  exact loop S.n 0 0 z1 S _ _ _ (by omega) rfl (by omega) hI1 hS rfl (by rw [Nat.zero_add]) hw (lv_sub hl [2, 1, 0] rfl)

set_option maxRecDepth 100000 in
set_option maxHeartbeats 4000000 in
theorem m_X3_verdictMask {G : zG} {N : Nat} {Λ : zLay} {l : Launch} (hO : zOK G l) (z : zM) (hA : zPo G N Λ) {S : aS} (hI : wI z 1 S) (hS : aOK S) {v : Nat} (hv2 : v ≤ 2) : zMet G N Λ l yX3_verdictMask cX3_verdictMask 4 (some .int) 2 [.ref (G.h + 0), .int (nI v)] z (some (.int (vmk S v S.n 0 0))) z := by
  refine zMet_of hO (by decide) (Nat.le_of_ble_eq_true rfl) ?_
  intro pP eE sS mM bB tT cC ls C hw hl
  have hl : lv_has ls 4 [(0, .ref (G.h + 0)), (1, .int (nI v))] := hl
  have hn6 := hS.n6
  refine lv_iload_n C.x C.b dX3_verdictMask_0 rfl (lv_at hl 1 rfl) ?_
  refine lv_if_lt (tgt := 9) C.x C.b dX3_verdictMask_1 (by decide) (fun c_1 => absurd c_1 (zneg (by omega))) (fun c_1 => ?_)
  refine lv_iload_n C.x C.b dX3_verdictMask_4 rfl (lv_at hl 1 rfl) ?_
  refine lv_iconst (v := 2) C.x C.b dX3_verdictMask_5 (by decide) ?_
  refine lv_icmp_le (tgt := 19) C.x C.b dX3_verdictMask_6 (by decide) (fun c_6 => ?_) (fun c_6 => absurd (zle (b := 2) (by omega) hv2) c_6)
  refine lv_iconst (v := 0) C.x C.b dX3_verdictMask_19 (by decide) ?_
  refine lv_istore_n (lv' := [(2, .int 0), (0, .ref (G.h + 0)), (1, .int (nI v))]) C.x C.b dX3_verdictMask_20 rfl hl (by decide) rfl (fun ls hl => ?_)
  refine lv_iconst (v := 0) C.x C.b dX3_verdictMask_21 (by decide) ?_
  refine lv_istore_n (lv' := [(3, .int 0), (2, .int 0), (0, .ref (G.h + 0)), (1, .int (nI v))]) C.x C.b dX3_verdictMask_22 rfl hl (by decide) rfl (fun ls hl => ?_)
  have loop : ∀ (d : Nat) (x : Nat) (mk : Int32) (H : Heap) (locs : List Loc) (ls : Array Slot) (hxn : x + d = S.n) (hr : vmk S v S.n 0 0 = vmk S v d x mk), zS G N Λ z sS H locs → lv_has ls 4 [(0, .ref (G.h + 0)), (1, .int (nI v)), (2, .int mk), (3, .int (nI x))] → W pP l eE (zR 2) sS mM ([.ref (G.h + 0), .int (nI v)] : List Value).toArray bB tT cC H locs 0 0 (MQ bB (zQc G N Λ (some (.int (vmk S v S.n 0 0))) z) ([.ref (G.h + 0), .int (nI v)] : List Value).toArray sS 0 0 (zA G)) (F0 mM 23 ls []) := by
    intro d
    induction d with
    | zero =>
      intro x mk H locs ls hxn hr hw hl
      refine lv_iload_n C.x C.b dX3_verdictMask_23 rfl (lv_at hl 3 rfl) ?_
      refine lv_aload_n C.x C.b dX3_verdictMask_24 rfl (lv_at hl 0 rfl) ?_
      refine z_get C hw hA.lt (hA.at _ _) flX3_12 rfl dX3_verdictMask_25 ?_
      refine z_get C hw hA.w0.lt (hA.w0.at _ _) flX3_34 rfl dX3_verdictMask_28 ?_
      refine lv_icmp_ge (tgt := 66) C.x C.b dX3_verdictMask_31 (by decide) (fun c_31 => ?_) (fun c_31 => absurd (by rw [hI.n]; exact zle (by omega) (by omega)) c_31)
      refine lv_iload_n C.x C.b dX3_verdictMask_66 rfl (lv_at hl 2 rfl) ?_
      exact z_iret C hw dX3_verdictMask_67 (by rw [hr]; rfl) (rfl)
    | succ d ih =>
      intro x mk H locs ls hxn hr hw hl
      refine lv_iload_n C.x C.b dX3_verdictMask_23 rfl (lv_at hl 3 rfl) ?_
      refine lv_aload_n C.x C.b dX3_verdictMask_24 rfl (lv_at hl 0 rfl) ?_
      refine z_get C hw hA.lt (hA.at _ _) flX3_12 rfl dX3_verdictMask_25 ?_
      refine z_get C hw hA.w0.lt (hA.w0.at _ _) flX3_34 rfl dX3_verdictMask_28 ?_
      refine lv_icmp_ge (tgt := 66) C.x C.b dX3_verdictMask_31 (by decide) (fun c_31 => absurd c_31 (by rw [hI.n]; exact znle (by omega) (by omega))) (fun c_31 => ?_)
      have hx : x < S.n := by omega
      have hx6 : x < 6 := by omega
      refine lv_aload_n C.x C.b dX3_verdictMask_34 rfl (lv_at hl 0 rfl) ?_
      refine z_get C hw hA.lt (hA.at _ _) flX3_12 rfl dX3_verdictMask_35 ?_
      refine lv_aload_n C.x C.b dX3_verdictMask_38 rfl (lv_at hl 0 rfl) ?_
      refine z_get C hw hA.lt (hA.at _ _) flX3_12 rfl dX3_verdictMask_39 ?_
      refine z_get C hw hA.w0.lt (hA.w0.at _ _) flX3_44 rfl dX3_verdictMask_42 ?_
      refine lv_iload_n C.x C.b dX3_verdictMask_45 rfl (lv_at hl 3 rfl) ?_
      refine z_aaldM (a := G.h + (1 + 2 + 8 * x)) C hw hA.w0.lt1 hA.w0.ma (zvin hx6 (by omega)) (by rw [zcl hx6 (by omega)]) dX3_verdictMask_46 ?_
      refine lv_iload_n C.x C.b dX3_verdictMask_47 rfl (lv_at hl 1 rfl) ?_
      refine z_Vv (As := [.ref (G.h + (1 + 2 + 8 * x)), .int (nI v)]) (rest := []) C hw hl (m_X2_someWitnessSays hO _ hA.w0 hI hS hx hx6 hv2) ivX3_175 hA.w0.lt (hA.w0.at _ _) rfl rfl ⟨(Nat.le_of_ble_eq_true rfl), (Nat.le_of_ble_eq_true rfl)⟩ (Nat.le_of_ble_eq_true rfl) ⟨Nat.zero_le _, Nat.zero_le _⟩ dX3_verdictMask_48 (fun H locs hw => ?_)
      refine lv_if_eq (tgt := 60) C.x C.b dX3_verdictMask_51 (by decide) (fun c_51 => ?_) (fun c_51 => ?_)
      · refine lv_iinc (v := nI x + 1) (lv' := [(3, .int (nI x + 1)), (0, .ref (G.h + 0)), (1, .int (nI v)), (2, .int mk)]) C.x C.b dX3_verdictMask_60 hl (k := 3) rfl rfl (by decide) rfl (fun ls hl => ?_)
        have hl : lv_has ls 4 [(3, .int (nI (x + 1))), (0, .ref (G.h + 0)), (1, .int (nI v)), (2, .int mk)] := by
          have e9 : nI x + 1 = nI (x + 1) := nI_1 x
          rw [← e9]; exact hl
        refine lv_goto (tgt := 23) C.x C.b dX3_verdictMask_63 (by decide) ?_
        exact ih (x + 1) mk _ _ _ (by omega) (by rw [hr, vmk, if_pos c_51]) hw (lv_sub hl [1, 2, 3, 0] rfl)
      · refine lv_iload_n C.x C.b dX3_verdictMask_54 rfl (lv_at hl 2 rfl) ?_
        refine lv_iconst (v := 1) C.x C.b dX3_verdictMask_55 (by decide) ?_
        refine lv_iload_n C.x C.b dX3_verdictMask_56 rfl (lv_at hl 3 rfl) ?_
        refine lv_ishl C.x C.b dX3_verdictMask_57 ?_
        refine z_topi (y := nI (2 ^ x)) (zshl1 hx6) ?_
        refine z_pc (pc2 := 58) rfl ?_
        refine lv_ior C.x C.b dX3_verdictMask_58 ?_
        refine lv_istore_n (lv' := [(2, .int (mk ||| (nI (2 ^ x)))), (0, .ref (G.h + 0)), (1, .int (nI v)), (3, .int (nI x))]) C.x C.b dX3_verdictMask_59 rfl hl (by decide) rfl (fun ls hl => ?_)
        refine lv_iinc (v := nI x + 1) (lv' := [(3, .int (nI x + 1)), (2, .int (mk ||| (nI (2 ^ x)))), (0, .ref (G.h + 0)), (1, .int (nI v))]) C.x C.b dX3_verdictMask_60 hl (k := 3) rfl rfl (by decide) rfl (fun ls hl => ?_)
        have hl : lv_has ls 4 [(3, .int (nI (x + 1))), (2, .int (mk ||| (nI (2 ^ x)))), (0, .ref (G.h + 0)), (1, .int (nI v))] := by
          have e9 : nI x + 1 = nI (x + 1) := nI_1 x
          rw [← e9]; exact hl
        refine lv_goto (tgt := 23) C.x C.b dX3_verdictMask_63 (by decide) ?_
        exact ih (x + 1) (mk ||| nI (2 ^ x)) _ _ _ (by omega) (by rw [hr, vmk, if_neg c_51]) hw (lv_sub hl [2, 3, 1, 0] rfl)
  exact loop S.n 0 0 _ _ _ (by omega) rfl hw (lv_sub hl [2, 3, 1, 0] rfl)

set_option maxRecDepth 100000 in
set_option maxHeartbeats 4000000 in
theorem x_X3_verdictMask {G : zG} {N : Nat} {Λ : zLay} {l : Launch} (hO : zOK G l) (z : zM) (hA : zPo G N Λ) {v : Int32} (hv : ¬ isM v 3) : zMX G N Λ l yX3_verdictMask cX3_verdictMask 4 (some .int) 6 [.ref (G.h + 0), .int v] z "java/lang/IllegalArgumentException" := by
  refine zMX_of hO (by decide) (Nat.le_of_ble_eq_true rfl) ?_
  intro pP eE sS mM bB tT cC ls C hout hw hl
  have hl : lv_has ls 4 [(0, .ref (G.h + 0)), (1, .int v)] := hl
  refine lv_iload_n C.x C.b dX3_verdictMask_0 rfl (lv_at hl 1 rfl) ?_
  refine lv_if_lt (tgt := 9) C.x C.b dX3_verdictMask_1 (by decide) (fun c_1 => ?_) (fun c_1 => ?_)
  · exact z_thr C hw hl th_173 dX3_verdictMask_9 dX3_verdictMask_12 dX3_verdictMask_13 dX3_verdictMask_15 dX3_verdictMask_18 hout (Nat.le_of_ble_eq_true rfl) (Nat.le_of_ble_eq_true rfl) (Nat.le_of_ble_eq_true rfl) (Nat.le_of_ble_eq_true rfl)
  · refine lv_iload_n C.x C.b dX3_verdictMask_4 rfl (lv_at hl 1 rfl) ?_
    refine lv_iconst (v := 2) C.x C.b dX3_verdictMask_5 (by decide) ?_
    refine lv_icmp_le (tgt := 19) C.x C.b dX3_verdictMask_6 (by decide) (fun c_6 => absurd c_6 (fun q => hv (isM_le (n := 2) (by omega) c_1 q))) (fun c_6 => ?_)
    exact z_thr C hw hl th_173 dX3_verdictMask_9 dX3_verdictMask_12 dX3_verdictMask_13 dX3_verdictMask_15 dX3_verdictMask_18 hout (Nat.le_of_ble_eq_true rfl) (Nat.le_of_ble_eq_true rfl) (Nat.le_of_ble_eq_true rfl) (Nat.le_of_ble_eq_true rfl)
