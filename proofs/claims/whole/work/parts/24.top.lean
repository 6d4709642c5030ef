theorem isM_lt {v : Int32} {n : Nat} (hn : n < 2 ^ 31) (h1 : ¬ v < 0) (h2 : v < nI n) : isM v n := isM_of h1 (fun q => absurd h2 (Int32.not_lt.mpr q)) hn
/-- the ring of saved worlds: c of them, Lf 0 the oldest; the next one goes into slot ns -/
def tR (z : zM) (c : Nat) (Lf : Nat → aS) (ns : Nat) : Prop := (ns < 4 ∧ c ≤ 4) ∧ (z.1 0 2 = nI c ∧ z.1 0 3 = nI ns) ∧ (∀ k, k < 4 → rAll z (56 + 54 * k)) ∧ ∀ j, j < c → wI z (56 + 54 * ((ns + 4 - c + j) % 4)) (Lf j) ∧ aOK (Lf j)
def tI (z : zM) (S : aS) (c : Nat) (Lf : Nat → aS) : Prop := (wI z 1 S ∧ aOK S) ∧ ∃ ns, tR z c Lf ns
def svc (c : Nat) : Nat := if c < 4 then c + 1 else 4
def svf (c : Nat) (Lf : Nat → aS) (S : aS) : Nat → aS := if c < 4 then va_up Lf c S else fun j => if j = 3 then S else Lf (j + 1)
def svz (z : zM) (ns c : Nat) (S : aS) : zM := if c < 4 then zi (zi (cpw z (56 + 54 * ns) 1 S) 0 3 (nI ((ns + 1) % 4))) 0 2 (nI (c + 1)) else zi (cpw z (56 + 54 * ns) 1 S) 0 3 (nI ((ns + 1) % 4))
def unz (z : zM) (ns c : Nat) (S : aS) : zM := zi (cpw (zi z 0 3 (nI ((ns + 3) % 4))) 1 (56 + 54 * ((ns + 3) % 4)) S) 0 2 (nI (c - 1))
theorem rAll.cg {z z' : zM} {b : Nat} (h : rAll z b) (hf : ∀ i, b ≤ i → i < b + 54 → z'.1 i = z.1 i) : rAll z' b := ⟨fun x hx => (h.1 x hx).cg (fun i h1 h2 => hf i (by omega) (by omega)), h.2.1.cg (hf _ (by omega) (by omega)), h.2.2.cg (hf _ (by omega) (by omega))⟩
theorem svz_fr0 {z : zM} {ns c : Nat} {S : aS} (hA : rAll z (56 + 54 * ns)) (hI : wI z 1 S) (hS : aOK S) : wI (svz z ns c S) (56 + 54 * ns) S ∧ (∀ i, i ≠ 0 → (i < 56 + 54 * ns ∨ 56 + 54 * ns + 54 ≤ i) → (svz z ns c S).1 i = z.1 i) ∧ (svz z ns c S).2 = z.2 ∧ (svz z ns c S).1 0 3 = nI ((ns + 1) % 4) ∧ (svz z ns c S).1 0 2 = (if c < 4 then nI (c + 1) else z.1 0 2) := by
  obtain ⟨h1, h2⟩ := cpw_wI hA hI hS (by omega)
  have hn : ∀ i, i ≠ 0 → (svz z ns c S).1 i = (cpw z (56 + 54 * ns) 1 S).1 i := fun i hi => by
    unfold svz
    split
    · rw [(zi_fr _ _ _ _).1 i (by omega), (zi_fr _ _ _ _).1 i (by omega)]
    · rw [(zi_fr _ _ _ _).1 i (by omega)]
  refine ⟨h1.cg hS.n6 (fun i g1 g2 => hn i (by omega)), fun i g1 g2 => by rw [hn i g1, h2.1 i g2], ?_, ?_, ?_⟩
  · unfold svz
    split
    · exact h2.2
    · exact h2.2
  · unfold svz
    split
    · rw [zi_at, if_neg (by omega), zi_at, if_pos ⟨rfl, rfl⟩]
    · rw [zi_at, if_pos ⟨rfl, rfl⟩]
  · unfold svz
    split
    · rw [zi_at, if_pos ⟨rfl, rfl⟩]
    · rw [zi_at, if_neg (by omega), h2.1 0 (by omega)]
theorem sv_tR {z : zM} {S : aS} {c : Nat} {Lf : Nat → aS} {ns : Nat} (hI : wI z 1 S) (hS : aOK S) (hT : tR z c Lf ns) : tI (svz z ns c S) S (svc c) (svf c Lf S) ∧ zfr z (svz z ns c S) 0 272 := by
  obtain ⟨⟨hns, hc⟩, ⟨h2, h3⟩, hA, hL⟩ := hT
  obtain ⟨g1, g2, g3, g4, g5⟩ := svz_fr0 (c := c) (hA ns hns) hI hS
  have hfr : zfr z (svz z ns c S) 0 272 := ⟨fun i hi => g2 i (by omega) (by omega), g3⟩
  have hold : ∀ k, k < 4 → k ≠ ns → ∀ i, 56 + 54 * k ≤ i → i < 56 + 54 * k + 54 → (svz z ns c S).1 i = z.1 i := fun k hk hkn i q1 q2 => g2 i (by omega) (by omega)
  refine ⟨⟨⟨hI.cg hS.n6 (fun i q1 q2 => g2 i (by omega) (by omega)), hS⟩, (ns + 1) % 4, ⟨Nat.mod_lt _ (by omega), ?_⟩, ⟨?_, g4⟩, fun k hk => ?_, fun j hj => ?_⟩, hfr⟩
  · unfold svc; split <;> omega
  · rw [g5]
    unfold svc
    split
    · rfl
    · rw [h2]
      have : c = 4 := by omega
      rw [this]
  · by_cases hkn : k = ns
    · subst hkn; exact g1.2
    · exact (hA k hk).cg (hold k hk hkn)
  · by_cases h4 : c < 4
    · have e1 : svc c = c + 1 := if_pos h4
      rw [e1] at hj ⊢
      have e2 : svf c Lf S = va_up Lf c S := if_pos h4
      rw [e2]
      by_cases hjc : j = c
      · subst hjc
        rw [va_up_self, show ((ns + 1) % 4 + 4 - (j + 1) + j) % 4 = ns by omega]
        exact ⟨g1, hS⟩
      · rw [va_up_ne _ _ hjc, show ((ns + 1) % 4 + 4 - (c + 1) + j) % 4 = (ns + 4 - c + j) % 4 by omega]
        obtain ⟨q1, q2⟩ := hL j (by omega)
        exact ⟨q1.cg q2.n6 (hold _ (Nat.mod_lt _ (by omega)) (by omega)), q2⟩
    · have e1 : svc c = 4 := if_neg h4
      rw [e1] at hj ⊢
      have e2 : svf c Lf S = fun j => if j = 3 then S else Lf (j + 1) := if_neg h4
      rw [e2]
      have e4 : c = 4 := by omega
      subst e4
      by_cases hj3 : j = 3
      · subst hj3
        show wI _ (56 + 54 * (((ns + 1) % 4 + 4 - 4 + 3) % 4)) (if 3 = 3 then S else Lf (3 + 1)) ∧ aOK (if 3 = 3 then S else Lf (3 + 1))
        rw [if_pos rfl, show ((ns + 1) % 4 + 4 - 4 + 3) % 4 = ns by omega]
        exact ⟨g1, hS⟩
      · show wI _ (56 + 54 * (((ns + 1) % 4 + 4 - 4 + j) % 4)) (if j = 3 then S else Lf (j + 1)) ∧ aOK (if j = 3 then S else Lf (j + 1))
        rw [if_neg hj3, show ((ns + 1) % 4 + 4 - 4 + j) % 4 = (ns + 4 - 4 + (j + 1)) % 4 by omega]
        obtain ⟨q1, q2⟩ := hL (j + 1) (by omega)
        exact ⟨q1.cg q2.n6 (hold _ (Nat.mod_lt _ (by omega)) (by omega)), q2⟩
theorem un_tR {z : zM} {S : aS} {c : Nat} {Lf : Nat → aS} {ns : Nat} (hI : wI z 1 S) (hT : tR z c Lf ns) (h0 : 0 < c) : tI (unz z ns c (Lf (c - 1))) (Lf (c - 1)) (c - 1) Lf ∧ zfr z (unz z ns c (Lf (c - 1))) 0 272 := by
  obtain ⟨⟨hns, hc⟩, ⟨h2, h3⟩, hA, hL⟩ := hT
  obtain ⟨q1, q2⟩ := hL (c - 1) (by omega)
  rw [show (ns + 4 - c + (c - 1)) % 4 = (ns + 3) % 4 by omega] at q1
  have hm : (ns + 3) % 4 < 4 := Nat.mod_lt _ (by omega)
  have hz1 : ∀ i, i ≠ 0 → (zi z 0 3 (nI ((ns + 3) % 4))).1 i = z.1 i := fun i hi => (zi_fr _ _ _ _).1 i (by omega)
  have hI1 : wI (zi z 0 3 (nI ((ns + 3) % 4))) (56 + 54 * ((ns + 3) % 4)) (Lf (c - 1)) := q1.cg q2.n6 (fun i g1 g2 => hz1 i (by omega))
  have hA1 : rAll (zi z 0 3 (nI ((ns + 3) % 4))) 1 := hI.2.cg (fun i g1 g2 => hz1 i (by omega))
  obtain ⟨w1, w2⟩ := cpw_wI hA1 hI1 q2 (by omega)
  have hz3 : ∀ i, i ≠ 0 → (unz z ns c (Lf (c - 1))).1 i = (cpw (zi z 0 3 (nI ((ns + 3) % 4))) 1 (56 + 54 * ((ns + 3) % 4)) (Lf (c - 1))).1 i := fun i hi => (zi_fr _ _ _ _).1 i (by omega)
  have hout : ∀ i, i ≠ 0 → (i < 1 ∨ 1 + 54 ≤ i) → (unz z ns c (Lf (c - 1))).1 i = z.1 i := fun i g1 g2 => by rw [hz3 i g1, w2.1 i g2, hz1 i g1]
  refine ⟨⟨⟨w1.cg q2.n6 (fun i g1 g2 => hz3 i (by omega)), q2⟩, (ns + 3) % 4, ⟨hm, by omega⟩, ⟨?_, ?_⟩, fun k hk => (hA k hk).cg (fun i g1 g2 => hout i (by omega) (by omega)), fun j hj => ?_⟩, ⟨fun i hi => hout i (by omega) (by omega), ?_⟩⟩
  · unfold unz
    rw [zi_at, if_pos ⟨rfl, rfl⟩]
  · unfold unz
    rw [zi_at, if_neg (by omega), w2.1 0 (by omega), zi_at, if_pos ⟨rfl, rfl⟩]
  · rw [show ((ns + 3) % 4 + 4 - (c - 1) + j) % 4 = (ns + 4 - c + j) % 4 by omega]
    obtain ⟨r1, r2⟩ := hL j (by omega)
    exact ⟨r1.cg r2.n6 (fun i g1 g2 => hout i (by omega) (by omega)), r2⟩
  · exact w2.2
theorem tR.cg {z z' : zM} {c : Nat} {Lf : Nat → aS} {ns : Nat} (h : tR z c Lf ns) (hf : ∀ i, (i < 1 ∨ (55 ≤ i ∧ i < 272)) → z'.1 i = z.1 i) : tR z' c Lf ns := by
  obtain ⟨⟨hns, hc⟩, ⟨h2, h3⟩, hA, hL⟩ := h
  have hm : ∀ j, (ns + 4 - c + j) % 4 < 4 := fun j => Nat.mod_lt _ (by omega)
  refine ⟨⟨hns, hc⟩, ⟨by rw [hf 0 (by omega)]; exact h2, by rw [hf 0 (by omega)]; exact h3⟩, fun k hk => (hA k hk).cg (fun i g1 g2 => hf i (by omega)), fun j hj => ⟨(hL j hj).1.cg (hL j hj).2.n6 (fun i g1 g2 => hf i (by have := hm j; omega)), (hL j hj).2⟩⟩
/-- the present world changes, the ring stays -/
theorem tI.up {z z' : zM} {S S' : aS} {c : Nat} {Lf : Nat → aS} (h : tI z S c Lf) (hI : wI z' 1 S') (hS : aOK S') (hf : zfr z z' 1 54) : tI z' S' c Lf := by
  obtain ⟨-, ns, hT⟩ := h
  exact ⟨⟨hI, hS⟩, ns, hT.cg (fun i hi => hf.1 i (by omega))⟩
set_option maxRecDepth 100000 in
set_option maxHeartbeats 4000000 in
theorem m_X3_reqM {G : zG} {N : Nat} {Λ : zLay} {l : Launch} (hO : zOK G l) (z : zM) (hA : zPo G N Λ) {S : aS} (hI : wI z 1 S) (hS : aOK S) {x : Nat} (hx : x < S.n) : zMet G N Λ l yX3_requireMachine cX3_requireMachine 2 none 1 [.ref (G.h + 0), .int (nI x)] z none z := by
  refine zMet_of hO (by decide) (Nat.le_of_ble_eq_true rfl) ?_
  intro pP eE sS mM bB tT cC ls C hw hl
  have hl : lv_has ls 2 [(0, .ref (G.h + 0)), (1, .int (nI x))] := hl
  refine lv_aload_n C.x C.b dX3_requireMachine_0 rfl (lv_at hl 0 rfl) ?_
  refine z_get C hw hA.lt (hA.at _ _) flX3_12 rfl dX3_requireMachine_1 ?_
  refine lv_iload_n C.x C.b dX3_requireMachine_4 rfl (lv_at hl 1 rfl) ?_
  refine z_Vv (As := [.int (nI x)]) (rest := []) C hw hl (m_X2_isMachine hO _ hA.w0 hI.n hS.n6 hx) ivX3_213 hA.w0.lt (hA.w0.at _ _) rfl rfl ⟨(Nat.le_of_ble_eq_true rfl), (Nat.le_of_ble_eq_true rfl)⟩ (Nat.le_of_ble_eq_true rfl) ⟨Nat.zero_le _, Nat.zero_le _⟩ dX3_requireMachine_5 (fun H locs hw => ?_)
  refine lv_if_ne (tgt := 21) C.x C.b dX3_requireMachine_8 (by decide) (fun c_8 => ?_) (fun c_8 => absurd c_8 (by decide))
  exact z_vret C hw dX3_requireMachine_21 (rfl) (rfl)

set_option maxRecDepth 100000 in
set_option maxHeartbeats 4000000 in
theorem x_X3_reqM {G : zG} {N : Nat} {Λ : zLay} {l : Launch} (hO : zOK G l) (z : zM) (hA : zPo G N Λ) {S : aS} (hI : wI z 1 S) (hS : aOK S) {v : Int32} (hv : ¬ isM v S.n) : zMX G N Λ l yX3_requireMachine cX3_requireMachine 2 none 6 [.ref (G.h + 0), .int v] z "java/lang/IndexOutOfBoundsException" := by
  refine zMX_of hO (by decide) (Nat.le_of_ble_eq_true rfl) ?_
  intro pP eE sS mM bB tT cC ls C hout hw hl
  have hl : lv_has ls 2 [(0, .ref (G.h + 0)), (1, .int v)] := hl
  refine lv_aload_n C.x C.b dX3_requireMachine_0 rfl (lv_at hl 0 rfl) ?_
  refine z_get C hw hA.lt (hA.at _ _) flX3_12 rfl dX3_requireMachine_1 ?_
  refine lv_iload_n C.x C.b dX3_requireMachine_4 rfl (lv_at hl 1 rfl) ?_
  refine z_Vv (As := [.int v]) (rest := []) C hw hl (m_X2_isMachine_no hO _ hA.w0 hI.n hS.n6 hv) ivX3_213 hA.w0.lt (hA.w0.at _ _) rfl rfl ⟨(Nat.le_of_ble_eq_true rfl), (Nat.le_of_ble_eq_true rfl)⟩ (Nat.le_of_ble_eq_true rfl) ⟨Nat.zero_le _, Nat.zero_le _⟩ dX3_requireMachine_5 (fun H locs hw => ?_)
  refine lv_if_ne (tgt := 21) C.x C.b dX3_requireMachine_8 (by decide) (fun c_8 => absurd c_8 (by decide)) (fun c_8 => ?_)
  exact z_thr C hw hl th_216 dX3_requireMachine_11 dX3_requireMachine_14 dX3_requireMachine_15 dX3_requireMachine_17 dX3_requireMachine_20 hout (Nat.le_of_ble_eq_true rfl) (Nat.le_of_ble_eq_true rfl) (Nat.le_of_ble_eq_true rfl) (Nat.le_of_ble_eq_true rfl)

set_option maxRecDepth 100000 in
set_option maxHeartbeats 4000000 in
theorem m_X3_reqV {G : zG} {N : Nat} {Λ : zLay} {l : Launch} (hO : zOK G l) (z : zM) {v : Nat} (hv : v < 1000) : zMet G N Λ l yX3_requireValue cX3_requireValue 1 none 0 [.int (nI v)] z none z := by
  refine zMet_of hO (by decide) (Nat.le_of_ble_eq_true rfl) ?_
  intro pP eE sS mM bB tT cC ls C hw hl
  have hl : lv_has ls 1 [(0, .int (nI v))] := hl
  refine lv_iload_n C.x C.b dX3_requireValue_0 rfl (lv_at hl 0 rfl) ?_
  refine lv_if_lt (tgt := 11) C.x C.b dX3_requireValue_1 (by decide) (fun c_1 => absurd c_1 (zneg (by omega))) (fun c_1 => ?_)
  refine lv_iload_n C.x C.b dX3_requireValue_4 rfl (lv_at hl 0 rfl) ?_
  refine lv_sipush (v := 1000) C.x C.b dX3_requireValue_5 (by decide) ?_
  refine lv_icmp_lt (tgt := 21) C.x C.b dX3_requireValue_8 (by decide) (fun c_8 => ?_) (fun c_8 => absurd (zlt (b := 1000) (by omega) hv) c_8)
  exact z_vret C hw dX3_requireValue_21 (rfl) (rfl)

set_option maxRecDepth 100000 in
set_option maxHeartbeats 4000000 in
theorem x_X3_reqV {G : zG} {N : Nat} {Λ : zLay} {l : Launch} (hO : zOK G l) (z : zM) {v : Int32} (hv : ¬ isM v 1000) : zMX G N Λ l yX3_requireValue cX3_requireValue 1 none 6 [.int v] z "java/lang/IllegalArgumentException" := by
  refine zMX_of hO (by decide) (Nat.le_of_ble_eq_true rfl) ?_
  intro pP eE sS mM bB tT cC ls C hout hw hl
  have hl : lv_has ls 1 [(0, .int v)] := hl
  refine lv_iload_n C.x C.b dX3_requireValue_0 rfl (lv_at hl 0 rfl) ?_
  refine lv_if_lt (tgt := 11) C.x C.b dX3_requireValue_1 (by decide) (fun c_1 => ?_) (fun c_1 => ?_)
  · exact z_thr C hw hl th_220 dX3_requireValue_11 dX3_requireValue_14 dX3_requireValue_15 dX3_requireValue_17 dX3_requireValue_20 hout (Nat.le_of_ble_eq_true rfl) (Nat.le_of_ble_eq_true rfl) (Nat.le_of_ble_eq_true rfl) (Nat.le_of_ble_eq_true rfl)
  · refine lv_iload_n C.x C.b dX3_requireValue_4 rfl (lv_at hl 0 rfl) ?_
    refine lv_sipush (v := 1000) C.x C.b dX3_requireValue_5 (by decide) ?_
    refine lv_icmp_lt (tgt := 21) C.x C.b dX3_requireValue_8 (by decide) (fun c_8 => absurd c_8 (fun q => hv (isM_lt (by omega) c_1 q))) (fun c_8 => ?_)
    exact z_thr C hw hl th_220 dX3_requireValue_11 dX3_requireValue_14 dX3_requireValue_15 dX3_requireValue_17 dX3_requireValue_20 hout (Nat.le_of_ble_eq_true rfl) (Nat.le_of_ble_eq_true rfl) (Nat.le_of_ble_eq_true rfl) (Nat.le_of_ble_eq_true rfl)

set_option maxRecDepth 100000 in
set_option maxHeartbeats 4000000 in
theorem m_X3_reqE {G : zG} {N : Nat} {Λ : zLay} {l : Launch} (hO : zOK G l) (z : zM) (hA : zPo G N Λ) {S : aS} (hI : wI z 1 S) (hS : aOK S) {x e : Nat} (hx : x < S.n) (hx6 : x < 6) (he : e < (S.m x).log.1) : zMet G N Λ l yX3_requireEntry cX3_requireEntry 3 none 2 [.ref (G.h + 0), .int (nI x), .int (nI e)] z none z := by
  refine zMet_of hO (by decide) (Nat.le_of_ble_eq_true rfl) ?_
  intro pP eE sS mM bB tT cC ls C hw hl
  have hl : lv_has ls 3 [(0, .ref (G.h + 0)), (1, .int (nI x)), (2, .int (nI e))] := hl
  have hlg := (hS.m hx).log.1
  have hmx := hI.m hx
  refine lv_aload_n C.x C.b dX3_requireEntry_0 rfl (lv_at hl 0 rfl) ?_
  refine lv_iload_n C.x C.b dX3_requireEntry_1 rfl (lv_at hl 1 rfl) ?_
  refine z_V0 (As := [.int (nI x)]) (rest := []) C hw hl (m_X3_reqM hO _ hA hI hS hx) ivX3_38 hA.lt (hA.at _ _) rfl rfl ⟨(Nat.le_of_ble_eq_true rfl), (Nat.le_of_ble_eq_true rfl)⟩ (Nat.le_of_ble_eq_true rfl) ⟨Nat.zero_le _, Nat.zero_le _⟩ dX3_requireEntry_2 (fun H locs hw => ?_)
  refine lv_iload_n C.x C.b dX3_requireEntry_5 rfl (lv_at hl 2 rfl) ?_
  refine lv_if_lt (tgt := 28) C.x C.b dX3_requireEntry_6 (by decide) (fun c_6 => absurd c_6 (zneg (by omega))) (fun c_6 => ?_)
  refine lv_iload_n C.x C.b dX3_requireEntry_9 rfl (lv_at hl 2 rfl) ?_
  refine lv_aload_n C.x C.b dX3_requireEntry_10 rfl (lv_at hl 0 rfl) ?_
  refine z_get C hw hA.lt (hA.at _ _) flX3_12 rfl dX3_requireEntry_11 ?_
  refine z_get C hw hA.w0.lt (hA.w0.at _ _) flX3_44 rfl dX3_requireEntry_14 ?_
  refine lv_iload_n C.x C.b dX3_requireEntry_17 rfl (lv_at hl 1 rfl) ?_
  refine z_aaldM (a := G.h + (1 + 2 + 8 * x)) C hw hA.w0.lt1 hA.w0.ma (zvin hx6 (by omega)) (by rw [zcl hx6 (by omega)]) dX3_requireEntry_18 ?_
  refine z_get C hw (hA.w0.m hx6).lt ((hA.w0.m hx6).at _ _) flX3_113 rfl dX3_requireEntry_19 ?_
  refine z_get C hw (hA.w0.m hx6).log.lt ((hA.w0.m hx6).log.at _ _) flX3_52 rfl dX3_requireEntry_22 ?_
  refine lv_icmp_lt (tgt := 38) C.x C.b dX3_requireEntry_25 (by decide) (fun c_25 => ?_) (fun c_25 => absurd (by rw [hmx.2.2.1.1]; exact zlt (by omega) he) c_25)
  exact z_vret C hw dX3_requireEntry_38 (rfl) (rfl)

set_option maxRecDepth 100000 in
set_option maxHeartbeats 4000000 in
theorem x_X3_reqE1 {G : zG} {N : Nat} {Λ : zLay} {l : Launch} (hO : zOK G l) (z : zM) (hA : zPo G N Λ) {S : aS} (hI : wI z 1 S) (hS : aOK S) {v e : Int32} (hv : ¬ isM v S.n) : zMX G N Λ l yX3_requireEntry cX3_requireEntry 3 none 7 [.ref (G.h + 0), .int v, .int e] z "java/lang/IndexOutOfBoundsException" := by
  refine zMX_of hO (by decide) (Nat.le_of_ble_eq_true rfl) ?_
  intro pP eE sS mM bB tT cC ls C hout hw hl
  have hl : lv_has ls 3 [(0, .ref (G.h + 0)), (1, .int v), (2, .int e)] := hl
  refine lv_aload_n C.x C.b dX3_requireEntry_0 rfl (lv_at hl 0 rfl) ?_
  refine lv_iload_n C.x C.b dX3_requireEntry_1 rfl (lv_at hl 1 rfl) ?_
  exact z_VX (As := [.int v]) (rest := []) C hout hw hl (x_X3_reqM hO _ hA hI hS hv) ivX3_38 hA.lt (hA.at _ _) rfl rfl ⟨(Nat.le_of_ble_eq_true rfl), (Nat.le_of_ble_eq_true rfl)⟩ (Nat.le_of_ble_eq_true rfl) ⟨(Nat.le_of_ble_eq_true rfl), (Nat.le_of_ble_eq_true rfl)⟩ dX3_requireEntry_2

set_option maxRecDepth 100000 in
set_option maxHeartbeats 4000000 in
theorem x_X3_reqE2 {G : zG} {N : Nat} {Λ : zLay} {l : Launch} (hO : zOK G l) (z : zM) (hA : zPo G N Λ) {S : aS} (hI : wI z 1 S) (hS : aOK S) {x : Nat} {e : Int32} (hx : x < S.n) (hx6 : x < 6) (he : ¬ isM e (S.m x).log.1) : zMX G N Λ l yX3_requireEntry cX3_requireEntry 3 none 7 [.ref (G.h + 0), .int (nI x), .int e] z "java/lang/IndexOutOfBoundsException" := by
  refine zMX_of hO (by decide) (Nat.le_of_ble_eq_true rfl) ?_
  intro pP eE sS mM bB tT cC ls C hout hw hl
  have hl : lv_has ls 3 [(0, .ref (G.h + 0)), (1, .int (nI x)), (2, .int e)] := hl
  have hlg := (hS.m hx).log.1
  have hmx := hI.m hx
  refine lv_aload_n C.x C.b dX3_requireEntry_0 rfl (lv_at hl 0 rfl) ?_
  refine lv_iload_n C.x C.b dX3_requireEntry_1 rfl (lv_at hl 1 rfl) ?_
  refine z_V0 (As := [.int (nI x)]) (rest := []) C hw hl (m_X3_reqM hO _ hA hI hS hx) ivX3_38 hA.lt (hA.at _ _) rfl rfl ⟨(Nat.le_of_ble_eq_true rfl), (Nat.le_of_ble_eq_true rfl)⟩ (Nat.le_of_ble_eq_true rfl) ⟨Nat.zero_le _, Nat.zero_le _⟩ dX3_requireEntry_2 (fun H locs hw => ?_)
  refine lv_iload_n C.x C.b dX3_requireEntry_5 rfl (lv_at hl 2 rfl) ?_
  refine lv_if_lt (tgt := 28) C.x C.b dX3_requireEntry_6 (by decide) (fun c_6 => ?_) (fun c_6 => ?_)
  · exact z_thr C hw hl th_218 dX3_requireEntry_28 dX3_requireEntry_31 dX3_requireEntry_32 dX3_requireEntry_34 dX3_requireEntry_37 hout (Nat.le_of_ble_eq_true rfl) (Nat.le_of_ble_eq_true rfl) (Nat.le_of_ble_eq_true rfl) (Nat.le_of_ble_eq_true rfl)
  · refine lv_iload_n C.x C.b dX3_requireEntry_9 rfl (lv_at hl 2 rfl) ?_
    refine lv_aload_n C.x C.b dX3_requireEntry_10 rfl (lv_at hl 0 rfl) ?_
    refine z_get C hw hA.lt (hA.at _ _) flX3_12 rfl dX3_requireEntry_11 ?_
    refine z_get C hw hA.w0.lt (hA.w0.at _ _) flX3_44 rfl dX3_requireEntry_14 ?_
    refine lv_iload_n C.x C.b dX3_requireEntry_17 rfl (lv_at hl 1 rfl) ?_
    refine z_aaldM (a := G.h + (1 + 2 + 8 * x)) C hw hA.w0.lt1 hA.w0.ma (zvin hx6 (by omega)) (by rw [zcl hx6 (by omega)]) dX3_requireEntry_18 ?_
    refine z_get C hw (hA.w0.m hx6).lt ((hA.w0.m hx6).at _ _) flX3_113 rfl dX3_requireEntry_19 ?_
    refine z_get C hw (hA.w0.m hx6).log.lt ((hA.w0.m hx6).log.at _ _) flX3_52 rfl dX3_requireEntry_22 ?_
    refine lv_icmp_lt (tgt := 38) C.x C.b dX3_requireEntry_25 (by decide) (fun c_25 => absurd c_25 (fun q => he (isM_lt (by omega) c_6 (by rw [hmx.2.2.1.1] at q; exact q)))) (fun c_25 => ?_)
    exact z_thr C hw hl th_218 dX3_requireEntry_28 dX3_requireEntry_31 dX3_requireEntry_32 dX3_requireEntry_34 dX3_requireEntry_37 hout (Nat.le_of_ble_eq_true rfl) (Nat.le_of_ble_eq_true rfl) (Nat.le_of_ble_eq_true rfl) (Nat.le_of_ble_eq_true rfl)

set_option maxRecDepth 100000 in
set_option maxHeartbeats 4000000 in
theorem m_X3_save0 {G : zG} {N : Nat} {Λ : zLay} {l : Launch} (hO : zOK G l) (z : zM) (hA : zPo G N Λ) {S : aS} (hI : wI z 1 S) (hS : aOK S) {c : Nat} {Lf : Nat → aS} {ns : Nat} (hT : tR z c Lf ns) : zMet G N Λ l yX3_save cX3_save 1 none 4 [.ref (G.h + 0)] z none (svz z ns c S) := by
  refine zMet_of hO (by decide) (Nat.le_of_ble_eq_true rfl) ?_
  intro pP eE sS mM bB tT cC ls C hw hl
  have hl : lv_has ls 1 [(0, .ref (G.h + 0))] := hl
  obtain ⟨⟨hns, hc4⟩, ⟨h2, h3⟩, hAl, hL⟩ := hT
  have hfr := (cpw_wI (hAl ns hns) hI hS (by omega)).2
  refine lv_aload_n C.x C.b dX3_save_0 rfl (lv_at hl 0 rfl) ?_
  refine z_get C hw hA.lt (hA.at _ _) flX3_20 rfl dX3_save_1 ?_
  refine lv_aload_n C.x C.b dX3_save_4 rfl (lv_at hl 0 rfl) ?_
  refine z_get C hw hA.lt (hA.at _ _) flX3_189 rfl dX3_save_5 ?_
  refine z_topi (y := nI ns) (h3) ?_
  refine z_aaldW (a := G.h + (56 + 54 * ns)) C hw hA.lts hA.sa (zvin hns (by omega)) (by rw [zcl hns (by omega)]) dX3_save_8 ?_
  refine lv_aload_n C.x C.b dX3_save_9 rfl (lv_at hl 0 rfl) ?_
  refine z_get C hw hA.lt (hA.at _ _) flX3_12 rfl dX3_save_10 ?_
  refine z_V0 (As := [.ref (G.h + 1)]) (rest := []) C hw hl (m_X2_copyWorld hO _ (hA.ws hns) hA.w0 hI hS (by omega)) ivX3_192 (hA.ws hns).lt ((hA.ws hns).at _ _) rfl rfl ⟨(Nat.le_of_ble_eq_true rfl), (Nat.le_of_ble_eq_true rfl)⟩ (Nat.le_of_ble_eq_true rfl) ⟨Nat.zero_le _, Nat.zero_le _⟩ dX3_save_13 (fun H locs hw => ?_)
  obtain ⟨z_1, ez_1⟩ : ∃ q_9, q_9 = cpw z (56 + 54 * ns) 1 S := ⟨_, rfl⟩
  have hw : zS G N Λ z_1 sS H locs := by rw [ez_1]; exact hw
  refine lv_aload_n C.x C.b dX3_save_16 rfl (lv_at hl 0 rfl) ?_
  refine lv_aload_n C.x C.b dX3_save_17 rfl (lv_at hl 0 rfl) ?_
  refine z_get C hw hA.lt (hA.at _ _) flX3_189 rfl dX3_save_18 ?_
  refine z_topi (y := nI ns) (by rw [ez_1, hfr.1 0 (by omega)]; exact h3) ?_
  refine lv_iconst (v := 1) C.x C.b dX3_save_21 (by decide) ?_
  refine lv_iadd C.x C.b dX3_save_22 ?_
  refine z_topi (y := nI (ns + 1)) (nI_1 _) ?_
  refine lv_iconst (v := 4) C.x C.b dX3_save_23 (by decide) ?_
  refine lv_irem C.x C.b dX3_save_24 (by decide) ?_
  refine z_topi (y := nI ((ns + 1) % 4)) (zrem 4 (by omega) (by omega) (by omega)) ?_
  refine z_put C hw hA.lt (hA.at _ _) ptX3_189 (hA.at _ _) (rfl) (rfl) (Nat.le_of_ble_eq_true rfl) dX3_save_25 (fun H locs hw => ?_)
  obtain ⟨z_2, ez_2⟩ : ∃ q_9, q_9 = zi z_1 0 3 (nI ((ns + 1) % 4)) := ⟨_, rfl⟩
  have hw : zS G N Λ z_2 sS H locs := by rw [ez_2]; exact hw
  refine lv_aload_n C.x C.b dX3_save_28 rfl (lv_at hl 0 rfl) ?_
  refine z_get C hw hA.lt (hA.at _ _) flX3_184 rfl dX3_save_29 ?_
  refine z_topi (y := nI c) (by rw [ez_2, zi_at, if_neg (by omega), ez_1, hfr.1 0 (by omega)]; exact h2) ?_
  refine lv_iconst (v := 4) C.x C.b dX3_save_32 (by decide) ?_
  refine z_pc (pc2 := 33) rfl ?_
  refine lv_icmp_ge (tgt := 46) C.x C.b dX3_save_33 (by decide) (fun c_33 => ?_) (fun c_33 => ?_)
  · exact z_vret C hw dX3_save_46 (rfl) (by rw [svz, if_neg (fun q => absurd c_33 (znle (b := 4) (by omega) q)), ez_2, ez_1])
  · refine lv_aload_n C.x C.b dX3_save_36 rfl (lv_at hl 0 rfl) ?_
    refine lv_dup C.x C.b dX3_save_37 rfl ?_
    refine z_get C hw hA.lt (hA.at _ _) flX3_184 rfl dX3_save_38 ?_
    refine z_topi (y := nI c) (by rw [ez_2, zi_at, if_neg (by omega), ez_1, hfr.1 0 (by omega)]; exact h2) ?_
    refine lv_iconst (v := 1) C.x C.b dX3_save_41 (by decide) ?_
    refine lv_iadd C.x C.b dX3_save_42 ?_
    refine z_topi (y := nI (c + 1)) (nI_1 _) ?_
    refine z_put C hw hA.lt (hA.at _ _) ptX3_184 (hA.at _ _) (rfl) (rfl) (Nat.le_of_ble_eq_true rfl) dX3_save_43 (fun H locs hw => ?_)
    obtain ⟨z_3, ez_3⟩ : ∃ q_9, q_9 = zi z_2 0 2 (nI (c + 1)) := ⟨_, rfl⟩
    have hw : zS G N Λ z_3 sS H locs := by rw [ez_3]; exact hw
    exact z_vret C hw dX3_save_46 (rfl) (by rw [svz, if_pos ((nI_ltI (b := 4) (by omega) (by omega)).mp (Int32.not_le.mp c_33)), ez_3, ez_2, ez_1])

set_option maxRecDepth 100000 in
set_option maxHeartbeats 4000000 in
theorem m_X3_undo0 {G : zG} {N : Nat} {Λ : zLay} {l : Launch} (hO : zOK G l) (z : zM) (hA : zPo G N Λ) {S : aS} (hI : wI z 1 S) (hS : aOK S) {c : Nat} {Lf : Nat → aS} {ns : Nat} (hT : tR z c Lf ns) (h0 : 0 < c) : zMet G N Λ l yX3_undo cX3_undo 1 (some .int) 4 [.ref (G.h + 0)] z (some (.int (nI (c - 1)))) (unz z ns c (Lf (c - 1))) := by
  refine zMet_of hO (by decide) (Nat.le_of_ble_eq_true rfl) ?_
  intro pP eE sS mM bB tT cC ls C hw hl
  have hl : lv_has ls 1 [(0, .ref (G.h + 0))] := hl
  obtain ⟨⟨hns, hc⟩, ⟨h2, h3⟩, hAl, hL⟩ := hT
  obtain ⟨q1, q2⟩ := hL (c - 1) (by omega)
  rw [show (ns + 4 - c + (c - 1)) % 4 = (ns + 3) % 4 by omega] at q1
  have hm : (ns + 3) % 4 < 4 := Nat.mod_lt _ (by omega)
  have hz1 : ∀ i, i ≠ 0 → (zi z 0 3 (nI ((ns + 3) % 4))).1 i = z.1 i := fun i hi => (zi_fr _ _ _ _).1 i (by omega)
  have hI1 : wI (zi z 0 3 (nI ((ns + 3) % 4))) (56 + 54 * ((ns + 3) % 4)) (Lf (c - 1)) := q1.cg q2.n6 (fun i g1 g2 => hz1 i (by omega))
  have hA1 : rAll (zi z 0 3 (nI ((ns + 3) % 4))) 1 := hI.2.cg (fun i g1 g2 => hz1 i (by omega))
  obtain ⟨w1, w2⟩ := cpw_wI hA1 hI1 q2 (by omega)
  refine lv_aload_n C.x C.b dX3_undo_0 rfl (lv_at hl 0 rfl) ?_
  refine z_get C hw hA.lt (hA.at _ _) flX3_184 rfl dX3_undo_1 ?_
  refine lv_if_ne (tgt := 17) C.x C.b dX3_undo_4 (by decide) (fun c_4 => ?_) (fun c_4 => absurd (h2.symm.trans c_4) (nI_ne0 h0 (by omega)))
  refine lv_aload_n C.x C.b dX3_undo_17 rfl (lv_at hl 0 rfl) ?_
  refine lv_aload_n C.x C.b dX3_undo_18 rfl (lv_at hl 0 rfl) ?_
  refine z_get C hw hA.lt (hA.at _ _) flX3_189 rfl dX3_undo_19 ?_
  refine z_topi (y := nI ns) (h3) ?_
  refine lv_iconst (v := 4) C.x C.b dX3_undo_22 (by decide) ?_
  refine lv_iadd C.x C.b dX3_undo_23 ?_
  refine z_topi (y := nI (ns + 4)) (by rw [zlit 4, nI_add]) ?_
  refine lv_iconst (v := 1) C.x C.b dX3_undo_24 (by decide) ?_
  refine lv_isub C.x C.b dX3_undo_25 ?_
  refine z_topi (y := nI (ns + 3)) (by rw [zlit 1, zsub (by omega)]; rfl) ?_
  refine lv_iconst (v := 4) C.x C.b dX3_undo_26 (by decide) ?_
  refine lv_irem C.x C.b dX3_undo_27 (by decide) ?_
  refine z_topi (y := nI ((ns + 3) % 4)) (zrem 4 (by omega) (by omega) (by omega)) ?_
  refine z_put C hw hA.lt (hA.at _ _) ptX3_189 (hA.at _ _) (rfl) (rfl) (Nat.le_of_ble_eq_true rfl) dX3_undo_28 (fun H locs hw => ?_)
  obtain ⟨z_1, ez_1⟩ : ∃ q_9, q_9 = zi z 0 3 (nI ((ns + 3) % 4)) := ⟨_, rfl⟩
  have hw : zS G N Λ z_1 sS H locs := by rw [ez_1]; exact hw
  refine lv_aload_n C.x C.b dX3_undo_31 rfl (lv_at hl 0 rfl) ?_
  refine z_get C hw hA.lt (hA.at _ _) flX3_12 rfl dX3_undo_32 ?_
  refine lv_aload_n C.x C.b dX3_undo_35 rfl (lv_at hl 0 rfl) ?_
  refine z_get C hw hA.lt (hA.at _ _) flX3_20 rfl dX3_undo_36 ?_
  refine lv_aload_n C.x C.b dX3_undo_39 rfl (lv_at hl 0 rfl) ?_
  refine z_get C hw hA.lt (hA.at _ _) flX3_189 rfl dX3_undo_40 ?_
  refine z_topi (y := nI ((ns + 3) % 4)) (by rw [ez_1, zi_at, if_pos ⟨rfl, rfl⟩]) ?_
  refine z_pc (pc2 := 43) rfl ?_
  refine z_aaldW (a := G.h + (56 + 54 * ((ns + 3) % 4))) C hw hA.lts hA.sa (zvin hm (by omega)) (by rw [zcl hm (by omega)]) dX3_undo_43 ?_
  rw [← ez_1] at hI1
  refine z_V0 (As := [.ref (G.h + (56 + 54 * ((ns + 3) % 4)))]) (rest := []) C hw hl (m_X2_copyWorld hO _ hA.w0 (hA.ws hm) hI1 q2 (by omega)) ivX3_192 hA.w0.lt (hA.w0.at _ _) rfl rfl ⟨(Nat.le_of_ble_eq_true rfl), (Nat.le_of_ble_eq_true rfl)⟩ (Nat.le_of_ble_eq_true rfl) ⟨Nat.zero_le _, Nat.zero_le _⟩ dX3_undo_44 (fun H locs hw => ?_)
  obtain ⟨z_2, ez_2⟩ : ∃ q_9, q_9 = cpw z_1 1 (56 + 54 * ((ns + 3) % 4)) (Lf (c - 1)) := ⟨_, rfl⟩
  have hw : zS G N Λ z_2 sS H locs := by rw [ez_2]; exact hw
  refine lv_aload_n C.x C.b dX3_undo_47 rfl (lv_at hl 0 rfl) ?_
  refine lv_dup C.x C.b dX3_undo_48 rfl ?_
  refine z_get C hw hA.lt (hA.at _ _) flX3_184 rfl dX3_undo_49 ?_
  refine z_topi (y := nI c) (by rw [ez_2, ez_1, w2.1 0 (by omega), zi_at, if_neg (by omega)]; exact h2) ?_
  refine lv_iconst (v := 1) C.x C.b dX3_undo_52 (by decide) ?_
  refine lv_isub C.x C.b dX3_undo_53 ?_
  refine z_topi (y := nI (c - 1)) (by rw [zlit 1, zsub h0]) ?_
  refine z_put C hw hA.lt (hA.at _ _) ptX3_184 (hA.at _ _) (rfl) (rfl) (Nat.le_of_ble_eq_true rfl) dX3_undo_54 (fun H locs hw => ?_)
  obtain ⟨z_3, ez_3⟩ : ∃ q_9, q_9 = zi z_2 0 2 (nI (c - 1)) := ⟨_, rfl⟩
  have hw : zS G N Λ z_3 sS H locs := by rw [ez_3]; exact hw
  refine lv_aload_n C.x C.b dX3_undo_57 rfl (lv_at hl 0 rfl) ?_
  refine z_get C hw hA.lt (hA.at _ _) flX3_184 rfl dX3_undo_58 ?_
  refine z_topi (y := nI (c - 1)) (by rw [ez_3, zi_at, if_pos ⟨rfl, rfl⟩]) ?_
  exact z_iret C hw dX3_undo_61 (rfl) (by rw [ez_3, ez_2, ez_1]; rfl)

set_option maxRecDepth 100000 in
set_option maxHeartbeats 4000000 in
theorem x_X3_undo {G : zG} {N : Nat} {Λ : zLay} {l : Launch} (hO : zOK G l) (z : zM) (hA : zPo G N Λ) (h2 : z.1 0 2 = nI 0) : zMX G N Λ l yX3_undo cX3_undo 1 (some .int) 6 [.ref (G.h + 0)] z "java/lang/IllegalStateException" := by
  refine zMX_of hO (by decide) (Nat.le_of_ble_eq_true rfl) ?_
  intro pP eE sS mM bB tT cC ls C hout hw hl
  have hl : lv_has ls 1 [(0, .ref (G.h + 0))] := hl
  refine lv_aload_n C.x C.b dX3_undo_0 rfl (lv_at hl 0 rfl) ?_
  refine z_get C hw hA.lt (hA.at _ _) flX3_184 rfl dX3_undo_1 ?_
  refine lv_if_ne (tgt := 17) C.x C.b dX3_undo_4 (by decide) (fun c_4 => absurd c_4 (fun q => q h2)) (fun c_4 => ?_)
  exact z_thr C hw hl th_187 dX3_undo_7 dX3_undo_10 dX3_undo_11 dX3_undo_13 dX3_undo_16 hout (Nat.le_of_ble_eq_true rfl) (Nat.le_of_ble_eq_true rfl) (Nat.le_of_ble_eq_true rfl) (Nat.le_of_ble_eq_true rfl)
