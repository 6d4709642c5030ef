/-! ===== a step of the law: both sides ===== -/
def LI (z : zM) (S : aS) (c : Nat) (Lf : Nat → aS) : Prop := tI z S c Lf ∧ mI z S c Lf
def sE (z2 : zM) (k : Nat) (b : Int32) : Prop := k < 4 ∧ z2.1 272 3 = nI k ∧ (k = 0 → z2.2 275 0 = b.toInt64)
theorem s_mi {z z' : zM} {S S' : aS} {c c' : Nat} {Lf Lf' : Nat → aS} (h : LI z S c Lf) (hc : tI z' S' c' Lf' ∧ zfr z z' 0 272) : mI z' S c Lf := h.2.cg (by rw [hc.2.1 272 (by omega)]) (hc.2.1 273 (by omega)) (hc.2.1 274 (by omega))
theorem s_ok {z z' : zM} {S S' : aS} {c c' : Nat} {Lf Lf' : Nat → aS} (h : LI z S c Lf) (hc : tI z' S' c' Lf' ∧ zfr z z' 0 272) (v : Int32) : mI (zl z' 275 0 v.toInt64) S c Lf := (s_mi h hc).cg rfl rfl rfl
theorem s_fin {z z' z2 : zM} {S' : aS} {c' : Nat} {Lf' : Nat → aS} {v : Int32} (hc : tI z' S' c' Lf' ∧ zfr z z' 0 272) (hn : mI z2 S' c' Lf' ∧ zfr (zl z' 275 0 v.toInt64) z2 272 3 ∧ z2.1 272 3 = 0) : sE z2 0 v ∧ LI z2 S' c' Lf' :=
  ⟨⟨by omega, hn.2.2, fun _ => by rw [hn.2.1.2]; exact zl_s _ _ _ _⟩, hc.1.cg (fun i hi => hn.2.1.1 i (by omega)), hn.1⟩
theorem s_ref {z : zM} {S : aS} {c : Nat} {Lf : Nat → aS} (h : LI z S c Lf) {k : Nat} (h1 : 1 ≤ k) (h4 : k < 4) : sE (zi z 272 3 (nI k)) k 0 ∧ LI (zi z 272 3 (nI k)) S c Lf :=
  ⟨⟨h4, by rw [zi_at, if_pos ⟨rfl, rfl⟩], fun q => by omega⟩, h.1.cg (fun i hi => (mref_fr z (nI k)).1 i (by omega)), h.2.ref _⟩
theorem s_q {z : zM} {S : aS} {c : Nat} {Lf : Nat → aS} (h : LI z S c Lf) : tI z S c Lf ∧ zfr z z 0 272 := ⟨h.1, zfr.rf _ _ _⟩
theorem s_state {G : zG} {N : Nat} {Λ : zLay} {l : Launch} (hO : zOK G l) (hA : zPo G N Λ) (hB : zMo G N Λ) (hJl : 275 < N) (hJ : zJA G Λ 275 1) {z : zM} {S : aS} {c : Nat} {Lf : Nat → aS} (h : LI z S c Lf) (a0 : Int32) : ∃ (k : Nat) (z1 z2 : zM) (r : Int32) (S' : aS) (c' : Nat) (Lf' : Nat → aS), (zMW G N Λ l yL_state cL_state 4 (some .int) [(0, 9, 12, 19)] 9 [.ref (G.h + 0), .int a0, .ref (G.h + 275)] z (some (.int (nI k))) z1 ∧ zMet G N Λ l yX4_state cX4_state 2 (some .int) 2 [.ref (G.h + 272), .int a0] z1 (some (.int r)) z2) ∧ sE z2 k r ∧ LI z2 S' c' Lf' := by
  have hn6 := h.1.o.n6
  by_cases hv0 : isM a0 S.n
  · obtain ⟨x, hx, rfl⟩ := hv0
    have hx6 : x < 6 := by omega
    exact ⟨0, _, _, _, _, _, _, ⟨w_state hO z hA hJl hJ (m_X3_state hO z hA h.1.w h.1.o hx hx6), m_X4_state hO _ hB (s_ok h (s_q h) _) h.1.o hx hx6⟩, s_fin (s_q h) (n_rf (s_ok h (s_q h) _))⟩
  · exact ⟨1, z, _, 0, _, _, _, ⟨wx_state1 hO z hA hJl hJ (x_X3_state hO z hA h.1.w h.1.o hv0), f_X4_state hO z hB h.2 h.1.o hv0⟩, s_ref h (by omega) (by omega)⟩
theorem s_pending {G : zG} {N : Nat} {Λ : zLay} {l : Launch} (hO : zOK G l) (hA : zPo G N Λ) (hB : zMo G N Λ) (hJl : 275 < N) (hJ : zJA G Λ 275 1) {z : zM} {S : aS} {c : Nat} {Lf : Nat → aS} (h : LI z S c Lf) (a0 : Int32) : ∃ (k : Nat) (z1 z2 : zM) (r : Int32) (S' : aS) (c' : Nat) (Lf' : Nat → aS), (zMW G N Λ l yL_pending cL_pending 4 (some .int) [(0, 9, 12, 19)] 9 [.ref (G.h + 0), .int a0, .ref (G.h + 275)] z (some (.int (nI k))) z1 ∧ zMet G N Λ l yX4_pending cX4_pending 2 (some .int) 2 [.ref (G.h + 272), .int a0] z1 (some (.int r)) z2) ∧ sE z2 k r ∧ LI z2 S' c' Lf' := by
  have hn6 := h.1.o.n6
  by_cases hv0 : isM a0 S.n
  · obtain ⟨x, hx, rfl⟩ := hv0
    have hx6 : x < 6 := by omega
    exact ⟨0, _, _, _, _, _, _, ⟨w_pending hO z hA hJl hJ (m_X3_pending hO z hA h.1.w h.1.o hx hx6), m_X4_pending hO _ hB (s_ok h (s_q h) _) h.1.o hx hx6⟩, s_fin (s_q h) (n_rf (s_ok h (s_q h) _))⟩
  · exact ⟨1, z, _, 0, _, _, _, ⟨wx_pending1 hO z hA hJl hJ (x_X3_pending hO z hA h.1.w h.1.o hv0), f_X4_pending hO z hB h.2 h.1.o hv0⟩, s_ref h (by omega) (by omega)⟩
theorem s_logLength {G : zG} {N : Nat} {Λ : zLay} {l : Launch} (hO : zOK G l) (hA : zPo G N Λ) (hB : zMo G N Λ) (hJl : 275 < N) (hJ : zJA G Λ 275 1) {z : zM} {S : aS} {c : Nat} {Lf : Nat → aS} (h : LI z S c Lf) (a0 : Int32) : ∃ (k : Nat) (z1 z2 : zM) (r : Int32) (S' : aS) (c' : Nat) (Lf' : Nat → aS), (zMW G N Λ l yL_logLength cL_logLength 4 (some .int) [(0, 9, 12, 19)] 9 [.ref (G.h + 0), .int a0, .ref (G.h + 275)] z (some (.int (nI k))) z1 ∧ zMet G N Λ l yX4_logLength cX4_logLength 2 (some .int) 2 [.ref (G.h + 272), .int a0] z1 (some (.int r)) z2) ∧ sE z2 k r ∧ LI z2 S' c' Lf' := by
  have hn6 := h.1.o.n6
  by_cases hv0 : isM a0 S.n
  · obtain ⟨x, hx, rfl⟩ := hv0
    have hx6 : x < 6 := by omega
    exact ⟨0, _, _, _, _, _, _, ⟨w_logLength hO z hA hJl hJ (m_X3_logLength hO z hA h.1.w h.1.o hx hx6), m_X4_logLength hO _ hB (s_ok h (s_q h) _) h.1.o hx hx6⟩, s_fin (s_q h) (n_rf (s_ok h (s_q h) _))⟩
  · exact ⟨1, z, _, 0, _, _, _, ⟨wx_logLength1 hO z hA hJl hJ (x_X3_logLength hO z hA h.1.w h.1.o hv0), f_X4_logLength hO z hB h.2 h.1.o hv0⟩, s_ref h (by omega) (by omega)⟩
theorem s_held {G : zG} {N : Nat} {Λ : zLay} {l : Launch} (hO : zOK G l) (hA : zPo G N Λ) (hB : zMo G N Λ) (hJl : 275 < N) (hJ : zJA G Λ 275 1) {z : zM} {S : aS} {c : Nat} {Lf : Nat → aS} (h : LI z S c Lf) (a0 : Int32) : ∃ (k : Nat) (z1 z2 : zM) (r : Int32) (S' : aS) (c' : Nat) (Lf' : Nat → aS), (zMW G N Λ l yL_held cL_held 4 (some .int) [(0, 9, 12, 19)] 9 [.ref (G.h + 0), .int a0, .ref (G.h + 275)] z (some (.int (nI k))) z1 ∧ zMet G N Λ l yX4_held cX4_held 2 (some .int) 2 [.ref (G.h + 272), .int a0] z1 (some (.int r)) z2) ∧ sE z2 k r ∧ LI z2 S' c' Lf' := by
  have hn6 := h.1.o.n6
  by_cases hv0 : isM a0 S.n
  · obtain ⟨x, hx, rfl⟩ := hv0
    have hx6 : x < 6 := by omega
    exact ⟨0, _, _, _, _, _, _, ⟨w_held hO z hA hJl hJ (m_X3_held hO z hA h.1.w h.1.o hx hx6), m_X4_held hO _ hB (s_ok h (s_q h) _) h.1.o hx hx6⟩, s_fin (s_q h) (n_rf (s_ok h (s_q h) _))⟩
  · exact ⟨1, z, _, 0, _, _, _, ⟨wx_held1 hO z hA hJl hJ (x_X3_held hO z hA h.1.w h.1.o hv0), f_X4_held hO z hB h.2 h.1.o hv0⟩, s_ref h (by omega) (by omega)⟩
theorem s_entry {G : zG} {N : Nat} {Λ : zLay} {l : Launch} (hO : zOK G l) (hA : zPo G N Λ) (hB : zMo G N Λ) (hJl : 275 < N) (hJ : zJA G Λ 275 1) {z : zM} {S : aS} {c : Nat} {Lf : Nat → aS} (h : LI z S c Lf) (a0 a1 : Int32) : ∃ (k : Nat) (z1 z2 : zM) (r : Int32) (S' : aS) (c' : Nat) (Lf' : Nat → aS), (zMW G N Λ l yL_entry cL_entry 5 (some .int) [(0, 10, 13, 19)] 9 [.ref (G.h + 0), .int a0, .int a1, .ref (G.h + 275)] z (some (.int (nI k))) z1 ∧ zMet G N Λ l yX4_entry cX4_entry 3 (some .int) 3 [.ref (G.h + 272), .int a0, .int a1] z1 (some (.int r)) z2) ∧ sE z2 k r ∧ LI z2 S' c' Lf' := by
  have hn6 := h.1.o.n6
  by_cases hv0 : isM a0 S.n
  · obtain ⟨x, hx, rfl⟩ := hv0
    have hx6 : x < 6 := by omega
    by_cases he0 : isM a1 (S.m x).log.1
    · obtain ⟨e, he, rfl⟩ := he0
      exact ⟨0, _, _, _, _, _, _, ⟨w_entry hO z hA hJl hJ (m_X3_entry hO z hA h.1.w h.1.o hx hx6 he), m_X4_entry hO _ hB (s_ok h (s_q h) _) h.1.o hx hx6 he⟩, s_fin (s_q h) (n_rf (s_ok h (s_q h) _))⟩
    · exact ⟨1, z, _, 0, _, _, _, ⟨wx_entry1 hO z hA hJl hJ (x_X3_entry2 hO z hA h.1.w h.1.o hx hx6 he0), f_X4_entry2 hO z hB h.2 h.1.o hx hx6 he0⟩, s_ref h (by omega) (by omega)⟩
  · exact ⟨1, z, _, 0, _, _, _, ⟨wx_entry1 hO z hA hJl hJ (x_X3_entry1 hO z hA h.1.w h.1.o hv0), f_X4_entry1 hO z hB h.2 h.1.o hv0⟩, s_ref h (by omega) (by omega)⟩
theorem s_chain {G : zG} {N : Nat} {Λ : zLay} {l : Launch} (hO : zOK G l) (hA : zPo G N Λ) (hB : zMo G N Λ) (hJl : 275 < N) (hJ : zJA G Λ 275 1) {z : zM} {S : aS} {c : Nat} {Lf : Nat → aS} (h : LI z S c Lf) (a0 a1 : Int32) : ∃ (k : Nat) (z1 z2 : zM) (r : Int32) (S' : aS) (c' : Nat) (Lf' : Nat → aS), (zMW G N Λ l yL_chain cL_chain 5 (some .int) [(0, 10, 13, 19)] 9 [.ref (G.h + 0), .int a0, .int a1, .ref (G.h + 275)] z (some (.int (nI k))) z1 ∧ zMet G N Λ l yX4_chain cX4_chain 3 (some .int) 4 [.ref (G.h + 272), .int a0, .int a1] z1 (some (.int r)) z2) ∧ sE z2 k r ∧ LI z2 S' c' Lf' := by
  have hn6 := h.1.o.n6
  by_cases hv0 : isM a0 S.n
  · obtain ⟨x, hx, rfl⟩ := hv0
    have hx6 : x < 6 := by omega
    by_cases he0 : isM a1 ((S.m x).log.1 + 1)
    · obtain ⟨i, hi, rfl⟩ := he0
      have hi : i ≤ (S.m x).log.1 := by omega
      exact ⟨0, _, _, _, _, _, _, ⟨w_chain hO z hA hJl hJ (m_X3_chain hO z hA h.1.w h.1.o hx hx6 hi), m_X4_chain hO _ hB (s_ok h (s_q h) _) h.1.o hx hx6 hi⟩, s_fin (s_q h) (n_rf (s_ok h (s_q h) _))⟩
    · exact ⟨1, z, _, 0, _, _, _, ⟨wx_chain1 hO z hA hJl hJ (x_X3_chain2 hO z hA h.1.w h.1.o hx hx6 he0), f_X4_chain2 hO z hB h.2 h.1.o hx hx6 he0⟩, s_ref h (by omega) (by omega)⟩
  · exact ⟨1, z, _, 0, _, _, _, ⟨wx_chain1 hO z hA hJl hJ (x_X3_chain1 hO z hA h.1.w h.1.o hv0), f_X4_chain1 hO z hB h.2 h.1.o hv0⟩, s_ref h (by omega) (by omega)⟩
theorem s_authenticator {G : zG} {N : Nat} {Λ : zLay} {l : Launch} (hO : zOK G l) (hA : zPo G N Λ) (hB : zMo G N Λ) (hJl : 275 < N) (hJ : zJA G Λ 275 1) {z : zM} {S : aS} {c : Nat} {Lf : Nat → aS} (h : LI z S c Lf) (a0 a1 a2 : Int32) : ∃ (k : Nat) (z1 z2 : zM) (r : Int32) (S' : aS) (c' : Nat) (Lf' : Nat → aS), (zMW G N Λ l yL_authenticator cL_authenticator 6 (some .int) [(0, 12, 15, 19), (0, 12, 19, 13)] 9 [.ref (G.h + 0), .int a0, .int a1, .int a2, .ref (G.h + 275)] z (some (.int (nI k))) z1 ∧ zMet G N Λ l yX4_authenticator cX4_authenticator 4 (some .int) 2 [.ref (G.h + 272), .int a0, .int a1, .int a2] z1 (some (.int r)) z2) ∧ sE z2 k r ∧ LI z2 S' c' Lf' := by
  have hn6 := h.1.o.n6
  by_cases hv0 : isM a0 S.n
  · obtain ⟨x, hx, rfl⟩ := hv0
    have hx6 : x < 6 := by omega
    by_cases he0 : isM a1 (S.m x).held.1
    · obtain ⟨i, hi, rfl⟩ := he0
      by_cases hw0 : isM a2 3
      · obtain ⟨w, hw3, rfl⟩ := hw0
        exact ⟨0, _, _, _, _, _, _, ⟨w_authenticator hO z hA hJl hJ (m_X3_authenticator hO z hA h.1.w h.1.o hx hx6 hi hw3), m_X4_authenticator hO _ hB (s_ok h (s_q h) _) h.1.o hx hx6 hi hw3⟩, s_fin (s_q h) (n_rf (s_ok h (s_q h) _))⟩
      · exact ⟨2, z, _, 0, _, _, _, ⟨wx_authenticator2 hO z hA hJl hJ (x_X3_authenticator3 hO z hA h.1.w h.1.o hx hx6 hi hw0), f_X4_authenticator3 hO z hB h.2 h.1.o hx hx6 hi hw0⟩, s_ref h (by omega) (by omega)⟩
    · exact ⟨1, z, _, 0, _, _, _, ⟨wx_authenticator1 hO z hA hJl hJ (x_X3_authenticator2 hO z hA h.1.w h.1.o hx hx6 he0), f_X4_authenticator2 hO z hB h.2 h.1.o hx hx6 he0⟩, s_ref h (by omega) (by omega)⟩
  · exact ⟨1, z, _, 0, _, _, _, ⟨wx_authenticator1 hO z hA hJl hJ (x_X3_authenticator1 hO z hA h.1.w h.1.o hv0), f_X4_authenticator1 hO z hB h.2 h.1.o hv0⟩, s_ref h (by omega) (by omega)⟩
theorem s_verdict {G : zG} {N : Nat} {Λ : zLay} {l : Launch} (hO : zOK G l) (hA : zPo G N Λ) (hB : zMo G N Λ) (hJl : 275 < N) (hJ : zJA G Λ 275 1) {z : zM} {S : aS} {c : Nat} {Lf : Nat → aS} (h : LI z S c Lf) (a0 a1 : Int32) : ∃ (k : Nat) (z1 z2 : zM) (r : Int32) (S' : aS) (c' : Nat) (Lf' : Nat → aS), (zMW G N Λ l yL_verdict cL_verdict 5 (some .int) [(0, 10, 13, 19)] 9 [.ref (G.h + 0), .int a0, .int a1, .ref (G.h + 275)] z (some (.int (nI k))) z1 ∧ zMet G N Λ l yX4_verdict cX4_verdict 3 (some .int) 2 [.ref (G.h + 272), .int a0, .int a1] z1 (some (.int r)) z2) ∧ sE z2 k r ∧ LI z2 S' c' Lf' := by
  have hn6 := h.1.o.n6
  by_cases hw0 : isM a0 S.n
  · obtain ⟨w, hwn, rfl⟩ := hw0
    have hw6 : w < 6 := by omega
    by_cases hv0 : isM a1 S.n
    · obtain ⟨x, hx, rfl⟩ := hv0
      have hx6 : x < 6 := by omega
      exact ⟨0, _, _, _, _, _, _, ⟨w_verdict hO z hA hJl hJ (m_X3_verdict hO z hA h.1.w h.1.o hx hx6 hwn hw6), m_X4_verdict hO _ hB (s_ok h (s_q h) _) h.1.o hx hx6 hwn hw6⟩, s_fin (s_q h) (n_rf (s_ok h (s_q h) _))⟩
    · exact ⟨1, z, _, 0, _, _, _, ⟨wx_verdict1 hO z hA hJl hJ (x_X3_verdict2 hO z hA h.1.w h.1.o hwn hv0), f_X4_verdict2 hO z hB h.2 h.1.o hwn hv0⟩, s_ref h (by omega) (by omega)⟩
  · exact ⟨1, z, _, 0, _, _, _, ⟨wx_verdict1 hO z hA hJl hJ (x_X3_verdict1 hO z hA h.1.w h.1.o hw0), f_X4_verdict1 hO z hB h.2 h.1.o hw0⟩, s_ref h (by omega) (by omega)⟩
theorem s_verdictMask {G : zG} {N : Nat} {Λ : zLay} {l : Launch} (hO : zOK G l) (hA : zPo G N Λ) (hB : zMo G N Λ) (hJl : 275 < N) (hJ : zJA G Λ 275 1) {z : zM} {S : aS} {c : Nat} {Lf : Nat → aS} (h : LI z S c Lf) (a0 : Int32) : ∃ (k : Nat) (z1 z2 : zM) (r : Int32) (S' : aS) (c' : Nat) (Lf' : Nat → aS), (zMW G N Λ l yL_verdictMask cL_verdictMask 4 (some .int) [(0, 9, 12, 13)] 9 [.ref (G.h + 0), .int a0, .ref (G.h + 275)] z (some (.int (nI k))) z1 ∧ zMet G N Λ l yX4_verdictMask cX4_verdictMask 5 (some .int) 3 [.ref (G.h + 272), .int a0] z1 (some (.int r)) z2) ∧ sE z2 k r ∧ LI z2 S' c' Lf' := by
  have hn6 := h.1.o.n6
  by_cases hv0 : isM a0 3
  · obtain ⟨v, hv, rfl⟩ := hv0
    have hv2 : v ≤ 2 := by omega
    exact ⟨0, _, _, _, _, _, _, ⟨w_verdictMask hO z hA hJl hJ (m_X3_verdictMask hO z hA h.1.w h.1.o hv2), m_X4_verdictMask hO _ hB (s_ok h (s_q h) _) h.1.o hv2⟩, s_fin (s_q h) (n_rf (s_ok h (s_q h) _))⟩
  · exact ⟨1, z, _, 0, _, _, _, ⟨wx_verdictMask1 hO z hA hJl hJ (x_X3_verdictMask hO z hA hv0), f_X4_verdictMask hO z hB h.2 h.1.o hv0⟩, s_ref h (by omega) (by omega)⟩
theorem s_evidence {G : zG} {N : Nat} {Λ : zLay} {l : Launch} (hO : zOK G l) (hA : zPo G N Λ) (hB : zMo G N Λ) (hJl : 275 < N) (hJ : zJA G Λ 275 1) {z : zM} {S : aS} {c : Nat} {Lf : Nat → aS} (h : LI z S c Lf) (a0 a1 : Int32) : ∃ (k : Nat) (z1 z2 : zM) (r : Int32) (S' : aS) (c' : Nat) (Lf' : Nat → aS), (zMW G N Λ l yL_evidence cL_evidence 5 (some .int) [(0, 10, 13, 19), (0, 10, 17, 13)] 9 [.ref (G.h + 0), .int a0, .int a1, .ref (G.h + 275)] z (some (.int (nI k))) z1 ∧ zMet G N Λ l yX4_evidence cX4_evidence 3 (some .int) 1 [.ref (G.h + 272), .int a0, .int a1] z1 (some (.int r)) z2) ∧ sE z2 k r ∧ LI z2 S' c' Lf' := by
  have hn6 := h.1.o.n6
  by_cases hi0 : isM a0 S.ev.1
  · obtain ⟨i, hi, rfl⟩ := hi0
    by_cases hw0 : isM a1 4
    · obtain ⟨w, hw4, rfl⟩ := hw0
      exact ⟨0, _, _, _, _, _, _, ⟨w_evidence hO z hA hJl hJ (m_X3_evidence hO z hA h.1.w h.1.o hi hw4), m_X4_evidence hO _ hB (s_ok h (s_q h) _) h.1.o hi hw4⟩, s_fin (s_q h) (n_rf (s_ok h (s_q h) _))⟩
    · exact ⟨2, z, _, 0, _, _, _, ⟨wx_evidence2 hO z hA hJl hJ (x_X3_evidence2 hO z hA h.1.w h.1.o hi hw0), f_X4_evidence2 hO z hB h.2 h.1.o hi hw0⟩, s_ref h (by omega) (by omega)⟩
  · exact ⟨1, z, _, 0, _, _, _, ⟨wx_evidence1 hO z hA hJl hJ (x_X3_evidence1 hO z hA h.1.w h.1.o hi0), f_X4_evidence1 hO z hB h.2 h.1.o hi0⟩, s_ref h (by omega) (by omega)⟩
theorem s_reset {G : zG} {N : Nat} {Λ : zLay} {l : Launch} (hO : zOK G l) (hA : zPo G N Λ) (hB : zMo G N Λ) (hJl : 275 < N) (hJ : zJA G Λ 275 1) {z : zM} {S : aS} {c : Nat} {Lf : Nat → aS} (h : LI z S c Lf) (a0 : Int32) : ∃ (k : Nat) (z1 z2 : zM) (r : Int32) (S' : aS) (c' : Nat) (Lf' : Nat → aS), (zMW G N Λ l yL_reset cL_reset 4 (some .int) [(0, 9, 12, 13)] 9 [.ref (G.h + 0), .int a0, .ref (G.h + 275)] z (some (.int (nI k))) z1 ∧ zMet G N Λ l yX4_reset cX4_reset 3 (some .int) 2 [.ref (G.h + 272), .int a0] z1 (some (.int r)) z2) ∧ sE z2 k r ∧ LI z2 S' c' Lf' := by
  have hn6 := h.1.o.n6
  by_cases hv0 : ∃ n, 2 ≤ n ∧ n ≤ 6 ∧ a0 = nI n
  · obtain ⟨n, hn2, hn7, rfl⟩ := hv0
    obtain ⟨z', hc, hm⟩ := c_reset hO hA h.1 hn2 hn7
    obtain ⟨z2, hn, hm2⟩ := n_reset hO hB (s_ok h hc _) h.1.o hn2 hn7
    exact ⟨0, _, z2, _, _, _, _, ⟨w_reset hO z hA hJl hJ  hm, hm2⟩, s_fin hc hn⟩
  · exact ⟨1, z, _, 0, _, _, _, ⟨wx_reset1 hO z hA hJl hJ (x_X3_reset hO z hA hv0), f_X4_reset hO z hB h.2 h.1.o hv0⟩, s_ref h (by omega) (by omega)⟩
theorem s_run {G : zG} {N : Nat} {Λ : zLay} {l : Launch} (hO : zOK G l) (hA : zPo G N Λ) (hB : zMo G N Λ) (hJl : 275 < N) (hJ : zJA G Λ 275 1) {z : zM} {S : aS} {c : Nat} {Lf : Nat → aS} (h : LI z S c Lf) (a0 : Int32) : ∃ (k : Nat) (z1 z2 : zM) (r : Int32) (S' : aS) (c' : Nat) (Lf' : Nat → aS), (zMW G N Λ l yL_run cL_run 4 (some .int) [(0, 9, 12, 13)] 9 [.ref (G.h + 0), .int a0, .ref (G.h + 275)] z (some (.int (nI k))) z1 ∧ zMet G N Λ l yX4_run cX4_run 3 (some .int) 6 [.ref (G.h + 272), .int a0] z1 (some (.int r)) z2) ∧ sE z2 k r ∧ LI z2 S' c' Lf' := by
  have hn6 := h.1.o.n6
  by_cases hv0 : ∃ n, 1 ≤ n ∧ n ≤ 100 ∧ a0 = nI n
  · obtain ⟨n, hn1, hn7, rfl⟩ := hv0
    obtain ⟨z', hc, hm⟩ := c_run hO hA h.1 hn1 hn7
    obtain ⟨z2, hn, hm2⟩ := n_run hO hB (s_ok h hc _) h.1.o hn1 hn7
    exact ⟨0, _, z2, _, _, _, _, ⟨w_run hO z hA hJl hJ  hm, hm2⟩, s_fin hc hn⟩
  · exact ⟨1, z, _, 0, _, _, _, ⟨wx_run1 hO z hA hJl hJ (x_X3_run hO z hA hv0), f_X4_run hO z hB h.2 h.1.o hv0⟩, s_ref h (by omega) (by omega)⟩
theorem s_input {G : zG} {N : Nat} {Λ : zLay} {l : Launch} (hO : zOK G l) (hA : zPo G N Λ) (hB : zMo G N Λ) (hJl : 275 < N) (hJ : zJA G Λ 275 1) {z : zM} {S : aS} {c : Nat} {Lf : Nat → aS} (h : LI z S c Lf) (a0 a1 : Int32) : ∃ (k : Nat) (z1 z2 : zM) (r : Int32) (S' : aS) (c' : Nat) (Lf' : Nat → aS), (zMW G N Λ l yL_input cL_input 5 (some .int) [(0, 10, 13, 19), (0, 10, 17, 13), (0, 10, 21, 21)] 9 [.ref (G.h + 0), .int a0, .int a1, .ref (G.h + 275)] z (some (.int (nI k))) z1 ∧ zMet G N Λ l yX4_input cX4_input 3 (some .int) 5 [.ref (G.h + 272), .int a0, .int a1] z1 (some (.int r)) z2) ∧ sE z2 k r ∧ LI z2 S' c' Lf' := by
  have hn6 := h.1.o.n6
  by_cases hv0 : isM a0 S.n
  · obtain ⟨x, hx, rfl⟩ := hv0
    have hx6 : x < 6 := by omega
    by_cases hu0 : isM a1 1000
    · obtain ⟨v, hv, rfl⟩ := hu0
      by_cases hr0 : (S.m x).log.1 ≤ 38 ∧ S.q.1 ≤ 39
      · obtain ⟨z', hc, hm⟩ := c_input hO hA h.1 hx hv hr0.1 hr0.2
        obtain ⟨z2, hn, hm2⟩ := n_input hO hB (s_ok h hc _) h.1.o hx hv hr0.1 hr0.2
        exact ⟨0, _, z2, _, _, _, _, ⟨w_input hO z hA hJl hJ  hm, hm2⟩, s_fin hc hn⟩
      · exact ⟨3, z, _, 0, _, _, _, ⟨wx_input3 hO z hA hJl hJ (x_X3_input3 hO z hA h.1.w h.1.o hx hx6 hv hr0), f_X4_input3 hO z hB h.2 h.1.o hx hx6 hv hr0⟩, s_ref h (by omega) (by omega)⟩
    · exact ⟨2, z, _, 0, _, _, _, ⟨wx_input2 hO z hA hJl hJ (x_X3_input2 hO z hA h.1.w h.1.o hx hx6 hu0), f_X4_input2 hO z hB h.2 h.1.o hx hx6 hu0⟩, s_ref h (by omega) (by omega)⟩
  · exact ⟨1, z, _, 0, _, _, _, ⟨wx_input1 hO z hA hJl hJ (x_X3_input1 hO z hA h.1.w h.1.o hv0), f_X4_input1 hO z hB h.2 h.1.o hv0⟩, s_ref h (by omega) (by omega)⟩
theorem s_setSilent {G : zG} {N : Nat} {Λ : zLay} {l : Launch} (hO : zOK G l) (hA : zPo G N Λ) (hB : zMo G N Λ) (hJl : 275 < N) (hJ : zJA G Λ 275 1) {z : zM} {S : aS} {c : Nat} {Lf : Nat → aS} (h : LI z S c Lf) (a0 : Int32) {b : Nat} (hb : b < 2) : ∃ (k : Nat) (z1 z2 : zM) (r : Int32) (S' : aS) (c' : Nat) (Lf' : Nat → aS), (zMW G N Λ l yL_setSilent cL_setSilent 5 (some .int) [(0, 10, 13, 19)] 9 [.ref (G.h + 0), .int a0, .int (nI b), .ref (G.h + 275)] z (some (.int (nI k))) z1 ∧ zMet G N Λ l yX4_setSilent cX4_setSilent 3 (some .int) 2 [.ref (G.h + 272), .int a0, .int (nI b)] z1 (some (.int r)) z2) ∧ sE z2 k r ∧ LI z2 S' c' Lf' := by
  have hn6 := h.1.o.n6
  by_cases hv0 : isM a0 S.n
  · obtain ⟨x, hx, rfl⟩ := hv0
    have hx6 : x < 6 := by omega
    obtain ⟨z', hc, hm⟩ := c_setSilent hO hA h.1 hx hb
    obtain ⟨z2, hn, hm2⟩ := n_setSilent hO hB (s_ok h hc _) h.1.o hx hb
    exact ⟨0, _, z2, _, _, _, _, ⟨w_setSilent hO z hA hJl hJ  hm, hm2⟩, s_fin hc hn⟩
  · exact ⟨1, z, _, 0, _, _, _, ⟨wx_setSilent1 hO z hA hJl hJ (x_X3_setSilent hO z hA h.1.w h.1.o hv0), f_X4_setSilent hO z hB h.2 h.1.o hv0⟩, s_ref h (by omega) (by omega)⟩
theorem s_lie {G : zG} {N : Nat} {Λ : zLay} {l : Launch} (hO : zOK G l) (hA : zPo G N Λ) (hB : zMo G N Λ) (hJl : 275 < N) (hJ : zJA G Λ 275 1) {z : zM} {S : aS} {c : Nat} {Lf : Nat → aS} (h : LI z S c Lf) (a0 : Int32) : ∃ (k : Nat) (z1 z2 : zM) (r : Int32) (S' : aS) (c' : Nat) (Lf' : Nat → aS), (zMW G N Λ l yL_lie cL_lie 4 (some .int) [(0, 16, 19, 19)] 9 [.ref (G.h + 0), .int a0, .ref (G.h + 275)] z (some (.int (nI k))) z1 ∧ zMet G N Λ l yX4_lie cX4_lie 3 (some .boolean) 2 [.ref (G.h + 272), .int a0] z1 (some (.int r)) z2) ∧ sE z2 k r ∧ LI z2 S' c' Lf' := by
  have hn6 := h.1.o.n6
  by_cases hv0 : isM a0 S.n
  · obtain ⟨x, hx, rfl⟩ := hv0
    have hx6 : x < 6 := by omega
    obtain ⟨z', hc, hm⟩ := c_lie hO hA h.1 hx
    obtain ⟨z2, hn, hm2⟩ := n_lie hO hB (s_ok h hc _) h.1.o hx
    exact ⟨0, _, z2, _, _, _, _, ⟨w_lie hO z hA hJl hJ (h.1.o.m hx).lie hm, hm2⟩, s_fin hc hn⟩
  · exact ⟨1, z, _, 0, _, _, _, ⟨wx_lie1 hO z hA hJl hJ (x_X3_lie hO z hA h.1.w h.1.o hv0), f_X4_lie hO z hB h.2 h.1.o hv0⟩, s_ref h (by omega) (by omega)⟩
theorem s_resend {G : zG} {N : Nat} {Λ : zLay} {l : Launch} (hO : zOK G l) (hA : zPo G N Λ) (hB : zMo G N Λ) (hJl : 275 < N) (hJ : zJA G Λ 275 1) {z : zM} {S : aS} {c : Nat} {Lf : Nat → aS} (h : LI z S c Lf) (a0 : Int32) : ∃ (k : Nat) (z1 z2 : zM) (r : Int32) (S' : aS) (c' : Nat) (Lf' : Nat → aS), (zMW G N Λ l yL_resend cL_resend 4 (some .int) [(0, 9, 12, 19), (0, 9, 15, 21)] 9 [.ref (G.h + 0), .int a0, .ref (G.h + 275)] z (some (.int (nI k))) z1 ∧ zMet G N Λ l yX4_resend cX4_resend 4 (some .int) 2 [.ref (G.h + 272), .int a0] z1 (some (.int r)) z2) ∧ sE z2 k r ∧ LI z2 S' c' Lf' := by
  have hn6 := h.1.o.n6
  by_cases hv0 : isM a0 S.n
  · obtain ⟨x, hx, rfl⟩ := hv0
    have hx6 : x < 6 := by omega
    by_cases hq0 : S.q.1 + (S.m x).pend.1 ≤ 40
    · obtain ⟨z', hc, hm⟩ := c_resend hO hA h.1 hx hq0
      obtain ⟨z2, hn, hm2⟩ := n_resend hO hB (s_ok h hc _) h.1.o hx hq0
      exact ⟨0, _, z2, _, _, _, _, ⟨w_resend hO z hA hJl hJ  hm, hm2⟩, s_fin hc hn⟩
    · exact ⟨2, z, _, 0, _, _, _, ⟨wx_resend2 hO z hA hJl hJ (x_X3_resend2 hO z hA h.1.w h.1.o hx hx6 hq0), f_X4_resend2 hO z hB h.2 h.1.o hx hx6 hq0⟩, s_ref h (by omega) (by omega)⟩
  · exact ⟨1, z, _, 0, _, _, _, ⟨wx_resend1 hO z hA hJl hJ (x_X3_resend1 hO z hA h.1.w h.1.o hv0), f_X4_resend1 hO z hB h.2 h.1.o hv0⟩, s_ref h (by omega) (by omega)⟩
theorem s_tamper {G : zG} {N : Nat} {Λ : zLay} {l : Launch} (hO : zOK G l) (hA : zPo G N Λ) (hB : zMo G N Λ) (hJl : 275 < N) (hJ : zJA G Λ 275 1) {z : zM} {S : aS} {c : Nat} {Lf : Nat → aS} (h : LI z S c Lf) (a0 a1 a2 : Int32) : ∃ (k : Nat) (z1 z2 : zM) (r : Int32) (S' : aS) (c' : Nat) (Lf' : Nat → aS), (zMW G N Λ l yL_tamper cL_tamper 6 (some .int) [(0, 12, 15, 19), (0, 12, 19, 13)] 9 [.ref (G.h + 0), .int a0, .int a1, .int a2, .ref (G.h + 275)] z (some (.int (nI k))) z1 ∧ zMet G N Λ l yX4_tamper cX4_tamper 5 (some .int) 3 [.ref (G.h + 272), .int a0, .int a1, .int a2] z1 (some (.int r)) z2) ∧ sE z2 k r ∧ LI z2 S' c' Lf' := by
  have hn6 := h.1.o.n6
  by_cases hv0 : isM a0 S.n
  · obtain ⟨x, hx, rfl⟩ := hv0
    have hx6 : x < 6 := by omega
    by_cases he0 : isM a1 (S.m x).log.1
    · obtain ⟨e, he, rfl⟩ := he0
      by_cases hu0 : isM a2 1000
      · obtain ⟨v, hv, rfl⟩ := hu0
        obtain ⟨z', hc, hm⟩ := c_tamper hO hA h.1 hx he hv
        obtain ⟨z2, hn, hm2⟩ := n_tamper hO hB (s_ok h hc _) h.1.o hx he hv
        exact ⟨0, _, z2, _, _, _, _, ⟨w_tamper hO z hA hJl hJ  hm, hm2⟩, s_fin hc hn⟩
      · exact ⟨2, z, _, 0, _, _, _, ⟨wx_tamper2 hO z hA hJl hJ (x_X3_tamper3 hO z hA h.1.w h.1.o hx hx6 he hu0), f_X4_tamper3 hO z hB h.2 h.1.o hx hx6 he hu0⟩, s_ref h (by omega) (by omega)⟩
    · exact ⟨1, z, _, 0, _, _, _, ⟨wx_tamper1 hO z hA hJl hJ (x_X3_tamper2 hO z hA h.1.w h.1.o hx hx6 he0), f_X4_tamper2 hO z hB h.2 h.1.o hx hx6 he0⟩, s_ref h (by omega) (by omega)⟩
  · exact ⟨1, z, _, 0, _, _, _, ⟨wx_tamper1 hO z hA hJl hJ (x_X3_tamper1 hO z hA h.1.w h.1.o hv0), f_X4_tamper1 hO z hB h.2 h.1.o hv0⟩, s_ref h (by omega) (by omega)⟩
theorem s_cut {G : zG} {N : Nat} {Λ : zLay} {l : Launch} (hO : zOK G l) (hA : zPo G N Λ) (hB : zMo G N Λ) (hJl : 275 < N) (hJ : zJA G Λ 275 1) {z : zM} {S : aS} {c : Nat} {Lf : Nat → aS} (h : LI z S c Lf) (a0 a1 : Int32) : ∃ (k : Nat) (z1 z2 : zM) (r : Int32) (S' : aS) (c' : Nat) (Lf' : Nat → aS), (zMW G N Λ l yL_cut cL_cut 5 (some .int) [(0, 10, 13, 19), (0, 10, 17, 13)] 9 [.ref (G.h + 0), .int a0, .int a1, .ref (G.h + 275)] z (some (.int (nI k))) z1 ∧ zMet G N Λ l yX4_cut cX4_cut 3 (some .int) 2 [.ref (G.h + 272), .int a0, .int a1] z1 (some (.int r)) z2) ∧ sE z2 k r ∧ LI z2 S' c' Lf' := by
  have hn6 := h.1.o.n6
  by_cases hv0 : isM a0 S.n
  · obtain ⟨x, hx, rfl⟩ := hv0
    have hx6 : x < 6 := by omega
    by_cases hu0 : ∃ n, 1 ≤ n ∧ n ≤ (S.m x).log.1 ∧ a1 = nI n
    · obtain ⟨k, hk1, hk2, rfl⟩ := hu0
      obtain ⟨z', hc, hm⟩ := c_cut hO hA h.1 hx hk1 hk2
      obtain ⟨z2, hn, hm2⟩ := n_cut hO hB (s_ok h hc _) h.1.o hx hk1 hk2
      exact ⟨0, _, z2, _, _, _, _, ⟨w_cut hO z hA hJl hJ  hm, hm2⟩, s_fin hc hn⟩
    · exact ⟨2, z, _, 0, _, _, _, ⟨wx_cut2 hO z hA hJl hJ (x_X3_cut2 hO z hA h.1.w h.1.o hx hx6 hu0), f_X4_cut2 hO z hB h.2 h.1.o hx hx6 hu0⟩, s_ref h (by omega) (by omega)⟩
  · exact ⟨1, z, _, 0, _, _, _, ⟨wx_cut1 hO z hA hJl hJ (x_X3_cut1 hO z hA h.1.w h.1.o hv0), f_X4_cut1 hO z hB h.2 h.1.o hv0⟩, s_ref h (by omega) (by omega)⟩
theorem s_setWitnesses {G : zG} {N : Nat} {Λ : zLay} {l : Launch} (hO : zOK G l) (hA : zPo G N Λ) (hB : zMo G N Λ) (hJl : 275 < N) (hJ : zJA G Λ 275 1) {z : zM} {S : aS} {c : Nat} {Lf : Nat → aS} (h : LI z S c Lf) (a0 a1 : Int32) : ∃ (k : Nat) (z1 z2 : zM) (r : Int32) (S' : aS) (c' : Nat) (Lf' : Nat → aS), (zMW G N Λ l yL_setWitnesses cL_setWitnesses 5 (some .int) [(0, 10, 13, 19), (0, 10, 17, 13)] 9 [.ref (G.h + 0), .int a0, .int a1, .ref (G.h + 275)] z (some (.int (nI k))) z1 ∧ zMet G N Λ l yX4_setWitnesses cX4_setWitnesses 4 (some .int) 2 [.ref (G.h + 272), .int a0, .int a1] z1 (some (.int r)) z2) ∧ sE z2 k r ∧ LI z2 S' c' Lf' := by
  have hn6 := h.1.o.n6
  by_cases hv0 : isM a0 S.n
  · obtain ⟨x, hx, rfl⟩ := hv0
    have hx6 : x < 6 := by omega
    by_cases hu0 : wOK a1 x S.n
    · obtain ⟨k, hk, hb, rfl⟩ := hu0
      obtain ⟨z', hc, hm⟩ := c_setWitnesses hO hA h.1 hx hk hb
      obtain ⟨z2, hn, hm2⟩ := n_setWitnesses hO hB (s_ok h hc _) h.1.o hx hk hb
      exact ⟨0, _, z2, _, _, _, _, ⟨w_setWitnesses hO z hA hJl hJ  hm, hm2⟩, s_fin hc hn⟩
    · exact ⟨2, z, _, 0, _, _, _, ⟨wx_setWitnesses2 hO z hA hJl hJ (x_X3_setWitnesses2 hO z hA h.1.w h.1.o hx hx6 (fun q => hu0 ((wOK_c hx hn6).mp q))), f_X4_setWitnesses2 hO z hB h.2 h.1.o hx hx6 hu0⟩, s_ref h (by omega) (by omega)⟩
  · exact ⟨1, z, _, 0, _, _, _, ⟨wx_setWitnesses1 hO z hA hJl hJ (x_X3_setWitnesses1 hO z hA h.1.w h.1.o hv0), f_X4_setWitnesses1 hO z hB h.2 h.1.o hv0⟩, s_ref h (by omega) (by omega)⟩
theorem s_audit {G : zG} {N : Nat} {Λ : zLay} {l : Launch} (hO : zOK G l) (hA : zPo G N Λ) (hB : zMo G N Λ) (hJl : 275 < N) (hJ : zJA G Λ 275 1) {z : zM} {S : aS} {c : Nat} {Lf : Nat → aS} (h : LI z S c Lf) (a0 a1 : Int32) : ∃ (k : Nat) (z1 z2 : zM) (r : Int32) (S' : aS) (c' : Nat) (Lf' : Nat → aS), (zMW G N Λ l yL_audit cL_audit 5 (some .int) [(0, 10, 13, 19), (0, 10, 17, 21)] 9 [.ref (G.h + 0), .int a0, .int a1, .ref (G.h + 275)] z (some (.int (nI k))) z1 ∧ zMet G N Λ l yX4_audit cX4_audit 4 (some .int) 6 [.ref (G.h + 272), .int a0, .int a1] z1 (some (.int r)) z2) ∧ sE z2 k r ∧ LI z2 S' c' Lf' := by
  have hn6 := h.1.o.n6
  by_cases hw0 : isM a0 S.n
  · obtain ⟨w, hwn, rfl⟩ := hw0
    have hw6 : w < 6 := by omega
    by_cases hv0 : isM a1 S.n
    · obtain ⟨x, hx, rfl⟩ := hv0
      have hx6 : x < 6 := by omega
      by_cases hb0 : (S.m x).wit.testBit w = true
      · obtain ⟨z', hc, hm⟩ := c_audit hO hA h.1 hx hwn hb0
        obtain ⟨z2, hn, hm2⟩ := n_audit hO hB (s_ok h hc _) h.1.o hx hwn hb0
        exact ⟨0, _, z2, _, _, _, _, ⟨w_audit hO z hA hJl hJ  hm, hm2⟩, s_fin hc hn⟩
      · exact ⟨2, z, _, 0, _, _, _, ⟨wx_audit2 hO z hA hJl hJ (x_X3_audit3 hO z hA h.1.w h.1.o hx hx6 hwn hw6 hb0), f_X4_audit3 hO z hB h.2 h.1.o hx hx6 hwn hw6 hb0⟩, s_ref h (by omega) (by omega)⟩
    · exact ⟨1, z, _, 0, _, _, _, ⟨wx_audit1 hO z hA hJl hJ (x_X3_audit2 hO z hA h.1.w h.1.o hwn hv0), f_X4_audit2 hO z hB h.2 h.1.o hwn hv0⟩, s_ref h (by omega) (by omega)⟩
  · exact ⟨1, z, _, 0, _, _, _, ⟨wx_audit1 hO z hA hJl hJ (x_X3_audit1 hO z hA h.1.w h.1.o hw0), f_X4_audit1 hO z hB h.2 h.1.o hw0⟩, s_ref h (by omega) (by omega)⟩
theorem s_deliver {G : zG} {N : Nat} {Λ : zLay} {l : Launch} (hO : zOK G l) (hA : zPo G N Λ) (hB : zMo G N Λ) (hJl : 275 < N) (hJ : zJA G Λ 275 1) {z : zM} {S : aS} {c : Nat} {Lf : Nat → aS} (h : LI z S c Lf) : ∃ (k : Nat) (z1 z2 : zM) (r : Int32) (S' : aS) (c' : Nat) (Lf' : Nat → aS), (zMW G N Λ l yL_deliver cL_deliver 3 (some .int) [(0, 8, 11, 21)] 9 [.ref (G.h + 0), .ref (G.h + 275)] z (some (.int (nI k))) z1 ∧ zMet G N Λ l yX4_deliver cX4_deliver 2 (some .int) 6 [.ref (G.h + 272)] z1 (some (.int r)) z2) ∧ sE z2 k r ∧ LI z2 S' c' Lf' := by
  have hn6 := h.1.o.n6
  by_cases hc0 : aCan S = true
  · obtain ⟨z', hc, hm⟩ := c_deliver hO hA h.1 hc0
    obtain ⟨z2, hn, hm2⟩ := n_deliver hO hB (s_ok h hc _) h.1.o hc0
    exact ⟨0, _, z2, _, _, _, _, ⟨w_deliver hO z hA hJl hJ  hm, hm2⟩, s_fin hc hn⟩
  · by_cases h0 : S.q.1 = 0
    · exact ⟨0, _, _, _, _, _, _, ⟨w_deliver0 hO z hA hJl hJ (m_X3_deliver0 hO z hA h.1.w h.1.o h0), m_X4_deliver0 hO _ hB (s_ok h (s_q h) _) h.1.o h0⟩, s_fin (s_q h) (n_rf (s_ok h (s_q h) _))⟩
    · have h9 : 0 < S.q.1 := Nat.pos_of_ne_zero h0
      have hbr : bar S = true := by
        by_cases q : bar S = true
        · exact q
        · exact absurd ((can_bar h9).mpr q) hc0
      exact ⟨1, z, _, 0, _, _, _, ⟨wx_deliver1 hO z hA hJl hJ (x_X3_deliver hO z hA h.1.w h.1.o h9 hc0), f_X4_deliver hO z hB h.2 h.1.o hbr⟩, s_ref h (by omega) (by omega)⟩
theorem s_undo {G : zG} {N : Nat} {Λ : zLay} {l : Launch} (hO : zOK G l) (hA : zPo G N Λ) (hB : zMo G N Λ) (hJl : 275 < N) (hJ : zJA G Λ 275 1) {z : zM} {S : aS} {c : Nat} {Lf : Nat → aS} (h : LI z S c Lf) : ∃ (k : Nat) (z1 z2 : zM) (r : Int32) (S' : aS) (c' : Nat) (Lf' : Nat → aS), (zMW G N Λ l yL_undo cL_undo 3 (some .int) [(0, 8, 11, 21)] 9 [.ref (G.h + 0), .ref (G.h + 275)] z (some (.int (nI k))) z1 ∧ zMet G N Λ l yX4_undo cX4_undo 2 (some .int) 1 [.ref (G.h + 272)] z1 (some (.int r)) z2) ∧ sE z2 k r ∧ LI z2 S' c' Lf' := by
  have hn6 := h.1.o.n6
  by_cases h0 : 0 < c
  · obtain ⟨z', hc, hm⟩ := c_undo hO hA h.1 h0
    obtain ⟨z2, hn, hm2⟩ := n_undo hO hB (s_ok h hc _) h.1.o h0
    exact ⟨0, _, z2, _, _, _, _, ⟨w_undo hO z hA hJl hJ  hm, hm2⟩, s_fin hc hn⟩
  · have hc9 : c = 0 := by omega
    subst hc9
    obtain ⟨ns, hT⟩ := h.1.2
    exact ⟨1, z, _, 0, _, _, _, ⟨wx_undo1 hO z hA hJl hJ (x_X3_undo hO z hA hT.2.1.1), m_X4_undo0 hO z hB h.2.c⟩, s_ref h (by omega) (by omega)⟩
theorem s_queued {G : zG} {N : Nat} {Λ : zLay} {l : Launch} (hO : zOK G l) (hA : zPo G N Λ) (hB : zMo G N Λ) (hJl : 275 < N) (hJ : zJA G Λ 275 1) {z : zM} {S : aS} {c : Nat} {Lf : Nat → aS} (h : LI z S c Lf) : ∃ (z1 z2 : zM) (r : Int32) (S' : aS) (c' : Nat) (Lf' : Nat → aS), (zMet G N Λ l yX3_queued cX3_queued 1 (some .int) 0 [.ref (G.h + 0)] z (some (.int r)) z1 ∧ zMet G N Λ l yX4_queued cX4_queued 1 (some .int) 0 [.ref (G.h + 272)] z1 (some (.int r)) z2) ∧ LI z2 S' c' Lf' := by
  exact ⟨_, _, _, _, _, _, ⟨m_X3_queued hO z hA h.1.w h.1.o, m_X4_queued hO z hB h.2 h.1.o⟩, h.1.cg (fun i hi => (mref_fr z 0).1 i (by omega)), h.2.ref _⟩
theorem s_evidenceCount {G : zG} {N : Nat} {Λ : zLay} {l : Launch} (hO : zOK G l) (hA : zPo G N Λ) (hB : zMo G N Λ) (hJl : 275 < N) (hJ : zJA G Λ 275 1) {z : zM} {S : aS} {c : Nat} {Lf : Nat → aS} (h : LI z S c Lf) : ∃ (z1 z2 : zM) (r : Int32) (S' : aS) (c' : Nat) (Lf' : Nat → aS), (zMet G N Λ l yX3_evidenceCount cX3_evidenceCount 1 (some .int) 0 [.ref (G.h + 0)] z (some (.int r)) z1 ∧ zMet G N Λ l yX4_evidenceCount cX4_evidenceCount 1 (some .int) 0 [.ref (G.h + 272)] z1 (some (.int r)) z2) ∧ LI z2 S' c' Lf' := by
  exact ⟨_, _, _, _, _, _, ⟨m_X3_evidenceCount hO z hA h.1.w h.1.o, m_X4_evidenceCount hO z hB h.2 h.1.o⟩, h.1.cg (fun i hi => (mref_fr z 0).1 i (by omega)), h.2.ref _⟩
theorem s_auditAll {G : zG} {N : Nat} {Λ : zLay} {l : Launch} (hO : zOK G l) (hA : zPo G N Λ) (hB : zMo G N Λ) (hJl : 275 < N) (hJ : zJA G Λ 275 1) {z : zM} {S : aS} {c : Nat} {Lf : Nat → aS} (h : LI z S c Lf) : ∃ (z1 z2 : zM) (r : Int32) (S' : aS) (c' : Nat) (Lf' : Nat → aS), (zMet G N Λ l yX3_auditAll cX3_auditAll 3 (some .int) 6 [.ref (G.h + 0)] z (some (.int r)) z1 ∧ zMet G N Λ l yX4_auditAll cX4_auditAll 5 (some .int) 6 [.ref (G.h + 272)] z1 (some (.int r)) z2) ∧ LI z2 S' c' Lf' := by
  obtain ⟨z', hc, hm⟩ := c_auditAll hO hA h.1
  obtain ⟨z2, hn, hm2⟩ := n_auditAll hO hB (s_mi h hc) h.1.o
  exact ⟨_, z2, _, _, _, _, ⟨hm, hm2⟩, hc.1.cg (fun i hi => hn.2.1.1 i (by omega)), hn.1⟩
theorem s_digest {G : zG} {N : Nat} {Λ : zLay} {l : Launch} (hO : zOK G l) (hA : zPo G N Λ) (hB : zMo G N Λ) (hJl : 275 < N) (hJ : zJA G Λ 275 1) {z : zM} {S : aS} {c : Nat} {Lf : Nat → aS} (h : LI z S c Lf) : ∃ (z1 z2 : zM) (r : Int64) (S' : aS) (c' : Nat) (Lf' : Nat → aS), (zMet G N Λ l yX3_digest cX3_digest 4 (some .long) 3 [.ref (G.h + 0)] z (some (.long r)) z1 ∧ zMet G N Λ l yX4_digest cX4_digest 2 (some .long) 5 [.ref (G.h + 272)] z1 (some (.long r)) z2) ∧ LI z2 S' c' Lf' := by
  obtain ⟨ns, hT⟩ := h.1.2
  exact ⟨_, _, _, _, _, _, ⟨m_X3_digest hO z hA h.1.w h.1.o hT.2.1.1 hT.1.2, m_X4_digest hO z hB h.2.s h.1.o h.2.c h.2.c4⟩, h.1.cg (fun i hi => (mref_fr z 0).1 i (by omega)), (h.2.ref 0).cg rfl rfl rfl⟩
