theorem zl_s (z : zM) (i j : Nat) (v : Int64) : (zl z i j v).2 i j = v := by
  show va_up z.2 i _ i j = v
  rw [va_up_self]
  exact if_pos rfl
theorem zl_zl (z : zM) (i j : Nat) (v w : Int64) : zl (zl z i j v) i j w = zl z i j w := by
  refine Prod.ext rfl (funext fun a => ?_)
  show va_up (va_up z.2 i _) i _ a = va_up z.2 i _ a
  by_cases h : a = i
  · subst h
    rw [va_up_self, va_up_self]
    funext b
    show (if b = j then w else (va_up z.2 a _ a) b) = if b = j then w else _
    rw [va_up_self]
    by_cases hb : b = j
    · rw [if_pos hb, if_pos hb]
    · rw [if_neg hb, if_neg hb]
      exact if_neg hb
  · rw [va_up_ne _ _ h, va_up_ne _ _ h, va_up_ne _ _ h]
theorem zl_self {z : zM} {i j : Nat} {v : Int64} (h : z.2 i j = v) : zl z i j v = z := by
  refine Prod.ext rfl (funext fun a => ?_)
  show va_up z.2 i _ a = z.2 a
  by_cases ha : a = i
  · subst ha
    rw [va_up_self]
    funext b
    show (if b = j then v else z.2 a b) = _
    by_cases hb : b = j
    · rw [if_pos hb, hb, h]
    · rw [if_neg hb]
  · rw [va_up_ne _ _ ha]
theorem dgE_flat (T : aT) : ∀ (d j : Nat) (h : Int64), dgE T d j h = dgL (fun i => T.2 (i / 4) (i % 4)) (4 * d) (4 * j) h := by
  intro d
  induction d with
  | zero => intro j h; rfl
  | succ d ih =>
    intro j h
    rw [dgE, ih, show 4 * (d + 1) = 4 * d + 1 + 1 + 1 + 1 by omega, dgL, dgL, dgL, dgL, dgL, dgL, dgL, dgL, dgL]
    rw [show 4 * j / 4 = j by omega, show 4 * j % 4 = 0 by omega, show (4 * j + 1) / 4 = j by omega, show (4 * j + 1) % 4 = 1 by omega, show (4 * j + 1 + 1) / 4 = j by omega, show (4 * j + 1 + 1) % 4 = 2 by omega, show (4 * j + 1 + 1 + 1) / 4 = j by omega, show (4 * j + 1 + 1 + 1) % 4 = 3 by omega, show 4 * (j + 1) = 4 * j + 1 + 1 + 1 + 1 by omega]
theorem mE.flat {z : zM} {T : aT} (h : mE z T) {i : Nat} (hi : i < 4 * T.1) : z.1 273 (2801 + i) = nI (T.2 (i / 4) (i % 4)) := by
  have h1 := h.2.2 (i / 4) (by omega) (i % 4) (by omega)
  rw [show 2801 + 4 * (i / 4) + i % 4 = 2801 + i by omega] at h1
  exact h1
set_option maxRecDepth 100000 in
set_option maxHeartbeats 4000000 in
theorem m_X4_mix {G : zG} {N : Nat} {Λ : zLay} {l : Launch} (hO : zOK G l) (z : zM) (hB : zMo G N Λ) {h : Int64} (hz : z.2 272 4 = h) {v : Nat} (hv : v < 2 ^ 31) : zMet G N Λ l yX4_mix cX4_mix 2 none 0 [.ref (G.h + 272), .int (nI v)] z none (zl z 272 4 (mx h v)) := by
  refine zMet_of hO (by decide) (Nat.le_of_ble_eq_true rfl) ?_
  intro pP eE sS mM bB tT cC ls C hw hl
  have hl : lv_has ls 2 [(0, .ref (G.h + 272)), (1, .int (nI v))] := hl
  refine lv_aload_n C.x C.b dX4_mix_0 rfl (lv_at hl 0 rfl) ?_
  refine lv_ldc2 (v := 31) C.x C.b C.ow (C.w ctX4_54) dX4_mix_1 ?_
  refine lv_aload_n C.x C.b dX4_mix_4 rfl (lv_at hl 0 rfl) ?_
  refine z_get C hw hB.lt (hB.at _ _) flX4_137 rfl dX4_mix_5 ?_
  refine lv_lmul C.x C.b dX4_mix_8 ?_
  refine lv_iload_n C.x C.b dX4_mix_9 rfl (lv_at hl 1 rfl) ?_
  refine lv_i2l C.x C.b dX4_mix_10 rfl ?_
  refine lv_ladd C.x C.b dX4_mix_11 ?_
  refine z_putl C hw hB.lt (hB.at _ _) ptX4_137 (hB.at _ _) (Nat.le_of_ble_eq_true rfl) dX4_mix_12 (fun H locs hw => ?_)
  obtain ⟨z_1, ez_1⟩ : ∃ q_9, q_9 = zl z 272 4 ((31 * (z.2 272 4)) + ((nI v).toInt64)) := ⟨_, rfl⟩
  have hw : zS G N Λ z_1 sS H locs := by rw [ez_1]; exact hw
  exact z_vret C hw dX4_mix_15 (rfl) (by rw [ez_1, hz, mx_i _ hv])

theorem m_X4_mixh {G : zG} {N : Nat} {Λ : zLay} {l : Launch} (hO : zOK G l) (z : zM) (hB : zMo G N Λ) (h : Int64) {v : Nat} (hv : v < 2 ^ 31) : zMet G N Λ l yX4_mix cX4_mix 2 none 0 [.ref (G.h + 272), .int (nI v)] (zl z 272 4 h) none (zl z 272 4 (mx h v)) := by
  have h1 := m_X4_mix (Λ := Λ) (N := N) hO (zl z 272 4 h) hB (zl_s _ _ _ _) hv
  rw [zl_zl] at h1
  exact h1

set_option maxRecDepth 100000 in
set_option maxHeartbeats 4000000 in
theorem m_X4_mixMachine {G : zG} {N : Nat} {Λ : zLay} {l : Launch} (hO : zOK G l) (z : zM) (hB : zMo G N Λ) {S : aS} (hM : mS z S) (hS : aOK S) {x : Nat} (hx : x < S.n) (hx6 : x < 6) {h : Int64} (hz : z.2 272 4 = h) : zMet G N Λ l yX4_mixMachine cX4_mixMachine 3 none 4 [.ref (G.h + 272), .int (nI x)] z none (zl z 272 4 (dgM (S.m x) S.n h)) := by
  refine zMet_of hO (by decide) (Nat.le_of_ble_eq_true rfl) ?_
  intro pP eE sS mM bB tT cC ls C hw hl
  have hl : lv_has ls 3 [(0, .ref (G.h + 272)), (1, .int (nI x))] := hl
  have hn6 := hS.n6
  have hmx := hM.m hx
  have hox := hS.m hx
  have hl40 := hox.log.1
  have hst := hox.st
  have hsi := hox.sil
  have hli := hox.lie
  have hwt := hox.wit64 hn6
  have hg : ∀ j, j < 5 → z.1 273 (mat x j) = nI ((row5 (S.m x).st (S.m x).sil (S.m x).lie (S.m x).wit (S.m x).log.1) j) ∧ (row5 (S.m x).st (S.m x).sil (S.m x).lie (S.m x).wit (S.m x).log.1) j < 2 ^ 31 := fun j hj => by
    rcases (show j = 0 ∨ j = 1 ∨ j = 2 ∨ j = 3 ∨ j = 4 by omega) with rfl | rfl | rfl | rfl | rfl
    · exact ⟨hmx.1.1, by show (S.m x).st < _; omega⟩
    · exact ⟨hmx.1.2.1, by show (S.m x).sil < _; omega⟩
    · exact ⟨hmx.1.2.2.1, by show (S.m x).lie < _; omega⟩
    · exact ⟨hmx.1.2.2.2, by show (S.m x).wit < _; omega⟩
    · exact ⟨hmx.2.1.2.1, by show (S.m x).log.1 < _; omega⟩
  refine lv_iconst (v := 0) C.x C.b dX4_mixMachine_0 (by decide) ?_
  refine lv_istore_n (lv' := [(2, .int 0), (0, .ref (G.h + 272)), (1, .int (nI x))]) C.x C.b dX4_mixMachine_1 rfl hl (by decide) rfl (fun ls hl => ?_)
  have loop : ∀ (d : Nat) (j : Nat) (h1 : Int64) (H : Heap) (locs : List Loc) (ls : Array Slot) (hj : j + d = 5) (hr1 : dgL (row5 (S.m x).st (S.m x).sil (S.m x).lie (S.m x).wit (S.m x).log.1) 5 0 h = dgL (row5 (S.m x).st (S.m x).sil (S.m x).lie (S.m x).wit (S.m x).log.1) d j h1), zS G N Λ (zl z 272 4 h1) sS H locs → lv_has ls 3 [(0, .ref (G.h + 272)), (1, .int (nI x)), (2, .int (nI j))] → W pP l eE (zR 4) sS mM ([.ref (G.h + 272), .int (nI x)] : List Value).toArray bB tT cC H locs 0 0 (MQ bB (zQc G N Λ none (zl z 272 4 (dgM (S.m x) S.n h))) ([.ref (G.h + 272), .int (nI x)] : List Value).toArray sS 0 0 (zA G)) (F0 mM 2 ls []) := by
    intro d
    induction d with
    | zero =>
      intro j h1 H locs ls hj hr1 hw hl
      refine lv_iload_n C.x C.b dX4_mixMachine_2 rfl (lv_at hl 2 rfl) ?_
      refine lv_iconst (v := 4) C.x C.b dX4_mixMachine_3 (by decide) ?_
      refine lv_icmp_gt (tgt := 23) C.x C.b dX4_mixMachine_4 (by decide) (fun c_4 => ?_) (fun c_4 => absurd (zlt (a := 4) (by omega) (by omega)) c_4)
      have e1 : h1 = dgL (row5 (S.m x).st (S.m x).sil (S.m x).lie (S.m x).wit (S.m x).log.1) 5 0 h := hr1.symm
      refine lv_iconst (v := 0) C.x C.b dX4_mixMachine_23 (by decide) ?_
      refine lv_istore_n (lv' := [(2, .int 0), (0, .ref (G.h + 272)), (1, .int (nI x))]) C.x C.b dX4_mixMachine_24 rfl hl (by decide) rfl (fun ls hl => ?_)
      have loop2 : ∀ (d : Nat) (k : Nat) (h2 : Int64) (H : Heap) (locs : List Loc) (ls : Array Slot) (hk : k + d = (S.m x).log.1) (hr2 : dgL (fun k => pk ((S.m x).log.2 k 0) ((S.m x).log.2 k 1) ((S.m x).log.2 k 2)) (S.m x).log.1 0 h1 = dgL (fun k => pk ((S.m x).log.2 k 0) ((S.m x).log.2 k 1) ((S.m x).log.2 k 2)) d k h2), zS G N Λ (zl z 272 4 h2) sS H locs → lv_has ls 3 [(0, .ref (G.h + 272)), (1, .int (nI x)), (2, .int (nI k))] → W pP l eE (zR 4) sS mM ([.ref (G.h + 272), .int (nI x)] : List Value).toArray bB tT cC H locs 0 0 (MQ bB (zQc G N Λ none (zl z 272 4 (dgM (S.m x) S.n h))) ([.ref (G.h + 272), .int (nI x)] : List Value).toArray sS 0 0 (zA G)) (F0 mM 25 ls []) := by
        intro d
        induction d with
        | zero =>
          intro k h2 H locs ls hk hr2 hw hl
          refine lv_iload_n C.x C.b dX4_mixMachine_25 rfl (lv_at hl 2 rfl) ?_
          refine lv_aload_n C.x C.b dX4_mixMachine_26 rfl (lv_at hl 0 rfl) ?_
          refine lv_iload_n C.x C.b dX4_mixMachine_27 rfl (lv_at hl 1 rfl) ?_
          refine lv_iconst (v := 4) C.x C.b dX4_mixMachine_28 (by decide) ?_
          refine z_Vv (As := [.int (nI x), .int 4]) (rest := [.int (nI k)]) C hw hl (m_X4_get hO _ hB (o := 4) (mat_lt2 hx6 (by omega))) ivX4_40 hB.lt (hB.at _ _) rfl rfl ⟨(Nat.le_of_ble_eq_true rfl), (Nat.le_of_ble_eq_true rfl)⟩ (Nat.le_of_ble_eq_true rfl) ⟨Nat.zero_le _, Nat.zero_le _⟩ dX4_mixMachine_29 (fun H locs hw => ?_)
          refine z_topi (y := nI (S.m x).log.1) (hmx.2.1.2.1) ?_
          refine lv_icmp_ge (tgt := 51) C.x C.b dX4_mixMachine_32 (by decide) (fun c_32 => ?_) (fun c_32 => absurd (zle (by omega) (by omega)) c_32)
          have e2 : h2 = dgL (fun k => pk ((S.m x).log.2 k 0) ((S.m x).log.2 k 1) ((S.m x).log.2 k 2)) (S.m x).log.1 0 h1 := hr2.symm
          refine lv_aload_n C.x C.b dX4_mixMachine_51 rfl (lv_at hl 0 rfl) ?_
          refine lv_aload_n C.x C.b dX4_mixMachine_52 rfl (lv_at hl 0 rfl) ?_
          refine lv_iload_n C.x C.b dX4_mixMachine_53 rfl (lv_at hl 1 rfl) ?_
          refine lv_aload_n C.x C.b dX4_mixMachine_54 rfl (lv_at hl 0 rfl) ?_
          refine lv_iload_n C.x C.b dX4_mixMachine_55 rfl (lv_at hl 1 rfl) ?_
          refine lv_iconst (v := 4) C.x C.b dX4_mixMachine_56 (by decide) ?_
          refine z_Vv (As := [.int (nI x), .int 4]) (rest := [.int (nI x), .ref (G.h + 272), .ref (G.h + 272)]) C hw hl (m_X4_get hO _ hB (o := 4) (mat_lt2 hx6 (by omega))) ivX4_40 hB.lt (hB.at _ _) rfl rfl ⟨(Nat.le_of_ble_eq_true rfl), (Nat.le_of_ble_eq_true rfl)⟩ (Nat.le_of_ble_eq_true rfl) ⟨Nat.zero_le _, Nat.zero_le _⟩ dX4_mixMachine_57 (fun H locs hw => ?_)
          refine z_topi (y := nI (S.m x).log.1) (hmx.2.1.2.1) ?_
          refine z_Vv (As := [.int (nI x), .int (nI (S.m x).log.1)]) (rest := [.ref (G.h + 272)]) C hw hl (m_X4_chainAt hO _ hB hx6 (i := (S.m x).log.1) hl40 (r := (S.m x).log.2) hmx.2.1.2.2 (hox.log.row hn6)) ivX4_84 hB.lt (hB.at _ _) rfl rfl ⟨(Nat.le_of_ble_eq_true rfl), (Nat.le_of_ble_eq_true rfl)⟩ (Nat.le_of_ble_eq_true rfl) ⟨Nat.zero_le _, Nat.zero_le _⟩ dX4_mixMachine_60 (fun H locs hw => ?_)
          refine z_V0 (As := [.int (nI (CH (S.m x).log.2 (S.m x).log.1))]) (rest := []) C hw hl (m_X4_mixh hO z hB h2 (v := (CH (S.m x).log.2 (S.m x).log.1)) (by have := CH_lt (S.m x).log.2 (S.m x).log.1; omega)) ivX4_141 hB.lt (hB.at _ _) rfl rfl ⟨(Nat.le_of_ble_eq_true rfl), (Nat.le_of_ble_eq_true rfl)⟩ (Nat.le_of_ble_eq_true rfl) ⟨Nat.zero_le _, Nat.zero_le _⟩ dX4_mixMachine_63 (fun H locs hw => ?_)
          refine lv_aload_n C.x C.b dX4_mixMachine_66 rfl (lv_at hl 0 rfl) ?_
          refine lv_aload_n C.x C.b dX4_mixMachine_67 rfl (lv_at hl 0 rfl) ?_
          refine lv_iload_n C.x C.b dX4_mixMachine_68 rfl (lv_at hl 1 rfl) ?_
          refine lv_bipush (v := 45) C.x C.b dX4_mixMachine_69 (by decide) ?_
          refine z_pc (pc2 := 71) rfl ?_
          refine z_Vv (As := [.int (nI x), .int 45]) (rest := [.ref (G.h + 272)]) C hw hl (m_X4_get hO _ hB (o := 45) (mat_lt2 hx6 (by omega))) ivX4_40 hB.lt (hB.at _ _) rfl rfl ⟨(Nat.le_of_ble_eq_true rfl), (Nat.le_of_ble_eq_true rfl)⟩ (Nat.le_of_ble_eq_true rfl) ⟨Nat.zero_le _, Nat.zero_le _⟩ dX4_mixMachine_71 (fun H locs hw => ?_)
          refine z_topi (y := nI (S.m x).held.1) (hmx.2.2.1.2.1) ?_
          refine z_V0 (As := [.int (nI (S.m x).held.1)]) (rest := []) C hw hl (m_X4_mixh hO z hB (mx h2 (CH (S.m x).log.2 (S.m x).log.1)) (v := (S.m x).held.1) (by have := hox.held.1; omega)) ivX4_141 hB.lt (hB.at _ _) rfl rfl ⟨(Nat.le_of_ble_eq_true rfl), (Nat.le_of_ble_eq_true rfl)⟩ (Nat.le_of_ble_eq_true rfl) ⟨Nat.zero_le _, Nat.zero_le _⟩ dX4_mixMachine_74 (fun H locs hw => ?_)
          refine lv_aload_n C.x C.b dX4_mixMachine_77 rfl (lv_at hl 0 rfl) ?_
          refine lv_aload_n C.x C.b dX4_mixMachine_78 rfl (lv_at hl 0 rfl) ?_
          refine lv_iload_n C.x C.b dX4_mixMachine_79 rfl (lv_at hl 1 rfl) ?_
          refine lv_sipush (v := 226) C.x C.b dX4_mixMachine_80 (by decide) ?_
          refine z_Vv (As := [.int (nI x), .int 226]) (rest := [.ref (G.h + 272)]) C hw hl (m_X4_get hO _ hB (o := 226) (mat_lt2 hx6 (by omega))) ivX4_40 hB.lt (hB.at _ _) rfl rfl ⟨(Nat.le_of_ble_eq_true rfl), (Nat.le_of_ble_eq_true rfl)⟩ (Nat.le_of_ble_eq_true rfl) ⟨Nat.zero_le _, Nat.zero_le _⟩ dX4_mixMachine_83 (fun H locs hw => ?_)
          refine z_topi (y := nI (S.m x).pend.1) (hmx.2.2.2.1.2.1) ?_
          refine z_V0 (As := [.int (nI (S.m x).pend.1)]) (rest := []) C hw hl (m_X4_mixh hO z hB (mx (mx h2 (CH (S.m x).log.2 (S.m x).log.1)) ((S.m x).held.1)) (v := (S.m x).pend.1) (by have := hox.pend.1; omega)) ivX4_141 hB.lt (hB.at _ _) rfl rfl ⟨(Nat.le_of_ble_eq_true rfl), (Nat.le_of_ble_eq_true rfl)⟩ (Nat.le_of_ble_eq_true rfl) ⟨Nat.zero_le _, Nat.zero_le _⟩ dX4_mixMachine_86 (fun H locs hw => ?_)
          refine lv_iconst (v := 0) C.x C.b dX4_mixMachine_89 (by decide) ?_
          refine lv_istore_n (lv' := [(2, .int 0), (0, .ref (G.h + 272)), (1, .int (nI x))]) C.x C.b dX4_mixMachine_90 rfl hl (by decide) rfl (fun ls hl => ?_)
          have loop3 : ∀ (d : Nat) (w : Nat) (h3 : Int64) (H : Heap) (locs : List Loc) (ls : Array Slot) (hw3 : w + d = S.n) (hr3 : dgL (S.m x).ver S.n 0 (mx (mx (mx h2 (CH (S.m x).log.2 (S.m x).log.1)) ((S.m x).held.1)) ((S.m x).pend.1)) = dgL (S.m x).ver d w h3), zS G N Λ (zl z 272 4 h3) sS H locs → lv_has ls 3 [(0, .ref (G.h + 272)), (1, .int (nI x)), (2, .int (nI w))] → W pP l eE (zR 4) sS mM ([.ref (G.h + 272), .int (nI x)] : List Value).toArray bB tT cC H locs 0 0 (MQ bB (zQc G N Λ none (zl z 272 4 (dgM (S.m x) S.n h))) ([.ref (G.h + 272), .int (nI x)] : List Value).toArray sS 0 0 (zA G)) (F0 mM 91 ls []) := by
            intro d
            induction d with
            | zero =>
              intro w h3 H locs ls hw3 hr3 hw hl
              refine lv_iload_n C.x C.b dX4_mixMachine_91 rfl (lv_at hl 2 rfl) ?_
              refine lv_aload_n C.x C.b dX4_mixMachine_92 rfl (lv_at hl 0 rfl) ?_
              refine z_Vv (As := []) (rest := [.int (nI w)]) C hw hl (m_X4_many hO _ hB hM.n) ivX4_66 hB.lt (hB.at _ _) rfl rfl ⟨(Nat.le_of_ble_eq_true rfl), (Nat.le_of_ble_eq_true rfl)⟩ (Nat.le_of_ble_eq_true rfl) ⟨Nat.zero_le _, Nat.zero_le _⟩ dX4_mixMachine_93 (fun H locs hw => ?_)
              refine lv_icmp_ge (tgt := 119) C.x C.b dX4_mixMachine_96 (by decide) (fun c_96 => ?_) (fun c_96 => absurd (zle (by omega) (by omega)) c_96)
              exact z_vret C hw dX4_mixMachine_119 (rfl) (by
                  have e3 : dgL (S.m x).ver S.n 0 (mx (mx (mx h2 (CH (S.m x).log.2 (S.m x).log.1)) ((S.m x).held.1)) ((S.m x).pend.1)) = h3 := hr3
                  rw [← e3, e2, e1]; rfl)
            | succ d ih =>
              intro w h3 H locs ls hw3 hr3 hw hl
              refine lv_iload_n C.x C.b dX4_mixMachine_91 rfl (lv_at hl 2 rfl) ?_
              refine lv_aload_n C.x C.b dX4_mixMachine_92 rfl (lv_at hl 0 rfl) ?_
              refine z_Vv (As := []) (rest := [.int (nI w)]) C hw hl (m_X4_many hO _ hB hM.n) ivX4_66 hB.lt (hB.at _ _) rfl rfl ⟨(Nat.le_of_ble_eq_true rfl), (Nat.le_of_ble_eq_true rfl)⟩ (Nat.le_of_ble_eq_true rfl) ⟨Nat.zero_le _, Nat.zero_le _⟩ dX4_mixMachine_93 (fun H locs hw => ?_)
              refine lv_icmp_ge (tgt := 119) C.x C.b dX4_mixMachine_96 (by decide) (fun c_96 => absurd c_96 (znle (by omega) (by omega))) (fun c_96 => ?_)
              have hw6 : w < 6 := by omega
              have hvw := hox.ver w
              refine lv_aload_n C.x C.b dX4_mixMachine_99 rfl (lv_at hl 0 rfl) ?_
              refine lv_aload_n C.x C.b dX4_mixMachine_100 rfl (lv_at hl 0 rfl) ?_
              refine lv_iload_n C.x C.b dX4_mixMachine_101 rfl (lv_at hl 1 rfl) ?_
              refine lv_sipush (v := 427) C.x C.b dX4_mixMachine_102 (by decide) ?_
              refine lv_iload_n C.x C.b dX4_mixMachine_105 rfl (lv_at hl 2 rfl) ?_
              refine lv_iadd C.x C.b dX4_mixMachine_106 ?_
              refine z_topi (y := nI (427 + w)) (by rw [zlit 427, nI_add]) ?_
              refine z_Vv (As := [.int (nI x), .int (nI (427 + w))]) (rest := [.ref (G.h + 272)]) C hw hl (m_X4_get hO _ hB (o := 427 + w) (mat_lt2 hx6 (by omega))) ivX4_40 hB.lt (hB.at _ _) rfl rfl ⟨(Nat.le_of_ble_eq_true rfl), (Nat.le_of_ble_eq_true rfl)⟩ (Nat.le_of_ble_eq_true rfl) ⟨Nat.zero_le _, Nat.zero_le _⟩ dX4_mixMachine_107 (fun H locs hw => ?_)
              refine z_topi (y := nI ((S.m x).ver w)) (hmx.2.2.2.2 w hw6) ?_
              refine z_V0 (As := [.int (nI ((S.m x).ver w))]) (rest := []) C hw hl (m_X4_mixh hO z hB h3 (v := ((S.m x).ver w)) (by omega)) ivX4_141 hB.lt (hB.at _ _) rfl rfl ⟨(Nat.le_of_ble_eq_true rfl), (Nat.le_of_ble_eq_true rfl)⟩ (Nat.le_of_ble_eq_true rfl) ⟨Nat.zero_le _, Nat.zero_le _⟩ dX4_mixMachine_110 (fun H locs hw => ?_)
              refine lv_iinc (v := nI w + 1) (lv' := [(2, .int (nI w + 1)), (0, .ref (G.h + 272)), (1, .int (nI x))]) C.x C.b dX4_mixMachine_113 hl (k := 2) rfl rfl (by decide) rfl (fun ls hl => ?_)
              have hl : lv_has ls 3 [(2, .int (nI (w + 1))), (0, .ref (G.h + 272)), (1, .int (nI x))] := by
                have e9 : nI w + 1 = nI (w + 1) := nI_1 w
                rw [← e9]; exact hl
              refine lv_goto (tgt := 91) C.x C.b dX4_mixMachine_116 (by decide) ?_
              exact ih (w + 1) (mx h3 ((S.m x).ver w)) _ _ _ (by omega) hr3 hw (lv_sub hl [1, 2, 0] rfl)
          exact loop3 S.n 0 (mx (mx (mx h2 (CH (S.m x).log.2 (S.m x).log.1)) ((S.m x).held.1)) ((S.m x).pend.1)) _ _ _ (by omega) rfl hw (lv_sub hl [1, 2, 0] rfl)
        | succ d ih =>
          intro k h2 H locs ls hk hr2 hw hl
          refine lv_iload_n C.x C.b dX4_mixMachine_25 rfl (lv_at hl 2 rfl) ?_
          refine lv_aload_n C.x C.b dX4_mixMachine_26 rfl (lv_at hl 0 rfl) ?_
          refine lv_iload_n C.x C.b dX4_mixMachine_27 rfl (lv_at hl 1 rfl) ?_
          refine lv_iconst (v := 4) C.x C.b dX4_mixMachine_28 (by decide) ?_
          refine z_Vv (As := [.int (nI x), .int 4]) (rest := [.int (nI k)]) C hw hl (m_X4_get hO _ hB (o := 4) (mat_lt2 hx6 (by omega))) ivX4_40 hB.lt (hB.at _ _) rfl rfl ⟨(Nat.le_of_ble_eq_true rfl), (Nat.le_of_ble_eq_true rfl)⟩ (Nat.le_of_ble_eq_true rfl) ⟨Nat.zero_le _, Nat.zero_le _⟩ dX4_mixMachine_29 (fun H locs hw => ?_)
          refine z_topi (y := nI (S.m x).log.1) (hmx.2.1.2.1) ?_
          refine lv_icmp_ge (tgt := 51) C.x C.b dX4_mixMachine_32 (by decide) (fun c_32 => absurd c_32 (znle (by omega) (by omega))) (fun c_32 => ?_)
          have hkl : k < (S.m x).log.1 := by omega
          have hq0 := hox.log.row hn6 k hkl
          have hpk := pkv_lt hq0.1 hq0.2.1 hq0.2.2
          refine lv_aload_n C.x C.b dX4_mixMachine_35 rfl (lv_at hl 0 rfl) ?_
          refine lv_aload_n C.x C.b dX4_mixMachine_36 rfl (lv_at hl 0 rfl) ?_
          refine lv_iload_n C.x C.b dX4_mixMachine_37 rfl (lv_at hl 1 rfl) ?_
          refine lv_iload_n C.x C.b dX4_mixMachine_38 rfl (lv_at hl 2 rfl) ?_
          refine z_Vv (As := [.int (nI x), .int (nI k)]) (rest := [.ref (G.h + 272)]) C hw hl (m_X4_entryAt hO _ hB hx6 (k := k) (by omega)) ivX4_43 hB.lt (hB.at _ _) rfl rfl ⟨(Nat.le_of_ble_eq_true rfl), (Nat.le_of_ble_eq_true rfl)⟩ (Nat.le_of_ble_eq_true rfl) ⟨Nat.zero_le _, Nat.zero_le _⟩ dX4_mixMachine_39 (fun H locs hw => ?_)
          refine z_topi (y := nI ((fun k => pk ((S.m x).log.2 k 0) ((S.m x).log.2 k 1) ((S.m x).log.2 k 2)) k)) (hmx.2.1.2.2 k hkl) ?_
          refine z_V0 (As := [.int (nI ((fun k => pk ((S.m x).log.2 k 0) ((S.m x).log.2 k 1) ((S.m x).log.2 k 2)) k))]) (rest := []) C hw hl (m_X4_mixh hO z hB h2 (v := ((fun k => pk ((S.m x).log.2 k 0) ((S.m x).log.2 k 1) ((S.m x).log.2 k 2)) k)) (Nat.lt_trans hpk (by omega))) ivX4_141 hB.lt (hB.at _ _) rfl rfl ⟨(Nat.le_of_ble_eq_true rfl), (Nat.le_of_ble_eq_true rfl)⟩ (Nat.le_of_ble_eq_true rfl) ⟨Nat.zero_le _, Nat.zero_le _⟩ dX4_mixMachine_42 (fun H locs hw => ?_)
          refine lv_iinc (v := nI k + 1) (lv' := [(2, .int (nI k + 1)), (0, .ref (G.h + 272)), (1, .int (nI x))]) C.x C.b dX4_mixMachine_45 hl (k := 2) rfl rfl (by decide) rfl (fun ls hl => ?_)
          have hl : lv_has ls 3 [(2, .int (nI (k + 1))), (0, .ref (G.h + 272)), (1, .int (nI x))] := by
            have e9 : nI k + 1 = nI (k + 1) := nI_1 k
            rw [← e9]; exact hl
          refine lv_goto (tgt := 25) C.x C.b dX4_mixMachine_48 (by decide) ?_
          exact ih (k + 1) (mx h2 ((fun k => pk ((S.m x).log.2 k 0) ((S.m x).log.2 k 1) ((S.m x).log.2 k 2)) k)) _ _ _ (by omega) hr2 hw (lv_sub hl [1, 2, 0] rfl)
      exact loop2 ((S.m x).log.1) 0 h1 _ _ _ (by omega) rfl hw (lv_sub hl [1, 2, 0] rfl)
    | succ d ih =>
      intro j h1 H locs ls hj hr1 hw hl
      refine lv_iload_n C.x C.b dX4_mixMachine_2 rfl (lv_at hl 2 rfl) ?_
      refine lv_iconst (v := 4) C.x C.b dX4_mixMachine_3 (by decide) ?_
      refine lv_icmp_gt (tgt := 23) C.x C.b dX4_mixMachine_4 (by decide) (fun c_4 => absurd c_4 (znlt (b := j) (a := 4) (by omega) (by omega))) (fun c_4 => ?_)
      obtain ⟨hgj, hgb⟩ := hg j (by omega)
      refine lv_aload_n C.x C.b dX4_mixMachine_7 rfl (lv_at hl 0 rfl) ?_
      refine lv_aload_n C.x C.b dX4_mixMachine_8 rfl (lv_at hl 0 rfl) ?_
      refine lv_iload_n C.x C.b dX4_mixMachine_9 rfl (lv_at hl 1 rfl) ?_
      refine lv_iload_n C.x C.b dX4_mixMachine_10 rfl (lv_at hl 2 rfl) ?_
      refine z_Vv (As := [.int (nI x), .int (nI j)]) (rest := [.ref (G.h + 272)]) C hw hl (m_X4_get hO _ hB (o := j) (mat_lt2 hx6 (by omega))) ivX4_40 hB.lt (hB.at _ _) rfl rfl ⟨(Nat.le_of_ble_eq_true rfl), (Nat.le_of_ble_eq_true rfl)⟩ (Nat.le_of_ble_eq_true rfl) ⟨Nat.zero_le _, Nat.zero_le _⟩ dX4_mixMachine_11 (fun H locs hw => ?_)
      refine z_topi (y := nI ((row5 (S.m x).st (S.m x).sil (S.m x).lie (S.m x).wit (S.m x).log.1) j)) (hgj) ?_
      refine z_V0 (As := [.int (nI ((row5 (S.m x).st (S.m x).sil (S.m x).lie (S.m x).wit (S.m x).log.1) j))]) (rest := []) C hw hl (m_X4_mixh hO z hB h1 (v := ((row5 (S.m x).st (S.m x).sil (S.m x).lie (S.m x).wit (S.m x).log.1) j)) (hgb)) ivX4_141 hB.lt (hB.at _ _) rfl rfl ⟨(Nat.le_of_ble_eq_true rfl), (Nat.le_of_ble_eq_true rfl)⟩ (Nat.le_of_ble_eq_true rfl) ⟨Nat.zero_le _, Nat.zero_le _⟩ dX4_mixMachine_14 (fun H locs hw => ?_)
      refine lv_iinc (v := nI j + 1) (lv' := [(2, .int (nI j + 1)), (0, .ref (G.h + 272)), (1, .int (nI x))]) C.x C.b dX4_mixMachine_17 hl (k := 2) rfl rfl (by decide) rfl (fun ls hl => ?_)
      have hl : lv_has ls 3 [(2, .int (nI (j + 1))), (0, .ref (G.h + 272)), (1, .int (nI x))] := by
        have e9 : nI j + 1 = nI (j + 1) := nI_1 j
        rw [← e9]; exact hl
      refine lv_goto (tgt := 2) C.x C.b dX4_mixMachine_20 (by decide) ?_
      exact ih (j + 1) (mx h1 ((row5 (S.m x).st (S.m x).sil (S.m x).lie (S.m x).wit (S.m x).log.1) j)) _ _ _ (by omega) hr1 hw (lv_sub hl [1, 2, 0] rfl)
  exact loop 5 0 h _ _ _ (by omega) rfl (by rw [zl_self hz]; exact hw) (lv_sub hl [1, 2, 0] rfl)

theorem m_X4_mixMh {G : zG} {N : Nat} {Λ : zLay} {l : Launch} (hO : zOK G l) (z : zM) (hB : zMo G N Λ) {S : aS} (hM : mS z S) (hS : aOK S) {x : Nat} (hx : x < S.n) (hx6 : x < 6) (h : Int64) : zMet G N Λ l yX4_mixMachine cX4_mixMachine 3 none 4 [.ref (G.h + 272), .int (nI x)] (zl z 272 4 h) none (zl z 272 4 (dgM (S.m x) S.n h)) := by
  have h1 := m_X4_mixMachine (Λ := Λ) (N := N) hO (zl z 272 4 h) hB hM hS hx hx6 (zl_s _ _ _ _)
  rw [zl_zl] at h1
  exact h1

set_option maxRecDepth 100000 in
set_option maxHeartbeats 4000000 in
theorem m_X4_digest {G : zG} {N : Nat} {Λ : zLay} {l : Launch} (hO : zOK G l) (z : zM) (hB : zMo G N Λ) {S : aS} (hM : mS z S) (hS : aOK S) {c : Nat} (hc : z.1 272 2 = nI c) (hc4 : c ≤ 4) : zMet G N Λ l yX4_digest cX4_digest 2 (some .long) 5 [.ref (G.h + 272)] z (some (.long (dig c S))) (zl (zi z 272 3 0) 272 4 (dig c S)) := by
  refine zMet_of hO (by decide) (Nat.le_of_ble_eq_true rfl) ?_
  intro pP eE sS mM bB tT cC ls C hw hl
  have hl : lv_has ls 2 [(0, .ref (G.h + 272))] := hl
  have hn6 := hS.n6
  have hq40 := hS.q.1
  have he30 := hS.e.1
  refine lv_aload_n C.x C.b dX4_digest_0 rfl (lv_at hl 0 rfl) ?_
  refine lv_iconst (v := 0) C.x C.b dX4_digest_1 (by decide) ?_
  refine z_put C hw hB.lt (hB.at _ _) ptX4_20 (hB.at _ _) (rfl) (rfl) (Nat.le_of_ble_eq_true rfl) dX4_digest_2 (fun H locs hw => ?_)
  obtain ⟨z_1, ez_1⟩ : ∃ q_9, q_9 = zi z 272 3 0 := ⟨_, rfl⟩
  have hw : zS G N Λ z_1 sS H locs := by rw [ez_1]; exact hw
  refine lv_aload_n C.x C.b dX4_digest_5 rfl (lv_at hl 0 rfl) ?_
  refine lv_ldc2 (v := 12833) C.x C.b C.ow (C.w ctX4_144) dX4_digest_6 ?_
  refine z_putl C hw hB.lt (hB.at _ _) ptX4_137 (hB.at _ _) (Nat.le_of_ble_eq_true rfl) dX4_digest_9 (fun H locs hw => ?_)
  obtain ⟨z_2, ez_2⟩ : ∃ q_9, q_9 = zl z_1 272 4 12833 := ⟨_, rfl⟩
  have hw : zS G N Λ z_2 sS H locs := by rw [ez_2]; exact hw
  rw [ez_2] at hw
  have hM1 : mS z_1 S := by rw [ez_1]; exact hM.cg (fun i _ _ => by rw [zi_at, if_neg (by omega)])
  have hc1 : z_1.1 272 2 = nI c := by rw [ez_1, zi_at, if_neg (by omega)]; exact hc
  refine lv_aload_n C.x C.b dX4_digest_12 rfl (lv_at hl 0 rfl) ?_
  refine lv_aload_n C.x C.b dX4_digest_13 rfl (lv_at hl 0 rfl) ?_
  refine z_get C hw hB.lt (hB.at _ _) flX4_32 rfl dX4_digest_14 ?_
  refine z_topi (y := nI c) (hc1) ?_
  refine z_V0 (As := [.int (nI c)]) (rest := []) C hw hl (m_X4_mixh hO z_1 hB 12833 (v := c) (by omega)) ivX4_141 hB.lt (hB.at _ _) rfl rfl ⟨(Nat.le_of_ble_eq_true rfl), (Nat.le_of_ble_eq_true rfl)⟩ (Nat.le_of_ble_eq_true rfl) ⟨Nat.zero_le _, Nat.zero_le _⟩ dX4_digest_17 (fun H locs hw => ?_)
  refine lv_aload_n C.x C.b dX4_digest_20 rfl (lv_at hl 0 rfl) ?_
  refine lv_aload_n C.x C.b dX4_digest_21 rfl (lv_at hl 0 rfl) ?_
  refine z_Vv (As := []) (rest := [.ref (G.h + 272)]) C hw hl (m_X4_many hO _ hB hM1.n) ivX4_66 hB.lt (hB.at _ _) rfl rfl ⟨(Nat.le_of_ble_eq_true rfl), (Nat.le_of_ble_eq_true rfl)⟩ (Nat.le_of_ble_eq_true rfl) ⟨Nat.zero_le _, Nat.zero_le _⟩ dX4_digest_22 (fun H locs hw => ?_)
  refine z_V0 (As := [.int (nI S.n)]) (rest := []) C hw hl (m_X4_mixh hO z_1 hB (mx 12833 c) (v := S.n) (by omega)) ivX4_141 hB.lt (hB.at _ _) rfl rfl ⟨(Nat.le_of_ble_eq_true rfl), (Nat.le_of_ble_eq_true rfl)⟩ (Nat.le_of_ble_eq_true rfl) ⟨Nat.zero_le _, Nat.zero_le _⟩ dX4_digest_25 (fun H locs hw => ?_)
  refine lv_iconst (v := 0) C.x C.b dX4_digest_28 (by decide) ?_
  refine lv_istore_n (lv' := [(1, .int 0), (0, .ref (G.h + 272))]) C.x C.b dX4_digest_29 rfl hl (by decide) rfl (fun ls hl => ?_)
  have loop : ∀ (d : Nat) (x : Nat) (h1 : Int64) (H : Heap) (locs : List Loc) (ls : Array Slot) (hx : x + d = S.n) (hr1 : dgMs S S.n 0 (mx (mx 12833 c) S.n) = dgMs S d x h1), zS G N Λ (zl z_1 272 4 h1) sS H locs → lv_has ls 2 [(0, .ref (G.h + 272)), (1, .int (nI x))] → W pP l eE (zR 5) sS mM ([.ref (G.h + 272)] : List Value).toArray bB tT cC H locs 0 0 (MQ bB (zQc G N Λ (some (.long (dig c S))) (zl (zi z 272 3 0) 272 4 (dig c S))) ([.ref (G.h + 272)] : List Value).toArray sS 0 0 (zA G)) (F0 mM 30 ls []) := by
    intro d
    induction d with
    | zero =>
      intro x h1 H locs ls hx hr1 hw hl
      refine lv_iload_n C.x C.b dX4_digest_30 rfl (lv_at hl 1 rfl) ?_
      refine lv_aload_n C.x C.b dX4_digest_31 rfl (lv_at hl 0 rfl) ?_
      refine z_Vv (As := []) (rest := [.int (nI x)]) C hw hl (m_X4_many hO _ hB hM1.n) ivX4_66 hB.lt (hB.at _ _) rfl rfl ⟨(Nat.le_of_ble_eq_true rfl), (Nat.le_of_ble_eq_true rfl)⟩ (Nat.le_of_ble_eq_true rfl) ⟨Nat.zero_le _, Nat.zero_le _⟩ dX4_digest_32 (fun H locs hw => ?_)
      refine lv_icmp_ge (tgt := 49) C.x C.b dX4_digest_35 (by decide) (fun c_35 => ?_) (fun c_35 => absurd (zle (by omega) (by omega)) c_35)
      have e1 : dgMs S S.n 0 (mx (mx 12833 c) S.n) = h1 := hr1
      refine lv_aload_n C.x C.b dX4_digest_49 rfl (lv_at hl 0 rfl) ?_
      refine lv_aload_n C.x C.b dX4_digest_50 rfl (lv_at hl 0 rfl) ?_
      refine z_get C hw hB.lt (hB.at _ _) flX4_7 rfl dX4_digest_51 ?_
      refine lv_sipush (v := 2599) C.x C.b dX4_digest_54 (by decide) ?_
      refine z_iald C hw hB.ltn hB.now (zvin (x := 2599) (by omega) (by omega)) dX4_digest_57 ?_
      refine z_topi (y := (zl z_1 272 4 h1).1 273 2599) (congrArg ((zl z_1 272 4 h1).1 273) (zcl (x := 2599) (n := 2921) (by omega) (by omega))) ?_
      refine z_topi (y := nI S.q.1) (hM1.q.2.1) ?_
      refine z_V0 (As := [.int (nI S.q.1)]) (rest := []) C hw hl (m_X4_mixh hO z_1 hB h1 (v := S.q.1) (by omega)) ivX4_141 hB.lt (hB.at _ _) rfl rfl ⟨(Nat.le_of_ble_eq_true rfl), (Nat.le_of_ble_eq_true rfl)⟩ (Nat.le_of_ble_eq_true rfl) ⟨Nat.zero_le _, Nat.zero_le _⟩ dX4_digest_58 (fun H locs hw => ?_)
      refine lv_iconst (v := 0) C.x C.b dX4_digest_61 (by decide) ?_
      refine lv_istore_n (lv' := [(1, .int 0), (0, .ref (G.h + 272))]) C.x C.b dX4_digest_62 rfl hl (by decide) rfl (fun ls hl => ?_)
      have loop2 : ∀ (d : Nat) (j : Nat) (h2 : Int64) (H : Heap) (locs : List Loc) (ls : Array Slot) (hj : j + d = S.q.1) (hr2 : dgQ S.q S.q.1 0 (mx h1 S.q.1) = dgQ S.q d j h2), zS G N Λ (zl z_1 272 4 h2) sS H locs → lv_has ls 2 [(0, .ref (G.h + 272)), (1, .int (nI j))] → W pP l eE (zR 5) sS mM ([.ref (G.h + 272)] : List Value).toArray bB tT cC H locs 0 0 (MQ bB (zQc G N Λ (some (.long (dig c S))) (zl (zi z 272 3 0) 272 4 (dig c S))) ([.ref (G.h + 272)] : List Value).toArray sS 0 0 (zA G)) (F0 mM 63 ls []) := by
        intro d
        induction d with
        | zero =>
          intro j h2 H locs ls hj hr2 hw hl
          refine lv_iload_n C.x C.b dX4_digest_63 rfl (lv_at hl 1 rfl) ?_
          refine lv_aload_n C.x C.b dX4_digest_64 rfl (lv_at hl 0 rfl) ?_
          refine z_get C hw hB.lt (hB.at _ _) flX4_7 rfl dX4_digest_65 ?_
          refine lv_sipush (v := 2599) C.x C.b dX4_digest_68 (by decide) ?_
          refine z_iald C hw hB.ltn hB.now (zvin (x := 2599) (by omega) (by omega)) dX4_digest_71 ?_
          refine z_topi (y := (zl z_1 272 4 h2).1 273 2599) (congrArg ((zl z_1 272 4 h2).1 273) (zcl (x := 2599) (n := 2921) (by omega) (by omega))) ?_
          refine z_topi (y := nI S.q.1) (hM1.q.2.1) ?_
          refine lv_icmp_ge (tgt := 115) C.x C.b dX4_digest_72 (by decide) (fun c_72 => ?_) (fun c_72 => absurd (zle (by omega) (by omega)) c_72)
          have e2 : dgQ S.q S.q.1 0 (mx h1 S.q.1) = h2 := hr2
          refine lv_aload_n C.x C.b dX4_digest_115 rfl (lv_at hl 0 rfl) ?_
          refine lv_aload_n C.x C.b dX4_digest_116 rfl (lv_at hl 0 rfl) ?_
          refine z_get C hw hB.lt (hB.at _ _) flX4_7 rfl dX4_digest_117 ?_
          refine lv_sipush (v := 2800) C.x C.b dX4_digest_120 (by decide) ?_
          refine z_iald C hw hB.ltn hB.now (zvin (x := 2800) (by omega) (by omega)) dX4_digest_123 ?_
          refine z_topi (y := (zl z_1 272 4 h2).1 273 2800) (congrArg ((zl z_1 272 4 h2).1 273) (zcl (x := 2800) (n := 2921) (by omega) (by omega))) ?_
          refine z_topi (y := nI S.ev.1) (hM1.e.2.1) ?_
          refine z_V0 (As := [.int (nI S.ev.1)]) (rest := []) C hw hl (m_X4_mixh hO z_1 hB h2 (v := S.ev.1) (by omega)) ivX4_141 hB.lt (hB.at _ _) rfl rfl ⟨(Nat.le_of_ble_eq_true rfl), (Nat.le_of_ble_eq_true rfl)⟩ (Nat.le_of_ble_eq_true rfl) ⟨Nat.zero_le _, Nat.zero_le _⟩ dX4_digest_124 (fun H locs hw => ?_)
          refine lv_iconst (v := 0) C.x C.b dX4_digest_127 (by decide) ?_
          refine lv_istore_n (lv' := [(1, .int 0), (0, .ref (G.h + 272))]) C.x C.b dX4_digest_128 rfl hl (by decide) rfl (fun ls hl => ?_)
          have loop3 : ∀ (d : Nat) (i : Nat) (h3 : Int64) (H : Heap) (locs : List Loc) (ls : Array Slot) (hi : i + d = 4 * S.ev.1) (hr3 : dgL (fun i => S.ev.2 (i / 4) (i % 4)) (4 * S.ev.1) (4 * 0) (mx h2 S.ev.1) = dgL (fun i => S.ev.2 (i / 4) (i % 4)) d i h3), zS G N Λ (zl z_1 272 4 h3) sS H locs → lv_has ls 2 [(0, .ref (G.h + 272)), (1, .int (nI i))] → W pP l eE (zR 5) sS mM ([.ref (G.h + 272)] : List Value).toArray bB tT cC H locs 0 0 (MQ bB (zQc G N Λ (some (.long (dig c S))) (zl (zi z 272 3 0) 272 4 (dig c S))) ([.ref (G.h + 272)] : List Value).toArray sS 0 0 (zA G)) (F0 mM 129 ls []) := by
            intro d
            induction d with
            | zero =>
              intro i h3 H locs ls hi hr3 hw hl
              have hdig : dig c S = dgL (fun i => S.ev.2 (i / 4) (i % 4)) (4 * S.ev.1) (4 * 0) (mx h2 S.ev.1) := by rw [dig, dgE_flat, e1, e2]
              refine lv_iload_n C.x C.b dX4_digest_129 rfl (lv_at hl 1 rfl) ?_
              refine lv_iconst (v := 4) C.x C.b dX4_digest_130 (by decide) ?_
              refine lv_aload_n C.x C.b dX4_digest_131 rfl (lv_at hl 0 rfl) ?_
              refine z_get C hw hB.lt (hB.at _ _) flX4_7 rfl dX4_digest_132 ?_
              refine lv_sipush (v := 2800) C.x C.b dX4_digest_135 (by decide) ?_
              refine z_iald C hw hB.ltn hB.now (zvin (x := 2800) (by omega) (by omega)) dX4_digest_138 ?_
              refine z_topi (y := (zl z_1 272 4 h3).1 273 2800) (congrArg ((zl z_1 272 4 h3).1 273) (zcl (x := 2800) (n := 2921) (by omega) (by omega))) ?_
              refine z_topi (y := nI S.ev.1) (hM1.e.2.1) ?_
              refine lv_imul C.x C.b dX4_digest_139 ?_
              refine z_topi (y := nI (4 * S.ev.1)) (by rw [zlit 4, pk_mul]) ?_
              refine lv_icmp_ge (tgt := 163) C.x C.b dX4_digest_140 (by decide) (fun c_140 => ?_) (fun c_140 => absurd (zle (by omega) (by omega)) c_140)
              have e3 : dgL (fun i => S.ev.2 (i / 4) (i % 4)) (4 * S.ev.1) (4 * 0) (mx h2 S.ev.1) = h3 := hr3
              refine lv_aload_n C.x C.b dX4_digest_163 rfl (lv_at hl 0 rfl) ?_
              refine z_get C hw hB.lt (hB.at _ _) flX4_137 rfl dX4_digest_164 ?_
              refine z_topl (y := h3) (zl_s _ _ _ _) ?_
              exact z_lret C hw dX4_digest_167 (by rw [hdig, e3]) (by rw [hdig, e3, ez_1])
            | succ d ih =>
              intro i h3 H locs ls hi hr3 hw hl
              refine lv_iload_n C.x C.b dX4_digest_129 rfl (lv_at hl 1 rfl) ?_
              refine lv_iconst (v := 4) C.x C.b dX4_digest_130 (by decide) ?_
              refine lv_aload_n C.x C.b dX4_digest_131 rfl (lv_at hl 0 rfl) ?_
              refine z_get C hw hB.lt (hB.at _ _) flX4_7 rfl dX4_digest_132 ?_
              refine lv_sipush (v := 2800) C.x C.b dX4_digest_135 (by decide) ?_
              refine z_iald C hw hB.ltn hB.now (zvin (x := 2800) (by omega) (by omega)) dX4_digest_138 ?_
              refine z_topi (y := (zl z_1 272 4 h3).1 273 2800) (congrArg ((zl z_1 272 4 h3).1 273) (zcl (x := 2800) (n := 2921) (by omega) (by omega))) ?_
              refine z_topi (y := nI S.ev.1) (hM1.e.2.1) ?_
              refine lv_imul C.x C.b dX4_digest_139 ?_
              refine z_topi (y := nI (4 * S.ev.1)) (by rw [zlit 4, pk_mul]) ?_
              refine lv_icmp_ge (tgt := 163) C.x C.b dX4_digest_140 (by decide) (fun c_140 => absurd c_140 (znle (by omega) (by omega))) (fun c_140 => ?_)
              have hev4 : S.ev.2 (i / 4) (i % 4) < 100 := by
                obtain ⟨q0, q1, q2, q3⟩ := hS.e.2 (i / 4) (by omega)
                rcases (show i % 4 = 0 ∨ i % 4 = 1 ∨ i % 4 = 2 ∨ i % 4 = 3 by omega) with h | h | h | h <;> rw [h] <;> omega
              refine lv_aload_n C.x C.b dX4_digest_143 rfl (lv_at hl 0 rfl) ?_
              refine lv_aload_n C.x C.b dX4_digest_144 rfl (lv_at hl 0 rfl) ?_
              refine z_get C hw hB.lt (hB.at _ _) flX4_7 rfl dX4_digest_145 ?_
              refine lv_sipush (v := 2801) C.x C.b dX4_digest_148 (by decide) ?_
              refine lv_iload_n C.x C.b dX4_digest_151 rfl (lv_at hl 1 rfl) ?_
              refine lv_iadd C.x C.b dX4_digest_152 ?_
              refine z_topi (y := nI (2801 + i)) (by rw [zlit 2801, nI_add]) ?_
              refine z_iald C hw hB.ltn hB.now (zvin (x := 2801 + i) (by omega) (by omega)) dX4_digest_153 ?_
              refine z_topi (y := (zl z_1 272 4 h3).1 273 (2801 + i)) (congrArg ((zl z_1 272 4 h3).1 273) (zcl (x := 2801 + i) (n := 2921) (by omega) (by omega))) ?_
              refine z_topi (y := nI ((fun i => S.ev.2 (i / 4) (i % 4)) i)) (hM1.e.flat (by omega)) ?_
              refine z_V0 (As := [.int (nI ((fun i => S.ev.2 (i / 4) (i % 4)) i))]) (rest := []) C hw hl (m_X4_mixh hO z_1 hB h3 (v := ((fun i => S.ev.2 (i / 4) (i % 4)) i)) (Nat.lt_trans hev4 (by omega))) ivX4_141 hB.lt (hB.at _ _) rfl rfl ⟨(Nat.le_of_ble_eq_true rfl), (Nat.le_of_ble_eq_true rfl)⟩ (Nat.le_of_ble_eq_true rfl) ⟨Nat.zero_le _, Nat.zero_le _⟩ dX4_digest_154 (fun H locs hw => ?_)
              refine lv_iinc (v := nI i + 1) (lv' := [(1, .int (nI i + 1)), (0, .ref (G.h + 272))]) C.x C.b dX4_digest_157 hl (k := 1) rfl rfl (by decide) rfl (fun ls hl => ?_)
              have hl : lv_has ls 2 [(1, .int (nI (i + 1))), (0, .ref (G.h + 272))] := by
                have e9 : nI i + 1 = nI (i + 1) := nI_1 i
                rw [← e9]; exact hl
              refine lv_goto (tgt := 129) C.x C.b dX4_digest_160 (by decide) ?_
              exact ih (i + 1) (mx h3 ((fun i => S.ev.2 (i / 4) (i % 4)) i)) _ _ _ (by omega) hr3 hw (lv_sub hl [1, 0] rfl)
          exact loop3 (4 * S.ev.1) 0 (mx h2 S.ev.1) _ _ _ (by omega) rfl hw (lv_sub hl [1, 0] rfl)
        | succ d ih =>
          intro j h2 H locs ls hj hr2 hw hl
          refine lv_iload_n C.x C.b dX4_digest_63 rfl (lv_at hl 1 rfl) ?_
          refine lv_aload_n C.x C.b dX4_digest_64 rfl (lv_at hl 0 rfl) ?_
          refine z_get C hw hB.lt (hB.at _ _) flX4_7 rfl dX4_digest_65 ?_
          refine lv_sipush (v := 2599) C.x C.b dX4_digest_68 (by decide) ?_
          refine z_iald C hw hB.ltn hB.now (zvin (x := 2599) (by omega) (by omega)) dX4_digest_71 ?_
          refine z_topi (y := (zl z_1 272 4 h2).1 273 2599) (congrArg ((zl z_1 272 4 h2).1 273) (zcl (x := 2599) (n := 2921) (by omega) (by omega))) ?_
          refine z_topi (y := nI S.q.1) (hM1.q.2.1) ?_
          refine lv_icmp_ge (tgt := 115) C.x C.b dX4_digest_72 (by decide) (fun c_72 => absurd c_72 (znle (by omega) (by omega))) (fun c_72 => ?_)
          have hjk : j < S.q.1 := by omega
          have hmj := hS.q.2 j hjk
          have hmg := hM1.q.2.2 j hjk
          refine lv_aload_n C.x C.b dX4_digest_75 rfl (lv_at hl 0 rfl) ?_
          refine lv_aload_n C.x C.b dX4_digest_76 rfl (lv_at hl 0 rfl) ?_
          refine z_get C hw hB.lt (hB.at _ _) flX4_7 rfl dX4_digest_77 ?_
          refine lv_sipush (v := 2600) C.x C.b dX4_digest_80 (by decide) ?_
          refine lv_iconst (v := 5) C.x C.b dX4_digest_83 (by decide) ?_
          refine lv_iload_n C.x C.b dX4_digest_84 rfl (lv_at hl 1 rfl) ?_
          refine lv_imul C.x C.b dX4_digest_85 ?_
          refine lv_iadd C.x C.b dX4_digest_86 ?_
          refine z_topi (y := nI (2600 + 5 * j)) (by rw [zlit 2600, zlit 5, pk_mul, nI_add]) ?_
          refine z_iald C hw hB.ltn hB.now (zvin (x := 2600 + 5 * j) (by omega) (by omega)) dX4_digest_87 ?_
          refine z_topi (y := (zl z_1 272 4 h2).1 273 (2600 + 5 * j)) (congrArg ((zl z_1 272 4 h2).1 273) (zcl (x := 2600 + 5 * j) (n := 2921) (by omega) (by omega))) ?_
          refine z_topi (y := nI (S.q.2 j 3)) (hmg.1) ?_
          refine z_V0 (As := [.int (nI (S.q.2 j 3))]) (rest := []) C hw hl (m_X4_mixh hO z_1 hB h2 (v := (S.q.2 j 3)) (by omega)) ivX4_141 hB.lt (hB.at _ _) rfl rfl ⟨(Nat.le_of_ble_eq_true rfl), (Nat.le_of_ble_eq_true rfl)⟩ (Nat.le_of_ble_eq_true rfl) ⟨Nat.zero_le _, Nat.zero_le _⟩ dX4_digest_88 (fun H locs hw => ?_)
          refine lv_aload_n C.x C.b dX4_digest_91 rfl (lv_at hl 0 rfl) ?_
          refine lv_aload_n C.x C.b dX4_digest_92 rfl (lv_at hl 0 rfl) ?_
          refine z_get C hw hB.lt (hB.at _ _) flX4_7 rfl dX4_digest_93 ?_
          refine z_pc (pc2 := 96) rfl ?_
          refine lv_sipush (v := 2600) C.x C.b dX4_digest_96 (by decide) ?_
          refine lv_iconst (v := 5) C.x C.b dX4_digest_99 (by decide) ?_
          refine lv_iload_n C.x C.b dX4_digest_100 rfl (lv_at hl 1 rfl) ?_
          refine lv_imul C.x C.b dX4_digest_101 ?_
          refine lv_iadd C.x C.b dX4_digest_102 ?_
          refine lv_iconst (v := 2) C.x C.b dX4_digest_103 (by decide) ?_
          refine lv_iadd C.x C.b dX4_digest_104 ?_
          refine z_topi (y := nI (2600 + 5 * j + 2)) (by rw [zlit 2600, zlit 5, zlit 2, pk_mul, nI_add, nI_add]) ?_
          refine z_iald C hw hB.ltn hB.now (zvin (x := 2600 + 5 * j + 2) (by omega) (by omega)) dX4_digest_105 ?_
          refine z_topi (y := (zl z_1 272 4 (mx h2 (S.q.2 j 3))).1 273 (2600 + 5 * j + 2)) (congrArg ((zl z_1 272 4 (mx h2 (S.q.2 j 3))).1 273) (zcl (x := 2600 + 5 * j + 2) (n := 2921) (by omega) (by omega))) ?_
          refine z_topi (y := nI (S.q.2 j 4)) (hmg.2.2.1) ?_
          refine z_V0 (As := [.int (nI (S.q.2 j 4))]) (rest := []) C hw hl (m_X4_mixh hO z_1 hB (mx h2 (S.q.2 j 3)) (v := (S.q.2 j 4)) (by omega)) ivX4_141 hB.lt (hB.at _ _) rfl rfl ⟨(Nat.le_of_ble_eq_true rfl), (Nat.le_of_ble_eq_true rfl)⟩ (Nat.le_of_ble_eq_true rfl) ⟨Nat.zero_le _, Nat.zero_le _⟩ dX4_digest_106 (fun H locs hw => ?_)
          refine lv_iinc (v := nI j + 1) (lv' := [(1, .int (nI j + 1)), (0, .ref (G.h + 272))]) C.x C.b dX4_digest_109 hl (k := 1) rfl rfl (by decide) rfl (fun ls hl => ?_)
          have hl : lv_has ls 2 [(1, .int (nI (j + 1))), (0, .ref (G.h + 272))] := by
            have e9 : nI j + 1 = nI (j + 1) := nI_1 j
            rw [← e9]; exact hl
          refine lv_goto (tgt := 63) C.x C.b dX4_digest_112 (by decide) ?_
          exact ih (j + 1) (mx (mx h2 (S.q.2 j 3)) (S.q.2 j 4)) _ _ _ (by omega) hr2 hw (lv_sub hl [1, 0] rfl)
      exact loop2 S.q.1 0 (mx h1 S.q.1) _ _ _ (by omega) rfl hw (lv_sub hl [1, 0] rfl)
    | succ d ih =>
      intro x h1 H locs ls hx hr1 hw hl
      refine lv_iload_n C.x C.b dX4_digest_30 rfl (lv_at hl 1 rfl) ?_
      refine lv_aload_n C.x C.b dX4_digest_31 rfl (lv_at hl 0 rfl) ?_
      refine z_Vv (As := []) (rest := [.int (nI x)]) C hw hl (m_X4_many hO _ hB hM1.n) ivX4_66 hB.lt (hB.at _ _) rfl rfl ⟨(Nat.le_of_ble_eq_true rfl), (Nat.le_of_ble_eq_true rfl)⟩ (Nat.le_of_ble_eq_true rfl) ⟨Nat.zero_le _, Nat.zero_le _⟩ dX4_digest_32 (fun H locs hw => ?_)
      refine lv_icmp_ge (tgt := 49) C.x C.b dX4_digest_35 (by decide) (fun c_35 => absurd c_35 (znle (by omega) (by omega))) (fun c_35 => ?_)
      refine lv_aload_n C.x C.b dX4_digest_38 rfl (lv_at hl 0 rfl) ?_
      refine lv_iload_n C.x C.b dX4_digest_39 rfl (lv_at hl 1 rfl) ?_
      refine z_V0 (As := [.int (nI x)]) (rest := []) C hw hl (m_X4_mixMh hO z_1 hB hM1 hS (show x < S.n by omega) (by omega) h1) ivX4_146 hB.lt (hB.at _ _) rfl rfl ⟨(Nat.le_of_ble_eq_true rfl), (Nat.le_of_ble_eq_true rfl)⟩ (Nat.le_of_ble_eq_true rfl) ⟨Nat.zero_le _, Nat.zero_le _⟩ dX4_digest_40 (fun H locs hw => ?_)
      refine lv_iinc (v := nI x + 1) (lv' := [(1, .int (nI x + 1)), (0, .ref (G.h + 272))]) C.x C.b dX4_digest_43 hl (k := 1) rfl rfl (by decide) rfl (fun ls hl => ?_)
      have hl : lv_has ls 2 [(1, .int (nI (x + 1))), (0, .ref (G.h + 272))] := by
        have e9 : nI x + 1 = nI (x + 1) := nI_1 x
        rw [← e9]; exact hl
      refine lv_goto (tgt := 30) C.x C.b dX4_digest_46 (by decide) ?_
      exact ih (x + 1) (dgM (S.m x) S.n h1) _ _ _ (by omega) hr1 hw (lv_sub hl [1, 0] rfl)
  exact loop S.n 0 (mx (mx 12833 c) S.n) _ _ _ (by omega) rfl hw (lv_sub hl [1, 0] rfl)
