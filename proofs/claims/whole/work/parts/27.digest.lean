/-! ===== the digest ===== -/
def mx (h : Int64) (v : Nat) : Int64 := 31 * h + lN v
def dgL (f : Nat → Nat) : Nat → Nat → Int64 → Int64
  | 0, _, h => h
  | d + 1, j, h => dgL f d (j + 1) (mx h (f j))
def dgM (M : aM) (n : Nat) (h : Int64) : Int64 := dgL M.ver n 0 (mx (mx (mx (dgL (fun j => pk (M.log.2 j 0) (M.log.2 j 1) (M.log.2 j 2)) M.log.1 0 (mx (mx (mx (mx (mx h M.st) M.sil) M.lie) M.wit) M.log.1)) (CH M.log.2 M.log.1)) M.held.1) M.pend.1)
def dgMs (S : aS) : Nat → Nat → Int64 → Int64
  | 0, _, h => h
  | d + 1, x, h => dgMs S d (x + 1) (dgM (S.m x) S.n h)
def dgQ (T : aT) : Nat → Nat → Int64 → Int64
  | 0, _, h => h
  | d + 1, j, h => dgQ T d (j + 1) (mx (mx h (T.2 j 3)) (T.2 j 4))
def dgE (T : aT) : Nat → Nat → Int64 → Int64
  | 0, _, h => h
  | d + 1, j, h => dgE T d (j + 1) (dgL (T.2 j) 4 0 h)
def dig (c : Nat) (S : aS) : Int64 := dgE S.ev S.ev.1 0 (mx (dgQ S.q S.q.1 0 (mx (dgMs S S.n 0 (mx (mx 12833 c) S.n)) S.q.1)) S.ev.1)
theorem mx_i {v : Nat} (h : Int64) (hv : v < 2 ^ 31) : 31 * h + (nI v).toInt64 = mx h v := by rw [nI_l hv]; rfl
theorem pkv_lt {a q v : Nat} (ha : a ≤ 2) (hq : q ≤ 6) (hv : v < 1000) : pk a q v < 1000000 := by unfold pk; omega
theorem zbl1 {n : Nat} (h : n < 2) (hn : ¬ nI n = 0) : n = 1 := by have := zpos hn; omega
set_option maxRecDepth 100000 in
set_option maxHeartbeats 4000000 in
theorem m_X3_mixMachine {G : zG} {N : Nat} {Λ : zLay} {l : Launch} (hO : zOK G l) (z : zM) {b x : Nat} (hM : zMa G N Λ b x) {M : aM} (hm : rM z b M) {n : Nat} (ho : okM n x M) (hn6 : n ≤ 6) {h : Int64} : zMet G N Λ l yX3_mixMachine cX3_mixMachine 8 (some .long) 2 [.long h, .ref (G.h + b), .int (nI n)] z (some (.long (dgM M n h))) z := by
  refine zMet_of hO (by decide) (Nat.le_of_ble_eq_true rfl) ?_
  intro pP eE sS mM bB tT cC ls C hw hl
  have hl : lv_has ls 8 [(0, .long h), (2, .ref (G.h + b)), (3, .int (nI n))] := hl
  have hst := ho.st
  have hsi := ho.sil
  have hli := ho.lie
  have hwt := ho.wit
  have h64 : 2 ^ n ≤ 2 ^ 6 := Nat.pow_le_pow_right (by omega) hn6
  have hlg := ho.log.1
  have hhd := ho.held.1
  have hpd := ho.pend.1
  have hlr := ho.log.row hn6
  have hch := CH_lt M.log.2 M.log.1
  refine lv_lload_n C.x C.b dX3_mixMachine_0 rfl (lv_at hl 0 rfl) ?_
  refine lv_aload_n C.x C.b dX3_mixMachine_1 rfl (lv_at hl 1 rfl) ?_
  refine z_get C hw hM.lt (hM.at _ _) flX3_72 rfl dX3_mixMachine_2 ?_
  refine z_topi (y := nI M.st) (hm.1.1) ?_
  refine lv_i2l C.x C.b dX3_mixMachine_5 rfl ?_
  refine z_Sv (As := [.long h, .long ((nI M.st).toInt64)]) (rest := []) C hw hl (m_X3_mix hO _) ivX3_198 rfl rfl ⟨(Nat.le_of_ble_eq_true rfl), (Nat.le_of_ble_eq_true rfl)⟩ (Nat.le_of_ble_eq_true rfl) ⟨Nat.zero_le _, Nat.zero_le _⟩ dX3_mixMachine_6 (fun H locs hw => ?_)
  refine z_topl (y := mx h M.st) (mx_i _ (by omega)) ?_
  refine lv_lstore (lv' := [(4, .long (mx h M.st)), (0, .long h), (2, .ref (G.h + b)), (3, .int (nI n))]) C.x C.b dX3_mixMachine_9 hl (by decide) rfl (fun ls hl => ?_)
  refine lv_lload C.x C.b dX3_mixMachine_11 (lv_at hl 0 rfl) ?_
  refine lv_aload_n C.x C.b dX3_mixMachine_13 rfl (lv_at hl 2 rfl) ?_
  refine z_get C hw hM.lt (hM.at _ _) flX3_90 rfl dX3_mixMachine_14 ?_
  refine z_topi (y := nI M.sil) (hm.1.2.1) ?_
  refine lv_if_eq (tgt := 24) C.x C.b dX3_mixMachine_17 (by decide) (fun c_17 => ?_) (fun c_17 => ?_)
  · refine lv_lconst (v := 0) C.x C.b dX3_mixMachine_24 (by decide) ?_
    refine z_topl (y := (nI M.sil).toInt64) (by rw [zzero (by omega) c_17]; rfl) ?_
    refine z_Sv (As := [.long (mx h M.st), .long ((nI M.sil).toInt64)]) (rest := []) C hw hl (m_X3_mix hO _) ivX3_198 rfl rfl ⟨(Nat.le_of_ble_eq_true rfl), (Nat.le_of_ble_eq_true rfl)⟩ (Nat.le_of_ble_eq_true rfl) ⟨Nat.zero_le _, Nat.zero_le _⟩ dX3_mixMachine_25 (fun H locs hw => ?_)
    refine z_topl (y := mx (mx h M.st) M.sil) (mx_i _ (by omega)) ?_
    refine lv_lstore (lv' := [(4, .long (mx (mx h M.st) M.sil)), (0, .long h), (2, .ref (G.h + b)), (3, .int (nI n))]) C.x C.b dX3_mixMachine_28 hl (by decide) rfl (fun ls hl => ?_)
    refine lv_lload C.x C.b dX3_mixMachine_30 (lv_at hl 0 rfl) ?_
    refine lv_aload_n C.x C.b dX3_mixMachine_32 rfl (lv_at hl 2 rfl) ?_
    refine z_get C hw hM.lt (hM.at _ _) flX3_106 rfl dX3_mixMachine_33 ?_
    refine z_topi (y := nI M.lie) (hm.1.2.2.1) ?_
    refine lv_if_eq (tgt := 43) C.x C.b dX3_mixMachine_36 (by decide) (fun c_36 => ?_) (fun c_36 => ?_)
    · refine lv_lconst (v := 0) C.x C.b dX3_mixMachine_43 (by decide) ?_
      refine z_topl (y := (nI M.lie).toInt64) (by rw [zzero (by omega) c_36]; rfl) ?_
      refine z_Sv (As := [.long (mx (mx h M.st) M.sil), .long ((nI M.lie).toInt64)]) (rest := []) C hw hl (m_X3_mix hO _) ivX3_198 rfl rfl ⟨(Nat.le_of_ble_eq_true rfl), (Nat.le_of_ble_eq_true rfl)⟩ (Nat.le_of_ble_eq_true rfl) ⟨Nat.zero_le _, Nat.zero_le _⟩ dX3_mixMachine_44 (fun H locs hw => ?_)
      refine z_topl (y := mx (mx (mx h M.st) M.sil) M.lie) (mx_i _ (by omega)) ?_
      refine z_pc (pc2 := 47) rfl ?_
      refine lv_lstore (lv' := [(4, .long (mx (mx (mx h M.st) M.sil) M.lie)), (0, .long h), (2, .ref (G.h + b)), (3, .int (nI n))]) C.x C.b dX3_mixMachine_47 hl (by decide) rfl (fun ls hl => ?_)
      refine lv_lload C.x C.b dX3_mixMachine_49 (lv_at hl 0 rfl) ?_
      refine lv_aload_n C.x C.b dX3_mixMachine_51 rfl (lv_at hl 2 rfl) ?_
      refine z_get C hw hM.lt (hM.at _ _) flX3_153 rfl dX3_mixMachine_52 ?_
      refine z_topi (y := nI M.wit) (hm.1.2.2.2) ?_
      refine lv_i2l C.x C.b dX3_mixMachine_55 rfl ?_
      refine z_Sv (As := [.long (mx (mx (mx h M.st) M.sil) M.lie), .long ((nI M.wit).toInt64)]) (rest := []) C hw hl (m_X3_mix hO _) ivX3_198 rfl rfl ⟨(Nat.le_of_ble_eq_true rfl), (Nat.le_of_ble_eq_true rfl)⟩ (Nat.le_of_ble_eq_true rfl) ⟨Nat.zero_le _, Nat.zero_le _⟩ dX3_mixMachine_56 (fun H locs hw => ?_)
      refine z_topl (y := mx (mx (mx (mx h M.st) M.sil) M.lie) M.wit) (mx_i _ (by omega)) ?_
      refine lv_lstore (lv' := [(4, .long (mx (mx (mx (mx h M.st) M.sil) M.lie) M.wit)), (0, .long h), (2, .ref (G.h + b)), (3, .int (nI n))]) C.x C.b dX3_mixMachine_59 hl (by decide) rfl (fun ls hl => ?_)
      refine lv_aload_n C.x C.b dX3_mixMachine_61 rfl (lv_at hl 2 rfl) ?_
      refine z_get C hw hM.lt (hM.at _ _) flX3_113 rfl dX3_mixMachine_62 ?_
      refine z_get C hw hM.log.lt (hM.log.at _ _) flX3_52 rfl dX3_mixMachine_65 ?_
      refine z_topi (y := nI M.log.1) (hm.2.2.1.1) ?_
      refine lv_istore (lv' := [(6, .int (nI M.log.1)), (4, .long (mx (mx (mx (mx h M.st) M.sil) M.lie) M.wit)), (0, .long h), (2, .ref (G.h + b)), (3, .int (nI n))]) C.x C.b dX3_mixMachine_68 hl (by decide) rfl (fun ls hl => ?_)
      refine lv_lload C.x C.b dX3_mixMachine_70 (lv_at hl 1 rfl) ?_
      refine lv_iload C.x C.b dX3_mixMachine_72 (lv_at hl 0 rfl) ?_
      refine lv_i2l C.x C.b dX3_mixMachine_74 rfl ?_
      refine z_Sv (As := [.long (mx (mx (mx (mx h M.st) M.sil) M.lie) M.wit), .long ((nI M.log.1).toInt64)]) (rest := []) C hw hl (m_X3_mix hO _) ivX3_198 rfl rfl ⟨(Nat.le_of_ble_eq_true rfl), (Nat.le_of_ble_eq_true rfl)⟩ (Nat.le_of_ble_eq_true rfl) ⟨Nat.zero_le _, Nat.zero_le _⟩ dX3_mixMachine_75 (fun H locs hw => ?_)
      refine z_topl (y := mx (mx (mx (mx (mx h M.st) M.sil) M.lie) M.wit) M.log.1) (mx_i _ (by omega)) ?_
      refine lv_lstore (lv' := [(4, .long (mx (mx (mx (mx (mx h M.st) M.sil) M.lie) M.wit) M.log.1)), (6, .int (nI M.log.1)), (0, .long h), (2, .ref (G.h + b)), (3, .int (nI n))]) C.x C.b dX3_mixMachine_78 hl (by decide) rfl (fun ls hl => ?_)
      refine lv_iconst (v := 0) C.x C.b dX3_mixMachine_80 (by decide) ?_
      refine lv_istore (lv' := [(7, .int 0), (4, .long (mx (mx (mx (mx (mx h M.st) M.sil) M.lie) M.wit) M.log.1)), (6, .int (nI M.log.1)), (0, .long h), (2, .ref (G.h + b)), (3, .int (nI n))]) C.x C.b dX3_mixMachine_81 hl (by decide) rfl (fun ls hl => ?_)
      have loop : ∀ (d : Nat) (j : Nat) (hh : Int64) (H : Heap) (locs : List Loc) (ls : Array Slot) (hj : j + d = M.log.1) (hr : dgL (fun j => pk (M.log.2 j 0) (M.log.2 j 1) (M.log.2 j 2)) M.log.1 0 (mx (mx (mx (mx (mx h M.st) M.sil) M.lie) M.wit) M.log.1) = dgL (fun j => pk (M.log.2 j 0) (M.log.2 j 1) (M.log.2 j 2)) d j hh), zS G N Λ z sS H locs → lv_has ls 8 [(2, .ref (G.h + b)), (3, .int (nI n)), (4, .long hh), (6, .int (nI M.log.1)), (7, .int (nI j))] → W pP l eE (zR 2) sS mM ([.long h, .ref (G.h + b), .int (nI n)] : List Value).toArray bB tT cC H locs 0 0 (MQ bB (zQc G N Λ (some (.long (dgM M n h))) z) ([.long h, .ref (G.h + b), .int (nI n)] : List Value).toArray sS 0 0 (zA G)) (F0 mM 83 ls []) := by
        intro d
        induction d with
        | zero =>
          intro j hh H locs ls hj hr hw hl
          refine lv_iload C.x C.b dX3_mixMachine_83 (lv_at hl 4 rfl) ?_
          refine lv_iload C.x C.b dX3_mixMachine_85 (lv_at hl 3 rfl) ?_
          refine lv_icmp_ge (tgt := 110) C.x C.b dX3_mixMachine_87 (by decide) (fun c_87 => ?_) (fun c_87 => absurd (zle (by omega) (by omega)) c_87)
          have e9 : hh = dgL (fun j => pk (M.log.2 j 0) (M.log.2 j 1) (M.log.2 j 2)) M.log.1 0 (mx (mx (mx (mx (mx h M.st) M.sil) M.lie) M.wit) M.log.1) := hr.symm
          refine lv_lload C.x C.b dX3_mixMachine_110 (lv_at hl 2 rfl) ?_
          refine lv_aload_n C.x C.b dX3_mixMachine_112 rfl (lv_at hl 0 rfl) ?_
          refine lv_iload C.x C.b dX3_mixMachine_113 (lv_at hl 3 rfl) ?_
          refine z_Vv (As := [.int (nI M.log.1)]) (rest := [.long hh]) C hw hl (m_X0_chainAt hO _ hM hm.2.2.1.1 hlg (i := M.log.1) (Nat.le_refl _)) ivX3_138 hM.lt (hM.at _ _) rfl rfl ⟨(Nat.le_of_ble_eq_true rfl), (Nat.le_of_ble_eq_true rfl)⟩ (Nat.le_of_ble_eq_true rfl) ⟨Nat.zero_le _, Nat.zero_le _⟩ dX3_mixMachine_115 (fun H locs hw => ?_)
          refine z_topi (y := nI (CH M.log.2 M.log.1)) (chv_log hm.2.2.1 (Nat.le_refl _)) ?_
          refine lv_i2l C.x C.b dX3_mixMachine_118 rfl ?_
          refine z_Sv (As := [.long hh, .long ((nI (CH M.log.2 M.log.1)).toInt64)]) (rest := []) C hw hl (m_X3_mix hO _) ivX3_198 rfl rfl ⟨(Nat.le_of_ble_eq_true rfl), (Nat.le_of_ble_eq_true rfl)⟩ (Nat.le_of_ble_eq_true rfl) ⟨Nat.zero_le _, Nat.zero_le _⟩ dX3_mixMachine_119 (fun H locs hw => ?_)
          refine z_topl (y := mx hh (CH M.log.2 M.log.1)) (mx_i _ (by omega)) ?_
          refine lv_lstore (lv' := [(4, .long (mx hh (CH M.log.2 M.log.1))), (2, .ref (G.h + b)), (3, .int (nI n)), (6, .int (nI M.log.1)), (7, .int (nI j))]) C.x C.b dX3_mixMachine_122 hl (by decide) rfl (fun ls hl => ?_)
          refine lv_lload C.x C.b dX3_mixMachine_124 (lv_at hl 0 rfl) ?_
          refine lv_aload_n C.x C.b dX3_mixMachine_126 rfl (lv_at hl 1 rfl) ?_
          refine z_get C hw hM.lt (hM.at _ _) flX3_141 rfl dX3_mixMachine_127 ?_
          refine z_get C hw hM.held.lt (hM.held.at _ _) flX3_52 rfl dX3_mixMachine_130 ?_
          refine z_topi (y := nI M.held.1) (hm.2.2.2.1.1) ?_
          refine lv_i2l C.x C.b dX3_mixMachine_133 rfl ?_
          refine z_Sv (As := [.long (mx hh (CH M.log.2 M.log.1)), .long ((nI M.held.1).toInt64)]) (rest := []) C hw hl (m_X3_mix hO _) ivX3_198 rfl rfl ⟨(Nat.le_of_ble_eq_true rfl), (Nat.le_of_ble_eq_true rfl)⟩ (Nat.le_of_ble_eq_true rfl) ⟨Nat.zero_le _, Nat.zero_le _⟩ dX3_mixMachine_134 (fun H locs hw => ?_)
          refine z_topl (y := mx (mx hh (CH M.log.2 M.log.1)) M.held.1) (mx_i _ (by omega)) ?_
          refine lv_lstore (lv' := [(4, .long (mx (mx hh (CH M.log.2 M.log.1)) M.held.1)), (2, .ref (G.h + b)), (3, .int (nI n)), (6, .int (nI M.log.1)), (7, .int (nI j))]) C.x C.b dX3_mixMachine_137 hl (by decide) rfl (fun ls hl => ?_)
          refine lv_lload C.x C.b dX3_mixMachine_139 (lv_at hl 0 rfl) ?_
          refine lv_aload_n C.x C.b dX3_mixMachine_141 rfl (lv_at hl 1 rfl) ?_
          refine z_pc (pc2 := 142) rfl ?_
          refine z_get C hw hM.lt (hM.at _ _) flX3_94 rfl dX3_mixMachine_142 ?_
          refine z_get C hw hM.pend.lt (hM.pend.at _ _) flX3_52 rfl dX3_mixMachine_145 ?_
          refine z_topi (y := nI M.pend.1) (hm.2.2.2.2.1) ?_
          refine lv_i2l C.x C.b dX3_mixMachine_148 rfl ?_
          refine z_Sv (As := [.long (mx (mx hh (CH M.log.2 M.log.1)) M.held.1), .long ((nI M.pend.1).toInt64)]) (rest := []) C hw hl (m_X3_mix hO _) ivX3_198 rfl rfl ⟨(Nat.le_of_ble_eq_true rfl), (Nat.le_of_ble_eq_true rfl)⟩ (Nat.le_of_ble_eq_true rfl) ⟨Nat.zero_le _, Nat.zero_le _⟩ dX3_mixMachine_149 (fun H locs hw => ?_)
          refine z_topl (y := mx (mx (mx hh (CH M.log.2 M.log.1)) M.held.1) M.pend.1) (mx_i _ (by omega)) ?_
          refine lv_lstore (lv' := [(4, .long (mx (mx (mx hh (CH M.log.2 M.log.1)) M.held.1) M.pend.1)), (2, .ref (G.h + b)), (3, .int (nI n)), (6, .int (nI M.log.1)), (7, .int (nI j))]) C.x C.b dX3_mixMachine_152 hl (by decide) rfl (fun ls hl => ?_)
          refine lv_iconst (v := 0) C.x C.b dX3_mixMachine_154 (by decide) ?_
          refine lv_istore (lv' := [(7, .int 0), (4, .long (mx (mx (mx hh (CH M.log.2 M.log.1)) M.held.1) M.pend.1)), (2, .ref (G.h + b)), (3, .int (nI n)), (6, .int (nI M.log.1))]) C.x C.b dX3_mixMachine_155 hl (by decide) rfl (fun ls hl => ?_)
          have loop2 : ∀ (d : Nat) (j : Nat) (h2 : Int64) (H : Heap) (locs : List Loc) (ls : Array Slot) (hj2 : j + d = n) (hr2 : dgL M.ver n 0 (mx (mx (mx hh (CH M.log.2 M.log.1)) M.held.1) M.pend.1) = dgL M.ver d j h2), zS G N Λ z sS H locs → lv_has ls 8 [(2, .ref (G.h + b)), (3, .int (nI n)), (4, .long h2), (7, .int (nI j))] → W pP l eE (zR 2) sS mM ([.long h, .ref (G.h + b), .int (nI n)] : List Value).toArray bB tT cC H locs 0 0 (MQ bB (zQc G N Λ (some (.long (dgM M n h))) z) ([.long h, .ref (G.h + b), .int (nI n)] : List Value).toArray sS 0 0 (zA G)) (F0 mM 157 ls []) := by
            intro d
            induction d with
            | zero =>
              intro j h2 H locs ls hj2 hr2 hw hl
              refine lv_iload C.x C.b dX3_mixMachine_157 (lv_at hl 3 rfl) ?_
              refine lv_iload_n C.x C.b dX3_mixMachine_159 rfl (lv_at hl 1 rfl) ?_
              refine lv_icmp_ge (tgt := 184) C.x C.b dX3_mixMachine_160 (by decide) (fun c_160 => ?_) (fun c_160 => absurd (zle (by omega) (by omega)) c_160)
              refine lv_lload C.x C.b dX3_mixMachine_184 (lv_at hl 2 rfl) ?_
              exact z_lret C hw dX3_mixMachine_186 (by rw [dgM, ← e9, hr2]; rfl) (rfl)
            | succ d ih =>
              intro j h2 H locs ls hj2 hr2 hw hl
              refine lv_iload C.x C.b dX3_mixMachine_157 (lv_at hl 3 rfl) ?_
              refine lv_iload_n C.x C.b dX3_mixMachine_159 rfl (lv_at hl 1 rfl) ?_
              refine lv_icmp_ge (tgt := 184) C.x C.b dX3_mixMachine_160 (by decide) (fun c_160 => absurd c_160 (znle (by omega) (by omega))) (fun c_160 => ?_)
              have hj6 : j < 6 := by omega
              have hvj := ho.ver j
              refine lv_lload C.x C.b dX3_mixMachine_163 (lv_at hl 2 rfl) ?_
              refine lv_aload_n C.x C.b dX3_mixMachine_165 rfl (lv_at hl 0 rfl) ?_
              refine z_get C hw hM.lt (hM.at _ _) flX3_161 rfl dX3_mixMachine_166 ?_
              refine lv_iload C.x C.b dX3_mixMachine_169 (lv_at hl 3 rfl) ?_
              refine z_iald C hw hM.lt1 hM.ver (zvin hj6 (by omega)) dX3_mixMachine_171 ?_
              refine z_topi (y := nI (M.ver j)) (by rw [zcl hj6 (by omega)]; exact hm.2.1 j hj6) ?_
              refine lv_i2l C.x C.b dX3_mixMachine_172 rfl ?_
              refine z_Sv (As := [.long h2, .long ((nI (M.ver j)).toInt64)]) (rest := []) C hw hl (m_X3_mix hO _) ivX3_198 rfl rfl ⟨(Nat.le_of_ble_eq_true rfl), (Nat.le_of_ble_eq_true rfl)⟩ (Nat.le_of_ble_eq_true rfl) ⟨Nat.zero_le _, Nat.zero_le _⟩ dX3_mixMachine_173 (fun H locs hw => ?_)
              refine z_topl (y := mx h2 (M.ver j)) (mx_i _ (by omega)) ?_
              refine lv_lstore (lv' := [(4, .long (mx h2 (M.ver j))), (2, .ref (G.h + b)), (3, .int (nI n)), (7, .int (nI j))]) C.x C.b dX3_mixMachine_176 hl (by decide) rfl (fun ls hl => ?_)
              refine lv_iinc (v := nI j + 1) (lv' := [(7, .int (nI j + 1)), (4, .long (mx h2 (M.ver j))), (2, .ref (G.h + b)), (3, .int (nI n))]) C.x C.b dX3_mixMachine_178 hl (k := 3) rfl rfl (by decide) rfl (fun ls hl => ?_)
              have hl : lv_has ls 8 [(7, .int (nI (j + 1))), (4, .long (mx h2 (M.ver j))), (2, .ref (G.h + b)), (3, .int (nI n))] := by
                have e9 : nI j + 1 = nI (j + 1) := nI_1 j
                rw [← e9]; exact hl
              refine lv_goto (tgt := 157) C.x C.b dX3_mixMachine_181 (by decide) ?_
              exact ih (j + 1) (mx h2 (M.ver j)) _ _ _ (by omega) hr2 hw (lv_sub hl [2, 3, 1, 0] rfl)
          exact loop2 n 0 (mx (mx (mx hh (CH M.log.2 M.log.1)) M.held.1) M.pend.1) _ _ _ (by omega) rfl hw (lv_sub hl [2, 3, 1, 0] rfl)
        | succ d ih =>
          intro j hh H locs ls hj hr hw hl
          refine lv_iload C.x C.b dX3_mixMachine_83 (lv_at hl 4 rfl) ?_
          refine lv_iload C.x C.b dX3_mixMachine_85 (lv_at hl 3 rfl) ?_
          refine lv_icmp_ge (tgt := 110) C.x C.b dX3_mixMachine_87 (by decide) (fun c_87 => absurd c_87 (znle (by omega) (by omega))) (fun c_87 => ?_)
          refine lv_lload C.x C.b dX3_mixMachine_90 (lv_at hl 2 rfl) ?_
          refine lv_aload_n C.x C.b dX3_mixMachine_92 rfl (lv_at hl 0 rfl) ?_
          refine lv_iload C.x C.b dX3_mixMachine_93 (lv_at hl 4 rfl) ?_
          refine z_Vv (As := [.int (nI j)]) (rest := [.long hh]) C hw hl (m_X0_packedEntry hO _ hM hm.2.2.1.1 hlg hm.2.2.1.2.1 hlr (j := j) (by omega)) ivX3_129 hM.lt (hM.at _ _) rfl rfl ⟨(Nat.le_of_ble_eq_true rfl), (Nat.le_of_ble_eq_true rfl)⟩ (Nat.le_of_ble_eq_true rfl) ⟨Nat.zero_le _, Nat.zero_le _⟩ dX3_mixMachine_95 (fun H locs hw => ?_)
          have hrj := hlr j (by omega)
          refine lv_i2l C.x C.b dX3_mixMachine_98 rfl ?_
          refine z_Sv (As := [.long hh, .long ((nI (pk (M.log.2 j 0) (M.log.2 j 1) (M.log.2 j 2))).toInt64)]) (rest := []) C hw hl (m_X3_mix hO _) ivX3_198 rfl rfl ⟨(Nat.le_of_ble_eq_true rfl), (Nat.le_of_ble_eq_true rfl)⟩ (Nat.le_of_ble_eq_true rfl) ⟨Nat.zero_le _, Nat.zero_le _⟩ dX3_mixMachine_99 (fun H locs hw => ?_)
          refine z_topl (y := mx hh (pk (M.log.2 j 0) (M.log.2 j 1) (M.log.2 j 2))) (mx_i _ (Nat.lt_trans (pkv_lt hrj.1 hrj.2.1 hrj.2.2) (by omega))) ?_
          refine lv_lstore (lv' := [(4, .long (mx hh (pk (M.log.2 j 0) (M.log.2 j 1) (M.log.2 j 2)))), (2, .ref (G.h + b)), (3, .int (nI n)), (6, .int (nI M.log.1)), (7, .int (nI j))]) C.x C.b dX3_mixMachine_102 hl (by decide) rfl (fun ls hl => ?_)
          refine lv_iinc (v := nI j + 1) (lv' := [(7, .int (nI j + 1)), (4, .long (mx hh (pk (M.log.2 j 0) (M.log.2 j 1) (M.log.2 j 2)))), (2, .ref (G.h + b)), (3, .int (nI n)), (6, .int (nI M.log.1))]) C.x C.b dX3_mixMachine_104 hl (k := 4) rfl rfl (by decide) rfl (fun ls hl => ?_)
          have hl : lv_has ls 8 [(7, .int (nI (j + 1))), (4, .long (mx hh (pk (M.log.2 j 0) (M.log.2 j 1) (M.log.2 j 2)))), (2, .ref (G.h + b)), (3, .int (nI n)), (6, .int (nI M.log.1))] := by
            have e9 : nI j + 1 = nI (j + 1) := nI_1 j
            rw [← e9]; exact hl
          refine lv_goto (tgt := 83) C.x C.b dX3_mixMachine_107 (by decide) ?_
          exact ih (j + 1) (mx hh (pk (M.log.2 j 0) (M.log.2 j 1) (M.log.2 j 2))) _ _ _ (by omega) hr hw (lv_sub hl [2, 3, 1, 4, 0] rfl)
      exact loop M.log.1 0 (mx (mx (mx (mx (mx h M.st) M.sil) M.lie) M.wit) M.log.1) _ _ _ (by omega) rfl hw (lv_sub hl [4, 5, 1, 2, 0] rfl)
    · refine lv_lconst (v := 1) C.x C.b dX3_mixMachine_39 (by decide) ?_
      refine lv_goto (tgt := 44) C.x C.b dX3_mixMachine_40 (by decide) ?_
      refine z_topl (y := (nI M.lie).toInt64) (by rw [zbl1 hli c_36]; rfl) ?_
      refine z_pc (pc2 := 44) rfl ?_
      refine z_Sv (As := [.long (mx (mx h M.st) M.sil), .long ((nI M.lie).toInt64)]) (rest := []) C hw hl (m_X3_mix hO _) ivX3_198 rfl rfl ⟨(Nat.le_of_ble_eq_true rfl), (Nat.le_of_ble_eq_true rfl)⟩ (Nat.le_of_ble_eq_true rfl) ⟨Nat.zero_le _, Nat.zero_le _⟩ dX3_mixMachine_44 (fun H locs hw => ?_)
      refine z_topl (y := mx (mx (mx h M.st) M.sil) M.lie) (mx_i _ (by omega)) ?_
      refine lv_lstore (lv' := [(4, .long (mx (mx (mx h M.st) M.sil) M.lie)), (0, .long h), (2, .ref (G.h + b)), (3, .int (nI n))]) C.x C.b dX3_mixMachine_47 hl (by decide) rfl (fun ls hl => ?_)
      refine lv_lload C.x C.b dX3_mixMachine_49 (lv_at hl 0 rfl) ?_
      refine lv_aload_n C.x C.b dX3_mixMachine_51 rfl (lv_at hl 2 rfl) ?_
      refine z_get C hw hM.lt (hM.at _ _) flX3_153 rfl dX3_mixMachine_52 ?_
      refine z_topi (y := nI M.wit) (hm.1.2.2.2) ?_
      refine lv_i2l C.x C.b dX3_mixMachine_55 rfl ?_
      refine z_Sv (As := [.long (mx (mx (mx h M.st) M.sil) M.lie), .long ((nI M.wit).toInt64)]) (rest := []) C hw hl (m_X3_mix hO _) ivX3_198 rfl rfl ⟨(Nat.le_of_ble_eq_true rfl), (Nat.le_of_ble_eq_true rfl)⟩ (Nat.le_of_ble_eq_true rfl) ⟨Nat.zero_le _, Nat.zero_le _⟩ dX3_mixMachine_56 (fun H locs hw => ?_)
      refine z_topl (y := mx (mx (mx (mx h M.st) M.sil) M.lie) M.wit) (mx_i _ (by omega)) ?_
      refine lv_lstore (lv' := [(4, .long (mx (mx (mx (mx h M.st) M.sil) M.lie) M.wit)), (0, .long h), (2, .ref (G.h + b)), (3, .int (nI n))]) C.x C.b dX3_mixMachine_59 hl (by decide) rfl (fun ls hl => ?_)
      refine lv_aload_n C.x C.b dX3_mixMachine_61 rfl (lv_at hl 2 rfl) ?_
      refine z_get C hw hM.lt (hM.at _ _) flX3_113 rfl dX3_mixMachine_62 ?_
      refine z_get C hw hM.log.lt (hM.log.at _ _) flX3_52 rfl dX3_mixMachine_65 ?_
      refine z_topi (y := nI M.log.1) (hm.2.2.1.1) ?_
      refine lv_istore (lv' := [(6, .int (nI M.log.1)), (4, .long (mx (mx (mx (mx h M.st) M.sil) M.lie) M.wit)), (0, .long h), (2, .ref (G.h + b)), (3, .int (nI n))]) C.x C.b dX3_mixMachine_68 hl (by decide) rfl (fun ls hl => ?_)
      refine lv_lload C.x C.b dX3_mixMachine_70 (lv_at hl 1 rfl) ?_
      refine lv_iload C.x C.b dX3_mixMachine_72 (lv_at hl 0 rfl) ?_
      refine lv_i2l C.x C.b dX3_mixMachine_74 rfl ?_
      refine z_Sv (As := [.long (mx (mx (mx (mx h M.st) M.sil) M.lie) M.wit), .long ((nI M.log.1).toInt64)]) (rest := []) C hw hl (m_X3_mix hO _) ivX3_198 rfl rfl ⟨(Nat.le_of_ble_eq_true rfl), (Nat.le_of_ble_eq_true rfl)⟩ (Nat.le_of_ble_eq_true rfl) ⟨Nat.zero_le _, Nat.zero_le _⟩ dX3_mixMachine_75 (fun H locs hw => ?_)
      refine z_topl (y := mx (mx (mx (mx (mx h M.st) M.sil) M.lie) M.wit) M.log.1) (mx_i _ (by omega)) ?_
      refine lv_lstore (lv' := [(4, .long (mx (mx (mx (mx (mx h M.st) M.sil) M.lie) M.wit) M.log.1)), (6, .int (nI M.log.1)), (0, .long h), (2, .ref (G.h + b)), (3, .int (nI n))]) C.x C.b dX3_mixMachine_78 hl (by decide) rfl (fun ls hl => ?_)
      refine lv_iconst (v := 0) C.x C.b dX3_mixMachine_80 (by decide) ?_
      refine lv_istore (lv' := [(7, .int 0), (4, .long (mx (mx (mx (mx (mx h M.st) M.sil) M.lie) M.wit) M.log.1)), (6, .int (nI M.log.1)), (0, .long h), (2, .ref (G.h + b)), (3, .int (nI n))]) C.x C.b dX3_mixMachine_81 hl (by decide) rfl (fun ls hl => ?_)
      have loop : ∀ (d : Nat) (j : Nat) (hh : Int64) (H : Heap) (locs : List Loc) (ls : Array Slot) (hj : j + d = M.log.1) (hr : dgL (fun j => pk (M.log.2 j 0) (M.log.2 j 1) (M.log.2 j 2)) M.log.1 0 (mx (mx (mx (mx (mx h M.st) M.sil) M.lie) M.wit) M.log.1) = dgL (fun j => pk (M.log.2 j 0) (M.log.2 j 1) (M.log.2 j 2)) d j hh), zS G N Λ z sS H locs → lv_has ls 8 [(2, .ref (G.h + b)), (3, .int (nI n)), (4, .long hh), (6, .int (nI M.log.1)), (7, .int (nI j))] → W pP l eE (zR 2) sS mM ([.long h, .ref (G.h + b), .int (nI n)] : List Value).toArray bB tT cC H locs 0 0 (MQ bB (zQc G N Λ (some (.long (dgM M n h))) z) ([.long h, .ref (G.h + b), .int (nI n)] : List Value).toArray sS 0 0 (zA G)) (F0 mM 83 ls []) := by
        intro d
        induction d with
        | zero =>
          intro j hh H locs ls hj hr hw hl
          refine lv_iload C.x C.b dX3_mixMachine_83 (lv_at hl 4 rfl) ?_
          refine lv_iload C.x C.b dX3_mixMachine_85 (lv_at hl 3 rfl) ?_
          refine lv_icmp_ge (tgt := 110) C.x C.b dX3_mixMachine_87 (by decide) (fun c_87 => ?_) (fun c_87 => absurd (zle (by omega) (by omega)) c_87)
          have e9 : hh = dgL (fun j => pk (M.log.2 j 0) (M.log.2 j 1) (M.log.2 j 2)) M.log.1 0 (mx (mx (mx (mx (mx h M.st) M.sil) M.lie) M.wit) M.log.1) := hr.symm
          refine lv_lload C.x C.b dX3_mixMachine_110 (lv_at hl 2 rfl) ?_
          refine lv_aload_n C.x C.b dX3_mixMachine_112 rfl (lv_at hl 0 rfl) ?_
          refine lv_iload C.x C.b dX3_mixMachine_113 (lv_at hl 3 rfl) ?_
          refine z_Vv (As := [.int (nI M.log.1)]) (rest := [.long hh]) C hw hl (m_X0_chainAt hO _ hM hm.2.2.1.1 hlg (i := M.log.1) (Nat.le_refl _)) ivX3_138 hM.lt (hM.at _ _) rfl rfl ⟨(Nat.le_of_ble_eq_true rfl), (Nat.le_of_ble_eq_true rfl)⟩ (Nat.le_of_ble_eq_true rfl) ⟨Nat.zero_le _, Nat.zero_le _⟩ dX3_mixMachine_115 (fun H locs hw => ?_)
          refine z_topi (y := nI (CH M.log.2 M.log.1)) (chv_log hm.2.2.1 (Nat.le_refl _)) ?_
          refine lv_i2l C.x C.b dX3_mixMachine_118 rfl ?_
          refine z_Sv (As := [.long hh, .long ((nI (CH M.log.2 M.log.1)).toInt64)]) (rest := []) C hw hl (m_X3_mix hO _) ivX3_198 rfl rfl ⟨(Nat.le_of_ble_eq_true rfl), (Nat.le_of_ble_eq_true rfl)⟩ (Nat.le_of_ble_eq_true rfl) ⟨Nat.zero_le _, Nat.zero_le _⟩ dX3_mixMachine_119 (fun H locs hw => ?_)
          refine z_topl (y := mx hh (CH M.log.2 M.log.1)) (mx_i _ (by omega)) ?_
          refine lv_lstore (lv' := [(4, .long (mx hh (CH M.log.2 M.log.1))), (2, .ref (G.h + b)), (3, .int (nI n)), (6, .int (nI M.log.1)), (7, .int (nI j))]) C.x C.b dX3_mixMachine_122 hl (by decide) rfl (fun ls hl => ?_)
          refine lv_lload C.x C.b dX3_mixMachine_124 (lv_at hl 0 rfl) ?_
          refine lv_aload_n C.x C.b dX3_mixMachine_126 rfl (lv_at hl 1 rfl) ?_
          refine z_get C hw hM.lt (hM.at _ _) flX3_141 rfl dX3_mixMachine_127 ?_
          refine z_get C hw hM.held.lt (hM.held.at _ _) flX3_52 rfl dX3_mixMachine_130 ?_
          refine z_topi (y := nI M.held.1) (hm.2.2.2.1.1) ?_
          refine lv_i2l C.x C.b dX3_mixMachine_133 rfl ?_
          refine z_Sv (As := [.long (mx hh (CH M.log.2 M.log.1)), .long ((nI M.held.1).toInt64)]) (rest := []) C hw hl (m_X3_mix hO _) ivX3_198 rfl rfl ⟨(Nat.le_of_ble_eq_true rfl), (Nat.le_of_ble_eq_true rfl)⟩ (Nat.le_of_ble_eq_true rfl) ⟨Nat.zero_le _, Nat.zero_le _⟩ dX3_mixMachine_134 (fun H locs hw => ?_)
          refine z_topl (y := mx (mx hh (CH M.log.2 M.log.1)) M.held.1) (mx_i _ (by omega)) ?_
          refine lv_lstore (lv' := [(4, .long (mx (mx hh (CH M.log.2 M.log.1)) M.held.1)), (2, .ref (G.h + b)), (3, .int (nI n)), (6, .int (nI M.log.1)), (7, .int (nI j))]) C.x C.b dX3_mixMachine_137 hl (by decide) rfl (fun ls hl => ?_)
          refine lv_lload C.x C.b dX3_mixMachine_139 (lv_at hl 0 rfl) ?_
          refine lv_aload_n C.x C.b dX3_mixMachine_141 rfl (lv_at hl 1 rfl) ?_
          refine z_pc (pc2 := 142) rfl ?_
          refine z_get C hw hM.lt (hM.at _ _) flX3_94 rfl dX3_mixMachine_142 ?_
          refine z_get C hw hM.pend.lt (hM.pend.at _ _) flX3_52 rfl dX3_mixMachine_145 ?_
          refine z_topi (y := nI M.pend.1) (hm.2.2.2.2.1) ?_
          refine lv_i2l C.x C.b dX3_mixMachine_148 rfl ?_
          refine z_Sv (As := [.long (mx (mx hh (CH M.log.2 M.log.1)) M.held.1), .long ((nI M.pend.1).toInt64)]) (rest := []) C hw hl (m_X3_mix hO _) ivX3_198 rfl rfl ⟨(Nat.le_of_ble_eq_true rfl), (Nat.le_of_ble_eq_true rfl)⟩ (Nat.le_of_ble_eq_true rfl) ⟨Nat.zero_le _, Nat.zero_le _⟩ dX3_mixMachine_149 (fun H locs hw => ?_)
          refine z_topl (y := mx (mx (mx hh (CH M.log.2 M.log.1)) M.held.1) M.pend.1) (mx_i _ (by omega)) ?_
          refine lv_lstore (lv' := [(4, .long (mx (mx (mx hh (CH M.log.2 M.log.1)) M.held.1) M.pend.1)), (2, .ref (G.h + b)), (3, .int (nI n)), (6, .int (nI M.log.1)), (7, .int (nI j))]) C.x C.b dX3_mixMachine_152 hl (by decide) rfl (fun ls hl => ?_)
          refine lv_iconst (v := 0) C.x C.b dX3_mixMachine_154 (by decide) ?_
          refine lv_istore (lv' := [(7, .int 0), (4, .long (mx (mx (mx hh (CH M.log.2 M.log.1)) M.held.1) M.pend.1)), (2, .ref (G.h + b)), (3, .int (nI n)), (6, .int (nI M.log.1))]) C.x C.b dX3_mixMachine_155 hl (by decide) rfl (fun ls hl => ?_)
          have loop2 : ∀ (d : Nat) (j : Nat) (h2 : Int64) (H : Heap) (locs : List Loc) (ls : Array Slot) (hj2 : j + d = n) (hr2 : dgL M.ver n 0 (mx (mx (mx hh (CH M.log.2 M.log.1)) M.held.1) M.pend.1) = dgL M.ver d j h2), zS G N Λ z sS H locs → lv_has ls 8 [(2, .ref (G.h + b)), (3, .int (nI n)), (4, .long h2), (7, .int (nI j))] → W pP l eE (zR 2) sS mM ([.long h, .ref (G.h + b), .int (nI n)] : List Value).toArray bB tT cC H locs 0 0 (MQ bB (zQc G N Λ (some (.long (dgM M n h))) z) ([.long h, .ref (G.h + b), .int (nI n)] : List Value).toArray sS 0 0 (zA G)) (F0 mM 157 ls []) := by
            intro d
            induction d with
            | zero =>
              intro j h2 H locs ls hj2 hr2 hw hl
              refine lv_iload C.x C.b dX3_mixMachine_157 (lv_at hl 3 rfl) ?_
              refine lv_iload_n C.x C.b dX3_mixMachine_159 rfl (lv_at hl 1 rfl) ?_
              refine lv_icmp_ge (tgt := 184) C.x C.b dX3_mixMachine_160 (by decide) (fun c_160 => ?_) (fun c_160 => absurd (zle (by omega) (by omega)) c_160)
              refine lv_lload C.x C.b dX3_mixMachine_184 (lv_at hl 2 rfl) ?_
              exact z_lret C hw dX3_mixMachine_186 (by rw [dgM, ← e9, hr2]; rfl) (rfl)
            | succ d ih =>
              intro j h2 H locs ls hj2 hr2 hw hl
              refine lv_iload C.x C.b dX3_mixMachine_157 (lv_at hl 3 rfl) ?_
              refine lv_iload_n C.x C.b dX3_mixMachine_159 rfl (lv_at hl 1 rfl) ?_
              refine lv_icmp_ge (tgt := 184) C.x C.b dX3_mixMachine_160 (by decide) (fun c_160 => absurd c_160 (znle (by omega) (by omega))) (fun c_160 => ?_)
              have hj6 : j < 6 := by omega
              have hvj := ho.ver j
              refine lv_lload C.x C.b dX3_mixMachine_163 (lv_at hl 2 rfl) ?_
              refine lv_aload_n C.x C.b dX3_mixMachine_165 rfl (lv_at hl 0 rfl) ?_
              refine z_get C hw hM.lt (hM.at _ _) flX3_161 rfl dX3_mixMachine_166 ?_
              refine lv_iload C.x C.b dX3_mixMachine_169 (lv_at hl 3 rfl) ?_
              refine z_iald C hw hM.lt1 hM.ver (zvin hj6 (by omega)) dX3_mixMachine_171 ?_
              refine z_topi (y := nI (M.ver j)) (by rw [zcl hj6 (by omega)]; exact hm.2.1 j hj6) ?_
              refine lv_i2l C.x C.b dX3_mixMachine_172 rfl ?_
              refine z_Sv (As := [.long h2, .long ((nI (M.ver j)).toInt64)]) (rest := []) C hw hl (m_X3_mix hO _) ivX3_198 rfl rfl ⟨(Nat.le_of_ble_eq_true rfl), (Nat.le_of_ble_eq_true rfl)⟩ (Nat.le_of_ble_eq_true rfl) ⟨Nat.zero_le _, Nat.zero_le _⟩ dX3_mixMachine_173 (fun H locs hw => ?_)
              refine z_topl (y := mx h2 (M.ver j)) (mx_i _ (by omega)) ?_
              refine lv_lstore (lv' := [(4, .long (mx h2 (M.ver j))), (2, .ref (G.h + b)), (3, .int (nI n)), (7, .int (nI j))]) C.x C.b dX3_mixMachine_176 hl (by decide) rfl (fun ls hl => ?_)
              refine lv_iinc (v := nI j + 1) (lv' := [(7, .int (nI j + 1)), (4, .long (mx h2 (M.ver j))), (2, .ref (G.h + b)), (3, .int (nI n))]) C.x C.b dX3_mixMachine_178 hl (k := 3) rfl rfl (by decide) rfl (fun ls hl => ?_)
              have hl : lv_has ls 8 [(7, .int (nI (j + 1))), (4, .long (mx h2 (M.ver j))), (2, .ref (G.h + b)), (3, .int (nI n))] := by
                have e9 : nI j + 1 = nI (j + 1) := nI_1 j
                rw [← e9]; exact hl
              refine lv_goto (tgt := 157) C.x C.b dX3_mixMachine_181 (by decide) ?_
              exact ih (j + 1) (mx h2 (M.ver j)) _ _ _ (by omega) hr2 hw (lv_sub hl [2, 3, 1, 0] rfl)
          exact loop2 n 0 (mx (mx (mx hh (CH M.log.2 M.log.1)) M.held.1) M.pend.1) _ _ _ (by omega) rfl hw (lv_sub hl [2, 3, 1, 0] rfl)
        | succ d ih =>
          intro j hh H locs ls hj hr hw hl
          refine lv_iload C.x C.b dX3_mixMachine_83 (lv_at hl 4 rfl) ?_
          refine lv_iload C.x C.b dX3_mixMachine_85 (lv_at hl 3 rfl) ?_
          refine lv_icmp_ge (tgt := 110) C.x C.b dX3_mixMachine_87 (by decide) (fun c_87 => absurd c_87 (znle (by omega) (by omega))) (fun c_87 => ?_)
          refine lv_lload C.x C.b dX3_mixMachine_90 (lv_at hl 2 rfl) ?_
          refine lv_aload_n C.x C.b dX3_mixMachine_92 rfl (lv_at hl 0 rfl) ?_
          refine lv_iload C.x C.b dX3_mixMachine_93 (lv_at hl 4 rfl) ?_
          refine z_Vv (As := [.int (nI j)]) (rest := [.long hh]) C hw hl (m_X0_packedEntry hO _ hM hm.2.2.1.1 hlg hm.2.2.1.2.1 hlr (j := j) (by omega)) ivX3_129 hM.lt (hM.at _ _) rfl rfl ⟨(Nat.le_of_ble_eq_true rfl), (Nat.le_of_ble_eq_true rfl)⟩ (Nat.le_of_ble_eq_true rfl) ⟨Nat.zero_le _, Nat.zero_le _⟩ dX3_mixMachine_95 (fun H locs hw => ?_)
          have hrj := hlr j (by omega)
          refine lv_i2l C.x C.b dX3_mixMachine_98 rfl ?_
          refine z_Sv (As := [.long hh, .long ((nI (pk (M.log.2 j 0) (M.log.2 j 1) (M.log.2 j 2))).toInt64)]) (rest := []) C hw hl (m_X3_mix hO _) ivX3_198 rfl rfl ⟨(Nat.le_of_ble_eq_true rfl), (Nat.le_of_ble_eq_true rfl)⟩ (Nat.le_of_ble_eq_true rfl) ⟨Nat.zero_le _, Nat.zero_le _⟩ dX3_mixMachine_99 (fun H locs hw => ?_)
          refine z_topl (y := mx hh (pk (M.log.2 j 0) (M.log.2 j 1) (M.log.2 j 2))) (mx_i _ (Nat.lt_trans (pkv_lt hrj.1 hrj.2.1 hrj.2.2) (by omega))) ?_
          refine lv_lstore (lv' := [(4, .long (mx hh (pk (M.log.2 j 0) (M.log.2 j 1) (M.log.2 j 2)))), (2, .ref (G.h + b)), (3, .int (nI n)), (6, .int (nI M.log.1)), (7, .int (nI j))]) C.x C.b dX3_mixMachine_102 hl (by decide) rfl (fun ls hl => ?_)
          refine lv_iinc (v := nI j + 1) (lv' := [(7, .int (nI j + 1)), (4, .long (mx hh (pk (M.log.2 j 0) (M.log.2 j 1) (M.log.2 j 2)))), (2, .ref (G.h + b)), (3, .int (nI n)), (6, .int (nI M.log.1))]) C.x C.b dX3_mixMachine_104 hl (k := 4) rfl rfl (by decide) rfl (fun ls hl => ?_)
          have hl : lv_has ls 8 [(7, .int (nI (j + 1))), (4, .long (mx hh (pk (M.log.2 j 0) (M.log.2 j 1) (M.log.2 j 2)))), (2, .ref (G.h + b)), (3, .int (nI n)), (6, .int (nI M.log.1))] := by
            have e9 : nI j + 1 = nI (j + 1) := nI_1 j
            rw [← e9]; exact hl
          refine lv_goto (tgt := 83) C.x C.b dX3_mixMachine_107 (by decide) ?_
          exact ih (j + 1) (mx hh (pk (M.log.2 j 0) (M.log.2 j 1) (M.log.2 j 2))) _ _ _ (by omega) hr hw (lv_sub hl [2, 3, 1, 4, 0] rfl)
      exact loop M.log.1 0 (mx (mx (mx (mx (mx h M.st) M.sil) M.lie) M.wit) M.log.1) _ _ _ (by omega) rfl hw (lv_sub hl [4, 5, 1, 2, 0] rfl)
  · refine lv_lconst (v := 1) C.x C.b dX3_mixMachine_20 (by decide) ?_
    refine lv_goto (tgt := 25) C.x C.b dX3_mixMachine_21 (by decide) ?_
    refine z_topl (y := (nI M.sil).toInt64) (by rw [zbl1 hsi c_17]; rfl) ?_
    refine z_Sv (As := [.long (mx h M.st), .long ((nI M.sil).toInt64)]) (rest := []) C hw hl (m_X3_mix hO _) ivX3_198 rfl rfl ⟨(Nat.le_of_ble_eq_true rfl), (Nat.le_of_ble_eq_true rfl)⟩ (Nat.le_of_ble_eq_true rfl) ⟨Nat.zero_le _, Nat.zero_le _⟩ dX3_mixMachine_25 (fun H locs hw => ?_)
    refine z_topl (y := mx (mx h M.st) M.sil) (mx_i _ (by omega)) ?_
    refine lv_lstore (lv' := [(4, .long (mx (mx h M.st) M.sil)), (0, .long h), (2, .ref (G.h + b)), (3, .int (nI n))]) C.x C.b dX3_mixMachine_28 hl (by decide) rfl (fun ls hl => ?_)
    refine lv_lload C.x C.b dX3_mixMachine_30 (lv_at hl 0 rfl) ?_
    refine lv_aload_n C.x C.b dX3_mixMachine_32 rfl (lv_at hl 2 rfl) ?_
    refine z_get C hw hM.lt (hM.at _ _) flX3_106 rfl dX3_mixMachine_33 ?_
    refine z_topi (y := nI M.lie) (hm.1.2.2.1) ?_
    refine lv_if_eq (tgt := 43) C.x C.b dX3_mixMachine_36 (by decide) (fun c_36 => ?_) (fun c_36 => ?_)
    · refine lv_lconst (v := 0) C.x C.b dX3_mixMachine_43 (by decide) ?_
      refine z_topl (y := (nI M.lie).toInt64) (by rw [zzero (by omega) c_36]; rfl) ?_
      refine z_pc (pc2 := 44) rfl ?_
      refine z_Sv (As := [.long (mx (mx h M.st) M.sil), .long ((nI M.lie).toInt64)]) (rest := []) C hw hl (m_X3_mix hO _) ivX3_198 rfl rfl ⟨(Nat.le_of_ble_eq_true rfl), (Nat.le_of_ble_eq_true rfl)⟩ (Nat.le_of_ble_eq_true rfl) ⟨Nat.zero_le _, Nat.zero_le _⟩ dX3_mixMachine_44 (fun H locs hw => ?_)
      refine z_topl (y := mx (mx (mx h M.st) M.sil) M.lie) (mx_i _ (by omega)) ?_
      refine lv_lstore (lv' := [(4, .long (mx (mx (mx h M.st) M.sil) M.lie)), (0, .long h), (2, .ref (G.h + b)), (3, .int (nI n))]) C.x C.b dX3_mixMachine_47 hl (by decide) rfl (fun ls hl => ?_)
      refine lv_lload C.x C.b dX3_mixMachine_49 (lv_at hl 0 rfl) ?_
      refine lv_aload_n C.x C.b dX3_mixMachine_51 rfl (lv_at hl 2 rfl) ?_
      refine z_get C hw hM.lt (hM.at _ _) flX3_153 rfl dX3_mixMachine_52 ?_
      refine z_topi (y := nI M.wit) (hm.1.2.2.2) ?_
      refine lv_i2l C.x C.b dX3_mixMachine_55 rfl ?_
      refine z_Sv (As := [.long (mx (mx (mx h M.st) M.sil) M.lie), .long ((nI M.wit).toInt64)]) (rest := []) C hw hl (m_X3_mix hO _) ivX3_198 rfl rfl ⟨(Nat.le_of_ble_eq_true rfl), (Nat.le_of_ble_eq_true rfl)⟩ (Nat.le_of_ble_eq_true rfl) ⟨Nat.zero_le _, Nat.zero_le _⟩ dX3_mixMachine_56 (fun H locs hw => ?_)
      refine z_topl (y := mx (mx (mx (mx h M.st) M.sil) M.lie) M.wit) (mx_i _ (by omega)) ?_
      refine lv_lstore (lv' := [(4, .long (mx (mx (mx (mx h M.st) M.sil) M.lie) M.wit)), (0, .long h), (2, .ref (G.h + b)), (3, .int (nI n))]) C.x C.b dX3_mixMachine_59 hl (by decide) rfl (fun ls hl => ?_)
      refine lv_aload_n C.x C.b dX3_mixMachine_61 rfl (lv_at hl 2 rfl) ?_
      refine z_get C hw hM.lt (hM.at _ _) flX3_113 rfl dX3_mixMachine_62 ?_
      refine z_get C hw hM.log.lt (hM.log.at _ _) flX3_52 rfl dX3_mixMachine_65 ?_
      refine z_topi (y := nI M.log.1) (hm.2.2.1.1) ?_
      refine lv_istore (lv' := [(6, .int (nI M.log.1)), (4, .long (mx (mx (mx (mx h M.st) M.sil) M.lie) M.wit)), (0, .long h), (2, .ref (G.h + b)), (3, .int (nI n))]) C.x C.b dX3_mixMachine_68 hl (by decide) rfl (fun ls hl => ?_)
      refine lv_lload C.x C.b dX3_mixMachine_70 (lv_at hl 1 rfl) ?_
      refine lv_iload C.x C.b dX3_mixMachine_72 (lv_at hl 0 rfl) ?_
      refine lv_i2l C.x C.b dX3_mixMachine_74 rfl ?_
      refine z_Sv (As := [.long (mx (mx (mx (mx h M.st) M.sil) M.lie) M.wit), .long ((nI M.log.1).toInt64)]) (rest := []) C hw hl (m_X3_mix hO _) ivX3_198 rfl rfl ⟨(Nat.le_of_ble_eq_true rfl), (Nat.le_of_ble_eq_true rfl)⟩ (Nat.le_of_ble_eq_true rfl) ⟨Nat.zero_le _, Nat.zero_le _⟩ dX3_mixMachine_75 (fun H locs hw => ?_)
      refine z_topl (y := mx (mx (mx (mx (mx h M.st) M.sil) M.lie) M.wit) M.log.1) (mx_i _ (by omega)) ?_
      refine lv_lstore (lv' := [(4, .long (mx (mx (mx (mx (mx h M.st) M.sil) M.lie) M.wit) M.log.1)), (6, .int (nI M.log.1)), (0, .long h), (2, .ref (G.h + b)), (3, .int (nI n))]) C.x C.b dX3_mixMachine_78 hl (by decide) rfl (fun ls hl => ?_)
      refine lv_iconst (v := 0) C.x C.b dX3_mixMachine_80 (by decide) ?_
      refine lv_istore (lv' := [(7, .int 0), (4, .long (mx (mx (mx (mx (mx h M.st) M.sil) M.lie) M.wit) M.log.1)), (6, .int (nI M.log.1)), (0, .long h), (2, .ref (G.h + b)), (3, .int (nI n))]) C.x C.b dX3_mixMachine_81 hl (by decide) rfl (fun ls hl => ?_)
      have loop : ∀ (d : Nat) (j : Nat) (hh : Int64) (H : Heap) (locs : List Loc) (ls : Array Slot) (hj : j + d = M.log.1) (hr : dgL (fun j => pk (M.log.2 j 0) (M.log.2 j 1) (M.log.2 j 2)) M.log.1 0 (mx (mx (mx (mx (mx h M.st) M.sil) M.lie) M.wit) M.log.1) = dgL (fun j => pk (M.log.2 j 0) (M.log.2 j 1) (M.log.2 j 2)) d j hh), zS G N Λ z sS H locs → lv_has ls 8 [(2, .ref (G.h + b)), (3, .int (nI n)), (4, .long hh), (6, .int (nI M.log.1)), (7, .int (nI j))] → W pP l eE (zR 2) sS mM ([.long h, .ref (G.h + b), .int (nI n)] : List Value).toArray bB tT cC H locs 0 0 (MQ bB (zQc G N Λ (some (.long (dgM M n h))) z) ([.long h, .ref (G.h + b), .int (nI n)] : List Value).toArray sS 0 0 (zA G)) (F0 mM 83 ls []) := by
        intro d
        induction d with
        | zero =>
          intro j hh H locs ls hj hr hw hl
          refine lv_iload C.x C.b dX3_mixMachine_83 (lv_at hl 4 rfl) ?_
          refine lv_iload C.x C.b dX3_mixMachine_85 (lv_at hl 3 rfl) ?_
          refine lv_icmp_ge (tgt := 110) C.x C.b dX3_mixMachine_87 (by decide) (fun c_87 => ?_) (fun c_87 => absurd (zle (by omega) (by omega)) c_87)
          have e9 : hh = dgL (fun j => pk (M.log.2 j 0) (M.log.2 j 1) (M.log.2 j 2)) M.log.1 0 (mx (mx (mx (mx (mx h M.st) M.sil) M.lie) M.wit) M.log.1) := hr.symm
          refine lv_lload C.x C.b dX3_mixMachine_110 (lv_at hl 2 rfl) ?_
          refine lv_aload_n C.x C.b dX3_mixMachine_112 rfl (lv_at hl 0 rfl) ?_
          refine lv_iload C.x C.b dX3_mixMachine_113 (lv_at hl 3 rfl) ?_
          refine z_Vv (As := [.int (nI M.log.1)]) (rest := [.long hh]) C hw hl (m_X0_chainAt hO _ hM hm.2.2.1.1 hlg (i := M.log.1) (Nat.le_refl _)) ivX3_138 hM.lt (hM.at _ _) rfl rfl ⟨(Nat.le_of_ble_eq_true rfl), (Nat.le_of_ble_eq_true rfl)⟩ (Nat.le_of_ble_eq_true rfl) ⟨Nat.zero_le _, Nat.zero_le _⟩ dX3_mixMachine_115 (fun H locs hw => ?_)
          refine z_topi (y := nI (CH M.log.2 M.log.1)) (chv_log hm.2.2.1 (Nat.le_refl _)) ?_
          refine lv_i2l C.x C.b dX3_mixMachine_118 rfl ?_
          refine z_Sv (As := [.long hh, .long ((nI (CH M.log.2 M.log.1)).toInt64)]) (rest := []) C hw hl (m_X3_mix hO _) ivX3_198 rfl rfl ⟨(Nat.le_of_ble_eq_true rfl), (Nat.le_of_ble_eq_true rfl)⟩ (Nat.le_of_ble_eq_true rfl) ⟨Nat.zero_le _, Nat.zero_le _⟩ dX3_mixMachine_119 (fun H locs hw => ?_)
          refine z_topl (y := mx hh (CH M.log.2 M.log.1)) (mx_i _ (by omega)) ?_
          refine lv_lstore (lv' := [(4, .long (mx hh (CH M.log.2 M.log.1))), (2, .ref (G.h + b)), (3, .int (nI n)), (6, .int (nI M.log.1)), (7, .int (nI j))]) C.x C.b dX3_mixMachine_122 hl (by decide) rfl (fun ls hl => ?_)
          refine lv_lload C.x C.b dX3_mixMachine_124 (lv_at hl 0 rfl) ?_
          refine lv_aload_n C.x C.b dX3_mixMachine_126 rfl (lv_at hl 1 rfl) ?_
          refine z_get C hw hM.lt (hM.at _ _) flX3_141 rfl dX3_mixMachine_127 ?_
          refine z_get C hw hM.held.lt (hM.held.at _ _) flX3_52 rfl dX3_mixMachine_130 ?_
          refine z_topi (y := nI M.held.1) (hm.2.2.2.1.1) ?_
          refine lv_i2l C.x C.b dX3_mixMachine_133 rfl ?_
          refine z_Sv (As := [.long (mx hh (CH M.log.2 M.log.1)), .long ((nI M.held.1).toInt64)]) (rest := []) C hw hl (m_X3_mix hO _) ivX3_198 rfl rfl ⟨(Nat.le_of_ble_eq_true rfl), (Nat.le_of_ble_eq_true rfl)⟩ (Nat.le_of_ble_eq_true rfl) ⟨Nat.zero_le _, Nat.zero_le _⟩ dX3_mixMachine_134 (fun H locs hw => ?_)
          refine z_topl (y := mx (mx hh (CH M.log.2 M.log.1)) M.held.1) (mx_i _ (by omega)) ?_
          refine lv_lstore (lv' := [(4, .long (mx (mx hh (CH M.log.2 M.log.1)) M.held.1)), (2, .ref (G.h + b)), (3, .int (nI n)), (6, .int (nI M.log.1)), (7, .int (nI j))]) C.x C.b dX3_mixMachine_137 hl (by decide) rfl (fun ls hl => ?_)
          refine lv_lload C.x C.b dX3_mixMachine_139 (lv_at hl 0 rfl) ?_
          refine lv_aload_n C.x C.b dX3_mixMachine_141 rfl (lv_at hl 1 rfl) ?_
          refine z_pc (pc2 := 142) rfl ?_
          refine z_get C hw hM.lt (hM.at _ _) flX3_94 rfl dX3_mixMachine_142 ?_
          refine z_get C hw hM.pend.lt (hM.pend.at _ _) flX3_52 rfl dX3_mixMachine_145 ?_
          refine z_topi (y := nI M.pend.1) (hm.2.2.2.2.1) ?_
          refine lv_i2l C.x C.b dX3_mixMachine_148 rfl ?_
          refine z_Sv (As := [.long (mx (mx hh (CH M.log.2 M.log.1)) M.held.1), .long ((nI M.pend.1).toInt64)]) (rest := []) C hw hl (m_X3_mix hO _) ivX3_198 rfl rfl ⟨(Nat.le_of_ble_eq_true rfl), (Nat.le_of_ble_eq_true rfl)⟩ (Nat.le_of_ble_eq_true rfl) ⟨Nat.zero_le _, Nat.zero_le _⟩ dX3_mixMachine_149 (fun H locs hw => ?_)
          refine z_topl (y := mx (mx (mx hh (CH M.log.2 M.log.1)) M.held.1) M.pend.1) (mx_i _ (by omega)) ?_
          refine lv_lstore (lv' := [(4, .long (mx (mx (mx hh (CH M.log.2 M.log.1)) M.held.1) M.pend.1)), (2, .ref (G.h + b)), (3, .int (nI n)), (6, .int (nI M.log.1)), (7, .int (nI j))]) C.x C.b dX3_mixMachine_152 hl (by decide) rfl (fun ls hl => ?_)
          refine lv_iconst (v := 0) C.x C.b dX3_mixMachine_154 (by decide) ?_
          refine lv_istore (lv' := [(7, .int 0), (4, .long (mx (mx (mx hh (CH M.log.2 M.log.1)) M.held.1) M.pend.1)), (2, .ref (G.h + b)), (3, .int (nI n)), (6, .int (nI M.log.1))]) C.x C.b dX3_mixMachine_155 hl (by decide) rfl (fun ls hl => ?_)
          have loop2 : ∀ (d : Nat) (j : Nat) (h2 : Int64) (H : Heap) (locs : List Loc) (ls : Array Slot) (hj2 : j + d = n) (hr2 : dgL M.ver n 0 (mx (mx (mx hh (CH M.log.2 M.log.1)) M.held.1) M.pend.1) = dgL M.ver d j h2), zS G N Λ z sS H locs → lv_has ls 8 [(2, .ref (G.h + b)), (3, .int (nI n)), (4, .long h2), (7, .int (nI j))] → W pP l eE (zR 2) sS mM ([.long h, .ref (G.h + b), .int (nI n)] : List Value).toArray bB tT cC H locs 0 0 (MQ bB (zQc G N Λ (some (.long (dgM M n h))) z) ([.long h, .ref (G.h + b), .int (nI n)] : List Value).toArray sS 0 0 (zA G)) (F0 mM 157 ls []) := by
            intro d
            induction d with
            | zero =>
              intro j h2 H locs ls hj2 hr2 hw hl
              refine lv_iload C.x C.b dX3_mixMachine_157 (lv_at hl 3 rfl) ?_
              refine lv_iload_n C.x C.b dX3_mixMachine_159 rfl (lv_at hl 1 rfl) ?_
              refine lv_icmp_ge (tgt := 184) C.x C.b dX3_mixMachine_160 (by decide) (fun c_160 => ?_) (fun c_160 => absurd (zle (by omega) (by omega)) c_160)
              refine lv_lload C.x C.b dX3_mixMachine_184 (lv_at hl 2 rfl) ?_
              exact z_lret C hw dX3_mixMachine_186 (by rw [dgM, ← e9, hr2]; rfl) (rfl)
            | succ d ih =>
              intro j h2 H locs ls hj2 hr2 hw hl
              refine lv_iload C.x C.b dX3_mixMachine_157 (lv_at hl 3 rfl) ?_
              refine lv_iload_n C.x C.b dX3_mixMachine_159 rfl (lv_at hl 1 rfl) ?_
              refine lv_icmp_ge (tgt := 184) C.x C.b dX3_mixMachine_160 (by decide) (fun c_160 => absurd c_160 (znle (by omega) (by omega))) (fun c_160 => ?_)
              have hj6 : j < 6 := by omega
              have hvj := ho.ver j
              refine lv_lload C.x C.b dX3_mixMachine_163 (lv_at hl 2 rfl) ?_
              refine lv_aload_n C.x C.b dX3_mixMachine_165 rfl (lv_at hl 0 rfl) ?_
              refine z_get C hw hM.lt (hM.at _ _) flX3_161 rfl dX3_mixMachine_166 ?_
              refine lv_iload C.x C.b dX3_mixMachine_169 (lv_at hl 3 rfl) ?_
              refine z_iald C hw hM.lt1 hM.ver (zvin hj6 (by omega)) dX3_mixMachine_171 ?_
              refine z_topi (y := nI (M.ver j)) (by rw [zcl hj6 (by omega)]; exact hm.2.1 j hj6) ?_
              refine lv_i2l C.x C.b dX3_mixMachine_172 rfl ?_
              refine z_Sv (As := [.long h2, .long ((nI (M.ver j)).toInt64)]) (rest := []) C hw hl (m_X3_mix hO _) ivX3_198 rfl rfl ⟨(Nat.le_of_ble_eq_true rfl), (Nat.le_of_ble_eq_true rfl)⟩ (Nat.le_of_ble_eq_true rfl) ⟨Nat.zero_le _, Nat.zero_le _⟩ dX3_mixMachine_173 (fun H locs hw => ?_)
              refine z_topl (y := mx h2 (M.ver j)) (mx_i _ (by omega)) ?_
              refine lv_lstore (lv' := [(4, .long (mx h2 (M.ver j))), (2, .ref (G.h + b)), (3, .int (nI n)), (7, .int (nI j))]) C.x C.b dX3_mixMachine_176 hl (by decide) rfl (fun ls hl => ?_)
              refine lv_iinc (v := nI j + 1) (lv' := [(7, .int (nI j + 1)), (4, .long (mx h2 (M.ver j))), (2, .ref (G.h + b)), (3, .int (nI n))]) C.x C.b dX3_mixMachine_178 hl (k := 3) rfl rfl (by decide) rfl (fun ls hl => ?_)
              have hl : lv_has ls 8 [(7, .int (nI (j + 1))), (4, .long (mx h2 (M.ver j))), (2, .ref (G.h + b)), (3, .int (nI n))] := by
                have e9 : nI j + 1 = nI (j + 1) := nI_1 j
                rw [← e9]; exact hl
              refine lv_goto (tgt := 157) C.x C.b dX3_mixMachine_181 (by decide) ?_
              exact ih (j + 1) (mx h2 (M.ver j)) _ _ _ (by omega) hr2 hw (lv_sub hl [2, 3, 1, 0] rfl)
          exact loop2 n 0 (mx (mx (mx hh (CH M.log.2 M.log.1)) M.held.1) M.pend.1) _ _ _ (by omega) rfl hw (lv_sub hl [2, 3, 1, 0] rfl)
        | succ d ih =>
          intro j hh H locs ls hj hr hw hl
          refine lv_iload C.x C.b dX3_mixMachine_83 (lv_at hl 4 rfl) ?_
          refine lv_iload C.x C.b dX3_mixMachine_85 (lv_at hl 3 rfl) ?_
          refine lv_icmp_ge (tgt := 110) C.x C.b dX3_mixMachine_87 (by decide) (fun c_87 => absurd c_87 (znle (by omega) (by omega))) (fun c_87 => ?_)
          refine lv_lload C.x C.b dX3_mixMachine_90 (lv_at hl 2 rfl) ?_
          refine lv_aload_n C.x C.b dX3_mixMachine_92 rfl (lv_at hl 0 rfl) ?_
          refine lv_iload C.x C.b dX3_mixMachine_93 (lv_at hl 4 rfl) ?_
          refine z_Vv (As := [.int (nI j)]) (rest := [.long hh]) C hw hl (m_X0_packedEntry hO _ hM hm.2.2.1.1 hlg hm.2.2.1.2.1 hlr (j := j) (by omega)) ivX3_129 hM.lt (hM.at _ _) rfl rfl ⟨(Nat.le_of_ble_eq_true rfl), (Nat.le_of_ble_eq_true rfl)⟩ (Nat.le_of_ble_eq_true rfl) ⟨Nat.zero_le _, Nat.zero_le _⟩ dX3_mixMachine_95 (fun H locs hw => ?_)
          have hrj := hlr j (by omega)
          refine lv_i2l C.x C.b dX3_mixMachine_98 rfl ?_
          refine z_Sv (As := [.long hh, .long ((nI (pk (M.log.2 j 0) (M.log.2 j 1) (M.log.2 j 2))).toInt64)]) (rest := []) C hw hl (m_X3_mix hO _) ivX3_198 rfl rfl ⟨(Nat.le_of_ble_eq_true rfl), (Nat.le_of_ble_eq_true rfl)⟩ (Nat.le_of_ble_eq_true rfl) ⟨Nat.zero_le _, Nat.zero_le _⟩ dX3_mixMachine_99 (fun H locs hw => ?_)
          refine z_topl (y := mx hh (pk (M.log.2 j 0) (M.log.2 j 1) (M.log.2 j 2))) (mx_i _ (Nat.lt_trans (pkv_lt hrj.1 hrj.2.1 hrj.2.2) (by omega))) ?_
          refine lv_lstore (lv' := [(4, .long (mx hh (pk (M.log.2 j 0) (M.log.2 j 1) (M.log.2 j 2)))), (2, .ref (G.h + b)), (3, .int (nI n)), (6, .int (nI M.log.1)), (7, .int (nI j))]) C.x C.b dX3_mixMachine_102 hl (by decide) rfl (fun ls hl => ?_)
          refine lv_iinc (v := nI j + 1) (lv' := [(7, .int (nI j + 1)), (4, .long (mx hh (pk (M.log.2 j 0) (M.log.2 j 1) (M.log.2 j 2)))), (2, .ref (G.h + b)), (3, .int (nI n)), (6, .int (nI M.log.1))]) C.x C.b dX3_mixMachine_104 hl (k := 4) rfl rfl (by decide) rfl (fun ls hl => ?_)
          have hl : lv_has ls 8 [(7, .int (nI (j + 1))), (4, .long (mx hh (pk (M.log.2 j 0) (M.log.2 j 1) (M.log.2 j 2)))), (2, .ref (G.h + b)), (3, .int (nI n)), (6, .int (nI M.log.1))] := by
            have e9 : nI j + 1 = nI (j + 1) := nI_1 j
            rw [← e9]; exact hl
          refine lv_goto (tgt := 83) C.x C.b dX3_mixMachine_107 (by decide) ?_
          exact ih (j + 1) (mx hh (pk (M.log.2 j 0) (M.log.2 j 1) (M.log.2 j 2))) _ _ _ (by omega) hr hw (lv_sub hl [2, 3, 1, 4, 0] rfl)
      exact loop M.log.1 0 (mx (mx (mx (mx (mx h M.st) M.sil) M.lie) M.wit) M.log.1) _ _ _ (by omega) rfl hw (lv_sub hl [4, 5, 1, 2, 0] rfl)
    · refine lv_lconst (v := 1) C.x C.b dX3_mixMachine_39 (by decide) ?_
      refine z_pc (pc2 := 40) rfl ?_
      refine lv_goto (tgt := 44) C.x C.b dX3_mixMachine_40 (by decide) ?_
      refine z_topl (y := (nI M.lie).toInt64) (by rw [zbl1 hli c_36]; rfl) ?_
      refine z_Sv (As := [.long (mx (mx h M.st) M.sil), .long ((nI M.lie).toInt64)]) (rest := []) C hw hl (m_X3_mix hO _) ivX3_198 rfl rfl ⟨(Nat.le_of_ble_eq_true rfl), (Nat.le_of_ble_eq_true rfl)⟩ (Nat.le_of_ble_eq_true rfl) ⟨Nat.zero_le _, Nat.zero_le _⟩ dX3_mixMachine_44 (fun H locs hw => ?_)
      refine z_topl (y := mx (mx (mx h M.st) M.sil) M.lie) (mx_i _ (by omega)) ?_
      refine lv_lstore (lv' := [(4, .long (mx (mx (mx h M.st) M.sil) M.lie)), (0, .long h), (2, .ref (G.h + b)), (3, .int (nI n))]) C.x C.b dX3_mixMachine_47 hl (by decide) rfl (fun ls hl => ?_)
      refine lv_lload C.x C.b dX3_mixMachine_49 (lv_at hl 0 rfl) ?_
      refine lv_aload_n C.x C.b dX3_mixMachine_51 rfl (lv_at hl 2 rfl) ?_
      refine z_get C hw hM.lt (hM.at _ _) flX3_153 rfl dX3_mixMachine_52 ?_
      refine z_topi (y := nI M.wit) (hm.1.2.2.2) ?_
      refine lv_i2l C.x C.b dX3_mixMachine_55 rfl ?_
      refine z_Sv (As := [.long (mx (mx (mx h M.st) M.sil) M.lie), .long ((nI M.wit).toInt64)]) (rest := []) C hw hl (m_X3_mix hO _) ivX3_198 rfl rfl ⟨(Nat.le_of_ble_eq_true rfl), (Nat.le_of_ble_eq_true rfl)⟩ (Nat.le_of_ble_eq_true rfl) ⟨Nat.zero_le _, Nat.zero_le _⟩ dX3_mixMachine_56 (fun H locs hw => ?_)
      refine z_topl (y := mx (mx (mx (mx h M.st) M.sil) M.lie) M.wit) (mx_i _ (by omega)) ?_
      refine lv_lstore (lv' := [(4, .long (mx (mx (mx (mx h M.st) M.sil) M.lie) M.wit)), (0, .long h), (2, .ref (G.h + b)), (3, .int (nI n))]) C.x C.b dX3_mixMachine_59 hl (by decide) rfl (fun ls hl => ?_)
      refine lv_aload_n C.x C.b dX3_mixMachine_61 rfl (lv_at hl 2 rfl) ?_
      refine z_get C hw hM.lt (hM.at _ _) flX3_113 rfl dX3_mixMachine_62 ?_
      refine z_get C hw hM.log.lt (hM.log.at _ _) flX3_52 rfl dX3_mixMachine_65 ?_
      refine z_topi (y := nI M.log.1) (hm.2.2.1.1) ?_
      refine lv_istore (lv' := [(6, .int (nI M.log.1)), (4, .long (mx (mx (mx (mx h M.st) M.sil) M.lie) M.wit)), (0, .long h), (2, .ref (G.h + b)), (3, .int (nI n))]) C.x C.b dX3_mixMachine_68 hl (by decide) rfl (fun ls hl => ?_)
      refine lv_lload C.x C.b dX3_mixMachine_70 (lv_at hl 1 rfl) ?_
      refine lv_iload C.x C.b dX3_mixMachine_72 (lv_at hl 0 rfl) ?_
      refine lv_i2l C.x C.b dX3_mixMachine_74 rfl ?_
      refine z_Sv (As := [.long (mx (mx (mx (mx h M.st) M.sil) M.lie) M.wit), .long ((nI M.log.1).toInt64)]) (rest := []) C hw hl (m_X3_mix hO _) ivX3_198 rfl rfl ⟨(Nat.le_of_ble_eq_true rfl), (Nat.le_of_ble_eq_true rfl)⟩ (Nat.le_of_ble_eq_true rfl) ⟨Nat.zero_le _, Nat.zero_le _⟩ dX3_mixMachine_75 (fun H locs hw => ?_)
      refine z_topl (y := mx (mx (mx (mx (mx h M.st) M.sil) M.lie) M.wit) M.log.1) (mx_i _ (by omega)) ?_
      refine lv_lstore (lv' := [(4, .long (mx (mx (mx (mx (mx h M.st) M.sil) M.lie) M.wit) M.log.1)), (6, .int (nI M.log.1)), (0, .long h), (2, .ref (G.h + b)), (3, .int (nI n))]) C.x C.b dX3_mixMachine_78 hl (by decide) rfl (fun ls hl => ?_)
      refine lv_iconst (v := 0) C.x C.b dX3_mixMachine_80 (by decide) ?_
      refine lv_istore (lv' := [(7, .int 0), (4, .long (mx (mx (mx (mx (mx h M.st) M.sil) M.lie) M.wit) M.log.1)), (6, .int (nI M.log.1)), (0, .long h), (2, .ref (G.h + b)), (3, .int (nI n))]) C.x C.b dX3_mixMachine_81 hl (by decide) rfl (fun ls hl => ?_)
      have loop : ∀ (d : Nat) (j : Nat) (hh : Int64) (H : Heap) (locs : List Loc) (ls : Array Slot) (hj : j + d = M.log.1) (hr : dgL (fun j => pk (M.log.2 j 0) (M.log.2 j 1) (M.log.2 j 2)) M.log.1 0 (mx (mx (mx (mx (mx h M.st) M.sil) M.lie) M.wit) M.log.1) = dgL (fun j => pk (M.log.2 j 0) (M.log.2 j 1) (M.log.2 j 2)) d j hh), zS G N Λ z sS H locs → lv_has ls 8 [(2, .ref (G.h + b)), (3, .int (nI n)), (4, .long hh), (6, .int (nI M.log.1)), (7, .int (nI j))] → W pP l eE (zR 2) sS mM ([.long h, .ref (G.h + b), .int (nI n)] : List Value).toArray bB tT cC H locs 0 0 (MQ bB (zQc G N Λ (some (.long (dgM M n h))) z) ([.long h, .ref (G.h + b), .int (nI n)] : List Value).toArray sS 0 0 (zA G)) (F0 mM 83 ls []) := by
        intro d
        induction d with
        | zero =>
          intro j hh H locs ls hj hr hw hl
          refine lv_iload C.x C.b dX3_mixMachine_83 (lv_at hl 4 rfl) ?_
          refine lv_iload C.x C.b dX3_mixMachine_85 (lv_at hl 3 rfl) ?_
          refine lv_icmp_ge (tgt := 110) C.x C.b dX3_mixMachine_87 (by decide) (fun c_87 => ?_) (fun c_87 => absurd (zle (by omega) (by omega)) c_87)
          have e9 : hh = dgL (fun j => pk (M.log.2 j 0) (M.log.2 j 1) (M.log.2 j 2)) M.log.1 0 (mx (mx (mx (mx (mx h M.st) M.sil) M.lie) M.wit) M.log.1) := hr.symm
          refine lv_lload C.x C.b dX3_mixMachine_110 (lv_at hl 2 rfl) ?_
          refine lv_aload_n C.x C.b dX3_mixMachine_112 rfl (lv_at hl 0 rfl) ?_
          refine lv_iload C.x C.b dX3_mixMachine_113 (lv_at hl 3 rfl) ?_
          refine z_Vv (As := [.int (nI M.log.1)]) (rest := [.long hh]) C hw hl (m_X0_chainAt hO _ hM hm.2.2.1.1 hlg (i := M.log.1) (Nat.le_refl _)) ivX3_138 hM.lt (hM.at _ _) rfl rfl ⟨(Nat.le_of_ble_eq_true rfl), (Nat.le_of_ble_eq_true rfl)⟩ (Nat.le_of_ble_eq_true rfl) ⟨Nat.zero_le _, Nat.zero_le _⟩ dX3_mixMachine_115 (fun H locs hw => ?_)
          refine z_topi (y := nI (CH M.log.2 M.log.1)) (chv_log hm.2.2.1 (Nat.le_refl _)) ?_
          refine lv_i2l C.x C.b dX3_mixMachine_118 rfl ?_
          refine z_Sv (As := [.long hh, .long ((nI (CH M.log.2 M.log.1)).toInt64)]) (rest := []) C hw hl (m_X3_mix hO _) ivX3_198 rfl rfl ⟨(Nat.le_of_ble_eq_true rfl), (Nat.le_of_ble_eq_true rfl)⟩ (Nat.le_of_ble_eq_true rfl) ⟨Nat.zero_le _, Nat.zero_le _⟩ dX3_mixMachine_119 (fun H locs hw => ?_)
          refine z_topl (y := mx hh (CH M.log.2 M.log.1)) (mx_i _ (by omega)) ?_
          refine lv_lstore (lv' := [(4, .long (mx hh (CH M.log.2 M.log.1))), (2, .ref (G.h + b)), (3, .int (nI n)), (6, .int (nI M.log.1)), (7, .int (nI j))]) C.x C.b dX3_mixMachine_122 hl (by decide) rfl (fun ls hl => ?_)
          refine lv_lload C.x C.b dX3_mixMachine_124 (lv_at hl 0 rfl) ?_
          refine lv_aload_n C.x C.b dX3_mixMachine_126 rfl (lv_at hl 1 rfl) ?_
          refine z_get C hw hM.lt (hM.at _ _) flX3_141 rfl dX3_mixMachine_127 ?_
          refine z_get C hw hM.held.lt (hM.held.at _ _) flX3_52 rfl dX3_mixMachine_130 ?_
          refine z_topi (y := nI M.held.1) (hm.2.2.2.1.1) ?_
          refine lv_i2l C.x C.b dX3_mixMachine_133 rfl ?_
          refine z_Sv (As := [.long (mx hh (CH M.log.2 M.log.1)), .long ((nI M.held.1).toInt64)]) (rest := []) C hw hl (m_X3_mix hO _) ivX3_198 rfl rfl ⟨(Nat.le_of_ble_eq_true rfl), (Nat.le_of_ble_eq_true rfl)⟩ (Nat.le_of_ble_eq_true rfl) ⟨Nat.zero_le _, Nat.zero_le _⟩ dX3_mixMachine_134 (fun H locs hw => ?_)
          refine z_topl (y := mx (mx hh (CH M.log.2 M.log.1)) M.held.1) (mx_i _ (by omega)) ?_
          refine lv_lstore (lv' := [(4, .long (mx (mx hh (CH M.log.2 M.log.1)) M.held.1)), (2, .ref (G.h + b)), (3, .int (nI n)), (6, .int (nI M.log.1)), (7, .int (nI j))]) C.x C.b dX3_mixMachine_137 hl (by decide) rfl (fun ls hl => ?_)
          refine lv_lload C.x C.b dX3_mixMachine_139 (lv_at hl 0 rfl) ?_
          refine lv_aload_n C.x C.b dX3_mixMachine_141 rfl (lv_at hl 1 rfl) ?_
          refine z_pc (pc2 := 142) rfl ?_
          refine z_get C hw hM.lt (hM.at _ _) flX3_94 rfl dX3_mixMachine_142 ?_
          refine z_get C hw hM.pend.lt (hM.pend.at _ _) flX3_52 rfl dX3_mixMachine_145 ?_
          refine z_topi (y := nI M.pend.1) (hm.2.2.2.2.1) ?_
          refine lv_i2l C.x C.b dX3_mixMachine_148 rfl ?_
          refine z_Sv (As := [.long (mx (mx hh (CH M.log.2 M.log.1)) M.held.1), .long ((nI M.pend.1).toInt64)]) (rest := []) C hw hl (m_X3_mix hO _) ivX3_198 rfl rfl ⟨(Nat.le_of_ble_eq_true rfl), (Nat.le_of_ble_eq_true rfl)⟩ (Nat.le_of_ble_eq_true rfl) ⟨Nat.zero_le _, Nat.zero_le _⟩ dX3_mixMachine_149 (fun H locs hw => ?_)
          refine z_topl (y := mx (mx (mx hh (CH M.log.2 M.log.1)) M.held.1) M.pend.1) (mx_i _ (by omega)) ?_
          refine lv_lstore (lv' := [(4, .long (mx (mx (mx hh (CH M.log.2 M.log.1)) M.held.1) M.pend.1)), (2, .ref (G.h + b)), (3, .int (nI n)), (6, .int (nI M.log.1)), (7, .int (nI j))]) C.x C.b dX3_mixMachine_152 hl (by decide) rfl (fun ls hl => ?_)
          refine lv_iconst (v := 0) C.x C.b dX3_mixMachine_154 (by decide) ?_
          refine lv_istore (lv' := [(7, .int 0), (4, .long (mx (mx (mx hh (CH M.log.2 M.log.1)) M.held.1) M.pend.1)), (2, .ref (G.h + b)), (3, .int (nI n)), (6, .int (nI M.log.1))]) C.x C.b dX3_mixMachine_155 hl (by decide) rfl (fun ls hl => ?_)
          have loop2 : ∀ (d : Nat) (j : Nat) (h2 : Int64) (H : Heap) (locs : List Loc) (ls : Array Slot) (hj2 : j + d = n) (hr2 : dgL M.ver n 0 (mx (mx (mx hh (CH M.log.2 M.log.1)) M.held.1) M.pend.1) = dgL M.ver d j h2), zS G N Λ z sS H locs → lv_has ls 8 [(2, .ref (G.h + b)), (3, .int (nI n)), (4, .long h2), (7, .int (nI j))] → W pP l eE (zR 2) sS mM ([.long h, .ref (G.h + b), .int (nI n)] : List Value).toArray bB tT cC H locs 0 0 (MQ bB (zQc G N Λ (some (.long (dgM M n h))) z) ([.long h, .ref (G.h + b), .int (nI n)] : List Value).toArray sS 0 0 (zA G)) (F0 mM 157 ls []) := by
            intro d
            induction d with
            | zero =>
              intro j h2 H locs ls hj2 hr2 hw hl
              refine lv_iload C.x C.b dX3_mixMachine_157 (lv_at hl 3 rfl) ?_
              refine lv_iload_n C.x C.b dX3_mixMachine_159 rfl (lv_at hl 1 rfl) ?_
              refine lv_icmp_ge (tgt := 184) C.x C.b dX3_mixMachine_160 (by decide) (fun c_160 => ?_) (fun c_160 => absurd (zle (by omega) (by omega)) c_160)
              refine lv_lload C.x C.b dX3_mixMachine_184 (lv_at hl 2 rfl) ?_
              exact z_lret C hw dX3_mixMachine_186 (by rw [dgM, ← e9, hr2]; rfl) (rfl)
            | succ d ih =>
              intro j h2 H locs ls hj2 hr2 hw hl
              refine lv_iload C.x C.b dX3_mixMachine_157 (lv_at hl 3 rfl) ?_
              refine lv_iload_n C.x C.b dX3_mixMachine_159 rfl (lv_at hl 1 rfl) ?_
              refine lv_icmp_ge (tgt := 184) C.x C.b dX3_mixMachine_160 (by decide) (fun c_160 => absurd c_160 (znle (by omega) (by omega))) (fun c_160 => ?_)
              have hj6 : j < 6 := by omega
              have hvj := ho.ver j
              refine lv_lload C.x C.b dX3_mixMachine_163 (lv_at hl 2 rfl) ?_
              refine lv_aload_n C.x C.b dX3_mixMachine_165 rfl (lv_at hl 0 rfl) ?_
              refine z_get C hw hM.lt (hM.at _ _) flX3_161 rfl dX3_mixMachine_166 ?_
              refine lv_iload C.x C.b dX3_mixMachine_169 (lv_at hl 3 rfl) ?_
              refine z_iald C hw hM.lt1 hM.ver (zvin hj6 (by omega)) dX3_mixMachine_171 ?_
              refine z_topi (y := nI (M.ver j)) (by rw [zcl hj6 (by omega)]; exact hm.2.1 j hj6) ?_
              refine lv_i2l C.x C.b dX3_mixMachine_172 rfl ?_
              refine z_Sv (As := [.long h2, .long ((nI (M.ver j)).toInt64)]) (rest := []) C hw hl (m_X3_mix hO _) ivX3_198 rfl rfl ⟨(Nat.le_of_ble_eq_true rfl), (Nat.le_of_ble_eq_true rfl)⟩ (Nat.le_of_ble_eq_true rfl) ⟨Nat.zero_le _, Nat.zero_le _⟩ dX3_mixMachine_173 (fun H locs hw => ?_)
              refine z_topl (y := mx h2 (M.ver j)) (mx_i _ (by omega)) ?_
              refine lv_lstore (lv' := [(4, .long (mx h2 (M.ver j))), (2, .ref (G.h + b)), (3, .int (nI n)), (7, .int (nI j))]) C.x C.b dX3_mixMachine_176 hl (by decide) rfl (fun ls hl => ?_)
              refine lv_iinc (v := nI j + 1) (lv' := [(7, .int (nI j + 1)), (4, .long (mx h2 (M.ver j))), (2, .ref (G.h + b)), (3, .int (nI n))]) C.x C.b dX3_mixMachine_178 hl (k := 3) rfl rfl (by decide) rfl (fun ls hl => ?_)
              have hl : lv_has ls 8 [(7, .int (nI (j + 1))), (4, .long (mx h2 (M.ver j))), (2, .ref (G.h + b)), (3, .int (nI n))] := by
                have e9 : nI j + 1 = nI (j + 1) := nI_1 j
                rw [← e9]; exact hl
              refine lv_goto (tgt := 157) C.x C.b dX3_mixMachine_181 (by decide) ?_
              exact ih (j + 1) (mx h2 (M.ver j)) _ _ _ (by omega) hr2 hw (lv_sub hl [2, 3, 1, 0] rfl)
          exact loop2 n 0 (mx (mx (mx hh (CH M.log.2 M.log.1)) M.held.1) M.pend.1) _ _ _ (by omega) rfl hw (lv_sub hl [2, 3, 1, 0] rfl)
        | succ d ih =>
          intro j hh H locs ls hj hr hw hl
          refine lv_iload C.x C.b dX3_mixMachine_83 (lv_at hl 4 rfl) ?_
          refine lv_iload C.x C.b dX3_mixMachine_85 (lv_at hl 3 rfl) ?_
          refine lv_icmp_ge (tgt := 110) C.x C.b dX3_mixMachine_87 (by decide) (fun c_87 => absurd c_87 (znle (by omega) (by omega))) (fun c_87 => ?_)
          refine lv_lload C.x C.b dX3_mixMachine_90 (lv_at hl 2 rfl) ?_
          refine lv_aload_n C.x C.b dX3_mixMachine_92 rfl (lv_at hl 0 rfl) ?_
          refine lv_iload C.x C.b dX3_mixMachine_93 (lv_at hl 4 rfl) ?_
          refine z_Vv (As := [.int (nI j)]) (rest := [.long hh]) C hw hl (m_X0_packedEntry hO _ hM hm.2.2.1.1 hlg hm.2.2.1.2.1 hlr (j := j) (by omega)) ivX3_129 hM.lt (hM.at _ _) rfl rfl ⟨(Nat.le_of_ble_eq_true rfl), (Nat.le_of_ble_eq_true rfl)⟩ (Nat.le_of_ble_eq_true rfl) ⟨Nat.zero_le _, Nat.zero_le _⟩ dX3_mixMachine_95 (fun H locs hw => ?_)
          have hrj := hlr j (by omega)
          refine lv_i2l C.x C.b dX3_mixMachine_98 rfl ?_
          refine z_Sv (As := [.long hh, .long ((nI (pk (M.log.2 j 0) (M.log.2 j 1) (M.log.2 j 2))).toInt64)]) (rest := []) C hw hl (m_X3_mix hO _) ivX3_198 rfl rfl ⟨(Nat.le_of_ble_eq_true rfl), (Nat.le_of_ble_eq_true rfl)⟩ (Nat.le_of_ble_eq_true rfl) ⟨Nat.zero_le _, Nat.zero_le _⟩ dX3_mixMachine_99 (fun H locs hw => ?_)
          refine z_topl (y := mx hh (pk (M.log.2 j 0) (M.log.2 j 1) (M.log.2 j 2))) (mx_i _ (Nat.lt_trans (pkv_lt hrj.1 hrj.2.1 hrj.2.2) (by omega))) ?_
          refine lv_lstore (lv' := [(4, .long (mx hh (pk (M.log.2 j 0) (M.log.2 j 1) (M.log.2 j 2)))), (2, .ref (G.h + b)), (3, .int (nI n)), (6, .int (nI M.log.1)), (7, .int (nI j))]) C.x C.b dX3_mixMachine_102 hl (by decide) rfl (fun ls hl => ?_)
          refine lv_iinc (v := nI j + 1) (lv' := [(7, .int (nI j + 1)), (4, .long (mx hh (pk (M.log.2 j 0) (M.log.2 j 1) (M.log.2 j 2)))), (2, .ref (G.h + b)), (3, .int (nI n)), (6, .int (nI M.log.1))]) C.x C.b dX3_mixMachine_104 hl (k := 4) rfl rfl (by decide) rfl (fun ls hl => ?_)
          have hl : lv_has ls 8 [(7, .int (nI (j + 1))), (4, .long (mx hh (pk (M.log.2 j 0) (M.log.2 j 1) (M.log.2 j 2)))), (2, .ref (G.h + b)), (3, .int (nI n)), (6, .int (nI M.log.1))] := by
            have e9 : nI j + 1 = nI (j + 1) := nI_1 j
            rw [← e9]; exact hl
          refine lv_goto (tgt := 83) C.x C.b dX3_mixMachine_107 (by decide) ?_
          exact ih (j + 1) (mx hh (pk (M.log.2 j 0) (M.log.2 j 1) (M.log.2 j 2))) _ _ _ (by omega) hr hw (lv_sub hl [2, 3, 1, 4, 0] rfl)
      exact loop M.log.1 0 (mx (mx (mx (mx (mx h M.st) M.sil) M.lie) M.wit) M.log.1) _ _ _ (by omega) rfl hw (lv_sub hl [4, 5, 1, 2, 0] rfl)

set_option maxRecDepth 100000 in
set_option maxHeartbeats 4000000 in
theorem m_X3_mixQueue {G : zG} {N : Nat} {Λ : zLay} {l : Launch} (hO : zOK G l) (z : zM) {t : Nat} (hT : zT G N Λ t 5 40) {T : aT} (hr5 : rTb z t 5 T) {n : Nat} (hok : okMsg n T) (hn6 : n ≤ 6) {h : Int64} : zMet G N Λ l yX3_mixQueue cX3_mixQueue 6 (some .long) 1 [.long h, .ref (G.h + t)] z (some (.long (dgQ T T.1 0 (mx h T.1)))) z := by
  refine zMet_of hO (by decide) (Nat.le_of_ble_eq_true rfl) ?_
  intro pP eE sS mM bB tT cC ls C hw hl
  have hl : lv_has ls 6 [(0, .long h), (2, .ref (G.h + t))] := hl
  have hq40 := hok.1
  refine lv_lload_n C.x C.b dX3_mixQueue_0 rfl (lv_at hl 0 rfl) ?_
  refine lv_aload_n C.x C.b dX3_mixQueue_1 rfl (lv_at hl 1 rfl) ?_
  refine z_get C hw hT.lt (hT.at _ _) flX3_52 rfl dX3_mixQueue_2 ?_
  refine z_topi (y := nI T.1) (hr5.1) ?_
  refine lv_i2l C.x C.b dX3_mixQueue_5 rfl ?_
  refine z_Sv (As := [.long h, .long ((nI T.1).toInt64)]) (rest := []) C hw hl (m_X3_mix hO _) ivX3_198 rfl rfl ⟨(Nat.le_of_ble_eq_true rfl), (Nat.le_of_ble_eq_true rfl)⟩ (Nat.le_of_ble_eq_true rfl) ⟨Nat.zero_le _, Nat.zero_le _⟩ dX3_mixQueue_6 (fun H locs hw => ?_)
  refine z_topl (y := mx h T.1) (mx_i _ (by omega)) ?_
  refine lv_lstore_n (lv' := [(3, .long (mx h T.1)), (0, .long h), (2, .ref (G.h + t))]) C.x C.b dX3_mixQueue_9 rfl hl (by decide) rfl (fun ls hl => ?_)
  refine lv_iconst (v := 0) C.x C.b dX3_mixQueue_10 (by decide) ?_
  refine lv_istore (lv' := [(5, .int 0), (3, .long (mx h T.1)), (0, .long h), (2, .ref (G.h + t))]) C.x C.b dX3_mixQueue_11 hl (by decide) rfl (fun ls hl => ?_)
  have loop : ∀ (d : Nat) (j : Nat) (hh : Int64) (H : Heap) (locs : List Loc) (ls : Array Slot) (hj : j + d = T.1) (hr : dgQ T T.1 0 (mx h T.1) = dgQ T d j hh), zS G N Λ z sS H locs → lv_has ls 6 [(2, .ref (G.h + t)), (3, .long hh), (5, .int (nI j))] → W pP l eE (zR 1) sS mM ([.long h, .ref (G.h + t)] : List Value).toArray bB tT cC H locs 0 0 (MQ bB (zQc G N Λ (some (.long (dgQ T T.1 0 (mx h T.1)))) z) ([.long h, .ref (G.h + t)] : List Value).toArray sS 0 0 (zA G)) (F0 mM 13 ls []) := by
    intro d
    induction d with
    | zero =>
      intro j hh H locs ls hj hr hw hl
      refine lv_iload C.x C.b dX3_mixQueue_13 (lv_at hl 2 rfl) ?_
      refine lv_aload_n C.x C.b dX3_mixQueue_15 rfl (lv_at hl 0 rfl) ?_
      refine z_get C hw hT.lt (hT.at _ _) flX3_52 rfl dX3_mixQueue_16 ?_
      refine lv_icmp_ge (tgt := 54) C.x C.b dX3_mixQueue_19 (by decide) (fun c_19 => ?_) (fun c_19 => absurd (by rw [hr5.1]; exact zle (by omega) (by omega)) c_19)
      refine lv_lload_n C.x C.b dX3_mixQueue_54 rfl (lv_at hl 1 rfl) ?_
      exact z_lret C hw dX3_mixQueue_55 (by rw [hr]; rfl) (rfl)
    | succ d ih =>
      intro j hh H locs ls hj hr hw hl
      refine lv_iload C.x C.b dX3_mixQueue_13 (lv_at hl 2 rfl) ?_
      refine lv_aload_n C.x C.b dX3_mixQueue_15 rfl (lv_at hl 0 rfl) ?_
      refine z_get C hw hT.lt (hT.at _ _) flX3_52 rfl dX3_mixQueue_16 ?_
      refine lv_icmp_ge (tgt := 54) C.x C.b dX3_mixQueue_19 (by decide) (fun c_19 => absurd c_19 (by rw [hr5.1]; exact znle (by omega) (by omega))) (fun c_19 => ?_)
      have hjk : j < T.1 := by omega
      have hmj := hok.2 j hjk
      refine lv_lload_n C.x C.b dX3_mixQueue_22 rfl (lv_at hl 1 rfl) ?_
      refine lv_aload_n C.x C.b dX3_mixQueue_23 rfl (lv_at hl 0 rfl) ?_
      refine lv_iload C.x C.b dX3_mixQueue_24 (lv_at hl 2 rfl) ?_
      refine lv_iconst (v := 3) C.x C.b dX3_mixQueue_26 (by decide) ?_
      refine z_Vv (As := [.int (nI j), .int 3]) (rest := [.long hh]) C hw hl (m_X1_get hO _ hT hr5.1 hok.1 (r := j) (c := 3) hjk (by omega)) ivX3_116 hT.lt (hT.at _ _) rfl rfl ⟨(Nat.le_of_ble_eq_true rfl), (Nat.le_of_ble_eq_true rfl)⟩ (Nat.le_of_ble_eq_true rfl) ⟨Nat.zero_le _, Nat.zero_le _⟩ dX3_mixQueue_27 (fun H locs hw => ?_)
      refine z_topi (y := nI (T.2 j 3)) (hr5.2 j hjk 3 (by omega)) ?_
      refine lv_i2l C.x C.b dX3_mixQueue_30 rfl ?_
      refine z_Sv (As := [.long hh, .long ((nI (T.2 j 3)).toInt64)]) (rest := []) C hw hl (m_X3_mix hO _) ivX3_198 rfl rfl ⟨(Nat.le_of_ble_eq_true rfl), (Nat.le_of_ble_eq_true rfl)⟩ (Nat.le_of_ble_eq_true rfl) ⟨Nat.zero_le _, Nat.zero_le _⟩ dX3_mixQueue_31 (fun H locs hw => ?_)
      refine z_topl (y := mx hh (T.2 j 3)) (mx_i _ (by omega)) ?_
      refine lv_lstore_n (lv' := [(3, .long (mx hh (T.2 j 3))), (2, .ref (G.h + t)), (5, .int (nI j))]) C.x C.b dX3_mixQueue_34 rfl hl (by decide) rfl (fun ls hl => ?_)
      refine lv_lload_n C.x C.b dX3_mixQueue_35 rfl (lv_at hl 0 rfl) ?_
      refine lv_aload_n C.x C.b dX3_mixQueue_36 rfl (lv_at hl 1 rfl) ?_
      refine lv_iload C.x C.b dX3_mixQueue_37 (lv_at hl 2 rfl) ?_
      refine lv_iconst (v := 4) C.x C.b dX3_mixQueue_39 (by decide) ?_
      refine z_Vv (As := [.int (nI j), .int 4]) (rest := [.long (mx hh (T.2 j 3))]) C hw hl (m_X1_get hO _ hT hr5.1 hok.1 (r := j) (c := 4) hjk (by omega)) ivX3_116 hT.lt (hT.at _ _) rfl rfl ⟨(Nat.le_of_ble_eq_true rfl), (Nat.le_of_ble_eq_true rfl)⟩ (Nat.le_of_ble_eq_true rfl) ⟨Nat.zero_le _, Nat.zero_le _⟩ dX3_mixQueue_40 (fun H locs hw => ?_)
      refine z_topi (y := nI (T.2 j 4)) (hr5.2 j hjk 4 (by omega)) ?_
      refine lv_i2l C.x C.b dX3_mixQueue_43 rfl ?_
      refine z_Sv (As := [.long (mx hh (T.2 j 3)), .long ((nI (T.2 j 4)).toInt64)]) (rest := []) C hw hl (m_X3_mix hO _) ivX3_198 rfl rfl ⟨(Nat.le_of_ble_eq_true rfl), (Nat.le_of_ble_eq_true rfl)⟩ (Nat.le_of_ble_eq_true rfl) ⟨Nat.zero_le _, Nat.zero_le _⟩ dX3_mixQueue_44 (fun H locs hw => ?_)
      refine z_topl (y := mx (mx hh (T.2 j 3)) (T.2 j 4)) (mx_i _ (by omega)) ?_
      refine z_pc (pc2 := 47) rfl ?_
      refine lv_lstore_n (lv' := [(3, .long (mx (mx hh (T.2 j 3)) (T.2 j 4))), (2, .ref (G.h + t)), (5, .int (nI j))]) C.x C.b dX3_mixQueue_47 rfl hl (by decide) rfl (fun ls hl => ?_)
      refine lv_iinc (v := nI j + 1) (lv' := [(5, .int (nI j + 1)), (3, .long (mx (mx hh (T.2 j 3)) (T.2 j 4))), (2, .ref (G.h + t))]) C.x C.b dX3_mixQueue_48 hl (k := 2) rfl rfl (by decide) rfl (fun ls hl => ?_)
      have hl : lv_has ls 6 [(5, .int (nI (j + 1))), (3, .long (mx (mx hh (T.2 j 3)) (T.2 j 4))), (2, .ref (G.h + t))] := by
        have e9 : nI j + 1 = nI (j + 1) := nI_1 j
        rw [← e9]; exact hl
      refine lv_goto (tgt := 13) C.x C.b dX3_mixQueue_51 (by decide) ?_
      exact ih (j + 1) (mx (mx hh (T.2 j 3)) (T.2 j 4)) _ _ _ (by omega) hr hw (lv_sub hl [2, 1, 0] rfl)
  exact loop T.1 0 (mx h T.1) _ _ _ (by omega) rfl hw (lv_sub hl [3, 1, 0] rfl)

set_option maxRecDepth 100000 in
set_option maxHeartbeats 4000000 in
theorem m_X3_mixEvidence {G : zG} {N : Nat} {Λ : zLay} {l : Launch} (hO : zOK G l) (z : zM) {t : Nat} (hT : zT G N Λ t 4 30) {T : aT} (hr4 : rTb z t 4 T) {n : Nat} (hok : okEv n T) (hn6 : n ≤ 6) {h : Int64} : zMet G N Λ l yX3_mixEvidence cX3_mixEvidence 7 (some .long) 1 [.long h, .ref (G.h + t)] z (some (.long (dgE T T.1 0 (mx h T.1)))) z := by
  refine zMet_of hO (by decide) (Nat.le_of_ble_eq_true rfl) ?_
  intro pP eE sS mM bB tT cC ls C hw hl
  have hl : lv_has ls 7 [(0, .long h), (2, .ref (G.h + t))] := hl
  have hq40 := hok.1
  have he4 : ∀ j w, j < T.1 → w < 4 → T.2 j w < 100 := fun j w hj hw4 => by
    obtain ⟨q0, q1, q2, q3⟩ := hok.2 j hj
    rcases (show w = 0 ∨ w = 1 ∨ w = 2 ∨ w = 3 by omega) with rfl | rfl | rfl | rfl <;> omega
  refine lv_lload_n C.x C.b dX3_mixEvidence_0 rfl (lv_at hl 0 rfl) ?_
  refine lv_aload_n C.x C.b dX3_mixEvidence_1 rfl (lv_at hl 1 rfl) ?_
  refine z_get C hw hT.lt (hT.at _ _) flX3_52 rfl dX3_mixEvidence_2 ?_
  refine z_topi (y := nI T.1) (hr4.1) ?_
  refine lv_i2l C.x C.b dX3_mixEvidence_5 rfl ?_
  refine z_Sv (As := [.long h, .long ((nI T.1).toInt64)]) (rest := []) C hw hl (m_X3_mix hO _) ivX3_198 rfl rfl ⟨(Nat.le_of_ble_eq_true rfl), (Nat.le_of_ble_eq_true rfl)⟩ (Nat.le_of_ble_eq_true rfl) ⟨Nat.zero_le _, Nat.zero_le _⟩ dX3_mixEvidence_6 (fun H locs hw => ?_)
  refine z_topl (y := mx h T.1) (mx_i _ (by omega)) ?_
  refine lv_lstore_n (lv' := [(3, .long (mx h T.1)), (0, .long h), (2, .ref (G.h + t))]) C.x C.b dX3_mixEvidence_9 rfl hl (by decide) rfl (fun ls hl => ?_)
  refine lv_iconst (v := 0) C.x C.b dX3_mixEvidence_10 (by decide) ?_
  refine lv_istore (lv' := [(5, .int 0), (3, .long (mx h T.1)), (0, .long h), (2, .ref (G.h + t))]) C.x C.b dX3_mixEvidence_11 hl (by decide) rfl (fun ls hl => ?_)
  have loop : ∀ (d : Nat) (j : Nat) (hh : Int64) (H : Heap) (locs : List Loc) (ls : Array Slot) (hj : j + d = T.1) (hr : dgE T T.1 0 (mx h T.1) = dgE T d j hh), zS G N Λ z sS H locs → lv_has ls 7 [(2, .ref (G.h + t)), (3, .long hh), (5, .int (nI j))] → W pP l eE (zR 1) sS mM ([.long h, .ref (G.h + t)] : List Value).toArray bB tT cC H locs 0 0 (MQ bB (zQc G N Λ (some (.long (dgE T T.1 0 (mx h T.1)))) z) ([.long h, .ref (G.h + t)] : List Value).toArray sS 0 0 (zA G)) (F0 mM 13 ls []) := by
    intro d
    induction d with
    | zero =>
      intro j hh H locs ls hj hr hw hl
      refine lv_iload C.x C.b dX3_mixEvidence_13 (lv_at hl 2 rfl) ?_
      refine lv_aload_n C.x C.b dX3_mixEvidence_15 rfl (lv_at hl 0 rfl) ?_
      refine z_get C hw hT.lt (hT.at _ _) flX3_52 rfl dX3_mixEvidence_16 ?_
      refine lv_icmp_ge (tgt := 57) C.x C.b dX3_mixEvidence_19 (by decide) (fun c_19 => ?_) (fun c_19 => absurd (by rw [hr4.1]; exact zle (by omega) (by omega)) c_19)
      refine lv_lload_n C.x C.b dX3_mixEvidence_57 rfl (lv_at hl 1 rfl) ?_
      exact z_lret C hw dX3_mixEvidence_58 (by rw [hr]; rfl) (rfl)
    | succ d ih =>
      intro j hh H locs ls hj hr hw hl
      refine lv_iload C.x C.b dX3_mixEvidence_13 (lv_at hl 2 rfl) ?_
      refine lv_aload_n C.x C.b dX3_mixEvidence_15 rfl (lv_at hl 0 rfl) ?_
      refine z_get C hw hT.lt (hT.at _ _) flX3_52 rfl dX3_mixEvidence_16 ?_
      refine lv_icmp_ge (tgt := 57) C.x C.b dX3_mixEvidence_19 (by decide) (fun c_19 => absurd c_19 (by rw [hr4.1]; exact znle (by omega) (by omega))) (fun c_19 => ?_)
      have hjk : j < T.1 := by omega
      refine lv_iconst (v := 0) C.x C.b dX3_mixEvidence_22 (by decide) ?_
      refine lv_istore (lv' := [(6, .int 0), (2, .ref (G.h + t)), (3, .long hh), (5, .int (nI j))]) C.x C.b dX3_mixEvidence_23 hl (by decide) rfl (fun ls hl => ?_)
      have loop2 : ∀ (d2 : Nat) (w : Nat) (h3 : Int64) (H : Heap) (locs : List Loc) (ls : Array Slot) (hw4 : w + d2 = 4) (hr2 : dgL (T.2 j) 4 0 (hh) = dgL (T.2 j) d2 w h3), zS G N Λ z sS H locs → lv_has ls 7 [(2, .ref (G.h + t)), (3, .long h3), (5, .int (nI j)), (6, .int (nI w))] → W pP l eE (zR 1) sS mM ([.long h, .ref (G.h + t)] : List Value).toArray bB tT cC H locs 0 0 (MQ bB (zQc G N Λ (some (.long (dgE T T.1 0 (mx h T.1)))) z) ([.long h, .ref (G.h + t)] : List Value).toArray sS 0 0 (zA G)) (F0 mM 25 ls []) := by
        intro d2
        induction d2 with
        | zero =>
          intro w h3 H locs ls hw4 hr2 hw hl
          refine lv_iload C.x C.b dX3_mixEvidence_25 (lv_at hl 3 rfl) ?_
          refine lv_iconst (v := 4) C.x C.b dX3_mixEvidence_27 (by decide) ?_
          refine lv_icmp_ge (tgt := 51) C.x C.b dX3_mixEvidence_28 (by decide) (fun c_28 => ?_) (fun c_28 => absurd (zle (a := 4) (by omega) (by omega)) c_28)
          refine lv_iinc (v := nI j + 1) (lv' := [(5, .int (nI j + 1)), (2, .ref (G.h + t)), (3, .long h3), (6, .int (nI w))]) C.x C.b dX3_mixEvidence_51 hl (k := 2) rfl rfl (by decide) rfl (fun ls hl => ?_)
          have hl : lv_has ls 7 [(5, .int (nI (j + 1))), (2, .ref (G.h + t)), (3, .long h3), (6, .int (nI w))] := by
            have e9 : nI j + 1 = nI (j + 1) := nI_1 j
            rw [← e9]; exact hl
          refine lv_goto (tgt := 13) C.x C.b dX3_mixEvidence_54 (by decide) ?_
          exact ih (j + 1) h3 _ _ _ (by omega) (by rw [hr, dgE, hr2]; rfl) hw (lv_sub hl [1, 2, 0] rfl)
        | succ d2 ih2 =>
          intro w h3 H locs ls hw4 hr2 hw hl
          refine lv_iload C.x C.b dX3_mixEvidence_25 (lv_at hl 3 rfl) ?_
          refine lv_iconst (v := 4) C.x C.b dX3_mixEvidence_27 (by decide) ?_
          refine lv_icmp_ge (tgt := 51) C.x C.b dX3_mixEvidence_28 (by decide) (fun c_28 => absurd c_28 (znle (b := 4) (by omega) (by omega))) (fun c_28 => ?_)
          have hb9 := he4 j w hjk (by omega)
          refine lv_lload_n C.x C.b dX3_mixEvidence_31 rfl (lv_at hl 1 rfl) ?_
          refine lv_aload_n C.x C.b dX3_mixEvidence_32 rfl (lv_at hl 0 rfl) ?_
          refine lv_iload C.x C.b dX3_mixEvidence_33 (lv_at hl 2 rfl) ?_
          refine lv_iload C.x C.b dX3_mixEvidence_35 (lv_at hl 3 rfl) ?_
          refine z_Vv (As := [.int (nI j), .int (nI w)]) (rest := [.long h3]) C hw hl (m_X1_get hO _ hT hr4.1 hok.1 (r := j) (c := w) hjk (by omega)) ivX3_116 hT.lt (hT.at _ _) rfl rfl ⟨(Nat.le_of_ble_eq_true rfl), (Nat.le_of_ble_eq_true rfl)⟩ (Nat.le_of_ble_eq_true rfl) ⟨Nat.zero_le _, Nat.zero_le _⟩ dX3_mixEvidence_37 (fun H locs hw => ?_)
          refine z_topi (y := nI (T.2 j w)) (hr4.2 j hjk w (by omega)) ?_
          refine lv_i2l C.x C.b dX3_mixEvidence_40 rfl ?_
          refine z_Sv (As := [.long h3, .long ((nI (T.2 j w)).toInt64)]) (rest := []) C hw hl (m_X3_mix hO _) ivX3_198 rfl rfl ⟨(Nat.le_of_ble_eq_true rfl), (Nat.le_of_ble_eq_true rfl)⟩ (Nat.le_of_ble_eq_true rfl) ⟨Nat.zero_le _, Nat.zero_le _⟩ dX3_mixEvidence_41 (fun H locs hw => ?_)
          refine z_topl (y := mx h3 (T.2 j w)) (mx_i _ (by omega)) ?_
          refine lv_lstore_n (lv' := [(3, .long (mx h3 (T.2 j w))), (2, .ref (G.h + t)), (5, .int (nI j)), (6, .int (nI w))]) C.x C.b dX3_mixEvidence_44 rfl hl (by decide) rfl (fun ls hl => ?_)
          refine lv_iinc (v := nI w + 1) (lv' := [(6, .int (nI w + 1)), (3, .long (mx h3 (T.2 j w))), (2, .ref (G.h + t)), (5, .int (nI j))]) C.x C.b dX3_mixEvidence_45 hl (k := 3) rfl rfl (by decide) rfl (fun ls hl => ?_)
          have hl : lv_has ls 7 [(6, .int (nI (w + 1))), (3, .long (mx h3 (T.2 j w))), (2, .ref (G.h + t)), (5, .int (nI j))] := by
            have e9 : nI w + 1 = nI (w + 1) := nI_1 w
            rw [← e9]; exact hl
          refine lv_goto (tgt := 25) C.x C.b dX3_mixEvidence_48 (by decide) ?_
          exact ih2 (w + 1) (mx h3 (T.2 j w)) _ _ _ (by omega) hr2 hw (lv_sub hl [2, 1, 3, 0] rfl)
      exact loop2 4 0 (hh) _ _ _ (by omega) rfl hw (lv_sub hl [1, 2, 3, 0] rfl)
  exact loop T.1 0 (mx h T.1) _ _ _ (by omega) rfl hw (lv_sub hl [3, 1, 0] rfl)

set_option maxRecDepth 100000 in
set_option maxHeartbeats 4000000 in
theorem m_X3_digest {G : zG} {N : Nat} {Λ : zLay} {l : Launch} (hO : zOK G l) (z : zM) (hA : zPo G N Λ) {S : aS} (hI : wI z 1 S) (hS : aOK S) {c : Nat} (hc : z.1 0 2 = nI c) (hc4 : c ≤ 4) : zMet G N Λ l yX3_digest cX3_digest 4 (some .long) 3 [.ref (G.h + 0)] z (some (.long (dig c S))) z := by
  refine zMet_of hO (by decide) (Nat.le_of_ble_eq_true rfl) ?_
  intro pP eE sS mM bB tT cC ls C hw hl
  have hl : lv_has ls 4 [(0, .ref (G.h + 0))] := hl
  have hn6 := hS.n6
  refine lv_ldc2 (v := 12833) C.x C.b C.ow (C.w ctX3_196) dX3_digest_0 ?_
  refine lv_aload_n C.x C.b dX3_digest_3 rfl (lv_at hl 0 rfl) ?_
  refine z_get C hw hA.lt (hA.at _ _) flX3_184 rfl dX3_digest_4 ?_
  refine z_topi (y := nI c) (hc) ?_
  refine lv_i2l C.x C.b dX3_digest_7 rfl ?_
  refine z_Sv (As := [.long 12833, .long ((nI c).toInt64)]) (rest := []) C hw hl (m_X3_mix hO _) ivX3_198 rfl rfl ⟨(Nat.le_of_ble_eq_true rfl), (Nat.le_of_ble_eq_true rfl)⟩ (Nat.le_of_ble_eq_true rfl) ⟨Nat.zero_le _, Nat.zero_le _⟩ dX3_digest_8 (fun H locs hw => ?_)
  refine z_topl (y := mx 12833 c) (mx_i _ (by omega)) ?_
  refine lv_lstore_n (lv' := [(1, .long (mx 12833 c)), (0, .ref (G.h + 0))]) C.x C.b dX3_digest_11 rfl hl (by decide) rfl (fun ls hl => ?_)
  refine lv_lload_n C.x C.b dX3_digest_12 rfl (lv_at hl 0 rfl) ?_
  refine lv_aload_n C.x C.b dX3_digest_13 rfl (lv_at hl 1 rfl) ?_
  refine z_get C hw hA.lt (hA.at _ _) flX3_12 rfl dX3_digest_14 ?_
  refine z_get C hw hA.w0.lt (hA.w0.at _ _) flX3_34 rfl dX3_digest_17 ?_
  refine z_topi (y := nI S.n) (hI.n) ?_
  refine lv_i2l C.x C.b dX3_digest_20 rfl ?_
  refine z_Sv (As := [.long (mx 12833 c), .long ((nI S.n).toInt64)]) (rest := []) C hw hl (m_X3_mix hO _) ivX3_198 rfl rfl ⟨(Nat.le_of_ble_eq_true rfl), (Nat.le_of_ble_eq_true rfl)⟩ (Nat.le_of_ble_eq_true rfl) ⟨Nat.zero_le _, Nat.zero_le _⟩ dX3_digest_21 (fun H locs hw => ?_)
  refine z_topl (y := mx (mx 12833 c) S.n) (mx_i _ (by omega)) ?_
  refine lv_lstore_n (lv' := [(1, .long (mx (mx 12833 c) S.n)), (0, .ref (G.h + 0))]) C.x C.b dX3_digest_24 rfl hl (by decide) rfl (fun ls hl => ?_)
  refine lv_iconst (v := 0) C.x C.b dX3_digest_25 (by decide) ?_
  refine lv_istore_n (lv' := [(3, .int 0), (1, .long (mx (mx 12833 c) S.n)), (0, .ref (G.h + 0))]) C.x C.b dX3_digest_26 rfl hl (by decide) rfl (fun ls hl => ?_)
  have loop : ∀ (d : Nat) (x : Nat) (hh : Int64) (H : Heap) (locs : List Loc) (ls : Array Slot) (hxn : x + d = S.n) (hr : dgMs S S.n 0 (mx (mx 12833 c) S.n) = dgMs S d x hh), zS G N Λ z sS H locs → lv_has ls 4 [(0, .ref (G.h + 0)), (1, .long hh), (3, .int (nI x))] → W pP l eE (zR 3) sS mM ([.ref (G.h + 0)] : List Value).toArray bB tT cC H locs 0 0 (MQ bB (zQc G N Λ (some (.long (dig c S))) z) ([.ref (G.h + 0)] : List Value).toArray sS 0 0 (zA G)) (F0 mM 27 ls []) := by
    intro d
    induction d with
    | zero =>
      intro x hh H locs ls hxn hr hw hl
      refine lv_iload_n C.x C.b dX3_digest_27 rfl (lv_at hl 2 rfl) ?_
      refine lv_aload_n C.x C.b dX3_digest_28 rfl (lv_at hl 0 rfl) ?_
      refine z_get C hw hA.lt (hA.at _ _) flX3_12 rfl dX3_digest_29 ?_
      refine z_get C hw hA.w0.lt (hA.w0.at _ _) flX3_34 rfl dX3_digest_32 ?_
      refine lv_icmp_ge (tgt := 65) C.x C.b dX3_digest_35 (by decide) (fun c_35 => ?_) (fun c_35 => absurd (by rw [hI.n]; exact zle (by omega) (by omega)) c_35)
      have hr : dgMs S S.n 0 (mx (mx 12833 c) S.n) = hh := hr
      refine lv_lload_n C.x C.b dX3_digest_65 rfl (lv_at hl 1 rfl) ?_
      refine lv_aload_n C.x C.b dX3_digest_66 rfl (lv_at hl 0 rfl) ?_
      refine z_get C hw hA.lt (hA.at _ _) flX3_12 rfl dX3_digest_67 ?_
      refine z_get C hw hA.w0.lt (hA.w0.at _ _) flX3_48 rfl dX3_digest_70 ?_
      refine z_Sv (As := [.long hh, .ref (G.h + (1 + 50))]) (rest := []) C hw hl (m_X3_mixQueue hO _ hA.w0.queue hI.q hS.q hn6) ivX3_206 rfl rfl ⟨(Nat.le_of_ble_eq_true rfl), (Nat.le_of_ble_eq_true rfl)⟩ (Nat.le_of_ble_eq_true rfl) ⟨Nat.zero_le _, Nat.zero_le _⟩ dX3_digest_73 (fun H locs hw => ?_)
      refine lv_lstore_n (lv' := [(1, .long (dgQ S.q S.q.1 0 (mx hh S.q.1))), (0, .ref (G.h + 0)), (3, .int (nI x))]) C.x C.b dX3_digest_76 rfl hl (by decide) rfl (fun ls hl => ?_)
      refine lv_lload_n C.x C.b dX3_digest_77 rfl (lv_at hl 0 rfl) ?_
      refine lv_aload_n C.x C.b dX3_digest_78 rfl (lv_at hl 1 rfl) ?_
      refine z_get C hw hA.lt (hA.at _ _) flX3_12 rfl dX3_digest_79 ?_
      refine z_get C hw hA.w0.lt (hA.w0.at _ _) flX3_179 rfl dX3_digest_82 ?_
      refine z_Sv (As := [.long (dgQ S.q S.q.1 0 (mx hh S.q.1)), .ref (G.h + (1 + 52))]) (rest := []) C hw hl (m_X3_mixEvidence hO _ hA.w0.evid hI.e hS.e hn6) ivX3_210 rfl rfl ⟨(Nat.le_of_ble_eq_true rfl), (Nat.le_of_ble_eq_true rfl)⟩ (Nat.le_of_ble_eq_true rfl) ⟨Nat.zero_le _, Nat.zero_le _⟩ dX3_digest_85 (fun H locs hw => ?_)
      exact z_lret C hw dX3_digest_88 (by rw [dig, hr]) (rfl)
    | succ d ih =>
      intro x hh H locs ls hxn hr hw hl
      refine lv_iload_n C.x C.b dX3_digest_27 rfl (lv_at hl 2 rfl) ?_
      refine lv_aload_n C.x C.b dX3_digest_28 rfl (lv_at hl 0 rfl) ?_
      refine z_get C hw hA.lt (hA.at _ _) flX3_12 rfl dX3_digest_29 ?_
      refine z_get C hw hA.w0.lt (hA.w0.at _ _) flX3_34 rfl dX3_digest_32 ?_
      refine lv_icmp_ge (tgt := 65) C.x C.b dX3_digest_35 (by decide) (fun c_35 => absurd c_35 (by rw [hI.n]; exact znle (by omega) (by omega))) (fun c_35 => ?_)
      have hx : x < S.n := by omega
      have hx6 : x < 6 := by omega
      refine lv_lload_n C.x C.b dX3_digest_38 rfl (lv_at hl 1 rfl) ?_
      refine lv_aload_n C.x C.b dX3_digest_39 rfl (lv_at hl 0 rfl) ?_
      refine z_get C hw hA.lt (hA.at _ _) flX3_12 rfl dX3_digest_40 ?_
      refine z_get C hw hA.w0.lt (hA.w0.at _ _) flX3_44 rfl dX3_digest_43 ?_
      refine lv_iload_n C.x C.b dX3_digest_46 rfl (lv_at hl 2 rfl) ?_
      refine z_aaldM (a := G.h + (1 + 2 + 8 * x)) C hw hA.w0.lt1 hA.w0.ma (zvin hx6 (by omega)) (by rw [zcl hx6 (by omega)]) dX3_digest_47 ?_
      refine lv_aload_n C.x C.b dX3_digest_48 rfl (lv_at hl 0 rfl) ?_
      refine z_get C hw hA.lt (hA.at _ _) flX3_12 rfl dX3_digest_49 ?_
      refine z_get C hw hA.w0.lt (hA.w0.at _ _) flX3_34 rfl dX3_digest_52 ?_
      refine z_topi (y := nI S.n) (hI.n) ?_
      refine z_Sv (As := [.long hh, .ref (G.h + (1 + 2 + 8 * x)), .int (nI S.n)]) (rest := []) C hw hl (m_X3_mixMachine hO _ (hA.w0.m hx6) (hI.m hx) (hS.m hx) hn6) ivX3_202 rfl rfl ⟨(Nat.le_of_ble_eq_true rfl), (Nat.le_of_ble_eq_true rfl)⟩ (Nat.le_of_ble_eq_true rfl) ⟨Nat.zero_le _, Nat.zero_le _⟩ dX3_digest_55 (fun H locs hw => ?_)
      refine lv_lstore_n (lv' := [(1, .long (dgM (S.m x) S.n hh)), (0, .ref (G.h + 0)), (3, .int (nI x))]) C.x C.b dX3_digest_58 rfl hl (by decide) rfl (fun ls hl => ?_)
      refine lv_iinc (v := nI x + 1) (lv' := [(3, .int (nI x + 1)), (1, .long (dgM (S.m x) S.n hh)), (0, .ref (G.h + 0))]) C.x C.b dX3_digest_59 hl (k := 2) rfl rfl (by decide) rfl (fun ls hl => ?_)
      have hl : lv_has ls 4 [(3, .int (nI (x + 1))), (1, .long (dgM (S.m x) S.n hh)), (0, .ref (G.h + 0))] := by
        have e9 : nI x + 1 = nI (x + 1) := nI_1 x
        rw [← e9]; exact hl
      refine lv_goto (tgt := 27) C.x C.b dX3_digest_62 (by decide) ?_
      exact ih (x + 1) (dgM (S.m x) S.n hh) _ _ _ (by omega) hr hw (lv_sub hl [2, 1, 0] rfl)
  exact loop S.n 0 (mx (mx 12833 c) S.n) _ _ _ (by omega) rfl hw (lv_sub hl [2, 1, 0] rfl)
