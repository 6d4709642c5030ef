theorem lg_cmp_self (x : Int64) : lg_cmp x x = 0 := by
  unfold lg_cmp
  simp
theorem iwL_91 : zIw RL 91 yL_reset cL_reset 4 (some .int) [(0, 9, 12, 13)] 3 := ⟨⟨by decide +kernel, rfl⟩, ⟨by decide +kernel, rfl⟩, ⟨by decide +kernel, rfl⟩, cwL_reset, ⟨by decide, by decide⟩, by decide +kernel⟩
theorem iwL_100 : zIw RL 100 yL_input cL_input 5 (some .int) [(0, 10, 13, 19), (0, 10, 17, 13), (0, 10, 21, 21)] 4 := ⟨⟨by decide +kernel, rfl⟩, ⟨by decide +kernel, rfl⟩, ⟨by decide +kernel, rfl⟩, cwL_input, ⟨by decide, by decide⟩, by decide +kernel⟩
theorem iwL_104 : zIw RL 104 yL_deliver cL_deliver 3 (some .int) [(0, 8, 11, 21)] 2 := ⟨⟨by decide +kernel, rfl⟩, ⟨by decide +kernel, rfl⟩, ⟨by decide +kernel, rfl⟩, cwL_deliver, ⟨by decide, by decide⟩, by decide +kernel⟩
theorem iwL_108 : zIw RL 108 yL_run cL_run 4 (some .int) [(0, 9, 12, 13)] 3 := ⟨⟨by decide +kernel, rfl⟩, ⟨by decide +kernel, rfl⟩, ⟨by decide +kernel, rfl⟩, cwL_run, ⟨by decide, by decide⟩, by decide +kernel⟩
theorem iwL_115 : zIw RL 115 yL_state cL_state 4 (some .int) [(0, 9, 12, 19)] 3 := ⟨⟨by decide +kernel, rfl⟩, ⟨by decide +kernel, rfl⟩, ⟨by decide +kernel, rfl⟩, cwL_state, ⟨by decide, by decide⟩, by decide +kernel⟩
theorem iwL_118 : zIw RL 118 yL_setSilent cL_setSilent 5 (some .int) [(0, 10, 13, 19)] 4 := ⟨⟨by decide +kernel, rfl⟩, ⟨by decide +kernel, rfl⟩, ⟨by decide +kernel, rfl⟩, cwL_setSilent, ⟨by decide, by decide⟩, by decide +kernel⟩
theorem iwL_122 : zIw RL 122 yL_pending cL_pending 4 (some .int) [(0, 9, 12, 19)] 3 := ⟨⟨by decide +kernel, rfl⟩, ⟨by decide +kernel, rfl⟩, ⟨by decide +kernel, rfl⟩, cwL_pending, ⟨by decide, by decide⟩, by decide +kernel⟩
theorem iwL_125 : zIw RL 125 yL_resend cL_resend 4 (some .int) [(0, 9, 12, 19), (0, 9, 15, 21)] 3 := ⟨⟨by decide +kernel, rfl⟩, ⟨by decide +kernel, rfl⟩, ⟨by decide +kernel, rfl⟩, cwL_resend, ⟨by decide, by decide⟩, by decide +kernel⟩
theorem iwL_128 : zIw RL 128 yL_lie cL_lie 4 (some .int) [(0, 16, 19, 19)] 3 := ⟨⟨by decide +kernel, rfl⟩, ⟨by decide +kernel, rfl⟩, ⟨by decide +kernel, rfl⟩, cwL_lie, ⟨by decide, by decide⟩, by decide +kernel⟩
theorem iwL_131 : zIw RL 131 yL_tamper cL_tamper 6 (some .int) [(0, 12, 15, 19), (0, 12, 19, 13)] 5 := ⟨⟨by decide +kernel, rfl⟩, ⟨by decide +kernel, rfl⟩, ⟨by decide +kernel, rfl⟩, cwL_tamper, ⟨by decide, by decide⟩, by decide +kernel⟩
theorem iwL_135 : zIw RL 135 yL_cut cL_cut 5 (some .int) [(0, 10, 13, 19), (0, 10, 17, 13)] 4 := ⟨⟨by decide +kernel, rfl⟩, ⟨by decide +kernel, rfl⟩, ⟨by decide +kernel, rfl⟩, cwL_cut, ⟨by decide, by decide⟩, by decide +kernel⟩
theorem iwL_138 : zIw RL 138 yL_logLength cL_logLength 4 (some .int) [(0, 9, 12, 19)] 3 := ⟨⟨by decide +kernel, rfl⟩, ⟨by decide +kernel, rfl⟩, ⟨by decide +kernel, rfl⟩, cwL_logLength, ⟨by decide, by decide⟩, by decide +kernel⟩
theorem iwL_141 : zIw RL 141 yL_entry cL_entry 5 (some .int) [(0, 10, 13, 19)] 4 := ⟨⟨by decide +kernel, rfl⟩, ⟨by decide +kernel, rfl⟩, ⟨by decide +kernel, rfl⟩, cwL_entry, ⟨by decide, by decide⟩, by decide +kernel⟩
theorem iwL_144 : zIw RL 144 yL_chain cL_chain 5 (some .int) [(0, 10, 13, 19)] 4 := ⟨⟨by decide +kernel, rfl⟩, ⟨by decide +kernel, rfl⟩, ⟨by decide +kernel, rfl⟩, cwL_chain, ⟨by decide, by decide⟩, by decide +kernel⟩
theorem iwL_147 : zIw RL 147 yL_held cL_held 4 (some .int) [(0, 9, 12, 19)] 3 := ⟨⟨by decide +kernel, rfl⟩, ⟨by decide +kernel, rfl⟩, ⟨by decide +kernel, rfl⟩, cwL_held, ⟨by decide, by decide⟩, by decide +kernel⟩
theorem iwL_150 : zIw RL 150 yL_authenticator cL_authenticator 6 (some .int) [(0, 12, 15, 19), (0, 12, 19, 13)] 5 := ⟨⟨by decide +kernel, rfl⟩, ⟨by decide +kernel, rfl⟩, ⟨by decide +kernel, rfl⟩, cwL_authenticator, ⟨by decide, by decide⟩, by decide +kernel⟩
theorem iwL_153 : zIw RL 153 yL_setWitnesses cL_setWitnesses 5 (some .int) [(0, 10, 13, 19), (0, 10, 17, 13)] 4 := ⟨⟨by decide +kernel, rfl⟩, ⟨by decide +kernel, rfl⟩, ⟨by decide +kernel, rfl⟩, cwL_setWitnesses, ⟨by decide, by decide⟩, by decide +kernel⟩
theorem iwL_156 : zIw RL 156 yL_audit cL_audit 5 (some .int) [(0, 10, 13, 19), (0, 10, 17, 21)] 4 := ⟨⟨by decide +kernel, rfl⟩, ⟨by decide +kernel, rfl⟩, ⟨by decide +kernel, rfl⟩, cwL_audit, ⟨by decide, by decide⟩, by decide +kernel⟩
theorem iwL_163 : zIw RL 163 yL_verdict cL_verdict 5 (some .int) [(0, 10, 13, 19)] 4 := ⟨⟨by decide +kernel, rfl⟩, ⟨by decide +kernel, rfl⟩, ⟨by decide +kernel, rfl⟩, cwL_verdict, ⟨by decide, by decide⟩, by decide +kernel⟩
theorem iwL_166 : zIw RL 166 yL_verdictMask cL_verdictMask 4 (some .int) [(0, 9, 12, 13)] 3 := ⟨⟨by decide +kernel, rfl⟩, ⟨by decide +kernel, rfl⟩, ⟨by decide +kernel, rfl⟩, cwL_verdictMask, ⟨by decide, by decide⟩, by decide +kernel⟩
theorem iwL_173 : zIw RL 173 yL_evidence cL_evidence 5 (some .int) [(0, 10, 13, 19), (0, 10, 17, 13)] 4 := ⟨⟨by decide +kernel, rfl⟩, ⟨by decide +kernel, rfl⟩, ⟨by decide +kernel, rfl⟩, cwL_evidence, ⟨by decide, by decide⟩, by decide +kernel⟩
theorem iwL_176 : zIw RL 176 yL_undo cL_undo 3 (some .int) [(0, 8, 11, 21)] 2 := ⟨⟨by decide +kernel, rfl⟩, ⟨by decide +kernel, rfl⟩, ⟨by decide +kernel, rfl⟩, cwL_undo, ⟨by decide, by decide⟩, by decide +kernel⟩
theorem k_reset {p : Program} {l : Launch} {e : Env} {s : State} {m : MethodId} {args : Array Value} {below : List Frame} {meth : Method} {c : Code} {H : Heap} {locs : List Loc} {cells slots : Nat} {Q : State → Prop} {ls : Array Slot} {G : zG} {N : Nat} {Λ : zLay} {z : zM} (C : zC G l p s m meth c cL_law 7 RL (some .boolean)) (hA : zPo G N Λ) (hB : zMo G N Λ) (hJl : 275 < N) (hJ : zJA G Λ 275 1) {b L : Nat} {xs : Nat → Int32} (hX : va_X b L xs s s.heap) (hbl : b < s.heap.size) (hbA : ¬ zA G b) {i : Nat} (hi : i + 4 ≤ L) (hL : L ≤ 2048) {S : aS} {cn : Nat} {Lf : Nat → aS} (h : LI z S cn Lf) (hw : zS G N Λ z s H locs) (hl : lv_has ls 7 [(0, .ref b), (1, .ref (G.h + 0)), (2, .ref (G.h + 272)), (3, .ref (G.h + 275)), (4, .int (nI i))]) (hc1 : cells + 1 ≤ 601024) (hc2 : slots + 6 ≤ 7293034)
    (kk : ∀ (z' : zM) (S' : aS) (cn' : Nat) (Lf' : Nat → aS) (H : Heap) (locs : List Loc) (ls : Array Slot), LI z' S' cn' Lf' → zS G N Λ z' s H locs → lv_has ls 7 [(0, .ref b), (1, .ref (G.h + 0)), (2, .ref (G.h + 272)), (3, .ref (G.h + 275)), (4, .int (nI i))] → W p l e room_1 s m args below meth c H locs (cells + 1) (slots + 6) Q (F0 m 1596 ls [])) : W p l e room_1 s m args below meth c H locs cells slots Q (F0 m 156 ls []) := by
  refine lv_aload_n C.x C.b dL_law_156 rfl (lv_at hl 1 rfl) ?_
  refine lv_aload_n C.x C.b dL_law_157 rfl (lv_at hl 0 rfl) ?_
  refine lv_iload C.x C.b dL_law_158 (lv_at hl 4 rfl) ?_
  refine lv_iconst (v := 1) C.x C.b dL_law_160 (by decide) ?_
  refine lv_iadd C.x C.b dL_law_161 ?_
  refine z_topi (y := nI (i + 1)) (by rw [zlit 1, nI_add]) ?_
  refine va_sld C.x C.b hX hbl hbA hw.2 (i := nI (i + 1)) (vp_in_nI (by omega) (by omega)) dL_law_162 ?_
  refine z_topi (y := xs (i + 1)) (congrArg xs (nI_clamp (by omega))) ?_
  refine lv_aload_n C.x C.b dL_law_163 rfl (lv_at hl 3 rfl) ?_
  obtain ⟨k, z1, z2, r, S2, c2, L2, ⟨hmw, hmm⟩, hsE, hLI⟩ := s_reset C.O hA hB hJl hJ h (xs (i + 1))
  refine z_SW (As := [.ref (G.h + 0), .int (xs (i + 1)), .ref (G.h + 275)]) (rest := []) C hw hl hmw iwL_91 rfl rfl ⟨(Nat.le_of_ble_eq_true rfl), (Nat.le_of_ble_eq_true rfl)⟩ (Nat.le_of_ble_eq_true rfl) ⟨hc1, hc2⟩ dL_law_164 (fun H locs hw => ?_)
  refine lv_istore (lv' := [(5, .int (nI k)), (0, .ref b), (1, .ref (G.h + 0)), (2, .ref (G.h + 272)), (3, .ref (G.h + 275)), (4, .int (nI i))]) C.x C.b dL_law_167 hl (by decide) rfl (fun ls hl => ?_)
  refine lv_aload_n C.x C.b dL_law_169 rfl (lv_at hl 3 rfl) ?_
  refine lv_aload_n C.x C.b dL_law_170 rfl (lv_at hl 1 rfl) ?_
  refine lv_iload C.x C.b dL_law_171 (lv_at hl 5 rfl) ?_
  refine lv_iconst (v := 1) C.x C.b dL_law_173 (by decide) ?_
  refine lv_iadd C.x C.b dL_law_174 ?_
  refine z_topi (y := nI (i + 1)) (by rw [zlit 1, nI_add]) ?_
  refine va_sld C.x C.b hX hbl hbA hw.2 (i := nI (i + 1)) (vp_in_nI (by omega) (by omega)) dL_law_175 ?_
  refine z_topi (y := xs (i + 1)) (congrArg xs (nI_clamp (by omega))) ?_
  refine z_Vv (As := [.int (xs (i + 1))]) (rest := []) C hw hl hmm ivL_96 hB.lt (hB.at _ _) rfl rfl ⟨(Nat.le_of_ble_eq_true rfl), (Nat.le_of_ble_eq_true rfl)⟩ (Nat.le_of_ble_eq_true rfl) ⟨by show cells + 1 ≤ 601024; omega, by show slots + 6 ≤ 7293034; omega⟩ dL_law_176 (fun H locs hw => ?_)
  refine lv_istore (lv' := [(6, .int r), (5, .int (nI k)), (0, .ref b), (1, .ref (G.h + 0)), (2, .ref (G.h + 272)), (3, .ref (G.h + 275)), (4, .int (nI i))]) C.x C.b dL_law_179 hl (by decide) rfl (fun ls hl => ?_)
  refine lv_aload_n C.x C.b dL_law_181 rfl (lv_at hl 4 rfl) ?_
  refine z_Vv (As := []) (rest := []) C hw hl (m_X4_thrown C.O z2 hB hsE.2.1) ivL_97 hB.lt (hB.at _ _) rfl rfl ⟨(Nat.le_of_ble_eq_true rfl), (Nat.le_of_ble_eq_true rfl)⟩ (Nat.le_of_ble_eq_true rfl) ⟨by show cells + 1 ≤ 601024; omega, by show slots + 6 ≤ 7293034; omega⟩ dL_law_182 (fun H locs hw => ?_)
  refine lv_iload C.x C.b dL_law_185 (lv_at hl 1 rfl) ?_
  refine lv_icmp_eq (tgt := 192) C.x C.b dL_law_187 (by decide) (fun c_187 => ?_) (fun c_187 => absurd (rfl) c_187)
  refine lv_iload C.x C.b dL_law_192 (lv_at hl 1 rfl) ?_
  refine z_pc (pc2 := 194) rfl ?_
  refine lv_if_ne (tgt := 209) C.x C.b dL_law_194 (by decide) (fun c_194 => ?_) (fun c_194 => ?_)
  · refine lv_goto (tgt := 1596) C.x C.b dL_law_209 (by decide) ?_
    exact kk z2 S2 c2 L2 _ _ _ hLI hw (lv_sub hl [2, 3, 4, 5, 6] rfl)
  · refine lv_aload_n C.x C.b dL_law_197 rfl (lv_at hl 5 rfl) ?_
    refine lv_iconst (v := 0) C.x C.b dL_law_198 (by decide) ?_
    refine z_lald C hw hJl hJ ((zvin (x := 0) (by omega) (by omega))) dL_law_199 ?_
    have hk0 : k = 0 := zzero (by have := hsE.1; omega) c_194
    refine z_topl (y := r.toInt64) (hsE.2.2 hk0) ?_
    refine lv_iload C.x C.b dL_law_200 (lv_at hl 0 rfl) ?_
    refine lv_i2l C.x C.b dL_law_202 rfl ?_
    refine W.lcmp C.x C.b dL_law_203 ?_
    refine lv_if_eq (tgt := 209) C.x C.b dL_law_204 (by decide) (fun c_204 => ?_) (fun c_204 => absurd (lg_cmp_self _) c_204)
    refine lv_goto (tgt := 1596) C.x C.b dL_law_209 (by decide) ?_
    exact kk z2 S2 c2 L2 _ _ _ hLI hw (lv_sub hl [2, 3, 4, 5, 6] rfl)

theorem k_input {p : Program} {l : Launch} {e : Env} {s : State} {m : MethodId} {args : Array Value} {below : List Frame} {meth : Method} {c : Code} {H : Heap} {locs : List Loc} {cells slots : Nat} {Q : State → Prop} {ls : Array Slot} {G : zG} {N : Nat} {Λ : zLay} {z : zM} (C : zC G l p s m meth c cL_law 7 RL (some .boolean)) (hA : zPo G N Λ) (hB : zMo G N Λ) (hJl : 275 < N) (hJ : zJA G Λ 275 1) {b L : Nat} {xs : Nat → Int32} (hX : va_X b L xs s s.heap) (hbl : b < s.heap.size) (hbA : ¬ zA G b) {i : Nat} (hi : i + 4 ≤ L) (hL : L ≤ 2048) {S : aS} {cn : Nat} {Lf : Nat → aS} (h : LI z S cn Lf) (hw : zS G N Λ z s H locs) (hl : lv_has ls 7 [(0, .ref b), (1, .ref (G.h + 0)), (2, .ref (G.h + 272)), (3, .ref (G.h + 275)), (4, .int (nI i))]) (hc1 : cells + 1 ≤ 601024) (hc2 : slots + 6 ≤ 7293034)
    (kk : ∀ (z' : zM) (S' : aS) (cn' : Nat) (Lf' : Nat → aS) (H : Heap) (locs : List Loc) (ls : Array Slot), LI z' S' cn' Lf' → zS G N Λ z' s H locs → lv_has ls 7 [(0, .ref b), (1, .ref (G.h + 0)), (2, .ref (G.h + 272)), (3, .ref (G.h + 275)), (4, .int (nI i))] → W p l e room_1 s m args below meth c H locs (cells + 1) (slots + 6) Q (F0 m 1596 ls [])) : W p l e room_1 s m args below meth c H locs cells slots Q (F0 m 212 ls []) := by
  refine lv_aload_n C.x C.b dL_law_212 rfl (lv_at hl 1 rfl) ?_
  refine lv_aload_n C.x C.b dL_law_213 rfl (lv_at hl 0 rfl) ?_
  refine lv_iload C.x C.b dL_law_214 (lv_at hl 4 rfl) ?_
  refine lv_iconst (v := 1) C.x C.b dL_law_216 (by decide) ?_
  refine lv_iadd C.x C.b dL_law_217 ?_
  refine z_topi (y := nI (i + 1)) (by rw [zlit 1, nI_add]) ?_
  refine va_sld C.x C.b hX hbl hbA hw.2 (i := nI (i + 1)) (vp_in_nI (by omega) (by omega)) dL_law_218 ?_
  refine z_topi (y := xs (i + 1)) (congrArg xs (nI_clamp (by omega))) ?_
  refine lv_aload_n C.x C.b dL_law_219 rfl (lv_at hl 0 rfl) ?_
  refine lv_iload C.x C.b dL_law_220 (lv_at hl 4 rfl) ?_
  refine lv_iconst (v := 2) C.x C.b dL_law_222 (by decide) ?_
  refine lv_iadd C.x C.b dL_law_223 ?_
  refine z_topi (y := nI (i + 2)) (by rw [zlit 2, nI_add]) ?_
  refine va_sld C.x C.b hX hbl hbA hw.2 (i := nI (i + 2)) (vp_in_nI (by omega) (by omega)) dL_law_224 ?_
  refine z_topi (y := xs (i + 2)) (congrArg xs (nI_clamp (by omega))) ?_
  refine lv_aload_n C.x C.b dL_law_225 rfl (lv_at hl 3 rfl) ?_
  obtain ⟨k, z1, z2, r, S2, c2, L2, ⟨hmw, hmm⟩, hsE, hLI⟩ := s_input C.O hA hB hJl hJ h (xs (i + 1)) (xs (i + 2))
  refine z_SW (As := [.ref (G.h + 0), .int (xs (i + 1)), .int (xs (i + 2)), .ref (G.h + 275)]) (rest := []) C hw hl hmw iwL_100 rfl rfl ⟨(Nat.le_of_ble_eq_true rfl), (Nat.le_of_ble_eq_true rfl)⟩ (Nat.le_of_ble_eq_true rfl) ⟨hc1, hc2⟩ dL_law_226 (fun H locs hw => ?_)
  refine lv_istore (lv' := [(5, .int (nI k)), (0, .ref b), (1, .ref (G.h + 0)), (2, .ref (G.h + 272)), (3, .ref (G.h + 275)), (4, .int (nI i))]) C.x C.b dL_law_229 hl (by decide) rfl (fun ls hl => ?_)
  refine lv_aload_n C.x C.b dL_law_231 rfl (lv_at hl 3 rfl) ?_
  refine lv_aload_n C.x C.b dL_law_232 rfl (lv_at hl 1 rfl) ?_
  refine lv_iload C.x C.b dL_law_233 (lv_at hl 5 rfl) ?_
  refine lv_iconst (v := 1) C.x C.b dL_law_235 (by decide) ?_
  refine lv_iadd C.x C.b dL_law_236 ?_
  refine z_topi (y := nI (i + 1)) (by rw [zlit 1, nI_add]) ?_
  refine va_sld C.x C.b hX hbl hbA hw.2 (i := nI (i + 1)) (vp_in_nI (by omega) (by omega)) dL_law_237 ?_
  refine z_topi (y := xs (i + 1)) (congrArg xs (nI_clamp (by omega))) ?_
  refine z_pc (pc2 := 238) rfl ?_
  refine lv_aload_n C.x C.b dL_law_238 rfl (lv_at hl 1 rfl) ?_
  refine lv_iload C.x C.b dL_law_239 (lv_at hl 5 rfl) ?_
  refine lv_iconst (v := 2) C.x C.b dL_law_241 (by decide) ?_
  refine lv_iadd C.x C.b dL_law_242 ?_
  refine z_topi (y := nI (i + 2)) (by rw [zlit 2, nI_add]) ?_
  refine va_sld C.x C.b hX hbl hbA hw.2 (i := nI (i + 2)) (vp_in_nI (by omega) (by omega)) dL_law_243 ?_
  refine z_topi (y := xs (i + 2)) (congrArg xs (nI_clamp (by omega))) ?_
  refine z_Vv (As := [.int (xs (i + 1)), .int (xs (i + 2))]) (rest := []) C hw hl hmm ivL_103 hB.lt (hB.at _ _) rfl rfl ⟨(Nat.le_of_ble_eq_true rfl), (Nat.le_of_ble_eq_true rfl)⟩ (Nat.le_of_ble_eq_true rfl) ⟨by show cells + 1 ≤ 601024; omega, by show slots + 6 ≤ 7293034; omega⟩ dL_law_244 (fun H locs hw => ?_)
  refine lv_istore (lv' := [(6, .int r), (5, .int (nI k)), (0, .ref b), (1, .ref (G.h + 0)), (2, .ref (G.h + 272)), (3, .ref (G.h + 275)), (4, .int (nI i))]) C.x C.b dL_law_247 hl (by decide) rfl (fun ls hl => ?_)
  refine lv_aload_n C.x C.b dL_law_249 rfl (lv_at hl 4 rfl) ?_
  refine z_Vv (As := []) (rest := []) C hw hl (m_X4_thrown C.O z2 hB hsE.2.1) ivL_97 hB.lt (hB.at _ _) rfl rfl ⟨(Nat.le_of_ble_eq_true rfl), (Nat.le_of_ble_eq_true rfl)⟩ (Nat.le_of_ble_eq_true rfl) ⟨by show cells + 1 ≤ 601024; omega, by show slots + 6 ≤ 7293034; omega⟩ dL_law_250 (fun H locs hw => ?_)
  refine lv_iload C.x C.b dL_law_253 (lv_at hl 1 rfl) ?_
  refine lv_icmp_eq (tgt := 260) C.x C.b dL_law_255 (by decide) (fun c_255 => ?_) (fun c_255 => absurd (rfl) c_255)
  refine lv_iload C.x C.b dL_law_260 (lv_at hl 1 rfl) ?_
  refine lv_if_ne (tgt := 277) C.x C.b dL_law_262 (by decide) (fun c_262 => ?_) (fun c_262 => ?_)
  · refine lv_goto (tgt := 1596) C.x C.b dL_law_277 (by decide) ?_
    exact kk z2 S2 c2 L2 _ _ _ hLI hw (lv_sub hl [2, 3, 4, 5, 6] rfl)
  · refine lv_aload_n C.x C.b dL_law_265 rfl (lv_at hl 5 rfl) ?_
    refine lv_iconst (v := 0) C.x C.b dL_law_266 (by decide) ?_
    refine z_lald C hw hJl hJ ((zvin (x := 0) (by omega) (by omega))) dL_law_267 ?_
    have hk0 : k = 0 := zzero (by have := hsE.1; omega) c_262
    refine z_topl (y := r.toInt64) (hsE.2.2 hk0) ?_
    refine lv_iload C.x C.b dL_law_268 (lv_at hl 0 rfl) ?_
    refine lv_i2l C.x C.b dL_law_270 rfl ?_
    refine W.lcmp C.x C.b dL_law_271 ?_
    refine lv_if_eq (tgt := 277) C.x C.b dL_law_272 (by decide) (fun c_272 => ?_) (fun c_272 => absurd (lg_cmp_self _) c_272)
    refine lv_goto (tgt := 1596) C.x C.b dL_law_277 (by decide) ?_
    exact kk z2 S2 c2 L2 _ _ _ hLI hw (lv_sub hl [2, 3, 4, 5, 6] rfl)

theorem k_deliver {p : Program} {l : Launch} {e : Env} {s : State} {m : MethodId} {args : Array Value} {below : List Frame} {meth : Method} {c : Code} {H : Heap} {locs : List Loc} {cells slots : Nat} {Q : State → Prop} {ls : Array Slot} {G : zG} {N : Nat} {Λ : zLay} {z : zM} (C : zC G l p s m meth c cL_law 7 RL (some .boolean)) (hA : zPo G N Λ) (hB : zMo G N Λ) (hJl : 275 < N) (hJ : zJA G Λ 275 1) {b L : Nat} {xs : Nat → Int32} (hX : va_X b L xs s s.heap) (hbl : b < s.heap.size) (hbA : ¬ zA G b) {i : Nat} (hi : i + 4 ≤ L) (hL : L ≤ 2048) {S : aS} {cn : Nat} {Lf : Nat → aS} (h : LI z S cn Lf) (hw : zS G N Λ z s H locs) (hl : lv_has ls 7 [(0, .ref b), (1, .ref (G.h + 0)), (2, .ref (G.h + 272)), (3, .ref (G.h + 275)), (4, .int (nI i))]) (hc1 : cells + 1 ≤ 601024) (hc2 : slots + 6 ≤ 7293034)
    (kk : ∀ (z' : zM) (S' : aS) (cn' : Nat) (Lf' : Nat → aS) (H : Heap) (locs : List Loc) (ls : Array Slot), LI z' S' cn' Lf' → zS G N Λ z' s H locs → lv_has ls 7 [(0, .ref b), (1, .ref (G.h + 0)), (2, .ref (G.h + 272)), (3, .ref (G.h + 275)), (4, .int (nI i))] → W p l e room_1 s m args below meth c H locs (cells + 1) (slots + 6) Q (F0 m 1596 ls [])) : W p l e room_1 s m args below meth c H locs cells slots Q (F0 m 280 ls []) := by
  refine lv_aload_n C.x C.b dL_law_280 rfl (lv_at hl 1 rfl) ?_
  refine lv_aload_n C.x C.b dL_law_281 rfl (lv_at hl 3 rfl) ?_
  obtain ⟨k, z1, z2, r, S2, c2, L2, ⟨hmw, hmm⟩, hsE, hLI⟩ := s_deliver C.O hA hB hJl hJ h 
  refine z_SW (As := [.ref (G.h + 0), .ref (G.h + 275)]) (rest := []) C hw hl hmw iwL_104 rfl rfl ⟨(Nat.le_of_ble_eq_true rfl), (Nat.le_of_ble_eq_true rfl)⟩ (Nat.le_of_ble_eq_true rfl) ⟨hc1, hc2⟩ dL_law_282 (fun H locs hw => ?_)
  refine lv_istore (lv' := [(5, .int (nI k)), (0, .ref b), (1, .ref (G.h + 0)), (2, .ref (G.h + 272)), (3, .ref (G.h + 275)), (4, .int (nI i))]) C.x C.b dL_law_285 hl (by decide) rfl (fun ls hl => ?_)
  refine lv_aload_n C.x C.b dL_law_287 rfl (lv_at hl 3 rfl) ?_
  refine z_Vv (As := []) (rest := []) C hw hl hmm ivL_107 hB.lt (hB.at _ _) rfl rfl ⟨(Nat.le_of_ble_eq_true rfl), (Nat.le_of_ble_eq_true rfl)⟩ (Nat.le_of_ble_eq_true rfl) ⟨by show cells + 1 ≤ 601024; omega, by show slots + 6 ≤ 7293034; omega⟩ dL_law_288 (fun H locs hw => ?_)
  refine lv_istore (lv' := [(6, .int r), (5, .int (nI k)), (0, .ref b), (1, .ref (G.h + 0)), (2, .ref (G.h + 272)), (3, .ref (G.h + 275)), (4, .int (nI i))]) C.x C.b dL_law_291 hl (by decide) rfl (fun ls hl => ?_)
  refine lv_aload_n C.x C.b dL_law_293 rfl (lv_at hl 4 rfl) ?_
  refine z_Vv (As := []) (rest := []) C hw hl (m_X4_thrown C.O z2 hB hsE.2.1) ivL_97 hB.lt (hB.at _ _) rfl rfl ⟨(Nat.le_of_ble_eq_true rfl), (Nat.le_of_ble_eq_true rfl)⟩ (Nat.le_of_ble_eq_true rfl) ⟨by show cells + 1 ≤ 601024; omega, by show slots + 6 ≤ 7293034; omega⟩ dL_law_294 (fun H locs hw => ?_)
  refine lv_iload C.x C.b dL_law_297 (lv_at hl 1 rfl) ?_
  refine lv_icmp_eq (tgt := 304) C.x C.b dL_law_299 (by decide) (fun c_299 => ?_) (fun c_299 => absurd (rfl) c_299)
  refine lv_iload C.x C.b dL_law_304 (lv_at hl 1 rfl) ?_
  refine lv_if_ne (tgt := 321) C.x C.b dL_law_306 (by decide) (fun c_306 => ?_) (fun c_306 => ?_)
  · refine lv_goto (tgt := 1596) C.x C.b dL_law_321 (by decide) ?_
    exact kk z2 S2 c2 L2 _ _ _ hLI hw (lv_sub hl [2, 3, 4, 5, 6] rfl)
  · refine lv_aload_n C.x C.b dL_law_309 rfl (lv_at hl 5 rfl) ?_
    refine lv_iconst (v := 0) C.x C.b dL_law_310 (by decide) ?_
    refine z_lald C hw hJl hJ ((zvin (x := 0) (by omega) (by omega))) dL_law_311 ?_
    have hk0 : k = 0 := zzero (by have := hsE.1; omega) c_306
    refine z_topl (y := r.toInt64) (hsE.2.2 hk0) ?_
    refine lv_iload C.x C.b dL_law_312 (lv_at hl 0 rfl) ?_
    refine lv_i2l C.x C.b dL_law_314 rfl ?_
    refine W.lcmp C.x C.b dL_law_315 ?_
    refine lv_if_eq (tgt := 321) C.x C.b dL_law_316 (by decide) (fun c_316 => ?_) (fun c_316 => absurd (lg_cmp_self _) c_316)
    refine lv_goto (tgt := 1596) C.x C.b dL_law_321 (by decide) ?_
    exact kk z2 S2 c2 L2 _ _ _ hLI hw (lv_sub hl [2, 3, 4, 5, 6] rfl)

theorem k_run {p : Program} {l : Launch} {e : Env} {s : State} {m : MethodId} {args : Array Value} {below : List Frame} {meth : Method} {c : Code} {H : Heap} {locs : List Loc} {cells slots : Nat} {Q : State → Prop} {ls : Array Slot} {G : zG} {N : Nat} {Λ : zLay} {z : zM} (C : zC G l p s m meth c cL_law 7 RL (some .boolean)) (hA : zPo G N Λ) (hB : zMo G N Λ) (hJl : 275 < N) (hJ : zJA G Λ 275 1) {b L : Nat} {xs : Nat → Int32} (hX : va_X b L xs s s.heap) (hbl : b < s.heap.size) (hbA : ¬ zA G b) {i : Nat} (hi : i + 4 ≤ L) (hL : L ≤ 2048) {S : aS} {cn : Nat} {Lf : Nat → aS} (h : LI z S cn Lf) (hw : zS G N Λ z s H locs) (hl : lv_has ls 7 [(0, .ref b), (1, .ref (G.h + 0)), (2, .ref (G.h + 272)), (3, .ref (G.h + 275)), (4, .int (nI i))]) (hc1 : cells + 1 ≤ 601024) (hc2 : slots + 6 ≤ 7293034)
    (kk : ∀ (z' : zM) (S' : aS) (cn' : Nat) (Lf' : Nat → aS) (H : Heap) (locs : List Loc) (ls : Array Slot), LI z' S' cn' Lf' → zS G N Λ z' s H locs → lv_has ls 7 [(0, .ref b), (1, .ref (G.h + 0)), (2, .ref (G.h + 272)), (3, .ref (G.h + 275)), (4, .int (nI i))] → W p l e room_1 s m args below meth c H locs (cells + 1) (slots + 6) Q (F0 m 1596 ls [])) : W p l e room_1 s m args below meth c H locs cells slots Q (F0 m 324 ls []) := by
  refine lv_aload_n C.x C.b dL_law_324 rfl (lv_at hl 1 rfl) ?_
  refine lv_aload_n C.x C.b dL_law_325 rfl (lv_at hl 0 rfl) ?_
  refine lv_iload C.x C.b dL_law_326 (lv_at hl 4 rfl) ?_
  refine lv_iconst (v := 1) C.x C.b dL_law_328 (by decide) ?_
  refine lv_iadd C.x C.b dL_law_329 ?_
  refine z_topi (y := nI (i + 1)) (by rw [zlit 1, nI_add]) ?_
  refine va_sld C.x C.b hX hbl hbA hw.2 (i := nI (i + 1)) (vp_in_nI (by omega) (by omega)) dL_law_330 ?_
  refine z_topi (y := xs (i + 1)) (congrArg xs (nI_clamp (by omega))) ?_
  refine lv_aload_n C.x C.b dL_law_331 rfl (lv_at hl 3 rfl) ?_
  obtain ⟨k, z1, z2, r, S2, c2, L2, ⟨hmw, hmm⟩, hsE, hLI⟩ := s_run C.O hA hB hJl hJ h (xs (i + 1))
  refine z_SW (As := [.ref (G.h + 0), .int (xs (i + 1)), .ref (G.h + 275)]) (rest := []) C hw hl hmw iwL_108 rfl rfl ⟨(Nat.le_of_ble_eq_true rfl), (Nat.le_of_ble_eq_true rfl)⟩ (Nat.le_of_ble_eq_true rfl) ⟨hc1, hc2⟩ dL_law_332 (fun H locs hw => ?_)
  refine lv_istore (lv' := [(5, .int (nI k)), (0, .ref b), (1, .ref (G.h + 0)), (2, .ref (G.h + 272)), (3, .ref (G.h + 275)), (4, .int (nI i))]) C.x C.b dL_law_335 hl (by decide) rfl (fun ls hl => ?_)
  refine lv_aload_n C.x C.b dL_law_337 rfl (lv_at hl 3 rfl) ?_
  refine lv_aload_n C.x C.b dL_law_338 rfl (lv_at hl 1 rfl) ?_
  refine lv_iload C.x C.b dL_law_339 (lv_at hl 5 rfl) ?_
  refine lv_iconst (v := 1) C.x C.b dL_law_341 (by decide) ?_
  refine lv_iadd C.x C.b dL_law_342 ?_
  refine z_topi (y := nI (i + 1)) (by rw [zlit 1, nI_add]) ?_
  refine va_sld C.x C.b hX hbl hbA hw.2 (i := nI (i + 1)) (vp_in_nI (by omega) (by omega)) dL_law_343 ?_
  refine z_topi (y := xs (i + 1)) (congrArg xs (nI_clamp (by omega))) ?_
  refine z_Vv (As := [.int (xs (i + 1))]) (rest := []) C hw hl hmm ivL_110 hB.lt (hB.at _ _) rfl rfl ⟨(Nat.le_of_ble_eq_true rfl), (Nat.le_of_ble_eq_true rfl)⟩ (Nat.le_of_ble_eq_true rfl) ⟨by show cells + 1 ≤ 601024; omega, by show slots + 6 ≤ 7293034; omega⟩ dL_law_344 (fun H locs hw => ?_)
  refine lv_istore (lv' := [(6, .int r), (5, .int (nI k)), (0, .ref b), (1, .ref (G.h + 0)), (2, .ref (G.h + 272)), (3, .ref (G.h + 275)), (4, .int (nI i))]) C.x C.b dL_law_347 hl (by decide) rfl (fun ls hl => ?_)
  refine lv_aload_n C.x C.b dL_law_349 rfl (lv_at hl 4 rfl) ?_
  refine z_Vv (As := []) (rest := []) C hw hl (m_X4_thrown C.O z2 hB hsE.2.1) ivL_97 hB.lt (hB.at _ _) rfl rfl ⟨(Nat.le_of_ble_eq_true rfl), (Nat.le_of_ble_eq_true rfl)⟩ (Nat.le_of_ble_eq_true rfl) ⟨by show cells + 1 ≤ 601024; omega, by show slots + 6 ≤ 7293034; omega⟩ dL_law_350 (fun H locs hw => ?_)
  refine lv_iload C.x C.b dL_law_353 (lv_at hl 1 rfl) ?_
  refine lv_icmp_eq (tgt := 360) C.x C.b dL_law_355 (by decide) (fun c_355 => ?_) (fun c_355 => absurd (rfl) c_355)
  refine lv_iload C.x C.b dL_law_360 (lv_at hl 1 rfl) ?_
  refine z_pc (pc2 := 362) rfl ?_
  refine lv_if_ne (tgt := 377) C.x C.b dL_law_362 (by decide) (fun c_362 => ?_) (fun c_362 => ?_)
  · refine lv_goto (tgt := 1596) C.x C.b dL_law_377 (by decide) ?_
    exact kk z2 S2 c2 L2 _ _ _ hLI hw (lv_sub hl [2, 3, 4, 5, 6] rfl)
  · refine lv_aload_n C.x C.b dL_law_365 rfl (lv_at hl 5 rfl) ?_
    refine lv_iconst (v := 0) C.x C.b dL_law_366 (by decide) ?_
    refine z_lald C hw hJl hJ ((zvin (x := 0) (by omega) (by omega))) dL_law_367 ?_
    have hk0 : k = 0 := zzero (by have := hsE.1; omega) c_362
    refine z_topl (y := r.toInt64) (hsE.2.2 hk0) ?_
    refine lv_iload C.x C.b dL_law_368 (lv_at hl 0 rfl) ?_
    refine lv_i2l C.x C.b dL_law_370 rfl ?_
    refine W.lcmp C.x C.b dL_law_371 ?_
    refine lv_if_eq (tgt := 377) C.x C.b dL_law_372 (by decide) (fun c_372 => ?_) (fun c_372 => absurd (lg_cmp_self _) c_372)
    refine lv_goto (tgt := 1596) C.x C.b dL_law_377 (by decide) ?_
    exact kk z2 S2 c2 L2 _ _ _ hLI hw (lv_sub hl [2, 3, 4, 5, 6] rfl)

theorem k_state {p : Program} {l : Launch} {e : Env} {s : State} {m : MethodId} {args : Array Value} {below : List Frame} {meth : Method} {c : Code} {H : Heap} {locs : List Loc} {cells slots : Nat} {Q : State → Prop} {ls : Array Slot} {G : zG} {N : Nat} {Λ : zLay} {z : zM} (C : zC G l p s m meth c cL_law 7 RL (some .boolean)) (hA : zPo G N Λ) (hB : zMo G N Λ) (hJl : 275 < N) (hJ : zJA G Λ 275 1) {b L : Nat} {xs : Nat → Int32} (hX : va_X b L xs s s.heap) (hbl : b < s.heap.size) (hbA : ¬ zA G b) {i : Nat} (hi : i + 4 ≤ L) (hL : L ≤ 2048) {S : aS} {cn : Nat} {Lf : Nat → aS} (h : LI z S cn Lf) (hw : zS G N Λ z s H locs) (hl : lv_has ls 7 [(0, .ref b), (1, .ref (G.h + 0)), (2, .ref (G.h + 272)), (3, .ref (G.h + 275)), (4, .int (nI i))]) (hc1 : cells + 1 ≤ 601024) (hc2 : slots + 6 ≤ 7293034)
    (kk : ∀ (z' : zM) (S' : aS) (cn' : Nat) (Lf' : Nat → aS) (H : Heap) (locs : List Loc) (ls : Array Slot), LI z' S' cn' Lf' → zS G N Λ z' s H locs → lv_has ls 7 [(0, .ref b), (1, .ref (G.h + 0)), (2, .ref (G.h + 272)), (3, .ref (G.h + 275)), (4, .int (nI i))] → W p l e room_1 s m args below meth c H locs (cells + 1) (slots + 6) Q (F0 m 1596 ls [])) : W p l e room_1 s m args below meth c H locs cells slots Q (F0 m 393 ls []) := by
  refine lv_aload_n C.x C.b dL_law_393 rfl (lv_at hl 1 rfl) ?_
  refine lv_aload_n C.x C.b dL_law_394 rfl (lv_at hl 0 rfl) ?_
  refine lv_iload C.x C.b dL_law_395 (lv_at hl 4 rfl) ?_
  refine lv_iconst (v := 1) C.x C.b dL_law_397 (by decide) ?_
  refine lv_iadd C.x C.b dL_law_398 ?_
  refine z_topi (y := nI (i + 1)) (by rw [zlit 1, nI_add]) ?_
  refine va_sld C.x C.b hX hbl hbA hw.2 (i := nI (i + 1)) (vp_in_nI (by omega) (by omega)) dL_law_399 ?_
  refine z_topi (y := xs (i + 1)) (congrArg xs (nI_clamp (by omega))) ?_
  refine lv_aload_n C.x C.b dL_law_400 rfl (lv_at hl 3 rfl) ?_
  obtain ⟨k, z1, z2, r, S2, c2, L2, ⟨hmw, hmm⟩, hsE, hLI⟩ := s_state C.O hA hB hJl hJ h (xs (i + 1))
  refine z_SW (As := [.ref (G.h + 0), .int (xs (i + 1)), .ref (G.h + 275)]) (rest := []) C hw hl hmw iwL_115 rfl rfl ⟨(Nat.le_of_ble_eq_true rfl), (Nat.le_of_ble_eq_true rfl)⟩ (Nat.le_of_ble_eq_true rfl) ⟨hc1, hc2⟩ dL_law_401 (fun H locs hw => ?_)
  refine lv_istore (lv' := [(5, .int (nI k)), (0, .ref b), (1, .ref (G.h + 0)), (2, .ref (G.h + 272)), (3, .ref (G.h + 275)), (4, .int (nI i))]) C.x C.b dL_law_404 hl (by decide) rfl (fun ls hl => ?_)
  refine lv_aload_n C.x C.b dL_law_406 rfl (lv_at hl 3 rfl) ?_
  refine lv_aload_n C.x C.b dL_law_407 rfl (lv_at hl 1 rfl) ?_
  refine lv_iload C.x C.b dL_law_408 (lv_at hl 5 rfl) ?_
  refine lv_iconst (v := 1) C.x C.b dL_law_410 (by decide) ?_
  refine lv_iadd C.x C.b dL_law_411 ?_
  refine z_topi (y := nI (i + 1)) (by rw [zlit 1, nI_add]) ?_
  refine va_sld C.x C.b hX hbl hbA hw.2 (i := nI (i + 1)) (vp_in_nI (by omega) (by omega)) dL_law_412 ?_
  refine z_topi (y := xs (i + 1)) (congrArg xs (nI_clamp (by omega))) ?_
  refine z_Vv (As := [.int (xs (i + 1))]) (rest := []) C hw hl hmm ivL_117 hB.lt (hB.at _ _) rfl rfl ⟨(Nat.le_of_ble_eq_true rfl), (Nat.le_of_ble_eq_true rfl)⟩ (Nat.le_of_ble_eq_true rfl) ⟨by show cells + 1 ≤ 601024; omega, by show slots + 6 ≤ 7293034; omega⟩ dL_law_413 (fun H locs hw => ?_)
  refine lv_istore (lv' := [(6, .int r), (5, .int (nI k)), (0, .ref b), (1, .ref (G.h + 0)), (2, .ref (G.h + 272)), (3, .ref (G.h + 275)), (4, .int (nI i))]) C.x C.b dL_law_416 hl (by decide) rfl (fun ls hl => ?_)
  refine lv_aload_n C.x C.b dL_law_418 rfl (lv_at hl 4 rfl) ?_
  refine z_Vv (As := []) (rest := []) C hw hl (m_X4_thrown C.O z2 hB hsE.2.1) ivL_97 hB.lt (hB.at _ _) rfl rfl ⟨(Nat.le_of_ble_eq_true rfl), (Nat.le_of_ble_eq_true rfl)⟩ (Nat.le_of_ble_eq_true rfl) ⟨by show cells + 1 ≤ 601024; omega, by show slots + 6 ≤ 7293034; omega⟩ dL_law_419 (fun H locs hw => ?_)
  refine lv_iload C.x C.b dL_law_422 (lv_at hl 1 rfl) ?_
  refine lv_icmp_eq (tgt := 429) C.x C.b dL_law_424 (by decide) (fun c_424 => ?_) (fun c_424 => absurd (rfl) c_424)
  refine lv_iload C.x C.b dL_law_429 (lv_at hl 1 rfl) ?_
  refine z_pc (pc2 := 431) rfl ?_
  refine lv_if_ne (tgt := 446) C.x C.b dL_law_431 (by decide) (fun c_431 => ?_) (fun c_431 => ?_)
  · refine lv_goto (tgt := 1596) C.x C.b dL_law_446 (by decide) ?_
    exact kk z2 S2 c2 L2 _ _ _ hLI hw (lv_sub hl [2, 3, 4, 5, 6] rfl)
  · refine lv_aload_n C.x C.b dL_law_434 rfl (lv_at hl 5 rfl) ?_
    refine lv_iconst (v := 0) C.x C.b dL_law_435 (by decide) ?_
    refine z_lald C hw hJl hJ ((zvin (x := 0) (by omega) (by omega))) dL_law_436 ?_
    have hk0 : k = 0 := zzero (by have := hsE.1; omega) c_431
    refine z_topl (y := r.toInt64) (hsE.2.2 hk0) ?_
    refine lv_iload C.x C.b dL_law_437 (lv_at hl 0 rfl) ?_
    refine lv_i2l C.x C.b dL_law_439 rfl ?_
    refine W.lcmp C.x C.b dL_law_440 ?_
    refine lv_if_eq (tgt := 446) C.x C.b dL_law_441 (by decide) (fun c_441 => ?_) (fun c_441 => absurd (lg_cmp_self _) c_441)
    refine lv_goto (tgt := 1596) C.x C.b dL_law_446 (by decide) ?_
    exact kk z2 S2 c2 L2 _ _ _ hLI hw (lv_sub hl [2, 3, 4, 5, 6] rfl)

theorem k_pending {p : Program} {l : Launch} {e : Env} {s : State} {m : MethodId} {args : Array Value} {below : List Frame} {meth : Method} {c : Code} {H : Heap} {locs : List Loc} {cells slots : Nat} {Q : State → Prop} {ls : Array Slot} {G : zG} {N : Nat} {Λ : zLay} {z : zM} (C : zC G l p s m meth c cL_law 7 RL (some .boolean)) (hA : zPo G N Λ) (hB : zMo G N Λ) (hJl : 275 < N) (hJ : zJA G Λ 275 1) {b L : Nat} {xs : Nat → Int32} (hX : va_X b L xs s s.heap) (hbl : b < s.heap.size) (hbA : ¬ zA G b) {i : Nat} (hi : i + 4 ≤ L) (hL : L ≤ 2048) {S : aS} {cn : Nat} {Lf : Nat → aS} (h : LI z S cn Lf) (hw : zS G N Λ z s H locs) (hl : lv_has ls 7 [(0, .ref b), (1, .ref (G.h + 0)), (2, .ref (G.h + 272)), (3, .ref (G.h + 275)), (4, .int (nI i))]) (hc1 : cells + 1 ≤ 601024) (hc2 : slots + 6 ≤ 7293034)
    (kk : ∀ (z' : zM) (S' : aS) (cn' : Nat) (Lf' : Nat → aS) (H : Heap) (locs : List Loc) (ls : Array Slot), LI z' S' cn' Lf' → zS G N Λ z' s H locs → lv_has ls 7 [(0, .ref b), (1, .ref (G.h + 0)), (2, .ref (G.h + 272)), (3, .ref (G.h + 275)), (4, .int (nI i))] → W p l e room_1 s m args below meth c H locs (cells + 1) (slots + 6) Q (F0 m 1596 ls [])) : W p l e room_1 s m args below meth c H locs cells slots Q (F0 m 533 ls []) := by
  refine lv_aload_n C.x C.b dL_law_533 rfl (lv_at hl 1 rfl) ?_
  refine lv_aload_n C.x C.b dL_law_534 rfl (lv_at hl 0 rfl) ?_
  refine lv_iload C.x C.b dL_law_535 (lv_at hl 4 rfl) ?_
  refine lv_iconst (v := 1) C.x C.b dL_law_537 (by decide) ?_
  refine lv_iadd C.x C.b dL_law_538 ?_
  refine z_topi (y := nI (i + 1)) (by rw [zlit 1, nI_add]) ?_
  refine va_sld C.x C.b hX hbl hbA hw.2 (i := nI (i + 1)) (vp_in_nI (by omega) (by omega)) dL_law_539 ?_
  refine z_topi (y := xs (i + 1)) (congrArg xs (nI_clamp (by omega))) ?_
  refine lv_aload_n C.x C.b dL_law_540 rfl (lv_at hl 3 rfl) ?_
  obtain ⟨k, z1, z2, r, S2, c2, L2, ⟨hmw, hmm⟩, hsE, hLI⟩ := s_pending C.O hA hB hJl hJ h (xs (i + 1))
  refine z_SW (As := [.ref (G.h + 0), .int (xs (i + 1)), .ref (G.h + 275)]) (rest := []) C hw hl hmw iwL_122 rfl rfl ⟨(Nat.le_of_ble_eq_true rfl), (Nat.le_of_ble_eq_true rfl)⟩ (Nat.le_of_ble_eq_true rfl) ⟨hc1, hc2⟩ dL_law_541 (fun H locs hw => ?_)
  refine lv_istore (lv' := [(5, .int (nI k)), (0, .ref b), (1, .ref (G.h + 0)), (2, .ref (G.h + 272)), (3, .ref (G.h + 275)), (4, .int (nI i))]) C.x C.b dL_law_544 hl (by decide) rfl (fun ls hl => ?_)
  refine lv_aload_n C.x C.b dL_law_546 rfl (lv_at hl 3 rfl) ?_
  refine lv_aload_n C.x C.b dL_law_547 rfl (lv_at hl 1 rfl) ?_
  refine lv_iload C.x C.b dL_law_548 (lv_at hl 5 rfl) ?_
  refine lv_iconst (v := 1) C.x C.b dL_law_550 (by decide) ?_
  refine lv_iadd C.x C.b dL_law_551 ?_
  refine z_topi (y := nI (i + 1)) (by rw [zlit 1, nI_add]) ?_
  refine va_sld C.x C.b hX hbl hbA hw.2 (i := nI (i + 1)) (vp_in_nI (by omega) (by omega)) dL_law_552 ?_
  refine z_topi (y := xs (i + 1)) (congrArg xs (nI_clamp (by omega))) ?_
  refine z_Vv (As := [.int (xs (i + 1))]) (rest := []) C hw hl hmm ivL_124 hB.lt (hB.at _ _) rfl rfl ⟨(Nat.le_of_ble_eq_true rfl), (Nat.le_of_ble_eq_true rfl)⟩ (Nat.le_of_ble_eq_true rfl) ⟨by show cells + 1 ≤ 601024; omega, by show slots + 6 ≤ 7293034; omega⟩ dL_law_553 (fun H locs hw => ?_)
  refine lv_istore (lv' := [(6, .int r), (5, .int (nI k)), (0, .ref b), (1, .ref (G.h + 0)), (2, .ref (G.h + 272)), (3, .ref (G.h + 275)), (4, .int (nI i))]) C.x C.b dL_law_556 hl (by decide) rfl (fun ls hl => ?_)
  refine lv_aload_n C.x C.b dL_law_558 rfl (lv_at hl 4 rfl) ?_
  refine z_Vv (As := []) (rest := []) C hw hl (m_X4_thrown C.O z2 hB hsE.2.1) ivL_97 hB.lt (hB.at _ _) rfl rfl ⟨(Nat.le_of_ble_eq_true rfl), (Nat.le_of_ble_eq_true rfl)⟩ (Nat.le_of_ble_eq_true rfl) ⟨by show cells + 1 ≤ 601024; omega, by show slots + 6 ≤ 7293034; omega⟩ dL_law_559 (fun H locs hw => ?_)
  refine lv_iload C.x C.b dL_law_562 (lv_at hl 1 rfl) ?_
  refine lv_icmp_eq (tgt := 569) C.x C.b dL_law_564 (by decide) (fun c_564 => ?_) (fun c_564 => absurd (rfl) c_564)
  refine lv_iload C.x C.b dL_law_569 (lv_at hl 1 rfl) ?_
  refine z_pc (pc2 := 571) rfl ?_
  refine lv_if_ne (tgt := 586) C.x C.b dL_law_571 (by decide) (fun c_571 => ?_) (fun c_571 => ?_)
  · refine lv_goto (tgt := 1596) C.x C.b dL_law_586 (by decide) ?_
    exact kk z2 S2 c2 L2 _ _ _ hLI hw (lv_sub hl [2, 3, 4, 5, 6] rfl)
  · refine lv_aload_n C.x C.b dL_law_574 rfl (lv_at hl 5 rfl) ?_
    refine lv_iconst (v := 0) C.x C.b dL_law_575 (by decide) ?_
    refine z_lald C hw hJl hJ ((zvin (x := 0) (by omega) (by omega))) dL_law_576 ?_
    have hk0 : k = 0 := zzero (by have := hsE.1; omega) c_571
    refine z_topl (y := r.toInt64) (hsE.2.2 hk0) ?_
    refine lv_iload C.x C.b dL_law_577 (lv_at hl 0 rfl) ?_
    refine lv_i2l C.x C.b dL_law_579 rfl ?_
    refine W.lcmp C.x C.b dL_law_580 ?_
    refine lv_if_eq (tgt := 586) C.x C.b dL_law_581 (by decide) (fun c_581 => ?_) (fun c_581 => absurd (lg_cmp_self _) c_581)
    refine lv_goto (tgt := 1596) C.x C.b dL_law_586 (by decide) ?_
    exact kk z2 S2 c2 L2 _ _ _ hLI hw (lv_sub hl [2, 3, 4, 5, 6] rfl)

theorem k_resend {p : Program} {l : Launch} {e : Env} {s : State} {m : MethodId} {args : Array Value} {below : List Frame} {meth : Method} {c : Code} {H : Heap} {locs : List Loc} {cells slots : Nat} {Q : State → Prop} {ls : Array Slot} {G : zG} {N : Nat} {Λ : zLay} {z : zM} (C : zC G l p s m meth c cL_law 7 RL (some .boolean)) (hA : zPo G N Λ) (hB : zMo G N Λ) (hJl : 275 < N) (hJ : zJA G Λ 275 1) {b L : Nat} {xs : Nat → Int32} (hX : va_X b L xs s s.heap) (hbl : b < s.heap.size) (hbA : ¬ zA G b) {i : Nat} (hi : i + 4 ≤ L) (hL : L ≤ 2048) {S : aS} {cn : Nat} {Lf : Nat → aS} (h : LI z S cn Lf) (hw : zS G N Λ z s H locs) (hl : lv_has ls 7 [(0, .ref b), (1, .ref (G.h + 0)), (2, .ref (G.h + 272)), (3, .ref (G.h + 275)), (4, .int (nI i))]) (hc1 : cells + 1 ≤ 601024) (hc2 : slots + 6 ≤ 7293034)
    (kk : ∀ (z' : zM) (S' : aS) (cn' : Nat) (Lf' : Nat → aS) (H : Heap) (locs : List Loc) (ls : Array Slot), LI z' S' cn' Lf' → zS G N Λ z' s H locs → lv_has ls 7 [(0, .ref b), (1, .ref (G.h + 0)), (2, .ref (G.h + 272)), (3, .ref (G.h + 275)), (4, .int (nI i))] → W p l e room_1 s m args below meth c H locs (cells + 1) (slots + 6) Q (F0 m 1596 ls [])) : W p l e room_1 s m args below meth c H locs cells slots Q (F0 m 589 ls []) := by
  refine lv_aload_n C.x C.b dL_law_589 rfl (lv_at hl 1 rfl) ?_
  refine lv_aload_n C.x C.b dL_law_590 rfl (lv_at hl 0 rfl) ?_
  refine lv_iload C.x C.b dL_law_591 (lv_at hl 4 rfl) ?_
  refine lv_iconst (v := 1) C.x C.b dL_law_593 (by decide) ?_
  refine lv_iadd C.x C.b dL_law_594 ?_
  refine z_topi (y := nI (i + 1)) (by rw [zlit 1, nI_add]) ?_
  refine va_sld C.x C.b hX hbl hbA hw.2 (i := nI (i + 1)) (vp_in_nI (by omega) (by omega)) dL_law_595 ?_
  refine z_topi (y := xs (i + 1)) (congrArg xs (nI_clamp (by omega))) ?_
  refine lv_aload_n C.x C.b dL_law_596 rfl (lv_at hl 3 rfl) ?_
  obtain ⟨k, z1, z2, r, S2, c2, L2, ⟨hmw, hmm⟩, hsE, hLI⟩ := s_resend C.O hA hB hJl hJ h (xs (i + 1))
  refine z_SW (As := [.ref (G.h + 0), .int (xs (i + 1)), .ref (G.h + 275)]) (rest := []) C hw hl hmw iwL_125 rfl rfl ⟨(Nat.le_of_ble_eq_true rfl), (Nat.le_of_ble_eq_true rfl)⟩ (Nat.le_of_ble_eq_true rfl) ⟨hc1, hc2⟩ dL_law_597 (fun H locs hw => ?_)
  refine lv_istore (lv' := [(5, .int (nI k)), (0, .ref b), (1, .ref (G.h + 0)), (2, .ref (G.h + 272)), (3, .ref (G.h + 275)), (4, .int (nI i))]) C.x C.b dL_law_600 hl (by decide) rfl (fun ls hl => ?_)
  refine lv_aload_n C.x C.b dL_law_602 rfl (lv_at hl 3 rfl) ?_
  refine lv_aload_n C.x C.b dL_law_603 rfl (lv_at hl 1 rfl) ?_
  refine lv_iload C.x C.b dL_law_604 (lv_at hl 5 rfl) ?_
  refine lv_iconst (v := 1) C.x C.b dL_law_606 (by decide) ?_
  refine lv_iadd C.x C.b dL_law_607 ?_
  refine z_topi (y := nI (i + 1)) (by rw [zlit 1, nI_add]) ?_
  refine va_sld C.x C.b hX hbl hbA hw.2 (i := nI (i + 1)) (vp_in_nI (by omega) (by omega)) dL_law_608 ?_
  refine z_topi (y := xs (i + 1)) (congrArg xs (nI_clamp (by omega))) ?_
  refine z_Vv (As := [.int (xs (i + 1))]) (rest := []) C hw hl hmm ivL_127 hB.lt (hB.at _ _) rfl rfl ⟨(Nat.le_of_ble_eq_true rfl), (Nat.le_of_ble_eq_true rfl)⟩ (Nat.le_of_ble_eq_true rfl) ⟨by show cells + 1 ≤ 601024; omega, by show slots + 6 ≤ 7293034; omega⟩ dL_law_609 (fun H locs hw => ?_)
  refine lv_istore (lv' := [(6, .int r), (5, .int (nI k)), (0, .ref b), (1, .ref (G.h + 0)), (2, .ref (G.h + 272)), (3, .ref (G.h + 275)), (4, .int (nI i))]) C.x C.b dL_law_612 hl (by decide) rfl (fun ls hl => ?_)
  refine lv_aload_n C.x C.b dL_law_614 rfl (lv_at hl 4 rfl) ?_
  refine z_Vv (As := []) (rest := []) C hw hl (m_X4_thrown C.O z2 hB hsE.2.1) ivL_97 hB.lt (hB.at _ _) rfl rfl ⟨(Nat.le_of_ble_eq_true rfl), (Nat.le_of_ble_eq_true rfl)⟩ (Nat.le_of_ble_eq_true rfl) ⟨by show cells + 1 ≤ 601024; omega, by show slots + 6 ≤ 7293034; omega⟩ dL_law_615 (fun H locs hw => ?_)
  refine lv_iload C.x C.b dL_law_618 (lv_at hl 1 rfl) ?_
  refine lv_icmp_eq (tgt := 625) C.x C.b dL_law_620 (by decide) (fun c_620 => ?_) (fun c_620 => absurd (rfl) c_620)
  refine lv_iload C.x C.b dL_law_625 (lv_at hl 1 rfl) ?_
  refine z_pc (pc2 := 627) rfl ?_
  refine lv_if_ne (tgt := 642) C.x C.b dL_law_627 (by decide) (fun c_627 => ?_) (fun c_627 => ?_)
  · refine lv_goto (tgt := 1596) C.x C.b dL_law_642 (by decide) ?_
    exact kk z2 S2 c2 L2 _ _ _ hLI hw (lv_sub hl [2, 3, 4, 5, 6] rfl)
  · refine lv_aload_n C.x C.b dL_law_630 rfl (lv_at hl 5 rfl) ?_
    refine lv_iconst (v := 0) C.x C.b dL_law_631 (by decide) ?_
    refine z_lald C hw hJl hJ ((zvin (x := 0) (by omega) (by omega))) dL_law_632 ?_
    have hk0 : k = 0 := zzero (by have := hsE.1; omega) c_627
    refine z_topl (y := r.toInt64) (hsE.2.2 hk0) ?_
    refine lv_iload C.x C.b dL_law_633 (lv_at hl 0 rfl) ?_
    refine lv_i2l C.x C.b dL_law_635 rfl ?_
    refine W.lcmp C.x C.b dL_law_636 ?_
    refine lv_if_eq (tgt := 642) C.x C.b dL_law_637 (by decide) (fun c_637 => ?_) (fun c_637 => absurd (lg_cmp_self _) c_637)
    refine lv_goto (tgt := 1596) C.x C.b dL_law_642 (by decide) ?_
    exact kk z2 S2 c2 L2 _ _ _ hLI hw (lv_sub hl [2, 3, 4, 5, 6] rfl)

theorem k_tamper {p : Program} {l : Launch} {e : Env} {s : State} {m : MethodId} {args : Array Value} {below : List Frame} {meth : Method} {c : Code} {H : Heap} {locs : List Loc} {cells slots : Nat} {Q : State → Prop} {ls : Array Slot} {G : zG} {N : Nat} {Λ : zLay} {z : zM} (C : zC G l p s m meth c cL_law 7 RL (some .boolean)) (hA : zPo G N Λ) (hB : zMo G N Λ) (hJl : 275 < N) (hJ : zJA G Λ 275 1) {b L : Nat} {xs : Nat → Int32} (hX : va_X b L xs s s.heap) (hbl : b < s.heap.size) (hbA : ¬ zA G b) {i : Nat} (hi : i + 4 ≤ L) (hL : L ≤ 2048) {S : aS} {cn : Nat} {Lf : Nat → aS} (h : LI z S cn Lf) (hw : zS G N Λ z s H locs) (hl : lv_has ls 7 [(0, .ref b), (1, .ref (G.h + 0)), (2, .ref (G.h + 272)), (3, .ref (G.h + 275)), (4, .int (nI i))]) (hc1 : cells + 1 ≤ 601024) (hc2 : slots + 6 ≤ 7293034)
    (kk : ∀ (z' : zM) (S' : aS) (cn' : Nat) (Lf' : Nat → aS) (H : Heap) (locs : List Loc) (ls : Array Slot), LI z' S' cn' Lf' → zS G N Λ z' s H locs → lv_has ls 7 [(0, .ref b), (1, .ref (G.h + 0)), (2, .ref (G.h + 272)), (3, .ref (G.h + 275)), (4, .int (nI i))] → W p l e room_1 s m args below meth c H locs (cells + 1) (slots + 6) Q (F0 m 1596 ls [])) : W p l e room_1 s m args below meth c H locs cells slots Q (F0 m 708 ls []) := by
  refine lv_aload_n C.x C.b dL_law_708 rfl (lv_at hl 1 rfl) ?_
  refine lv_aload_n C.x C.b dL_law_709 rfl (lv_at hl 0 rfl) ?_
  refine lv_iload C.x C.b dL_law_710 (lv_at hl 4 rfl) ?_
  refine lv_iconst (v := 1) C.x C.b dL_law_712 (by decide) ?_
  refine lv_iadd C.x C.b dL_law_713 ?_
  refine z_topi (y := nI (i + 1)) (by rw [zlit 1, nI_add]) ?_
  refine va_sld C.x C.b hX hbl hbA hw.2 (i := nI (i + 1)) (vp_in_nI (by omega) (by omega)) dL_law_714 ?_
  refine z_topi (y := xs (i + 1)) (congrArg xs (nI_clamp (by omega))) ?_
  refine lv_aload_n C.x C.b dL_law_715 rfl (lv_at hl 0 rfl) ?_
  refine lv_iload C.x C.b dL_law_716 (lv_at hl 4 rfl) ?_
  refine lv_iconst (v := 2) C.x C.b dL_law_718 (by decide) ?_
  refine lv_iadd C.x C.b dL_law_719 ?_
  refine z_topi (y := nI (i + 2)) (by rw [zlit 2, nI_add]) ?_
  refine va_sld C.x C.b hX hbl hbA hw.2 (i := nI (i + 2)) (vp_in_nI (by omega) (by omega)) dL_law_720 ?_
  refine z_topi (y := xs (i + 2)) (congrArg xs (nI_clamp (by omega))) ?_
  refine lv_aload_n C.x C.b dL_law_721 rfl (lv_at hl 0 rfl) ?_
  refine lv_iload C.x C.b dL_law_722 (lv_at hl 4 rfl) ?_
  refine lv_iconst (v := 3) C.x C.b dL_law_724 (by decide) ?_
  refine lv_iadd C.x C.b dL_law_725 ?_
  refine z_topi (y := nI (i + 3)) (by rw [zlit 3, nI_add]) ?_
  refine va_sld C.x C.b hX hbl hbA hw.2 (i := nI (i + 3)) (vp_in_nI (by omega) (by omega)) dL_law_726 ?_
  refine z_topi (y := xs (i + 3)) (congrArg xs (nI_clamp (by omega))) ?_
  refine lv_aload_n C.x C.b dL_law_727 rfl (lv_at hl 3 rfl) ?_
  obtain ⟨k, z1, z2, r, S2, c2, L2, ⟨hmw, hmm⟩, hsE, hLI⟩ := s_tamper C.O hA hB hJl hJ h (xs (i + 1)) (xs (i + 2)) (xs (i + 3))
  refine z_SW (As := [.ref (G.h + 0), .int (xs (i + 1)), .int (xs (i + 2)), .int (xs (i + 3)), .ref (G.h + 275)]) (rest := []) C hw hl hmw iwL_131 rfl rfl ⟨(Nat.le_of_ble_eq_true rfl), (Nat.le_of_ble_eq_true rfl)⟩ (Nat.le_of_ble_eq_true rfl) ⟨hc1, hc2⟩ dL_law_728 (fun H locs hw => ?_)
  refine lv_istore (lv' := [(5, .int (nI k)), (0, .ref b), (1, .ref (G.h + 0)), (2, .ref (G.h + 272)), (3, .ref (G.h + 275)), (4, .int (nI i))]) C.x C.b dL_law_731 hl (by decide) rfl (fun ls hl => ?_)
  refine lv_aload_n C.x C.b dL_law_733 rfl (lv_at hl 3 rfl) ?_
  refine z_pc (pc2 := 734) rfl ?_
  refine lv_aload_n C.x C.b dL_law_734 rfl (lv_at hl 1 rfl) ?_
  refine lv_iload C.x C.b dL_law_735 (lv_at hl 5 rfl) ?_
  refine lv_iconst (v := 1) C.x C.b dL_law_737 (by decide) ?_
  refine lv_iadd C.x C.b dL_law_738 ?_
  refine z_topi (y := nI (i + 1)) (by rw [zlit 1, nI_add]) ?_
  refine va_sld C.x C.b hX hbl hbA hw.2 (i := nI (i + 1)) (vp_in_nI (by omega) (by omega)) dL_law_739 ?_
  refine z_topi (y := xs (i + 1)) (congrArg xs (nI_clamp (by omega))) ?_
  refine lv_aload_n C.x C.b dL_law_740 rfl (lv_at hl 1 rfl) ?_
  refine lv_iload C.x C.b dL_law_741 (lv_at hl 5 rfl) ?_
  refine lv_iconst (v := 2) C.x C.b dL_law_743 (by decide) ?_
  refine lv_iadd C.x C.b dL_law_744 ?_
  refine z_topi (y := nI (i + 2)) (by rw [zlit 2, nI_add]) ?_
  refine va_sld C.x C.b hX hbl hbA hw.2 (i := nI (i + 2)) (vp_in_nI (by omega) (by omega)) dL_law_745 ?_
  refine z_topi (y := xs (i + 2)) (congrArg xs (nI_clamp (by omega))) ?_
  refine lv_aload_n C.x C.b dL_law_746 rfl (lv_at hl 1 rfl) ?_
  refine lv_iload C.x C.b dL_law_747 (lv_at hl 5 rfl) ?_
  refine lv_iconst (v := 3) C.x C.b dL_law_749 (by decide) ?_
  refine lv_iadd C.x C.b dL_law_750 ?_
  refine z_topi (y := nI (i + 3)) (by rw [zlit 3, nI_add]) ?_
  refine va_sld C.x C.b hX hbl hbA hw.2 (i := nI (i + 3)) (vp_in_nI (by omega) (by omega)) dL_law_751 ?_
  refine z_topi (y := xs (i + 3)) (congrArg xs (nI_clamp (by omega))) ?_
  refine z_Vv (As := [.int (xs (i + 1)), .int (xs (i + 2)), .int (xs (i + 3))]) (rest := []) C hw hl hmm ivL_134 hB.lt (hB.at _ _) rfl rfl ⟨(Nat.le_of_ble_eq_true rfl), (Nat.le_of_ble_eq_true rfl)⟩ (Nat.le_of_ble_eq_true rfl) ⟨by show cells + 1 ≤ 601024; omega, by show slots + 6 ≤ 7293034; omega⟩ dL_law_752 (fun H locs hw => ?_)
  refine lv_istore (lv' := [(6, .int r), (5, .int (nI k)), (0, .ref b), (1, .ref (G.h + 0)), (2, .ref (G.h + 272)), (3, .ref (G.h + 275)), (4, .int (nI i))]) C.x C.b dL_law_755 hl (by decide) rfl (fun ls hl => ?_)
  refine lv_aload_n C.x C.b dL_law_757 rfl (lv_at hl 4 rfl) ?_
  refine z_Vv (As := []) (rest := []) C hw hl (m_X4_thrown C.O z2 hB hsE.2.1) ivL_97 hB.lt (hB.at _ _) rfl rfl ⟨(Nat.le_of_ble_eq_true rfl), (Nat.le_of_ble_eq_true rfl)⟩ (Nat.le_of_ble_eq_true rfl) ⟨by show cells + 1 ≤ 601024; omega, by show slots + 6 ≤ 7293034; omega⟩ dL_law_758 (fun H locs hw => ?_)
  refine lv_iload C.x C.b dL_law_761 (lv_at hl 1 rfl) ?_
  refine lv_icmp_eq (tgt := 768) C.x C.b dL_law_763 (by decide) (fun c_763 => ?_) (fun c_763 => absurd (rfl) c_763)
  refine lv_iload C.x C.b dL_law_768 (lv_at hl 1 rfl) ?_
  refine z_pc (pc2 := 770) rfl ?_
  refine lv_if_ne (tgt := 785) C.x C.b dL_law_770 (by decide) (fun c_770 => ?_) (fun c_770 => ?_)
  · refine lv_goto (tgt := 1596) C.x C.b dL_law_785 (by decide) ?_
    exact kk z2 S2 c2 L2 _ _ _ hLI hw (lv_sub hl [2, 3, 4, 5, 6] rfl)
  · refine lv_aload_n C.x C.b dL_law_773 rfl (lv_at hl 5 rfl) ?_
    refine lv_iconst (v := 0) C.x C.b dL_law_774 (by decide) ?_
    refine z_lald C hw hJl hJ ((zvin (x := 0) (by omega) (by omega))) dL_law_775 ?_
    have hk0 : k = 0 := zzero (by have := hsE.1; omega) c_770
    refine z_topl (y := r.toInt64) (hsE.2.2 hk0) ?_
    refine lv_iload C.x C.b dL_law_776 (lv_at hl 0 rfl) ?_
    refine lv_i2l C.x C.b dL_law_778 rfl ?_
    refine W.lcmp C.x C.b dL_law_779 ?_
    refine lv_if_eq (tgt := 785) C.x C.b dL_law_780 (by decide) (fun c_780 => ?_) (fun c_780 => absurd (lg_cmp_self _) c_780)
    refine lv_goto (tgt := 1596) C.x C.b dL_law_785 (by decide) ?_
    exact kk z2 S2 c2 L2 _ _ _ hLI hw (lv_sub hl [2, 3, 4, 5, 6] rfl)

theorem k_cut {p : Program} {l : Launch} {e : Env} {s : State} {m : MethodId} {args : Array Value} {below : List Frame} {meth : Method} {c : Code} {H : Heap} {locs : List Loc} {cells slots : Nat} {Q : State → Prop} {ls : Array Slot} {G : zG} {N : Nat} {Λ : zLay} {z : zM} (C : zC G l p s m meth c cL_law 7 RL (some .boolean)) (hA : zPo G N Λ) (hB : zMo G N Λ) (hJl : 275 < N) (hJ : zJA G Λ 275 1) {b L : Nat} {xs : Nat → Int32} (hX : va_X b L xs s s.heap) (hbl : b < s.heap.size) (hbA : ¬ zA G b) {i : Nat} (hi : i + 4 ≤ L) (hL : L ≤ 2048) {S : aS} {cn : Nat} {Lf : Nat → aS} (h : LI z S cn Lf) (hw : zS G N Λ z s H locs) (hl : lv_has ls 7 [(0, .ref b), (1, .ref (G.h + 0)), (2, .ref (G.h + 272)), (3, .ref (G.h + 275)), (4, .int (nI i))]) (hc1 : cells + 1 ≤ 601024) (hc2 : slots + 6 ≤ 7293034)
    (kk : ∀ (z' : zM) (S' : aS) (cn' : Nat) (Lf' : Nat → aS) (H : Heap) (locs : List Loc) (ls : Array Slot), LI z' S' cn' Lf' → zS G N Λ z' s H locs → lv_has ls 7 [(0, .ref b), (1, .ref (G.h + 0)), (2, .ref (G.h + 272)), (3, .ref (G.h + 275)), (4, .int (nI i))] → W p l e room_1 s m args below meth c H locs (cells + 1) (slots + 6) Q (F0 m 1596 ls [])) : W p l e room_1 s m args below meth c H locs cells slots Q (F0 m 788 ls []) := by
  refine lv_aload_n C.x C.b dL_law_788 rfl (lv_at hl 1 rfl) ?_
  refine lv_aload_n C.x C.b dL_law_789 rfl (lv_at hl 0 rfl) ?_
  refine lv_iload C.x C.b dL_law_790 (lv_at hl 4 rfl) ?_
  refine lv_iconst (v := 1) C.x C.b dL_law_792 (by decide) ?_
  refine lv_iadd C.x C.b dL_law_793 ?_
  refine z_topi (y := nI (i + 1)) (by rw [zlit 1, nI_add]) ?_
  refine va_sld C.x C.b hX hbl hbA hw.2 (i := nI (i + 1)) (vp_in_nI (by omega) (by omega)) dL_law_794 ?_
  refine z_topi (y := xs (i + 1)) (congrArg xs (nI_clamp (by omega))) ?_
  refine lv_aload_n C.x C.b dL_law_795 rfl (lv_at hl 0 rfl) ?_
  refine lv_iload C.x C.b dL_law_796 (lv_at hl 4 rfl) ?_
  refine lv_iconst (v := 2) C.x C.b dL_law_798 (by decide) ?_
  refine lv_iadd C.x C.b dL_law_799 ?_
  refine z_topi (y := nI (i + 2)) (by rw [zlit 2, nI_add]) ?_
  refine va_sld C.x C.b hX hbl hbA hw.2 (i := nI (i + 2)) (vp_in_nI (by omega) (by omega)) dL_law_800 ?_
  refine z_topi (y := xs (i + 2)) (congrArg xs (nI_clamp (by omega))) ?_
  refine lv_aload_n C.x C.b dL_law_801 rfl (lv_at hl 3 rfl) ?_
  obtain ⟨k, z1, z2, r, S2, c2, L2, ⟨hmw, hmm⟩, hsE, hLI⟩ := s_cut C.O hA hB hJl hJ h (xs (i + 1)) (xs (i + 2))
  refine z_SW (As := [.ref (G.h + 0), .int (xs (i + 1)), .int (xs (i + 2)), .ref (G.h + 275)]) (rest := []) C hw hl hmw iwL_135 rfl rfl ⟨(Nat.le_of_ble_eq_true rfl), (Nat.le_of_ble_eq_true rfl)⟩ (Nat.le_of_ble_eq_true rfl) ⟨hc1, hc2⟩ dL_law_802 (fun H locs hw => ?_)
  refine lv_istore (lv' := [(5, .int (nI k)), (0, .ref b), (1, .ref (G.h + 0)), (2, .ref (G.h + 272)), (3, .ref (G.h + 275)), (4, .int (nI i))]) C.x C.b dL_law_805 hl (by decide) rfl (fun ls hl => ?_)
  refine lv_aload_n C.x C.b dL_law_807 rfl (lv_at hl 3 rfl) ?_
  refine lv_aload_n C.x C.b dL_law_808 rfl (lv_at hl 1 rfl) ?_
  refine lv_iload C.x C.b dL_law_809 (lv_at hl 5 rfl) ?_
  refine lv_iconst (v := 1) C.x C.b dL_law_811 (by decide) ?_
  refine lv_iadd C.x C.b dL_law_812 ?_
  refine z_topi (y := nI (i + 1)) (by rw [zlit 1, nI_add]) ?_
  refine va_sld C.x C.b hX hbl hbA hw.2 (i := nI (i + 1)) (vp_in_nI (by omega) (by omega)) dL_law_813 ?_
  refine z_topi (y := xs (i + 1)) (congrArg xs (nI_clamp (by omega))) ?_
  refine z_pc (pc2 := 814) rfl ?_
  refine lv_aload_n C.x C.b dL_law_814 rfl (lv_at hl 1 rfl) ?_
  refine lv_iload C.x C.b dL_law_815 (lv_at hl 5 rfl) ?_
  refine lv_iconst (v := 2) C.x C.b dL_law_817 (by decide) ?_
  refine lv_iadd C.x C.b dL_law_818 ?_
  refine z_topi (y := nI (i + 2)) (by rw [zlit 2, nI_add]) ?_
  refine va_sld C.x C.b hX hbl hbA hw.2 (i := nI (i + 2)) (vp_in_nI (by omega) (by omega)) dL_law_819 ?_
  refine z_topi (y := xs (i + 2)) (congrArg xs (nI_clamp (by omega))) ?_
  refine z_Vv (As := [.int (xs (i + 1)), .int (xs (i + 2))]) (rest := []) C hw hl hmm ivL_137 hB.lt (hB.at _ _) rfl rfl ⟨(Nat.le_of_ble_eq_true rfl), (Nat.le_of_ble_eq_true rfl)⟩ (Nat.le_of_ble_eq_true rfl) ⟨by show cells + 1 ≤ 601024; omega, by show slots + 6 ≤ 7293034; omega⟩ dL_law_820 (fun H locs hw => ?_)
  refine lv_istore (lv' := [(6, .int r), (5, .int (nI k)), (0, .ref b), (1, .ref (G.h + 0)), (2, .ref (G.h + 272)), (3, .ref (G.h + 275)), (4, .int (nI i))]) C.x C.b dL_law_823 hl (by decide) rfl (fun ls hl => ?_)
  refine lv_aload_n C.x C.b dL_law_825 rfl (lv_at hl 4 rfl) ?_
  refine z_Vv (As := []) (rest := []) C hw hl (m_X4_thrown C.O z2 hB hsE.2.1) ivL_97 hB.lt (hB.at _ _) rfl rfl ⟨(Nat.le_of_ble_eq_true rfl), (Nat.le_of_ble_eq_true rfl)⟩ (Nat.le_of_ble_eq_true rfl) ⟨by show cells + 1 ≤ 601024; omega, by show slots + 6 ≤ 7293034; omega⟩ dL_law_826 (fun H locs hw => ?_)
  refine lv_iload C.x C.b dL_law_829 (lv_at hl 1 rfl) ?_
  refine lv_icmp_eq (tgt := 836) C.x C.b dL_law_831 (by decide) (fun c_831 => ?_) (fun c_831 => absurd (rfl) c_831)
  refine lv_iload C.x C.b dL_law_836 (lv_at hl 1 rfl) ?_
  refine lv_if_ne (tgt := 853) C.x C.b dL_law_838 (by decide) (fun c_838 => ?_) (fun c_838 => ?_)
  · refine lv_goto (tgt := 1596) C.x C.b dL_law_853 (by decide) ?_
    exact kk z2 S2 c2 L2 _ _ _ hLI hw (lv_sub hl [2, 3, 4, 5, 6] rfl)
  · refine lv_aload_n C.x C.b dL_law_841 rfl (lv_at hl 5 rfl) ?_
    refine lv_iconst (v := 0) C.x C.b dL_law_842 (by decide) ?_
    refine z_lald C hw hJl hJ ((zvin (x := 0) (by omega) (by omega))) dL_law_843 ?_
    have hk0 : k = 0 := zzero (by have := hsE.1; omega) c_838
    refine z_topl (y := r.toInt64) (hsE.2.2 hk0) ?_
    refine lv_iload C.x C.b dL_law_844 (lv_at hl 0 rfl) ?_
    refine lv_i2l C.x C.b dL_law_846 rfl ?_
    refine W.lcmp C.x C.b dL_law_847 ?_
    refine lv_if_eq (tgt := 853) C.x C.b dL_law_848 (by decide) (fun c_848 => ?_) (fun c_848 => absurd (lg_cmp_self _) c_848)
    refine lv_goto (tgt := 1596) C.x C.b dL_law_853 (by decide) ?_
    exact kk z2 S2 c2 L2 _ _ _ hLI hw (lv_sub hl [2, 3, 4, 5, 6] rfl)

theorem k_logLength {p : Program} {l : Launch} {e : Env} {s : State} {m : MethodId} {args : Array Value} {below : List Frame} {meth : Method} {c : Code} {H : Heap} {locs : List Loc} {cells slots : Nat} {Q : State → Prop} {ls : Array Slot} {G : zG} {N : Nat} {Λ : zLay} {z : zM} (C : zC G l p s m meth c cL_law 7 RL (some .boolean)) (hA : zPo G N Λ) (hB : zMo G N Λ) (hJl : 275 < N) (hJ : zJA G Λ 275 1) {b L : Nat} {xs : Nat → Int32} (hX : va_X b L xs s s.heap) (hbl : b < s.heap.size) (hbA : ¬ zA G b) {i : Nat} (hi : i + 4 ≤ L) (hL : L ≤ 2048) {S : aS} {cn : Nat} {Lf : Nat → aS} (h : LI z S cn Lf) (hw : zS G N Λ z s H locs) (hl : lv_has ls 7 [(0, .ref b), (1, .ref (G.h + 0)), (2, .ref (G.h + 272)), (3, .ref (G.h + 275)), (4, .int (nI i))]) (hc1 : cells + 1 ≤ 601024) (hc2 : slots + 6 ≤ 7293034)
    (kk : ∀ (z' : zM) (S' : aS) (cn' : Nat) (Lf' : Nat → aS) (H : Heap) (locs : List Loc) (ls : Array Slot), LI z' S' cn' Lf' → zS G N Λ z' s H locs → lv_has ls 7 [(0, .ref b), (1, .ref (G.h + 0)), (2, .ref (G.h + 272)), (3, .ref (G.h + 275)), (4, .int (nI i))] → W p l e room_1 s m args below meth c H locs (cells + 1) (slots + 6) Q (F0 m 1596 ls [])) : W p l e room_1 s m args below meth c H locs cells slots Q (F0 m 856 ls []) := by
  refine lv_aload_n C.x C.b dL_law_856 rfl (lv_at hl 1 rfl) ?_
  refine lv_aload_n C.x C.b dL_law_857 rfl (lv_at hl 0 rfl) ?_
  refine lv_iload C.x C.b dL_law_858 (lv_at hl 4 rfl) ?_
  refine lv_iconst (v := 1) C.x C.b dL_law_860 (by decide) ?_
  refine lv_iadd C.x C.b dL_law_861 ?_
  refine z_topi (y := nI (i + 1)) (by rw [zlit 1, nI_add]) ?_
  refine va_sld C.x C.b hX hbl hbA hw.2 (i := nI (i + 1)) (vp_in_nI (by omega) (by omega)) dL_law_862 ?_
  refine z_topi (y := xs (i + 1)) (congrArg xs (nI_clamp (by omega))) ?_
  refine lv_aload_n C.x C.b dL_law_863 rfl (lv_at hl 3 rfl) ?_
  obtain ⟨k, z1, z2, r, S2, c2, L2, ⟨hmw, hmm⟩, hsE, hLI⟩ := s_logLength C.O hA hB hJl hJ h (xs (i + 1))
  refine z_SW (As := [.ref (G.h + 0), .int (xs (i + 1)), .ref (G.h + 275)]) (rest := []) C hw hl hmw iwL_138 rfl rfl ⟨(Nat.le_of_ble_eq_true rfl), (Nat.le_of_ble_eq_true rfl)⟩ (Nat.le_of_ble_eq_true rfl) ⟨hc1, hc2⟩ dL_law_864 (fun H locs hw => ?_)
  refine lv_istore (lv' := [(5, .int (nI k)), (0, .ref b), (1, .ref (G.h + 0)), (2, .ref (G.h + 272)), (3, .ref (G.h + 275)), (4, .int (nI i))]) C.x C.b dL_law_867 hl (by decide) rfl (fun ls hl => ?_)
  refine lv_aload_n C.x C.b dL_law_869 rfl (lv_at hl 3 rfl) ?_
  refine lv_aload_n C.x C.b dL_law_870 rfl (lv_at hl 1 rfl) ?_
  refine lv_iload C.x C.b dL_law_871 (lv_at hl 5 rfl) ?_
  refine lv_iconst (v := 1) C.x C.b dL_law_873 (by decide) ?_
  refine lv_iadd C.x C.b dL_law_874 ?_
  refine z_topi (y := nI (i + 1)) (by rw [zlit 1, nI_add]) ?_
  refine va_sld C.x C.b hX hbl hbA hw.2 (i := nI (i + 1)) (vp_in_nI (by omega) (by omega)) dL_law_875 ?_
  refine z_topi (y := xs (i + 1)) (congrArg xs (nI_clamp (by omega))) ?_
  refine z_Vv (As := [.int (xs (i + 1))]) (rest := []) C hw hl hmm ivL_140 hB.lt (hB.at _ _) rfl rfl ⟨(Nat.le_of_ble_eq_true rfl), (Nat.le_of_ble_eq_true rfl)⟩ (Nat.le_of_ble_eq_true rfl) ⟨by show cells + 1 ≤ 601024; omega, by show slots + 6 ≤ 7293034; omega⟩ dL_law_876 (fun H locs hw => ?_)
  refine lv_istore (lv' := [(6, .int r), (5, .int (nI k)), (0, .ref b), (1, .ref (G.h + 0)), (2, .ref (G.h + 272)), (3, .ref (G.h + 275)), (4, .int (nI i))]) C.x C.b dL_law_879 hl (by decide) rfl (fun ls hl => ?_)
  refine lv_aload_n C.x C.b dL_law_881 rfl (lv_at hl 4 rfl) ?_
  refine z_Vv (As := []) (rest := []) C hw hl (m_X4_thrown C.O z2 hB hsE.2.1) ivL_97 hB.lt (hB.at _ _) rfl rfl ⟨(Nat.le_of_ble_eq_true rfl), (Nat.le_of_ble_eq_true rfl)⟩ (Nat.le_of_ble_eq_true rfl) ⟨by show cells + 1 ≤ 601024; omega, by show slots + 6 ≤ 7293034; omega⟩ dL_law_882 (fun H locs hw => ?_)
  refine lv_iload C.x C.b dL_law_885 (lv_at hl 1 rfl) ?_
  refine lv_icmp_eq (tgt := 892) C.x C.b dL_law_887 (by decide) (fun c_887 => ?_) (fun c_887 => absurd (rfl) c_887)
  refine lv_iload C.x C.b dL_law_892 (lv_at hl 1 rfl) ?_
  refine z_pc (pc2 := 894) rfl ?_
  refine lv_if_ne (tgt := 909) C.x C.b dL_law_894 (by decide) (fun c_894 => ?_) (fun c_894 => ?_)
  · refine lv_goto (tgt := 1596) C.x C.b dL_law_909 (by decide) ?_
    exact kk z2 S2 c2 L2 _ _ _ hLI hw (lv_sub hl [2, 3, 4, 5, 6] rfl)
  · refine lv_aload_n C.x C.b dL_law_897 rfl (lv_at hl 5 rfl) ?_
    refine lv_iconst (v := 0) C.x C.b dL_law_898 (by decide) ?_
    refine z_lald C hw hJl hJ ((zvin (x := 0) (by omega) (by omega))) dL_law_899 ?_
    have hk0 : k = 0 := zzero (by have := hsE.1; omega) c_894
    refine z_topl (y := r.toInt64) (hsE.2.2 hk0) ?_
    refine lv_iload C.x C.b dL_law_900 (lv_at hl 0 rfl) ?_
    refine lv_i2l C.x C.b dL_law_902 rfl ?_
    refine W.lcmp C.x C.b dL_law_903 ?_
    refine lv_if_eq (tgt := 909) C.x C.b dL_law_904 (by decide) (fun c_904 => ?_) (fun c_904 => absurd (lg_cmp_self _) c_904)
    refine lv_goto (tgt := 1596) C.x C.b dL_law_909 (by decide) ?_
    exact kk z2 S2 c2 L2 _ _ _ hLI hw (lv_sub hl [2, 3, 4, 5, 6] rfl)

theorem k_entry {p : Program} {l : Launch} {e : Env} {s : State} {m : MethodId} {args : Array Value} {below : List Frame} {meth : Method} {c : Code} {H : Heap} {locs : List Loc} {cells slots : Nat} {Q : State → Prop} {ls : Array Slot} {G : zG} {N : Nat} {Λ : zLay} {z : zM} (C : zC G l p s m meth c cL_law 7 RL (some .boolean)) (hA : zPo G N Λ) (hB : zMo G N Λ) (hJl : 275 < N) (hJ : zJA G Λ 275 1) {b L : Nat} {xs : Nat → Int32} (hX : va_X b L xs s s.heap) (hbl : b < s.heap.size) (hbA : ¬ zA G b) {i : Nat} (hi : i + 4 ≤ L) (hL : L ≤ 2048) {S : aS} {cn : Nat} {Lf : Nat → aS} (h : LI z S cn Lf) (hw : zS G N Λ z s H locs) (hl : lv_has ls 7 [(0, .ref b), (1, .ref (G.h + 0)), (2, .ref (G.h + 272)), (3, .ref (G.h + 275)), (4, .int (nI i))]) (hc1 : cells + 1 ≤ 601024) (hc2 : slots + 6 ≤ 7293034)
    (kk : ∀ (z' : zM) (S' : aS) (cn' : Nat) (Lf' : Nat → aS) (H : Heap) (locs : List Loc) (ls : Array Slot), LI z' S' cn' Lf' → zS G N Λ z' s H locs → lv_has ls 7 [(0, .ref b), (1, .ref (G.h + 0)), (2, .ref (G.h + 272)), (3, .ref (G.h + 275)), (4, .int (nI i))] → W p l e room_1 s m args below meth c H locs (cells + 1) (slots + 6) Q (F0 m 1596 ls [])) : W p l e room_1 s m args below meth c H locs cells slots Q (F0 m 912 ls []) := by
  refine lv_aload_n C.x C.b dL_law_912 rfl (lv_at hl 1 rfl) ?_
  refine lv_aload_n C.x C.b dL_law_913 rfl (lv_at hl 0 rfl) ?_
  refine lv_iload C.x C.b dL_law_914 (lv_at hl 4 rfl) ?_
  refine lv_iconst (v := 1) C.x C.b dL_law_916 (by decide) ?_
  refine lv_iadd C.x C.b dL_law_917 ?_
  refine z_topi (y := nI (i + 1)) (by rw [zlit 1, nI_add]) ?_
  refine va_sld C.x C.b hX hbl hbA hw.2 (i := nI (i + 1)) (vp_in_nI (by omega) (by omega)) dL_law_918 ?_
  refine z_topi (y := xs (i + 1)) (congrArg xs (nI_clamp (by omega))) ?_
  refine lv_aload_n C.x C.b dL_law_919 rfl (lv_at hl 0 rfl) ?_
  refine lv_iload C.x C.b dL_law_920 (lv_at hl 4 rfl) ?_
  refine lv_iconst (v := 2) C.x C.b dL_law_922 (by decide) ?_
  refine lv_iadd C.x C.b dL_law_923 ?_
  refine z_topi (y := nI (i + 2)) (by rw [zlit 2, nI_add]) ?_
  refine va_sld C.x C.b hX hbl hbA hw.2 (i := nI (i + 2)) (vp_in_nI (by omega) (by omega)) dL_law_924 ?_
  refine z_topi (y := xs (i + 2)) (congrArg xs (nI_clamp (by omega))) ?_
  refine lv_aload_n C.x C.b dL_law_925 rfl (lv_at hl 3 rfl) ?_
  obtain ⟨k, z1, z2, r, S2, c2, L2, ⟨hmw, hmm⟩, hsE, hLI⟩ := s_entry C.O hA hB hJl hJ h (xs (i + 1)) (xs (i + 2))
  refine z_SW (As := [.ref (G.h + 0), .int (xs (i + 1)), .int (xs (i + 2)), .ref (G.h + 275)]) (rest := []) C hw hl hmw iwL_141 rfl rfl ⟨(Nat.le_of_ble_eq_true rfl), (Nat.le_of_ble_eq_true rfl)⟩ (Nat.le_of_ble_eq_true rfl) ⟨hc1, hc2⟩ dL_law_926 (fun H locs hw => ?_)
  refine lv_istore (lv' := [(5, .int (nI k)), (0, .ref b), (1, .ref (G.h + 0)), (2, .ref (G.h + 272)), (3, .ref (G.h + 275)), (4, .int (nI i))]) C.x C.b dL_law_929 hl (by decide) rfl (fun ls hl => ?_)
  refine lv_aload_n C.x C.b dL_law_931 rfl (lv_at hl 3 rfl) ?_
  refine lv_aload_n C.x C.b dL_law_932 rfl (lv_at hl 1 rfl) ?_
  refine lv_iload C.x C.b dL_law_933 (lv_at hl 5 rfl) ?_
  refine lv_iconst (v := 1) C.x C.b dL_law_935 (by decide) ?_
  refine lv_iadd C.x C.b dL_law_936 ?_
  refine z_topi (y := nI (i + 1)) (by rw [zlit 1, nI_add]) ?_
  refine va_sld C.x C.b hX hbl hbA hw.2 (i := nI (i + 1)) (vp_in_nI (by omega) (by omega)) dL_law_937 ?_
  refine z_topi (y := xs (i + 1)) (congrArg xs (nI_clamp (by omega))) ?_
  refine z_pc (pc2 := 938) rfl ?_
  refine lv_aload_n C.x C.b dL_law_938 rfl (lv_at hl 1 rfl) ?_
  refine lv_iload C.x C.b dL_law_939 (lv_at hl 5 rfl) ?_
  refine lv_iconst (v := 2) C.x C.b dL_law_941 (by decide) ?_
  refine lv_iadd C.x C.b dL_law_942 ?_
  refine z_topi (y := nI (i + 2)) (by rw [zlit 2, nI_add]) ?_
  refine va_sld C.x C.b hX hbl hbA hw.2 (i := nI (i + 2)) (vp_in_nI (by omega) (by omega)) dL_law_943 ?_
  refine z_topi (y := xs (i + 2)) (congrArg xs (nI_clamp (by omega))) ?_
  refine z_Vv (As := [.int (xs (i + 1)), .int (xs (i + 2))]) (rest := []) C hw hl hmm ivL_143 hB.lt (hB.at _ _) rfl rfl ⟨(Nat.le_of_ble_eq_true rfl), (Nat.le_of_ble_eq_true rfl)⟩ (Nat.le_of_ble_eq_true rfl) ⟨by show cells + 1 ≤ 601024; omega, by show slots + 6 ≤ 7293034; omega⟩ dL_law_944 (fun H locs hw => ?_)
  refine lv_istore (lv' := [(6, .int r), (5, .int (nI k)), (0, .ref b), (1, .ref (G.h + 0)), (2, .ref (G.h + 272)), (3, .ref (G.h + 275)), (4, .int (nI i))]) C.x C.b dL_law_947 hl (by decide) rfl (fun ls hl => ?_)
  refine lv_aload_n C.x C.b dL_law_949 rfl (lv_at hl 4 rfl) ?_
  refine z_Vv (As := []) (rest := []) C hw hl (m_X4_thrown C.O z2 hB hsE.2.1) ivL_97 hB.lt (hB.at _ _) rfl rfl ⟨(Nat.le_of_ble_eq_true rfl), (Nat.le_of_ble_eq_true rfl)⟩ (Nat.le_of_ble_eq_true rfl) ⟨by show cells + 1 ≤ 601024; omega, by show slots + 6 ≤ 7293034; omega⟩ dL_law_950 (fun H locs hw => ?_)
  refine lv_iload C.x C.b dL_law_953 (lv_at hl 1 rfl) ?_
  refine lv_icmp_eq (tgt := 960) C.x C.b dL_law_955 (by decide) (fun c_955 => ?_) (fun c_955 => absurd (rfl) c_955)
  refine lv_iload C.x C.b dL_law_960 (lv_at hl 1 rfl) ?_
  refine lv_if_ne (tgt := 977) C.x C.b dL_law_962 (by decide) (fun c_962 => ?_) (fun c_962 => ?_)
  · refine lv_goto (tgt := 1596) C.x C.b dL_law_977 (by decide) ?_
    exact kk z2 S2 c2 L2 _ _ _ hLI hw (lv_sub hl [2, 3, 4, 5, 6] rfl)
  · refine lv_aload_n C.x C.b dL_law_965 rfl (lv_at hl 5 rfl) ?_
    refine lv_iconst (v := 0) C.x C.b dL_law_966 (by decide) ?_
    refine z_lald C hw hJl hJ ((zvin (x := 0) (by omega) (by omega))) dL_law_967 ?_
    have hk0 : k = 0 := zzero (by have := hsE.1; omega) c_962
    refine z_topl (y := r.toInt64) (hsE.2.2 hk0) ?_
    refine lv_iload C.x C.b dL_law_968 (lv_at hl 0 rfl) ?_
    refine lv_i2l C.x C.b dL_law_970 rfl ?_
    refine W.lcmp C.x C.b dL_law_971 ?_
    refine lv_if_eq (tgt := 977) C.x C.b dL_law_972 (by decide) (fun c_972 => ?_) (fun c_972 => absurd (lg_cmp_self _) c_972)
    refine lv_goto (tgt := 1596) C.x C.b dL_law_977 (by decide) ?_
    exact kk z2 S2 c2 L2 _ _ _ hLI hw (lv_sub hl [2, 3, 4, 5, 6] rfl)

theorem k_chain {p : Program} {l : Launch} {e : Env} {s : State} {m : MethodId} {args : Array Value} {below : List Frame} {meth : Method} {c : Code} {H : Heap} {locs : List Loc} {cells slots : Nat} {Q : State → Prop} {ls : Array Slot} {G : zG} {N : Nat} {Λ : zLay} {z : zM} (C : zC G l p s m meth c cL_law 7 RL (some .boolean)) (hA : zPo G N Λ) (hB : zMo G N Λ) (hJl : 275 < N) (hJ : zJA G Λ 275 1) {b L : Nat} {xs : Nat → Int32} (hX : va_X b L xs s s.heap) (hbl : b < s.heap.size) (hbA : ¬ zA G b) {i : Nat} (hi : i + 4 ≤ L) (hL : L ≤ 2048) {S : aS} {cn : Nat} {Lf : Nat → aS} (h : LI z S cn Lf) (hw : zS G N Λ z s H locs) (hl : lv_has ls 7 [(0, .ref b), (1, .ref (G.h + 0)), (2, .ref (G.h + 272)), (3, .ref (G.h + 275)), (4, .int (nI i))]) (hc1 : cells + 1 ≤ 601024) (hc2 : slots + 6 ≤ 7293034)
    (kk : ∀ (z' : zM) (S' : aS) (cn' : Nat) (Lf' : Nat → aS) (H : Heap) (locs : List Loc) (ls : Array Slot), LI z' S' cn' Lf' → zS G N Λ z' s H locs → lv_has ls 7 [(0, .ref b), (1, .ref (G.h + 0)), (2, .ref (G.h + 272)), (3, .ref (G.h + 275)), (4, .int (nI i))] → W p l e room_1 s m args below meth c H locs (cells + 1) (slots + 6) Q (F0 m 1596 ls [])) : W p l e room_1 s m args below meth c H locs cells slots Q (F0 m 980 ls []) := by
  refine lv_aload_n C.x C.b dL_law_980 rfl (lv_at hl 1 rfl) ?_
  refine lv_aload_n C.x C.b dL_law_981 rfl (lv_at hl 0 rfl) ?_
  refine lv_iload C.x C.b dL_law_982 (lv_at hl 4 rfl) ?_
  refine lv_iconst (v := 1) C.x C.b dL_law_984 (by decide) ?_
  refine lv_iadd C.x C.b dL_law_985 ?_
  refine z_topi (y := nI (i + 1)) (by rw [zlit 1, nI_add]) ?_
  refine va_sld C.x C.b hX hbl hbA hw.2 (i := nI (i + 1)) (vp_in_nI (by omega) (by omega)) dL_law_986 ?_
  refine z_topi (y := xs (i + 1)) (congrArg xs (nI_clamp (by omega))) ?_
  refine lv_aload_n C.x C.b dL_law_987 rfl (lv_at hl 0 rfl) ?_
  refine lv_iload C.x C.b dL_law_988 (lv_at hl 4 rfl) ?_
  refine lv_iconst (v := 2) C.x C.b dL_law_990 (by decide) ?_
  refine lv_iadd C.x C.b dL_law_991 ?_
  refine z_topi (y := nI (i + 2)) (by rw [zlit 2, nI_add]) ?_
  refine va_sld C.x C.b hX hbl hbA hw.2 (i := nI (i + 2)) (vp_in_nI (by omega) (by omega)) dL_law_992 ?_
  refine z_topi (y := xs (i + 2)) (congrArg xs (nI_clamp (by omega))) ?_
  refine lv_aload_n C.x C.b dL_law_993 rfl (lv_at hl 3 rfl) ?_
  obtain ⟨k, z1, z2, r, S2, c2, L2, ⟨hmw, hmm⟩, hsE, hLI⟩ := s_chain C.O hA hB hJl hJ h (xs (i + 1)) (xs (i + 2))
  refine z_SW (As := [.ref (G.h + 0), .int (xs (i + 1)), .int (xs (i + 2)), .ref (G.h + 275)]) (rest := []) C hw hl hmw iwL_144 rfl rfl ⟨(Nat.le_of_ble_eq_true rfl), (Nat.le_of_ble_eq_true rfl)⟩ (Nat.le_of_ble_eq_true rfl) ⟨hc1, hc2⟩ dL_law_994 (fun H locs hw => ?_)
  refine lv_istore (lv' := [(5, .int (nI k)), (0, .ref b), (1, .ref (G.h + 0)), (2, .ref (G.h + 272)), (3, .ref (G.h + 275)), (4, .int (nI i))]) C.x C.b dL_law_997 hl (by decide) rfl (fun ls hl => ?_)
  refine lv_aload_n C.x C.b dL_law_999 rfl (lv_at hl 3 rfl) ?_
  refine lv_aload_n C.x C.b dL_law_1000 rfl (lv_at hl 1 rfl) ?_
  refine lv_iload C.x C.b dL_law_1001 (lv_at hl 5 rfl) ?_
  refine lv_iconst (v := 1) C.x C.b dL_law_1003 (by decide) ?_
  refine lv_iadd C.x C.b dL_law_1004 ?_
  refine z_topi (y := nI (i + 1)) (by rw [zlit 1, nI_add]) ?_
  refine va_sld C.x C.b hX hbl hbA hw.2 (i := nI (i + 1)) (vp_in_nI (by omega) (by omega)) dL_law_1005 ?_
  refine z_topi (y := xs (i + 1)) (congrArg xs (nI_clamp (by omega))) ?_
  refine z_pc (pc2 := 1006) rfl ?_
  refine lv_aload_n C.x C.b dL_law_1006 rfl (lv_at hl 1 rfl) ?_
  refine lv_iload C.x C.b dL_law_1007 (lv_at hl 5 rfl) ?_
  refine lv_iconst (v := 2) C.x C.b dL_law_1009 (by decide) ?_
  refine lv_iadd C.x C.b dL_law_1010 ?_
  refine z_topi (y := nI (i + 2)) (by rw [zlit 2, nI_add]) ?_
  refine va_sld C.x C.b hX hbl hbA hw.2 (i := nI (i + 2)) (vp_in_nI (by omega) (by omega)) dL_law_1011 ?_
  refine z_topi (y := xs (i + 2)) (congrArg xs (nI_clamp (by omega))) ?_
  refine z_Vv (As := [.int (xs (i + 1)), .int (xs (i + 2))]) (rest := []) C hw hl hmm ivL_146 hB.lt (hB.at _ _) rfl rfl ⟨(Nat.le_of_ble_eq_true rfl), (Nat.le_of_ble_eq_true rfl)⟩ (Nat.le_of_ble_eq_true rfl) ⟨by show cells + 1 ≤ 601024; omega, by show slots + 6 ≤ 7293034; omega⟩ dL_law_1012 (fun H locs hw => ?_)
  refine lv_istore (lv' := [(6, .int r), (5, .int (nI k)), (0, .ref b), (1, .ref (G.h + 0)), (2, .ref (G.h + 272)), (3, .ref (G.h + 275)), (4, .int (nI i))]) C.x C.b dL_law_1015 hl (by decide) rfl (fun ls hl => ?_)
  refine lv_aload_n C.x C.b dL_law_1017 rfl (lv_at hl 4 rfl) ?_
  refine z_Vv (As := []) (rest := []) C hw hl (m_X4_thrown C.O z2 hB hsE.2.1) ivL_97 hB.lt (hB.at _ _) rfl rfl ⟨(Nat.le_of_ble_eq_true rfl), (Nat.le_of_ble_eq_true rfl)⟩ (Nat.le_of_ble_eq_true rfl) ⟨by show cells + 1 ≤ 601024; omega, by show slots + 6 ≤ 7293034; omega⟩ dL_law_1018 (fun H locs hw => ?_)
  refine lv_iload C.x C.b dL_law_1021 (lv_at hl 1 rfl) ?_
  refine lv_icmp_eq (tgt := 1028) C.x C.b dL_law_1023 (by decide) (fun c_1023 => ?_) (fun c_1023 => absurd (rfl) c_1023)
  refine lv_iload C.x C.b dL_law_1028 (lv_at hl 1 rfl) ?_
  refine lv_if_ne (tgt := 1045) C.x C.b dL_law_1030 (by decide) (fun c_1030 => ?_) (fun c_1030 => ?_)
  · refine lv_goto (tgt := 1596) C.x C.b dL_law_1045 (by decide) ?_
    exact kk z2 S2 c2 L2 _ _ _ hLI hw (lv_sub hl [2, 3, 4, 5, 6] rfl)
  · refine lv_aload_n C.x C.b dL_law_1033 rfl (lv_at hl 5 rfl) ?_
    refine lv_iconst (v := 0) C.x C.b dL_law_1034 (by decide) ?_
    refine z_lald C hw hJl hJ ((zvin (x := 0) (by omega) (by omega))) dL_law_1035 ?_
    have hk0 : k = 0 := zzero (by have := hsE.1; omega) c_1030
    refine z_topl (y := r.toInt64) (hsE.2.2 hk0) ?_
    refine lv_iload C.x C.b dL_law_1036 (lv_at hl 0 rfl) ?_
    refine lv_i2l C.x C.b dL_law_1038 rfl ?_
    refine W.lcmp C.x C.b dL_law_1039 ?_
    refine lv_if_eq (tgt := 1045) C.x C.b dL_law_1040 (by decide) (fun c_1040 => ?_) (fun c_1040 => absurd (lg_cmp_self _) c_1040)
    refine lv_goto (tgt := 1596) C.x C.b dL_law_1045 (by decide) ?_
    exact kk z2 S2 c2 L2 _ _ _ hLI hw (lv_sub hl [2, 3, 4, 5, 6] rfl)

theorem k_held {p : Program} {l : Launch} {e : Env} {s : State} {m : MethodId} {args : Array Value} {below : List Frame} {meth : Method} {c : Code} {H : Heap} {locs : List Loc} {cells slots : Nat} {Q : State → Prop} {ls : Array Slot} {G : zG} {N : Nat} {Λ : zLay} {z : zM} (C : zC G l p s m meth c cL_law 7 RL (some .boolean)) (hA : zPo G N Λ) (hB : zMo G N Λ) (hJl : 275 < N) (hJ : zJA G Λ 275 1) {b L : Nat} {xs : Nat → Int32} (hX : va_X b L xs s s.heap) (hbl : b < s.heap.size) (hbA : ¬ zA G b) {i : Nat} (hi : i + 4 ≤ L) (hL : L ≤ 2048) {S : aS} {cn : Nat} {Lf : Nat → aS} (h : LI z S cn Lf) (hw : zS G N Λ z s H locs) (hl : lv_has ls 7 [(0, .ref b), (1, .ref (G.h + 0)), (2, .ref (G.h + 272)), (3, .ref (G.h + 275)), (4, .int (nI i))]) (hc1 : cells + 1 ≤ 601024) (hc2 : slots + 6 ≤ 7293034)
    (kk : ∀ (z' : zM) (S' : aS) (cn' : Nat) (Lf' : Nat → aS) (H : Heap) (locs : List Loc) (ls : Array Slot), LI z' S' cn' Lf' → zS G N Λ z' s H locs → lv_has ls 7 [(0, .ref b), (1, .ref (G.h + 0)), (2, .ref (G.h + 272)), (3, .ref (G.h + 275)), (4, .int (nI i))] → W p l e room_1 s m args below meth c H locs (cells + 1) (slots + 6) Q (F0 m 1596 ls [])) : W p l e room_1 s m args below meth c H locs cells slots Q (F0 m 1048 ls []) := by
  refine lv_aload_n C.x C.b dL_law_1048 rfl (lv_at hl 1 rfl) ?_
  refine lv_aload_n C.x C.b dL_law_1049 rfl (lv_at hl 0 rfl) ?_
  refine lv_iload C.x C.b dL_law_1050 (lv_at hl 4 rfl) ?_
  refine lv_iconst (v := 1) C.x C.b dL_law_1052 (by decide) ?_
  refine lv_iadd C.x C.b dL_law_1053 ?_
  refine z_topi (y := nI (i + 1)) (by rw [zlit 1, nI_add]) ?_
  refine va_sld C.x C.b hX hbl hbA hw.2 (i := nI (i + 1)) (vp_in_nI (by omega) (by omega)) dL_law_1054 ?_
  refine z_topi (y := xs (i + 1)) (congrArg xs (nI_clamp (by omega))) ?_
  refine lv_aload_n C.x C.b dL_law_1055 rfl (lv_at hl 3 rfl) ?_
  obtain ⟨k, z1, z2, r, S2, c2, L2, ⟨hmw, hmm⟩, hsE, hLI⟩ := s_held C.O hA hB hJl hJ h (xs (i + 1))
  refine z_SW (As := [.ref (G.h + 0), .int (xs (i + 1)), .ref (G.h + 275)]) (rest := []) C hw hl hmw iwL_147 rfl rfl ⟨(Nat.le_of_ble_eq_true rfl), (Nat.le_of_ble_eq_true rfl)⟩ (Nat.le_of_ble_eq_true rfl) ⟨hc1, hc2⟩ dL_law_1056 (fun H locs hw => ?_)
  refine lv_istore (lv' := [(5, .int (nI k)), (0, .ref b), (1, .ref (G.h + 0)), (2, .ref (G.h + 272)), (3, .ref (G.h + 275)), (4, .int (nI i))]) C.x C.b dL_law_1059 hl (by decide) rfl (fun ls hl => ?_)
  refine lv_aload_n C.x C.b dL_law_1061 rfl (lv_at hl 3 rfl) ?_
  refine lv_aload_n C.x C.b dL_law_1062 rfl (lv_at hl 1 rfl) ?_
  refine lv_iload C.x C.b dL_law_1063 (lv_at hl 5 rfl) ?_
  refine lv_iconst (v := 1) C.x C.b dL_law_1065 (by decide) ?_
  refine lv_iadd C.x C.b dL_law_1066 ?_
  refine z_topi (y := nI (i + 1)) (by rw [zlit 1, nI_add]) ?_
  refine va_sld C.x C.b hX hbl hbA hw.2 (i := nI (i + 1)) (vp_in_nI (by omega) (by omega)) dL_law_1067 ?_
  refine z_topi (y := xs (i + 1)) (congrArg xs (nI_clamp (by omega))) ?_
  refine z_Vv (As := [.int (xs (i + 1))]) (rest := []) C hw hl hmm ivL_149 hB.lt (hB.at _ _) rfl rfl ⟨(Nat.le_of_ble_eq_true rfl), (Nat.le_of_ble_eq_true rfl)⟩ (Nat.le_of_ble_eq_true rfl) ⟨by show cells + 1 ≤ 601024; omega, by show slots + 6 ≤ 7293034; omega⟩ dL_law_1068 (fun H locs hw => ?_)
  refine lv_istore (lv' := [(6, .int r), (5, .int (nI k)), (0, .ref b), (1, .ref (G.h + 0)), (2, .ref (G.h + 272)), (3, .ref (G.h + 275)), (4, .int (nI i))]) C.x C.b dL_law_1071 hl (by decide) rfl (fun ls hl => ?_)
  refine lv_aload_n C.x C.b dL_law_1073 rfl (lv_at hl 4 rfl) ?_
  refine z_Vv (As := []) (rest := []) C hw hl (m_X4_thrown C.O z2 hB hsE.2.1) ivL_97 hB.lt (hB.at _ _) rfl rfl ⟨(Nat.le_of_ble_eq_true rfl), (Nat.le_of_ble_eq_true rfl)⟩ (Nat.le_of_ble_eq_true rfl) ⟨by show cells + 1 ≤ 601024; omega, by show slots + 6 ≤ 7293034; omega⟩ dL_law_1074 (fun H locs hw => ?_)
  refine lv_iload C.x C.b dL_law_1077 (lv_at hl 1 rfl) ?_
  refine lv_icmp_eq (tgt := 1084) C.x C.b dL_law_1079 (by decide) (fun c_1079 => ?_) (fun c_1079 => absurd (rfl) c_1079)
  refine lv_iload C.x C.b dL_law_1084 (lv_at hl 1 rfl) ?_
  refine z_pc (pc2 := 1086) rfl ?_
  refine lv_if_ne (tgt := 1101) C.x C.b dL_law_1086 (by decide) (fun c_1086 => ?_) (fun c_1086 => ?_)
  · refine lv_goto (tgt := 1596) C.x C.b dL_law_1101 (by decide) ?_
    exact kk z2 S2 c2 L2 _ _ _ hLI hw (lv_sub hl [2, 3, 4, 5, 6] rfl)
  · refine lv_aload_n C.x C.b dL_law_1089 rfl (lv_at hl 5 rfl) ?_
    refine lv_iconst (v := 0) C.x C.b dL_law_1090 (by decide) ?_
    refine z_lald C hw hJl hJ ((zvin (x := 0) (by omega) (by omega))) dL_law_1091 ?_
    have hk0 : k = 0 := zzero (by have := hsE.1; omega) c_1086
    refine z_topl (y := r.toInt64) (hsE.2.2 hk0) ?_
    refine lv_iload C.x C.b dL_law_1092 (lv_at hl 0 rfl) ?_
    refine lv_i2l C.x C.b dL_law_1094 rfl ?_
    refine W.lcmp C.x C.b dL_law_1095 ?_
    refine lv_if_eq (tgt := 1101) C.x C.b dL_law_1096 (by decide) (fun c_1096 => ?_) (fun c_1096 => absurd (lg_cmp_self _) c_1096)
    refine lv_goto (tgt := 1596) C.x C.b dL_law_1101 (by decide) ?_
    exact kk z2 S2 c2 L2 _ _ _ hLI hw (lv_sub hl [2, 3, 4, 5, 6] rfl)

theorem k_authenticator {p : Program} {l : Launch} {e : Env} {s : State} {m : MethodId} {args : Array Value} {below : List Frame} {meth : Method} {c : Code} {H : Heap} {locs : List Loc} {cells slots : Nat} {Q : State → Prop} {ls : Array Slot} {G : zG} {N : Nat} {Λ : zLay} {z : zM} (C : zC G l p s m meth c cL_law 7 RL (some .boolean)) (hA : zPo G N Λ) (hB : zMo G N Λ) (hJl : 275 < N) (hJ : zJA G Λ 275 1) {b L : Nat} {xs : Nat → Int32} (hX : va_X b L xs s s.heap) (hbl : b < s.heap.size) (hbA : ¬ zA G b) {i : Nat} (hi : i + 4 ≤ L) (hL : L ≤ 2048) {S : aS} {cn : Nat} {Lf : Nat → aS} (h : LI z S cn Lf) (hw : zS G N Λ z s H locs) (hl : lv_has ls 7 [(0, .ref b), (1, .ref (G.h + 0)), (2, .ref (G.h + 272)), (3, .ref (G.h + 275)), (4, .int (nI i))]) (hc1 : cells + 1 ≤ 601024) (hc2 : slots + 6 ≤ 7293034)
    (kk : ∀ (z' : zM) (S' : aS) (cn' : Nat) (Lf' : Nat → aS) (H : Heap) (locs : List Loc) (ls : Array Slot), LI z' S' cn' Lf' → zS G N Λ z' s H locs → lv_has ls 7 [(0, .ref b), (1, .ref (G.h + 0)), (2, .ref (G.h + 272)), (3, .ref (G.h + 275)), (4, .int (nI i))] → W p l e room_1 s m args below meth c H locs (cells + 1) (slots + 6) Q (F0 m 1596 ls [])) : W p l e room_1 s m args below meth c H locs cells slots Q (F0 m 1104 ls []) := by
  refine lv_aload_n C.x C.b dL_law_1104 rfl (lv_at hl 1 rfl) ?_
  refine lv_aload_n C.x C.b dL_law_1105 rfl (lv_at hl 0 rfl) ?_
  refine lv_iload C.x C.b dL_law_1106 (lv_at hl 4 rfl) ?_
  refine lv_iconst (v := 1) C.x C.b dL_law_1108 (by decide) ?_
  refine lv_iadd C.x C.b dL_law_1109 ?_
  refine z_topi (y := nI (i + 1)) (by rw [zlit 1, nI_add]) ?_
  refine va_sld C.x C.b hX hbl hbA hw.2 (i := nI (i + 1)) (vp_in_nI (by omega) (by omega)) dL_law_1110 ?_
  refine z_topi (y := xs (i + 1)) (congrArg xs (nI_clamp (by omega))) ?_
  refine lv_aload_n C.x C.b dL_law_1111 rfl (lv_at hl 0 rfl) ?_
  refine lv_iload C.x C.b dL_law_1112 (lv_at hl 4 rfl) ?_
  refine lv_iconst (v := 2) C.x C.b dL_law_1114 (by decide) ?_
  refine lv_iadd C.x C.b dL_law_1115 ?_
  refine z_topi (y := nI (i + 2)) (by rw [zlit 2, nI_add]) ?_
  refine va_sld C.x C.b hX hbl hbA hw.2 (i := nI (i + 2)) (vp_in_nI (by omega) (by omega)) dL_law_1116 ?_
  refine z_topi (y := xs (i + 2)) (congrArg xs (nI_clamp (by omega))) ?_
  refine lv_aload_n C.x C.b dL_law_1117 rfl (lv_at hl 0 rfl) ?_
  refine lv_iload C.x C.b dL_law_1118 (lv_at hl 4 rfl) ?_
  refine lv_iconst (v := 3) C.x C.b dL_law_1120 (by decide) ?_
  refine lv_iadd C.x C.b dL_law_1121 ?_
  refine z_topi (y := nI (i + 3)) (by rw [zlit 3, nI_add]) ?_
  refine va_sld C.x C.b hX hbl hbA hw.2 (i := nI (i + 3)) (vp_in_nI (by omega) (by omega)) dL_law_1122 ?_
  refine z_topi (y := xs (i + 3)) (congrArg xs (nI_clamp (by omega))) ?_
  refine lv_aload_n C.x C.b dL_law_1123 rfl (lv_at hl 3 rfl) ?_
  obtain ⟨k, z1, z2, r, S2, c2, L2, ⟨hmw, hmm⟩, hsE, hLI⟩ := s_authenticator C.O hA hB hJl hJ h (xs (i + 1)) (xs (i + 2)) (xs (i + 3))
  refine z_SW (As := [.ref (G.h + 0), .int (xs (i + 1)), .int (xs (i + 2)), .int (xs (i + 3)), .ref (G.h + 275)]) (rest := []) C hw hl hmw iwL_150 rfl rfl ⟨(Nat.le_of_ble_eq_true rfl), (Nat.le_of_ble_eq_true rfl)⟩ (Nat.le_of_ble_eq_true rfl) ⟨hc1, hc2⟩ dL_law_1124 (fun H locs hw => ?_)
  refine lv_istore (lv' := [(5, .int (nI k)), (0, .ref b), (1, .ref (G.h + 0)), (2, .ref (G.h + 272)), (3, .ref (G.h + 275)), (4, .int (nI i))]) C.x C.b dL_law_1127 hl (by decide) rfl (fun ls hl => ?_)
  refine lv_aload_n C.x C.b dL_law_1129 rfl (lv_at hl 3 rfl) ?_
  refine z_pc (pc2 := 1130) rfl ?_
  refine lv_aload_n C.x C.b dL_law_1130 rfl (lv_at hl 1 rfl) ?_
  refine lv_iload C.x C.b dL_law_1131 (lv_at hl 5 rfl) ?_
  refine lv_iconst (v := 1) C.x C.b dL_law_1133 (by decide) ?_
  refine lv_iadd C.x C.b dL_law_1134 ?_
  refine z_topi (y := nI (i + 1)) (by rw [zlit 1, nI_add]) ?_
  refine va_sld C.x C.b hX hbl hbA hw.2 (i := nI (i + 1)) (vp_in_nI (by omega) (by omega)) dL_law_1135 ?_
  refine z_topi (y := xs (i + 1)) (congrArg xs (nI_clamp (by omega))) ?_
  refine lv_aload_n C.x C.b dL_law_1136 rfl (lv_at hl 1 rfl) ?_
  refine lv_iload C.x C.b dL_law_1137 (lv_at hl 5 rfl) ?_
  refine lv_iconst (v := 2) C.x C.b dL_law_1139 (by decide) ?_
  refine lv_iadd C.x C.b dL_law_1140 ?_
  refine z_topi (y := nI (i + 2)) (by rw [zlit 2, nI_add]) ?_
  refine va_sld C.x C.b hX hbl hbA hw.2 (i := nI (i + 2)) (vp_in_nI (by omega) (by omega)) dL_law_1141 ?_
  refine z_topi (y := xs (i + 2)) (congrArg xs (nI_clamp (by omega))) ?_
  refine lv_aload_n C.x C.b dL_law_1142 rfl (lv_at hl 1 rfl) ?_
  refine lv_iload C.x C.b dL_law_1143 (lv_at hl 5 rfl) ?_
  refine lv_iconst (v := 3) C.x C.b dL_law_1145 (by decide) ?_
  refine lv_iadd C.x C.b dL_law_1146 ?_
  refine z_topi (y := nI (i + 3)) (by rw [zlit 3, nI_add]) ?_
  refine va_sld C.x C.b hX hbl hbA hw.2 (i := nI (i + 3)) (vp_in_nI (by omega) (by omega)) dL_law_1147 ?_
  refine z_topi (y := xs (i + 3)) (congrArg xs (nI_clamp (by omega))) ?_
  refine z_Vv (As := [.int (xs (i + 1)), .int (xs (i + 2)), .int (xs (i + 3))]) (rest := []) C hw hl hmm ivL_152 hB.lt (hB.at _ _) rfl rfl ⟨(Nat.le_of_ble_eq_true rfl), (Nat.le_of_ble_eq_true rfl)⟩ (Nat.le_of_ble_eq_true rfl) ⟨by show cells + 1 ≤ 601024; omega, by show slots + 6 ≤ 7293034; omega⟩ dL_law_1148 (fun H locs hw => ?_)
  refine lv_istore (lv' := [(6, .int r), (5, .int (nI k)), (0, .ref b), (1, .ref (G.h + 0)), (2, .ref (G.h + 272)), (3, .ref (G.h + 275)), (4, .int (nI i))]) C.x C.b dL_law_1151 hl (by decide) rfl (fun ls hl => ?_)
  refine lv_aload_n C.x C.b dL_law_1153 rfl (lv_at hl 4 rfl) ?_
  refine z_Vv (As := []) (rest := []) C hw hl (m_X4_thrown C.O z2 hB hsE.2.1) ivL_97 hB.lt (hB.at _ _) rfl rfl ⟨(Nat.le_of_ble_eq_true rfl), (Nat.le_of_ble_eq_true rfl)⟩ (Nat.le_of_ble_eq_true rfl) ⟨by show cells + 1 ≤ 601024; omega, by show slots + 6 ≤ 7293034; omega⟩ dL_law_1154 (fun H locs hw => ?_)
  refine lv_iload C.x C.b dL_law_1157 (lv_at hl 1 rfl) ?_
  refine lv_icmp_eq (tgt := 1164) C.x C.b dL_law_1159 (by decide) (fun c_1159 => ?_) (fun c_1159 => absurd (rfl) c_1159)
  refine lv_iload C.x C.b dL_law_1164 (lv_at hl 1 rfl) ?_
  refine z_pc (pc2 := 1166) rfl ?_
  refine lv_if_ne (tgt := 1181) C.x C.b dL_law_1166 (by decide) (fun c_1166 => ?_) (fun c_1166 => ?_)
  · refine lv_goto (tgt := 1596) C.x C.b dL_law_1181 (by decide) ?_
    exact kk z2 S2 c2 L2 _ _ _ hLI hw (lv_sub hl [2, 3, 4, 5, 6] rfl)
  · refine lv_aload_n C.x C.b dL_law_1169 rfl (lv_at hl 5 rfl) ?_
    refine lv_iconst (v := 0) C.x C.b dL_law_1170 (by decide) ?_
    refine z_lald C hw hJl hJ ((zvin (x := 0) (by omega) (by omega))) dL_law_1171 ?_
    have hk0 : k = 0 := zzero (by have := hsE.1; omega) c_1166
    refine z_topl (y := r.toInt64) (hsE.2.2 hk0) ?_
    refine lv_iload C.x C.b dL_law_1172 (lv_at hl 0 rfl) ?_
    refine lv_i2l C.x C.b dL_law_1174 rfl ?_
    refine W.lcmp C.x C.b dL_law_1175 ?_
    refine lv_if_eq (tgt := 1181) C.x C.b dL_law_1176 (by decide) (fun c_1176 => ?_) (fun c_1176 => absurd (lg_cmp_self _) c_1176)
    refine lv_goto (tgt := 1596) C.x C.b dL_law_1181 (by decide) ?_
    exact kk z2 S2 c2 L2 _ _ _ hLI hw (lv_sub hl [2, 3, 4, 5, 6] rfl)

theorem k_setWitnesses {p : Program} {l : Launch} {e : Env} {s : State} {m : MethodId} {args : Array Value} {below : List Frame} {meth : Method} {c : Code} {H : Heap} {locs : List Loc} {cells slots : Nat} {Q : State → Prop} {ls : Array Slot} {G : zG} {N : Nat} {Λ : zLay} {z : zM} (C : zC G l p s m meth c cL_law 7 RL (some .boolean)) (hA : zPo G N Λ) (hB : zMo G N Λ) (hJl : 275 < N) (hJ : zJA G Λ 275 1) {b L : Nat} {xs : Nat → Int32} (hX : va_X b L xs s s.heap) (hbl : b < s.heap.size) (hbA : ¬ zA G b) {i : Nat} (hi : i + 4 ≤ L) (hL : L ≤ 2048) {S : aS} {cn : Nat} {Lf : Nat → aS} (h : LI z S cn Lf) (hw : zS G N Λ z s H locs) (hl : lv_has ls 7 [(0, .ref b), (1, .ref (G.h + 0)), (2, .ref (G.h + 272)), (3, .ref (G.h + 275)), (4, .int (nI i))]) (hc1 : cells + 1 ≤ 601024) (hc2 : slots + 6 ≤ 7293034)
    (kk : ∀ (z' : zM) (S' : aS) (cn' : Nat) (Lf' : Nat → aS) (H : Heap) (locs : List Loc) (ls : Array Slot), LI z' S' cn' Lf' → zS G N Λ z' s H locs → lv_has ls 7 [(0, .ref b), (1, .ref (G.h + 0)), (2, .ref (G.h + 272)), (3, .ref (G.h + 275)), (4, .int (nI i))] → W p l e room_1 s m args below meth c H locs (cells + 1) (slots + 6) Q (F0 m 1596 ls [])) : W p l e room_1 s m args below meth c H locs cells slots Q (F0 m 1184 ls []) := by
  refine lv_aload_n C.x C.b dL_law_1184 rfl (lv_at hl 1 rfl) ?_
  refine lv_aload_n C.x C.b dL_law_1185 rfl (lv_at hl 0 rfl) ?_
  refine lv_iload C.x C.b dL_law_1186 (lv_at hl 4 rfl) ?_
  refine lv_iconst (v := 1) C.x C.b dL_law_1188 (by decide) ?_
  refine lv_iadd C.x C.b dL_law_1189 ?_
  refine z_topi (y := nI (i + 1)) (by rw [zlit 1, nI_add]) ?_
  refine va_sld C.x C.b hX hbl hbA hw.2 (i := nI (i + 1)) (vp_in_nI (by omega) (by omega)) dL_law_1190 ?_
  refine z_topi (y := xs (i + 1)) (congrArg xs (nI_clamp (by omega))) ?_
  refine lv_aload_n C.x C.b dL_law_1191 rfl (lv_at hl 0 rfl) ?_
  refine lv_iload C.x C.b dL_law_1192 (lv_at hl 4 rfl) ?_
  refine lv_iconst (v := 2) C.x C.b dL_law_1194 (by decide) ?_
  refine lv_iadd C.x C.b dL_law_1195 ?_
  refine z_topi (y := nI (i + 2)) (by rw [zlit 2, nI_add]) ?_
  refine va_sld C.x C.b hX hbl hbA hw.2 (i := nI (i + 2)) (vp_in_nI (by omega) (by omega)) dL_law_1196 ?_
  refine z_topi (y := xs (i + 2)) (congrArg xs (nI_clamp (by omega))) ?_
  refine lv_aload_n C.x C.b dL_law_1197 rfl (lv_at hl 3 rfl) ?_
  obtain ⟨k, z1, z2, r, S2, c2, L2, ⟨hmw, hmm⟩, hsE, hLI⟩ := s_setWitnesses C.O hA hB hJl hJ h (xs (i + 1)) (xs (i + 2))
  refine z_SW (As := [.ref (G.h + 0), .int (xs (i + 1)), .int (xs (i + 2)), .ref (G.h + 275)]) (rest := []) C hw hl hmw iwL_153 rfl rfl ⟨(Nat.le_of_ble_eq_true rfl), (Nat.le_of_ble_eq_true rfl)⟩ (Nat.le_of_ble_eq_true rfl) ⟨hc1, hc2⟩ dL_law_1198 (fun H locs hw => ?_)
  refine lv_istore (lv' := [(5, .int (nI k)), (0, .ref b), (1, .ref (G.h + 0)), (2, .ref (G.h + 272)), (3, .ref (G.h + 275)), (4, .int (nI i))]) C.x C.b dL_law_1201 hl (by decide) rfl (fun ls hl => ?_)
  refine lv_aload_n C.x C.b dL_law_1203 rfl (lv_at hl 3 rfl) ?_
  refine lv_aload_n C.x C.b dL_law_1204 rfl (lv_at hl 1 rfl) ?_
  refine lv_iload C.x C.b dL_law_1205 (lv_at hl 5 rfl) ?_
  refine lv_iconst (v := 1) C.x C.b dL_law_1207 (by decide) ?_
  refine lv_iadd C.x C.b dL_law_1208 ?_
  refine z_topi (y := nI (i + 1)) (by rw [zlit 1, nI_add]) ?_
  refine va_sld C.x C.b hX hbl hbA hw.2 (i := nI (i + 1)) (vp_in_nI (by omega) (by omega)) dL_law_1209 ?_
  refine z_topi (y := xs (i + 1)) (congrArg xs (nI_clamp (by omega))) ?_
  refine z_pc (pc2 := 1210) rfl ?_
  refine lv_aload_n C.x C.b dL_law_1210 rfl (lv_at hl 1 rfl) ?_
  refine lv_iload C.x C.b dL_law_1211 (lv_at hl 5 rfl) ?_
  refine lv_iconst (v := 2) C.x C.b dL_law_1213 (by decide) ?_
  refine lv_iadd C.x C.b dL_law_1214 ?_
  refine z_topi (y := nI (i + 2)) (by rw [zlit 2, nI_add]) ?_
  refine va_sld C.x C.b hX hbl hbA hw.2 (i := nI (i + 2)) (vp_in_nI (by omega) (by omega)) dL_law_1215 ?_
  refine z_topi (y := xs (i + 2)) (congrArg xs (nI_clamp (by omega))) ?_
  refine z_Vv (As := [.int (xs (i + 1)), .int (xs (i + 2))]) (rest := []) C hw hl hmm ivL_155 hB.lt (hB.at _ _) rfl rfl ⟨(Nat.le_of_ble_eq_true rfl), (Nat.le_of_ble_eq_true rfl)⟩ (Nat.le_of_ble_eq_true rfl) ⟨by show cells + 1 ≤ 601024; omega, by show slots + 6 ≤ 7293034; omega⟩ dL_law_1216 (fun H locs hw => ?_)
  refine lv_istore (lv' := [(6, .int r), (5, .int (nI k)), (0, .ref b), (1, .ref (G.h + 0)), (2, .ref (G.h + 272)), (3, .ref (G.h + 275)), (4, .int (nI i))]) C.x C.b dL_law_1219 hl (by decide) rfl (fun ls hl => ?_)
  refine lv_aload_n C.x C.b dL_law_1221 rfl (lv_at hl 4 rfl) ?_
  refine z_Vv (As := []) (rest := []) C hw hl (m_X4_thrown C.O z2 hB hsE.2.1) ivL_97 hB.lt (hB.at _ _) rfl rfl ⟨(Nat.le_of_ble_eq_true rfl), (Nat.le_of_ble_eq_true rfl)⟩ (Nat.le_of_ble_eq_true rfl) ⟨by show cells + 1 ≤ 601024; omega, by show slots + 6 ≤ 7293034; omega⟩ dL_law_1222 (fun H locs hw => ?_)
  refine lv_iload C.x C.b dL_law_1225 (lv_at hl 1 rfl) ?_
  refine lv_icmp_eq (tgt := 1232) C.x C.b dL_law_1227 (by decide) (fun c_1227 => ?_) (fun c_1227 => absurd (rfl) c_1227)
  refine lv_iload C.x C.b dL_law_1232 (lv_at hl 1 rfl) ?_
  refine lv_if_ne (tgt := 1249) C.x C.b dL_law_1234 (by decide) (fun c_1234 => ?_) (fun c_1234 => ?_)
  · refine lv_goto (tgt := 1596) C.x C.b dL_law_1249 (by decide) ?_
    exact kk z2 S2 c2 L2 _ _ _ hLI hw (lv_sub hl [2, 3, 4, 5, 6] rfl)
  · refine lv_aload_n C.x C.b dL_law_1237 rfl (lv_at hl 5 rfl) ?_
    refine lv_iconst (v := 0) C.x C.b dL_law_1238 (by decide) ?_
    refine z_lald C hw hJl hJ ((zvin (x := 0) (by omega) (by omega))) dL_law_1239 ?_
    have hk0 : k = 0 := zzero (by have := hsE.1; omega) c_1234
    refine z_topl (y := r.toInt64) (hsE.2.2 hk0) ?_
    refine lv_iload C.x C.b dL_law_1240 (lv_at hl 0 rfl) ?_
    refine lv_i2l C.x C.b dL_law_1242 rfl ?_
    refine W.lcmp C.x C.b dL_law_1243 ?_
    refine lv_if_eq (tgt := 1249) C.x C.b dL_law_1244 (by decide) (fun c_1244 => ?_) (fun c_1244 => absurd (lg_cmp_self _) c_1244)
    refine lv_goto (tgt := 1596) C.x C.b dL_law_1249 (by decide) ?_
    exact kk z2 S2 c2 L2 _ _ _ hLI hw (lv_sub hl [2, 3, 4, 5, 6] rfl)

theorem k_audit {p : Program} {l : Launch} {e : Env} {s : State} {m : MethodId} {args : Array Value} {below : List Frame} {meth : Method} {c : Code} {H : Heap} {locs : List Loc} {cells slots : Nat} {Q : State → Prop} {ls : Array Slot} {G : zG} {N : Nat} {Λ : zLay} {z : zM} (C : zC G l p s m meth c cL_law 7 RL (some .boolean)) (hA : zPo G N Λ) (hB : zMo G N Λ) (hJl : 275 < N) (hJ : zJA G Λ 275 1) {b L : Nat} {xs : Nat → Int32} (hX : va_X b L xs s s.heap) (hbl : b < s.heap.size) (hbA : ¬ zA G b) {i : Nat} (hi : i + 4 ≤ L) (hL : L ≤ 2048) {S : aS} {cn : Nat} {Lf : Nat → aS} (h : LI z S cn Lf) (hw : zS G N Λ z s H locs) (hl : lv_has ls 7 [(0, .ref b), (1, .ref (G.h + 0)), (2, .ref (G.h + 272)), (3, .ref (G.h + 275)), (4, .int (nI i))]) (hc1 : cells + 1 ≤ 601024) (hc2 : slots + 6 ≤ 7293034)
    (kk : ∀ (z' : zM) (S' : aS) (cn' : Nat) (Lf' : Nat → aS) (H : Heap) (locs : List Loc) (ls : Array Slot), LI z' S' cn' Lf' → zS G N Λ z' s H locs → lv_has ls 7 [(0, .ref b), (1, .ref (G.h + 0)), (2, .ref (G.h + 272)), (3, .ref (G.h + 275)), (4, .int (nI i))] → W p l e room_1 s m args below meth c H locs (cells + 1) (slots + 6) Q (F0 m 1596 ls [])) : W p l e room_1 s m args below meth c H locs cells slots Q (F0 m 1252 ls []) := by
  refine lv_aload_n C.x C.b dL_law_1252 rfl (lv_at hl 1 rfl) ?_
  refine lv_aload_n C.x C.b dL_law_1253 rfl (lv_at hl 0 rfl) ?_
  refine lv_iload C.x C.b dL_law_1254 (lv_at hl 4 rfl) ?_
  refine lv_iconst (v := 1) C.x C.b dL_law_1256 (by decide) ?_
  refine lv_iadd C.x C.b dL_law_1257 ?_
  refine z_topi (y := nI (i + 1)) (by rw [zlit 1, nI_add]) ?_
  refine va_sld C.x C.b hX hbl hbA hw.2 (i := nI (i + 1)) (vp_in_nI (by omega) (by omega)) dL_law_1258 ?_
  refine z_topi (y := xs (i + 1)) (congrArg xs (nI_clamp (by omega))) ?_
  refine lv_aload_n C.x C.b dL_law_1259 rfl (lv_at hl 0 rfl) ?_
  refine lv_iload C.x C.b dL_law_1260 (lv_at hl 4 rfl) ?_
  refine lv_iconst (v := 2) C.x C.b dL_law_1262 (by decide) ?_
  refine lv_iadd C.x C.b dL_law_1263 ?_
  refine z_topi (y := nI (i + 2)) (by rw [zlit 2, nI_add]) ?_
  refine va_sld C.x C.b hX hbl hbA hw.2 (i := nI (i + 2)) (vp_in_nI (by omega) (by omega)) dL_law_1264 ?_
  refine z_topi (y := xs (i + 2)) (congrArg xs (nI_clamp (by omega))) ?_
  refine lv_aload_n C.x C.b dL_law_1265 rfl (lv_at hl 3 rfl) ?_
  obtain ⟨k, z1, z2, r, S2, c2, L2, ⟨hmw, hmm⟩, hsE, hLI⟩ := s_audit C.O hA hB hJl hJ h (xs (i + 1)) (xs (i + 2))
  refine z_SW (As := [.ref (G.h + 0), .int (xs (i + 1)), .int (xs (i + 2)), .ref (G.h + 275)]) (rest := []) C hw hl hmw iwL_156 rfl rfl ⟨(Nat.le_of_ble_eq_true rfl), (Nat.le_of_ble_eq_true rfl)⟩ (Nat.le_of_ble_eq_true rfl) ⟨hc1, hc2⟩ dL_law_1266 (fun H locs hw => ?_)
  refine lv_istore (lv' := [(5, .int (nI k)), (0, .ref b), (1, .ref (G.h + 0)), (2, .ref (G.h + 272)), (3, .ref (G.h + 275)), (4, .int (nI i))]) C.x C.b dL_law_1269 hl (by decide) rfl (fun ls hl => ?_)
  refine lv_aload_n C.x C.b dL_law_1271 rfl (lv_at hl 3 rfl) ?_
  refine lv_aload_n C.x C.b dL_law_1272 rfl (lv_at hl 1 rfl) ?_
  refine lv_iload C.x C.b dL_law_1273 (lv_at hl 5 rfl) ?_
  refine lv_iconst (v := 1) C.x C.b dL_law_1275 (by decide) ?_
  refine lv_iadd C.x C.b dL_law_1276 ?_
  refine z_topi (y := nI (i + 1)) (by rw [zlit 1, nI_add]) ?_
  refine va_sld C.x C.b hX hbl hbA hw.2 (i := nI (i + 1)) (vp_in_nI (by omega) (by omega)) dL_law_1277 ?_
  refine z_topi (y := xs (i + 1)) (congrArg xs (nI_clamp (by omega))) ?_
  refine z_pc (pc2 := 1278) rfl ?_
  refine lv_aload_n C.x C.b dL_law_1278 rfl (lv_at hl 1 rfl) ?_
  refine lv_iload C.x C.b dL_law_1279 (lv_at hl 5 rfl) ?_
  refine lv_iconst (v := 2) C.x C.b dL_law_1281 (by decide) ?_
  refine lv_iadd C.x C.b dL_law_1282 ?_
  refine z_topi (y := nI (i + 2)) (by rw [zlit 2, nI_add]) ?_
  refine va_sld C.x C.b hX hbl hbA hw.2 (i := nI (i + 2)) (vp_in_nI (by omega) (by omega)) dL_law_1283 ?_
  refine z_topi (y := xs (i + 2)) (congrArg xs (nI_clamp (by omega))) ?_
  refine z_Vv (As := [.int (xs (i + 1)), .int (xs (i + 2))]) (rest := []) C hw hl hmm ivL_158 hB.lt (hB.at _ _) rfl rfl ⟨(Nat.le_of_ble_eq_true rfl), (Nat.le_of_ble_eq_true rfl)⟩ (Nat.le_of_ble_eq_true rfl) ⟨by show cells + 1 ≤ 601024; omega, by show slots + 6 ≤ 7293034; omega⟩ dL_law_1284 (fun H locs hw => ?_)
  refine lv_istore (lv' := [(6, .int r), (5, .int (nI k)), (0, .ref b), (1, .ref (G.h + 0)), (2, .ref (G.h + 272)), (3, .ref (G.h + 275)), (4, .int (nI i))]) C.x C.b dL_law_1287 hl (by decide) rfl (fun ls hl => ?_)
  refine lv_aload_n C.x C.b dL_law_1289 rfl (lv_at hl 4 rfl) ?_
  refine z_Vv (As := []) (rest := []) C hw hl (m_X4_thrown C.O z2 hB hsE.2.1) ivL_97 hB.lt (hB.at _ _) rfl rfl ⟨(Nat.le_of_ble_eq_true rfl), (Nat.le_of_ble_eq_true rfl)⟩ (Nat.le_of_ble_eq_true rfl) ⟨by show cells + 1 ≤ 601024; omega, by show slots + 6 ≤ 7293034; omega⟩ dL_law_1290 (fun H locs hw => ?_)
  refine lv_iload C.x C.b dL_law_1293 (lv_at hl 1 rfl) ?_
  refine lv_icmp_eq (tgt := 1300) C.x C.b dL_law_1295 (by decide) (fun c_1295 => ?_) (fun c_1295 => absurd (rfl) c_1295)
  refine lv_iload C.x C.b dL_law_1300 (lv_at hl 1 rfl) ?_
  refine lv_if_ne (tgt := 1317) C.x C.b dL_law_1302 (by decide) (fun c_1302 => ?_) (fun c_1302 => ?_)
  · refine lv_goto (tgt := 1596) C.x C.b dL_law_1317 (by decide) ?_
    exact kk z2 S2 c2 L2 _ _ _ hLI hw (lv_sub hl [2, 3, 4, 5, 6] rfl)
  · refine lv_aload_n C.x C.b dL_law_1305 rfl (lv_at hl 5 rfl) ?_
    refine lv_iconst (v := 0) C.x C.b dL_law_1306 (by decide) ?_
    refine z_lald C hw hJl hJ ((zvin (x := 0) (by omega) (by omega))) dL_law_1307 ?_
    have hk0 : k = 0 := zzero (by have := hsE.1; omega) c_1302
    refine z_topl (y := r.toInt64) (hsE.2.2 hk0) ?_
    refine lv_iload C.x C.b dL_law_1308 (lv_at hl 0 rfl) ?_
    refine lv_i2l C.x C.b dL_law_1310 rfl ?_
    refine W.lcmp C.x C.b dL_law_1311 ?_
    refine lv_if_eq (tgt := 1317) C.x C.b dL_law_1312 (by decide) (fun c_1312 => ?_) (fun c_1312 => absurd (lg_cmp_self _) c_1312)
    refine lv_goto (tgt := 1596) C.x C.b dL_law_1317 (by decide) ?_
    exact kk z2 S2 c2 L2 _ _ _ hLI hw (lv_sub hl [2, 3, 4, 5, 6] rfl)

theorem k_verdict {p : Program} {l : Launch} {e : Env} {s : State} {m : MethodId} {args : Array Value} {below : List Frame} {meth : Method} {c : Code} {H : Heap} {locs : List Loc} {cells slots : Nat} {Q : State → Prop} {ls : Array Slot} {G : zG} {N : Nat} {Λ : zLay} {z : zM} (C : zC G l p s m meth c cL_law 7 RL (some .boolean)) (hA : zPo G N Λ) (hB : zMo G N Λ) (hJl : 275 < N) (hJ : zJA G Λ 275 1) {b L : Nat} {xs : Nat → Int32} (hX : va_X b L xs s s.heap) (hbl : b < s.heap.size) (hbA : ¬ zA G b) {i : Nat} (hi : i + 4 ≤ L) (hL : L ≤ 2048) {S : aS} {cn : Nat} {Lf : Nat → aS} (h : LI z S cn Lf) (hw : zS G N Λ z s H locs) (hl : lv_has ls 7 [(0, .ref b), (1, .ref (G.h + 0)), (2, .ref (G.h + 272)), (3, .ref (G.h + 275)), (4, .int (nI i))]) (hc1 : cells + 1 ≤ 601024) (hc2 : slots + 6 ≤ 7293034)
    (kk : ∀ (z' : zM) (S' : aS) (cn' : Nat) (Lf' : Nat → aS) (H : Heap) (locs : List Loc) (ls : Array Slot), LI z' S' cn' Lf' → zS G N Λ z' s H locs → lv_has ls 7 [(0, .ref b), (1, .ref (G.h + 0)), (2, .ref (G.h + 272)), (3, .ref (G.h + 275)), (4, .int (nI i))] → W p l e room_1 s m args below meth c H locs (cells + 1) (slots + 6) Q (F0 m 1596 ls [])) : W p l e room_1 s m args below meth c H locs cells slots Q (F0 m 1333 ls []) := by
  refine lv_aload_n C.x C.b dL_law_1333 rfl (lv_at hl 1 rfl) ?_
  refine lv_aload_n C.x C.b dL_law_1334 rfl (lv_at hl 0 rfl) ?_
  refine lv_iload C.x C.b dL_law_1335 (lv_at hl 4 rfl) ?_
  refine lv_iconst (v := 1) C.x C.b dL_law_1337 (by decide) ?_
  refine lv_iadd C.x C.b dL_law_1338 ?_
  refine z_topi (y := nI (i + 1)) (by rw [zlit 1, nI_add]) ?_
  refine va_sld C.x C.b hX hbl hbA hw.2 (i := nI (i + 1)) (vp_in_nI (by omega) (by omega)) dL_law_1339 ?_
  refine z_topi (y := xs (i + 1)) (congrArg xs (nI_clamp (by omega))) ?_
  refine lv_aload_n C.x C.b dL_law_1340 rfl (lv_at hl 0 rfl) ?_
  refine lv_iload C.x C.b dL_law_1341 (lv_at hl 4 rfl) ?_
  refine lv_iconst (v := 2) C.x C.b dL_law_1343 (by decide) ?_
  refine lv_iadd C.x C.b dL_law_1344 ?_
  refine z_topi (y := nI (i + 2)) (by rw [zlit 2, nI_add]) ?_
  refine va_sld C.x C.b hX hbl hbA hw.2 (i := nI (i + 2)) (vp_in_nI (by omega) (by omega)) dL_law_1345 ?_
  refine z_topi (y := xs (i + 2)) (congrArg xs (nI_clamp (by omega))) ?_
  refine lv_aload_n C.x C.b dL_law_1346 rfl (lv_at hl 3 rfl) ?_
  obtain ⟨k, z1, z2, r, S2, c2, L2, ⟨hmw, hmm⟩, hsE, hLI⟩ := s_verdict C.O hA hB hJl hJ h (xs (i + 1)) (xs (i + 2))
  refine z_SW (As := [.ref (G.h + 0), .int (xs (i + 1)), .int (xs (i + 2)), .ref (G.h + 275)]) (rest := []) C hw hl hmw iwL_163 rfl rfl ⟨(Nat.le_of_ble_eq_true rfl), (Nat.le_of_ble_eq_true rfl)⟩ (Nat.le_of_ble_eq_true rfl) ⟨hc1, hc2⟩ dL_law_1347 (fun H locs hw => ?_)
  refine lv_istore (lv' := [(5, .int (nI k)), (0, .ref b), (1, .ref (G.h + 0)), (2, .ref (G.h + 272)), (3, .ref (G.h + 275)), (4, .int (nI i))]) C.x C.b dL_law_1350 hl (by decide) rfl (fun ls hl => ?_)
  refine lv_aload_n C.x C.b dL_law_1352 rfl (lv_at hl 3 rfl) ?_
  refine lv_aload_n C.x C.b dL_law_1353 rfl (lv_at hl 1 rfl) ?_
  refine lv_iload C.x C.b dL_law_1354 (lv_at hl 5 rfl) ?_
  refine lv_iconst (v := 1) C.x C.b dL_law_1356 (by decide) ?_
  refine lv_iadd C.x C.b dL_law_1357 ?_
  refine z_topi (y := nI (i + 1)) (by rw [zlit 1, nI_add]) ?_
  refine va_sld C.x C.b hX hbl hbA hw.2 (i := nI (i + 1)) (vp_in_nI (by omega) (by omega)) dL_law_1358 ?_
  refine z_topi (y := xs (i + 1)) (congrArg xs (nI_clamp (by omega))) ?_
  refine z_pc (pc2 := 1359) rfl ?_
  refine lv_aload_n C.x C.b dL_law_1359 rfl (lv_at hl 1 rfl) ?_
  refine lv_iload C.x C.b dL_law_1360 (lv_at hl 5 rfl) ?_
  refine lv_iconst (v := 2) C.x C.b dL_law_1362 (by decide) ?_
  refine lv_iadd C.x C.b dL_law_1363 ?_
  refine z_topi (y := nI (i + 2)) (by rw [zlit 2, nI_add]) ?_
  refine va_sld C.x C.b hX hbl hbA hw.2 (i := nI (i + 2)) (vp_in_nI (by omega) (by omega)) dL_law_1364 ?_
  refine z_topi (y := xs (i + 2)) (congrArg xs (nI_clamp (by omega))) ?_
  refine z_Vv (As := [.int (xs (i + 1)), .int (xs (i + 2))]) (rest := []) C hw hl hmm ivL_165 hB.lt (hB.at _ _) rfl rfl ⟨(Nat.le_of_ble_eq_true rfl), (Nat.le_of_ble_eq_true rfl)⟩ (Nat.le_of_ble_eq_true rfl) ⟨by show cells + 1 ≤ 601024; omega, by show slots + 6 ≤ 7293034; omega⟩ dL_law_1365 (fun H locs hw => ?_)
  refine lv_istore (lv' := [(6, .int r), (5, .int (nI k)), (0, .ref b), (1, .ref (G.h + 0)), (2, .ref (G.h + 272)), (3, .ref (G.h + 275)), (4, .int (nI i))]) C.x C.b dL_law_1368 hl (by decide) rfl (fun ls hl => ?_)
  refine lv_aload_n C.x C.b dL_law_1370 rfl (lv_at hl 4 rfl) ?_
  refine z_Vv (As := []) (rest := []) C hw hl (m_X4_thrown C.O z2 hB hsE.2.1) ivL_97 hB.lt (hB.at _ _) rfl rfl ⟨(Nat.le_of_ble_eq_true rfl), (Nat.le_of_ble_eq_true rfl)⟩ (Nat.le_of_ble_eq_true rfl) ⟨by show cells + 1 ≤ 601024; omega, by show slots + 6 ≤ 7293034; omega⟩ dL_law_1371 (fun H locs hw => ?_)
  refine lv_iload C.x C.b dL_law_1374 (lv_at hl 1 rfl) ?_
  refine lv_icmp_eq (tgt := 1381) C.x C.b dL_law_1376 (by decide) (fun c_1376 => ?_) (fun c_1376 => absurd (rfl) c_1376)
  refine lv_iload C.x C.b dL_law_1381 (lv_at hl 1 rfl) ?_
  refine lv_if_ne (tgt := 1398) C.x C.b dL_law_1383 (by decide) (fun c_1383 => ?_) (fun c_1383 => ?_)
  · refine lv_goto (tgt := 1596) C.x C.b dL_law_1398 (by decide) ?_
    exact kk z2 S2 c2 L2 _ _ _ hLI hw (lv_sub hl [2, 3, 4, 5, 6] rfl)
  · refine lv_aload_n C.x C.b dL_law_1386 rfl (lv_at hl 5 rfl) ?_
    refine lv_iconst (v := 0) C.x C.b dL_law_1387 (by decide) ?_
    refine z_lald C hw hJl hJ ((zvin (x := 0) (by omega) (by omega))) dL_law_1388 ?_
    have hk0 : k = 0 := zzero (by have := hsE.1; omega) c_1383
    refine z_topl (y := r.toInt64) (hsE.2.2 hk0) ?_
    refine lv_iload C.x C.b dL_law_1389 (lv_at hl 0 rfl) ?_
    refine lv_i2l C.x C.b dL_law_1391 rfl ?_
    refine W.lcmp C.x C.b dL_law_1392 ?_
    refine lv_if_eq (tgt := 1398) C.x C.b dL_law_1393 (by decide) (fun c_1393 => ?_) (fun c_1393 => absurd (lg_cmp_self _) c_1393)
    refine lv_goto (tgt := 1596) C.x C.b dL_law_1398 (by decide) ?_
    exact kk z2 S2 c2 L2 _ _ _ hLI hw (lv_sub hl [2, 3, 4, 5, 6] rfl)

theorem k_verdictMask {p : Program} {l : Launch} {e : Env} {s : State} {m : MethodId} {args : Array Value} {below : List Frame} {meth : Method} {c : Code} {H : Heap} {locs : List Loc} {cells slots : Nat} {Q : State → Prop} {ls : Array Slot} {G : zG} {N : Nat} {Λ : zLay} {z : zM} (C : zC G l p s m meth c cL_law 7 RL (some .boolean)) (hA : zPo G N Λ) (hB : zMo G N Λ) (hJl : 275 < N) (hJ : zJA G Λ 275 1) {b L : Nat} {xs : Nat → Int32} (hX : va_X b L xs s s.heap) (hbl : b < s.heap.size) (hbA : ¬ zA G b) {i : Nat} (hi : i + 4 ≤ L) (hL : L ≤ 2048) {S : aS} {cn : Nat} {Lf : Nat → aS} (h : LI z S cn Lf) (hw : zS G N Λ z s H locs) (hl : lv_has ls 7 [(0, .ref b), (1, .ref (G.h + 0)), (2, .ref (G.h + 272)), (3, .ref (G.h + 275)), (4, .int (nI i))]) (hc1 : cells + 1 ≤ 601024) (hc2 : slots + 6 ≤ 7293034)
    (kk : ∀ (z' : zM) (S' : aS) (cn' : Nat) (Lf' : Nat → aS) (H : Heap) (locs : List Loc) (ls : Array Slot), LI z' S' cn' Lf' → zS G N Λ z' s H locs → lv_has ls 7 [(0, .ref b), (1, .ref (G.h + 0)), (2, .ref (G.h + 272)), (3, .ref (G.h + 275)), (4, .int (nI i))] → W p l e room_1 s m args below meth c H locs (cells + 1) (slots + 6) Q (F0 m 1596 ls [])) : W p l e room_1 s m args below meth c H locs cells slots Q (F0 m 1401 ls []) := by
  refine lv_aload_n C.x C.b dL_law_1401 rfl (lv_at hl 1 rfl) ?_
  refine lv_aload_n C.x C.b dL_law_1402 rfl (lv_at hl 0 rfl) ?_
  refine lv_iload C.x C.b dL_law_1403 (lv_at hl 4 rfl) ?_
  refine lv_iconst (v := 1) C.x C.b dL_law_1405 (by decide) ?_
  refine lv_iadd C.x C.b dL_law_1406 ?_
  refine z_topi (y := nI (i + 1)) (by rw [zlit 1, nI_add]) ?_
  refine va_sld C.x C.b hX hbl hbA hw.2 (i := nI (i + 1)) (vp_in_nI (by omega) (by omega)) dL_law_1407 ?_
  refine z_topi (y := xs (i + 1)) (congrArg xs (nI_clamp (by omega))) ?_
  refine lv_aload_n C.x C.b dL_law_1408 rfl (lv_at hl 3 rfl) ?_
  obtain ⟨k, z1, z2, r, S2, c2, L2, ⟨hmw, hmm⟩, hsE, hLI⟩ := s_verdictMask C.O hA hB hJl hJ h (xs (i + 1))
  refine z_SW (As := [.ref (G.h + 0), .int (xs (i + 1)), .ref (G.h + 275)]) (rest := []) C hw hl hmw iwL_166 rfl rfl ⟨(Nat.le_of_ble_eq_true rfl), (Nat.le_of_ble_eq_true rfl)⟩ (Nat.le_of_ble_eq_true rfl) ⟨hc1, hc2⟩ dL_law_1409 (fun H locs hw => ?_)
  refine lv_istore (lv' := [(5, .int (nI k)), (0, .ref b), (1, .ref (G.h + 0)), (2, .ref (G.h + 272)), (3, .ref (G.h + 275)), (4, .int (nI i))]) C.x C.b dL_law_1412 hl (by decide) rfl (fun ls hl => ?_)
  refine lv_aload_n C.x C.b dL_law_1414 rfl (lv_at hl 3 rfl) ?_
  refine lv_aload_n C.x C.b dL_law_1415 rfl (lv_at hl 1 rfl) ?_
  refine lv_iload C.x C.b dL_law_1416 (lv_at hl 5 rfl) ?_
  refine lv_iconst (v := 1) C.x C.b dL_law_1418 (by decide) ?_
  refine lv_iadd C.x C.b dL_law_1419 ?_
  refine z_topi (y := nI (i + 1)) (by rw [zlit 1, nI_add]) ?_
  refine va_sld C.x C.b hX hbl hbA hw.2 (i := nI (i + 1)) (vp_in_nI (by omega) (by omega)) dL_law_1420 ?_
  refine z_topi (y := xs (i + 1)) (congrArg xs (nI_clamp (by omega))) ?_
  refine z_Vv (As := [.int (xs (i + 1))]) (rest := []) C hw hl hmm ivL_168 hB.lt (hB.at _ _) rfl rfl ⟨(Nat.le_of_ble_eq_true rfl), (Nat.le_of_ble_eq_true rfl)⟩ (Nat.le_of_ble_eq_true rfl) ⟨by show cells + 1 ≤ 601024; omega, by show slots + 6 ≤ 7293034; omega⟩ dL_law_1421 (fun H locs hw => ?_)
  refine lv_istore (lv' := [(6, .int r), (5, .int (nI k)), (0, .ref b), (1, .ref (G.h + 0)), (2, .ref (G.h + 272)), (3, .ref (G.h + 275)), (4, .int (nI i))]) C.x C.b dL_law_1424 hl (by decide) rfl (fun ls hl => ?_)
  refine lv_aload_n C.x C.b dL_law_1426 rfl (lv_at hl 4 rfl) ?_
  refine z_Vv (As := []) (rest := []) C hw hl (m_X4_thrown C.O z2 hB hsE.2.1) ivL_97 hB.lt (hB.at _ _) rfl rfl ⟨(Nat.le_of_ble_eq_true rfl), (Nat.le_of_ble_eq_true rfl)⟩ (Nat.le_of_ble_eq_true rfl) ⟨by show cells + 1 ≤ 601024; omega, by show slots + 6 ≤ 7293034; omega⟩ dL_law_1427 (fun H locs hw => ?_)
  refine lv_iload C.x C.b dL_law_1430 (lv_at hl 1 rfl) ?_
  refine lv_icmp_eq (tgt := 1437) C.x C.b dL_law_1432 (by decide) (fun c_1432 => ?_) (fun c_1432 => absurd (rfl) c_1432)
  refine lv_iload C.x C.b dL_law_1437 (lv_at hl 1 rfl) ?_
  refine z_pc (pc2 := 1439) rfl ?_
  refine lv_if_ne (tgt := 1454) C.x C.b dL_law_1439 (by decide) (fun c_1439 => ?_) (fun c_1439 => ?_)
  · refine lv_goto (tgt := 1596) C.x C.b dL_law_1454 (by decide) ?_
    exact kk z2 S2 c2 L2 _ _ _ hLI hw (lv_sub hl [2, 3, 4, 5, 6] rfl)
  · refine lv_aload_n C.x C.b dL_law_1442 rfl (lv_at hl 5 rfl) ?_
    refine lv_iconst (v := 0) C.x C.b dL_law_1443 (by decide) ?_
    refine z_lald C hw hJl hJ ((zvin (x := 0) (by omega) (by omega))) dL_law_1444 ?_
    have hk0 : k = 0 := zzero (by have := hsE.1; omega) c_1439
    refine z_topl (y := r.toInt64) (hsE.2.2 hk0) ?_
    refine lv_iload C.x C.b dL_law_1445 (lv_at hl 0 rfl) ?_
    refine lv_i2l C.x C.b dL_law_1447 rfl ?_
    refine W.lcmp C.x C.b dL_law_1448 ?_
    refine lv_if_eq (tgt := 1454) C.x C.b dL_law_1449 (by decide) (fun c_1449 => ?_) (fun c_1449 => absurd (lg_cmp_self _) c_1449)
    refine lv_goto (tgt := 1596) C.x C.b dL_law_1454 (by decide) ?_
    exact kk z2 S2 c2 L2 _ _ _ hLI hw (lv_sub hl [2, 3, 4, 5, 6] rfl)

theorem k_evidence {p : Program} {l : Launch} {e : Env} {s : State} {m : MethodId} {args : Array Value} {below : List Frame} {meth : Method} {c : Code} {H : Heap} {locs : List Loc} {cells slots : Nat} {Q : State → Prop} {ls : Array Slot} {G : zG} {N : Nat} {Λ : zLay} {z : zM} (C : zC G l p s m meth c cL_law 7 RL (some .boolean)) (hA : zPo G N Λ) (hB : zMo G N Λ) (hJl : 275 < N) (hJ : zJA G Λ 275 1) {b L : Nat} {xs : Nat → Int32} (hX : va_X b L xs s s.heap) (hbl : b < s.heap.size) (hbA : ¬ zA G b) {i : Nat} (hi : i + 4 ≤ L) (hL : L ≤ 2048) {S : aS} {cn : Nat} {Lf : Nat → aS} (h : LI z S cn Lf) (hw : zS G N Λ z s H locs) (hl : lv_has ls 7 [(0, .ref b), (1, .ref (G.h + 0)), (2, .ref (G.h + 272)), (3, .ref (G.h + 275)), (4, .int (nI i))]) (hc1 : cells + 1 ≤ 601024) (hc2 : slots + 6 ≤ 7293034)
    (kk : ∀ (z' : zM) (S' : aS) (cn' : Nat) (Lf' : Nat → aS) (H : Heap) (locs : List Loc) (ls : Array Slot), LI z' S' cn' Lf' → zS G N Λ z' s H locs → lv_has ls 7 [(0, .ref b), (1, .ref (G.h + 0)), (2, .ref (G.h + 272)), (3, .ref (G.h + 275)), (4, .int (nI i))] → W p l e room_1 s m args below meth c H locs (cells + 1) (slots + 6) Q (F0 m 1596 ls [])) : W p l e room_1 s m args below meth c H locs cells slots Q (F0 m 1470 ls []) := by
  refine lv_aload_n C.x C.b dL_law_1470 rfl (lv_at hl 1 rfl) ?_
  refine lv_aload_n C.x C.b dL_law_1471 rfl (lv_at hl 0 rfl) ?_
  refine lv_iload C.x C.b dL_law_1472 (lv_at hl 4 rfl) ?_
  refine lv_iconst (v := 1) C.x C.b dL_law_1474 (by decide) ?_
  refine lv_iadd C.x C.b dL_law_1475 ?_
  refine z_topi (y := nI (i + 1)) (by rw [zlit 1, nI_add]) ?_
  refine va_sld C.x C.b hX hbl hbA hw.2 (i := nI (i + 1)) (vp_in_nI (by omega) (by omega)) dL_law_1476 ?_
  refine z_topi (y := xs (i + 1)) (congrArg xs (nI_clamp (by omega))) ?_
  refine lv_aload_n C.x C.b dL_law_1477 rfl (lv_at hl 0 rfl) ?_
  refine lv_iload C.x C.b dL_law_1478 (lv_at hl 4 rfl) ?_
  refine lv_iconst (v := 2) C.x C.b dL_law_1480 (by decide) ?_
  refine lv_iadd C.x C.b dL_law_1481 ?_
  refine z_topi (y := nI (i + 2)) (by rw [zlit 2, nI_add]) ?_
  refine va_sld C.x C.b hX hbl hbA hw.2 (i := nI (i + 2)) (vp_in_nI (by omega) (by omega)) dL_law_1482 ?_
  refine z_topi (y := xs (i + 2)) (congrArg xs (nI_clamp (by omega))) ?_
  refine lv_aload_n C.x C.b dL_law_1483 rfl (lv_at hl 3 rfl) ?_
  obtain ⟨k, z1, z2, r, S2, c2, L2, ⟨hmw, hmm⟩, hsE, hLI⟩ := s_evidence C.O hA hB hJl hJ h (xs (i + 1)) (xs (i + 2))
  refine z_SW (As := [.ref (G.h + 0), .int (xs (i + 1)), .int (xs (i + 2)), .ref (G.h + 275)]) (rest := []) C hw hl hmw iwL_173 rfl rfl ⟨(Nat.le_of_ble_eq_true rfl), (Nat.le_of_ble_eq_true rfl)⟩ (Nat.le_of_ble_eq_true rfl) ⟨hc1, hc2⟩ dL_law_1484 (fun H locs hw => ?_)
  refine lv_istore (lv' := [(5, .int (nI k)), (0, .ref b), (1, .ref (G.h + 0)), (2, .ref (G.h + 272)), (3, .ref (G.h + 275)), (4, .int (nI i))]) C.x C.b dL_law_1487 hl (by decide) rfl (fun ls hl => ?_)
  refine lv_aload_n C.x C.b dL_law_1489 rfl (lv_at hl 3 rfl) ?_
  refine lv_aload_n C.x C.b dL_law_1490 rfl (lv_at hl 1 rfl) ?_
  refine lv_iload C.x C.b dL_law_1491 (lv_at hl 5 rfl) ?_
  refine lv_iconst (v := 1) C.x C.b dL_law_1493 (by decide) ?_
  refine lv_iadd C.x C.b dL_law_1494 ?_
  refine z_topi (y := nI (i + 1)) (by rw [zlit 1, nI_add]) ?_
  refine va_sld C.x C.b hX hbl hbA hw.2 (i := nI (i + 1)) (vp_in_nI (by omega) (by omega)) dL_law_1495 ?_
  refine z_topi (y := xs (i + 1)) (congrArg xs (nI_clamp (by omega))) ?_
  refine z_pc (pc2 := 1496) rfl ?_
  refine lv_aload_n C.x C.b dL_law_1496 rfl (lv_at hl 1 rfl) ?_
  refine lv_iload C.x C.b dL_law_1497 (lv_at hl 5 rfl) ?_
  refine lv_iconst (v := 2) C.x C.b dL_law_1499 (by decide) ?_
  refine lv_iadd C.x C.b dL_law_1500 ?_
  refine z_topi (y := nI (i + 2)) (by rw [zlit 2, nI_add]) ?_
  refine va_sld C.x C.b hX hbl hbA hw.2 (i := nI (i + 2)) (vp_in_nI (by omega) (by omega)) dL_law_1501 ?_
  refine z_topi (y := xs (i + 2)) (congrArg xs (nI_clamp (by omega))) ?_
  refine z_Vv (As := [.int (xs (i + 1)), .int (xs (i + 2))]) (rest := []) C hw hl hmm ivL_175 hB.lt (hB.at _ _) rfl rfl ⟨(Nat.le_of_ble_eq_true rfl), (Nat.le_of_ble_eq_true rfl)⟩ (Nat.le_of_ble_eq_true rfl) ⟨by show cells + 1 ≤ 601024; omega, by show slots + 6 ≤ 7293034; omega⟩ dL_law_1502 (fun H locs hw => ?_)
  refine lv_istore (lv' := [(6, .int r), (5, .int (nI k)), (0, .ref b), (1, .ref (G.h + 0)), (2, .ref (G.h + 272)), (3, .ref (G.h + 275)), (4, .int (nI i))]) C.x C.b dL_law_1505 hl (by decide) rfl (fun ls hl => ?_)
  refine lv_aload_n C.x C.b dL_law_1507 rfl (lv_at hl 4 rfl) ?_
  refine z_Vv (As := []) (rest := []) C hw hl (m_X4_thrown C.O z2 hB hsE.2.1) ivL_97 hB.lt (hB.at _ _) rfl rfl ⟨(Nat.le_of_ble_eq_true rfl), (Nat.le_of_ble_eq_true rfl)⟩ (Nat.le_of_ble_eq_true rfl) ⟨by show cells + 1 ≤ 601024; omega, by show slots + 6 ≤ 7293034; omega⟩ dL_law_1508 (fun H locs hw => ?_)
  refine lv_iload C.x C.b dL_law_1511 (lv_at hl 1 rfl) ?_
  refine lv_icmp_eq (tgt := 1518) C.x C.b dL_law_1513 (by decide) (fun c_1513 => ?_) (fun c_1513 => absurd (rfl) c_1513)
  refine lv_iload C.x C.b dL_law_1518 (lv_at hl 1 rfl) ?_
  refine lv_if_ne (tgt := 1535) C.x C.b dL_law_1520 (by decide) (fun c_1520 => ?_) (fun c_1520 => ?_)
  · refine lv_goto (tgt := 1596) C.x C.b dL_law_1535 (by decide) ?_
    exact kk z2 S2 c2 L2 _ _ _ hLI hw (lv_sub hl [2, 3, 4, 5, 6] rfl)
  · refine lv_aload_n C.x C.b dL_law_1523 rfl (lv_at hl 5 rfl) ?_
    refine lv_iconst (v := 0) C.x C.b dL_law_1524 (by decide) ?_
    refine z_lald C hw hJl hJ ((zvin (x := 0) (by omega) (by omega))) dL_law_1525 ?_
    have hk0 : k = 0 := zzero (by have := hsE.1; omega) c_1520
    refine z_topl (y := r.toInt64) (hsE.2.2 hk0) ?_
    refine lv_iload C.x C.b dL_law_1526 (lv_at hl 0 rfl) ?_
    refine lv_i2l C.x C.b dL_law_1528 rfl ?_
    refine W.lcmp C.x C.b dL_law_1529 ?_
    refine lv_if_eq (tgt := 1535) C.x C.b dL_law_1530 (by decide) (fun c_1530 => ?_) (fun c_1530 => absurd (lg_cmp_self _) c_1530)
    refine lv_goto (tgt := 1596) C.x C.b dL_law_1535 (by decide) ?_
    exact kk z2 S2 c2 L2 _ _ _ hLI hw (lv_sub hl [2, 3, 4, 5, 6] rfl)

theorem k_undo {p : Program} {l : Launch} {e : Env} {s : State} {m : MethodId} {args : Array Value} {below : List Frame} {meth : Method} {c : Code} {H : Heap} {locs : List Loc} {cells slots : Nat} {Q : State → Prop} {ls : Array Slot} {G : zG} {N : Nat} {Λ : zLay} {z : zM} (C : zC G l p s m meth c cL_law 7 RL (some .boolean)) (hA : zPo G N Λ) (hB : zMo G N Λ) (hJl : 275 < N) (hJ : zJA G Λ 275 1) {b L : Nat} {xs : Nat → Int32} (hX : va_X b L xs s s.heap) (hbl : b < s.heap.size) (hbA : ¬ zA G b) {i : Nat} (hi : i + 4 ≤ L) (hL : L ≤ 2048) {S : aS} {cn : Nat} {Lf : Nat → aS} (h : LI z S cn Lf) (hw : zS G N Λ z s H locs) (hl : lv_has ls 7 [(0, .ref b), (1, .ref (G.h + 0)), (2, .ref (G.h + 272)), (3, .ref (G.h + 275)), (4, .int (nI i))]) (hc1 : cells + 1 ≤ 601024) (hc2 : slots + 6 ≤ 7293034)
    (kk : ∀ (z' : zM) (S' : aS) (cn' : Nat) (Lf' : Nat → aS) (H : Heap) (locs : List Loc) (ls : Array Slot), LI z' S' cn' Lf' → zS G N Λ z' s H locs → lv_has ls 7 [(0, .ref b), (1, .ref (G.h + 0)), (2, .ref (G.h + 272)), (3, .ref (G.h + 275)), (4, .int (nI i))] → W p l e room_1 s m args below meth c H locs (cells + 1) (slots + 6) Q (F0 m 1596 ls [])) : W p l e room_1 s m args below meth c H locs cells slots Q (F0 m 1538 ls []) := by
  refine lv_aload_n C.x C.b dL_law_1538 rfl (lv_at hl 1 rfl) ?_
  refine lv_aload_n C.x C.b dL_law_1539 rfl (lv_at hl 3 rfl) ?_
  obtain ⟨k, z1, z2, r, S2, c2, L2, ⟨hmw, hmm⟩, hsE, hLI⟩ := s_undo C.O hA hB hJl hJ h 
  refine z_SW (As := [.ref (G.h + 0), .ref (G.h + 275)]) (rest := []) C hw hl hmw iwL_176 rfl rfl ⟨(Nat.le_of_ble_eq_true rfl), (Nat.le_of_ble_eq_true rfl)⟩ (Nat.le_of_ble_eq_true rfl) ⟨hc1, hc2⟩ dL_law_1540 (fun H locs hw => ?_)
  refine lv_istore (lv' := [(5, .int (nI k)), (0, .ref b), (1, .ref (G.h + 0)), (2, .ref (G.h + 272)), (3, .ref (G.h + 275)), (4, .int (nI i))]) C.x C.b dL_law_1543 hl (by decide) rfl (fun ls hl => ?_)
  refine lv_aload_n C.x C.b dL_law_1545 rfl (lv_at hl 3 rfl) ?_
  refine z_Vv (As := []) (rest := []) C hw hl hmm ivL_178 hB.lt (hB.at _ _) rfl rfl ⟨(Nat.le_of_ble_eq_true rfl), (Nat.le_of_ble_eq_true rfl)⟩ (Nat.le_of_ble_eq_true rfl) ⟨by show cells + 1 ≤ 601024; omega, by show slots + 6 ≤ 7293034; omega⟩ dL_law_1546 (fun H locs hw => ?_)
  refine lv_istore (lv' := [(6, .int r), (5, .int (nI k)), (0, .ref b), (1, .ref (G.h + 0)), (2, .ref (G.h + 272)), (3, .ref (G.h + 275)), (4, .int (nI i))]) C.x C.b dL_law_1549 hl (by decide) rfl (fun ls hl => ?_)
  refine lv_aload_n C.x C.b dL_law_1551 rfl (lv_at hl 4 rfl) ?_
  refine z_Vv (As := []) (rest := []) C hw hl (m_X4_thrown C.O z2 hB hsE.2.1) ivL_97 hB.lt (hB.at _ _) rfl rfl ⟨(Nat.le_of_ble_eq_true rfl), (Nat.le_of_ble_eq_true rfl)⟩ (Nat.le_of_ble_eq_true rfl) ⟨by show cells + 1 ≤ 601024; omega, by show slots + 6 ≤ 7293034; omega⟩ dL_law_1552 (fun H locs hw => ?_)
  refine lv_iload C.x C.b dL_law_1555 (lv_at hl 1 rfl) ?_
  refine lv_icmp_eq (tgt := 1562) C.x C.b dL_law_1557 (by decide) (fun c_1557 => ?_) (fun c_1557 => absurd (rfl) c_1557)
  refine lv_iload C.x C.b dL_law_1562 (lv_at hl 1 rfl) ?_
  refine lv_if_ne (tgt := 1579) C.x C.b dL_law_1564 (by decide) (fun c_1564 => ?_) (fun c_1564 => ?_)
  · refine lv_goto (tgt := 1596) C.x C.b dL_law_1579 (by decide) ?_
    exact kk z2 S2 c2 L2 _ _ _ hLI hw (lv_sub hl [2, 3, 4, 5, 6] rfl)
  · refine lv_aload_n C.x C.b dL_law_1567 rfl (lv_at hl 5 rfl) ?_
    refine lv_iconst (v := 0) C.x C.b dL_law_1568 (by decide) ?_
    refine z_lald C hw hJl hJ ((zvin (x := 0) (by omega) (by omega))) dL_law_1569 ?_
    have hk0 : k = 0 := zzero (by have := hsE.1; omega) c_1564
    refine z_topl (y := r.toInt64) (hsE.2.2 hk0) ?_
    refine lv_iload C.x C.b dL_law_1570 (lv_at hl 0 rfl) ?_
    refine lv_i2l C.x C.b dL_law_1572 rfl ?_
    refine W.lcmp C.x C.b dL_law_1573 ?_
    refine lv_if_eq (tgt := 1579) C.x C.b dL_law_1574 (by decide) (fun c_1574 => ?_) (fun c_1574 => absurd (lg_cmp_self _) c_1574)
    refine lv_goto (tgt := 1596) C.x C.b dL_law_1579 (by decide) ?_
    exact kk z2 S2 c2 L2 _ _ _ hLI hw (lv_sub hl [2, 3, 4, 5, 6] rfl)
