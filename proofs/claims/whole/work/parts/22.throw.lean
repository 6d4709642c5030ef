/-! ===== methods that throw; the PeerAudit object ===== -/
abbrev zNs : List String := ["java/lang/RuntimeException", "java/lang/Exception"]
def zkp : Cond → Bool
  | .castable _ _ => true
  | .declares _ => true
  | w => goodWord w
theorem zkp_at {G : zG} {l : Launch} {s : State} {w : Cond} {a : Array Value} (hO : zOK G l) (hE : zE G s) (hw : w ∈ lw_tbl) (hk : zkp w = true) : w.before a s = true := by
  cases w
  case castable => exact va_Nw.use rfl (va_Nw.warmC hE.1 (va_Nw.of rfl (hO.1 _ hw)))
  case declares => exact va_Nw.use rfl (va_Nw.warmD hE.1 (va_Nw.of rfl (hO.1 _ hw)))
  all_goals exact zword hO hE ⟨hw, hk⟩
def zThr (own : String) (ik is ic : Nat) (cls text : String) : Prop := Bundle.fit cls = true ∧ zW (.classLink own ik cls) ∧ zW (.initialized cls) ∧ Cond.stringRef own is text ∈ lw_tbl ∧ Cond.exactly (.string own is) "java/lang/String" ∈ flatC (Jvm.Cond.and given_1 narrow_1) ∧ (∀ w ∈ vx_atS own ic cls zNs, w ∈ lw_tbl ∧ zkp w = true) ∧ ∀ w ∈ Cond.classLink own ik cls :: Cond.initialized cls :: vx_atS own ic cls zNs, vx_ot w = true
def zXc (G : zG) (N : Nat) (Λ : zLay) (E : String) (z : zM) : String → State → State → Prop := fun E' st t => E' = E ∧ zP G N Λ z t.heap ∧ va_F (zA G) st t
def zNo : Array Value → State → Outcome → State → Prop := fun _ _ _ _ => False
/-- a method throws E, and leaves the cells as they are -/
def zMX (G : zG) (N : Nat) (Λ : zLay) (l : Launch) (y : MethodName) (cc : ByteArray) (nL : Nat) (ret : Option FieldType) (k : Nat) (av : List Value) (z : zM) (E : String) : Prop :=
  vx_Met l y [.code y cc nL ret] (zRx k) (zPc G N Λ av z) zNo (zXc G N Λ E z) 1 6 (zA G)
theorem zMX_of {G : zG} {N : Nat} {Λ : zLay} {l : Launch} {y : MethodName} {cc : ByteArray} {nL : Nat} {ret : Option FieldType} {k : Nat} {av : List Value} {z : zM} {E : String} (hO : zOK G l) (hy : plainName y.cls = true) (hsl : (lg_sl av).length ≤ nL)
    (body : ∀ (p : Program) (e : Env) (s : State) (m : MethodId) (below : List Frame) (meth : Method) (c : Code) (ls : Array Slot), zC G l p s m meth c cc nL y.cls ret → (∀ x ∈ c.exceptionTable.toList, False) → zS G N Λ z s s.heap [] → lv_has ls nL (lv_args 0 av) →
      W p l e (zRx k) s m av.toArray below meth c s.heap [] 0 0 (vx_MQ below zNo (zXc G N Λ E z) av.toArray s 1 6 (zA G)) (F0 m 0 ls [])) : zMX G N Λ l y cc nL ret k av z E := by
  refine vx_ofW (cc := cc) (maxL := nL) (ret := ret) hy rfl ?_
  intro p e s m args below meth c s₁ B hml hx hv
  obtain ⟨rfl, hE, hP⟩ := hv
  have hl := lv_entry av (n := nL) hsl
  rw [lg_entry_eq]
  exact body p e s m below meth c _ ⟨B.exec, B.bytes, hml, findClass_of_methodNamed B.named, B.returns, B.notSynchronized, hE, hO⟩ hx ⟨hP, va_S.rf⟩ hl
theorem zP.kept {G : zG} {N : Nat} {Λ : zLay} {z : zM} {H H1 : Heap} (h : zP G N Λ z H) (hq : ∀ q : Nat, q < H.size → H1[q]? = H[q]?) : zP G N Λ z H1 := fun k q hk => (h k q hk).kept (hq q.1 (h k q hk).lt)
section ZTHR
variable {p : Program} {l : Launch} {e : Env} {R : Room} {s : State} {m : MethodId} {args : Array Value} {below : List Frame} {meth : Method} {c : Code} {H : Heap} {locs : List Loc} {cells slots : Nat} {Q : State → Prop}
variable {cc : ByteArray} {pc : Nat} {ls : Array Slot} {rest : List Value} {G : zG} {N : Nat} {Λ : zLay} {z z' : zM} {nL : Nat} {own : String} {ret : Option FieldType}
theorem zstat {n d : String} (hO : zOK G l) (hE : zE G s) (h1 : Cond.laysStatic Bundle.tN n d ∈ lw_tbl) (h2 : Cond.initialized Bundle.tN ∈ lw_tbl) (h3 : Cond.isRef (.static Bundle.tN n d) ∈ flatC (Jvm.Cond.and given_1 narrow_1)) : vx_Zq Bundle.tN n d (zA G) s s.heap :=
  ((vx_Zqof (A := zA G) (hO.1 _ h1) (hO.1 _ h2) (flat_of_before _ hO.2.2.2 _ h3) (fun a ha => Nat.not_le.mpr ha)).moved hE.1.alike).kept hE.2.2
theorem zU1 : Cond.laysStatic Bundle.tN "UNASSIGNED_STACK" Bundle.steD ∈ lw_tbl := by decide +kernel
theorem zU2 : Cond.laysStatic Bundle.tN "SUPPRESSED_SENTINEL" Bundle.listD ∈ lw_tbl := by decide +kernel
theorem zU3 : Cond.initialized Bundle.tN ∈ lw_tbl := by decide +kernel
theorem zU4 : Cond.isRef (.static Bundle.tN "UNASSIGNED_STACK" Bundle.steD) ∈ flatC (Jvm.Cond.and given_1 narrow_1) := by decide +kernel
theorem zU5 : Cond.isRef (.static Bundle.tN "SUPPRESSED_SENTINEL" Bundle.listD) ∈ flatC (Jvm.Cond.and given_1 narrow_1) := by decide +kernel
theorem zflag (hO : zOK G l) : l.stackTraces = false := by
  unfold Launch.stackTraces
  rw [hO.2.2.1]
  decide
theorem z_thr {cls text : String} {ik is ic : Nat} {lv : List (Nat × Value)} (C : zC G l p s m meth c cc nL own ret) (hw : zS G N Λ z s H locs) (hl : lv_has ls nL lv) (hX : zThr own ik is ic cls text)
    (d0 : decode cc pc = .ok (.new ik, 3)) (d3 : decode cc (pc + 3) = .ok (.dup, 1)) (d4 : decode cc (pc + 4) = .ok (.ldc is, 2)) (d6 : decode cc (pc + 6) = .ok (.invokespecial ic, 3)) (d9 : decode cc (pc + 9) = .ok (.athrow, 1))
    (hout : ∀ x ∈ c.exceptionTable.toList, False) (hR1 : 5 < R.frames) (hR2 : (rest.map fun v => v.category).sum + 82 ≤ R.locals) (hR3 : 1 ≤ R.cells) (hR4 : 6 ≤ R.slots) :
    W p l e R s m args below meth c H locs 0 0 (vx_MQ below zNo (zXc G N Λ cls z) args s 1 6 (zA G)) (F0 m pc ls rest) := by
  obtain ⟨h1, h2, h3, h4, h5, h6, h7⟩ := hX
  obtain ⟨sa, -, -, -, hsa, -⟩ := Cond.exactly_spec (args := G.a0) (first := G.s0) (o := none) (s := G.s0) (idx := []) (t := .string own is) (cls := "java/lang/String") (flat_of_before _ C.O.2.2.2 _ h5)
  have hstr : vk_R own is text sa s := vk_R.warm C.E.1 (vk_R.of (C.O.1 _ h4) hsa)
  refine vx_throwS (A := zA G) (names := zNs) C.x C.b (zflag C.O) C.ow h1 (by decide) (C.w h2) (C.w h3) hstr (fun w hw9 => ?_) h7 (zstat C.O C.E zU1 zU3 zU4) (zstat C.O C.E zU2 zU3 zU5) hw.2 (hl.1.trans C.ml.symm) d0 d3 d4 d6 d9 (fun x hx => (hout x hx).elim) hR1 hR2 (by omega) (by omega) C.lk (fun t ht hz hk => ⟨rfl, hw.1.kept hk, Nat.le_trans hw.2.1 hz, fun q g1 g2 => ?_⟩) hw.2.2.2 (Nat.le_refl _) (Nat.le_refl _)
  · exact zkp_at C.O C.E (h6 w hw9).1 (h6 w hw9).2
  · rw [hk q (Nat.lt_of_lt_of_le g1 hw.2.1)]
    exact hw.2.2.1 q g1 g2
/-- behind a call that threw -/
theorem z_xback {mc ms : Nat} {E : String} {st0 : List Value} {a : Array Value} (hw : zS G N Λ z s H locs) (hr : vx_Run p l e R s m args below meth c H locs cells slots mc ms (F0 m pc ls st0) rest (zNo a) (zXc G N Λ E z) (zA G))
    (kx : ∀ (ce : Cell) (q : Addr) (H : Heap) (locs : List Loc), zS G N Λ z s H locs → H[q]? = some ce → ce.vm = .none → s.vm.findClass E = some ce.cls → vx_W p l e R s m args below meth c H locs (cells + mc) (slots + ms) Q (F0 m pc ls rest) q) : W p l e R s m args below meth c H locs cells slots Q (F0 m pc ls st0) := by
  intro T hT X
  rcases hr T hT X with ⟨v, st₀, t, T', L, h0, X', hL, e1, e2, hF, st⟩ | ⟨q, st₀, t, T', L, E', ce, h0, X', hL, e1, e2, ⟨rfl, hP, hz, hk⟩, hce, hcv, hcl, st⟩
  · exact hF.elim
  · rw [h0] at hz hk
    obtain ⟨t2, a1, b1⟩ := kx ce q T'.heap (locs ++ L) ⟨by rw [e1]; exact hP, Nat.le_trans hw.2.1 (by rw [e1]; exact hz), fun q h1 h2 => by rw [e1, hk q (Nat.lt_of_lt_of_le h1 hw.2.1) h2]; exact hw.2.2.1 q h1 h2, fun q hq => by
        rcases List.mem_append.mp hq with h | h
        · exact hw.2.2.2 q h
        · exact hL q h⟩ (by rw [e1]; exact hce) hcv hcl T' rfl X'
    exact ⟨t2, st.trans a1, b1⟩
theorem z_out {E : String} {ce : Cell} {q : Addr} (C : zC G l p s m meth c cc nL own ret) (hw : zS G N Λ z s H locs) (hout : ∀ x ∈ c.exceptionTable.toList, False) (hc : H[q]? = some ce) (hv : ce.vm = .none) (hcl : s.vm.findClass E = some ce.cls) : vx_W p l e R s m args below meth c H locs 1 6 (vx_MQ below zNo (zXc G N Λ E z) args s 1 6 (zA G)) (F0 m pc ls rest) q :=
  vx_out (fun x hx => (hout x hx).elim) C.lk hc hv hcl (fun t ht _ => ⟨rfl, by rw [ht]; exact hw.1, hw.2.F ht⟩) hw.2.2.2 (Nat.le_refl _) (Nat.le_refl _)
theorem z_runVX {y : MethodName} {cy : ByteArray} {nLy n index i ci k : Nat} {rety : Option FieldType} {As : List Value} {fs : List Value} {lv : List (Nat × Value)} {E : String} (C : zC G l p s m meth c cc nL own ret) (hw : zS G N Λ z s H locs) (hl : lv_has ls nL lv) (hM : zMX G N Λ l y cy nLy rety k (.ref (G.h + i) :: As) z E) (iv : zIv own index ci y cy nLy rety n) (hi : i < N) (he : Λ i (z.1 i) (z.2 i) = .inr (ci, fs)) (hn : As.length = n) (hR : k + 1 ≤ R.frames ∧ 8 + (nLy + 11) + 30 * k ≤ R.locals) (hW : (rest.map fun v => v.category).sum ≤ 8) (hc0 : cells + 1 ≤ R.cells ∧ slots + 6 ≤ R.slots) (hdg : decode cc pc = .ok (.invokevirtual index, 3))
    : vx_Run p l e R s m args below meth c H locs cells slots 1 6 (F0 m pc ls (As.reverse ++ .ref (G.h + i) :: rest)) rest (zNo (Value.ref (G.h + i) :: As).toArray) (zXc G N Λ E z) (zA G) := by
  obtain ⟨rc, hc, h1, h2, h3, h4, h5, h6⟩ := iv
  exact vx_runV (Ts := []) (C := rc.1) (n := n) ⟨C.x, C.b, C.ml, C.ow, fun _ h => by cases h⟩ hM ⟨⟨rfl, rfl, hR.1, hR.2, zCode C h5, List.mem_singleton.mpr rfl, C.w h5, C.w h4, h6.1, h6.n, C.w h1⟩, C.w h2, C.w h3⟩ ⟨zPc_blind, va_recv (zK C.O C.E) hw.1 hc (q0 := i) (by rw [zpl_at hi]; exact congrArg (fun e => some (G.h + i, e)) he), fun U hU hW => ⟨rfl, zEs C hw hU hW, by rw [hU]; exact hw.1⟩⟩ rfl hn hl.1 rfl (lv_room hW) hdg hc0
theorem z_runSX {y : MethodName} {cy : ByteArray} {nLy n index k : Nat} {rety : Option FieldType} {As : List Value} {lv : List (Nat × Value)} {E : String} (C : zC G l p s m meth c cc nL own ret) (hw : zS G N Λ z s H locs) (hl : lv_has ls nL lv) (hM : zMX G N Λ l y cy nLy rety k As z E) (iv : zIs own index y cy nLy rety n) (hn : As.length = n) (hR : k + 1 ≤ R.frames ∧ 8 + (nLy + 11) + 30 * k ≤ R.locals) (hW : (rest.map fun v => v.category).sum ≤ 8) (hc0 : cells + 1 ≤ R.cells ∧ slots + 6 ≤ R.slots) (hdg : decode cc pc = .ok (.invokestatic index, 3))
    : vx_Run p l e R s m args below meth c H locs cells slots 1 6 (F0 m pc ls (As.reverse ++ rest)) rest (zNo As.toArray) (zXc G N Λ E z) (zA G) := by
  obtain ⟨h1, h3, h4, h5, h6⟩ := iv
  exact vx_runS (Ts := []) (n := n) ⟨C.x, C.b, C.ml, C.ow, fun _ h => by cases h⟩ hM ⟨⟨rfl, rfl, hR.1, hR.2, zCode C h5, List.mem_singleton.mpr rfl, C.w h5, C.w h4, h6.1, h6.n, C.w h1⟩, C.w h3⟩ ⟨zPc_blind, fun U hU hW => ⟨rfl, zEs C hw hU hW, by rw [hU]; exact hw.1⟩⟩ rfl hn hl.1 rfl (lv_room hW) hdg hc0
/-- a call that throws, in a method that hands it on -/
theorem z_VX {y : MethodName} {cy : ByteArray} {nLy n index i ci k : Nat} {rety : Option FieldType} {As st : List Value} {fs : List Value} {lv : List (Nat × Value)} {E : String} (C : zC G l p s m meth c cc nL own ret) (hout : ∀ x ∈ c.exceptionTable.toList, False) (hw : zS G N Λ z s H locs) (hl : lv_has ls nL lv) (hM : zMX G N Λ l y cy nLy rety k (.ref (G.h + i) :: As) z E) (iv : zIv own index ci y cy nLy rety n) (hi : i < N) (he : Λ i (z.1 i) (z.2 i) = .inr (ci, fs)) (hst : st = As.reverse ++ .ref (G.h + i) :: rest) (hn : As.length = n) (hR : k + 1 ≤ R.frames ∧ 8 + (nLy + 11) + 30 * k ≤ R.locals) (hW : (rest.map fun v => v.category).sum ≤ 8) (hc0 : 1 ≤ R.cells ∧ 6 ≤ R.slots) (hdg : decode cc pc = .ok (.invokevirtual index, 3))
    : W p l e R s m args below meth c H locs 0 0 (vx_MQ below zNo (zXc G N Λ E z) args s 1 6 (zA G)) (F0 m pc ls st) := by
  subst hst
  exact z_xback hw (z_runVX C hw hl hM iv hi he hn hR hW (by omega) hdg) (fun ce q H locs hw hc hv hcl => z_out C hw hout hc hv hcl)
theorem z_SX {y : MethodName} {cy : ByteArray} {nLy n index k : Nat} {rety : Option FieldType} {As st : List Value} {lv : List (Nat × Value)} {E : String} (C : zC G l p s m meth c cc nL own ret) (hout : ∀ x ∈ c.exceptionTable.toList, False) (hw : zS G N Λ z s H locs) (hl : lv_has ls nL lv) (hM : zMX G N Λ l y cy nLy rety k As z E) (iv : zIs own index y cy nLy rety n) (hst : st = As.reverse ++ rest) (hn : As.length = n) (hR : k + 1 ≤ R.frames ∧ 8 + (nLy + 11) + 30 * k ≤ R.locals) (hW : (rest.map fun v => v.category).sum ≤ 8) (hc0 : 1 ≤ R.cells ∧ 6 ≤ R.slots) (hdg : decode cc pc = .ok (.invokestatic index, 3))
    : W p l e R s m args below meth c H locs 0 0 (vx_MQ below zNo (zXc G N Λ E z) args s 1 6 (zA G)) (F0 m pc ls st) := by
  subst hst
  exact z_xback hw (z_runSX C hw hl hM iv hn hR hW (by omega) hdg) (fun ce q H locs hw hc hv hcl => z_out C hw hout hc hv hcl)
end ZTHR
/-- the whole object: itself at 0, the present world at 1, the ring's array at 55, its worlds behind it -/
def zPo (G : zG) (N : Nat) (Λ : zLay) : Prop := 271 < N ∧ (∀ f τ, Λ 0 f τ = .inr (3, [.ref (G.h + 1), .ref (G.h + 55), .int (f 2), .int (f 3)])) ∧ zRA G.cW Λ 55 4 (fun k => some (G.h + (56 + 54 * k))) ∧ zWo G N Λ 1 ∧ ∀ k, k < 4 → zWo G N Λ (56 + 54 * k)
theorem zPo.lt {G : zG} {N : Nat} {Λ : zLay} (h : zPo G N Λ) : 0 < N := by have := h.1; omega
theorem zPo.lts {G : zG} {N : Nat} {Λ : zLay} (h : zPo G N Λ) : 55 < N := by have := h.1; omega
theorem zPo.at {G : zG} {N : Nat} {Λ : zLay} (h : zPo G N Λ) (f : Nat → Int32) (τ : Nat → Int64) : Λ 0 f τ = .inr (3, [.ref (G.h + 1), .ref (G.h + 55), .int (f 2), .int (f 3)]) := h.2.1 f τ
theorem zPo.sa {G : zG} {N : Nat} {Λ : zLay} (h : zPo G N Λ) : zRA G.cW Λ 55 4 (fun k => some (G.h + (56 + 54 * k))) := h.2.2.1
theorem zPo.w0 {G : zG} {N : Nat} {Λ : zLay} (h : zPo G N Λ) : zWo G N Λ 1 := h.2.2.2.1
theorem zPo.ws {G : zG} {N : Nat} {Λ : zLay} (h : zPo G N Λ) {k : Nat} (hk : k < 4) : zWo G N Λ (56 + 54 * k) := h.2.2.2.2 k hk
