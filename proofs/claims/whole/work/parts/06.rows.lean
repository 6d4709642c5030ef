/-! ===== rows over the pool ===== -/
section ZROWS
variable {p : Program} {l : Launch} {e : Env} {R : Room} {s : State} {m : MethodId} {args : Array Value} {below : List Frame} {meth : Method} {c : Code} {H : Heap} {locs : List Loc} {cells slots : Nat} {Q : State → Prop}
variable {cc : ByteArray} {pc : Nat} {ls : Array Slot} {rest : List Value} {G : zG} {N : Nat} {Λ : zLay} {z z' : zM} {nL : Nat} {own : String} {ret : Option FieldType}
theorem zC.x (C : zC G l p s m meth c cc nL own ret) : p.tables.exec = Jvm.exec := C.1
theorem zC.b (C : zC G l p s m meth c cc nL own ret) : c.code = cc := C.2.1
theorem zC.ml (C : zC G l p s m meth c cc nL own ret) : c.maxLocals = nL := C.2.2.1
theorem zC.ow (C : zC G l p s m meth c cc nL own ret) : s.vm.findClass own = some m.cls := C.2.2.2.1
theorem zC.rt (C : zC G l p s m meth c cc nL own ret) : meth.sig.returnType = ret := C.2.2.2.2.1
theorem zC.lk (C : zC G l p s m meth c cc nL own ret) : meth.locks = false := C.2.2.2.2.2.1
theorem zC.E (C : zC G l p s m meth c cc nL own ret) : zE G s := C.2.2.2.2.2.2.1
theorem zC.O (C : zC G l p s m meth c cc nL own ret) : zOK G l := C.2.2.2.2.2.2.2
theorem zC.w (C : zC G l p s m meth c cc nL own ret) {w : Cond} (hw : zW w) : w.before args s = true := zword C.O C.E hw
def zFld (own : String) (index ci k : Nat) : Prop := ∃ (C : String) (T : u_T) (n : Nat), vwCl[ci]? = some (C, T, n) ∧ k < n ∧ zW (.fieldLink own index C (T k).2.1 (T k).2.2.1) ∧ (T k).1 = C ∧ ∀ w ∈ u_ws C T n, zW w
theorem z_get (C : zC G l p s m meth c cc nL own ret) (hw : zS G N Λ z s H locs) {i index ci k : Nat} {fs : List Value} {v : Value} (hi : i < N) (he : Λ i (z.1 i) (z.2 i) = .inr (ci, fs)) (hf : zFld own index ci k) (hv : fs[k]? = some v) (hdg : decode cc pc = .ok (.getfield index, 3))
    (kk : W p l e R s m args below meth c H locs cells slots Q (F0 m (pc + 3) ls (v :: rest))) : W p l e R s m args below meth c H locs cells slots Q (F0 m pc ls (.ref (G.h + i) :: rest)) := by
  obtain ⟨Cn, T, n, hc, hk, hl, h1, hu⟩ := hf
  exact va_get (D := G.D) (Ts := u_ws Cn T n) C.x C.b (fun w hw' => C.w (hu w hw')) (fun _ h => h) C.ow (zK C.O C.E) hw.1 i (by rw [zpl_at hi]; exact congrArg (fun e => some (G.h + i, e)) he) hc k hk (C.w hl) (fun x hx => by rw [h1] at hx; exact hx) hv hdg kk
def zPut (own : String) (index ci k : Nat) (ty : FieldType) : Prop := ∃ (C : String) (T : u_T) (n : Nat) (ty0 : Nat → FieldType), vwCl[ci]? = some (C, T, n) ∧ k < n ∧ zW (.fieldLink own index C (T k).2.1 (T k).2.2.1) ∧ (T k).1 = C ∧ (T k).2.2.2 = false ∧ parseFieldDescriptor (T k).2.2.1 = some ty ∧ (∀ w ∈ u_ws C T n, zW w) ∧ (∀ k, k < n → parseFieldDescriptor (T k).2.2.1 = some (ty0 k)) ∧ ∀ a, a < n → ∀ b, b < n → a ≠ b → (T a).2.1 ≠ (T b).2.1
theorem z_put (C : zC G l p s m meth c cc nL own ret) (hw : zS G N Λ z s H locs) {i index ci k : Nat} {fs : List Value} {x : Int32} {ty : FieldType} (hi : i < N) (he : Λ i (z.1 i) (z.2 i) = .inr (ci, fs)) (hf : zPut own index ci k ty) (he' : Λ i (upd (z.1 i) k x) (z.2 i) = .inr (ci, fs.set k (.int x))) (hn : narrow ty (.int x) = .int x) (hfit : fits ty (.int x) = true) (hl : k < fs.length) (hdg : decode cc pc = .ok (.putfield index, 3))
    (kk : ∀ (H : Heap) (locs : List Loc), zS G N Λ (zi z i k x) s H locs → W p l e R s m args below meth c H locs cells slots Q (F0 m (pc + 3) ls rest)) : W p l e R s m args below meth c H locs cells slots Q (F0 m pc ls (.int x :: .ref (G.h + i) :: rest)) := by
  obtain ⟨Cn, T, n, ty0, hc, hk, hlk, h1, hfin, hty, hu, hty0, hnm⟩ := hf
  refine va_put (D := G.D) (Ts := u_ws Cn T n) C.x C.b (fun w hw' => C.w (hu w hw')) (fun _ h => h) ty0 hty0 hnm C.ow (zK C.O C.E) hw.1 zpl_D hw.2 i (by rw [zpl_at hi]; exact congrArg (fun e => some (G.h + i, e)) he) hc k hk (C.w hlk) (fun x hx => by rw [h1] at hx; exact hx) hfin hty hn hfit hl hdg (fun H1 locs1 hP hD hS => kk H1 locs1 ⟨?_, hS⟩)
  rw [zL_r he'] at hP
  exact hP
/-- a long field -/
theorem z_putl (C : zC G l p s m meth c cc nL own ret) (hw : zS G N Λ z s H locs) {i index ci k : Nat} {fs : List Value} {x : Int64} (hi : i < N) (he : Λ i (z.1 i) (z.2 i) = .inr (ci, fs)) (hf : zPut own index ci k .long) (he' : Λ i (z.1 i) (vp_updL (z.2 i) k x) = .inr (ci, fs.set k (.long x))) (hl : k < fs.length) (hdg : decode cc pc = .ok (.putfield index, 3))
    (kk : ∀ (H : Heap) (locs : List Loc), zS G N Λ (zl z i k x) s H locs → W p l e R s m args below meth c H locs cells slots Q (F0 m (pc + 3) ls rest)) : W p l e R s m args below meth c H locs cells slots Q (F0 m pc ls (.long x :: .ref (G.h + i) :: rest)) := by
  obtain ⟨Cn, T, n, ty0, hc, hk, hlk, h1, hfin, hty, hu, hty0, hnm⟩ := hf
  refine va_put (D := G.D) (Ts := u_ws Cn T n) C.x C.b (fun w hw' => C.w (hu w hw')) (fun _ h => h) ty0 hty0 hnm C.ow (zK C.O C.E) hw.1 zpl_D hw.2 i (by rw [zpl_at hi]; exact congrArg (fun e => some (G.h + i, e)) he) hc k hk (C.w hlk) (fun x hx => by rw [h1] at hx; exact hx) hfin hty rfl rfl hl hdg (fun H1 locs1 hP hD hS => kk H1 locs1 ⟨?_, hS⟩)
  rw [zL_l he'] at hP
  exact hP
/-- int arrays, long arrays, arrays of references -/
def zIA (G : zG) (Λ : zLay) (i n : Nat) : Prop := ∀ f t, Λ i f t = .inl (G.cI, n, .inl f)
def zJA (G : zG) (Λ : zLay) (i n : Nat) : Prop := ∀ f t, Λ i f t = .inl (G.cJ, n, .inr (.inl t))
def zRA (cA : ClassId) (Λ : zLay) (i n : Nat) (g : Nat → Option Nat) : Prop := ∀ f t, Λ i f t = .inl (cA, n, .inr (.inr (.inr (.inr g))))
theorem z_iald (C : zC G l p s m meth c cc nL own ret) (hw : zS G N Λ z s H locs) {i n : Nat} {j : Int32} (hi : i < N) (he : zIA G Λ i n) (hin : vp_in j n) (hdg : decode cc pc = .ok (.iaload, 1))
    (kk : W p l e R s m args below meth c H locs cells slots Q (F0 m (pc + 1) ls (.int (z.1 i j.toNatClampNeg) :: rest))) : W p l e R s m args below meth c H locs cells slots Q (F0 m pc ls (.int j :: .ref (G.h + i) :: rest)) :=
  va_iald (D := G.D) (n := n) (f := z.1 i) C.x C.b (zK C.O C.E) hw.1 i 0 (by rw [zpl_at hi]; exact congrArg (fun e => some (G.h + i, e)) (he _ _)) rfl hin hdg kk
theorem z_iast (C : zC G l p s m meth c cc nL own ret) (hw : zS G N Λ z s H locs) {i n : Nat} {j x : Int32} (hi : i < N) (he : zIA G Λ i n) (hin : vp_in j n) (hdg : decode cc pc = .ok (.iastore, 1))
    (kk : ∀ (H : Heap) (locs : List Loc), zS G N Λ (zi z i j.toNatClampNeg x) s H locs → W p l e R s m args below meth c H locs cells slots Q (F0 m (pc + 1) ls rest)) : W p l e R s m args below meth c H locs cells slots Q (F0 m pc ls (.int x :: .int j :: .ref (G.h + i) :: rest)) := by
  refine va_iast (D := G.D) (n := n) (f := z.1 i) C.x C.b (zK C.O C.E) hw.1 zpl_D hw.2 i 0 (by rw [zpl_at hi]; exact congrArg (fun e => some (G.h + i, e)) (he _ _)) rfl hin hdg (fun H1 locs1 hP hD hS => kk H1 locs1 ⟨?_, hS⟩)
  rw [zL_r (he _ _)] at hP
  exact hP
theorem z_lald (C : zC G l p s m meth c cc nL own ret) (hw : zS G N Λ z s H locs) {i n : Nat} {j : Int32} (hi : i < N) (he : zJA G Λ i n) (hin : vp_in j n) (hdg : decode cc pc = .ok (.laload, 1))
    (kk : W p l e R s m args below meth c H locs cells slots Q (F0 m (pc + 1) ls (.long (z.2 i j.toNatClampNeg) :: rest))) : W p l e R s m args below meth c H locs cells slots Q (F0 m pc ls (.int j :: .ref (G.h + i) :: rest)) :=
  va_lald (D := G.D) (n := n) (f := z.2 i) C.x C.b (zK C.O C.E) hw.1 i 1 (by rw [zpl_at hi]; exact congrArg (fun e => some (G.h + i, e)) (he _ _)) rfl hin hdg kk
theorem z_last (C : zC G l p s m meth c cc nL own ret) (hw : zS G N Λ z s H locs) {i n : Nat} {j : Int32} {x : Int64} (hi : i < N) (he : zJA G Λ i n) (hin : vp_in j n) (hdg : decode cc pc = .ok (.lastore, 1))
    (kk : ∀ (H : Heap) (locs : List Loc), zS G N Λ (zl z i j.toNatClampNeg x) s H locs → W p l e R s m args below meth c H locs cells slots Q (F0 m (pc + 1) ls rest)) : W p l e R s m args below meth c H locs cells slots Q (F0 m pc ls (.long x :: .int j :: .ref (G.h + i) :: rest)) := by
  refine va_last (D := G.D) (n := n) (f := z.2 i) C.x C.b (zK C.O C.E) hw.1 zpl_D hw.2 i 1 (by rw [zpl_at hi]; exact congrArg (fun e => some (G.h + i, e)) (he _ _)) rfl hin hdg (fun H1 locs1 hP hD hS => kk H1 locs1 ⟨?_, hS⟩)
  rw [zL_l (he _ _)] at hP
  exact hP
theorem z_aaldM (C : zC G l p s m meth c cc nL own ret) (hw : zS G N Λ z s H locs) {i n a : Nat} {g : Nat → Option Nat} {j : Int32} (hi : i < N) (he : zRA G.cM Λ i n g) (hin : vp_in j n) (hv : g j.toNatClampNeg = some a) (hdg : decode cc pc = .ok (.aaload, 1))
    (kk : W p l e R s m args below meth c H locs cells slots Q (F0 m (pc + 1) ls (.ref a :: rest))) : W p l e R s m args below meth c H locs cells slots Q (F0 m pc ls (.int j :: .ref (G.h + i) :: rest)) :=
  va_aldq (D := G.D) (n := n) (f := g) C.x C.b (zK C.O C.E) hw.1 i 2 (by rw [zpl_at hi]; exact congrArg (fun e => some (G.h + i, e)) (he _ _)) rfl hin hdg (by rw [hv]; exact kk)
theorem z_aaldW (C : zC G l p s m meth c cc nL own ret) (hw : zS G N Λ z s H locs) {i n a : Nat} {g : Nat → Option Nat} {j : Int32} (hi : i < N) (he : zRA G.cW Λ i n g) (hin : vp_in j n) (hv : g j.toNatClampNeg = some a) (hdg : decode cc pc = .ok (.aaload, 1))
    (kk : W p l e R s m args below meth c H locs cells slots Q (F0 m (pc + 1) ls (.ref a :: rest))) : W p l e R s m args below meth c H locs cells slots Q (F0 m pc ls (.int j :: .ref (G.h + i) :: rest)) :=
  va_aldq (D := G.D) (n := n) (f := g) C.x C.b (zK C.O C.E) hw.1 i 3 (by rw [zpl_at hi]; exact congrArg (fun e => some (G.h + i, e)) (he _ _)) rfl hin hdg (by rw [hv]; exact kk)
def zCpy (own : String) (index : Nat) : Prop := zW (.methodLink own index arraycopyName) ∧ zW (.native arraycopyName) ∧ zW (.static arraycopyName) ∧ zW (.initialized "java/lang/System")
theorem z_copy (C : zC G l p s m meth c cc nL own ret) (hw : zS G N Λ z s H locs) {lv : List (Nat × Value)} (hl : lv_has ls nL lv) {i k n0 n1 index : Nat} {sp dp n : Int32} (hi : i < N) (he : zIA G Λ i n0) (hk : k < N) (hek : zIA G Λ k n1) (hf : zCpy own index) (h1 : ¬ sp < 0) (h2 : ¬ dp < 0) (h3 : ¬ n < 0) (h4 : sp.toNatClampNeg + n.toNatClampNeg ≤ n0) (h5 : dp.toNatClampNeg + n.toNatClampNeg ≤ n1)
    (hframes : 1 ≤ R.frames) (hlocals : (rest.map fun v => v.category).sum + (nativeFrameWords "java/lang/System" "arraycopy" 5 + 11) ≤ R.locals) (hdg : decode cc pc = .ok (.invokestatic index, 3))
    (kk : ∀ (H : Heap) (locs : List Loc), zS G N Λ (zr z k (va_cpy (z.1 i) (z.1 k) sp.toNatClampNeg dp.toNatClampNeg n.toNatClampNeg)) s H locs → W p l e R s m args below meth c H locs cells slots Q (F0 m (pc + 3) ls rest)) : W p l e R s m args below meth c H locs cells slots Q (F0 m pc ls (.int n :: .int dp :: .ref (G.h + k) :: .int sp :: .ref (G.h + i) :: rest)) := by
  refine va_copyi (D := G.D) (ty := .int) (f := z.1 i) (g := z.1 k) C.x C.b (C.ml.trans hl.1.symm) C.ow (C.w hf.1) (C.w hf.2.1) (C.w hf.2.2.1) (C.w hf.2.2.2) (zK C.O C.E) hw.1 zpl_D hw.2 i k 0 0 (by rw [zpl_at hi]; exact congrArg (fun e => some (G.h + i, e)) (he _ _)) (by rw [zpl_at hk]; exact congrArg (fun e => some (G.h + k, e)) (hek _ _)) rfl rfl rfl h1 h2 h3 h4 h5 (fun _ _ => rfl) hframes hlocals hdg (fun H1 locs1 hP hD hS => kk H1 locs1 ⟨?_, hS⟩)
  rw [zL_r (hek _ _)] at hP
  exact hP
/-- calls -/
def zNm (y : MethodName) (n : Nat) : Prop := (y.cls ≠ "java/lang/invoke/MethodHandle" ∧ y.cls ≠ "java/lang/invoke/VarHandle") ∧ (parseMethodDescriptor y.desc).map (fun d => d.parameters.length) = some n
def zIv (own : String) (index ci : Nat) (y : MethodName) (cy : ByteArray) (nLy : Nat) (rety : Option FieldType) (n : Nat) : Prop := ∃ r : vw_C, vwCl[ci]? = some r ∧ zW (.methodLink own index y) ∧ zW (.instanceMethod y) ∧ zW (.selects r.1 y y) ∧ zW (.initialized y.cls) ∧ zW (.code y cy nLy rety) ∧ zNm y n
def zIs (own : String) (index : Nat) (y : MethodName) (cy : ByteArray) (nLy : Nat) (rety : Option FieldType) (n : Nat) : Prop := zW (.methodLink own index y) ∧ zW (.static y) ∧ zW (.initialized y.cls) ∧ zW (.code y cy nLy rety) ∧ zNm y n
def zIn (own : String) (index : Nat) (y : MethodName) (host : String) (cy : ByteArray) (nLy : Nat) (rety : Option FieldType) (n : Nat) : Prop := Cond.methodLinkNest own index y host ∈ lw_tbl ∧ zW (.static y) ∧ zW (.initialized y.cls) ∧ zW (.code y cy nLy rety) ∧ zNm y n
theorem zNm.n {y : MethodName} {n : Nat} (h : zNm y n) : ∀ sig, parseMethodDescriptor y.desc = some sig → n = sig.parameters.length := fun sig hs => by
  have h2 := h.2
  rw [hs] at h2
  exact (Option.some.inj h2).symm
theorem zCode {y : MethodName} {cy : ByteArray} {nLy : Nat} {rety : Option FieldType} (C : zC G l p s m meth c cc nL own ret) (h : zW (.code y cy nLy rety)) : ∀ w ∈ [Cond.code y cy nLy rety], ∀ (a' : Array Value) (U : State), s.WarmedH U.vm → w.before a' U = true := fun w hw a' U hW => by
  rw [List.mem_singleton.mp hw]
  exact word_at hW (good_of_word h.2) (C.w (args := #[]) h)
/-- behind a call that returned -/
theorem z_back {mc ms : Nat} {r : Option Value} {g : JFrame} {a : Array Value} (C : zC G l p s m meth c cc nL own ret) (hw : zS G N Λ z s H locs) (hr : va_Run p l e R s m args below meth c H locs cells slots mc ms g rest (zQc G N Λ r z' a) (zA G))
    (kk : ∀ (H : Heap) (locs : List Loc), zS G N Λ z' s H locs → W p l e R s m args below meth c H locs (cells + mc) (slots + ms) Q { g with pc := g.pc + 3, stack := r.toList ++ rest }) : W p l e R s m args below meth c H locs cells slots Q g := by
  intro T hT X
  obtain ⟨v, st₀, t, T', L, h0, X', hL, e1, e2, ⟨hv, hP, hz, hk⟩, st⟩ := hr T hT X
  cases hv
  rw [h0] at hz hk
  obtain ⟨t2, a1, b1⟩ := kk T'.heap (locs ++ L) ⟨by rw [e1]; exact hP, Nat.le_trans hw.2.1 (by rw [e1]; exact hz), fun q h1 h2 => by rw [e1, hk q (Nat.lt_of_lt_of_le h1 hw.2.1) h2]; exact hw.2.2.1 q h1 h2, fun q hq => by
      rcases List.mem_append.mp hq with h | h
      · exact hw.2.2.2 q h
      · exact hL q h⟩ T' rfl X'
  exact ⟨t2, st t2 a1, b1⟩
theorem zEs (C : zC G l p s m meth c cc nL own ret) (hw : zS G N Λ z s H locs) {U : State} (hU : U.heap = H) (hW : s.WarmedH U.vm) : zE G U := C.E.warm hW (hw.2.F hU)
theorem z_runV {y : MethodName} {cy : ByteArray} {nLy n index i ci k : Nat} {rety : Option FieldType} {As : List Value} {fs : List Value} {lv : List (Nat × Value)} {r : Option Value} (C : zC G l p s m meth c cc nL own ret) (hw : zS G N Λ z s H locs) (hl : lv_has ls nL lv) (hM : zMet G N Λ l y cy nLy rety k (.ref (G.h + i) :: As) z r z') (iv : zIv own index ci y cy nLy rety n) (hi : i < N) (he : Λ i (z.1 i) (z.2 i) = .inr (ci, fs)) (hn : As.length = n) (hR : k + 1 ≤ R.frames ∧ 8 + (nLy + 11) + 30 * k ≤ R.locals) (hW : (rest.map fun v => v.category).sum ≤ 8) (hc0 : cells ≤ R.cells) (hs0 : slots ≤ R.slots) (hdg : decode cc pc = .ok (.invokevirtual index, 3))
    : va_Run p l e R s m args below meth c H locs cells slots 0 0 (F0 m pc ls (As.reverse ++ .ref (G.h + i) :: rest)) rest (zQc G N Λ r z' (Value.ref (G.h + i) :: As).toArray) (zA G) := by
  obtain ⟨rc, hc, h1, h2, h3, h4, h5, h6⟩ := iv
  exact va_runV (Ts := []) (C := rc.1) (n := n) ⟨C.x, C.b, C.ml, C.ow, fun _ h => by cases h⟩ hM ⟨⟨rfl, rfl, hR.1, hR.2, zCode C h5, List.mem_singleton.mpr rfl, C.w h5, C.w h4, h6.1, h6.n, C.w h1⟩, C.w h2, C.w h3⟩ ⟨zPc_blind, va_recv (zK C.O C.E) hw.1 hc (q0 := i) (by rw [zpl_at hi]; exact congrArg (fun e => some (G.h + i, e)) he), fun U hU hW => ⟨rfl, zEs C hw hU hW, by rw [hU]; exact hw.1⟩⟩ rfl hn hl.1 rfl (lv_room hW) hdg ⟨hc0, hs0⟩
theorem z_runS {y : MethodName} {cy : ByteArray} {nLy n index k : Nat} {rety : Option FieldType} {As : List Value} {lv : List (Nat × Value)} {r : Option Value} (C : zC G l p s m meth c cc nL own ret) (hw : zS G N Λ z s H locs) (hl : lv_has ls nL lv) (hM : zMet G N Λ l y cy nLy rety k As z r z') (iv : zIs own index y cy nLy rety n) (hn : As.length = n) (hR : k + 1 ≤ R.frames ∧ 8 + (nLy + 11) + 30 * k ≤ R.locals) (hW : (rest.map fun v => v.category).sum ≤ 8) (hc0 : cells ≤ R.cells) (hs0 : slots ≤ R.slots) (hdg : decode cc pc = .ok (.invokestatic index, 3))
    : va_Run p l e R s m args below meth c H locs cells slots 0 0 (F0 m pc ls (As.reverse ++ rest)) rest (zQc G N Λ r z' As.toArray) (zA G) := by
  obtain ⟨h1, h3, h4, h5, h6⟩ := iv
  exact va_runS (Ts := []) (n := n) ⟨C.x, C.b, C.ml, C.ow, fun _ h => by cases h⟩ hM ⟨⟨rfl, rfl, hR.1, hR.2, zCode C h5, List.mem_singleton.mpr rfl, C.w h5, C.w h4, h6.1, h6.n, C.w h1⟩, C.w h3⟩ ⟨zPc_blind, fun U hU hW => ⟨rfl, zEs C hw hU hW, by rw [hU]; exact hw.1⟩⟩ rfl hn hl.1 rfl (lv_room hW) hdg ⟨hc0, hs0⟩
theorem z_runN {y : MethodName} {host : String} {cy : ByteArray} {nLy n index k : Nat} {rety : Option FieldType} {As : List Value} {lv : List (Nat × Value)} {r : Option Value} (C : zC G l p s m meth c cc nL own ret) (hw : zS G N Λ z s H locs) (hl : lv_has ls nL lv) (hM : zMet G N Λ l y cy nLy rety k As z r z') (iv : zIn own index y host cy nLy rety n) (hn : As.length = n) (hR : k + 1 ≤ R.frames ∧ 8 + (nLy + 11) + 30 * k ≤ R.locals) (hW : (rest.map fun v => v.category).sum ≤ 8) (hc0 : cells ≤ R.cells) (hs0 : slots ≤ R.slots) (hdg : decode cc pc = .ok (.invokestatic index, 3))
    : va_Run p l e R s m args below meth c H locs cells slots 0 0 (F0 m pc ls (As.reverse ++ rest)) rest (zQc G N Λ r z' As.toArray) (zA G) := by
  obtain ⟨h1, h3, h4, h5, h6⟩ := iv
  exact va_runSN (Ts := []) (n := n) (host := host) ⟨C.x, C.b, C.ml, C.ow, fun _ h => by cases h⟩ hM ⟨⟨⟨rfl, rfl, hR.1, hR.2, zCode C h5, List.mem_singleton.mpr rfl⟩, C.w h5, C.w h4, h6.1, h6.n, va_Nw.use rfl (va_Nw.warmM C.E.1 (va_Nw.of rfl (C.O.1 _ h1)))⟩, C.w h3, trivial⟩ ⟨zPc_blind, fun U hU hW => ⟨rfl, zEs C hw hU hW, by rw [hU]; exact hw.1⟩⟩ rfl hn hl.1 rfl (lv_room hW) hdg ⟨hc0, hs0⟩
/-- calls, an answer or none -/
theorem z_Vv {y : MethodName} {cy : ByteArray} {nLy n index i ci k : Nat} {rety : Option FieldType} {As st : List Value} {fs : List Value} {lv : List (Nat × Value)} {v : Value} (C : zC G l p s m meth c cc nL own ret) (hw : zS G N Λ z s H locs) (hl : lv_has ls nL lv) (hM : zMet G N Λ l y cy nLy rety k (.ref (G.h + i) :: As) z (some v) z') (iv : zIv own index ci y cy nLy rety n) (hi : i < N) (he : Λ i (z.1 i) (z.2 i) = .inr (ci, fs)) (hst : st = As.reverse ++ .ref (G.h + i) :: rest) (hn : As.length = n) (hR : k + 1 ≤ R.frames ∧ 8 + (nLy + 11) + 30 * k ≤ R.locals) (hW : (rest.map fun v => v.category).sum ≤ 8) (hc0 : cells ≤ R.cells ∧ slots ≤ R.slots) (hdg : decode cc pc = .ok (.invokevirtual index, 3))
    (kk : ∀ (H : Heap) (locs : List Loc), zS G N Λ z' s H locs → W p l e R s m args below meth c H locs cells slots Q (F0 m (pc + 3) ls (v :: rest))) : W p l e R s m args below meth c H locs cells slots Q (F0 m pc ls st) := by
  subst hst
  exact z_back C hw (z_runV C hw hl hM iv hi he hn hR hW hc0.1 hc0.2 hdg) kk
theorem z_V0 {y : MethodName} {cy : ByteArray} {nLy n index i ci k : Nat} {rety : Option FieldType} {As st : List Value} {fs : List Value} {lv : List (Nat × Value)} (C : zC G l p s m meth c cc nL own ret) (hw : zS G N Λ z s H locs) (hl : lv_has ls nL lv) (hM : zMet G N Λ l y cy nLy rety k (.ref (G.h + i) :: As) z none z') (iv : zIv own index ci y cy nLy rety n) (hi : i < N) (he : Λ i (z.1 i) (z.2 i) = .inr (ci, fs)) (hst : st = As.reverse ++ .ref (G.h + i) :: rest) (hn : As.length = n) (hR : k + 1 ≤ R.frames ∧ 8 + (nLy + 11) + 30 * k ≤ R.locals) (hW : (rest.map fun v => v.category).sum ≤ 8) (hc0 : cells ≤ R.cells ∧ slots ≤ R.slots) (hdg : decode cc pc = .ok (.invokevirtual index, 3))
    (kk : ∀ (H : Heap) (locs : List Loc), zS G N Λ z' s H locs → W p l e R s m args below meth c H locs cells slots Q (F0 m (pc + 3) ls rest)) : W p l e R s m args below meth c H locs cells slots Q (F0 m pc ls st) := by
  subst hst
  exact z_back C hw (z_runV C hw hl hM iv hi he hn hR hW hc0.1 hc0.2 hdg) kk
theorem z_Sv {y : MethodName} {cy : ByteArray} {nLy n index k : Nat} {rety : Option FieldType} {As st : List Value} {lv : List (Nat × Value)} {v : Value} (C : zC G l p s m meth c cc nL own ret) (hw : zS G N Λ z s H locs) (hl : lv_has ls nL lv) (hM : zMet G N Λ l y cy nLy rety k As z (some v) z') (iv : zIs own index y cy nLy rety n) (hst : st = As.reverse ++ rest) (hn : As.length = n) (hR : k + 1 ≤ R.frames ∧ 8 + (nLy + 11) + 30 * k ≤ R.locals) (hW : (rest.map fun v => v.category).sum ≤ 8) (hc0 : cells ≤ R.cells ∧ slots ≤ R.slots) (hdg : decode cc pc = .ok (.invokestatic index, 3))
    (kk : ∀ (H : Heap) (locs : List Loc), zS G N Λ z' s H locs → W p l e R s m args below meth c H locs cells slots Q (F0 m (pc + 3) ls (v :: rest))) : W p l e R s m args below meth c H locs cells slots Q (F0 m pc ls st) := by
  subst hst
  exact z_back C hw (z_runS C hw hl hM iv hn hR hW hc0.1 hc0.2 hdg) kk
theorem z_S0 {y : MethodName} {cy : ByteArray} {nLy n index k : Nat} {rety : Option FieldType} {As st : List Value} {lv : List (Nat × Value)} (C : zC G l p s m meth c cc nL own ret) (hw : zS G N Λ z s H locs) (hl : lv_has ls nL lv) (hM : zMet G N Λ l y cy nLy rety k As z none z') (iv : zIs own index y cy nLy rety n) (hst : st = As.reverse ++ rest) (hn : As.length = n) (hR : k + 1 ≤ R.frames ∧ 8 + (nLy + 11) + 30 * k ≤ R.locals) (hW : (rest.map fun v => v.category).sum ≤ 8) (hc0 : cells ≤ R.cells ∧ slots ≤ R.slots) (hdg : decode cc pc = .ok (.invokestatic index, 3))
    (kk : ∀ (H : Heap) (locs : List Loc), zS G N Λ z' s H locs → W p l e R s m args below meth c H locs cells slots Q (F0 m (pc + 3) ls rest)) : W p l e R s m args below meth c H locs cells slots Q (F0 m pc ls st) := by
  subst hst
  exact z_back C hw (z_runS C hw hl hM iv hn hR hW hc0.1 hc0.2 hdg) kk
theorem z_Nv {y : MethodName} {host : String} {cy : ByteArray} {nLy n index k : Nat} {rety : Option FieldType} {As st : List Value} {lv : List (Nat × Value)} {v : Value} (C : zC G l p s m meth c cc nL own ret) (hw : zS G N Λ z s H locs) (hl : lv_has ls nL lv) (hM : zMet G N Λ l y cy nLy rety k As z (some v) z') (iv : zIn own index y host cy nLy rety n) (hst : st = As.reverse ++ rest) (hn : As.length = n) (hR : k + 1 ≤ R.frames ∧ 8 + (nLy + 11) + 30 * k ≤ R.locals) (hW : (rest.map fun v => v.category).sum ≤ 8) (hc0 : cells ≤ R.cells ∧ slots ≤ R.slots) (hdg : decode cc pc = .ok (.invokestatic index, 3))
    (kk : ∀ (H : Heap) (locs : List Loc), zS G N Λ z' s H locs → W p l e R s m args below meth c H locs cells slots Q (F0 m (pc + 3) ls (v :: rest))) : W p l e R s m args below meth c H locs cells slots Q (F0 m pc ls st) := by
  subst hst
  exact z_back C hw (z_runN C hw hl hM iv hn hR hW hc0.1 hc0.2 hdg) kk
/-- ends -/
theorem z_end {r : Option Value} (hw : zS G N Λ z s H locs) : ∀ t : State, t.heap = H → s.WarmedH t.vm → zQc G N Λ r z args s (.returned r) t := fun t ht _ => ⟨rfl, by rw [ht]; exact hw.1, hw.2.F ht⟩
theorem z_iret {v : Int32} {r : Option Value} (C : zC G l p s m meth c cc nL own (some .int)) (hw : zS G N Λ z s H locs) (hdg : decode cc pc = .ok (.ireturn, 1)) (hv : r = some (.int v)) (hz : z' = z) :
    W p l e R s m args below meth c H locs cells slots (MQ below (zQc G N Λ r z') args s cells slots (zA G)) (F0 m pc ls [.int v]) := by
  subst hv; subst hz
  exact W.iret C.x C.b C.rt (z_end hw) hw.2.2.2 hdg C.lk
theorem z_zret {v : Int32} {r : Option Value} (C : zC G l p s m meth c cc nL own (some .boolean)) (hw : zS G N Λ z s H locs) (hdg : decode cc pc = .ok (.ireturn, 1)) (hb : v = 0 ∨ v = 1) (hv : r = some (.int v)) (hz : z' = z) :
    W p l e R s m args below meth c H locs cells slots (MQ below (zQc G N Λ r z') args s cells slots (zA G)) (F0 m pc ls [.int v]) := by
  subst hv; subst hz
  exact W.zret C.x C.b C.rt (by rcases hb with rfl | rfl <;> rfl) (z_end hw) hw.2.2.2 hdg C.lk
theorem z_lret {v : Int64} {r : Option Value} (C : zC G l p s m meth c cc nL own (some .long)) (hw : zS G N Λ z s H locs) (hdg : decode cc pc = .ok (.lreturn, 1)) (hv : r = some (.long v)) (hz : z' = z) :
    W p l e R s m args below meth c H locs cells slots (MQ below (zQc G N Λ r z') args s cells slots (zA G)) (F0 m pc ls [.long v]) := by
  subst hv; subst hz
  exact W.lret C.x C.b C.rt (z_end hw) hw.2.2.2 hdg C.lk
theorem z_vret {r : Option Value} (C : zC G l p s m meth c cc nL own none) (hw : zS G N Λ z s H locs) (hdg : decode cc pc = .ok (.return_, 1)) (hv : r = none) (hz : z' = z) :
    W p l e R s m args below meth c H locs cells slots (MQ below (zQc G N Λ r z') args s cells slots (zA G)) (F0 m pc ls []) := by
  subst hv; subst hz
  exact W.vret C.x C.b C.rt (z_end hw) hw.2.2.2 hdg C.lk
end ZROWS
