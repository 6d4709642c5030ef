/-! ===== methods that catch what they call ===== -/
def zXF : String → State → State → Prop := fun _ _ _ => False
def zMW (G : zG) (N : Nat) (Λ : zLay) (l : Launch) (y : MethodName) (cc : ByteArray) (nL : Nat) (ret : Option FieldType) (hh : List (Nat × Nat × Nat × Nat)) (k : Nat) (av : List Value) (z : zM) (r : Option Value) (z' : zM) : Prop :=
  vx_Met l y [.codeWith y cc nL ret hh] (zRx k) (zPc G N Λ av z) (zQc G N Λ r z') zXF 1 6 (zA G)
theorem zMW_of {G : zG} {N : Nat} {Λ : zLay} {l : Launch} {y : MethodName} {cc : ByteArray} {nL : Nat} {ret : Option FieldType} {hh : List (Nat × Nat × Nat × Nat)} {k : Nat} {av : List Value} {z z' : zM} {r : Option Value} (hO : zOK G l) (hy : plainName y.cls = true) (hsl : (lg_sl av).length ≤ nL) (hcw : zW (.codeWith y cc nL ret hh))
    (body : ∀ (p : Program) (e : Env) (s : State) (m : MethodId) (below : List Frame) (meth : Method) (c : Code) (ls : Array Slot), zC G l p s m meth c cc nL y.cls ret → c.exceptionTable.toList = tableOf hh → zS G N Λ z s s.heap [] → lv_has ls nL (lv_args 0 av) →
      W p l e (zRx k) s m av.toArray below meth c s.heap [] 0 0 (MQ below (zQc G N Λ r z') av.toArray s 1 6 (zA G)) (F0 m 0 ls [])) : zMW G N Λ l y cc nL ret hh k av z r z' := by
  refine vx_ofWH (cc := cc) (maxL := nL) (ret := ret) (hh := hh) hy rfl ?_
  intro p e s m args below meth c s₁ B hml hv
  obtain ⟨rfl, hE, hP⟩ := hv
  have hl := lv_entry av (n := nL) hsl
  rw [lg_entry_eq]
  exact vx_ret (body p e s m below meth c _ ⟨B.exec, B.bytes, hml, findClass_of_methodNamed B.named, B.returns, B.notSynchronized, hE, hO⟩ (vx_table (x := y) B (zword hO hE hcw)) ⟨hP, va_S.rf⟩ hl)
section ZW
variable {p : Program} {l : Launch} {e : Env} {R : Room} {s : State} {m : MethodId} {args : Array Value} {below : List Frame} {meth : Method} {c : Code} {H : Heap} {locs : List Loc} {cells slots : Nat} {Q : State → Prop}
variable {cc : ByteArray} {pc : Nat} {ls : Array Slot} {rest : List Value} {G : zG} {N : Nat} {Λ : zLay} {z z' : zM} {nL : Nat} {own : String} {ret : Option FieldType}
theorem z_wid {g : JFrame} {k n : Nat} (h1 : cells ≤ k) (h2 : slots ≤ n) (kk : W p l e R s m args below meth c H locs k n Q g) : W p l e R s m args below meth c H locs cells slots Q g := fun T hT X => kk T hT (stand_widen X h1 h2)
theorem z_not {E nm : String} (hO : zOK G l) (hE : zE G s) (h : Cond.not (.castable E nm) ∈ flatC (Jvm.Cond.and given_1 narrow_1)) : va_Nc E nm s := va_Nc.moved hE.1.alike (va_Nc.of (flat_of_before _ hO.2.2.2 _ h))
/-- a call that throws what a row of this method's table takes -/
theorem z_VC {y : MethodName} {cy : ByteArray} {nLy n index i ci k : Nat} {rety : Option FieldType} {As st : List Value} {fs : List Value} {lv : List (Nat × Value)} {E : String} {hh : List (Nat × Nat × Nat × Nat)} (pre : List ExceptionTableEntry) (x : ExceptionTableEntry) (suf : List ExceptionTableEntry) (C : zC G l p s m meth c cc nL own ret) (htab : c.exceptionTable.toList = tableOf hh) (hsp : tableOf hh = pre ++ x :: suf)
    (hpass : ∀ r ∈ pre, r.catchType ≠ 0 ∧ ∃ nm : String, zW (.classLink own r.catchType nm) ∧ Cond.not (.castable E nm) ∈ flatC (Jvm.Cond.and given_1 narrow_1)) (hx : covers x pc = true) (h0 : x.catchType ≠ 0) (hlk : zW (.classLink own x.catchType E)) (hct : Cond.castable E E ∈ lw_tbl)
    (hw : zS G N Λ z s H locs) (hl : lv_has ls nL lv) (hM : zMX G N Λ l y cy nLy rety k (.ref (G.h + i) :: As) z E) (iv : zIv own index ci y cy nLy rety n) (hi : i < N) (he : Λ i (z.1 i) (z.2 i) = .inr (ci, fs)) (hst : st = As.reverse ++ .ref (G.h + i) :: rest) (hn : As.length = n) (hR : k + 1 ≤ R.frames ∧ 8 + (nLy + 11) + 30 * k ≤ R.locals) (hW : (rest.map fun v => v.category).sum ≤ 8) (hc0 : cells + 1 ≤ R.cells ∧ slots + 6 ≤ R.slots) (hdg : decode cc pc = .ok (.invokevirtual index, 3))
    (kk : ∀ (H : Heap) (locs : List Loc) (q : Addr), zS G N Λ z s H locs → W p l e R s m args below meth c H locs (cells + 1) (slots + 6) Q (F0 m x.handlerPc ls [.ref q])) : W p l e R s m args below meth c H locs cells slots Q (F0 m pc ls st) := by
  subst hst
  refine z_xback hw (z_runVX C hw hl hM iv hi he hn hR hW hc0 hdg) (fun ce q H locs hw hc hv hcl => ?_)
  refine vx_catch C.ow pre x suf (htab.trans hsp) (fun r hr => ?_) hx h0 (C.w hlk) (zkp_at C.O C.E hct rfl) hc hv hcl (kk H locs q hw)
  obtain ⟨g1, nm, g2, g3⟩ := hpass r hr
  exact Or.inr ⟨g1, nm, C.w g2, z_not C.O C.E g3⟩
def zIw (own : String) (index : Nat) (y : MethodName) (cy : ByteArray) (nLy : Nat) (rety : Option FieldType) (hh : List (Nat × Nat × Nat × Nat)) (n : Nat) : Prop := zW (.methodLink own index y) ∧ zW (.static y) ∧ zW (.initialized y.cls) ∧ zW (.codeWith y cy nLy rety hh) ∧ zNm y n
theorem z_SW {y : MethodName} {cy : ByteArray} {nLy n index k : Nat} {rety : Option FieldType} {As st : List Value} {lv : List (Nat × Value)} {v : Value} {hh : List (Nat × Nat × Nat × Nat)} (C : zC G l p s m meth c cc nL own ret) (hw : zS G N Λ z s H locs) (hl : lv_has ls nL lv) (hM : zMW G N Λ l y cy nLy rety hh k As z (some v) z') (iv : zIw own index y cy nLy rety hh n) (hst : st = As.reverse ++ rest) (hn : As.length = n) (hR : k + 1 ≤ R.frames ∧ 8 + (nLy + 11) + 30 * k ≤ R.locals) (hW : (rest.map fun v => v.category).sum ≤ 8) (hc0 : cells + 1 ≤ R.cells ∧ slots + 6 ≤ R.slots) (hdg : decode cc pc = .ok (.invokestatic index, 3))
    (kk : ∀ (H : Heap) (locs : List Loc), zS G N Λ z' s H locs → W p l e R s m args below meth c H locs (cells + 1) (slots + 6) Q (F0 m (pc + 3) ls (v :: rest))) : W p l e R s m args below meth c H locs cells slots Q (F0 m pc ls st) := by
  subst hst
  obtain ⟨h1, h3, h4, h5, h6⟩ := iv
  have hcd : ∀ w ∈ [Cond.codeWith y cy nLy rety hh], ∀ (a' : Array Value) (U : State), s.WarmedH U.vm → w.before a' U = true := fun w hw9 a' U hW => by
    rw [List.mem_singleton.mp hw9]
    exact word_at hW (good_of_word h5.2) (C.w (args := #[]) h5)
  have hr := vx_runSX (Ts := []) (n := n) (args := args) (rest := rest) (H := H) (locs := locs) (cells := cells) (slots := slots) (below := below) (meth := meth) (e := e) (R := R) (g := F0 m pc ls (As.reverse ++ rest)) ⟨C.x, C.b, C.ml, C.ow, fun _ h => by cases h⟩ hM ⟨⟨rfl, rfl, hR.1, hR.2, hcd, List.mem_singleton.mpr rfl⟩, C.w h5, C.w h4, h6.1, h6.n, C.w h1, C.w h3⟩ ⟨zPc_blind, fun U hU hW => ⟨rfl, zEs C hw hU hW, by rw [hU]; exact hw.1⟩⟩ rfl hn hl.1 rfl (lv_room hW) hdg hc0
  intro T hT X
  rcases hr T hT X with ⟨v9, st₀, t, T', L, h0, X', hL, e1, e2, ⟨hv, hP, hz, hk⟩, st⟩ | ⟨q, st₀, t, T', L, E', ce, h0, X', hL, e1, e2, hF, hce, hcv, hcl, st⟩
  · cases hv
    rw [h0] at hz hk
    obtain ⟨t2, a1, b1⟩ := kk T'.heap (locs ++ L) ⟨by rw [e1]; exact hP, Nat.le_trans hw.2.1 (by rw [e1]; exact hz), fun q h1 h2 => by rw [e1, hk q (Nat.lt_of_lt_of_le h1 hw.2.1) h2]; exact hw.2.2.1 q h1 h2, fun q hq => by
        rcases List.mem_append.mp hq with h | h
        · exact hw.2.2.2 q h
        · exact hL q h⟩ T' rfl X'
    exact ⟨t2, st t2 a1, b1⟩
  · exact hF.elim
end ZW
theorem zc_IOB : Cond.castable "java/lang/IndexOutOfBoundsException" "java/lang/IndexOutOfBoundsException" ∈ lw_tbl := by decide +kernel
theorem zc_IAE : Cond.castable "java/lang/IllegalArgumentException" "java/lang/IllegalArgumentException" ∈ lw_tbl := by decide +kernel
theorem zc_ISE : Cond.castable "java/lang/IllegalStateException" "java/lang/IllegalStateException" ∈ lw_tbl := by decide +kernel
theorem zl_13 : zW (.classLink RL 13 "java/lang/IllegalArgumentException") := ⟨by decide +kernel, rfl⟩
theorem zl_19 : zW (.classLink RL 19 "java/lang/IndexOutOfBoundsException") := ⟨by decide +kernel, rfl⟩
theorem zl_21 : zW (.classLink RL 21 "java/lang/IllegalStateException") := ⟨by decide +kernel, rfl⟩
theorem zn_AO : Cond.not (.castable "java/lang/IllegalArgumentException" "java/lang/IndexOutOfBoundsException") ∈ flatC (Jvm.Cond.and given_1 narrow_1) := by decide +kernel
theorem zn_SO : Cond.not (.castable "java/lang/IllegalStateException" "java/lang/IndexOutOfBoundsException") ∈ flatC (Jvm.Cond.and given_1 narrow_1) := by decide +kernel
theorem zn_SA : Cond.not (.castable "java/lang/IllegalStateException" "java/lang/IllegalArgumentException") ∈ flatC (Jvm.Cond.and given_1 narrow_1) := by decide +kernel
