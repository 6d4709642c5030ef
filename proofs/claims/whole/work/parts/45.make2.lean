/-- a constructor: from the pool (N, F) to (N', F'); mc cells and ms slots are new -/
def zRn (k mc ms : Nat) : Room := { frames := k, cells := mc, slots := ms, locals := 30 * k }
def zPn (G : zG) (N : Nat) (F : Nat → va_E) (av : List Value) : Array Value → State → Prop := va_Pc av (fun U => zE G U ∧ va_P G.D vwCl (zpl G.h N F) U.heap ∧ U.heap.size = G.h + N)
def zQn (G : zG) (N : Nat) (F : Nat → va_E) : Array Value → State → Outcome → State → Prop := fun _ st oc t => oc = .returned none ∧ va_P G.D vwCl (zpl G.h N F) t.heap ∧ va_F (zA G) st t
def zNw (G : zG) (l : Launch) (y : MethodName) (cc : ByteArray) (nL k mc ms : Nat) (av : List Value) (N : Nat) (F : Nat → va_E) (N' : Nat) (F' : Nat → va_E) : Prop :=
  Met l y [.code y cc nL none] (zRn k mc ms) (zPn G N F av) (zQn G N' F') mc ms (zA G)
theorem zPn_blind {G : zG} {N : Nat} {F : Nat → va_E} {av : List Value} : FrameBlind (zPn G N F av) := fun a U g mk h => ⟨h.1, ⟨h.2.1.1, h.2.1.2⟩, h.2.2⟩
theorem zNw_of {G : zG} {l : Launch} {y : MethodName} {cc : ByteArray} {nL k mc ms : Nat} {av : List Value} {N N' : Nat} {F F' : Nat → va_E} (hO : zOK G l) (hy : plainName y.cls = true) (hsl : (lg_sl av).length ≤ nL)
    (body : ∀ (p : Program) (e : Env) (s : State) (m : MethodId) (below : List Frame) (meth : Method) (c : Code) (ls : Array Slot), zC G l p s m meth c cc nL y.cls none → meth.name = y.name → zN G N F s s.heap [] → s.heap.size = G.h + N → lv_has ls nL (lv_args 0 av) →
      W p l e (zRn k mc ms) s m av.toArray below meth c s.heap [] 0 0 (MQ below (zQn G N' F') av.toArray s mc ms (zA G)) (F0 m 0 ls [])) : zNw G l y cc nL k mc ms av N F N' F' := by
  refine Met.ofW (cc := cc) (maxL := nL) (ret := none) hy rfl ?_
  intro p e s m args below meth c s₁ B hml hv
  obtain ⟨rfl, hE, hP, hz⟩ := hv
  have hl := lv_entry av (n := nL) hsl
  rw [lg_entry_eq]
  exact body p e s m below meth c _ ⟨B.exec, B.bytes, hml, findClass_of_methodNamed B.named, B.returns, B.notSynchronized, hE, hO⟩ (name_of_methodNamed B.named B.method).1 ⟨⟨hP, hz⟩, va_S.rf⟩ hz hl
section ZMK2
variable {p : Program} {l : Launch} {e : Env} {R : Room} {s : State} {m : MethodId} {args : Array Value} {below : List Frame} {meth : Method} {c : Code} {H : Heap} {locs : List Loc} {cells slots : Nat} {Q : State → Prop}
variable {cc : ByteArray} {pc : Nat} {ls : Array Slot} {rest : List Value} {G : zG} {N N' : Nat} {F F' : Nat → va_E} {nL : Nat} {own : String} {ret : Option FieldType}
theorem zn_vret (C : zC G l p s m meth c cc nL own none) (hw : zN G N F s H locs) (hdg : decode cc pc = .ok (.return_, 1)) :
    W p l e R s m args below meth c H locs cells slots (MQ below (zQn G N F) args s cells slots (zA G)) (F0 m pc ls []) :=
  W.vret C.x C.b C.rt (fun t ht _ => ⟨rfl, by rw [ht]; exact hw.1.1, hw.2.F ht⟩) hw.2.2.2 hdg C.lk
def zIi (own : String) (index : Nat) (y : MethodName) (cy : ByteArray) (nLy n : Nat) : Prop := zW (.methodLink own index y) ∧ zW (.instanceMethod y) ∧ zW (.initialized y.cls) ∧ zW (.code y cy nLy none) ∧ y.name = "<init>" ∧ zNm y n
theorem zn_call {y : MethodName} {cy : ByteArray} {nLy n index i k mc ms : Nat} {As st : List Value} {lv : List (Nat × Value)} (C : zC G l p s m meth c cc nL own ret) (hw : zN G N F s H locs) (hl : lv_has ls nL lv) (hM : zNw G l y cy nLy k mc ms (.ref (G.h + i) :: As) N F N' F') (iv : zIi own index y cy nLy n) (hst : st = As.reverse ++ .ref (G.h + i) :: rest) (hn : As.length = n) (hR : k + 1 ≤ R.frames ∧ 8 + (nLy + 11) + 30 * k ≤ R.locals) (hW : (rest.map fun v => v.category).sum ≤ 8) (hc0 : cells + mc ≤ R.cells ∧ slots + ms ≤ R.slots) (hdg : decode cc pc = .ok (.invokespecial index, 3))
    (kk : ∀ (H : Heap) (locs : List Loc), va_P G.D vwCl (zpl G.h N' F') H ∧ va_S (zA G) s.heap H locs → W p l e R s m args below meth c H locs (cells + mc) (slots + ms) Q (F0 m (pc + 3) ls rest)) : W p l e R s m args below meth c H locs cells slots Q (F0 m pc ls st) := by
  subst hst
  obtain ⟨h1, h2, h3, h4, h5, h6⟩ := iv
  obtain ⟨⟨hP, hz⟩, hS⟩ := hw
  have hr := va_runI (Ts := []) (n := n) (args := args) (rest := rest) (H := H) (locs := locs) (cells := cells) (slots := slots) (below := below) (meth := meth) (e := e) (R := R) (b := G.h + i) (As := As) (g := F0 m pc ls (As.reverse ++ .ref (G.h + i) :: rest)) ⟨C.x, C.b, C.ml, C.ow, fun _ h => by cases h⟩ hM ⟨⟨rfl, rfl, hR.1, hR.2, zCode C h4, List.mem_singleton.mpr rfl, C.w h4, C.w h3, h6.1, h6.n, C.w h1⟩, h5, C.w h2⟩ ⟨zPn_blind, fun U hU hW => ⟨rfl, C.E.warm hW (hS.F hU), by rw [hU]; exact hP, by rw [hU]; exact hz⟩⟩ rfl hn hl.1 rfl (lv_room hW) hdg hc0
  intro T hT X
  obtain ⟨v, st₀, t, T', L, h0, X', hL, e1, e2, ⟨hv, hP', hz', hk⟩, st⟩ := hr T hT X
  cases hv
  rw [h0] at hz' hk
  obtain ⟨t2, a1, b1⟩ := kk T'.heap (locs ++ L) ⟨by rw [e1]; exact hP', Nat.le_trans hS.1 (by rw [e1]; exact hz'), fun q h1 h2 => by rw [e1, hk q (Nat.lt_of_lt_of_le h1 hS.1) h2]; exact hS.2.1 q h1 h2, fun q hq => by
      rcases List.mem_append.mp hq with h | h
      · exact hS.2.2 q h
      · exact hL q h⟩ T' rfl X'
  exact ⟨t2, st t2 a1, b1⟩
end ZMK2
