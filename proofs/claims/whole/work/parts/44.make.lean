/-! ===== making: pools that know their size ===== -/
def zN (G : zG) (N : Nat) (F : Nat → va_E) (s : State) (H : Heap) (locs : List Loc) : Prop := (va_P G.D vwCl (zpl G.h N F) H ∧ H.size = G.h + N) ∧ va_S (zA G) s.heap H locs
/-- the array classes by their names -/
def zAr (G : zG) : Prop := G.s0.vm.findClass "[I" = some G.cI ∧ G.s0.vm.findClass "[J" = some G.cJ ∧ G.s0.vm.findClass "[LPeerAudit$Machine;" = some G.cM ∧ G.s0.vm.findClass "[LPeerAudit$World;" = some G.cW
section ZMK
variable {p : Program} {l : Launch} {e : Env} {R : Room} {s : State} {m : MethodId} {args : Array Value} {below : List Frame} {meth : Method} {c : Code} {H : Heap} {locs : List Loc} {cells slots : Nat} {Q : State → Prop}
variable {cc : ByteArray} {pc : Nat} {ls : Array Slot} {rest : List Value} {G : zG} {N : Nat} {F : Nat → va_E} {nL : Nat} {own : String} {ret : Option FieldType}
theorem zn_new (C : zC G l p s m meth c cc nL own ret) (hw : zN G N F s H locs) (hA : ∀ q, s.heap.size ≤ q → zA G q) {cn : String} {T : u_T} {n ci index : Nat} (hu : ∀ w ∈ u_ws cn T n, zW w) (ty : Nat → FieldType) (hty : ∀ k, k < n → parseFieldDescriptor (T k).2.2.1 = some (ty k)) (hcl : zW (.classLink own index cn)) (hinst : zW (.instantiable cn n)) (hini : zW (.initialized cn)) (hc : vwCl[ci]? = some (cn, T, n)) {fs : List Value} (hfs : ∀ j, j < n → defaultValue (ty j) = vp_V fs j) (hcells : cells + 1 ≤ R.cells) (hslots : slots + n ≤ R.slots) (hdg : decode cc pc = .ok (.new index, 3))
    (kk : ∀ H1 : Heap, zN G (N + 1) (va_up F N (.inr (ci, fs))) s H1 locs → W p l e R s m args below meth c H1 locs (cells + 1) (slots + n) Q (F0 m (pc + 3) ls (.ref (G.h + N) :: rest))) : W p l e R s m args below meth c H locs cells slots Q (F0 m pc ls rest) := by
  obtain ⟨⟨hP, hz⟩, hS⟩ := hw
  have hKn := (zK C.O C.E).1 ci _ hc
  refine W.newcK C.x C.b C.ow (C.w hcl) (C.w hinst) (C.w hini) rfl hdg hcells hslots hKn.2.1 hz fun H1 kC hkC e1 z1 o1 => ?_
  have hk : ∀ (k : Nat) (x : Nat × va_E), (zpl G.h N F)[k]? = some x → H1[x.1]? = H[x.1]? := fun k x hx => o1 x.1 (by have := (hP k x hx).lt; omega)
  refine kk H1 ⟨⟨?_, by omega⟩, ⟨Nat.le_trans hS.1 (by omega), fun x h1 h2 => (o1 x (by have := hS.1; omega)).trans (hS.2.1 x h1 h2), hS.2.2⟩⟩
  rw [← zpl_push]
  refine (hP.kept hk).app (fun k x hx => ?_)
  have hz1 : k < 1 := (List.getElem?_eq_some_iff.mp hx).1
  rw [show k = 0 by omega] at hx
  cases hx
  exact ⟨_, hc, (u_born (ws := u_ws cn T n) (args := args) ty (fun w h => C.w (hu w h)) (fun _ h => h) hKn hkC e1 hty).to hfs⟩
theorem zn_arr (C : zC G l p s m meth c cc nL own ret) (hw : zN G N F s H locs) {atype : ArrayType} (harr : zW (.arrayClass (newarray.typeOf atype))) {cX : ClassId} (hcX : s.vm.findClass ("[" ++ (newarray.typeOf atype).toString) = some cX) {n : Int32} {M : Nat} {a0 : vp_A} (ha : vp_cell cX a0 = arrV cX M (fun _ => defaultValue (newarray.typeOf atype))) (hn : ¬ n < 0) (hN : n.toNatClampNeg = M) (hbytes : M * componentBytes (newarray.typeOf atype) ≤ 536870912) (hcells : cells + 1 ≤ R.cells) (hslots : slots + M ≤ R.slots) (hdg : decode cc pc = .ok (.newarray atype, 2))
    (kk : ∀ H1 : Heap, zN G (N + 1) (va_up F N (.inl (cX, a0))) s H1 locs → W p l e R s m args below meth c H1 locs (cells + 1) (slots + M) Q (F0 m (pc + 2) ls (.ref (G.h + N) :: rest))) : W p l e R s m args below meth c H locs cells slots Q (F0 m pc ls (.int n :: rest)) := by
  obtain ⟨⟨hP, hz⟩, hS⟩ := hw
  refine va_newaK C.x C.b (C.w harr) rfl hdg rfl hn hN hbytes hcells hslots hz fun H1 cA e1 z1 o1 hAr hNm => ?_
  cases Option.some.inj (hNm.symm.trans hcX)
  have hk : ∀ (k : Nat) (x : Nat × va_E), (zpl G.h N F)[k]? = some x → H1[x.1]? = H[x.1]? := fun k x hx => o1 x.1 (by have := (hP k x hx).lt; omega)
  refine kk H1 ⟨⟨?_, by omega⟩, ⟨Nat.le_trans hS.1 (by omega), fun x h1 h2 => (o1 x (by have := hS.1; omega)).trans (hS.2.1 x h1 h2), hS.2.2⟩⟩
  rw [← zpl_push]
  refine (hP.kept hk).app (fun k x hx => ?_)
  have hz1 : k < 1 := (List.getElem?_eq_some_iff.mp hx).1
  rw [show k = 0 by omega] at hx
  cases hx
  show H1[G.h + N]? = some (vp_cell cX a0)
  rw [ha]
  exact e1
def zPutF (own : String) (index ci k : Nat) (ty : FieldType) : Prop := ∃ (C : String) (T : u_T) (n : Nat) (ty0 : Nat → FieldType), vwCl[ci]? = some (C, T, n) ∧ k < n ∧ zW (.fieldLink own index C (T k).2.1 (T k).2.2.1) ∧ (T k).1 = C ∧ C = own ∧ (T k).2.2.2 = true ∧ parseFieldDescriptor (T k).2.2.1 = some ty ∧ (∀ w ∈ u_ws C T n, zW w) ∧ (∀ k, k < n → parseFieldDescriptor (T k).2.2.1 = some (ty0 k)) ∧ ∀ a, a < n → ∀ b, b < n → a ≠ b → (T a).2.1 ≠ (T b).2.1
/-- a final field of the object that is being made -/
theorem zn_put (C : zC G l p s m meth c cc nL own ret) (hin2 : meth.name = "<init>") (hw : zN G N F s H locs) {i index ci k : Nat} {fs : List Value} {v : Value} {ty : FieldType} (hi : i < N) (he : F i = .inr (ci, fs)) (hf : zPutF own index ci k ty) (hn : narrow ty v = v) (hfit : fits ty v = true) (hl : k < fs.length) (hdg : decode cc pc = .ok (.putfield index, 3))
    (kk : ∀ (H : Heap) (locs : List Loc), zN G N (va_up F i (.inr (ci, fs.set k v))) s H locs → W p l e R s m args below meth c H locs cells slots Q (F0 m (pc + 3) ls rest)) : W p l e R s m args below meth c H locs cells slots Q (F0 m pc ls (v :: .ref (G.h + i) :: rest)) := by
  obtain ⟨Cn, T, n, ty0, hc, hk, hlk, h1, hco, hfin, hd, hu, hty0, hnm⟩ := hf
  obtain ⟨⟨hP, hz⟩, hS0⟩ := hw
  have he' : (zpl G.h N F)[i]? = some (G.h + i, .inr (ci, fs)) := by rw [zpl_at hi, he]
  have hts : ∀ w ∈ u_ws Cn T n, w.before args s = true := fun w h => C.w (hu w h)
  have hin : ∀ w ∈ u_ws Cn T n, w ∈ u_ws Cn T n := fun _ h => h
  have hK := zK C.O C.E
  have hD : va_D (zA G) (zpl G.h N F) := zpl_D
  have hap := va_apart (own := own) hts hin ty0 hty0 hnm hK hc
  obtain ⟨r, h2, cell, q1, q2, q3, q4⟩ := hP i _ he'
  have hr : r = (Cn, T, n) := Option.some.inj (h2.symm.trans hc)
  subst hr
  obtain ⟨hS, hfc, kC, hkC, hkind⟩ := hK.1 ci _ hc
  obtain ⟨cf, kf, fi, f, hi9, hsl⟩ := hS k hk
  have hlay := hts _ (hin _ (u_in_lay hk))
  unfold u_lay at hlay
  rw [if_pos hfin] at hlay
  have hst := (u_facts hfc hkC (u_lays hts hin hk) hi9).1
  have hcf : m.cls = cf := by
    obtain ⟨_, _, c', _, _, _, -, -, hf', -, -, -, hown2, -⟩ := Cond.laysFinal_spec hlay
    have e1 : c' = cf := by have := hi9.symm.trans hf'; simp at this; exact this.1.symm
    rw [h1, hco] at hown2
    rw [← e1]; exact Option.some.inj (C.ow.symm.trans hown2)
  have h6 := u_fits hfc hkC hkind (Or.inr hlay) hi9 hd hn hfit
  refine W.putFinK C.x C.b C.ow (C.w hlk) (by rw [h1] at hi9; exact hi9) hst hcf hin2 (by rw [q2]; exact h6) q1 q3 (by rw [hsl]; exact k2_hasslot (q4 k hk)) rfl rfl hdg fun H' e1 e2 e3 => ?_
  rw [hsl] at e1 ⊢
  refine kk H' _ ⟨⟨?_, by omega⟩, hS0.put e2 e3 (hD.2 i _ he')⟩
  rw [← zpl_set]
  exact hP.set hD he' ⟨_, hc, t_OB.to (V := updV (vp_V fs) k v) ⟨_, e1, q2, q3, t_set q4 hap hk v⟩ (fun j _ => vp_updV_set hl v j)⟩ e3
/-- the heap's size out of the count of new cells -/
theorem zn_size {g : JFrame} (hP : va_P G.D vwCl (zpl G.h N F) H) (hN : 0 < N) (hc : s.heap.size + cells = G.h + N) (kk : H.size = G.h + N → W p l e R s m args below meth c H locs cells slots Q g) : W p l e R s m args below meth c H locs cells slots Q g := fun T hT X => by
  have h1 : T.heap.size ≤ s.heap.size + cells := X.same.2.2.1
  have h2 : G.h + (N - 1) < H.size := (hP (N - 1) _ (zpl_at (by omega))).lt
  rw [hT] at h1
  exact kk (by omega) T hT X
theorem zn_anew (C : zC G l p s m meth c cc nL own ret) (hw : zN G N F s H locs) {cn : String} {index : Nat} (hcl : zW (.classLink own index cn)) (hover : va_AO cn s) {cX : ClassId} (hcX : s.vm.findClass ("[" ++ (FieldType.object cn).toString) = some cX) {n : Int32} {M : Nat} (hn : ¬ n < 0) (hN : n.toNatClampNeg = M) (hbytes : M * 4 ≤ 536870912) (hcells : cells + 1 ≤ R.cells) (hslots : slots + M ≤ R.slots) (hdg : decode cc pc = .ok (.anewarray index, 3))
    (kk : ∀ H1 : Heap, zN G (N + 1) (va_up F N (.inl (cX, M, .inr (.inr (.inr (.inr (fun _ => none))))))) s H1 locs → W p l e R s m args below meth c H1 locs (cells + 1) (slots + M) Q (F0 m (pc + 3) ls (.ref (G.h + N) :: rest))) : W p l e R s m args below meth c H locs cells slots Q (F0 m pc ls (.int n :: rest)) := by
  obtain ⟨⟨hP, hz⟩, hS⟩ := hw
  subst hN
  refine W.anew C.x C.b C.ow (C.w hcl) (va_AO.use hover) rfl hdg rfl hn hbytes hcells hslots fun cA kA comp f1 f2 f3 f4 => ?_
  cases Option.some.inj (f1.symm.trans hcX)
  generalize hH1 : H.push ({ cls := cX, slots := Array.replicate n.toNatClampNeg .null, vm := .none } : Cell) = H1
  have z1 : H1.size = H.size + 1 := by rw [← hH1, Array.size_push]
  have e1 : H1[H.size]? = some (arrV cX n.toNatClampNeg (fun _ => .null)) := by rw [← hH1, Array.getElem?_push_size, ← arrV_new]
  have o1 : ∀ q : Nat, q < H.size → H1[q]? = H[q]? := fun q hq => by rw [← hH1, Array.getElem?_push, if_neg (Nat.ne_of_lt hq)]
  have hk : ∀ (k : Nat) (x : Nat × va_E), (zpl G.h N F)[k]? = some x → H1[x.1]? = H[x.1]? := fun k x hx => o1 x.1 ((hP k x hx).lt)
  rw [show (Value.ref H.size) = .ref (G.h + N) by rw [hz]]
  refine kk H1 ⟨⟨?_, by omega⟩, ⟨Nat.le_trans hS.1 (by omega), fun x h1 h2 => (o1 x (Nat.lt_of_lt_of_le h1 hS.1)).trans (hS.2.1 x h1 h2), hS.2.2⟩⟩
  rw [← zpl_push]
  refine (hP.kept hk).app (fun k x hx => ?_)
  have hz1 : k < 1 := (List.getElem?_eq_some_iff.mp hx).1
  rw [show k = 0 by omega] at hx
  cases hx
  show H1[G.h + N]? = some (vp_cell _ _)
  rw [vp_cell_q, ← hz]
  exact e1
end ZMK
