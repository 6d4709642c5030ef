/-! ===== the base layer: one pool of numbered cells, everything that was made since the law began ===== -/
def zW (w : Cond) : Prop := w ∈ lw_tbl ∧ goodWord w = true
/-- the place: the law's first state, its arguments, the classes' numbers and slots, the array classes (int, long, Machine, World) -/
abbrev zG : Type := State × Array Value × (Nat → ClassId) × (Nat → Nat → Nat) × ClassId × ClassId × ClassId × ClassId
abbrev zG.s0 (G : zG) : State := G.1
abbrev zG.a0 (G : zG) : Array Value := G.2.1
abbrev zG.D (G : zG) : va_G := (G.2.2.1, G.2.2.2.1)
abbrev zG.cI (G : zG) : ClassId := G.2.2.2.2.1
abbrev zG.cJ (G : zG) : ClassId := G.2.2.2.2.2.1
abbrev zG.cM (G : zG) : ClassId := G.2.2.2.2.2.2.1
abbrev zG.cW (G : zG) : ClassId := G.2.2.2.2.2.2.2
def zG.h (G : zG) : Nat := G.s0.heap.size
abbrev zG.tys (G : zG) : List (ClassId × FieldType) := [(G.cI, .int), (G.cJ, .long), (G.cM, .object RX0), (G.cW, .object RX2)]
def zA (G : zG) : Nat → Prop := fun q => G.s0.heap.size ≤ q
def zpl (h N : Nat) (F : Nat → va_E) : va_W := (List.range N).map (fun i => (h + i, F i))
theorem zpl_at {h N : Nat} {F : Nat → va_E} {i : Nat} (hi : i < N) : (zpl h N F)[i]? = some (h + i, F i) := by
  simp [zpl, List.getElem?_map, List.getElem?_range hi]
theorem zpl_lt {h N : Nat} {F : Nat → va_E} {i : Nat} {q : Nat × va_E} (hq : (zpl h N F)[i]? = some q) : i < N ∧ q = (h + i, F i) := by
  have hl := (List.getElem?_eq_some_iff.mp hq).1
  have hi : i < N := by simpa [zpl] using hl
  rw [zpl_at hi] at hq
  exact ⟨hi, (Option.some.inj hq).symm⟩
theorem zpl_len {h N : Nat} {F : Nat → va_E} : (zpl h N F).length = N := by simp [zpl]
theorem zpl_ext {h N : Nat} {F : Nat → va_E} {ws : va_W} (hl : ws.length = N) (he : ∀ i, i < N → ws[i]? = some (h + i, F i)) : ws = zpl h N F := by
  apply List.ext_getElem?
  intro i
  by_cases hi : i < N
  · rw [he i hi, zpl_at hi]
  · rw [List.getElem?_eq_none (by omega), List.getElem?_eq_none (by rw [zpl_len]; omega)]
theorem zpl_set {h N : Nat} {F : Nat → va_E} {i : Nat} {e : va_E} : (zpl h N F).set i (h + i, e) = zpl h N (va_up F i e) := by
  refine zpl_ext (by rw [List.length_set, zpl_len]) (fun j hj => ?_)
  by_cases hji : j = i
  · subst hji
    rw [List.getElem?_set_self (by rw [zpl_len]; exact hj), va_up_self]
  · rw [List.getElem?_set_ne (Ne.symm hji), zpl_at hj, va_up_ne _ _ hji]
theorem zpl_congr {h N : Nat} {F F' : Nat → va_E} (he : ∀ i, i < N → F i = F' i) : zpl h N F = zpl h N F' :=
  zpl_ext zpl_len (fun i hi => by rw [zpl_at hi, he i hi])
theorem zpl_push {h N : Nat} {F : Nat → va_E} {e : va_E} : zpl h N F ++ [(h + N, e)] = zpl h (N + 1) (va_up F N e) := by
  refine zpl_ext (by simp [zpl_len]) (fun j hj => ?_)
  by_cases hjn : j < N
  · rw [List.getElem?_append_left (by rw [zpl_len]; exact hjn), zpl_at hjn, va_up_ne _ _ (by omega)]
  · have : j = N := by omega
    subst this
    rw [List.getElem?_append_right (by rw [zpl_len]; exact Nat.le_refl _), zpl_len, Nat.sub_self, va_up_self]
    rfl
theorem zpl_D {G : zG} {N : Nat} {F : Nat → va_E} : va_D (zA G) (zpl G.h N F) := by
  refine ⟨fun i j p q hp hq he => ?_, fun k q hk => ?_⟩
  · obtain ⟨-, rfl⟩ := zpl_lt hp
    obtain ⟨-, rfl⟩ := zpl_lt hq
    have he : G.h + i = G.h + j := he
    omega
  · obtain ⟨-, rfl⟩ := zpl_lt hk
    exact Nat.le_add_right _ _
/-- what the cells hold: whole numbers, by cell and place; longs, by cell and place -/
abbrev zM : Type := (Nat → Nat → Int32) × (Nat → Nat → Int64)
abbrev zLay : Type := Nat → (Nat → Int32) → (Nat → Int64) → va_E
def zL (Λ : zLay) (z : zM) : Nat → va_E := fun i => Λ i (z.1 i) (z.2 i)
def zr (z : zM) (i : Nat) (f : Nat → Int32) : zM := (va_up z.1 i f, z.2)
def zi (z : zM) (i j : Nat) (v : Int32) : zM := zr z i (upd (z.1 i) j v)
def zl (z : zM) (i j : Nat) (v : Int64) : zM := (z.1, va_up z.2 i (vp_updL (z.2 i) j v))
theorem zr_s (z : zM) (i : Nat) (f : Nat → Int32) : (zr z i f).1 i = f := by simp [zr, va_up]
theorem zr_n (z : zM) {i k : Nat} (f : Nat → Int32) (h : k ≠ i) : (zr z i f).1 k = z.1 k := by simp [zr, va_up, h]
theorem zr_2 (z : zM) (i : Nat) (f : Nat → Int32) : (zr z i f).2 = z.2 := rfl
theorem zi_at (z : zM) (i j : Nat) (v : Int32) (a b : Nat) : (zi z i j v).1 a b = if a = i ∧ b = j then v else z.1 a b := by
  by_cases h1 : a = i
  · subst h1
    simp [zi, zr_s, upd]
  · simp [zi, zr_n _ _ h1, h1]
theorem zi_2 (z : zM) (i j : Nat) (v : Int32) : (zi z i j v).2 = z.2 := rfl
theorem zL_r {Λ : zLay} {z : zM} {h N i : Nat} {f : Nat → Int32} {e : va_E} (he : Λ i f (z.2 i) = e) : (zpl h N (zL Λ z)).set i (h + i, e) = zpl h N (zL Λ (zr z i f)) := by
  rw [zpl_set]
  refine zpl_congr (fun k _ => ?_)
  by_cases hk : k = i
  · subst hk
    rw [va_up_self, ← he]
    simp [zL, zr_s, zr_2]
  · rw [va_up_ne _ _ hk]
    simp [zL, zr_n _ _ hk, zr_2]
theorem zL_l {Λ : zLay} {z : zM} {h N i j : Nat} {v : Int64} {e : va_E} (he : Λ i (z.1 i) (vp_updL (z.2 i) j v) = e) : (zpl h N (zL Λ z)).set i (h + i, e) = zpl h N (zL Λ (zl z i j v)) := by
  rw [zpl_set]
  refine zpl_congr (fun k _ => ?_)
  by_cases hk : k = i
  · subst hk
    rw [va_up_self, ← he]
    simp [zL, zl, va_up]
  · rw [va_up_ne _ _ hk]
    simp [zL, zl, va_up, hk]
def zOK (G : zG) (l : Launch) : Prop := (∀ w ∈ lw_tbl, w.before G.a0 G.s0 = true) ∧ va_K G.D vwCl G.tys G.s0 ∧ l.flags = flags0 ∧ (Jvm.Cond.and given_1 narrow_1).before G.a0 G.s0 = true
def zE (G : zG) (U : State) : Prop := G.s0.WarmedH U.vm ∧ va_F (zA G) G.s0 U
theorem zword {G : zG} {l : Launch} {U : State} {w : Cond} {a : Array Value} (hO : zOK G l) (hE : zE G U) (hw : zW w) : w.before a U = true := word_at hE.1 (good_of_word hw.2) (hO.1 w hw.1)
theorem zK {G : zG} {l : Launch} {U : State} (hO : zOK G l) (hE : zE G U) : va_K G.D vwCl G.tys U := va_K.moved hE.1.alike hO.2.1
theorem zE.warm {G : zG} {s U : State} (hE : zE G s) (hW : s.WarmedH U.vm) (hF : va_F (zA G) s U) : zE G U :=
  ⟨State.WarmedH.trans hE.1 hW, ⟨Nat.le_trans hE.2.1 hF.1, fun q h1 h2 => by rw [hF.2 q (Nat.lt_of_lt_of_le h1 hE.2.1) h2]; exact hE.2.2 q h1 h2⟩⟩
/-- a walk's standing facts -/
def zC (G : zG) (l : Launch) (p : Program) (s : State) (m : MethodId) (meth : Method) (c : Code) (cc : ByteArray) (nL : Nat) (own : String) (ret : Option FieldType) : Prop :=
  p.tables.exec = Jvm.exec ∧ c.code = cc ∧ c.maxLocals = nL ∧ s.vm.findClass own = some m.cls ∧ meth.sig.returnType = ret ∧ meth.locks = false ∧ zE G s ∧ zOK G l
def zP (G : zG) (N : Nat) (Λ : zLay) (z : zM) (H : Heap) : Prop := va_P G.D vwCl (zpl G.h N (zL Λ z)) H
def zS (G : zG) (N : Nat) (Λ : zLay) (z : zM) (s : State) (H : Heap) (locs : List Loc) : Prop := zP G N Λ z H ∧ va_S (zA G) s.heap H locs
def zPc (G : zG) (N : Nat) (Λ : zLay) (av : List Value) (z : zM) : Array Value → State → Prop := va_Pc av (fun U => zE G U ∧ zP G N Λ z U.heap)
def zQc (G : zG) (N : Nat) (Λ : zLay) (r : Option Value) (z : zM) : Array Value → State → Outcome → State → Prop := fun _ st oc t => oc = .returned r ∧ zP G N Λ z t.heap ∧ va_F (zA G) st t
def zR (k : Nat) : Room := { frames := k, cells := 0, slots := 0, locals := 30 * k }
def zRx (k : Nat) : Room := { frames := k, cells := 1, slots := 6, locals := 30 * k }
/-- a method returns r and leaves the cells at z' -/
def zMet (G : zG) (N : Nat) (Λ : zLay) (l : Launch) (y : MethodName) (cc : ByteArray) (nL : Nat) (ret : Option FieldType) (k : Nat) (av : List Value) (z : zM) (r : Option Value) (z' : zM) : Prop :=
  Met l y [.code y cc nL ret] (zR k) (zPc G N Λ av z) (zQc G N Λ r z') 0 0 (zA G)
theorem zPc_blind {G : zG} {N : Nat} {Λ : zLay} {av : List Value} {z : zM} : FrameBlind (zPc G N Λ av z) := fun a U g mk h => ⟨h.1, ⟨h.2.1.1, h.2.1.2⟩, h.2.2⟩
theorem zMet_of {G : zG} {N : Nat} {Λ : zLay} {l : Launch} {y : MethodName} {cc : ByteArray} {nL : Nat} {ret : Option FieldType} {k : Nat} {av : List Value} {z z' : zM} {r : Option Value} (hO : zOK G l) (hy : plainName y.cls = true) (hsl : (lg_sl av).length ≤ nL)
    (body : ∀ (p : Program) (e : Env) (s : State) (m : MethodId) (below : List Frame) (meth : Method) (c : Code) (ls : Array Slot), zC G l p s m meth c cc nL y.cls ret → zS G N Λ z s s.heap [] → lv_has ls nL (lv_args 0 av) →
      W p l e (zR k) s m av.toArray below meth c s.heap [] 0 0 (MQ below (zQc G N Λ r z') av.toArray s 0 0 (zA G)) (F0 m 0 ls [])) : zMet G N Λ l y cc nL ret k av z r z' := by
  refine Met.ofW (cc := cc) (maxL := nL) (ret := ret) hy rfl ?_
  intro p e s m args below meth c s₁ B hml hv
  obtain ⟨rfl, hE, hP⟩ := hv
  have hl := lv_entry av (n := nL) hsl
  rw [lg_entry_eq]
  exact body p e s m below meth c _ ⟨B.exec, B.bytes, hml, findClass_of_methodNamed B.named, B.returns, B.notSynchronized, hE, hO⟩ ⟨hP, va_S.rf⟩ hl
