section ZMK3
variable {p : Program} {l : Launch} {e : Env} {R : Room} {s : State} {m : MethodId} {args : Array Value} {below : List Frame} {meth : Method} {c : Code} {H : Heap} {locs : List Loc} {cells slots : Nat} {Q : State → Prop}
variable {cc : ByteArray} {pc : Nat} {ls : Array Slot} {rest : List Value} {G : zG} {N N' : Nat} {F F' : Nat → va_E} {nL : Nat} {own : String} {ret : Option FieldType}
theorem zn_aast (C : zC G l p s m meth c cc nL own ret) (hw : zN G N F s H locs) {a0 t0 qk ci : Nat} {cA : ClassId} {r : vw_C} {n : Nat} {vs : List Value} {f : Nat → Option Nat} (ha0 : a0 < N) (ha : F a0 = .inl (cA, n, .inr (.inr (.inr (.inr f))))) (ht : G.tys[t0]? = some (cA, .object r.1)) (hq : qk < N) (hv : F qk = .inr (ci, vs)) (hc : vwCl[ci]? = some r) {i : Int32} (hin : vp_in i n) (hdg : decode cc pc = .ok (.aastore, 1))
    (kk : ∀ (H : Heap) (locs : List Loc), zN G N (va_up F a0 (.inl (cA, n, .inr (.inr (.inr (.inr (va_up f i.toNatClampNeg (some (G.h + qk))))))))) s H locs → W p l e R s m args below meth c H locs cells slots Q (F0 m (pc + 1) ls rest)) : W p l e R s m args below meth c H locs cells slots Q (F0 m pc ls (.ref (G.h + qk) :: .int i :: .ref (G.h + a0) :: rest)) := by
  obtain ⟨⟨hP, hz⟩, hS⟩ := hw
  have hD : va_D (zA G) (zpl G.h N F) := zpl_D
  have hK := zK C.O C.E
  have ha' : (zpl G.h N F)[a0]? = some (G.h + a0, .inl (cA, n, .inr (.inr (.inr (.inr f))))) := by rw [zpl_at ha0, ha]
  have hv' : (zpl G.h N F)[qk]? = some (G.h + qk, .inr (ci, vs)) := by rw [zpl_at hq, hv]
  have hlt : i.toNatClampNeg < n := Nat.not_le.mp fun q => hin (Or.inr q)
  have h0 : ¬ i < 0 := fun q => hin (Or.inl q)
  obtain ⟨r', hr', cellV, g1, g2, g3, -⟩ := hP qk _ hv'
  have hcls := (hK.1 ci r hc).2
  obtain ⟨kA, comp, k1, k2, k3, -⟩ := (hK.2 t0 _ ht).2
  have hcomp : comp = G.D.1 ci := Option.some.inj (k3.symm.trans hcls.1)
  subst hcomp
  obtain ⟨kC, hkC, -⟩ := hcls.2
  refine W.aast C.x C.b (hP a0 _ ha') (fun q h => by cases h) (fun h => by cases h) k1 k2 rfl hkC ⟨h0, by show _ < (arrV _ _ _).slots.size; rw [arrV_size]; exact hlt⟩ g1 (fun q h => by rw [g3] at h; cases h) (by rw [g2]; exact hkC) (by rw [g2]; exact va_assign hcls) rfl rfl hdg fun H1 e z oq => ?_
  refine kk H1 _ ⟨⟨?_, by omega⟩, hS.put z oq (hD.2 a0 _ ha')⟩
  rw [← zpl_set]
  refine hP.set hD ha' ?_ oq
  show H1[G.h + a0]? = some (vp_cell _ _)
  rw [e]
  rw [vp_cell_q, vp_cell_q, arrV_store]
  congr 2
  funext q
  by_cases hq9 : q = i.toNatClampNeg
  · subst hq9
    simp [updV, va_up, va_rf]
  · simp [updV, va_up, hq9]
end ZMK3
