section ZMK4
variable {p : Program} {l : Launch} {e : Env} {R : Room} {s : State} {m : MethodId} {args : Array Value} {below : List Frame} {meth : Method} {c : Code} {H : Heap} {locs : List Loc} {cells slots : Nat} {Q : State → Prop}
variable {cc : ByteArray} {pc : Nat} {ls : Array Slot} {rest : List Value} {G : zG} {nL : Nat} {own : String} {ret : Option FieldType}
theorem zob2 : zW (.instanceMethod objectInit) := ⟨by decide +kernel, rfl⟩
theorem zob3 : zW (.code objectInit ⟨#[0xb1]⟩ 1 none) := ⟨by decide +kernel, rfl⟩
theorem zobX0 : zW (.methodLink RX0 3 objectInit) := ⟨by decide +kernel, rfl⟩
theorem zobX1 : zW (.methodLink RX1 3 objectInit) := ⟨by decide +kernel, rfl⟩
theorem zobX2 : zW (.methodLink RX2 3 objectInit) := ⟨by decide +kernel, rfl⟩
theorem zobX3 : zW (.methodLink RX3 3 objectInit) := ⟨by decide +kernel, rfl⟩
theorem zobX4 : zW (.methodLink RX4 1 objectInit) := ⟨by decide +kernel, rfl⟩
theorem zn_obj {lv : List (Nat × Value)} {idx : Nat} {a : Addr} (C : zC G l p s m meth c cc nL own ret) (hl : lv_has ls nL lv) (h1 : zW (.methodLink own idx objectInit)) (hd : decode cc pc = .ok (.invokespecial idx, 3)) (hfr : 1 ≤ R.frames) (hlo : (rest.map fun v => v.category).sum + 12 ≤ R.locals)
    (kk : W p l e R s m args below meth c H locs cells slots Q (F0 m (pc + 3) ls rest)) : W p l e R s m args below meth c H locs cells slots Q (F0 m pc ls (.ref a :: rest)) :=
  W.objInit C.x C.b C.ow (C.w h1) (C.w zob2) (C.w zob3) rfl (by rw [C.ml]; exact hl.1) rfl hd hfr (by show 2 * 0 + _ + 12 ≤ _; omega) (W.eq (g2 := F0 m (pc + 3) ls rest) rfl kk)
end ZMK4
