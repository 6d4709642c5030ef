def zF0m : va_E := .inr (0, [.int 0, .int 0, .int 0, .int 0, .int 0, .null, .null, .null, .null])
def zFm (G : zG) (x a : Nat) : va_E := .inr (0, [.int (nI x), .int 0, .int 0, .int 0, .int 0, .ref (G.h + a), .ref (G.h + (a + 1)), .ref (G.h + (a + 3)), .ref (G.h + (a + 5))])
def zTab (G : zG) (F : Nat → va_E) (N w q : Nat) : Nat → va_E := va_up (va_up (va_up F N zF0t) (N + 1) (zFa G (w * q))) N (zFt G w q (N + 1))
section ZTB
variable {p : Program} {l : Launch} {e : Env} {R : Room} {s : State} {m : MethodId} {args : Array Value} {below : List Frame} {meth : Method} {c : Code} {H : Heap} {locs : List Loc} {cells slots : Nat} {Q : State → Prop}
variable {cc : ByteArray} {pc : Nat} {ls : Array Slot} {rest : List Value} {G : zG} {N : Nat} {F : Nat → va_E} {nL : Nat} {own : String} {ret : Option FieldType}
/-- behind a table's constructor -/
theorem zn_tabc {index w q : Nat} {lv : List (Nat × Value)} (C : zC G l p s m meth c cc nL own ret) (hO : zOK G l) (hAr : zAr G) (hw : zN G (N + 1) (va_up F N zF0t) s H locs) (hl : lv_has ls nL lv) (iv : zIi own index yX1_init cX1_init 3 2) (hwq : w * q ≤ 1000) (hR : 1 + 1 ≤ R.frames ∧ 8 + (3 + 11) + 30 * 1 ≤ R.locals) (hW : (rest.map fun v => v.category).sum ≤ 8) (hc0 : cells + 1 ≤ R.cells ∧ slots + w * q ≤ R.slots) (hsz : s.heap.size + cells = G.h + (N + 1)) (hdg : decode cc pc = .ok (.invokespecial index, 3))
    (kk : ∀ (H : Heap) (locs : List Loc), zN G (N + 2) (zTab G F N w q) s H locs → W p l e R s m args below meth c H locs (cells + 1) (slots + w * q) Q (F0 m (pc + 3) ls rest)) : W p l e R s m args below meth c H locs cells slots Q (F0 m pc ls (.int (nI q) :: .int (nI w) :: .ref (G.h + N) :: rest)) := by
  refine zn_call (As := [.int (nI w), .int (nI q)]) C hw hl (n_X1_init hO hAr (N := N + 1) (i := N) (by omega) (va_up_self _ _ _) hwq) iv rfl rfl hR hW hc0 hdg (fun H locs h => ?_)
  exact zn_size h.1 (by omega) (by omega) (fun hs => kk H locs ⟨⟨h.1, hs⟩, h.2⟩)
end ZTB
