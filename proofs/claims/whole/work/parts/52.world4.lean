/-! ===== World's constructor ===== -/
theorem pfX2_11 : zPutF RX2 11 2 1 (.array (.object RX0)) := ⟨RX2, TX2, 4, tyX2, rfl, by decide, ⟨by decide +kernel, rfl⟩, rfl, rfl, rfl, by decide +kernel, zlayX2, tyX2_ok, nmX2⟩
theorem pfX2_25 : zPutF RX2 25 2 2 (.object RX1) := ⟨RX2, TX2, 4, tyX2, rfl, by decide, ⟨by decide +kernel, rfl⟩, rfl, rfl, rfl, by decide +kernel, zlayX2, tyX2_ok, nmX2⟩
theorem pfX2_29 : zPutF RX2 29 2 3 (.object RX1) := ⟨RX2, TX2, 4, tyX2, rfl, by decide, ⟨by decide +kernel, rfl⟩, rfl, rfl, rfl, by decide +kernel, zlayX2, tyX2_ok, nmX2⟩
theorem zniX0 : zW (.instantiable RX0 9) := ⟨by decide +kernel, rfl⟩
theorem znjX0 : zW (.initialized RX0) := ⟨by decide +kernel, rfl⟩
theorem znlX2_9 : zW (.classLink RX2 9 RX0) := ⟨by decide +kernel, rfl⟩
theorem znlX2_20 : zW (.classLink RX2 20 RX1) := ⟨by decide +kernel, rfl⟩
theorem iiX2_17 : zIi RX2 17 yX0_init cX0_init 2 1 := ⟨⟨by decide +kernel, rfl⟩, ⟨by decide +kernel, rfl⟩, ⟨by decide +kernel, rfl⟩, ⟨by decide +kernel, rfl⟩, rfl, ⟨by decide, by decide⟩, by decide +kernel⟩
theorem iiX2_22 : zIi RX2 22 yX1_init cX1_init 3 2 := ⟨⟨by decide +kernel, rfl⟩, ⟨by decide +kernel, rfl⟩, ⟨by decide +kernel, rfl⟩, ⟨by decide +kernel, rfl⟩, rfl, ⟨by decide, by decide⟩, by decide +kernel⟩
/-- the classes of arrays of machines and of worlds are the first over their components -/
def zAo (G : zG) : Prop := va_AO RX0 G.s0 ∧ va_AO RX2 G.s0
theorem zAr.M {G : zG} {s : State} (h : zAr G) (hE : zE G s) : s.vm.findClass ("[" ++ (FieldType.object RX0).toString) = some G.cM := by rw [hE.1.alike.findClass]; exact h.2.2.1
theorem zAr.W {G : zG} {s : State} (h : zAr G) (hE : zE G s) : s.vm.findClass ("[" ++ (FieldType.object RX2).toString) = some G.cW := by rw [hE.1.alike.findClass]; exact h.2.2.2
theorem zAr.J {G : zG} {s : State} (h : zAr G) (hE : zE G s) : s.vm.findClass "[J" = some G.cJ := by rw [hE.1.alike.findClass]; exact h.2.1
theorem zAo.M {G : zG} {s : State} (h : zAo G) (hE : zE G s) : va_AO RX0 s := va_AO.moved hE.1.alike h.1
theorem zAo.W {G : zG} {s : State} (h : zAo G) (hE : zE G s) : va_AO RX2 s := va_AO.moved hE.1.alike h.2
theorem arrV_cg (cI : ClassId) {N : Nat} {f g : Nat → Value} (h : ∀ j, j < N → f j = g j) : arrV cI N f = arrV cI N g := by
  have h1 : (fun j : Fin N => f j.val) = fun j : Fin N => g j.val := funext fun j => h j.val j.isLt
  unfold arrV
  rw [h1]
/-- an array of references is known by its own places alone -/
theorem zN.cq {G : zG} {N i M : Nat} {F : Nat → va_E} {cX : ClassId} {f g : Nat → Option Nat} {s : State} {H : Heap} {locs : List Loc} (h : zN G N (va_up F i (.inl (cX, M, .inr (.inr (.inr (.inr g)))))) s H locs) (hg : ∀ k, k < M → g k = f k) : zN G N (va_up F i (.inl (cX, M, .inr (.inr (.inr (.inr f)))))) s H locs := by
  refine ⟨⟨fun k q hq => ?_, h.1.2⟩, h.2⟩
  obtain ⟨hk, rfl⟩ := zpl_lt hq
  have h1 := h.1.1 k _ (zpl_at hk)
  by_cases hki : k = i
  · subst hki
    rw [va_up_self] at h1 ⊢
    show H[G.h + k]? = some (vp_cell cX _)
    have h2 : H[G.h + k]? = some (vp_cell cX (M, .inr (.inr (.inr (.inr g))))) := h1
    rw [h2, vp_cell_q, vp_cell_q]
    exact congrArg some (arrV_cg cX (fun j hj => by rw [hg j hj]))
  · rw [va_up_ne _ _ hki] at h1 ⊢
    exact h1
theorem zNw.cg {G : zG} {l : Launch} {y : MethodName} {cc : ByteArray} {nL k mc ms : Nat} {av : List Value} {N N' : Nat} {F F' F'' : Nat → va_E} (h : zNw G l y cc nL k mc ms av N F N' F') (he : ∀ i, i < N' → F' i = F'' i) : zNw G l y cc nL k mc ms av N F N' F'' := by
  have h1 : zQn G N' F' = zQn G N' F'' := by
    unfold zQn
    rw [zpl_congr he]
  unfold zNw
  rw [← h1]
  exact h
section ZGT
variable {p : Program} {l : Launch} {e : Env} {R : Room} {s : State} {m : MethodId} {args : Array Value} {below : List Frame} {meth : Method} {c : Code} {H : Heap} {locs : List Loc} {cells slots : Nat} {Q : State → Prop}
variable {cc : ByteArray} {pc : Nat} {ls : Array Slot} {rest : List Value} {G : zG} {N : Nat} {F : Nat → va_E} {nL : Nat} {own : String} {ret : Option FieldType}
theorem zn_get (C : zC G l p s m meth c cc nL own ret) (hw : zN G N F s H locs) {i index ci k : Nat} {fs : List Value} {v : Value} (hi : i < N) (he : F i = .inr (ci, fs)) (hf : zFld own index ci k) (hv : fs[k]? = some v) (hdg : decode cc pc = .ok (.getfield index, 3))
    (kk : W p l e R s m args below meth c H locs cells slots Q (F0 m (pc + 3) ls (v :: rest))) : W p l e R s m args below meth c H locs cells slots Q (F0 m pc ls (.ref (G.h + i) :: rest)) := by
  obtain ⟨Cn, T, n, hc, hk, hl, h1, hu⟩ := hf
  exact va_get (D := G.D) (Ts := u_ws Cn T n) C.x C.b (fun w hw' => C.w (hu w hw')) (fun _ h => h) C.ow (zK C.O C.E) hw.1.1 i (by rw [zpl_at hi, he]) hc k hk (C.w hl) (fun x hx => by rw [h1] at hx; exact hx) hv hdg kk
end ZGT
/-- how tables, machines and worlds lie, by the places behind their first cell -/
def eT (G : zG) (w q t : Nat) (f : Nat → Int32) : va_E := .inr (1, [.int (nI w), .int (nI q), .ref (G.h + (t + 1)), .int (f 3)])
def eA (G : zG) (n : Nat) (f : Nat → Int32) : va_E := .inl (G.cI, n, .inl f)
def lM (G : zG) (b x j : Nat) (f : Nat → Int32) : va_E := match j with
  | 0 => .inr (0, [.int (nI x), .int (f 1), .int (f 2), .int (f 3), .int (f 4), .ref (G.h + (b + 1)), .ref (G.h + (b + 2)), .ref (G.h + (b + 4)), .ref (G.h + (b + 6))])
  | 1 => eA G 6 f
  | 2 => eT G 4 40 (b + 2) f
  | 3 => eA G (4 * 40) f
  | 4 => eT G 3 60 (b + 4) f
  | 5 => eA G (3 * 60) f
  | 6 => eT G 5 40 (b + 6) f
  | _ => eA G (5 * 40) f
def lW (G : zG) (b j : Nat) (f : Nat → Int32) : va_E :=
  if j = 0 then .inr (2, [.int (f 0), .ref (G.h + (b + 1)), .ref (G.h + (b + 50)), .ref (G.h + (b + 52))])
  else if j = 1 then .inl (G.cM, 6, .inr (.inr (.inr (.inr (fun k => some (G.h + (b + 2 + 8 * k)))))))
  else if j < 50 then lM G (b + 2 + 8 * ((j - 2) / 8)) ((j - 2) / 8) ((j - 2) % 8) f
  else if j = 50 then eT G 5 40 (b + 50) f
  else if j = 51 then eA G (5 * 40) f
  else if j = 52 then eT G 4 30 (b + 52) f
  else eA G (4 * 30) f
def zF0w : va_E := .inr (2, [.int 0, .null, .null, .null])
/-- Machine's constructor, its object the last cell -/
theorem n_mach {G : zG} {l : Launch} (hO : zOK G l) (hAr : zAr G) {i x : Nat} {F : Nat → va_E} : zNw G l yX0_init cX0_init 2 3 7 558 [.ref (G.h + i), .int (nI x)] (i + 1) (va_up F i zF0m) (i + 8) (fun j => if j < i then F j else lM G i x (j - i) (fun _ => 0)) := by
  refine (n_X0_init hO hAr (N := i + 1) (i := i) (x := x) (F := va_up F i zF0m) (by omega) (va_up_self _ _ _)).cg (fun j hj => ?_)
  rcases (show j < i ∨ j = i ∨ j = i + 1 ∨ j = i + 2 ∨ j = i + 3 ∨ j = i + 4 ∨ j = i + 5 ∨ j = i + 6 ∨ j = i + 7 by omega) with h | h | h | h | h | h | h | h | h
  · simp only [zTab, va_upd]
    repeat (first | rw [if_pos (by omega)] | rw [if_neg (by omega)])
  · simp only [zTab, va_upd]
    repeat (first | rw [if_pos (by omega)] | rw [if_neg (by omega)])
    rw [show j - i = 0 by omega]
    rfl
  · simp only [zTab, va_upd]
    repeat (first | rw [if_pos (by omega)] | rw [if_neg (by omega)])
    rw [show j - i = 1 by omega]
    rfl
  · simp only [zTab, va_upd]
    repeat (first | rw [if_pos (by omega)] | rw [if_neg (by omega)])
    rw [show j - i = 2 by omega]
    rfl
  · simp only [zTab, va_upd]
    repeat (first | rw [if_pos (by omega)] | rw [if_neg (by omega)])
    rw [show j - i = 3 by omega]
    rfl
  · simp only [zTab, va_upd]
    repeat (first | rw [if_pos (by omega)] | rw [if_neg (by omega)])
    rw [show j - i = 4 by omega]
    rfl
  · simp only [zTab, va_upd]
    repeat (first | rw [if_pos (by omega)] | rw [if_neg (by omega)])
    rw [show j - i = 5 by omega]
    rfl
  · simp only [zTab, va_upd]
    repeat (first | rw [if_pos (by omega)] | rw [if_neg (by omega)])
    rw [show j - i = 6 by omega]
    rfl
  · simp only [zTab, va_upd]
    repeat (first | rw [if_pos (by omega)] | rw [if_neg (by omega)])
    rw [show j - i = 7 by omega]
    rfl
/-- the pool while a world's machines are made: x of them stand -/
def fW (G : zG) (b x : Nat) : Nat → Option Nat := fun k => if x ≤ k ∧ k < 6 then none else some (G.h + (b + 2 + 8 * k))
def pW (G : zG) (F : Nat → va_E) (b x : Nat) : Nat → va_E := fun j =>
  if j < b then F j
  else if j = b then .inr (2, [.int 0, .ref (G.h + (b + 1)), .null, .null])
  else if j = b + 1 then .inl (G.cM, 6, .inr (.inr (.inr (.inr (fW G b x)))))
  else lM G (b + 2 + 8 * ((j - b - 2) / 8)) ((j - b - 2) / 8) ((j - b - 2) % 8) (fun _ => 0)
theorem pW_b {G : zG} {F : Nat → va_E} {b x : Nat} : pW G F b x b = .inr (2, [.int 0, .ref (G.h + (b + 1)), .null, .null]) := by
  unfold pW
  rw [if_neg (by omega), if_pos rfl]
theorem pW_a {G : zG} {F : Nat → va_E} {b x : Nat} : pW G F b x (b + 1) = .inl (G.cM, 6, .inr (.inr (.inr (.inr (fW G b x))))) := by
  unfold pW
  rw [if_neg (by omega), if_neg (by omega), if_pos rfl]
theorem fW_step {G : zG} {b x : Nat} (hx : x < 6) : va_up (fW G b x) x (some (G.h + (b + 2 + 8 * x))) = fW G b (x + 1) := by
  funext k
  rw [va_upd]
  unfold fW
  by_cases h : k = x
  · subst h; rw [if_pos rfl, if_neg (by omega)]
  · rw [if_neg h]
    by_cases h2 : x ≤ k ∧ k < 6
    · rw [if_pos h2, if_pos (by omega)]
    · rw [if_neg h2, if_neg (by omega)]
theorem fW_6 {G : zG} {b : Nat} : fW G b 6 = fun k => some (G.h + (b + 2 + 8 * k)) := by
  funext k
  unfold fW
  rw [if_neg (by omega)]
theorem pW_step {G : zG} {F : Nat → va_E} {b x : Nat} (hx : x < 6) (j : Nat) (hj : j < b + 2 + 8 * x + 8) : va_up (fun j => if j < b + 2 + 8 * x then pW G F b x j else lM G (b + 2 + 8 * x) x (j - (b + 2 + 8 * x)) (fun _ => 0)) (b + 1) (.inl (G.cM, 6, .inr (.inr (.inr (.inr (va_up (fW G b x) x (some (G.h + (b + 2 + 8 * x)))))))))  j = pW G F b (x + 1) j := by
  rw [fW_step hx, va_upd]
  by_cases h1 : j = b + 1
  · subst h1; rw [if_pos rfl, pW_a]
  · rw [if_neg h1]
    by_cases h2 : j < b + 2 + 8 * x
    · rw [if_pos h2]
      unfold pW
      by_cases h3 : j < b
      · rw [if_pos h3, if_pos h3]
      · rw [if_neg h3, if_neg h3]
        by_cases h4 : j = b
        · rw [if_pos h4, if_pos h4]
        · rw [if_neg h4, if_neg h4, if_neg h1, if_neg h1]
    · rw [if_neg h2]
      unfold pW
      rw [if_neg (by omega), if_neg (by omega), if_neg h1]
      have e1 : (j - b - 2) / 8 = x := by omega
      have e2 : (j - b - 2) % 8 = j - (b + 2 + 8 * x) := by omega
      rw [e1, e2]
