/-! ===== how the class's objects lie in the pool ===== -/
section ZLAY
variable {p : Program} {l : Launch} {e : Env} {R : Room} {s : State} {m : MethodId} {args : Array Value} {below : List Frame} {meth : Method} {c : Code} {H : Heap} {locs : List Loc} {cells slots : Nat} {Q : State → Prop} {pc : Nat} {ls : Array Slot} {rest : List Value}
theorem z_topi {x y : Int32} (h : x = y) (k : W p l e R s m args below meth c H locs cells slots Q (F0 m pc ls (.int y :: rest))) : W p l e R s m args below meth c H locs cells slots Q (F0 m pc ls (.int x :: rest)) := by
  rw [h]; exact k
theorem z_pc {pc2 : Nat} {st : List Value} (h : pc = pc2) (k : W p l e R s m args below meth c H locs cells slots Q (F0 m pc2 ls st)) : W p l e R s m args below meth c H locs cells slots Q (F0 m pc ls st) := by
  rw [h]; exact k
theorem z_topl {x y : Int64} (h : x = y) (k : W p l e R s m args below meth c H locs cells slots Q (F0 m pc ls (.long y :: rest))) : W p l e R s m args below meth c H locs cells slots Q (F0 m pc ls (.long x :: rest)) := by
  rw [h]; exact k
end ZLAY
theorem zvin {x n : Nat} (h : x < n) (hn : n < 2 ^ 31) : vp_in (nI x) n := vp_in_nI h hn
theorem zcl {x n : Nat} (h : x < n) (hn : n < 2 ^ 31) : (nI x).toNatClampNeg = x := nI_clamp (Nat.lt_trans h hn)
theorem zlit (n : Nat) : (OfNat.ofNat n : Int32) = nI n := rfl
theorem zneg {n : Nat} (h : n < 2 ^ 31) : ¬ nI n < 0 := nI_pos h
theorem znege {n : Nat} (h : n < 2 ^ 31) : 0 ≤ nI n := nI_pos' h
theorem zle {a b : Nat} (hb : b < 2 ^ 31) (h : a ≤ b) : nI a ≤ nI b := nI_le h hb
theorem znle {a b : Nat} (hb : b < 2 ^ 31) (h : a < b) : ¬ nI b ≤ nI a := nI_ge h hb
theorem zlt {a b : Nat} (hb : b < 2 ^ 31) (h : a < b) : nI a < nI b := nI_lt h hb
theorem znlt {a b : Nat} (ha : a < 2 ^ 31) (h : b ≤ a) : ¬ nI a < nI b := nI_nlt h ha
theorem zne {a b : Nat} (ha : a < 2 ^ 31) (hb : b < 2 ^ 31) (h : a ≠ b) : ¬ nI a = nI b := fun q => h ((nI_eq ha hb).mp q)
theorem zm1lt : ((-1) : Int32) < 0 := by decide
theorem zm1ne {a : Nat} (ha : a < 2 ^ 31) : ¬ nI a = -1 := fun q => nI_pos ha (q ▸ zm1lt)
theorem zsub {a b : Nat} (h : b ≤ a) : nI a - nI b = nI (a - b) := pk_sub h
/-- a table of rows of w numbers, with a place for mc rows: its object at t, its cells at t + 1 -/
def zT (G : zG) (N : Nat) (Λ : zLay) (t w mc : Nat) : Prop := t + 1 < N ∧ (∀ f τ, Λ t f τ = .inr (1, [.int (nI w), .int (nI mc), .ref (G.h + (t + 1)), .int (f 3)])) ∧ zIA G Λ (t + 1) (w * mc) ∧ 0 < w ∧ w ≤ 5 ∧ mc ≤ 60
theorem zT.lt {G : zG} {N : Nat} {Λ : zLay} {t w mc : Nat} (h : zT G N Λ t w mc) : t < N := Nat.lt_of_succ_lt h.1
theorem zT.lt1 {G : zG} {N : Nat} {Λ : zLay} {t w mc : Nat} (h : zT G N Λ t w mc) : t + 1 < N := h.1
theorem zT.at {G : zG} {N : Nat} {Λ : zLay} {t w mc : Nat} (h : zT G N Λ t w mc) (f : Nat → Int32) (τ : Nat → Int64) : Λ t f τ = .inr (1, [.int (nI w), .int (nI mc), .ref (G.h + (t + 1)), .int (f 3)]) := h.2.1 f τ
theorem zT.arr {G : zG} {N : Nat} {Λ : zLay} {t w mc : Nat} (h : zT G N Λ t w mc) : zIA G Λ (t + 1) (w * mc) := h.2.2.1
theorem zT.w0 {G : zG} {N : Nat} {Λ : zLay} {t w mc : Nat} (h : zT G N Λ t w mc) : 0 < w := h.2.2.2.1
theorem zT.w5 {G : zG} {N : Nat} {Λ : zLay} {t w mc : Nat} (h : zT G N Λ t w mc) : w ≤ 5 := h.2.2.2.2.1
theorem zT.mc {G : zG} {N : Nat} {Λ : zLay} {t w mc : Nat} (h : zT G N Λ t w mc) : mc ≤ 60 := h.2.2.2.2.2
/-- a machine: its object at b, its verdicts, its three tables -/
def zMa (G : zG) (N : Nat) (Λ : zLay) (b x : Nat) : Prop := b + 7 < N ∧ x < 6 ∧ (∀ f τ, Λ b f τ = .inr (0, [.int (nI x), .int (f 1), .int (f 2), .int (f 3), .int (f 4), .ref (G.h + (b + 1)), .ref (G.h + (b + 2)), .ref (G.h + (b + 4)), .ref (G.h + (b + 6))])) ∧ zIA G Λ (b + 1) 6 ∧ zT G N Λ (b + 2) 4 40 ∧ zT G N Λ (b + 4) 3 60 ∧ zT G N Λ (b + 6) 5 40
theorem zMa.lt {G : zG} {N : Nat} {Λ : zLay} {b x : Nat} (h : zMa G N Λ b x) : b < N := by have := h.1; omega
theorem zMa.lt1 {G : zG} {N : Nat} {Λ : zLay} {b x : Nat} (h : zMa G N Λ b x) : b + 1 < N := by have := h.1; omega
theorem zMa.x6 {G : zG} {N : Nat} {Λ : zLay} {b x : Nat} (h : zMa G N Λ b x) : x < 6 := h.2.1
theorem zMa.at {G : zG} {N : Nat} {Λ : zLay} {b x : Nat} (h : zMa G N Λ b x) (f : Nat → Int32) (τ : Nat → Int64) : Λ b f τ = .inr (0, [.int (nI x), .int (f 1), .int (f 2), .int (f 3), .int (f 4), .ref (G.h + (b + 1)), .ref (G.h + (b + 2)), .ref (G.h + (b + 4)), .ref (G.h + (b + 6))]) := h.2.2.1 f τ
theorem zMa.ver {G : zG} {N : Nat} {Λ : zLay} {b x : Nat} (h : zMa G N Λ b x) : zIA G Λ (b + 1) 6 := h.2.2.2.1
theorem zMa.log {G : zG} {N : Nat} {Λ : zLay} {b x : Nat} (h : zMa G N Λ b x) : zT G N Λ (b + 2) 4 40 := h.2.2.2.2.1
theorem zMa.held {G : zG} {N : Nat} {Λ : zLay} {b x : Nat} (h : zMa G N Λ b x) : zT G N Λ (b + 4) 3 60 := h.2.2.2.2.2.1
theorem zMa.pend {G : zG} {N : Nat} {Λ : zLay} {b x : Nat} (h : zMa G N Λ b x) : zT G N Λ (b + 6) 5 40 := h.2.2.2.2.2.2
/-- a world: its object at b, the array of its machines, six machines, the queue, the evidence -/
def zWo (G : zG) (N : Nat) (Λ : zLay) (b : Nat) : Prop := b + 53 < N ∧ (∀ f τ, Λ b f τ = .inr (2, [.int (f 0), .ref (G.h + (b + 1)), .ref (G.h + (b + 50)), .ref (G.h + (b + 52))])) ∧ zRA G.cM Λ (b + 1) 6 (fun k => some (G.h + (b + 2 + 8 * k))) ∧ (∀ x, x < 6 → zMa G N Λ (b + 2 + 8 * x) x) ∧ zT G N Λ (b + 50) 5 40 ∧ zT G N Λ (b + 52) 4 30
theorem zWo.lt {G : zG} {N : Nat} {Λ : zLay} {b : Nat} (h : zWo G N Λ b) : b < N := by have := h.1; omega
theorem zWo.lt1 {G : zG} {N : Nat} {Λ : zLay} {b : Nat} (h : zWo G N Λ b) : b + 1 < N := by have := h.1; omega
theorem zWo.at {G : zG} {N : Nat} {Λ : zLay} {b : Nat} (h : zWo G N Λ b) (f : Nat → Int32) (τ : Nat → Int64) : Λ b f τ = .inr (2, [.int (f 0), .ref (G.h + (b + 1)), .ref (G.h + (b + 50)), .ref (G.h + (b + 52))]) := h.2.1 f τ
theorem zWo.ma {G : zG} {N : Nat} {Λ : zLay} {b : Nat} (h : zWo G N Λ b) : zRA G.cM Λ (b + 1) 6 (fun k => some (G.h + (b + 2 + 8 * k))) := h.2.2.1
theorem zWo.m {G : zG} {N : Nat} {Λ : zLay} {b x : Nat} (h : zWo G N Λ b) (hx : x < 6) : zMa G N Λ (b + 2 + 8 * x) x := h.2.2.2.1 x hx
theorem zWo.queue {G : zG} {N : Nat} {Λ : zLay} {b : Nat} (h : zWo G N Λ b) : zT G N Λ (b + 50) 5 40 := h.2.2.2.2.1
theorem zWo.evid {G : zG} {N : Nat} {Λ : zLay} {b : Nat} (h : zWo G N Λ b) : zT G N Λ (b + 52) 4 30 := h.2.2.2.2.2
theorem zcellL {r k c w m : Nat} (hr : r < k) (hk : k ≤ m) (hc : c < w) : r * w + c < w * m := by
  have h1 : (r + 1) * w ≤ m * w := Nat.mul_le_mul_right w (by omega)
  have h2 : (r + 1) * w = r * w + w := Nat.succ_mul r w
  have h3 : m * w = w * m := Nat.mul_comm m w
  omega
theorem zcell31 {w m : Nat} (hw : w ≤ 5) (hm : m ≤ 60) : w * m < 2 ^ 31 := by
  have h1 : w * m ≤ 5 * 60 := Nat.mul_le_mul hw hm
  omega
theorem zcellN (r c w : Nat) : nI r * nI w + nI c = nI (r * w + c) := by rw [pk_mul, nI_add]
