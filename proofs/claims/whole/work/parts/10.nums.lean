/-! ===== numbers ===== -/
def pI (q : Nat) : Int32 := nI q - 1
theorem pI_1 (q : Nat) : pI q + 1 = nI q := by unfold pI; exact Int32.sub_add_cancel _ _
theorem pI_s (x : Nat) : pI (x + 1) = nI x := nI_pred x
theorem pI_0 : pI 0 = -1 := by decide
theorem pI_2 (q : Nat) : pI q + 2 = nI (q + 1) := by
  have h : pI q + 2 = (pI q + 1) + 1 := by rw [Int32.add_assoc]; rfl
  rw [h, pI_1, nI_1]
theorem zlitL (n : Nat) : (OfNat.ofNat n : Int64) = lN n := rfl
theorem zrem {a : Nat} (d : Nat) (ha : a < 2 ^ 31) (h0 : 0 < d) (hd : d < 2 ^ 31) : nI a - nI a / nI d * nI d = nI (a % d) := pk_rem ha h0 hd
/-- the state behind a value v from the peer q - 1 -/
def nx (m v q : Nat) : Nat := (31 * m + 17 * v + q + 1) % 9973
theorem nx_lt (m v q : Nat) : nx m v q < 9973 := Nat.mod_lt _ (by decide)
theorem nx_i (m v q : Nat) : 31 * nI m + 17 * nI v + pI q + 2 = nI (31 * m + 17 * v + q + 1) := by
  rw [Int32.add_assoc (31 * nI m + 17 * nI v), pI_2, zlit 31, zlit 17, pk_mul, pk_mul, nI_add, nI_add]
  rfl
/-- the chain's next number -/
def nc (h a q v : Nat) : Nat := (h * 1000003 + 7 * a + 31 * q + 257 * v) % 2147483647
theorem nc_lt (h a q v : Nat) : nc h a q v < 2147483647 := Nat.mod_lt _ (by decide)
theorem nc_sum {h a q v : Nat} (hh : h < 2147483647) (ha : a ≤ 2) (hq : q ≤ 6) (hv : v < 1000) : (nI h).toInt64 * 1000003 + (7 * nI a).toInt64 + (31 * (pI q + 1)).toInt64 + (257 * nI v).toInt64 = lN (h * 1000003 + 7 * a + 31 * q + 257 * v) := by
  rw [pI_1, zlit 7, zlit 31, zlit 257, pk_mul, pk_mul, pk_mul, nI_l (by omega), nI_l (by omega), nI_l (by omega), nI_l (by omega), zlitL 1000003, lN_mul, lN_add, lN_add, lN_add]
/-- to whom a machine sends -/
def gt (x m n : Nat) : Nat := (x + 1 + m % (n - 1)) % n
theorem gt_lt {x m n : Nat} (h : 2 ≤ n) : gt x m n < n := Nat.mod_lt _ (by omega)
theorem gt_lo {x m n : Nat} (h : x + 1 + m % (n - 1) < n) : gt x m n = x + 1 + m % (n - 1) := Nat.mod_eq_of_lt h
theorem gt_hi {x m n : Nat} (hn : 2 ≤ n) (hx : x < n) (h : ¬ x + 1 + m % (n - 1) < n) : gt x m n = x + 1 + m % (n - 1) - n := by
  have h1 : m % (n - 1) < n - 1 := Nat.mod_lt _ (by omega)
  unfold gt
  rw [Nat.mod_eq_sub_mod (by omega), Nat.mod_eq_of_lt (by omega)]
def othI (x n : Nat) : Int32 := ((1 : Int32) <<< (nI n &&& 31) - 1) &&& ((1 : Int32) <<< (nI x &&& 31) ^^^ (-1))
def hasO (m : Nat) : Int32 := if m % 3 = 0 then 1 else 0
