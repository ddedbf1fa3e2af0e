/-! THE PURE SIDE: a world is a function from cell numbers and places to whole numbers; what kind a cell is stands in its shape. -/
abbrev PV := Nat × Int
abbrev Wd := Nat → Int → Int
abbrev Sh := Nat × Nat × List Nat
abbrev Gt := va_G × (Nat → ClassId) × (Nat → Nat) × (Nat → Nat) × Nat
def InI (z : Int) : Prop := -2147483648 ≤ z ∧ z < 2147483648
def InL (z : Int) : Prop := -9223372036854775808 ≤ z ∧ z < 9223372036854775808
def wr (z : Int) : Int := (z + 2147483648) % 4294967296 - 2147483648
def wrL (z : Int) : Int := (z + 9223372036854775808) % 18446744073709551616 - 9223372036854775808
theorem wr_in (z : Int) : InI (wr z) := by unfold InI wr; omega
theorem wrL_in (z : Int) : InL (wrL z) := by unfold InL wrL; omega
theorem wr_id {z : Int} (h1 : -2147483648 ≤ z) (h2 : z < 2147483648) : wr z = z := by unfold wr; omega
theorem wrL_id {z : Int} (h1 : -9223372036854775808 ≤ z) (h2 : z < 9223372036854775808) : wrL z = z := by unfold wrL; omega
theorem wr_bmod (z : Int) : wr z = z.bmod (2 ^ 32) := by
  unfold wr; rw [Int.bmod_def]; split <;> omega
theorem wrL_bmod (z : Int) : wrL z = z.bmod (2 ^ 64) := by
  unfold wrL; rw [Int.bmod_def]; split <;> omega
theorem toInt_wr (z : Int) : (Int32.ofInt z).toInt = wr z := by rw [wr_bmod, Int32.toInt_ofInt]
theorem toIntL_wr (z : Int) : (Int64.ofInt z).toInt = wrL z := by rw [wrL_bmod, Int64.toInt_ofInt]
theorem toInt_in {z : Int} (h : InI z) : (Int32.ofInt z).toInt = z := by rw [toInt_wr, wr_id h.1 h.2]
theorem toIntL_in {z : Int} (h : InL z) : (Int64.ofInt z).toInt = z := by rw [toIntL_wr, wrL_id h.1 h.2]
theorem i32_ext {a b : Int32} (h : a.toInt = b.toInt) : a = b := Int32.toInt_inj.mp h
theorem i64_ext {a b : Int64} (h : a.toInt = b.toInt) : a = b := Int64.toInt_inj.mp h
theorem i32_add (x y : Int) : Int32.ofInt x + Int32.ofInt y = Int32.ofInt (wr (x + y)) := by
  apply i32_ext; rw [Int32.toInt_add]; simp only [toInt_wr]; rw [← wr_bmod]; unfold wr; omega
theorem i32_sub (x y : Int) : Int32.ofInt x - Int32.ofInt y = Int32.ofInt (wr (x - y)) := by
  apply i32_ext; rw [Int32.toInt_sub]; simp only [toInt_wr]; rw [← wr_bmod]; unfold wr; omega
theorem i32_neg (x : Int) : -Int32.ofInt x = Int32.ofInt (wr (-x)) := by
  apply i32_ext; rw [Int32.toInt_neg]; simp only [toInt_wr]; rw [← wr_bmod]; unfold wr; omega
theorem i32_mul {x y : Int} (hx : InI x) (hy : InI y) : Int32.ofInt x * Int32.ofInt y = Int32.ofInt (wr (x * y)) := by
  apply i32_ext; rw [Int32.toInt_mul, toInt_in hx, toInt_in hy, ← wr_bmod]; rw [toInt_wr]; generalize x * y = z; unfold wr; omega
theorem i64_add (x y : Int) : Int64.ofInt x + Int64.ofInt y = Int64.ofInt (wrL (x + y)) := by
  apply i64_ext; rw [Int64.toInt_add]; simp only [toIntL_wr]; rw [← wrL_bmod]; unfold wrL; omega
theorem i64_sub (x y : Int) : Int64.ofInt x - Int64.ofInt y = Int64.ofInt (wrL (x - y)) := by
  apply i64_ext; rw [Int64.toInt_sub]; simp only [toIntL_wr]; rw [← wrL_bmod]; unfold wrL; omega
theorem i64_mul {x y : Int} (hx : InL x) (hy : InL y) : Int64.ofInt x * Int64.ofInt y = Int64.ofInt (wrL (x * y)) := by
  apply i64_ext; rw [Int64.toInt_mul, toIntL_in hx, toIntL_in hy, ← wrL_bmod]; rw [toIntL_wr]; generalize x * y = z; unfold wrL; omega
theorem i32_div {x y : Int} (hx : InI x) (hy : InI y) : Int32.ofInt x / Int32.ofInt y = Int32.ofInt (wr (x.tdiv y)) := by
  apply i32_ext; rw [Int32.toInt_div, toInt_in hx, toInt_in hy, ← wr_bmod, toInt_wr]; generalize x.tdiv y = z; unfold wr; omega
theorem i64_div {x y : Int} (hx : InL x) (hy : InL y) : Int64.ofInt x / Int64.ofInt y = Int64.ofInt (wrL (x.tdiv y)) := by
  apply i64_ext; rw [Int64.toInt_div, toIntL_in hx, toIntL_in hy, ← wrL_bmod, toIntL_wr]; generalize x.tdiv y = z; unfold wrL; omega
theorem i32_lt {x y : Int} (hx : InI x) (hy : InI y) : Int32.ofInt x < Int32.ofInt y ↔ x < y := by rw [Int32.lt_iff_toInt_lt, toInt_in hx, toInt_in hy]
theorem i32_le {x y : Int} (hx : InI x) (hy : InI y) : Int32.ofInt x ≤ Int32.ofInt y ↔ x ≤ y := by rw [Int32.le_iff_toInt_le, toInt_in hx, toInt_in hy]
theorem i32_eq {x y : Int} (hx : InI x) (hy : InI y) : Int32.ofInt x = Int32.ofInt y ↔ x = y := by rw [← Int32.toInt_inj, toInt_in hx, toInt_in hy]
theorem i64_lt {x y : Int} (hx : InL x) (hy : InL y) : Int64.ofInt x < Int64.ofInt y ↔ x < y := by rw [Int64.lt_iff_toInt_lt, toIntL_in hx, toIntL_in hy]
theorem i64_eq {x y : Int} (hx : InL x) (hy : InL y) : Int64.ofInt x = Int64.ofInt y ↔ x = y := by rw [← Int64.toInt_inj, toIntL_in hx, toIntL_in hy]
theorem InI_0 : InI 0 := by unfold InI; omega
theorem InI_L {z : Int} (h : InI z) : InL z := by unfold InI at h; unfold InL; omega
theorem i32_i2l {x : Int} (h : InI x) : (Int32.ofInt x).toInt64 = Int64.ofInt x := by
  apply i64_ext; rw [Int32.toInt_toInt64, toInt_in h, toIntL_in (InI_L h)]
theorem i32_zero : (0 : Int32) = Int32.ofInt 0 := by decide
theorem i64_zero : (0 : Int64) = Int64.ofInt 0 := by decide
theorem i32_clamp {x : Int} (h0 : 0 ≤ x) (h : InI x) : (Int32.ofInt x).toNatClampNeg = x.toNat := by
  show (Int32.ofInt x).toInt.toNat = _
  rw [toInt_in h]
theorem vp_in_int {x : Int} {n : Nat} (hn : n < 2147483648) (h0 : 0 ≤ x) (h1 : x < n) : vp_in (Int32.ofInt x) n := by
  have h : InI x := by unfold InI; omega
  rw [vp_in_iff, toInt_in h]; omega
def iand (x y : Int) : Int := (Int32.ofInt x &&& Int32.ofInt y).toInt
def ior (x y : Int) : Int := (Int32.ofInt x ||| Int32.ofInt y).toInt
def ixor (x y : Int) : Int := (Int32.ofInt x ^^^ Int32.ofInt y).toInt
def ishl (x y : Int) : Int := (Int32.ofInt x <<< (Int32.ofInt y &&& 31)).toInt
def ishr (x y : Int) : Int := (Int32.ofInt x >>> (Int32.ofInt y &&& 31)).toInt
def iushr (x y : Int) : Int := ((Int32.ofInt x).toUInt32 >>> ((Int32.ofInt y).toUInt32 &&& Int32.toUInt32 31)).toInt32.toInt
def i2c (x : Int) : Int := ((Int32.ofInt x).toUInt32 % 65536).toInt32.toInt
theorem ofInt_toInt (a : Int32) : Int32.ofInt a.toInt = a := by apply i32_ext; rw [toInt_in]; exact ⟨by have := Int32.le_toInt a; omega, by have := Int32.toInt_lt a; omega⟩
theorem toInt_InI (a : Int32) : InI a.toInt := ⟨by have := Int32.le_toInt a; omega, by have := Int32.toInt_lt a; omega⟩
