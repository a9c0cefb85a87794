/-! ints as integers -/
def zI (z : Int) : Int32 := Int32.ofInt z
theorem zI_self (x : Int32) : zI x.toInt = x := Int32.ofInt_toInt x
theorem zI_t {z : Int} (h1 : -2147483648 ≤ z) (h2 : z < 2147483648) : (zI z).toInt = z := Int32.toInt_ofInt_of_le h1 h2
theorem zI_add (a b : Int) : zI a + zI b = zI (a + b) := (Int32.ofInt_add a b).symm
theorem zI_sub (a b : Int) : zI a - zI b = zI (a - b) := (Int32.ofInt_sub a b).symm
theorem zI_mul (a b : Int) : zI a * zI b = zI (a * b) := (Int32.ofInt_mul a b).symm
theorem zI_neg (a : Int) : -zI a = zI (-a) := Int32.neg_ofInt
theorem zI_inc (a : Int) : zI a + Int32.ofInt 1 = zI (a + 1) := zI_add a 1
theorem zI_dec (a : Int) : zI a + Int32.ofInt (-1) = zI (a - 1) := zI_add a (-1)
theorem zI_n {z : Int} (h1 : 0 ≤ z) (h2 : z < 2147483648) : (zI z).toNatClampNeg = z.toNat := by
  rw [← Int32.toNat_toInt, zI_t (by omega) h2]
theorem zI_lt {a b : Int} (ha : -2147483648 ≤ a) (ha2 : a < 2147483648) (hb : -2147483648 ≤ b) (hb2 : b < 2147483648) : zI a < zI b ↔ a < b := by
  rw [Int32.lt_iff_toInt_lt, zI_t ha ha2, zI_t hb hb2]
theorem zI_le {a b : Int} (ha : -2147483648 ≤ a) (ha2 : a < 2147483648) (hb : -2147483648 ≤ b) (hb2 : b < 2147483648) : zI a ≤ zI b ↔ a ≤ b := by
  rw [Int32.le_iff_toInt_le, zI_t ha ha2, zI_t hb hb2]
theorem zI_eq {a b : Int} (ha : -2147483648 ≤ a) (ha2 : a < 2147483648) (hb : -2147483648 ≤ b) (hb2 : b < 2147483648) : zI a = zI b ↔ a = b := by
  rw [← Int32.toInt_inj, zI_t ha ha2, zI_t hb hb2]
theorem zI_div {a b : Int} (ha : 0 ≤ a) (ha2 : a < 2147483648) (hb : 0 < b) (hb2 : b < 2147483648) : zI a / zI b = zI (a / b) := by
  have hq : (zI b) ≠ -1 := by
    intro h
    have := congrArg Int32.toInt h
    rw [zI_t (by omega) hb2, show ((-1 : Int32).toInt) = -1 from by decide] at this
    omega
  have hle : a / b ≤ a := Int.ediv_le_self b ha
  have h0 : 0 ≤ a / b := Int.ediv_nonneg ha (by omega)
  rw [← Int32.toInt_inj, Int32.toInt_div_of_ne_right _ _ hq, zI_t (by omega) ha2, zI_t (by omega) hb2, zI_t (by omega) (by omega), Int.tdiv_eq_ediv_of_nonneg ha]
theorem t_lt (x : Int32) : x.toInt < 2147483648 := x.toInt_lt
theorem t_ge (x : Int32) : -2147483648 ≤ x.toInt := x.le_toInt
theorem t_in {i : Int32} {n : Nat} (h0 : 0 ≤ i.toInt) (h1 : i.toInt < n) : vp_in i n := by
  intro h
  rcases h with h | h
  · have := Int32.lt_iff_toInt_lt.mp h
    rw [Int32.toInt_zero] at this
    omega
  · rw [← Int32.toNat_toInt] at h
    omega
theorem z_in {z : Int} {n : Nat} (h0 : 0 ≤ z) (h1 : z < n) (h2 : z < 2147483648) : vp_in (zI z) n := t_in (by rw [zI_t (by omega) h2]; exact h0) (by rw [zI_t (by omega) h2]; exact h1)
theorem t_lt0 {x : Int32} : x < 0 ↔ x.toInt < 0 := by rw [Int32.lt_iff_toInt_lt, Int32.toInt_zero]
theorem t_ge0 {x : Int32} : 0 ≤ x ↔ 0 ≤ x.toInt := by rw [Int32.le_iff_toInt_le, Int32.toInt_zero]
theorem t_lt' {x y : Int32} : x < y ↔ x.toInt < y.toInt := Int32.lt_iff_toInt_lt
theorem t_le' {x y : Int32} : x ≤ y ↔ x.toInt ≤ y.toInt := Int32.le_iff_toInt_le
theorem t_eq' {x y : Int32} : x = y ↔ x.toInt = y.toInt := Int32.toInt_inj.symm
theorem t_lit (z : Int) (h1 : -2147483648 ≤ z) (h2 : z < 2147483648) : (Int32.ofInt z).toInt = z := Int32.toInt_ofInt_of_le h1 h2
theorem t_zI {x : Int32} {z : Int} (h : x.toInt = z) : x = zI z := by rw [← h, zI_self]
