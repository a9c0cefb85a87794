/-! bits, gaps, costs: what both sides reckon -/
def nbt (x : Nat) : Nat := if x = 0 then 0 else Nat.log2 x + 1
theorem nbt_le {x w : Nat} : nbt x ≤ w ↔ x < 2 ^ w := by
  unfold nbt
  by_cases h : x = 0
  · rw [if_pos h, h]
    exact ⟨fun _ => Nat.two_pow_pos w, fun _ => Nat.zero_le w⟩
  · rw [if_neg h, Nat.succ_le_iff, Nat.log2_lt h]
theorem lt_nbt {x w : Nat} : w < nbt x ↔ 2 ^ w ≤ x := by
  rw [← Nat.not_le, nbt_le, Nat.not_lt]
/-- the gap ahead of index i -/
def gp (g : Nat → Int) (i : Nat) : Nat := (g i - g (i - 1) - 1).toNat
def bz (g : Nat → Int) (i : Nat) : Nat := nbt (gp g i)
def cnt (p : Nat → Bool) : Nat → Nat
  | 0 => 0
  | n + 1 => cnt p n + if p n then 1 else 0
theorem cnt_le (p : Nat → Bool) (n : Nat) : cnt p n ≤ n := by
  induction n with
  | zero => exact Nat.le_refl 0
  | succ n ih => simp only [cnt]; split <;> omega
theorem cnt_congr {p q : Nat → Bool} {n : Nat} (h : ∀ k, k < n → p k = q k) : cnt p n = cnt q n := by
  induction n with
  | zero => rfl
  | succ n ih => simp only [cnt]; rw [ih (fun k hk => h k (by omega)), h n (by omega)]
theorem cnt_split {p q r : Nat → Bool} {n : Nat} (h : ∀ k, k < n → (if p k then 1 else 0) = (if q k then 1 else 0) + (if r k then 1 else 0)) : cnt p n = cnt q n + cnt r n := by
  induction n with
  | zero => rfl
  | succ n ih =>
    simp only [cnt]
    have h1 := ih (fun k hk => h k (by omega))
    have h2 := h n (by omega)
    omega
theorem cnt_zero {p : Nat → Bool} {n : Nat} (h : ∀ k, k < n → p k = false) : cnt p n = 0 := by
  induction n with
  | zero => rfl
  | succ n ih => simp only [cnt]; rw [ih (fun k hk => h k (by omega)), h n (by omega)]; rfl
/-- how many gaps of the part that begins at f, of len numbers, need just w bits; more than w bits -/
def need (g : Nat → Int) (f len w : Nat) : Nat := cnt (fun q => decide (bz g (f + 1 + q) = w)) (len - 1)
def abv (g : Nat → Int) (f len w : Nat) : Nat := cnt (fun q => decide (w < bz g (f + 1 + q))) (len - 1)
def csw (g : Nat → Int) (f len w : Nat) : Int := 32 + (w : Int) * (len - 1) + 28 * (abv g f len w : Int)
def bwr (g : Nat → Int) (f len : Nat) : Nat → Nat
  | 0 => 0
  | w + 1 => if csw g f len (w + 1) < csw g f len (bwr g f len w) then w + 1 else bwr g f len w
def bw (g : Nat → Int) (f len : Nat) : Nat := bwr g f len 20
def bcost (g : Nat → Int) (f len : Nat) : Int := csw g f len (bw g f len)
def bexc (g : Nat → Int) (f len : Nat) : Nat := abv g f len (bw g f len)
theorem abv_succ (g : Nat → Int) (f len w : Nat) : abv g f len w = abv g f len (w + 1) + need g f len (w + 1) := by
  refine cnt_split (fun k _ => ?_)
  simp only [decide_eq_true_eq]
  split <;> split <;> split <;> omega
theorem abv_zero (g : Nat → Int) (f len : Nat) : abv g f len 0 + need g f len 0 = len - 1 := by
  have h : cnt (fun _ => true) (len - 1) = abv g f len 0 + need g f len 0 := by
    refine cnt_split (fun k _ => ?_)
    simp only [decide_eq_true_eq, if_true]
    split <;> split <;> omega
  have h2 : ∀ n, cnt (fun _ => true) n = n := fun n => by
    induction n with
    | zero => rfl
    | succ n ih => simp only [cnt, ih, if_true]
  rw [h2] at h
  exact h.symm
theorem abv_le (g : Nat → Int) (f len w : Nat) : abv g f len w ≤ len - 1 := cnt_le _ _
theorem bwr_le (g : Nat → Int) (f len w : Nat) : bwr g f len w ≤ w := by
  induction w with
  | zero => exact Nat.le_refl 0
  | succ w ih => simp only [bwr]; split <;> omega
theorem bwr_min (g : Nat → Int) (f len w : Nat) : ∀ v, v ≤ w → csw g f len (bwr g f len w) ≤ csw g f len v := by
  induction w with
  | zero => intro v hv; rw [show v = 0 by omega]; exact Int.le_refl _
  | succ w ih =>
    intro v hv
    simp only [bwr]
    split
    · next h =>
      rcases Nat.lt_or_ge w v with h2 | h2
      · rw [show v = w + 1 by omega]; exact Int.le_refl _
      · exact Int.le_of_lt (Int.lt_of_lt_of_le h (ih v h2))
    · next h =>
      rcases Nat.lt_or_ge w v with h2 | h2
      · rw [show v = w + 1 by omega]; exact Int.not_lt.mp h
      · exact ih v h2
/-- beyond the widest gap no width is better -/
theorem bwr_stop {g : Nat → Int} {f len W : Nat} (hl : 1 ≤ len) (h : ∀ q, q < len - 1 → bz g (f + 1 + q) ≤ W) : ∀ w, W ≤ w → bwr g f len w = bwr g f len W := by
  intro w hw
  induction w with
  | zero => rw [show W = 0 by omega]
  | succ w ih =>
    rcases Nat.lt_or_ge w W with h2 | h2
    · rw [show W = w + 1 by omega]
    · have h3 := ih h2
      have z : ∀ v, W ≤ v → abv g f len v = 0 := fun v hv => cnt_zero (fun q hq => by have := h q hq; simp only [decide_eq_false_iff_not]; omega)
      simp only [bwr]
      rw [h3, if_neg]
      have h4 := bwr_min g f len W W (Nat.le_refl W)
      have h5 : csw g f len W ≤ csw g f len (w + 1) := by
        unfold csw
        rw [z W (Nat.le_refl W), z (w + 1) (by omega)]
        have : ((W : Nat) : Int) * ((len : Int) - 1) ≤ ((w + 1 : Nat) : Int) * ((len : Int) - 1) := Int.mul_le_mul_of_nonneg_right (by omega) (by omega)
        omega
      omega
