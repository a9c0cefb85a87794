/-! the best way to cut: what is sought, and how windows find it -/
def prc (g : Nat → Int) (w j : Nat) : Nat := if w < bz g j then w + 28 else w
def psum (g : Nat → Int) (w i : Nat) : Nat → Nat
  | 0 => 0
  | n + 1 => psum g w i n + prc g w (i + 1 + n)
theorem psum_add (g : Nat → Int) (w i a b : Nat) : psum g w i (a + b) = psum g w i a + psum g w (i + a) b := by
  induction b with
  | zero => rfl
  | succ b ih =>
    rw [← Nat.add_assoc]
    simp only [psum]
    rw [ih, show i + 1 + (a + b) = i + a + 1 + b by omega]
    omega
theorem psum_cnt (g : Nat → Int) (w i n : Nat) : psum g w i n = w * n + 28 * cnt (fun q => decide (w < bz g (i + 1 + q))) n := by
  induction n with
  | zero => rfl
  | succ n ih =>
    simp only [psum, cnt, ih, prc, Nat.mul_succ, decide_eq_true_eq]
    split <;> omega
theorem psum_le (g : Nat → Int) (w i n : Nat) : psum g w i n ≤ (w + 28) * n := by
  induction n with
  | zero => simp [psum]
  | succ n ih =>
    simp only [psum, prc, Nat.mul_succ]
    split <;> omega
theorem csw_psum (g : Nat → Int) (i len w : Nat) (hl : 1 ≤ len) : csw g i len w = 32 + (psum g w i (len - 1) : Int) := by
  unfold csw abv
  rw [psum_cnt]
  have h : (w : Int) * ((len : Int) - 1) = ((w * (len - 1) : Nat) : Int) := by
    rw [Int.natCast_mul]
    congr 1
    omega
  rw [h]
  omega
/-- the price of all gaps behind i -/
def Pw (g : Nat → Int) (m w i : Nat) : Int := (psum g w i (m - 1 - i) : Int)
theorem csw_Pw (g : Nat → Int) {m i e : Nat} (w : Nat) (h1 : i < e) (h2 : e ≤ m) : csw g i (e - i) w = 32 + Pw g m w i - Pw g m w (e - 1) := by
  rw [csw_psum g i (e - i) w (by omega)]
  unfold Pw
  have := psum_add g w i (e - i - 1) (m - 1 - (e - 1))
  rw [show e - i - 1 + (m - 1 - (e - 1)) = m - 1 - i by omega, show i + (e - i - 1) = e - 1 by omega] at this
  omega
theorem Pw_step (g : Nat → Int) {m w i : Nat} (h : 1 ≤ i) (hm : i < m) : Pw g m w (i - 1) = Pw g m w i + (prc g w i : Int) := by
  unfold Pw
  have := psum_add g w (i - 1) 1 (m - 1 - i)
  rw [show 1 + (m - 1 - i) = m - 1 - (i - 1) by omega, show i - 1 + 1 = i by omega] at this
  simp only [psum] at this
  rw [show i - 1 + 1 + 0 = i by omega] at this
  omega
theorem Pw_bd (g : Nat → Int) {m w i : Nat} (hm : m ≤ 200) (hw : w ≤ 20) : 0 ≤ Pw g m w i ∧ Pw g m w i ≤ 10000 := by
  unfold Pw
  have h1 := psum_le g w i (m - 1 - i)
  have h2 : (w + 28) * (m - 1 - i) ≤ 48 * 200 := Nat.mul_le_mul (by omega) (by omega)
  omega
/-- what a way to cut that begins with the block from i to e comes to -/
def pval (g : Nat → Int) (R : Nat → Int) (i e : Nat) : Int := 256 * bcost g i (e - i) + 1 + R e
def pvw (g : Nat → Int) (R : Nat → Int) (w i e : Nat) : Int := 256 * csw g i (e - i) w + 1 + R e
/-- the best ranks and the ends of the first blocks -/
def Plan (g : Nat → Int) (m : Nat) (R : Nat → Int) (E : Nat → Nat) : Prop := R m = 0 ∧ ∀ i, i < m → i < E i ∧ E i ≤ i + 64 ∧ E i ≤ m ∧ R i = pval g R i (E i) ∧ ∀ e, i < e → e ≤ i + 64 → e ≤ m → R i ≤ pval g R i e ∧ (R i = pval g R i e → E i ≤ e)
theorem Plan.uniq {g : Nat → Int} {m : Nat} {R R' : Nat → Int} {E E' : Nat → Nat} (h : Plan g m R E) (h' : Plan g m R' E') : ∀ t i, m - i ≤ t → i ≤ m → R i = R' i ∧ (i < m → E i = E' i) := by
  intro t
  induction t with
  | zero => intro i h1 h2; rw [show i = m by omega, h.1, h'.1]; exact ⟨rfl, fun h => absurd h (Nat.lt_irrefl m)⟩
  | succ t ih =>
    intro i h1 h2
    rcases Nat.lt_or_ge i m with hi | hi
    · obtain ⟨a1, a2, a3, a4, a5⟩ := h.2 i hi
      obtain ⟨b1, b2, b3, b4, b5⟩ := h'.2 i hi
      have e1 : ∀ e, i < e → e ≤ m → pval g R i e = pval g R' i e := fun e he1 he2 => by unfold pval; rw [(ih e (by omega) he2).1]
      have c1 := a5 (E' i) b1 b2 b3
      have c2 := b5 (E i) a1 a2 a3
      rw [e1 _ b1 b3, ← b4] at c1
      rw [← e1 _ a1 a3, ← a4] at c2
      have hR : R i = R' i := by omega
      exact ⟨hR, fun _ => Nat.le_antisymm (c1.2 hR) (c2.2 hR.symm)⟩
    · rw [show i = m by omega, h.1, h'.1]; exact ⟨rfl, fun h => absurd h (Nat.lt_irrefl m)⟩
theorem bcost_le (g : Nat → Int) (i len w : Nat) (hw : w ≤ 20) : bcost g i len ≤ csw g i len w := bwr_min g i len 20 w hw
/-- the window of a width, seen from i -/
def own (g : Nat → Int) (m : Nat) (R : Nat → Int) (w e : Nat) : Int := R e - 256 * Pw g m w (e - 1)
def DQ (g : Nat → Int) (m : Nat) (R : Nat → Int) (w i : Nat) (D : List (Int × Int)) : Prop := (∀ x, x ∈ D → ∃ e : Nat, x = ((e : Int), own g m R w e) ∧ i < e ∧ e ≤ i + 64 ∧ e ≤ m) ∧ D.Pairwise (fun a b => b.1 < a.1 ∧ a.2 < b.2) ∧ ∀ e : Nat, i < e → e ≤ i + 64 → e ≤ m → ∃ x, x ∈ D ∧ x.1 ≤ e ∧ x.2 ≤ own g m R w e
theorem popb_spec (o : Int) : ∀ (n : Nat) (D : List (Int × Int)), D.length = n → D.Pairwise (fun a b => b.1 < a.1 ∧ a.2 < b.2) → (popb o D).Sublist D ∧ (∀ x, x ∈ popb o D → x.2 < o) ∧ ∀ x, x ∈ D → x ∈ popb o D ∨ o ≤ x.2 := by
  intro n
  induction n with
  | zero =>
    intro D hD _
    rw [List.length_eq_zero_iff.mp hD]
    exact ⟨List.Sublist.refl _, fun x hx => absurd hx List.not_mem_nil, fun x hx => absurd hx List.not_mem_nil⟩
  | succ n ih =>
    intro D hD hp
    obtain ⟨D0, e, rfl⟩ : ∃ D0 e, D = D0 ++ [e] := by
      have hne : D ≠ [] := fun h => by rw [h] at hD; simp at hD
      exact ⟨D.dropLast, D.getLast hne, (List.dropLast_concat_getLast hne).symm⟩
    rw [List.length_append, List.length_singleton] at hD
    have hp' := List.pairwise_append.mp hp
    rw [popb_snoc]
    by_cases h : o ≤ e.2
    · rw [if_pos h]
      obtain ⟨s1, s2, s3⟩ := ih D0 (by omega) hp'.1
      refine ⟨s1.trans (List.sublist_append_left D0 [e]), s2, fun x hx => ?_⟩
      rcases List.mem_append.mp hx with hx | hx
      · exact s3 x hx
      · rw [List.mem_singleton.mp hx]; exact Or.inr h
    · rw [if_neg h]
      refine ⟨List.Sublist.refl _, fun x hx => ?_, fun x hx => Or.inl hx⟩
      rcases List.mem_append.mp hx with hx | hx
      · have := (hp'.2.2 x hx e (List.mem_singleton.mpr rfl)).2; omega
      · rw [List.mem_singleton.mp hx]; omega
theorem expf_spec {en : Int} {D : List (Int × Int)} (hp : D.Pairwise (fun a b => b.1 < a.1 ∧ a.2 < b.2)) (hb : ∀ x, x ∈ D → x.1 ≤ en + 64) : (expf en D).Sublist D ∧ (∀ x, x ∈ expf en D → x.1 < en + 64) ∧ ∀ x, x ∈ D → x.1 < en + 64 → x ∈ expf en D := by
  cases D with
  | nil => exact ⟨List.Sublist.refl _, fun x hx => absurd hx List.not_mem_nil, fun x hx => absurd hx List.not_mem_nil⟩
  | cons e r =>
    have hp' := List.pairwise_cons.mp hp
    have hbe := hb e List.mem_cons_self
    simp only [expf]
    by_cases h : en + 64 ≤ e.1
    · rw [if_pos h]
      refine ⟨List.sublist_cons_self e r, fun x hx => ?_, fun x hx h2 => ?_⟩
      · have := (hp'.1 x hx).1; omega
      · rcases List.mem_cons.mp hx with rfl | hx
        · omega
        · exact hx
    · rw [if_neg h]
      refine ⟨List.Sublist.refl _, fun x hx => ?_, fun x hx _ => hx⟩
      rcases List.mem_cons.mp hx with rfl | hx
      · omega
      · have := (hp'.1 x hx).1; omega
theorem DQ.step {g : Nat → Int} {m w i : Nat} {R : Nat → Int} {D : List (Int × Int)} (hi : i < m) (h : DQ g m R w (i + 1) D) : DQ g m R w i (popb (own g m R w (i + 1)) (expf ((i + 1 : Nat) : Int) D) ++ [(((i + 1 : Nat) : Int), own g m R w (i + 1))]) := by
  obtain ⟨h1, h2, h3⟩ := h
  obtain ⟨x1, x2, x3⟩ := expf_spec (en := ((i + 1 : Nat) : Int)) h2 (fun x hx => by obtain ⟨e, rfl, _, q, _⟩ := h1 x hx; dsimp only; omega)
  have hp2 := h2.sublist x1
  obtain ⟨p1, p2, p3⟩ := popb_spec (own g m R w (i + 1)) _ _ rfl hp2
  refine ⟨fun x hx => ?_, ?_, fun e he1 he2 he3 => ?_⟩
  · rcases List.mem_append.mp hx with hx | hx
    · obtain ⟨e, rfl, q1, q2, q3⟩ := h1 x (x1.subset (p1.subset hx))
      have := x2 _ (p1.subset hx)
      dsimp only at this
      exact ⟨e, rfl, by omega, by omega, q3⟩
    · rw [List.mem_singleton.mp hx]
      exact ⟨i + 1, rfl, by omega, by omega, by omega⟩
  · rw [List.pairwise_append]
    refine ⟨hp2.sublist p1, List.pairwise_singleton _ _, fun a ha b hb => ?_⟩
    rw [List.mem_singleton.mp hb]
    obtain ⟨e, rfl, q1, q2, q3⟩ := h1 a (x1.subset (p1.subset ha))
    exact ⟨by dsimp only; omega, p2 _ ha⟩
  · rcases Nat.lt_or_ge (i + 1) e with hc | hc
    · obtain ⟨x, hx, y1, y2⟩ := h3 e hc (by omega) he3
      have hx2 := x3 x hx (by omega)
      rcases p3 x hx2 with h | h
      · exact ⟨x, List.mem_append_left _ h, y1, y2⟩
      · exact ⟨_, List.mem_append_right _ (List.mem_singleton.mpr rfl), by dsimp only; omega, by dsimp only; omega⟩
    · rw [show e = i + 1 by omega]
      exact ⟨_, List.mem_append_right _ (List.mem_singleton.mpr rfl), Int.le_refl _, Int.le_refl _⟩
theorem DQ.nil {g : Nat → Int} {m w : Nat} {R : Nat → Int} : DQ g m R w m [] := ⟨fun x hx => absurd hx List.not_mem_nil, List.Pairwise.nil, fun e h1 _ h3 => absurd h1 (by omega)⟩
/-- how long a window gets -/
theorem DQ.len {g : Nat → Int} {m w i : Nat} {R : Nat → Int} {D : List (Int × Int)} (h : DQ g m R w (i + 1) D) : (expf ((i + 1 : Nat) : Int) D).length < 64 := by
  obtain ⟨h1, h2, h3⟩ := h
  obtain ⟨x1, x2, x3⟩ := expf_spec (en := ((i + 1 : Nat) : Int)) h2 (fun x hx => by obtain ⟨e, rfl, _, q, _⟩ := h1 x hx; dsimp only; omega)
  have hp2 := h2.sublist x1
  have key : ∀ (L : List (Int × Int)) (lo hi : Int), L.Pairwise (fun a b => b.1 < a.1 ∧ a.2 < b.2) → (∀ x, x ∈ L → lo < x.1 ∧ x.1 < hi) → lo < hi → (L.length : Int) < hi - lo := by
    intro L
    induction L with
    | nil => intro lo hi _ _ h; simp; omega
    | cons a L ih =>
      intro lo hi hp hb _
      have hp' := List.pairwise_cons.mp hp
      have ha := hb a List.mem_cons_self
      have := ih lo a.1 hp'.2 (fun x hx => ⟨(hb x (List.mem_cons_of_mem _ hx)).1, (hp'.1 x hx).1⟩) ha.1
      rw [List.length_cons]
      omega
  have := key _ ((i + 1 : Nat) : Int) (((i + 1 : Nat) : Int) + 64) hp2 (fun x hx => ⟨by obtain ⟨e, rfl, q, _, _⟩ := h1 x (x1.subset hx); dsimp only; omega, x2 x hx⟩) (by omega)
  omega
/-- the first of the window is the best end of its width -/
theorem DQ.head {g : Nat → Int} {m w i : Nat} {R : Nat → Int} {D : List (Int × Int)} (hi : i < m) (h : DQ g m R w i D) : ∃ e : Nat, D[0]? = some ((e : Int), own g m R w e) ∧ i < e ∧ e ≤ i + 64 ∧ e ≤ m ∧ own g m R w e + 256 * (32 + Pw g m w i) + 1 = pvw g R w i e ∧ ∀ e', i < e' → e' ≤ i + 64 → e' ≤ m → pvw g R w i e ≤ pvw g R w i e' ∧ (pvw g R w i e = pvw g R w i e' → e ≤ e') := by
  obtain ⟨h1, h2, h3⟩ := h
  have hv : ∀ e, i < e → e ≤ m → own g m R w e + 256 * (32 + Pw g m w i) + 1 = pvw g R w i e := by
    intro e q1 q2
    unfold own pvw
    rw [csw_Pw g w q1 q2]
    omega
  cases D with
  | nil =>
    obtain ⟨x, hx, _⟩ := h3 (i + 1) (by omega) (by omega) (by omega)
    exact absurd hx List.not_mem_nil
  | cons a D =>
    obtain ⟨e, rfl, q1, q2, q3⟩ := h1 a List.mem_cons_self
    have hp' := List.pairwise_cons.mp h2
    refine ⟨e, rfl, q1, q2, q3, hv e q1 q3, fun e' y1 y2 y3 => ?_⟩
    obtain ⟨x, hx, z1, z2⟩ := h3 e' y1 y2 y3
    have v1 := hv e q1 q3
    have v2 := hv e' y1 y3
    rcases List.mem_cons.mp hx with rfl | hx
    · dsimp only at z1 z2
      exact ⟨by omega, fun _ => by omega⟩
    · have := (hp'.1 x hx).2
      dsimp only at this
      exact ⟨by omega, fun _ => by omega⟩
/-- the best of the widths -/
def chs (i : Nat) (h : Nat → Int × Int) : Nat → Int × Int
  | 0 => (2147483647, (i : Int) + 1)
  | w + 1 => if (h w).1 < (chs i h w).1 ∨ ((h w).1 = (chs i h w).1 ∧ (h w).2 < (chs i h w).2) then h w else chs i h w
theorem chs_min (i : Nat) (h : Nat → Int × Int) (hb : ∀ w, (h w).1 < 2147483647) : ∀ n, (n = 0 ∨ ∃ w, w < n ∧ chs i h n = h w) ∧ ∀ w, w < n → (chs i h n).1 ≤ (h w).1 ∧ ((chs i h n).1 = (h w).1 → (chs i h n).2 ≤ (h w).2) := by
  intro n
  induction n with
  | zero => exact ⟨Or.inl rfl, fun w hw => absurd hw (Nat.not_lt_zero w)⟩
  | succ n ih =>
    obtain ⟨i1, i2⟩ := ih
    simp only [chs]
    by_cases hc : (h n).1 < (chs i h n).1 ∨ ((h n).1 = (chs i h n).1 ∧ (h n).2 < (chs i h n).2)
    · rw [if_pos hc]
      refine ⟨Or.inr ⟨n, by omega, rfl⟩, fun w hw => ?_⟩
      rcases Nat.lt_or_ge w n with h1 | h1
      · have := i2 w h1
        omega
      · rw [show w = n by omega]; exact ⟨Int.le_refl _, fun _ => Int.le_refl _⟩
    · rw [if_neg hc]
      refine ⟨Or.inr ?_, fun w hw => ?_⟩
      · rcases i1 with h0 | ⟨w, hw, e⟩
        · subst h0
          exfalso
          apply hc
          left
          exact hb 0
        · exact ⟨w, by omega, e⟩
      · rcases Nat.lt_or_ge w n with h1 | h1
        · exact i2 w h1
        · rw [show w = n by omega]; omega
