def RowAt (T : fT) (r cap : Nat) : Prop := r < T.1 ∧ r + 1 < T.1 ∧ T.2.1 r = 9 ∧ T.2.1 (r + 1) = 13 ∧ T.2.2.2 r 0 = some (r + 1) ∧ T.2.2.1 (r + 1) = cap ∧ cap < 100000
def rget (I : fI) (r : Nat) (i : Int32) : Int32 := if i < 0 then -1 else if I r 1 ≤ i then -1 else I (r + 1) i.toNatClampNeg
theorem rget_in {I : fI} {r : Nat} {z : Int} (h0 : 0 ≤ z) (h1 : z < (I r 1).toInt) : rget I r (zI z) = I (r + 1) z.toNat := by
  have := t_lt (I r 1)
  unfold rget
  rw [if_neg (by rw [t_lt0, zI_t (by omega) (by omega)]; omega), if_neg (by rw [t_le', zI_t (by omega) (by omega)]; omega), zI_n h0 (by omega)]
theorem rget_out {I : fI} {r : Nat} {i : Int32} (h : i.toInt < 0 ∨ (I r 1).toInt ≤ i.toInt) : rget I r i = -1 := by
  unfold rget
  by_cases h1 : i < 0
  · rw [if_pos h1]
  · rw [if_neg h1, if_pos (by rw [t_lt0] at h1; rw [t_le']; omega)]
/-- a row that holds the m numbers g -/
def RowIs (T : fT) (I : fI) (r cap : Nat) (g : Nat → Int) (m : Nat) : Prop := RowAt T r cap ∧ m ≤ cap ∧ (I r 1).toInt = m ∧ ∀ k, k < m → (I (r + 1) k).toInt = g k
theorem RowIs.fr {T : fT} {I I' : fI} {r cap m : Nat} {g : Nat → Int} (h : RowIs T I r cap g m) (h1 : I' r = I r) (h2 : I' (r + 1) = I (r + 1)) : RowIs T I' r cap g m := ⟨h.1, h.2.1, by rw [h1]; exact h.2.2.1, fun k hk => by rw [h2]; exact h.2.2.2 k hk⟩
theorem RowIs.cong {T : fT} {I : fI} {r cap m : Nat} {g g' : Nat → Int} (h : RowIs T I r cap g m) (hg : ∀ k, k < m → g' k = g k) : RowIs T I r cap g' m := ⟨h.1, h.2.1, h.2.2.1, fun k hk => by rw [hg k hk]; exact h.2.2.2 k hk⟩
theorem RowIs.get {T : fT} {I : fI} {r cap m : Nat} {g : Nat → Int} (h : RowIs T I r cap g m) {z : Int} (h0 : 0 ≤ z) (h1 : z < m) : rget I r (zI z) = zI (g z.toNat) := by
  rw [rget_in h0 (by rw [h.2.2.1]; exact h1)]
  exact t_zI (h.2.2.2 _ (by omega))
/-- outside of the listed cells nothing changes -/
def fr (I I' : fI) (S : List Nat) : Prop := ∀ b, b ∉ S → I' b = I b
def Sorted (g : Nat → Int) (m : Nat) : Prop := ∀ a b, a < b → b < m → g a < g b
def FA (g : Nat → Int) (m : Nat) (v : Int) (p : Nat) : Prop := p ≤ m ∧ (∀ k, k < p → g k < v) ∧ ∀ k, p ≤ k → k < m → v ≤ g k
theorem FA.uniq {g : Nat → Int} {m : Nat} {v : Int} {p q : Nat} (h : FA g m v p) (h2 : FA g m v q) : p = q := by
  rcases Nat.lt_trichotomy p q with h3 | h3 | h3
  · have := h.2.2 p (Nat.le_refl _) (by have := h2.1; omega)
    have := h2.2.1 p h3
    omega
  · exact h3
  · have := h2.2.2 q (Nat.le_refl _) (by have := h.1; omega)
    have := h.2.1 q h3
    omega
def ins (g : Nat → Int) (p : Nat) (v : Int) : Nat → Int := fun k => if k < p then g k else if k = p then v else g (k - 1)
def del (g : Nat → Int) (p : Nat) : Nat → Int := fun k => if k < p then g k else g (k + 1)
def gapz (g : Nat → Int) (m : Nat) (z : Int) : Int := if 1 ≤ z ∧ z < m then g z.toNat - g (z.toNat - 1) - 1 else 0
set_option maxRecDepth 100000 in
set_option maxHeartbeats 4000000 in
theorem c_get {G : fG} {x0 : Nat} {l : Launch} {d k n : Nat} {T : fT} {I : fI} {J : fJ} {Q : Option Value → fT → fI → fJ → Prop} {r cap : Nat} {i v : Int32} (hR : RowAt T r cap) (hs : (I r 1).toInt ≤ cap) (hv : rget I r i = v) (hq : Q (some (.int v)) T I J) : PW G x0 l mX9_get d (ZM G x0 Q) k n 0 [(0, .ref (x0 + r)), (1, .int i)] [] T I J := by
  obtain ⟨a1, a2, a3, a4, a5, a6, a7⟩ := hR
  subst hv
  unfold rget at hq
  refine s_iload_n (i := 1) dX9_get_0 rfl rfl ?_
  refine s_if_lt (tgt := 21) dX9_get_1 (by decide) (fun h1 => ?_) (fun h1 => ?_)
  · refine s_iconst (v := -1) dX9_get_21 (by decide) ?_
    refine s_iret dX9_get_22 rfl ?_
    first | (rw [if_pos h1] at hq; exact hq) | (rw [if_neg h1, if_pos h9] at hq; exact hq) | (rw [if_neg h1, if_neg h9] at hq; exact hq)
  · refine s_iload_n (i := 1) dX9_get_4 rfl rfl ?_
    refine s_aload_n (i := 0) dX9_get_5 rfl rfl ?_
    refine s_getI dX9_get_6 fl_X9_21 (by assumption) (by assumption) ?_
    refine s_icmp_ge (tgt := 21) dX9_get_9 (by decide) (fun h9 => ?_) (fun h9 => ?_)
    · refine s_iconst (v := -1) dX9_get_21 (by decide) ?_
      refine s_iret dX9_get_22 rfl ?_
      first | (rw [if_pos h1] at hq; exact hq) | (rw [if_neg h1, if_pos h9] at hq; exact hq) | (rw [if_neg h1, if_neg h9] at hq; exact hq)
    · refine s_aload_n (i := 0) dX9_get_12 rfl rfl ?_
      refine s_getR dX9_get_13 fl_X9_15 (by assumption) (by assumption) (by assumption) ?_
      refine s_iload_n (i := 1) dX9_get_16 rfl rfl ?_
      refine s_iald dX9_get_17 (by assumption) (by assumption) (by rw [t_lt0] at h1; rw [t_le'] at h9; exact t_in (by omega) (by omega)) ?_
      refine s_goto (tgt := 22) dX9_get_18 (by decide) ?_
      refine s_iret dX9_get_22 rfl ?_
      first | (rw [if_pos h1] at hq; exact hq) | (rw [if_neg h1, if_pos h9] at hq; exact hq) | (rw [if_neg h1, if_neg h9] at hq; exact hq)
theorem c_getz {G : fG} {x0 : Nat} {l : Launch} {d k n : Nat} {T : fT} {I : fI} {J : fJ} {Q : Option Value → fT → fI → fJ → Prop} {r cap m : Nat} {g : Nat → Int} {z : Int} (hR : RowIs T I r cap g m) (h0 : 0 ≤ z) (h1 : z < m) (hq : Q (some (.int (zI (g z.toNat)))) T I J) : PW G x0 l mX9_get d (ZM G x0 Q) k n 0 [(0, .ref (x0 + r)), (1, .int (zI z))] [] T I J := c_get hR.1 (by rw [hR.2.2.1]; have := hR.2.1; omega) (hR.get h0 h1) hq
set_option maxRecDepth 100000 in
set_option maxHeartbeats 4000000 in
theorem c_append {G : fG} {x0 : Nat} {l : Launch} {d k n : Nat} {T : fT} {I : fI} {J : fJ} {Q : Option Value → fT → fI → fJ → Prop} {r cap m : Nat} {g : Nat → Int} {v : Int32} (hR : RowIs T I r cap g m) (hm : m < cap) (hq : ∀ I', fr I I' [r, r + 1] → RowIs T I' r cap (fun q => if q = m then v.toInt else g q) (m + 1) → Q none T I' J) : PW G x0 l mX9_append d (ZM G x0 Q) k n 0 [(0, .ref (x0 + r)), (1, .int v)] [] T I J := by
  obtain ⟨hA, b1, b2, b3⟩ := id hR
  obtain ⟨a1, a2, a3, a4, a5, a6, a7⟩ := id hA
  refine s_aload_n (i := 0) dX9_append_0 rfl rfl ?_
  refine s_getI dX9_append_1 fl_X9_21 (by assumption) (by assumption) ?_
  refine s_aload_n (i := 0) dX9_append_4 rfl rfl ?_
  refine s_getR dX9_append_5 fl_X9_15 (by assumption) (by assumption) (by assumption) ?_
  refine s_alen dX9_append_8 (by assumption) (by omega) (rfl) ?_
  refine s_icmp_ge (tgt := 32) dX9_append_9 (by decide) (fun h9 => absurd h9 (by rw [a6, t_le', b2]; show ¬ (Int32.ofInt (cap : Int)).toInt ≤ _; rw [t_lit _ (by omega) (by omega)]; omega)) (fun h9 => ?_)
  refine s_aload_n (i := 0) dX9_append_12 rfl rfl ?_
  refine s_getR dX9_append_13 fl_X9_15 (by assumption) (by assumption) (by assumption) ?_
  refine s_aload_n (i := 0) dX9_append_16 rfl rfl ?_
  refine s_getI dX9_append_17 fl_X9_21 (by assumption) (by assumption) ?_
  refine s_iload_n (i := 1) dX9_append_20 rfl rfl ?_
  refine s_iast dX9_append_21 (by assumption) (by assumption) (t_in (by omega) (by omega)) ?_
  refine s_aload_n (i := 0) dX9_append_22 rfl rfl ?_
  refine s_dup dX9_append_23 rfl ?_
  refine s_getI dX9_append_24 fl_X9_21 (by assumption) (by assumption) ?_
  refine s_iconst (v := 1) dX9_append_27 (by decide) ?_
  refine s_iadd dX9_append_28 ?_
  refine s_putI dX9_append_29 fp_X9_21 (by assumption) (by assumption) ?_
  refine s_ret dX9_append_32 rfl ?_
  refine hq _ (fun b hb => ?_) ⟨hA, by omega, ?_, fun q hq => ?_⟩
  · simp only [List.mem_cons, List.not_mem_nil, or_false, not_or] at hb
    rw [iu_ne hb.1, iu_ne hb.2]
  · simp only [iu, if_true, if_neg (show ¬ r = r + 1 by omega)]
    rw [t_zI b2, show (1 : Int32) = zI 1 from rfl, zI_add, zI_t (by omega) (by omega)]
    omega
  · have e : (I r 1).toNatClampNeg = m := by rw [← Int32.toNat_toInt, b2]; omega
    simp only [iu, if_true, if_neg (show ¬ r + 1 = r by omega), e]
    by_cases h : q = m
    · rw [if_pos h, if_pos h]
    · rw [if_neg h, if_neg h]
      exact b3 q (by omega)
set_option maxRecDepth 100000 in
set_option maxHeartbeats 4000000 in
theorem c_rowCopy {G : fG} {x0 : Nat} {l : Launch} {d k n : Nat} {T : fT} {I : fI} {J : fJ} {Q : Option Value → fT → fI → fJ → Prop} {r s cap cap2 m : Nat} {g : Nat → Int} (hA : RowAt T r cap) (hS : RowIs T I s cap2 g m) (hrs : r ≠ s ∧ r ≠ s + 1 ∧ r + 1 ≠ s) (hm : m ≤ cap) (hq : ∀ I', fr I I' [r, r + 1] → RowIs T I' r cap g m → Q none T I' J) : PW G x0 l mX9_copyFrom (d + 1) (ZM G x0 Q) k n 0 [(0, .ref (x0 + r)), (1, .ref (x0 + s))] [] T I J := by
  obtain ⟨a1, a2, a3, a4, a5, a6, a7⟩ := id hA
  obtain ⟨hA2, b1, b2, b3⟩ := id hS
  obtain ⟨c1, c2, c3, c4, c5, c6, c7⟩ := id hA2
  refine s_aload_n (i := 0) dX9_copyFrom_0 rfl rfl ?_
  refine s_aload_n (i := 1) dX9_copyFrom_1 rfl rfl ?_
  refine s_getI dX9_copyFrom_2 fl_X9_21 (by assumption) (by assumption) ?_
  refine s_aload_n (i := 0) dX9_copyFrom_5 rfl rfl ?_
  refine s_getR dX9_copyFrom_6 fl_X9_15 (by assumption) (by assumption) (by assumption) ?_
  refine s_alen dX9_copyFrom_9 (by assumption) (by omega) (rfl) ?_
  refine s_min dX9_copyFrom_10 wM_X9_25 (Nat.le_of_ble_eq_true rfl) ?_
  refine s_topi (y := zI m) ?_ ?_
  · rw [a6, t_zI b2]
    show (if zI m > zI cap then zI cap else zI m) = zI m
    rw [if_neg (by rw [gt_iff_lt, zI_lt (by omega) (by omega) (by omega) (by omega)]; omega)]
  refine s_putI dX9_copyFrom_13 fp_X9_21 (by assumption) (by assumption) ?_
  refine s_aload_n (i := 1) dX9_copyFrom_16 rfl rfl ?_
  refine s_getR dX9_copyFrom_17 fl_X9_15 (by assumption) (by assumption) (by assumption) ?_
  refine s_iconst (v := 0) dX9_copyFrom_20 (by decide) ?_
  refine s_aload_n (i := 0) dX9_copyFrom_21 rfl rfl ?_
  refine s_getR dX9_copyFrom_22 fl_X9_15 (by assumption) (by assumption) (by assumption) ?_
  refine s_iconst (v := 0) dX9_copyFrom_25 (by decide) ?_
  refine s_aload_n (i := 0) dX9_copyFrom_26 rfl rfl ?_
  refine s_getI dX9_copyFrom_27 fl_X9_21 (by assumption) (by assumption) ?_
  refine s_topi (y := zI m) (by simp [iu]) ?_
  refine s_copy dX9_copyFrom_30 wM_X9_28 (by assumption) (by assumption) (by assumption) (by assumption) (by decide) (by decide) (by rw [t_lt0, zI_t (by omega) (by omega)]; omega) (by rw [zI_n (by omega) (by omega), c6]; show 0 + _ ≤ _; omega) (by rw [zI_n (by omega) (by omega), a6]; show 0 + _ ≤ _; omega) (Nat.le_of_ble_eq_true rfl) ?_
  refine s_ret dX9_copyFrom_33 rfl ?_
  refine hq _ (fun b hb => ?_) ⟨hA, hm, ?_, fun q hq => ?_⟩
  · simp only [List.mem_cons, List.not_mem_nil, or_false, not_or] at hb
    rw [ia_ne hb.2, iu_ne hb.1]
  · rw [ia_ne (show r ≠ r + 1 by omega)]
    simp only [iu, if_true]
    exact zI_t (by omega) (by omega)
  · rw [ia_eq, zI_n (by omega) (by omega)]
    show Int32.toInt (va_cpy _ _ 0 0 _ q) = _
    simp only [va_cpy, Nat.zero_le, true_and, Nat.zero_add, Int.toNat_natCast, if_pos hq, Nat.sub_zero]
    rw [iu_ne (by omega)]
    exact b3 q hq
set_option maxRecDepth 100000 in
set_option maxHeartbeats 4000000 in
theorem l_fal {G : fG} {x0 : Nat} {l : Launch} {d k n : Nat} {T : fT} {I : fI} {J : fJ} {Q : Option Value → fT → fI → fJ → Prop} {r cap m : Nat} {g : Nat → Int} {v : Int32} (hR : RowIs T I r cap g m) (hs : Sorted g m) (hq : ∀ p, FA g m v.toInt p → Q (some (.int (zI p))) T I J) : ∀ (z lo hi : Nat), hi - lo ≤ z → lo ≤ hi → hi ≤ m → (∀ q, q < lo → g q < v.toInt) → (∀ q, hi ≤ q → q < m → v.toInt ≤ g q) →
    PW G x0 l mX9_firstAtLeast (d + 1) (ZM G x0 Q) k n 7 [(0, .ref (x0 + r)), (1, .int v), (2, .int (zI lo)), (3, .int (zI hi))] [] T I J := by
  obtain ⟨hA, b1, b2, b3⟩ := id hR
  obtain ⟨a1, a2, a3, a4, a5, a6, a7⟩ := id hA
  intro z
  induction z with
  | zero =>
    intro lo hi hz h1 h2 h3 h4
    refine s_iload_n (i := 2) dX9_firstAtLeast_7 rfl rfl ?_
    refine s_iload_n (i := 3) dX9_firstAtLeast_8 rfl rfl ?_
    refine s_icmp_ge (tgt := 43) dX9_firstAtLeast_9 (by decide) (fun h9 => ?_) (fun h9 => absurd (by rw [zI_le (by omega) (by omega) (by omega) (by omega)]; omega) h9)
    refine s_iload_n (i := 2) dX9_firstAtLeast_43 rfl rfl ?_
    refine s_iret dX9_firstAtLeast_44 rfl ?_
    exact hq lo ⟨by omega, h3, fun q hq1 hq2 => h4 q (by omega) hq2⟩
  | succ z ih =>
    intro lo hi hz h1 h2 h3 h4
    refine s_iload_n (i := 2) dX9_firstAtLeast_7 rfl rfl ?_
    refine s_iload_n (i := 3) dX9_firstAtLeast_8 rfl rfl ?_
    refine s_icmp_ge (tgt := 43) dX9_firstAtLeast_9 (by decide) (fun h9 => ?_) (fun h9 => ?_)
    · refine s_iload_n (i := 2) dX9_firstAtLeast_43 rfl rfl ?_
      refine s_iret dX9_firstAtLeast_44 rfl ?_
      rw [zI_le (by omega) (by omega) (by omega) (by omega)] at h9
      exact hq lo ⟨by omega, h3, fun q hq1 hq2 => h4 q (by omega) hq2⟩
    · rw [zI_le (by omega) (by omega) (by omega) (by omega)] at h9
      refine s_iload_n (i := 2) dX9_firstAtLeast_12 rfl rfl ?_
      refine s_iload_n (i := 3) dX9_firstAtLeast_13 rfl rfl ?_
      refine s_iadd dX9_firstAtLeast_14 ?_
      refine s_iconst (v := 2) dX9_firstAtLeast_15 (by decide) ?_
      refine s_idiv dX9_firstAtLeast_16 (by decide) ?_
      refine s_topi (y := zI (((lo + hi) / 2 : Nat) : Int)) (by rw [zI_add]; show zI _ / zI 2 = _; rw [zI_div (by omega) (by omega) (by omega) (by omega)]; congr 1) ?_
      refine s_istore dX9_firstAtLeast_17 (by decide) (by simp only [sl, sl2, rm, Value.category, reduceIte, Nat.reduceAdd, Nat.reduceEqDiff, reduceCtorEq]; rfl) ?_
      refine s_aload_n (i := 0) dX9_firstAtLeast_19 rfl rfl ?_
      refine s_iload dX9_firstAtLeast_20 rfl ?_
      refine s_cV_I (My := mX9_get) dX9_firstAtLeast_22 wM_X9_34 cb_yX9_get ci_yX9_get (by assumption) (by assumption) (Nat.le_of_ble_eq_true rfl) (by decide) (c_getz hR (by omega) (by omega) ?_)
      refine s_iload_n (i := 1) dX9_firstAtLeast_25 rfl rfl ?_
      refine s_icmp_lt (tgt := 35) dX9_firstAtLeast_26 (by decide) (fun h26 => ?_) (fun h26 => ?_)
      · rw [t_lt', zI_t (by have := t_lt (I (r + 1) ((lo + hi) / 2)); have := t_ge (I (r + 1) ((lo + hi) / 2)); have := b3 ((lo + hi) / 2) (by omega); simp only [Int.toNat_natCast]; omega) (by have := t_lt (I (r + 1) ((lo + hi) / 2)); have := b3 ((lo + hi) / 2) (by omega); simp only [Int.toNat_natCast]; omega)] at h26
        simp only [Int.toNat_natCast] at h26
        refine s_iload dX9_firstAtLeast_35 rfl ?_
        refine s_iconst (v := 1) dX9_firstAtLeast_37 (by decide) ?_
        refine s_iadd dX9_firstAtLeast_38 ?_
        refine s_topi (y := zI (((lo + hi) / 2 + 1 : Nat) : Int)) (by show zI _ + zI 1 = _; rw [zI_add]; congr 1) ?_
        refine s_istore_n (i := 2) dX9_firstAtLeast_39 rfl (by decide) (by simp only [sl, sl2, rm, Value.category, reduceIte, Nat.reduceAdd, Nat.reduceEqDiff, reduceCtorEq]; rfl) ?_
        refine s_goto (tgt := 7) dX9_firstAtLeast_40 (by decide) ?_
        refine s_lv (lv' := [(0, .ref (x0 + r)), (1, .int v), (2, .int (zI (((lo + hi) / 2 + 1 : Nat) : Int))), (3, .int (zI hi))]) ⟨rfl, rfl, rfl, rfl, trivial⟩ ?_
        refine ih ((lo + hi) / 2 + 1) hi (by omega) (by omega) h2 (fun q hq => ?_) h4
        rcases Nat.lt_or_ge q ((lo + hi) / 2) with h | h
        · exact Int.lt_trans (hs q _ h (by omega)) h26
        · rw [show q = (lo + hi) / 2 by omega]; exact h26
      · rw [t_lt', zI_t (by have := t_lt (I (r + 1) ((lo + hi) / 2)); have := t_ge (I (r + 1) ((lo + hi) / 2)); have := b3 ((lo + hi) / 2) (by omega); simp only [Int.toNat_natCast]; omega) (by have := t_lt (I (r + 1) ((lo + hi) / 2)); have := b3 ((lo + hi) / 2) (by omega); simp only [Int.toNat_natCast]; omega)] at h26
        simp only [Int.toNat_natCast] at h26
        refine s_iload dX9_firstAtLeast_29 rfl ?_
        refine s_istore_n (i := 3) dX9_firstAtLeast_31 rfl (by decide) (by simp only [sl, sl2, rm, Value.category, reduceIte, Nat.reduceAdd, Nat.reduceEqDiff, reduceCtorEq]; rfl) ?_
        refine s_goto (tgt := 40) dX9_firstAtLeast_32 (by decide) ?_
        refine s_goto (tgt := 7) dX9_firstAtLeast_40 (by decide) ?_
        refine s_lv (lv' := [(0, .ref (x0 + r)), (1, .int v), (2, .int (zI lo)), (3, .int (zI (((lo + hi) / 2 : Nat) : Int)))]) ⟨rfl, rfl, rfl, rfl, trivial⟩ ?_
        refine ih lo ((lo + hi) / 2) (by omega) (by omega) (by omega) h3 (fun q hq1 hq2 => ?_)
        rcases Nat.lt_or_ge ((lo + hi) / 2) q with h | h
        · exact Int.le_of_lt (Int.lt_of_le_of_lt (by omega) (hs _ q h hq2))
        · rw [show q = (lo + hi) / 2 by omega]; omega
set_option maxRecDepth 100000 in
set_option maxHeartbeats 4000000 in
theorem c_fal {G : fG} {x0 : Nat} {l : Launch} {d k n : Nat} {T : fT} {I : fI} {J : fJ} {Q : Option Value → fT → fI → fJ → Prop} {r cap m : Nat} {g : Nat → Int} {v : Int32} (hR : RowIs T I r cap g m) (hs : Sorted g m) (hq : ∀ p, FA g m v.toInt p → Q (some (.int (zI p))) T I J) : PW G x0 l mX9_firstAtLeast (d + 1) (ZM G x0 Q) k n 0 [(0, .ref (x0 + r)), (1, .int v)] [] T I J := by
  obtain ⟨hA, b1, b2, b3⟩ := id hR
  obtain ⟨a1, a2, a3, a4, a5, a6, a7⟩ := id hA
  refine s_iconst (v := 0) dX9_firstAtLeast_0 (by decide) ?_
  refine s_istore_n (i := 2) dX9_firstAtLeast_1 rfl (by decide) (by simp only [sl, sl2, rm, Value.category, reduceIte, Nat.reduceAdd, Nat.reduceEqDiff, reduceCtorEq]; rfl) ?_
  refine s_aload_n (i := 0) dX9_firstAtLeast_2 rfl rfl ?_
  refine s_getI dX9_firstAtLeast_3 fl_X9_21 (by assumption) (by assumption) ?_
  refine s_topi (t_zI b2) ?_
  refine s_istore_n (i := 3) dX9_firstAtLeast_6 rfl (by decide) (by simp only [sl, sl2, rm, Value.category, reduceIte, Nat.reduceAdd, Nat.reduceEqDiff, reduceCtorEq]; rfl) ?_
  exact l_fal hR hs hq m 0 m (by omega) (by omega) (by omega) (fun q h => absurd h (Nat.not_lt_zero q)) (fun q h1 h2 => absurd h2 (by omega))
set_option maxRecDepth 100000 in
set_option maxHeartbeats 4000000 in
theorem c_has {G : fG} {x0 : Nat} {l : Launch} {d k n : Nat} {T : fT} {I : fI} {J : fJ} {Q : Option Value → fT → fI → fJ → Prop} {r cap m : Nat} {g : Nat → Int} {v : Int32} (hR : RowIs T I r cap g m) (hs : Sorted g m) (hy : (∃ q, q < m ∧ g q = v.toInt) → Q (some (.int 1)) T I J) (hn : (∀ q, q < m → g q ≠ v.toInt) → Q (some (.int 0)) T I J) : PW G x0 l mX9_has (d + 2) (ZM G x0 Q) k n 0 [(0, .ref (x0 + r)), (1, .int v)] [] T I J := by
  obtain ⟨hA, b1, b2, b3⟩ := id hR
  obtain ⟨a1, a2, a3, a4, a5, a6, a7⟩ := id hA
  refine s_aload_n (i := 0) dX9_has_0 rfl rfl ?_
  refine s_iload_n (i := 1) dX9_has_1 rfl rfl ?_
  refine s_cV_I (My := mX9_firstAtLeast) dX9_has_2 wM_X9_38 cb_yX9_firstAtLeast ci_yX9_firstAtLeast (by assumption) (by assumption) (Nat.le_of_ble_eq_true rfl) (by decide) (c_fal hR hs (fun p hp => ?_))
  refine s_istore_n (i := 2) dX9_has_5 rfl (by decide) (by simp only [sl, sl2, rm, Value.category, reduceIte, Nat.reduceAdd, Nat.reduceEqDiff, reduceCtorEq]; rfl) ?_
  refine s_iload_n (i := 2) dX9_has_6 rfl rfl ?_
  refine s_aload_n (i := 0) dX9_has_7 rfl rfl ?_
  refine s_getI dX9_has_8 fl_X9_21 (by assumption) (by assumption) ?_
  refine s_topi (t_zI b2) ?_
  refine s_icmp_ge (tgt := 27) dX9_has_11 (by decide) (fun h11 => ?_) (fun h11 => ?_)
  · refine s_iconst (v := 0) dX9_has_27 (by decide) ?_
    refine s_zret dX9_has_28 rfl (Or.inl rfl) ?_
    refine hn (fun q hq e => ?_)
    first
    | (rw [zI_le (by omega) (by have := hp.1; omega) (by omega) (by have := hp.1; omega)] at h11
       have := hp.2.1 q (by omega)
       omega)
    | (simp only [Int.toNat_natCast] at h20
       rcases Nat.lt_trichotomy q p with h | h | h
       · have := hp.2.1 q h
         omega
       · subst h
         exact h20 (by rw [e, zI_self])
       · have := hs p q h hq
         have := hp.2.2 p (Nat.le_refl p) (by omega)
         omega)
  · rw [zI_le (by omega) (by have := hp.1; omega) (by omega) (by have := hp.1; omega)] at h11
    refine s_aload_n (i := 0) dX9_has_14 rfl rfl ?_
    refine s_iload_n (i := 2) dX9_has_15 rfl rfl ?_
    refine s_cV_I (My := mX9_get) dX9_has_16 wM_X9_34 cb_yX9_get ci_yX9_get (by assumption) (by assumption) (Nat.le_of_ble_eq_true rfl) (by decide) (c_getz hR (by omega) (by omega) ?_)
    refine s_iload_n (i := 1) dX9_has_19 rfl rfl ?_
    refine s_icmp_ne (tgt := 27) dX9_has_20 (by decide) (fun h20 => ?_) (fun h20 => ?_)
    · refine s_iconst (v := 0) dX9_has_27 (by decide) ?_
      refine s_zret dX9_has_28 rfl (Or.inl rfl) ?_
      refine hn (fun q hq e => ?_)
      first
      | (rw [zI_le (by omega) (by have := hp.1; omega) (by omega) (by have := hp.1; omega)] at h11
         have := hp.2.1 q (by omega)
         omega)
      | (simp only [Int.toNat_natCast] at h20
         rcases Nat.lt_trichotomy q p with h | h | h
         · have := hp.2.1 q h
           omega
         · subst h
           exact h20 (by rw [e, zI_self])
         · have := hs p q h hq
           have := hp.2.2 p (Nat.le_refl p) (by omega)
           omega)
    · refine s_iconst (v := 1) dX9_has_23 (by decide) ?_
      refine s_goto (tgt := 28) dX9_has_24 (by decide) ?_
      refine s_zret dX9_has_28 rfl (Or.inr rfl) ?_
      refine hy ⟨p, by omega, ?_⟩
      simp only [Int.toNat_natCast] at h20
      have e := b3 p (by omega)
      rw [← e, ← h20, ← e, zI_self]
