theorem zI_maxr {a b : Int} (h : a ≤ b) (h1 : -2147483648 ≤ a) (h2 : b < 2147483648) : (if zI a < zI b then zI b else zI a) = zI b := by
  by_cases hc : zI a < zI b
  · rw [if_pos hc]
  · rw [if_neg hc]
    rw [zI_lt (by omega) (by omega) (by omega) (by omega)] at hc
    congr 1
    omega
/-! galloping: where it ends, and how many indices are probed -/
def gadd (q : Nat × Nat) : Nat × Nat := (q.1, q.2 + 1)
def gbin (g : Nat → Int) (t : Int) : Nat → Nat → Nat → Nat × Nat
  | 0, _, hi => (hi, 0)
  | z + 1, lo, hi => if lo + 1 < hi then (if t ≤ g ((lo + hi) / 2) then gadd (gbin g t z lo ((lo + hi) / 2)) else gadd (gbin g t z ((lo + hi) / 2) hi)) else (hi, 0)
def gexp (g : Nat → Int) (m : Nat) (t : Int) (p : Nat) : Nat → Nat → Nat → Nat × Nat
  | 0, _, lo => gbin g t m lo m
  | z + 1, s, lo => if p + s < m then (if t ≤ g (p + s) then gadd (gbin g t m lo (p + s)) else gadd (gexp g m t p z (2 * s) (p + s))) else gbin g t m lo m
def gal (g : Nat → Int) (m p : Nat) (t : Int) : Nat × Nat := if t ≤ g p then (p, 1) else gadd (gexp g m t p m 1 p)
theorem gbin_gt (g : Nat → Int) (t : Int) : ∀ z lo hi, lo < hi → lo < (gbin g t z lo hi).1 ∧ (gbin g t z lo hi).1 ≤ hi := by
  intro z
  induction z with
  | zero => intro lo hi h; exact ⟨h, Nat.le_refl hi⟩
  | succ z ih =>
    intro lo hi h
    simp only [gbin]
    split
    · split
      · have := ih lo ((lo + hi) / 2) (by omega)
        simp only [gadd]
        omega
      · have := ih ((lo + hi) / 2) hi (by omega)
        simp only [gadd]
        omega
    · exact ⟨h, Nat.le_refl hi⟩
theorem gexp_gt (g : Nat → Int) (m : Nat) (t : Int) (p : Nat) : ∀ z s lo, 1 ≤ s → lo < m → p ≤ lo → lo < p + s → p < (gexp g m t p z s lo).1 ∧ (gexp g m t p z s lo).1 ≤ m := by
  intro z
  induction z with
  | zero => intro s lo _ h1 h2 _; have := gbin_gt g t m lo m h1; simp only [gexp]; omega
  | succ z ih =>
    intro s lo hs h1 h2 h3
    simp only [gexp]
    split
    · split
      · have := gbin_gt g t m lo (p + s) h3
        simp only [gadd]
        omega
      · have := ih (2 * s) (p + s) (by omega) (by omega) (by omega) (by omega)
        simp only [gadd]
        omega
    · have := gbin_gt g t m lo m h1
      omega
theorem gal_gt {g : Nat → Int} {m p : Nat} {t : Int} (hp : p < m) (h : g p < t) : p < (gal g m p t).1 ∧ (gal g m p t).1 ≤ m := by
  unfold gal
  rw [if_neg (by omega)]
  exact gexp_gt g m t p m 1 p (by omega) hp (by omega) (by omega)
/-- how many numbers two rows have in common, and how many indices are probed -/
def gint (g1 : Nat → Int) (m1 : Nat) (g2 : Nat → Int) (m2 : Nat) : Nat → Nat → Nat → Nat × Nat
  | 0, _, _ => (0, 0)
  | z + 1, i, j => if i < m1 ∧ j < m2 then (if g1 i = g2 j then ((gint g1 m1 g2 m2 z (i + 1) (j + 1)).1 + 1, (gint g1 m1 g2 m2 z (i + 1) (j + 1)).2) else if g1 i < g2 j then ((gint g1 m1 g2 m2 z (gal g1 m1 i (g2 j)).1 j).1, (gal g1 m1 i (g2 j)).2 + (gint g1 m1 g2 m2 z (gal g1 m1 i (g2 j)).1 j).2) else ((gint g1 m1 g2 m2 z i (gal g2 m2 j (g1 i)).1).1, (gal g2 m2 j (g1 i)).2 + (gint g1 m1 g2 m2 z i (gal g2 m2 j (g1 i)).1).2)) else (0, 0)
def GalAt (T : fT) (a : Nat) : Prop := a < T.1 ∧ T.2.1 a = 4
/-- numbers that ints hold -/
def Rng (g : Nat → Int) (m : Nat) : Prop := ∀ k, k < m → -2147483648 ≤ g k ∧ g k < 2147483648
theorem RowIs.rng {T : fT} {I : fI} {r cap m : Nat} {g : Nat → Int} (h : RowIs T I r cap g m) : Rng g m := fun k hk => by
  rw [← h.2.2.2 k hk]
  exact ⟨t_ge _, t_lt _⟩
theorem c_getn {G : fG} {x0 : Nat} {l : Launch} {d k n : Nat} {T : fT} {I : fI} {J : fJ} {Q : Option Value → fT → fI → fJ → Prop} {r cap m i : Nat} {g : Nat → Int} (hR : RowIs T I r cap g m) (h1 : i < m) (hq : Q (some (.int (zI (g i)))) T I J) : PW G x0 l mX9_get d (ZM G x0 Q) k n 0 [(0, .ref (x0 + r)), (1, .int (zI i))] [] T I J := c_getz hR (by omega) (by omega) (by simpa using hq)
set_option maxRecDepth 100000 in
set_option maxHeartbeats 4000000 in
theorem c_reaches {G : fG} {x0 : Nat} {l : Launch} {d k n : Nat} {T : fT} {I : fI} {J : fJ} {Q : Option Value → fT → fI → fJ → Prop} {a r cap m i : Nat} {g : Nat → Int} {t pr : Int} (hG : GalAt T a) (hR : RowIs T I r cap g m) (hra : a ≠ r ∧ a ≠ r + 1) (hi : i < m) (ht : -2147483648 ≤ t ∧ t < 2147483648) (hp : I a 1 = zI pr) (hq : ∀ I', fr I I' [a] → I' a 0 = I a 0 → I' a 1 = zI (pr + 1) → Q (some (.int (if t ≤ g i then 1 else 0))) T I' J) : PW G x0 l mX4_reaches (d + 1) (ZM G x0 Q) k n 0 [(0, .ref (x0 + a)), (1, .ref (x0 + r)), (2, .int (zI i)), (3, .int (zI t))] [] T I J := by
  obtain ⟨a1, a2⟩ := id hG
  obtain ⟨k1, k2, k3, k4, k5, k6, k7⟩ := id hR.1
  have hg := hR.rng i hi
  have hm := hR.2.1
  refine s_aload_n (i := 0) dX4_reaches_0 rfl rfl ?_
  refine s_dup dX4_reaches_1 rfl ?_
  refine s_getI dX4_reaches_2 fl_X4_36 (by assumption) (by assumption) ?_
  refine s_iconst (v := 1) dX4_reaches_5 (by decide) ?_
  refine s_iadd dX4_reaches_6 ?_
  refine s_topi (y := zI (pr + 1)) (by rw [hp, z1, zI_add]) ?_
  have hR1 := hR.fr (I' := iu I a 1 (zI (pr + 1))) (iu_ne (by omega)) (iu_ne (by omega))
  refine s_putI dX4_reaches_7 fp_X4_36 (by assumption) (by assumption) ?_
  refine s_aload_n (i := 1) dX4_reaches_10 rfl rfl ?_
  refine s_iload_n (i := 2) dX4_reaches_11 rfl rfl ?_
  refine s_cV_I (My := mX9_get) dX4_reaches_12 wM_X4_18 cb_yX9_get ci_yX9_get (by assumption) (by assumption) (Nat.le_of_ble_eq_true rfl) (by decide) (c_getz hR1 (by omega) (by omega) ?_)
  refine s_iload_n (i := 3) dX4_reaches_15 rfl rfl ?_
  refine s_icmp_lt (tgt := 23) dX4_reaches_16 (by decide) (fun c16 => ?_) (fun c16 => ?_)
  · refine s_iconst (v := 0) dX4_reaches_23 (by decide) ?_
    refine s_zret dX4_reaches_24 rfl (by first | exact Or.inl rfl | exact Or.inr rfl) ?_
    rw [zI_lt (by simpa using hg.1) (by simpa using hg.2) ht.1 ht.2] at c16
    simp only [Int.toNat_natCast] at c16
    have hq2 := hq _ (fr_iu (by simp)) (iu_j (by omega)) iu_at
    first
    | (rw [if_neg (by omega)] at hq2; exact hq2)
    | (rw [if_pos (by omega)] at hq2; exact hq2)
  · refine s_iconst (v := 1) dX4_reaches_19 (by decide) ?_
    refine s_goto (tgt := 24) dX4_reaches_20 (by decide) ?_
    refine s_zret dX4_reaches_24 rfl (by first | exact Or.inl rfl | exact Or.inr rfl) ?_
    rw [zI_lt (by simpa using hg.1) (by simpa using hg.2) ht.1 ht.2] at c16
    simp only [Int.toNat_natCast] at c16
    have hq2 := hq _ (fr_iu (by simp)) (iu_j (by omega)) iu_at
    first
    | (rw [if_neg (by omega)] at hq2; exact hq2)
    | (rw [if_pos (by omega)] at hq2; exact hq2)
set_option maxRecDepth 100000 in
set_option maxHeartbeats 4000000 in
theorem l_gbin {G : fG} {x0 : Nat} {l : Launch} {d k n : Nat} {T : fT} {J : fJ} {Q : Option Value → fT → fI → fJ → Prop} {a r cap m : Nat} {g : Nat → Int} {p t : Int} (hG : GalAt T a) (hra : a ≠ r ∧ a ≠ r + 1) (ht : -2147483648 ≤ t ∧ t < 2147483648) : ∀ (z lo hi : Nat) (pr : Int) (I : fI), hi - lo ≤ z + 1 → lo < hi → hi ≤ m → RowIs T I r cap g m → I a 1 = zI pr → (hq : ∀ I', fr I I' [a] → I' a 0 = I a 0 → I' a 1 = zI (pr + (gbin g t z lo hi).2) → Q (some (.int (zI (gbin g t z lo hi).1))) T I' J) →
    PW G x0 l mX4_gallop (d + 2) (ZM G x0 Q) k n 72 [(0, .ref (x0 + a)), (1, .ref (x0 + r)), (2, .int (zI p)), (3, .int (zI t)), (4, .int (zI lo)), (5, .int (zI hi))] [] T I J := by
  obtain ⟨a1, a2⟩ := id hG
  intro z
  induction z with
  | zero =>
    intro lo hi pr I hz h1 h2 hR hp hq
    have hm := hR.2.1
    obtain ⟨k1, k2, k3, k4, k5, k6, k7⟩ := id hR.1
    refine s_iload dX4_gallop_72 rfl ?_
    refine s_iconst (v := 1) dX4_gallop_74 (by decide) ?_
    refine s_iadd dX4_gallop_75 ?_
    refine s_iload dX4_gallop_76 rfl ?_
    refine s_icmp_ge (tgt := 115) dX4_gallop_78 (by decide) (fun h78 => ?_) (fun h78 => absurd (by rw [z1, zI_add, zI_le (by omega) (by omega) (by omega) (by omega)]; omega) h78)
    refine s_iload dX4_gallop_115 rfl ?_
    refine s_iret dX4_gallop_117 rfl ?_
    exact hq I (fr_refl I _) rfl (by simp only [gbin]; rw [hp]; congr 1; omega)
  | succ z ih =>
    intro lo hi pr I hz h1 h2 hR hp hq
    have hm := hR.2.1
    obtain ⟨k1, k2, k3, k4, k5, k6, k7⟩ := id hR.1
    refine s_iload dX4_gallop_72 rfl ?_
    refine s_iconst (v := 1) dX4_gallop_74 (by decide) ?_
    refine s_iadd dX4_gallop_75 ?_
    refine s_iload dX4_gallop_76 rfl ?_
    refine s_icmp_ge (tgt := 115) dX4_gallop_78 (by decide) (fun c78 => ?_) (fun c78 => ?_)
    · refine s_iload dX4_gallop_115 rfl ?_
      refine s_iret dX4_gallop_117 rfl ?_
      rw [z1, zI_add, zI_le (by omega) (by omega) (by omega) (by omega)] at c78
      simp only [gbin] at hq
      rw [if_neg (by omega)] at hq
      exact hq I (fr_refl I _) rfl (by rw [hp]; congr 1; simp)
    · rw [z1, zI_add, zI_le (by omega) (by omega) (by omega) (by omega)] at c78
      simp only [gbin] at hq
      rw [if_pos (by omega)] at hq
      refine s_iload dX4_gallop_81 rfl ?_
      refine s_iload dX4_gallop_83 rfl ?_
      refine s_iadd dX4_gallop_85 ?_
      refine s_iconst (v := 2) dX4_gallop_86 (by decide) ?_
      refine s_idiv dX4_gallop_87 (by decide) ?_
      refine s_topi (y := zI (((lo + hi) / 2 : Nat) : Int)) (by rw [zI_add, z2, zI_div (by omega) (by omega) (by omega) (by omega)]; congr 1) ?_
      refine s_istore dX4_gallop_88 (by decide) (by simp only [sl, sl2, rm, Value.category, reduceIte, Nat.reduceAdd, Nat.reduceEqDiff, reduceCtorEq]; rfl) ?_
      refine s_aload_n (i := 0) dX4_gallop_90 rfl rfl ?_
      refine s_aload_n (i := 1) dX4_gallop_91 rfl rfl ?_
      refine s_iload dX4_gallop_92 rfl ?_
      refine s_iload_n (i := 3) dX4_gallop_94 rfl rfl ?_
      refine s_cV_RII (My := mX4_reaches) dX4_gallop_95 wM_X4_32 cb_yX4_reaches ci_yX4_reaches (by assumption) (by assumption) (Nat.le_of_ble_eq_true rfl) (by decide) (c_reaches hG hR hra (by omega) ht hp (fun I1 hf1 e1 e2 => ?_))
      refine s_if_eq (tgt := 108) dX4_gallop_98 (by decide) (fun c98 => ?_) (fun c98 => ?_)
      · refine s_iload dX4_gallop_108 rfl ?_
        refine s_istore dX4_gallop_110 (by decide) (by simp only [sl, sl2, rm, Value.category, reduceIte, Nat.reduceAdd, Nat.reduceEqDiff, reduceCtorEq]; rfl) ?_
        refine s_goto (tgt := 72) dX4_gallop_112 (by decide) ?_
        have hR1 := hR.fr (I' := I1) (hf1 r (by simp; omega)) (hf1 (r + 1) (by simp; omega))
        first
        | (have hc : t ≤ g ((lo + hi) / 2) := by
             rcases Int.lt_or_le (g ((lo + hi) / 2)) t with h | h
             · exact absurd (if_neg (by omega)) c98
             · exact h
           rw [if_pos hc] at hq
           refine s_lv (lv' := [(0, .ref (x0 + a)), (1, .ref (x0 + r)), (2, .int (zI p)), (3, .int (zI t)), (4, .int (zI lo)), (5, .int (zI (((lo + hi) / 2 : Nat) : Int)))]) ⟨rfl, rfl, rfl, rfl, rfl, rfl, trivial⟩ ?_
           exact ih lo ((lo + hi) / 2) (pr + 1) I1 (by omega) (by omega) (by omega) hR1 e2 (fun I' hf u0 u1 => hq I' (fr_trans hf1 hf) (u0.trans e1) (by rw [u1]; congr 1; simp only [gadd]; omega)))
        | (have hc : ¬ t ≤ g ((lo + hi) / 2) := fun h => by rw [if_pos h] at c98; exact absurd c98 (by decide)
           rw [if_neg hc] at hq
           refine s_lv (lv' := [(0, .ref (x0 + a)), (1, .ref (x0 + r)), (2, .int (zI p)), (3, .int (zI t)), (4, .int (zI (((lo + hi) / 2 : Nat) : Int))), (5, .int (zI hi))]) ⟨rfl, rfl, rfl, rfl, rfl, rfl, trivial⟩ ?_
           exact ih ((lo + hi) / 2) hi (pr + 1) I1 (by omega) (by omega) (by omega) hR1 e2 (fun I' hf u0 u1 => hq I' (fr_trans hf1 hf) (u0.trans e1) (by rw [u1]; congr 1; simp only [gadd]; omega)))
      · refine s_iload dX4_gallop_101 rfl ?_
        refine s_istore dX4_gallop_103 (by decide) (by simp only [sl, sl2, rm, Value.category, reduceIte, Nat.reduceAdd, Nat.reduceEqDiff, reduceCtorEq]; rfl) ?_
        refine s_goto (tgt := 112) dX4_gallop_105 (by decide) ?_
        refine s_goto (tgt := 72) dX4_gallop_112 (by decide) ?_
        have hR1 := hR.fr (I' := I1) (hf1 r (by simp; omega)) (hf1 (r + 1) (by simp; omega))
        first
        | (have hc : t ≤ g ((lo + hi) / 2) := by
             rcases Int.lt_or_le (g ((lo + hi) / 2)) t with h | h
             · exact absurd (if_neg (by omega)) c98
             · exact h
           rw [if_pos hc] at hq
           refine s_lv (lv' := [(0, .ref (x0 + a)), (1, .ref (x0 + r)), (2, .int (zI p)), (3, .int (zI t)), (4, .int (zI lo)), (5, .int (zI (((lo + hi) / 2 : Nat) : Int)))]) ⟨rfl, rfl, rfl, rfl, rfl, rfl, trivial⟩ ?_
           exact ih lo ((lo + hi) / 2) (pr + 1) I1 (by omega) (by omega) (by omega) hR1 e2 (fun I' hf u0 u1 => hq I' (fr_trans hf1 hf) (u0.trans e1) (by rw [u1]; congr 1; simp only [gadd]; omega)))
        | (have hc : ¬ t ≤ g ((lo + hi) / 2) := fun h => by rw [if_pos h] at c98; exact absurd c98 (by decide)
           rw [if_neg hc] at hq
           refine s_lv (lv' := [(0, .ref (x0 + a)), (1, .ref (x0 + r)), (2, .int (zI p)), (3, .int (zI t)), (4, .int (zI (((lo + hi) / 2 : Nat) : Int))), (5, .int (zI hi))]) ⟨rfl, rfl, rfl, rfl, rfl, rfl, trivial⟩ ?_
           exact ih ((lo + hi) / 2) hi (pr + 1) I1 (by omega) (by omega) (by omega) hR1 e2 (fun I' hf u0 u1 => hq I' (fr_trans hf1 hf) (u0.trans e1) (by rw [u1]; congr 1; simp only [gadd]; omega)))
set_option maxRecDepth 100000 in
set_option maxHeartbeats 4000000 in
theorem l_gexp {G : fG} {x0 : Nat} {l : Launch} {d k n : Nat} {T : fT} {J : fJ} {Q : Option Value → fT → fI → fJ → Prop} {a r cap m p : Nat} {g : Nat → Int} {t : Int} (hG : GalAt T a) (hra : a ≠ r ∧ a ≠ r + 1) (ht : -2147483648 ≤ t ∧ t < 2147483648) : ∀ (z s lo : Nat) (pr : Int) (I : fI), m - (p + s) ≤ z → 1 ≤ s → s ≤ 200000 → lo < m → p ≤ lo → lo < p + s → RowIs T I r cap g m → I a 1 = zI pr → (hq : ∀ I', fr I I' [a] → I' a 0 = I a 0 → I' a 1 = zI (pr + (gexp g m t p z s lo).2) → Q (some (.int (zI (gexp g m t p z s lo).1))) T I' J) →
    PW G x0 l mX4_gallop (d + 2) (ZM G x0 Q) k n 24 [(0, .ref (x0 + a)), (1, .ref (x0 + r)), (2, .int (zI p)), (3, .int (zI t)), (4, .int (zI lo)), (5, .int (zI m)), (6, .int (zI s))] [] T I J := by
  obtain ⟨a1, a2⟩ := id hG
  intro z
  induction z with
  | zero =>
    intro s lo pr I hz hs1 hs2 h1 h2 h3 hR hp hq
    have hm := hR.2.1
    obtain ⟨k1, k2, k3, k4, k5, k6, k7⟩ := id hR.1
    refine s_iload_n (i := 2) dX4_gallop_24 rfl rfl ?_
    refine s_iload dX4_gallop_25 rfl ?_
    refine s_iadd dX4_gallop_27 ?_
    refine s_aload_n (i := 1) dX4_gallop_28 rfl rfl ?_
    refine s_getI dX4_gallop_29 fl_X4_13 (by assumption) (by assumption) ?_
    refine s_icmp_ge (tgt := 72) dX4_gallop_32 (by decide) (fun h32 => ?_) (fun h32 => absurd (by rw [hR.sz, zI_add, zI_le (by omega) (by omega) (by omega) (by omega)]; omega) h32)
    refine s_lv (lv' := [(0, .ref (x0 + a)), (1, .ref (x0 + r)), (2, .int (zI p)), (3, .int (zI t)), (4, .int (zI lo)), (5, .int (zI m))]) ⟨rfl, rfl, rfl, rfl, rfl, rfl, trivial⟩ ?_
    exact l_gbin hG hra ht m lo m pr I (by omega) h1 (by omega) hR hp hq
  | succ z ih =>
    intro s lo pr I hz hs1 hs2 h1 h2 h3 hR hp hq
    have hm := hR.2.1
    obtain ⟨k1, k2, k3, k4, k5, k6, k7⟩ := id hR.1
    refine s_iload_n (i := 2) dX4_gallop_24 rfl rfl ?_
    refine s_iload dX4_gallop_25 rfl ?_
    refine s_iadd dX4_gallop_27 ?_
    refine s_aload_n (i := 1) dX4_gallop_28 rfl rfl ?_
    refine s_getI dX4_gallop_29 fl_X4_13 (by assumption) (by assumption) ?_
    refine s_icmp_ge (tgt := 72) dX4_gallop_32 (by decide) (fun c32 => ?_) (fun c32 => ?_)
    · first
      | (rw [hR.sz, zI_add, zI_le (by omega) (by omega) (by omega) (by omega)] at c32
         simp only [gexp] at hq
         rw [if_neg (by omega)] at hq
         refine s_lv (lv' := [(0, .ref (x0 + a)), (1, .ref (x0 + r)), (2, .int (zI p)), (3, .int (zI t)), (4, .int (zI lo)), (5, .int (zI m))]) ⟨rfl, rfl, rfl, rfl, rfl, rfl, trivial⟩ ?_
         exact l_gbin hG hra ht m lo m pr I (by omega) h1 (by omega) hR hp hq)
      | (have hR1 := hR.fr (I' := I1) (hf1 r (by simp; omega)) (hf1 (r + 1) (by simp; omega))
         have hc : t ≤ g (p + s) := by
           rcases Int.lt_or_le (g (p + s)) t with h | h
           · exact absurd (if_neg (by omega)) c45
           · exact h
         rw [if_pos hc] at hq
         refine s_lv (lv' := [(0, .ref (x0 + a)), (1, .ref (x0 + r)), (2, .int (zI p)), (3, .int (zI t)), (4, .int (zI lo)), (5, .int (zI ((p + s : Nat) : Int)))]) ⟨rfl, rfl, rfl, rfl, rfl, rfl, trivial⟩ ?_
         exact l_gbin hG hra ht m lo (p + s) (pr + 1) I1 (by omega) h3 (by omega) hR1 e2 (fun I' hf u0 u1 => hq I' (fr_trans hf1 hf) (u0.trans e1) (by rw [u1]; congr 1; simp only [gadd]; omega)))
    · rw [hR.sz, zI_add, zI_le (by omega) (by omega) (by omega) (by omega)] at c32
      simp only [gexp] at hq
      rw [if_pos (by omega)] at hq
      refine s_aload_n (i := 0) dX4_gallop_35 rfl rfl ?_
      refine s_aload_n (i := 1) dX4_gallop_36 rfl rfl ?_
      refine s_iload_n (i := 2) dX4_gallop_37 rfl rfl ?_
      refine s_iload dX4_gallop_38 rfl ?_
      refine s_iadd dX4_gallop_40 ?_
      refine s_topi (y := zI ((p + s : Nat) : Int)) (by rw [zI_add]; congr 1) ?_
      refine s_iload_n (i := 3) dX4_gallop_41 rfl rfl ?_
      refine s_cV_RII (My := mX4_reaches) dX4_gallop_42 wM_X4_32 cb_yX4_reaches ci_yX4_reaches (by assumption) (by assumption) (Nat.le_of_ble_eq_true rfl) (by decide) (c_reaches hG hR hra (by omega) ht hp (fun I1 hf1 e1 e2 => ?_))
      refine s_if_eq (tgt := 57) dX4_gallop_45 (by decide) (fun c45 => ?_) (fun c45 => ?_)
      · refine s_iload_n (i := 2) dX4_gallop_57 rfl rfl ?_
        refine s_iload dX4_gallop_58 rfl ?_
        refine s_iadd dX4_gallop_60 ?_
        refine s_topi (y := zI ((p + s : Nat) : Int)) (by rw [zI_add]; congr 1) ?_
        refine s_istore dX4_gallop_61 (by decide) (by simp only [sl, sl2, rm, Value.category, reduceIte, Nat.reduceAdd, Nat.reduceEqDiff, reduceCtorEq]; rfl) ?_
        refine s_iload dX4_gallop_63 rfl ?_
        refine s_iconst (v := 2) dX4_gallop_65 (by decide) ?_
        refine s_imul dX4_gallop_66 ?_
        refine s_topi (y := zI ((2 * s : Nat) : Int)) (by rw [z2, zI_mul]; congr 1; omega) ?_
        refine s_istore dX4_gallop_67 (by decide) (by simp only [sl, sl2, rm, Value.category, reduceIte, Nat.reduceAdd, Nat.reduceEqDiff, reduceCtorEq]; rfl) ?_
        refine s_goto (tgt := 24) dX4_gallop_69 (by decide) ?_
        have hR1 := hR.fr (I' := I1) (hf1 r (by simp; omega)) (hf1 (r + 1) (by simp; omega))
        have hc : ¬ t ≤ g (p + s) := fun h => by rw [if_pos h] at c45; exact absurd c45 (by decide)
        rw [if_neg hc] at hq
        refine s_lv (lv' := [(0, .ref (x0 + a)), (1, .ref (x0 + r)), (2, .int (zI p)), (3, .int (zI t)), (4, .int (zI ((p + s : Nat) : Int))), (5, .int (zI m)), (6, .int (zI ((2 * s : Nat) : Int)))]) ⟨rfl, rfl, rfl, rfl, rfl, rfl, rfl, trivial⟩ ?_
        exact ih (2 * s) (p + s) (pr + 1) I1 (by omega) (by omega) (by omega) (by omega) (by omega) (by omega) hR1 e2 (fun I' hf u0 u1 => hq I' (fr_trans hf1 hf) (u0.trans e1) (by rw [u1]; congr 1; simp only [gadd]; omega))
      · refine s_iload_n (i := 2) dX4_gallop_48 rfl rfl ?_
        refine s_iload dX4_gallop_49 rfl ?_
        refine s_iadd dX4_gallop_51 ?_
        refine s_topi (y := zI ((p + s : Nat) : Int)) (by rw [zI_add]; congr 1) ?_
        refine s_istore dX4_gallop_52 (by decide) (by simp only [sl, sl2, rm, Value.category, reduceIte, Nat.reduceAdd, Nat.reduceEqDiff, reduceCtorEq]; rfl) ?_
        refine s_goto (tgt := 72) dX4_gallop_54 (by decide) ?_
        first
        | (rw [hR.sz, zI_add, zI_le (by omega) (by omega) (by omega) (by omega)] at c32
           simp only [gexp] at hq
           rw [if_neg (by omega)] at hq
           refine s_lv (lv' := [(0, .ref (x0 + a)), (1, .ref (x0 + r)), (2, .int (zI p)), (3, .int (zI t)), (4, .int (zI lo)), (5, .int (zI m))]) ⟨rfl, rfl, rfl, rfl, rfl, rfl, trivial⟩ ?_
           exact l_gbin hG hra ht m lo m pr I (by omega) h1 (by omega) hR hp hq)
        | (have hR1 := hR.fr (I' := I1) (hf1 r (by simp; omega)) (hf1 (r + 1) (by simp; omega))
           have hc : t ≤ g (p + s) := by
             rcases Int.lt_or_le (g (p + s)) t with h | h
             · exact absurd (if_neg (by omega)) c45
             · exact h
           rw [if_pos hc] at hq
           refine s_lv (lv' := [(0, .ref (x0 + a)), (1, .ref (x0 + r)), (2, .int (zI p)), (3, .int (zI t)), (4, .int (zI lo)), (5, .int (zI ((p + s : Nat) : Int)))]) ⟨rfl, rfl, rfl, rfl, rfl, rfl, trivial⟩ ?_
           exact l_gbin hG hra ht m lo (p + s) (pr + 1) I1 (by omega) h3 (by omega) hR1 e2 (fun I' hf u0 u1 => hq I' (fr_trans hf1 hf) (u0.trans e1) (by rw [u1]; congr 1; simp only [gadd]; omega)))
set_option maxRecDepth 100000 in
set_option maxHeartbeats 4000000 in
theorem c_gallop {G : fG} {x0 : Nat} {l : Launch} {d k n : Nat} {T : fT} {I : fI} {J : fJ} {Q : Option Value → fT → fI → fJ → Prop} {a r cap m p : Nat} {g : Nat → Int} {t pr : Int} (hG : GalAt T a) (hra : a ≠ r ∧ a ≠ r + 1) (ht : -2147483648 ≤ t ∧ t < 2147483648) (hR : RowIs T I r cap g m) (hpm : p < m) (hp : I a 1 = zI pr) (hq : ∀ I', fr I I' [a] → I' a 0 = I a 0 → I' a 1 = zI (pr + (gal g m p t).2) → Q (some (.int (zI (gal g m p t).1))) T I' J) :
    PW G x0 l mX4_gallop (d + 2) (ZM G x0 Q) k n 0 [(0, .ref (x0 + a)), (1, .ref (x0 + r)), (2, .int (zI p)), (3, .int (zI t))] [] T I J := by
  obtain ⟨a1, a2⟩ := id hG
  obtain ⟨k1, k2, k3, k4, k5, k6, k7⟩ := id hR.1
  have hm := hR.2.1
  unfold gal at hq
  refine s_aload_n (i := 0) dX4_gallop_0 rfl rfl ?_
  refine s_aload_n (i := 1) dX4_gallop_1 rfl rfl ?_
  refine s_iload_n (i := 2) dX4_gallop_2 rfl rfl ?_
  refine s_iload_n (i := 3) dX4_gallop_3 rfl rfl ?_
  refine s_cV_RII (My := mX4_reaches) dX4_gallop_4 wM_X4_32 cb_yX4_reaches ci_yX4_reaches (by assumption) (by assumption) (Nat.le_of_ble_eq_true rfl) (by decide) (c_reaches hG hR hra hpm ht hp (fun I1 hf1 e1 e2 => ?_))
  refine s_if_eq (tgt := 12) dX4_gallop_7 (by decide) (fun c7 => ?_) (fun c7 => ?_)
  · have hR1 := hR.fr (I' := I1) (hf1 r (by simp; omega)) (hf1 (r + 1) (by simp; omega))
    have hc : ¬ t ≤ g p := fun h => by rw [if_pos h] at c7; exact absurd c7 (by decide)
    rw [if_neg hc] at hq
    refine s_iload_n (i := 2) dX4_gallop_12 rfl rfl ?_
    refine s_istore dX4_gallop_13 (by decide) (by simp only [sl, sl2, rm, Value.category, reduceIte, Nat.reduceAdd, Nat.reduceEqDiff, reduceCtorEq]; rfl) ?_
    refine s_aload_n (i := 1) dX4_gallop_15 rfl rfl ?_
    refine s_getI dX4_gallop_16 fl_X4_13 (by assumption) (by assumption) ?_
    refine s_topi hR1.sz ?_
    refine s_istore dX4_gallop_19 (by decide) (by simp only [sl, sl2, rm, Value.category, reduceIte, Nat.reduceAdd, Nat.reduceEqDiff, reduceCtorEq]; rfl) ?_
    refine s_iconst (v := 1) dX4_gallop_21 (by decide) ?_
    refine s_istore dX4_gallop_22 (by decide) (by simp only [sl, sl2, rm, Value.category, reduceIte, Nat.reduceAdd, Nat.reduceEqDiff, reduceCtorEq]; rfl) ?_
    exact l_gexp hG hra ht m 1 p (pr + 1) I1 (by omega) (by omega) (by omega) hpm (by omega) (by omega) hR1 e2 (fun I' hf u0 u1 => hq I' (fr_trans hf1 hf) (u0.trans e1) (by rw [u1]; congr 1; simp only [gadd]; omega))
  · refine s_iload_n (i := 2) dX4_gallop_10 rfl rfl ?_
    refine s_iret dX4_gallop_11 rfl ?_
    have hc : t ≤ g p := by
      rcases Int.lt_or_le (g p) t with h | h
      · exact absurd (if_neg (by omega)) c7
      · exact h
    rw [if_pos hc] at hq
    exact hq I1 hf1 e1 e2
set_option maxRecDepth 100000 in
set_option maxHeartbeats 4000000 in
theorem l_gint {G : fG} {x0 : Nat} {l : Launch} {d k n : Nat} {T : fT} {J : fJ} {Q : Option Value → fT → fI → fJ → Prop} {a r r2 cap cap2 m1 m2 : Nat} {g1 g2 : Nat → Int} (hG : GalAt T a) (hra : a ≠ r ∧ a ≠ r + 1) (hra2 : a ≠ r2 ∧ a ≠ r2 + 1) : ∀ (z i j : Nat) (tk : Nat) (pr : Int) (I : fI), (m1 - i) + (m2 - j) ≤ z → i ≤ m1 → j ≤ m2 → RowIs T I r cap g1 m1 → RowIs T I r2 cap2 g2 m2 → (I a 0).toInt = tk → tk ≤ i → I a 1 = zI pr → (hq : ∀ I', fr I I' [a] → (I' a 0).toInt = tk + (gint g1 m1 g2 m2 z i j).1 → I' a 1 = zI (pr + (gint g1 m1 g2 m2 z i j).2) → Q none T I' J) →
    PW G x0 l mX4_intersect (d + 3) (ZM G x0 Q) k n 10 [(0, .ref (x0 + a)), (1, .ref (x0 + r)), (2, .ref (x0 + r2)), (3, .int (zI i)), (4, .int (zI j))] [] T I J := by
  obtain ⟨a1, a2⟩ := id hG
  have endq : ∀ (z i j tk : Nat) (pr : Int) (I : fI), ¬ (i < m1 ∧ j < m2) → (I a 0).toInt = tk → I a 1 = zI pr → (∀ I', fr I I' [a] → (I' a 0).toInt = tk + (gint g1 m1 g2 m2 z i j).1 → I' a 1 = zI (pr + (gint g1 m1 g2 m2 z i j).2) → Q none T I' J) → Q none T I J := by
    intro z i j tk pr I h h0 hp hq
    have e : gint g1 m1 g2 m2 z i j = (0, 0) := by
      cases z with
      | zero => rfl
      | succ z => simp only [gint]; rw [if_neg h]
    rw [e] at hq
    exact hq I (fr_refl I _) (by rw [h0]; simp) (by rw [hp]; simp)
  intro z
  induction z with
  | zero =>
    intro i j tk pr I hz hi hj hR hR2 h0 htk hp hq
    have hm := hR.2.1
    have hm2 := hR2.2.1
    obtain ⟨k1, k2, k3, k4, k5, k6, k7⟩ := id hR.1
    obtain ⟨y1, y2, y3, y4, y5, y6, y7⟩ := id hR2.1
    refine s_iload_n (i := 3) dX4_intersect_10 rfl rfl ?_
    refine s_aload_n (i := 1) dX4_intersect_11 rfl rfl ?_
    refine s_getI dX4_intersect_12 fl_X4_13 (by assumption) (by assumption) ?_
    refine s_icmp_ge (tgt := 114) dX4_intersect_15 (by decide) (fun h15 => ?_) (fun h15 => absurd (by rw [hR.sz, zI_le (by omega) (by omega) (by omega) (by omega)]; omega) h15)
    refine s_ret dX4_intersect_114 rfl ?_
    exact endq 0 i j tk pr I (by omega) h0 hp hq
  | succ z ih =>
    intro i j tk pr I hz hi hj hR hR2 h0 htk hp hq
    have hm := hR.2.1
    have hm2 := hR2.2.1
    obtain ⟨k1, k2, k3, k4, k5, k6, k7⟩ := id hR.1
    obtain ⟨y1, y2, y3, y4, y5, y6, y7⟩ := id hR2.1
    refine s_iload_n (i := 3) dX4_intersect_10 rfl rfl ?_
    refine s_aload_n (i := 1) dX4_intersect_11 rfl rfl ?_
    refine s_getI dX4_intersect_12 fl_X4_13 (by assumption) (by assumption) ?_
    refine s_icmp_ge (tgt := 114) dX4_intersect_15 (by decide) (fun c15 => ?_) (fun c15 => ?_)
    · refine s_ret dX4_intersect_114 rfl ?_
      first
      | (rw [hR.sz, zI_le (by omega) (by omega) (by omega) (by omega)] at c15
         exact endq (z + 1) i j tk pr I (by omega) h0 hp hq)
      | (rw [hR2.sz, zI_le (by omega) (by omega) (by omega) (by omega)] at c24
         exact endq (z + 1) i j tk pr I (by omega) h0 hp hq)
    · rw [hR.sz, zI_le (by omega) (by omega) (by omega) (by omega)] at c15
      refine s_iload dX4_intersect_18 rfl ?_
      refine s_aload_n (i := 2) dX4_intersect_20 rfl rfl ?_
      refine s_getI dX4_intersect_21 fl_X4_13 (by assumption) (by assumption) ?_
      refine s_icmp_ge (tgt := 114) dX4_intersect_24 (by decide) (fun c24 => ?_) (fun c24 => ?_)
      · refine s_ret dX4_intersect_114 rfl ?_
        first
        | (rw [hR.sz, zI_le (by omega) (by omega) (by omega) (by omega)] at c15
           exact endq (z + 1) i j tk pr I (by omega) h0 hp hq)
        | (rw [hR2.sz, zI_le (by omega) (by omega) (by omega) (by omega)] at c24
           exact endq (z + 1) i j tk pr I (by omega) h0 hp hq)
      · rw [hR2.sz, zI_le (by omega) (by omega) (by omega) (by omega)] at c24
        have b1 := hR.rng i (by omega)
        have b2 := hR2.rng j (by omega)
        simp only [gint] at hq
        rw [if_pos ⟨by omega, by omega⟩] at hq
        refine s_aload_n (i := 1) dX4_intersect_27 rfl rfl ?_
        refine s_iload_n (i := 3) dX4_intersect_28 rfl rfl ?_
        refine s_cV_I (My := mX9_get) dX4_intersect_29 wM_X4_18 cb_yX9_get ci_yX9_get (by assumption) (by assumption) (Nat.le_of_ble_eq_true rfl) (by decide) (c_getn hR (by omega) ?_)
        refine s_istore dX4_intersect_32 (by decide) (by simp only [sl, sl2, rm, Value.category, reduceIte, Nat.reduceAdd, Nat.reduceEqDiff, reduceCtorEq]; rfl) ?_
        refine s_aload_n (i := 2) dX4_intersect_34 rfl rfl ?_
        refine s_iload dX4_intersect_35 rfl ?_
        refine s_cV_I (My := mX9_get) dX4_intersect_37 wM_X4_18 cb_yX9_get ci_yX9_get (by assumption) (by assumption) (Nat.le_of_ble_eq_true rfl) (by decide) (c_getn hR2 (by omega) ?_)
        refine s_istore dX4_intersect_40 (by decide) (by simp only [sl, sl2, rm, Value.category, reduceIte, Nat.reduceAdd, Nat.reduceEqDiff, reduceCtorEq]; rfl) ?_
        refine s_iload dX4_intersect_42 rfl ?_
        refine s_iload dX4_intersect_44 rfl ?_
        refine s_icmp_ne (tgt := 68) dX4_intersect_46 (by decide) (fun c46 => ?_) (fun c46 => ?_)
        · rw [zI_eq b1.1 b1.2 b2.1 b2.2] at c46
          rw [if_neg c46] at hq
          refine s_iload dX4_intersect_68 rfl ?_
          refine s_iload dX4_intersect_70 rfl ?_
          refine s_icmp_ge (tgt := 93) dX4_intersect_72 (by decide) (fun c72 => ?_) (fun c72 => ?_)
          · rw [zI_le b2.1 b2.2 b1.1 b1.2] at c72
            rw [if_neg (by omega)] at hq
            have hgg := gal_gt (g := g2) (m := m2) (p := j) (t := g1 i) (by omega) (by omega)
            refine s_iload dX4_intersect_93 rfl ?_
            refine s_iconst (v := 1) dX4_intersect_95 (by decide) ?_
            refine s_iadd dX4_intersect_96 ?_
            refine s_aload_n (i := 0) dX4_intersect_97 rfl rfl ?_
            refine s_aload_n (i := 2) dX4_intersect_98 rfl rfl ?_
            refine s_iload dX4_intersect_99 rfl ?_
            refine s_iload dX4_intersect_101 rfl ?_
            refine s_cV_RII (My := mX4_gallop) dX4_intersect_103 wM_X4_22 cb_yX4_gallop ci_yX4_gallop (by assumption) (by assumption) (Nat.le_of_ble_eq_true rfl) (by decide) (c_gallop hG hra2 b1 hR2 (by omega) hp (fun I1 hf1 e1 e2 => ?_))
            refine s_max dX4_intersect_106 wM_X4_26 (Nat.le_of_ble_eq_true rfl) ?_
            refine s_topi (y := zI ((gal g2 m2 j (g1 i)).1 : Int)) (by rw [z1, zI_add]; exact zI_maxr (by omega) (by omega) (by omega)) ?_
            refine s_istore dX4_intersect_109 (by decide) (by simp only [sl, sl2, rm, Value.category, reduceIte, Nat.reduceAdd, Nat.reduceEqDiff, reduceCtorEq]; rfl) ?_
            refine s_goto (tgt := 10) dX4_intersect_111 (by decide) ?_
            first
            | (refine s_lv (lv' := [(0, .ref (x0 + a)), (1, .ref (x0 + r)), (2, .ref (x0 + r2)), (3, .int (zI ((i + 1 : Nat) : Int))), (4, .int (zI ((j + 1 : Nat) : Int)))]) ⟨rfl, rfl, rfl, rfl, rfl, trivial⟩ ?_
               refine ih (i + 1) (j + 1) (tk + 1) pr _ (by omega) (by omega) (by omega) (hR.fr (iu_ne (by omega)) (iu_ne (by omega))) (hR2.fr (iu_ne (by omega)) (iu_ne (by omega))) (by rw [iu_at]; exact zI_t (by omega) (by omega)) (by omega) (by rw [iu_j (by omega)]; exact hp) (fun I' hf u0 u1 => hq I' (fr_trans (fr_iu (by simp)) hf) ?_ u1)
               rw [u0]
               omega)
            | (refine s_lv (lv' := [(0, .ref (x0 + a)), (1, .ref (x0 + r)), (2, .ref (x0 + r2)), (3, .int (zI ((gal g1 m1 i (g2 j)).1 : Int))), (4, .int (zI j))]) ⟨rfl, rfl, rfl, rfl, rfl, trivial⟩ ?_
               exact ih (gal g1 m1 i (g2 j)).1 j tk (pr + (gal g1 m1 i (g2 j)).2) I1 (by omega) (by omega) (by omega) (hR.fr (hf1 r (by simp; omega)) (hf1 (r + 1) (by simp; omega))) (hR2.fr (hf1 r2 (by simp; omega)) (hf1 (r2 + 1) (by simp; omega))) (by rw [e1]; exact h0) (by omega) e2 (fun I' hf u0 u1 => hq I' (fr_trans hf1 hf) u0 (by rw [u1]; congr 1; omega)))
            | (refine s_lv (lv' := [(0, .ref (x0 + a)), (1, .ref (x0 + r)), (2, .ref (x0 + r2)), (3, .int (zI i)), (4, .int (zI ((gal g2 m2 j (g1 i)).1 : Int)))]) ⟨rfl, rfl, rfl, rfl, rfl, trivial⟩ ?_
               exact ih i (gal g2 m2 j (g1 i)).1 tk (pr + (gal g2 m2 j (g1 i)).2) I1 (by omega) (by omega) (by omega) (hR.fr (hf1 r (by simp; omega)) (hf1 (r + 1) (by simp; omega))) (hR2.fr (hf1 r2 (by simp; omega)) (hf1 (r2 + 1) (by simp; omega))) (by rw [e1]; exact h0) htk e2 (fun I' hf u0 u1 => hq I' (fr_trans hf1 hf) u0 (by rw [u1]; congr 1; omega)))
          · rw [zI_le b2.1 b2.2 b1.1 b1.2] at c72
            rw [if_pos (by omega)] at hq
            have hgg := gal_gt (g := g1) (m := m1) (p := i) (t := g2 j) (by omega) (by omega)
            refine s_iload_n (i := 3) dX4_intersect_75 rfl rfl ?_
            refine s_iconst (v := 1) dX4_intersect_76 (by decide) ?_
            refine s_iadd dX4_intersect_77 ?_
            refine s_aload_n (i := 0) dX4_intersect_78 rfl rfl ?_
            refine s_aload_n (i := 1) dX4_intersect_79 rfl rfl ?_
            refine s_iload_n (i := 3) dX4_intersect_80 rfl rfl ?_
            refine s_iload dX4_intersect_81 rfl ?_
            refine s_cV_RII (My := mX4_gallop) dX4_intersect_83 wM_X4_22 cb_yX4_gallop ci_yX4_gallop (by assumption) (by assumption) (Nat.le_of_ble_eq_true rfl) (by decide) (c_gallop hG hra b2 hR (by omega) hp (fun I1 hf1 e1 e2 => ?_))
            refine s_max dX4_intersect_86 wM_X4_26 (Nat.le_of_ble_eq_true rfl) ?_
            refine s_topi (y := zI ((gal g1 m1 i (g2 j)).1 : Int)) (by rw [z1, zI_add]; exact zI_maxr (by omega) (by omega) (by omega)) ?_
            refine s_istore_n (i := 3) dX4_intersect_89 rfl (by decide) (by simp only [sl, sl2, rm, Value.category, reduceIte, Nat.reduceAdd, Nat.reduceEqDiff, reduceCtorEq]; rfl) ?_
            refine s_goto (tgt := 111) dX4_intersect_90 (by decide) ?_
            refine s_goto (tgt := 10) dX4_intersect_111 (by decide) ?_
            first
            | (refine s_lv (lv' := [(0, .ref (x0 + a)), (1, .ref (x0 + r)), (2, .ref (x0 + r2)), (3, .int (zI ((i + 1 : Nat) : Int))), (4, .int (zI ((j + 1 : Nat) : Int)))]) ⟨rfl, rfl, rfl, rfl, rfl, trivial⟩ ?_
               refine ih (i + 1) (j + 1) (tk + 1) pr _ (by omega) (by omega) (by omega) (hR.fr (iu_ne (by omega)) (iu_ne (by omega))) (hR2.fr (iu_ne (by omega)) (iu_ne (by omega))) (by rw [iu_at]; exact zI_t (by omega) (by omega)) (by omega) (by rw [iu_j (by omega)]; exact hp) (fun I' hf u0 u1 => hq I' (fr_trans (fr_iu (by simp)) hf) ?_ u1)
               rw [u0]
               omega)
            | (refine s_lv (lv' := [(0, .ref (x0 + a)), (1, .ref (x0 + r)), (2, .ref (x0 + r2)), (3, .int (zI ((gal g1 m1 i (g2 j)).1 : Int))), (4, .int (zI j))]) ⟨rfl, rfl, rfl, rfl, rfl, trivial⟩ ?_
               exact ih (gal g1 m1 i (g2 j)).1 j tk (pr + (gal g1 m1 i (g2 j)).2) I1 (by omega) (by omega) (by omega) (hR.fr (hf1 r (by simp; omega)) (hf1 (r + 1) (by simp; omega))) (hR2.fr (hf1 r2 (by simp; omega)) (hf1 (r2 + 1) (by simp; omega))) (by rw [e1]; exact h0) (by omega) e2 (fun I' hf u0 u1 => hq I' (fr_trans hf1 hf) u0 (by rw [u1]; congr 1; omega)))
            | (refine s_lv (lv' := [(0, .ref (x0 + a)), (1, .ref (x0 + r)), (2, .ref (x0 + r2)), (3, .int (zI i)), (4, .int (zI ((gal g2 m2 j (g1 i)).1 : Int)))]) ⟨rfl, rfl, rfl, rfl, rfl, trivial⟩ ?_
               exact ih i (gal g2 m2 j (g1 i)).1 tk (pr + (gal g2 m2 j (g1 i)).2) I1 (by omega) (by omega) (by omega) (hR.fr (hf1 r (by simp; omega)) (hf1 (r + 1) (by simp; omega))) (hR2.fr (hf1 r2 (by simp; omega)) (hf1 (r2 + 1) (by simp; omega))) (by rw [e1]; exact h0) htk e2 (fun I' hf u0 u1 => hq I' (fr_trans hf1 hf) u0 (by rw [u1]; congr 1; omega)))
        · rw [zI_eq b1.1 b1.2 b2.1 b2.2] at c46
          rw [if_pos c46] at hq
          refine s_aload_n (i := 0) dX4_intersect_49 rfl rfl ?_
          refine s_dup dX4_intersect_50 rfl ?_
          refine s_getI dX4_intersect_51 fl_X4_7 (by assumption) (by assumption) ?_
          refine s_iconst (v := 1) dX4_intersect_54 (by decide) ?_
          refine s_iadd dX4_intersect_55 ?_
          refine s_topi (y := zI ((tk + 1 : Nat) : Int)) (by rw [t_zI h0, z1, zI_add]; congr 1) ?_
          refine s_putI dX4_intersect_56 fp_X4_7 (by assumption) (by assumption) ?_
          refine s_iinc dX4_intersect_59 rfl (zI_inc _) (by decide) (by simp only [sl, sl2, rm, Value.category, reduceIte, Nat.reduceAdd, Nat.reduceEqDiff, reduceCtorEq]; rfl) ?_
          refine s_iinc dX4_intersect_62 rfl (zI_inc _) (by decide) (by simp only [sl, sl2, rm, Value.category, reduceIte, Nat.reduceAdd, Nat.reduceEqDiff, reduceCtorEq]; rfl) ?_
          refine s_goto (tgt := 111) dX4_intersect_65 (by decide) ?_
          refine s_goto (tgt := 10) dX4_intersect_111 (by decide) ?_
          first
          | (refine s_lv (lv' := [(0, .ref (x0 + a)), (1, .ref (x0 + r)), (2, .ref (x0 + r2)), (3, .int (zI ((i + 1 : Nat) : Int))), (4, .int (zI ((j + 1 : Nat) : Int)))]) ⟨rfl, rfl, rfl, rfl, rfl, trivial⟩ ?_
             refine ih (i + 1) (j + 1) (tk + 1) pr _ (by omega) (by omega) (by omega) (hR.fr (iu_ne (by omega)) (iu_ne (by omega))) (hR2.fr (iu_ne (by omega)) (iu_ne (by omega))) (by rw [iu_at]; exact zI_t (by omega) (by omega)) (by omega) (by rw [iu_j (by omega)]; exact hp) (fun I' hf u0 u1 => hq I' (fr_trans (fr_iu (by simp)) hf) ?_ u1)
             rw [u0]
             omega)
          | (refine s_lv (lv' := [(0, .ref (x0 + a)), (1, .ref (x0 + r)), (2, .ref (x0 + r2)), (3, .int (zI ((gal g1 m1 i (g2 j)).1 : Int))), (4, .int (zI j))]) ⟨rfl, rfl, rfl, rfl, rfl, trivial⟩ ?_
             exact ih (gal g1 m1 i (g2 j)).1 j tk (pr + (gal g1 m1 i (g2 j)).2) I1 (by omega) (by omega) (by omega) (hR.fr (hf1 r (by simp; omega)) (hf1 (r + 1) (by simp; omega))) (hR2.fr (hf1 r2 (by simp; omega)) (hf1 (r2 + 1) (by simp; omega))) (by rw [e1]; exact h0) (by omega) e2 (fun I' hf u0 u1 => hq I' (fr_trans hf1 hf) u0 (by rw [u1]; congr 1; omega)))
          | (refine s_lv (lv' := [(0, .ref (x0 + a)), (1, .ref (x0 + r)), (2, .ref (x0 + r2)), (3, .int (zI i)), (4, .int (zI ((gal g2 m2 j (g1 i)).1 : Int)))]) ⟨rfl, rfl, rfl, rfl, rfl, trivial⟩ ?_
             exact ih i (gal g2 m2 j (g1 i)).1 tk (pr + (gal g2 m2 j (g1 i)).2) I1 (by omega) (by omega) (by omega) (hR.fr (hf1 r (by simp; omega)) (hf1 (r + 1) (by simp; omega))) (hR2.fr (hf1 r2 (by simp; omega)) (hf1 (r2 + 1) (by simp; omega))) (by rw [e1]; exact h0) htk e2 (fun I' hf u0 u1 => hq I' (fr_trans hf1 hf) u0 (by rw [u1]; congr 1; omega)))
set_option maxRecDepth 100000 in
set_option maxHeartbeats 4000000 in
theorem c_intersect {G : fG} {x0 : Nat} {l : Launch} {d k n : Nat} {T : fT} {I : fI} {J : fJ} {Q : Option Value → fT → fI → fJ → Prop} {a r r2 cap cap2 m1 m2 : Nat} {g1 g2 : Nat → Int} {pr : Int} (hG : GalAt T a) (hra : a ≠ r ∧ a ≠ r + 1) (hra2 : a ≠ r2 ∧ a ≠ r2 + 1) (hR : RowIs T I r cap g1 m1) (hR2 : RowIs T I r2 cap2 g2 m2) (hp : I a 1 = zI pr) (hq : ∀ I', fr I I' [a] → (I' a 0).toInt = (gint g1 m1 g2 m2 (m1 + m2) 0 0).1 → I' a 1 = zI (pr + (gint g1 m1 g2 m2 (m1 + m2) 0 0).2) → Q none T I' J) :
    PW G x0 l mX4_intersect (d + 3) (ZM G x0 Q) k n 0 [(0, .ref (x0 + a)), (1, .ref (x0 + r)), (2, .ref (x0 + r2))] [] T I J := by
  obtain ⟨a1, a2⟩ := id hG
  refine s_iconst (v := 0) dX4_intersect_0 (by decide) ?_
  refine s_istore_n (i := 3) dX4_intersect_1 rfl (by decide) (by simp only [sl, sl2, rm, Value.category, reduceIte, Nat.reduceAdd, Nat.reduceEqDiff, reduceCtorEq]; rfl) ?_
  refine s_iconst (v := 0) dX4_intersect_2 (by decide) ?_
  refine s_istore dX4_intersect_3 (by decide) (by simp only [sl, sl2, rm, Value.category, reduceIte, Nat.reduceAdd, Nat.reduceEqDiff, reduceCtorEq]; rfl) ?_
  refine s_aload_n (i := 0) dX4_intersect_5 rfl rfl ?_
  refine s_iconst (v := 0) dX4_intersect_6 (by decide) ?_
  refine s_putI dX4_intersect_7 fp_X4_7 (by assumption) (by assumption) ?_
  exact l_gint hG hra hra2 (m1 + m2) 0 0 0 pr _ (by omega) (by omega) (by omega) (hR.fr (iu_ne (by omega)) (iu_ne (by omega))) (hR2.fr (iu_ne (by omega)) (iu_ne (by omega))) (by rw [iu_at]; rfl) (by omega) (by rw [iu_j (by omega)]; exact hp) (fun I' hf u0 u1 => hq I' (fr_trans (fr_iu (by simp)) hf) (by rw [u0]; omega) u1)
