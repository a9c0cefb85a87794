theorem if_pos_or (len : Nat) (h : 1 ≤ len ∧ len ≤ 64) : (if zI 1 < zI len then zI len else zI 1) = zI len := by
  by_cases h1 : zI 1 < zI len
  · rw [if_pos h1]
  · rw [if_neg h1]
    rw [zI_lt (by omega) (by omega) (by omega) (by omega)] at h1
    congr 1
    omega
set_option maxRecDepth 100000 in
set_option maxHeartbeats 4000000 in
theorem c_split {G : fG} {x0 : Nat} {l : Launch} {d k n : Nat} {T : fT} {I : fI} {J : fJ} {Q : Option Value → fT → fI → fJ → Prop} {c m nb b : Nat} {g s : Nat → Int} {z : Int} (hC : CutIs T I c g m s nb) (hb : b < nb) (hn : nb < 200) (hz : 0 ≤ z ∧ z < 100000) (hq : ∀ I', fr I I' [c, c + 3] → CutIs T I' c g m (ins s (b + 1) z) (nb + 1) → Q none T I' J) : PW G x0 l mX2_split (d + 1) (ZM G x0 Q) k n 0 [(0, .ref (x0 + c)), (1, .int (zI b)), (2, .int (zI z))] [] T I J := by
  obtain ⟨hA, hR, e1, e2, e3⟩ := id hC
  obtain ⟨a1, a2, a3, a4, a5, a6, a7, hRA⟩ := id hA
  obtain ⟨-, b1, b2, b3⟩ := id hR
  obtain ⟨r1, r2, r3, r4, r5, r6, r7⟩ := id hRA
  refine s_aload_n (i := 0) dX2_split_0 rfl rfl ?_
  refine s_getI dX2_split_1 fl_X2_24 (by assumption) (by assumption) ?_
  refine s_aload_n (i := 0) dX2_split_4 rfl rfl ?_
  refine s_getR dX2_split_5 fl_X2_20 (by assumption) (by assumption) (by assumption) ?_
  refine s_alen dX2_split_8 (by assumption) (by omega) (rfl) ?_
  refine s_icmp_ge (tgt := 56) dX2_split_9 (by decide) (fun h9 => absurd h9 (by rw [a7, hC.nb]; show ¬ zI 200 ≤ zI nb; rw [zI_le (by omega) (by omega) (by omega) (by omega)]; omega)) (fun h9 => ?_)
  refine s_aload_n (i := 0) dX2_split_12 rfl rfl ?_
  refine s_getR dX2_split_13 fl_X2_20 (by assumption) (by assumption) (by assumption) ?_
  refine s_iload_n (i := 1) dX2_split_16 rfl rfl ?_
  refine s_iconst (v := 1) dX2_split_17 (by decide) ?_
  refine s_iadd dX2_split_18 ?_
  refine s_topi (y := zI (b + 1)) (by rw [z1, zI_add]) ?_
  refine s_aload_n (i := 0) dX2_split_19 rfl rfl ?_
  refine s_getR dX2_split_20 fl_X2_20 (by assumption) (by assumption) (by assumption) ?_
  refine s_iload_n (i := 1) dX2_split_23 rfl rfl ?_
  refine s_iconst (v := 2) dX2_split_24 (by decide) ?_
  refine s_iadd dX2_split_25 ?_
  refine s_topi (y := zI (b + 2)) (by rw [z2, zI_add]) ?_
  refine s_aload_n (i := 0) dX2_split_26 rfl rfl ?_
  refine s_getI dX2_split_27 fl_X2_24 (by assumption) (by assumption) ?_
  refine s_iload_n (i := 1) dX2_split_30 rfl rfl ?_
  refine s_isub dX2_split_31 ?_
  refine s_iconst (v := 1) dX2_split_32 (by decide) ?_
  refine s_isub dX2_split_33 ?_
  refine s_topi (y := zI (nb - b - 1)) (by rw [hC.nb, zI_sub, z1, zI_sub]) ?_
  refine s_copy dX2_split_34 wM_X2_35 (by assumption) (by assumption) (by assumption) (by assumption) (nn_z (by omega) (by omega)) (nn_z (by omega) (by omega)) (nn_z (by omega) (by omega)) (by rw [zI_n (by omega) (by omega), zI_n (by omega) (by omega), a7]; omega) (by rw [zI_n (by omega) (by omega), zI_n (by omega) (by omega), a7]; omega) (Nat.le_of_ble_eq_true rfl) ?_
  refine s_aload_n (i := 0) dX2_split_37 rfl rfl ?_
  refine s_getR dX2_split_38 fl_X2_20 (by assumption) (by assumption) (by assumption) ?_
  refine s_iload_n (i := 1) dX2_split_41 rfl rfl ?_
  refine s_iconst (v := 1) dX2_split_42 (by decide) ?_
  refine s_iadd dX2_split_43 ?_
  refine s_topi (y := zI (b + 1)) (by rw [z1, zI_add]) ?_
  refine s_iload_n (i := 2) dX2_split_44 rfl rfl ?_
  refine s_iast dX2_split_45 (by assumption) (by assumption) (by rw [a7]; exact z_in (by omega) (by omega) (by omega)) ?_
  refine s_aload_n (i := 0) dX2_split_46 rfl rfl ?_
  refine s_dup dX2_split_47 rfl ?_
  refine s_getI dX2_split_48 fl_X2_24 (by assumption) (by assumption) ?_
  refine s_iconst (v := 1) dX2_split_51 (by decide) ?_
  refine s_iadd dX2_split_52 ?_
  refine s_putI dX2_split_53 fp_X2_24 (by assumption) (by assumption) ?_
  refine s_ret dX2_split_56 rfl ?_
  refine hq _ (fr_trans (fr_trans (fr_ia (by simp)) (fr_iu (by simp))) (fr_iu (by simp))) ⟨hA, hR.fr ?_ ?_, by omega, ?_, fun q hq => ?_⟩
  · rw [iu_ne (by omega), iu_ne (by omega), ia_ne (by omega)]
  · rw [iu_ne (by omega), iu_ne (by omega), ia_ne (by omega)]
  · rw [iu_at, iu_b (by omega), ia_b (by omega), hC.nb, z1, zI_add, zI_t (by omega) (by omega)]
    omega
  · rw [iu_b (by omega), zI_n (by omega) (by omega), zI_n (by omega) (by omega), zI_n (by omega) (by omega)]
    unfold ins
    rcases Nat.lt_trichotomy q (b + 1) with h | h | h
    · rw [iu_j (by omega), ia_eq, if_pos h]
      unfold va_cpy
      rw [if_neg (by omega)]
      exact e3 q (by omega)
    · rw [if_neg (by omega), if_pos h, show ((b : Int) + 1).toNat = q by omega, iu_at]
      exact zI_t (by omega) (by omega)
    · rw [iu_j (by omega), ia_eq, if_neg (by omega), if_neg (by omega)]
      unfold va_cpy
      rw [if_pos (by omega), show (((b : Int) + 1).toNat + (q - ((b : Int) + 2).toNat)) = q - 1 by omega]
      exact e3 (q - 1) (by omega)
set_option maxRecDepth 100000 in
set_option maxHeartbeats 4000000 in
theorem c_drop {G : fG} {x0 : Nat} {l : Launch} {d k n : Nat} {T : fT} {I : fI} {J : fJ} {Q : Option Value → fT → fI → fJ → Prop} {c m nb b : Nat} {g s : Nat → Int} (hC : CutIs T I c g m s nb) (hb : b < nb) (hq : ∀ I', fr I I' [c, c + 3] → CutIs T I' c g m (del s b) (nb - 1) → Q none T I' J) : PW G x0 l mX2_dropBlock (d + 1) (ZM G x0 Q) k n 0 [(0, .ref (x0 + c)), (1, .int (zI b))] [] T I J := by
  obtain ⟨hA, hR, e1, e2, e3⟩ := id hC
  obtain ⟨a1, a2, a3, a4, a5, a6, a7, hRA⟩ := id hA
  obtain ⟨-, b1, b2, b3⟩ := id hR
  obtain ⟨r1, r2, r3, r4, r5, r6, r7⟩ := id hRA
  refine s_aload_n (i := 0) dX2_dropBlock_0 rfl rfl ?_
  refine s_getR dX2_dropBlock_1 fl_X2_20 (by assumption) (by assumption) (by assumption) ?_
  refine s_iload_n (i := 1) dX2_dropBlock_4 rfl rfl ?_
  refine s_iconst (v := 1) dX2_dropBlock_5 (by decide) ?_
  refine s_iadd dX2_dropBlock_6 ?_
  refine s_topi (y := zI (b + 1)) (by rw [z1, zI_add]) ?_
  refine s_aload_n (i := 0) dX2_dropBlock_7 rfl rfl ?_
  refine s_getR dX2_dropBlock_8 fl_X2_20 (by assumption) (by assumption) (by assumption) ?_
  refine s_iload_n (i := 1) dX2_dropBlock_11 rfl rfl ?_
  refine s_aload_n (i := 0) dX2_dropBlock_12 rfl rfl ?_
  refine s_getI dX2_dropBlock_13 fl_X2_24 (by assumption) (by assumption) ?_
  refine s_iload_n (i := 1) dX2_dropBlock_16 rfl rfl ?_
  refine s_isub dX2_dropBlock_17 ?_
  refine s_iconst (v := 1) dX2_dropBlock_18 (by decide) ?_
  refine s_isub dX2_dropBlock_19 ?_
  refine s_topi (y := zI (nb - b - 1)) (by rw [hC.nb, zI_sub, z1, zI_sub]) ?_
  refine s_copy dX2_dropBlock_20 wM_X2_35 (by assumption) (by assumption) (by assumption) (by assumption) (nn_z (by omega) (by omega)) (nn_z (by omega) (by omega)) (nn_z (by omega) (by omega)) (by rw [zI_n (by omega) (by omega), zI_n (by omega) (by omega), a7]; omega) (by rw [zI_n (by omega) (by omega), zI_n (by omega) (by omega), a7]; omega) (Nat.le_of_ble_eq_true rfl) ?_
  refine s_aload_n (i := 0) dX2_dropBlock_23 rfl rfl ?_
  refine s_dup dX2_dropBlock_24 rfl ?_
  refine s_getI dX2_dropBlock_25 fl_X2_24 (by assumption) (by assumption) ?_
  refine s_iconst (v := 1) dX2_dropBlock_28 (by decide) ?_
  refine s_isub dX2_dropBlock_29 ?_
  refine s_putI dX2_dropBlock_30 fp_X2_24 (by assumption) (by assumption) ?_
  refine s_ret dX2_dropBlock_33 rfl ?_
  refine hq _ (fr_trans (fr_ia (by simp)) (fr_iu (by simp))) ⟨hA, hR.fr ?_ ?_, by omega, ?_, fun q hq => ?_⟩
  · rw [iu_ne (by omega), ia_ne (by omega)]
  · rw [iu_ne (by omega), ia_ne (by omega)]
  · rw [iu_at, ia_b (by omega), hC.nb, z1, zI_sub, zI_t (by omega) (by omega)]
    omega
  · rw [iu_b (by omega), ia_eq, zI_n (by omega) (by omega), zI_n (by omega) (by omega), zI_n (by omega) (by omega)]
    unfold del va_cpy
    by_cases h : q < b
    · rw [if_neg (by omega), if_pos h]
      exact e3 q (by omega)
    · rw [if_pos (by omega), if_neg h, show (((b : Int) + 1).toNat + (q - (b : Int).toNat)) = q + 1 by omega]
      exact e3 (q + 1) (by omega)
set_option maxRecDepth 100000 in
set_option maxHeartbeats 4000000 in
theorem l_cutBy {G : fG} {x0 : Nat} {l : Launch} {d k n : Nat} {T : fT} {J : fJ} {Q : Option Value → fT → fI → fJ → Prop} {c m : Nat} {g : Nat → Int} {len : Nat} (hlen : 1 ≤ len ∧ len ≤ 64) (hm : m ≤ 200) : ∀ (z i : Nat) (I : fI) (s : Nat → Int), m - i * len ≤ z → (i = 0 ∨ (i - 1) * len < m) → i ≤ m → CutIs T I c g m s i → (∀ j, j < i → s j = j * len) →
    (∀ (I' : fI) (nb : Nat), fr I I' [c, c + 3] → m ≤ nb * len → (nb = 0 ∨ (nb - 1) * len < m) → CutIs T I' c g m (fun j => j * len) nb → Q none T I' J) → PW G x0 l mX2_cutBy (d + 1) (ZM G x0 Q) k n 7 [(0, .ref (x0 + c)), (1, .int (zI len)), (2, .int (zI ((i * len : Nat) : Int)))] [] T I J := by
  intro z
  induction z with
  | zero =>
    intro i I s hz hi0 hi hC hs hq
    have hb : i * len ≤ 20000 := Nat.le_trans (Nat.mul_le_mul (show i ≤ 200 by omega) (show len ≤ 100 by omega)) (by decide)
    obtain ⟨hA, hR, e1, e2, e3⟩ := id hC
    obtain ⟨a1, a2, a3, a4, a5, a6, a7, hRA⟩ := id hA
    obtain ⟨-, b1, b2, b3⟩ := id hR
    obtain ⟨r1, r2, r3, r4, r5, r6, r7⟩ := id hRA
    refine s_iload_n (i := 2) dX2_cutBy_7 rfl rfl ?_
    refine s_aload_n (i := 0) dX2_cutBy_8 rfl rfl ?_
    refine s_getR dX2_cutBy_9 fl_X2_14 (by assumption) (by assumption) (by assumption) ?_
    refine s_getI dX2_cutBy_12 fl_X2_28 (by assumption) (by assumption) ?_
    refine s_icmp_ge (tgt := 34) dX2_cutBy_15 (by decide) (fun h15 => ?_) (fun h15 => absurd (by rw [hR.sz, zI_le (by omega) (by omega) (by omega) (by omega)]; omega) h15)
    refine s_ret dX2_cutBy_34 rfl ?_
    exact hq I i (fr_refl I _) (by omega) hi0 (hC.cong (fun _ _ => rfl) (fun j hj => (hs j hj).symm))
  | succ z ih =>
    intro i I s hz hi0 hi hC hs hq
    have hb : i * len ≤ 20000 := Nat.le_trans (Nat.mul_le_mul (show i ≤ 200 by omega) (show len ≤ 100 by omega)) (by decide)
    have hmul : (i + 1) * len = i * len + len := Nat.succ_mul i len
    have hge : i ≤ i * len := Nat.le_mul_of_pos_right i (by omega)
    obtain ⟨hA, hR, e1, e2, e3⟩ := id hC
    obtain ⟨a1, a2, a3, a4, a5, a6, a7, hRA⟩ := id hA
    obtain ⟨-, b1, b2, b3⟩ := id hR
    obtain ⟨r1, r2, r3, r4, r5, r6, r7⟩ := id hRA
    refine s_iload_n (i := 2) dX2_cutBy_7 rfl rfl ?_
    refine s_aload_n (i := 0) dX2_cutBy_8 rfl rfl ?_
    refine s_getR dX2_cutBy_9 fl_X2_14 (by assumption) (by assumption) (by assumption) ?_
    refine s_getI dX2_cutBy_12 fl_X2_28 (by assumption) (by assumption) ?_
    refine s_icmp_ge (tgt := 34) dX2_cutBy_15 (by decide) (fun h15 => ?_) (fun h15 => ?_)
    · refine s_ret dX2_cutBy_34 rfl ?_
      rw [hR.sz, zI_le (by omega) (by omega) (by omega) (by omega)] at h15
      exact hq I i (fr_refl I _) (by omega) hi0 (hC.cong (fun _ _ => rfl) (fun j hj => (hs j hj).symm))
    · rw [hR.sz, zI_le (by omega) (by omega) (by omega) (by omega)] at h15
      refine s_aload_n (i := 0) dX2_cutBy_18 rfl rfl ?_
      refine s_iload_n (i := 2) dX2_cutBy_19 rfl rfl ?_
      refine s_cV_I (My := mX2_startBlock) dX2_cutBy_20 wM_X2_41 cb_yX2_startBlock ci_yX2_startBlock (by assumption) (by assumption) (Nat.le_of_ble_eq_true rfl) (by decide) (c_startBlock hC (by omega) (by omega) (fun I1 hf1 hC1 => ?_))
      refine s_iload_n (i := 2) dX2_cutBy_23 rfl rfl ?_
      refine s_iconst (v := 1) dX2_cutBy_24 (by decide) ?_
      refine s_iload_n (i := 1) dX2_cutBy_25 rfl rfl ?_
      refine s_max dX2_cutBy_26 wM_X2_44 (Nat.le_of_ble_eq_true rfl) ?_
      refine s_topi (y := zI len) (by rw [z1, if_pos_or len (by omega)]) ?_
      refine s_iadd dX2_cutBy_29 ?_
      refine s_topi (y := zI (((i + 1) * len : Nat) : Int)) (by rw [zI_add, hmul]; congr 1) ?_
      refine s_istore_n (i := 2) dX2_cutBy_30 rfl (by decide) (by simp only [sl, sl2, rm, Value.category, reduceIte, Nat.reduceAdd, Nat.reduceEqDiff, reduceCtorEq]; rfl) ?_
      refine s_goto (tgt := 7) dX2_cutBy_31 (by decide) ?_
      refine ih (i + 1) I1 _ (by omega) (Or.inr (by rw [Nat.add_sub_cancel]; omega)) (by omega) hC1 (fun j hj => ?_) (fun I' nb hf h1 h2 hC2 => hq I' nb (fr_trans hf1 hf) h1 h2 hC2)
      try dsimp only
      by_cases h : j = i
      · rw [if_pos h, h]; exact Int.natCast_mul i len
      · rw [if_neg h]; exact hs j (by omega)
set_option maxRecDepth 100000 in
set_option maxHeartbeats 4000000 in
theorem c_cutBy {G : fG} {x0 : Nat} {l : Launch} {d k n : Nat} {T : fT} {I : fI} {J : fJ} {Q : Option Value → fT → fI → fJ → Prop} {c m nb0 : Nat} {g s : Nat → Int} {len : Nat} (hC : CutIs T I c g m s nb0) (hlen : 1 ≤ len ∧ len ≤ 64) (hq : ∀ (I' : fI) (nb : Nat), fr I I' [c, c + 3] → m ≤ nb * len → (nb = 0 ∨ (nb - 1) * len < m) → CutIs T I' c g m (fun j => j * len) nb → Q none T I' J) : PW G x0 l mX2_cutBy (d + 1) (ZM G x0 Q) k n 0 [(0, .ref (x0 + c)), (1, .int (zI len))] [] T I J := by
  obtain ⟨hA, hR, e1, e2, e3⟩ := id hC
  obtain ⟨a1, a2, a3, a4, a5, a6, a7, hRA⟩ := id hA
  obtain ⟨-, b1, b2, b3⟩ := id hR
  obtain ⟨r1, r2, r3, r4, r5, r6, r7⟩ := id hRA
  refine s_aload_n (i := 0) dX2_cutBy_0 rfl rfl ?_
  refine s_iconst (v := 0) dX2_cutBy_1 (by decide) ?_
  refine s_putI dX2_cutBy_2 fp_X2_24 (by assumption) (by assumption) ?_
  refine s_iconst (v := 0) dX2_cutBy_5 (by decide) ?_
  refine s_istore_n (i := 2) dX2_cutBy_6 rfl (by decide) (by simp only [sl, sl2, rm, Value.category, reduceIte, Nat.reduceAdd, Nat.reduceEqDiff, reduceCtorEq]; rfl) ?_
  have hC0 : CutIs T (iu I c 2 0) c g m s 0 := ⟨hA, hR.fr (iu_ne (by omega)) (iu_ne (by omega)), by omega, by rw [iu_at]; rfl, fun j hj => absurd hj (Nat.not_lt_zero j)⟩
  have hL := l_cutBy (G := G) (x0 := x0) (l := l) (d := d) (k := k) (n := n) (T := T) (J := J) (Q := Q) (g := g) hlen b1 m 0 (iu I c 2 0) s (by omega) (Or.inl rfl) (by omega) hC0 (fun j hj => absurd hj (Nat.not_lt_zero j)) (fun I' nb hf h1 h2 hC2 => hq I' nb (fr_trans (fr_iu (by simp)) hf) h1 h2 hC2)
  rw [Nat.zero_mul] at hL
  exact hL
set_option maxRecDepth 100000 in
set_option maxHeartbeats 4000000 in
theorem l_lbu {G : fG} {x0 : Nat} {l : Launch} {d k n : Nat} {T : fT} {I : fI} {J : fJ} {Q : Option Value → fT → fI → fJ → Prop} {c m nb : Nat} {g s : Nat → Int} {v : Int32} (hC : CutIs T I c g m s nb) (hs : StOk s nb m) (hg : Sorted g m) (hq : ∀ j : Int, LB g s nb v.toInt j → Q (some (.int (zI j))) T I J) : ∀ (z : Nat) (lo hi : Int), hi - lo ≤ z + 1 → -1 ≤ lo → lo < hi → hi ≤ nb → (∀ i : Nat, (i : Int) ≤ lo → g (s i).toNat ≤ v.toInt) → (∀ i : Nat, hi ≤ i → i < nb → v.toInt < g (s i).toNat) →
    PW G x0 l mX2_lastBlockUpTo (d + 1) (ZM G x0 Q) k n 7 [(0, .ref (x0 + c)), (1, .int v), (2, .int (zI lo)), (3, .int (zI hi))] [] T I J := by
  obtain ⟨hA, hR, e1, e2, e3⟩ := id hC
  obtain ⟨a1, a2, a3, a4, a5, a6, a7, hRA⟩ := id hA
  obtain ⟨-, b1, b2, b3⟩ := id hR
  obtain ⟨r1, r2, r3, r4, r5, r6, r7⟩ := id hRA
  have mono : ∀ i j : Nat, i ≤ j → j < nb → g (s i).toNat ≤ g (s j).toNat := by
    intro i j h1 h2
    rcases Nat.lt_or_ge i j with h | h
    · have k1 := hs.2 i j h h2
      have k2 := hs.1 j h2
      have k3 := hs.1 i (by omega)
      exact Int.le_of_lt (hg _ _ (by omega) (by omega))
    · rw [show i = j by omega]; exact Int.le_refl _
  intro z
  induction z with
  | zero =>
    intro lo hi hz h1 h2 h3 h4 h5
    refine s_iload_n (i := 2) dX2_lastBlockUpTo_7 rfl rfl ?_
    refine s_iconst (v := 1) dX2_lastBlockUpTo_8 (by decide) ?_
    refine s_iadd dX2_lastBlockUpTo_9 ?_
    refine s_iload_n (i := 3) dX2_lastBlockUpTo_10 rfl rfl ?_
    refine s_icmp_ge (tgt := 50) dX2_lastBlockUpTo_11 (by decide) (fun h11 => ?_) (fun h11 => absurd (by rw [z1, zI_add, zI_le (by omega) (by omega) (by omega) (by omega)]; omega) h11)
    refine s_iload_n (i := 2) dX2_lastBlockUpTo_50 rfl rfl ?_
    refine s_iret dX2_lastBlockUpTo_51 rfl ?_
    exact hq lo ⟨h1, by omega, h4, fun i q1 q2 => h5 i (by omega) q2⟩
  | succ z ih =>
    intro lo hi hz h1 h2 h3 h4 h5
    refine s_iload_n (i := 2) dX2_lastBlockUpTo_7 rfl rfl ?_
    refine s_iconst (v := 1) dX2_lastBlockUpTo_8 (by decide) ?_
    refine s_iadd dX2_lastBlockUpTo_9 ?_
    refine s_iload_n (i := 3) dX2_lastBlockUpTo_10 rfl rfl ?_
    refine s_icmp_ge (tgt := 50) dX2_lastBlockUpTo_11 (by decide) (fun c11 => ?_) (fun c11 => ?_)
    · refine s_iload_n (i := 2) dX2_lastBlockUpTo_50 rfl rfl ?_
      refine s_iret dX2_lastBlockUpTo_51 rfl ?_
      rw [z1, zI_add, zI_le (by omega) (by omega) (by omega) (by omega)] at c11
      exact hq lo ⟨h1, by omega, h4, fun i q1 q2 => h5 i (by omega) q2⟩
    · rw [z1, zI_add, zI_le (by omega) (by omega) (by omega) (by omega)] at c11
      obtain ⟨md, hmd⟩ : ∃ md : Nat, (lo + hi) / 2 = md := ⟨((lo + hi) / 2).toNat, by omega⟩
      have hsm := hs.1 md (by omega)
      refine s_iload_n (i := 2) dX2_lastBlockUpTo_14 rfl rfl ?_
      refine s_iload_n (i := 3) dX2_lastBlockUpTo_15 rfl rfl ?_
      refine s_iadd dX2_lastBlockUpTo_16 ?_
      refine s_iconst (v := 2) dX2_lastBlockUpTo_17 (by decide) ?_
      refine s_idiv dX2_lastBlockUpTo_18 (by decide) ?_
      refine s_topi (y := zI md) (by rw [zI_add, z2, zI_div (by omega) (by omega) (by omega) (by omega), hmd]) ?_
      refine s_istore dX2_lastBlockUpTo_19 (by decide) (by simp only [sl, sl2, rm, Value.category, reduceIte, Nat.reduceAdd, Nat.reduceEqDiff, reduceCtorEq]; rfl) ?_
      refine s_aload_n (i := 0) dX2_lastBlockUpTo_21 rfl rfl ?_
      refine s_getR dX2_lastBlockUpTo_22 fl_X2_14 (by assumption) (by assumption) (by assumption) ?_
      refine s_aload_n (i := 0) dX2_lastBlockUpTo_25 rfl rfl ?_
      refine s_iload dX2_lastBlockUpTo_26 rfl ?_
      refine s_cV_I (My := mX2_startOf) dX2_lastBlockUpTo_28 wM_X2_50 cb_yX2_startOf ci_yX2_startOf (by assumption) (by assumption) (Nat.le_of_ble_eq_true rfl) (by decide) (c_startOf hC (by omega) (by omega) ?_)
      refine s_st (st2 := [.int (zI (s md)), .ref (x0 + (c + 1))]) (by show (Value.int _ :: _) = _; unfold stf; rw [if_pos (by omega)]; rfl) ?_
      refine s_cV_I (My := mX9_get) dX2_lastBlockUpTo_31 wM_X2_54 cb_yX9_get ci_yX9_get (by assumption) (by assumption) (Nat.le_of_ble_eq_true rfl) (by decide) (c_getz hR (by omega) (by omega) ?_)
      refine s_iload_n (i := 1) dX2_lastBlockUpTo_34 rfl rfl ?_
      refine s_icmp_gt (tgt := 44) dX2_lastBlockUpTo_35 (by decide) (fun c35 => ?_) (fun c35 => ?_)
      · have hgm := b3 (s md).toNat (by omega)
        have hg1 := t_lt (I (c + 1 + 1) (s md).toNat)
        have hg2 := t_ge (I (c + 1 + 1) (s md).toNat)
        rw [t_lt', zI_t (by omega) (by omega)] at c35
        refine s_iload dX2_lastBlockUpTo_44 rfl ?_
        refine s_istore_n (i := 3) dX2_lastBlockUpTo_46 rfl (by decide) (by simp only [sl, sl2, rm, Value.category, reduceIte, Nat.reduceAdd, Nat.reduceEqDiff, reduceCtorEq]; rfl) ?_
        refine s_goto (tgt := 7) dX2_lastBlockUpTo_47 (by decide) ?_
        refine s_lv (lv' := [(0, .ref (x0 + c)), (1, .int v), (2, .int (zI lo)), (3, .int (zI md))]) ⟨rfl, rfl, rfl, rfl, trivial⟩ ?_
        refine ih lo md (by omega) (by omega) (by omega) (by omega) h4 (fun i hi1 hi2 => ?_)
        exact Int.lt_of_lt_of_le (by omega) (mono md i (by omega) hi2)
      · have hgm := b3 (s md).toNat (by omega)
        have hg1 := t_lt (I (c + 1 + 1) (s md).toNat)
        have hg2 := t_ge (I (c + 1 + 1) (s md).toNat)
        rw [t_lt', zI_t (by omega) (by omega)] at c35
        refine s_iload dX2_lastBlockUpTo_38 rfl ?_
        refine s_istore_n (i := 2) dX2_lastBlockUpTo_40 rfl (by decide) (by simp only [sl, sl2, rm, Value.category, reduceIte, Nat.reduceAdd, Nat.reduceEqDiff, reduceCtorEq]; rfl) ?_
        refine s_goto (tgt := 47) dX2_lastBlockUpTo_41 (by decide) ?_
        refine s_goto (tgt := 7) dX2_lastBlockUpTo_47 (by decide) ?_
        refine s_lv (lv' := [(0, .ref (x0 + c)), (1, .int v), (2, .int (zI md)), (3, .int (zI hi))]) ⟨rfl, rfl, rfl, rfl, trivial⟩ ?_
        refine ih md hi (by omega) (by omega) (by omega) h3 (fun i hi1 => ?_) h5
        exact Int.le_trans (mono i md (by omega) (by omega)) (by omega)
set_option maxRecDepth 100000 in
set_option maxHeartbeats 4000000 in
theorem c_lbu {G : fG} {x0 : Nat} {l : Launch} {d k n : Nat} {T : fT} {I : fI} {J : fJ} {Q : Option Value → fT → fI → fJ → Prop} {c m nb : Nat} {g s : Nat → Int} {v : Int32} (hC : CutIs T I c g m s nb) (hs : StOk s nb m) (hg : Sorted g m) (hq : ∀ j : Int, LB g s nb v.toInt j → Q (some (.int (zI j))) T I J) : PW G x0 l mX2_lastBlockUpTo (d + 1) (ZM G x0 Q) k n 0 [(0, .ref (x0 + c)), (1, .int v)] [] T I J := by
  obtain ⟨hA, hR, e1, e2, e3⟩ := id hC
  obtain ⟨a1, a2, a3, a4, a5, a6, a7, hRA⟩ := id hA
  obtain ⟨-, b1, b2, b3⟩ := id hR
  obtain ⟨r1, r2, r3, r4, r5, r6, r7⟩ := id hRA
  refine s_iconst (v := -1) dX2_lastBlockUpTo_0 (by decide) ?_
  refine s_topi zm1 ?_
  refine s_istore_n (i := 2) dX2_lastBlockUpTo_1 rfl (by decide) (by simp only [sl, sl2, rm, Value.category, reduceIte, Nat.reduceAdd, Nat.reduceEqDiff, reduceCtorEq]; rfl) ?_
  refine s_aload_n (i := 0) dX2_lastBlockUpTo_2 rfl rfl ?_
  refine s_getI dX2_lastBlockUpTo_3 fl_X2_24 (by assumption) (by assumption) ?_
  refine s_topi hC.nb ?_
  refine s_istore_n (i := 3) dX2_lastBlockUpTo_6 rfl (by decide) (by simp only [sl, sl2, rm, Value.category, reduceIte, Nat.reduceAdd, Nat.reduceEqDiff, reduceCtorEq]; rfl) ?_
  exact l_lbu hC hs hg hq nb (-1) nb (by omega) (by omega) (by omega) (by omega) (fun i h => absurd h (by omega)) (fun i h1 h2 => absurd h2 (by omega))
