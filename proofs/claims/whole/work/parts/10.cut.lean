def CutAt (T : fT) (c : Nat) : Prop := c < T.1 ∧ T.2.1 c = 2 ∧ T.2.2.2 c 0 = some (c + 1) ∧ T.2.2.2 c 1 = some (c + 3) ∧ c + 3 < T.1 ∧ T.2.1 (c + 3) = 13 ∧ T.2.2.1 (c + 3) = 200 ∧ RowAt T (c + 1) 200
/-- a list with m numbers g in nb blocks that start at s -/
def CutIs (T : fT) (I : fI) (c : Nat) (g : Nat → Int) (m : Nat) (s : Nat → Int) (nb : Nat) : Prop := CutAt T c ∧ RowIs T I (c + 1) 200 g m ∧ nb ≤ 200 ∧ (I c 2).toInt = nb ∧ ∀ j, j < nb → (I (c + 3) j).toInt = s j
theorem CutIs.fr {T : fT} {I I' : fI} {c m nb : Nat} {g s : Nat → Int} (h : CutIs T I c g m s nb) (h0 : I' c = I c) (h1 : I' (c + 1) = I (c + 1)) (h2 : I' (c + 2) = I (c + 2)) (h3 : I' (c + 3) = I (c + 3)) : CutIs T I' c g m s nb :=
  ⟨h.1, h.2.1.fr h1 h2, h.2.2.1, by rw [h0]; exact h.2.2.2.1, fun j hj => by rw [h3]; exact h.2.2.2.2 j hj⟩
theorem CutIs.cong {T : fT} {I : fI} {c m nb : Nat} {g g' s s' : Nat → Int} (h : CutIs T I c g m s nb) (hg : ∀ k, k < m → g' k = g k) (hs : ∀ j, j < nb → s' j = s j) : CutIs T I c g' m s' nb := ⟨h.1, h.2.1.cong hg, h.2.2.1, h.2.2.2.1, fun j hj => by rw [hs j hj]; exact h.2.2.2.2 j hj⟩
theorem CutIs.nb {T : fT} {I : fI} {c m nb : Nat} {g s : Nat → Int} (h : CutIs T I c g m s nb) : I c 2 = zI nb := t_zI h.2.2.2.1
theorem CutIs.st {T : fT} {I : fI} {c m nb : Nat} {g s : Nat → Int} (h : CutIs T I c g m s nb) {j : Nat} (hj : j < nb) : I (c + 3) j = zI (s j) := t_zI (h.2.2.2.2 j hj)
def stf (s : Nat → Int) (nb m : Nat) (z : Int) : Int := if 0 ≤ z ∧ z < nb then s z.toNat else m
/-- the last block whose base is at most v, -1 if there is none -/
def LB (g s : Nat → Int) (nb : Nat) (v j : Int) : Prop := -1 ≤ j ∧ j < nb ∧ (∀ i : Nat, (i : Int) ≤ j → g (s i).toNat ≤ v) ∧ ∀ i : Nat, j < i → i < nb → v < g (s i).toNat
theorem LB.uniq {g s : Nat → Int} {nb : Nat} {v i j : Int} (h : LB g s nb v i) (h2 : LB g s nb v j) : i = j := by
  rcases Int.lt_trichotomy i j with h3 | h3 | h3
  · have h4 := h2.2.2.1 j.toNat (by have := h.1; omega)
    have h5 := h.2.2.2 j.toNat (by have := h.1; omega) (by have := h2.2.1; have := h.1; omega)
    omega
  · exact h3
  · have h4 := h.2.2.1 i.toNat (by have := h2.1; omega)
    have h5 := h2.2.2.2 i.toNat (by have := h2.1; omega) (by have := h.2.1; have := h2.1; omega)
    omega
/-- starts that rise inside of the row -/
def StOk (s : Nat → Int) (nb m : Nat) : Prop := (∀ j, j < nb → 0 ≤ s j ∧ s j < m) ∧ ∀ i j, i < j → j < nb → s i < s j
set_option maxRecDepth 100000 in
set_option maxHeartbeats 4000000 in
theorem c_startOf {G : fG} {x0 : Nat} {l : Launch} {d k n : Nat} {T : fT} {I : fI} {J : fJ} {Q : Option Value → fT → fI → fJ → Prop} {c m nb : Nat} {g s : Nat → Int} {z : Int} (hC : CutIs T I c g m s nb) (h0 : -2147483648 ≤ z) (h1 : z < 2147483648) (hq : Q (some (.int (zI (stf s nb m z)))) T I J) : PW G x0 l mX2_startOf d (ZM G x0 Q) k n 0 [(0, .ref (x0 + c)), (1, .int (zI z))] [] T I J := by
  obtain ⟨hA, hR, e1, e2, e3⟩ := id hC
  obtain ⟨a1, a2, a3, a4, a5, a6, a7, hRA⟩ := id hA
  obtain ⟨-, b1, b2, b3⟩ := id hR
  obtain ⟨r1, r2, r3, r4, r5, r6, r7⟩ := id hRA
  refine s_iload_n (i := 1) dX2_startOf_0 rfl rfl ?_
  refine s_if_lt (tgt := 21) dX2_startOf_1 (by decide) (fun h1 => ?_) (fun h1 => ?_)
  · refine s_aload_n (i := 0) dX2_startOf_21 rfl rfl ?_
    refine s_getR dX2_startOf_22 fl_X2_14 (by assumption) (by assumption) (by assumption) ?_
    refine s_getI dX2_startOf_25 fl_X2_28 (by assumption) (by assumption) ?_
    refine s_iret dX2_startOf_28 rfl ?_
    unfold stf at hq
    first
    | (rw [z0, zI_lt (by omega) (by omega) (by omega) (by omega)] at h1
       rw [if_neg (by omega)] at hq
       rw [hR.sz]
       exact hq)
    | (rw [hC.nb, zI_le (by omega) (by omega) (by omega) (by omega)] at h9
       rw [if_neg (by omega)] at hq
       rw [hR.sz]
       exact hq)
    | (rw [if_pos (by omega)] at hq
       rw [zI_n (by omega) (by omega), hC.st (by omega)]
       exact hq)
  · rw [z0, zI_lt (by omega) (by omega) (by omega) (by omega)] at h1
    refine s_iload_n (i := 1) dX2_startOf_4 rfl rfl ?_
    refine s_aload_n (i := 0) dX2_startOf_5 rfl rfl ?_
    refine s_getI dX2_startOf_6 fl_X2_24 (by assumption) (by assumption) ?_
    refine s_icmp_ge (tgt := 21) dX2_startOf_9 (by decide) (fun h9 => ?_) (fun h9 => ?_)
    · refine s_aload_n (i := 0) dX2_startOf_21 rfl rfl ?_
      refine s_getR dX2_startOf_22 fl_X2_14 (by assumption) (by assumption) (by assumption) ?_
      refine s_getI dX2_startOf_25 fl_X2_28 (by assumption) (by assumption) ?_
      refine s_iret dX2_startOf_28 rfl ?_
      unfold stf at hq
      first
      | (rw [z0, zI_lt (by omega) (by omega) (by omega) (by omega)] at h1
         rw [if_neg (by omega)] at hq
         rw [hR.sz]
         exact hq)
      | (rw [hC.nb, zI_le (by omega) (by omega) (by omega) (by omega)] at h9
         rw [if_neg (by omega)] at hq
         rw [hR.sz]
         exact hq)
      | (rw [if_pos (by omega)] at hq
         rw [zI_n (by omega) (by omega), hC.st (by omega)]
         exact hq)
    · rw [hC.nb, zI_le (by omega) (by omega) (by omega) (by omega)] at h9
      refine s_aload_n (i := 0) dX2_startOf_12 rfl rfl ?_
      refine s_getR dX2_startOf_13 fl_X2_20 (by assumption) (by assumption) (by assumption) ?_
      refine s_iload_n (i := 1) dX2_startOf_16 rfl rfl ?_
      refine s_iald dX2_startOf_17 (by assumption) (by assumption) (by rw [a7]; exact z_in (by omega) (by omega) (by omega)) ?_
      refine s_goto (tgt := 28) dX2_startOf_18 (by decide) ?_
      refine s_iret dX2_startOf_28 rfl ?_
      unfold stf at hq
      first
      | (rw [z0, zI_lt (by omega) (by omega) (by omega) (by omega)] at h1
         rw [if_neg (by omega)] at hq
         rw [hR.sz]
         exact hq)
      | (rw [hC.nb, zI_le (by omega) (by omega) (by omega) (by omega)] at h9
         rw [if_neg (by omega)] at hq
         rw [hR.sz]
         exact hq)
      | (rw [if_pos (by omega)] at hq
         rw [zI_n (by omega) (by omega), hC.st (by omega)]
         exact hq)
set_option maxRecDepth 100000 in
set_option maxHeartbeats 4000000 in
theorem c_makeEmpty {G : fG} {x0 : Nat} {l : Launch} {d k n : Nat} {T : fT} {I : fI} {J : fJ} {Q : Option Value → fT → fI → fJ → Prop} {c m nb : Nat} {g s g' s' : Nat → Int} (hC : CutIs T I c g m s nb) (hq : ∀ I', fr I I' [c, c + 1] → CutIs T I' c g' 0 s' 0 → Q none T I' J) : PW G x0 l mX2_makeEmpty d (ZM G x0 Q) k n 0 [(0, .ref (x0 + c))] [] T I J := by
  obtain ⟨hA, hR, e1, e2, e3⟩ := id hC
  obtain ⟨a1, a2, a3, a4, a5, a6, a7, hRA⟩ := id hA
  obtain ⟨-, b1, b2, b3⟩ := id hR
  obtain ⟨r1, r2, r3, r4, r5, r6, r7⟩ := id hRA
  refine s_aload_n (i := 0) dX2_makeEmpty_0 rfl rfl ?_
  refine s_getR dX2_makeEmpty_1 fl_X2_14 (by assumption) (by assumption) (by assumption) ?_
  refine s_iconst (v := 0) dX2_makeEmpty_4 (by decide) ?_
  refine s_putI dX2_makeEmpty_5 fp_X2_28 (by assumption) (by assumption) ?_
  refine s_aload_n (i := 0) dX2_makeEmpty_8 rfl rfl ?_
  refine s_iconst (v := 0) dX2_makeEmpty_9 (by decide) ?_
  refine s_putI dX2_makeEmpty_10 fp_X2_24 (by assumption) (by assumption) ?_
  refine s_ret dX2_makeEmpty_13 rfl ?_
  exact hq _ (fr_trans (fr_iu (by simp)) (fr_iu (by simp))) ⟨hA, ⟨hRA, by omega, by rw [iu_b (by omega), iu_at]; rfl, fun k hk => absurd hk (Nat.not_lt_zero k)⟩, by omega, by rw [iu_at]; rfl, fun k hk => absurd hk (Nat.not_lt_zero k)⟩
set_option maxRecDepth 100000 in
set_option maxHeartbeats 4000000 in
theorem c_cutCopy {G : fG} {x0 : Nat} {l : Launch} {d k n : Nat} {T : fT} {I : fI} {J : fJ} {Q : Option Value → fT → fI → fJ → Prop} {c o m nb : Nat} {g s : Nat → Int} (hA : CutAt T c) (hO : CutIs T I o g m s nb) (hd : c + 4 ≤ o ∨ o + 4 ≤ c) (hq : ∀ I', fr I I' [c, c + 1, c + 2, c + 3] → CutIs T I' c g m s nb → Q none T I' J) : PW G x0 l mX2_copyFrom (d + 2) (ZM G x0 Q) k n 0 [(0, .ref (x0 + c)), (1, .ref (x0 + o))] [] T I J := by
  obtain ⟨a1, a2, a3, a4, a5, a6, a7, hRA⟩ := id hA
  obtain ⟨hB, hR, e1, e2, e3⟩ := id hO
  obtain ⟨c1, c2, c3, c4, c5, c6, c7, hRB⟩ := id hB
  obtain ⟨r1, r2, r3, r4, r5, r6, r7⟩ := id hRA
  obtain ⟨q1, q2, q3, q4, q5, q6, q7⟩ := id hRB
  refine s_aload_n (i := 0) dX2_copyFrom_0 rfl rfl ?_
  refine s_getR dX2_copyFrom_1 fl_X2_14 (by assumption) (by assumption) (by assumption) ?_
  refine s_aload_n (i := 1) dX2_copyFrom_4 rfl rfl ?_
  refine s_getR dX2_copyFrom_5 fl_X2_14 (by assumption) (by assumption) (by assumption) ?_
  refine s_cV_R (My := mX9_copyFrom) dX2_copyFrom_8 wM_X2_31 cb_yX9_copyFrom ci_yX9_copyFrom (by assumption) (by assumption) (Nat.le_of_ble_eq_true rfl) (by decide) (c_rowCopy hRA hR ⟨by omega, by omega, by omega⟩ hR.2.1 (fun I1 hf1 hR1 => ?_))
  have u0 : I1 o = I o := hf1 o (by simp; omega)
  have u3 : I1 (o + 3) = I (o + 3) := hf1 (o + 3) (by simp; omega)
  have eo : I1 o 2 = zI nb := by rw [u0]; exact hO.nb
  refine s_aload_n (i := 0) dX2_copyFrom_11 rfl rfl ?_
  refine s_aload_n (i := 1) dX2_copyFrom_12 rfl rfl ?_
  refine s_getI dX2_copyFrom_13 fl_X2_24 (by assumption) (by assumption) ?_
  refine s_topi (y := zI nb) eo ?_
  refine s_putI dX2_copyFrom_16 fp_X2_24 (by assumption) (by assumption) ?_
  refine s_aload_n (i := 1) dX2_copyFrom_19 rfl rfl ?_
  refine s_getR dX2_copyFrom_20 fl_X2_20 (by assumption) (by assumption) (by assumption) ?_
  refine s_iconst (v := 0) dX2_copyFrom_23 (by decide) ?_
  refine s_aload_n (i := 0) dX2_copyFrom_24 rfl rfl ?_
  refine s_getR dX2_copyFrom_25 fl_X2_20 (by assumption) (by assumption) (by assumption) ?_
  refine s_iconst (v := 0) dX2_copyFrom_28 (by decide) ?_
  refine s_aload_n (i := 0) dX2_copyFrom_29 rfl rfl ?_
  refine s_getI dX2_copyFrom_30 fl_X2_24 (by assumption) (by assumption) ?_
  refine s_topi (y := zI nb) iu_at ?_
  refine s_copy dX2_copyFrom_33 wM_X2_35 (by assumption) (by assumption) (by assumption) (by assumption) (by decide) (by decide) (nn_z (by omega) (by omega)) (by rw [zI_n (by omega) (by omega), c7]; show 0 + _ ≤ _; omega) (by rw [zI_n (by omega) (by omega), a7]; show 0 + _ ≤ _; omega) (Nat.le_of_ble_eq_true rfl) ?_
  refine s_ret dX2_copyFrom_36 rfl ?_
  refine hq _ (fr_trans (fr_sub hf1 (fun b hb => by simp at hb ⊢; omega)) (fr_trans (fr_iu (by simp)) (fr_ia (by simp)))) ⟨hA, (hR1.fr ?_ ?_), e1, ?_, fun j hj => ?_⟩
  · rw [ia_ne (by omega), iu_ne (by omega)]
  · rw [ia_ne (by omega), iu_ne (by omega)]
  · rw [ia_b (by omega), iu_at, zI_t (by omega) (by omega)]
  · rw [ia_eq, zI_n (by omega) (by omega)]
    show Int32.toInt (va_cpy _ _ 0 0 _ j) = _
    simp only [va_cpy, Nat.zero_le, true_and, Nat.zero_add, Int.toNat_natCast, if_pos hj, Nat.sub_zero]
    rw [iu_b (by omega), u3]
    exact e3 j hj
set_option maxRecDepth 100000 in
set_option maxHeartbeats 4000000 in
theorem c_startBlock {G : fG} {x0 : Nat} {l : Launch} {d k n : Nat} {T : fT} {I : fI} {J : fJ} {Q : Option Value → fT → fI → fJ → Prop} {c m nb : Nat} {g s : Nat → Int} {z : Int} (hC : CutIs T I c g m s nb) (hz : 0 ≤ z ∧ z < 100000) (hn : nb < 200) (hq : ∀ I', fr I I' [c, c + 3] → CutIs T I' c g m (fun j => if j = nb then z else s j) (nb + 1) → Q none T I' J) : PW G x0 l mX2_startBlock d (ZM G x0 Q) k n 0 [(0, .ref (x0 + c)), (1, .int (zI z))] [] T I J := by
  obtain ⟨hA, hR, e1, e2, e3⟩ := id hC
  obtain ⟨a1, a2, a3, a4, a5, a6, a7, hRA⟩ := id hA
  obtain ⟨-, b1, b2, b3⟩ := id hR
  obtain ⟨r1, r2, r3, r4, r5, r6, r7⟩ := id hRA
  refine s_aload_n (i := 0) dX2_startBlock_0 rfl rfl ?_
  refine s_getI dX2_startBlock_1 fl_X2_24 (by assumption) (by assumption) ?_
  refine s_aload_n (i := 0) dX2_startBlock_4 rfl rfl ?_
  refine s_getR dX2_startBlock_5 fl_X2_20 (by assumption) (by assumption) (by assumption) ?_
  refine s_alen dX2_startBlock_8 (by assumption) (by omega) (rfl) ?_
  refine s_icmp_ge (tgt := 32) dX2_startBlock_9 (by decide) (fun h9 => absurd h9 (by rw [a7, hC.nb]; show ¬ zI 200 ≤ zI nb; rw [zI_le (by omega) (by omega) (by omega) (by omega)]; omega)) (fun h9 => ?_)
  refine s_aload_n (i := 0) dX2_startBlock_12 rfl rfl ?_
  refine s_getR dX2_startBlock_13 fl_X2_20 (by assumption) (by assumption) (by assumption) ?_
  refine s_aload_n (i := 0) dX2_startBlock_16 rfl rfl ?_
  refine s_getI dX2_startBlock_17 fl_X2_24 (by assumption) (by assumption) ?_
  refine s_iload_n (i := 1) dX2_startBlock_20 rfl rfl ?_
  refine s_iast dX2_startBlock_21 (by assumption) (by assumption) (by rw [a7, hC.nb]; exact z_in (by omega) (by omega) (by omega)) ?_
  refine s_aload_n (i := 0) dX2_startBlock_22 rfl rfl ?_
  refine s_dup dX2_startBlock_23 rfl ?_
  refine s_getI dX2_startBlock_24 fl_X2_24 (by assumption) (by assumption) ?_
  refine s_iconst (v := 1) dX2_startBlock_27 (by decide) ?_
  refine s_iadd dX2_startBlock_28 ?_
  refine s_putI dX2_startBlock_29 fp_X2_24 (by assumption) (by assumption) ?_
  refine s_ret dX2_startBlock_32 rfl ?_
  refine hq _ (fr_trans (fr_iu (by simp)) (fr_iu (by simp))) ⟨hA, hR.fr ?_ ?_, by omega, ?_, fun j hj => ?_⟩
  · rw [iu_ne (by omega), iu_ne (by omega)]
  · rw [iu_ne (by omega), iu_ne (by omega)]
  · rw [iu_at, iu_b (by omega), hC.nb, z1, zI_add, zI_t (by omega) (by omega)]
    omega
  · rw [iu_b (by omega), hC.nb, zI_n (by omega) (by omega)]
    try dsimp only
    by_cases h : j = nb
    · rw [if_pos h, h]
      simp only [Int.toNat_natCast, iu_at]
      exact zI_t (by omega) (by omega)
    · rw [if_neg h, iu_j (by simp; omega)]
      exact e3 j (by omega)
set_option maxRecDepth 100000 in
set_option maxHeartbeats 4000000 in
theorem l_move {G : fG} {x0 : Nat} {l : Launch} {d k n : Nat} {T : fT} {J : fJ} {Q : Option Value → fT → fI → fJ → Prop} {c m nb : Nat} {g : Nat → Int} {b : Int} {lc : Int32} (hb : -10 ≤ b ∧ b ≤ 10) : ∀ (z i : Nat) (I : fI) (s : Nat → Int), nb - i ≤ z → i ≤ 1000 → CutIs T I c g m s nb → (∀ j, i ≤ j → j < nb → -100000 ≤ s j ∧ s j ≤ 100000) →
    (∀ I', fr I I' [c + 3] → CutIs T I' c g m (fun j => if i ≤ j then s j + b else s j) nb → Q none T I' J) → PW G x0 l mX2_moveStarts d (ZM G x0 Q) k n 2 [(0, .ref (x0 + c)), (1, .int lc), (2, .int (zI b)), (3, .int (zI i))] [] T I J := by
  intro z
  induction z with
  | zero =>
    intro i I s hz hi hC hs hq
    obtain ⟨hA, hR, e1, e2, e3⟩ := id hC
    obtain ⟨a1, a2, a3, a4, a5, a6, a7, hRA⟩ := id hA
    obtain ⟨-, b1, b2, b3⟩ := id hR
    obtain ⟨r1, r2, r3, r4, r5, r6, r7⟩ := id hRA
    refine s_iload_n (i := 3) dX2_moveStarts_2 rfl rfl ?_
    refine s_aload_n (i := 0) dX2_moveStarts_3 rfl rfl ?_
    refine s_getI dX2_moveStarts_4 fl_X2_24 (by assumption) (by assumption) ?_
    refine s_icmp_ge (tgt := 26) dX2_moveStarts_7 (by decide) (fun h7 => ?_) (fun h7 => absurd (by rw [hC.nb, zI_le (by omega) (by omega) (by omega) (by omega)]; omega) h7)
    refine s_ret dX2_moveStarts_26 rfl ?_
    exact hq I (fr_refl I _) (hC.cong (fun _ _ => rfl) (fun j hj => by rw [if_neg (by omega)]))
  | succ z ih =>
    intro i I s hz hi hC hs hq
    obtain ⟨hA, hR, e1, e2, e3⟩ := id hC
    obtain ⟨a1, a2, a3, a4, a5, a6, a7, hRA⟩ := id hA
    obtain ⟨-, b1, b2, b3⟩ := id hR
    obtain ⟨r1, r2, r3, r4, r5, r6, r7⟩ := id hRA
    refine s_iload_n (i := 3) dX2_moveStarts_2 rfl rfl ?_
    refine s_aload_n (i := 0) dX2_moveStarts_3 rfl rfl ?_
    refine s_getI dX2_moveStarts_4 fl_X2_24 (by assumption) (by assumption) ?_
    refine s_icmp_ge (tgt := 26) dX2_moveStarts_7 (by decide) (fun h7 => ?_) (fun h7 => ?_)
    · refine s_ret dX2_moveStarts_26 rfl ?_
      rw [hC.nb, zI_le (by omega) (by omega) (by omega) (by omega)] at h7
      exact hq I (fr_refl I _) (hC.cong (fun _ _ => rfl) (fun j hj => by rw [if_neg (by omega)]))
    · rw [hC.nb, zI_le (by omega) (by omega) (by omega) (by omega)] at h7
      refine s_aload_n (i := 0) dX2_moveStarts_10 rfl rfl ?_
      refine s_getR dX2_moveStarts_11 fl_X2_20 (by assumption) (by assumption) (by assumption) ?_
      refine s_iload_n (i := 3) dX2_moveStarts_14 rfl rfl ?_
      refine s_dup2 dX2_moveStarts_15 rfl rfl ?_
      refine s_iald dX2_moveStarts_16 (by assumption) (by assumption) (by rw [a7]; exact z_in (by omega) (by omega) (by omega)) ?_
      refine s_iload_n (i := 2) dX2_moveStarts_17 rfl rfl ?_
      refine s_iadd dX2_moveStarts_18 ?_
      refine s_iast dX2_moveStarts_19 (by assumption) (by assumption) (by rw [a7]; exact z_in (by omega) (by omega) (by omega)) ?_
      refine s_iinc dX2_moveStarts_20 rfl (zI_inc _) (by decide) (by simp only [sl, sl2, rm, Value.category, reduceIte, Nat.reduceAdd, Nat.reduceEqDiff, reduceCtorEq]; rfl) ?_
      refine s_goto (tgt := 2) dX2_moveStarts_23 (by decide) ?_
      have hb1 := hs i (Nat.le_refl i) (by omega)
      refine ih (i + 1) _ (fun j => if j = i then s j + b else s j) (by omega) (by omega) ⟨hA, hR.fr ?_ ?_, e1, ?_, fun j hj => ?_⟩ (fun j hj0 hj => ?_) (fun I' hf hC2 => hq I' (fr_trans (fr_iu (by simp)) hf) (hC2.cong (fun _ _ => rfl) (fun j hj => ?_)))
      · rw [iu_ne (by omega)]
      · rw [iu_ne (by omega)]
      · rw [iu_b (by omega)]; exact e2
      · rw [zI_n (by omega) (by omega)]
        simp only [Int.toNat_natCast]
        by_cases h : j = i
        · rw [if_pos h, h, iu_at, hC.st (by omega), zI_add, zI_t (by omega) (by omega)]
        · rw [if_neg h, iu_j h]
          exact e3 j hj
      · have := hs j (by omega) hj
        try dsimp only
        rw [if_neg (by omega)]
        exact this
      · try dsimp only
        by_cases h : j = i
        · rw [if_pos (by omega), if_neg (by omega), if_pos h]
        · by_cases h2 : i ≤ j
          · rw [if_pos h2, if_pos (by omega), if_neg h]
          · rw [if_neg h2, if_neg (by omega), if_neg h]
set_option maxRecDepth 100000 in
set_option maxHeartbeats 4000000 in
theorem c_move {G : fG} {x0 : Nat} {l : Launch} {d k n : Nat} {T : fT} {I : fI} {J : fJ} {Q : Option Value → fT → fI → fJ → Prop} {c m nb f : Nat} {g s : Nat → Int} {b : Int} (hC : CutIs T I c g m s nb) (hb : -10 ≤ b ∧ b ≤ 10) (hf : f ≤ 1000) (hs : ∀ j, j < nb → -100000 ≤ s j ∧ s j ≤ 100000) (hq : ∀ I', fr I I' [c + 3] → CutIs T I' c g m (fun j => if f ≤ j then s j + b else s j) nb → Q none T I' J) : PW G x0 l mX2_moveStarts d (ZM G x0 Q) k n 0 [(0, .ref (x0 + c)), (1, .int (zI f)), (2, .int (zI b))] [] T I J := by
  refine s_iload_n (i := 1) dX2_moveStarts_0 rfl rfl ?_
  refine s_istore_n (i := 3) dX2_moveStarts_1 rfl (by decide) (by simp only [sl, sl2, rm, Value.category, reduceIte, Nat.reduceAdd, Nat.reduceEqDiff, reduceCtorEq]; rfl) ?_
  exact l_move hb nb f I s (by omega) hf hC (fun j _ hj => hs j hj) hq
