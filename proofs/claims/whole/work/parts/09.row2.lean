theorem z0 : (0 : Int32) = zI 0 := rfl
theorem z1 : (1 : Int32) = zI 1 := rfl
theorem z2 : (2 : Int32) = zI 2 := rfl
theorem zm1 : (-1 : Int32) = zI (-1) := by decide
theorem nn_z {z : Int} (h0 : 0 ≤ z) (h1 : z < 2147483648) : ¬ zI z < 0 := by rw [t_lt0, zI_t (by omega) h1]; omega
theorem fr_l {I I' : fI} {S : List Nat} (h : fr I I' S) {b : Nat} (hb : b ∉ S) : I' b = I b := h b hb
theorem fr_refl (I : fI) (S : List Nat) : fr I I S := fun _ _ => rfl
theorem fr_trans {I I1 I2 : fI} {S : List Nat} (h : fr I I1 S) (h2 : fr I1 I2 S) : fr I I2 S := fun b hb => (h2 b hb).trans (h b hb)
theorem fr_sub {I I1 : fI} {S S2 : List Nat} (h : fr I I1 S) (hs : ∀ b, b ∈ S → b ∈ S2) : fr I I1 S2 := fun b hb => h b (fun q => hb (hs b q))
theorem fr_iu {I : fI} {a j : Nat} {v : Int32} {S : List Nat} (h : a ∈ S) : fr I (iu I a j v) S := fun b hb => iu_ne (fun e => hb (e ▸ h))
theorem fr_ia {I : fI} {a : Nat} {f : Nat → Int32} {S : List Nat} (h : a ∈ S) : fr I (ia I a f) S := fun b hb => ia_ne (fun e => hb (e ▸ h))
theorem iu_at {I : fI} {a j : Nat} {v : Int32} : iu I a j v a j = v := by simp [iu]
theorem iu_j {I : fI} {a j q : Nat} {v : Int32} (h : q ≠ j) : iu I a j v a q = I a q := by simp [iu, h]
theorem iu_b {I : fI} {a j b q : Nat} {v : Int32} (h : b ≠ a) : iu I a j v b q = I b q := by simp [iu, h]
theorem ia_b {I : fI} {a b q : Nat} {f : Nat → Int32} (h : b ≠ a) : ia I a f b q = I b q := by simp [ia, h]
theorem RowIs.sz {T : fT} {I : fI} {r cap m : Nat} {g : Nat → Int} (h : RowIs T I r cap g m) : I r 1 = zI m := t_zI h.2.2.1
theorem RowIs.el {T : fT} {I : fI} {r cap m : Nat} {g : Nat → Int} (h : RowIs T I r cap g m) {q : Nat} (hq : q < m) : I (r + 1) q = zI (g q) := t_zI (h.2.2.2 q hq)
theorem FA.at {g : Nat → Int} {m : Nat} {v : Int} {p q : Nat} (hs : Sorted g m) (h : FA g m v p) (hq : q < m) (e : g q = v) : p = q := by
  rcases Nat.lt_trichotomy p q with h3 | h3 | h3
  · have := h.2.2 p (Nat.le_refl _) (by omega)
    have := hs p q h3 hq
    omega
  · exact h3
  · have := h.2.1 q h3
    omega
set_option maxRecDepth 100000 in
set_option maxHeartbeats 4000000 in
theorem c_rowIns {G : fG} {x0 : Nat} {l : Launch} {d k n : Nat} {T : fT} {I : fI} {J : fJ} {Q : Option Value → fT → fI → fJ → Prop} {r cap m : Nat} {g : Nat → Int} {v : Int32} (hR : RowIs T I r cap g m) (hs : Sorted g m) (hm : m < cap) (hq : ∀ (p : Nat) (I' : fI), FA g m v.toInt p → fr I I' [r, r + 1] → RowIs T I' r cap (ins g p v.toInt) (m + 1) → Q (some (.int (zI p))) T I' J) : PW G x0 l mX9_insert (d + 2) (ZM G x0 Q) k n 0 [(0, .ref (x0 + r)), (1, .int v)] [] T I J := by
  obtain ⟨hA, b1, b2, b3⟩ := id hR
  obtain ⟨a1, a2, a3, a4, a5, a6, a7⟩ := id hA
  refine s_aload_n (i := 0) dX9_insert_0 rfl rfl ?_
  refine s_iload_n (i := 1) dX9_insert_1 rfl rfl ?_
  refine s_cV_I (My := mX9_firstAtLeast) dX9_insert_2 wM_X9_38 cb_yX9_firstAtLeast ci_yX9_firstAtLeast (by assumption) (by assumption) (Nat.le_of_ble_eq_true rfl) (by decide) (c_fal hR hs (fun p hp => ?_))
  refine s_istore_n (i := 2) dX9_insert_5 rfl (by decide) (by simp only [sl, sl2, rm, Value.category, reduceIte, Nat.reduceAdd, Nat.reduceEqDiff, reduceCtorEq]; rfl) ?_
  have hp1 := hp.1
  refine s_aload_n (i := 0) dX9_insert_6 rfl rfl ?_
  refine s_getI dX9_insert_7 fl_X9_21 (by assumption) (by assumption) ?_
  refine s_aload_n (i := 0) dX9_insert_10 rfl rfl ?_
  refine s_getR dX9_insert_11 fl_X9_15 (by assumption) (by assumption) (by assumption) ?_
  refine s_alen dX9_insert_14 (by assumption) (by omega) (rfl) ?_
  refine s_icmp_ge (tgt := 56) dX9_insert_15 (by decide) (fun h15 => absurd h15 (by rw [a6, hR.sz]; show ¬ zI cap ≤ zI m; rw [zI_le (by omega) (by omega) (by omega) (by omega)]; omega)) (fun h15 => ?_)
  refine s_aload_n (i := 0) dX9_insert_18 rfl rfl ?_
  refine s_getR dX9_insert_19 fl_X9_15 (by assumption) (by assumption) (by assumption) ?_
  refine s_iload_n (i := 2) dX9_insert_22 rfl rfl ?_
  refine s_aload_n (i := 0) dX9_insert_23 rfl rfl ?_
  refine s_getR dX9_insert_24 fl_X9_15 (by assumption) (by assumption) (by assumption) ?_
  refine s_iload_n (i := 2) dX9_insert_27 rfl rfl ?_
  refine s_iconst (v := 1) dX9_insert_28 (by decide) ?_
  refine s_iadd dX9_insert_29 ?_
  refine s_topi (y := zI (p + 1)) (by rw [z1, zI_add]) ?_
  refine s_aload_n (i := 0) dX9_insert_30 rfl rfl ?_
  refine s_getI dX9_insert_31 fl_X9_21 (by assumption) (by assumption) ?_
  refine s_iload_n (i := 2) dX9_insert_34 rfl rfl ?_
  refine s_isub dX9_insert_35 ?_
  refine s_topi (y := zI (m - p)) (by rw [hR.sz, zI_sub]) ?_
  refine s_copy dX9_insert_36 wM_X9_28 (by assumption) (by assumption) (by assumption) (by assumption) (nn_z (by omega) (by omega)) (nn_z (by omega) (by omega)) (nn_z (by omega) (by omega)) (by rw [zI_n (by omega) (by omega), zI_n (by omega) (by omega), a6]; omega) (by rw [zI_n (by omega) (by omega), zI_n (by omega) (by omega), a6]; omega) (Nat.le_of_ble_eq_true rfl) ?_
  refine s_aload_n (i := 0) dX9_insert_39 rfl rfl ?_
  refine s_getR dX9_insert_40 fl_X9_15 (by assumption) (by assumption) (by assumption) ?_
  refine s_iload_n (i := 2) dX9_insert_43 rfl rfl ?_
  refine s_iload_n (i := 1) dX9_insert_44 rfl rfl ?_
  refine s_iast dX9_insert_45 (by assumption) (by assumption) (by rw [a6]; exact z_in (by omega) (by omega) (by omega)) ?_
  refine s_aload_n (i := 0) dX9_insert_46 rfl rfl ?_
  refine s_dup dX9_insert_47 rfl ?_
  refine s_getI dX9_insert_48 fl_X9_21 (by assumption) (by assumption) ?_
  refine s_iconst (v := 1) dX9_insert_51 (by decide) ?_
  refine s_iadd dX9_insert_52 ?_
  refine s_putI dX9_insert_53 fp_X9_21 (by assumption) (by assumption) ?_
  refine s_iload_n (i := 2) dX9_insert_56 rfl rfl ?_
  refine s_iret dX9_insert_57 rfl ?_
  refine hq p _ hp (fr_trans (fr_trans (fr_ia (by simp)) (fr_iu (by simp))) (fr_iu (by simp))) ⟨hA, by omega, ?_, fun q hq => ?_⟩
  · rw [iu_at, iu_b (by omega), ia_b (by omega), hR.sz, z1, zI_add, zI_t (by omega) (by omega)]
    omega
  · rw [iu_b (by omega), zI_n (by omega) (by omega), zI_n (by omega) (by omega), zI_n (by omega) (by omega)]
    unfold ins
    rcases Nat.lt_trichotomy q p with h | h | h
    · rw [iu_j (by omega), ia_eq, if_pos h]
      unfold va_cpy
      rw [if_neg (by omega)]
      exact b3 q (by omega)
    · rw [if_neg (by omega), if_pos h, h]
      simp [iu]
    · rw [iu_j (by omega), ia_eq, if_neg (by omega), if_neg (by omega)]
      unfold va_cpy
      rw [if_pos (by omega), show ((p : Int).toNat + (q - ((p : Int) + 1).toNat)) = q - 1 by omega]
      exact b3 (q - 1) (by omega)
set_option maxRecDepth 100000 in
set_option maxHeartbeats 4000000 in
theorem c_rowDel {G : fG} {x0 : Nat} {l : Launch} {d k n : Nat} {T : fT} {I : fI} {J : fJ} {Q : Option Value → fT → fI → fJ → Prop} {r cap m : Nat} {g : Nat → Int} {v : Int32} (hR : RowIs T I r cap g m) (hs : Sorted g m) {q0 : Nat} (hq0 : q0 < m) (hv : g q0 = v.toInt) (hq : ∀ (I' : fI), fr I I' [r, r + 1] → RowIs T I' r cap (del g q0) (m - 1) → Q (some (.int (zI q0))) T I' J) : PW G x0 l mX9_delete (d + 2) (ZM G x0 Q) k n 0 [(0, .ref (x0 + r)), (1, .int v)] [] T I J := by
  obtain ⟨hA, b1, b2, b3⟩ := id hR
  obtain ⟨a1, a2, a3, a4, a5, a6, a7⟩ := id hA
  refine s_aload_n (i := 0) dX9_delete_0 rfl rfl ?_
  refine s_iload_n (i := 1) dX9_delete_1 rfl rfl ?_
  refine s_cV_I (My := mX9_firstAtLeast) dX9_delete_2 wM_X9_38 cb_yX9_firstAtLeast ci_yX9_firstAtLeast (by assumption) (by assumption) (Nat.le_of_ble_eq_true rfl) (by decide) (c_fal hR hs (fun p hp => ?_))
  have e : p = q0 := hp.at hs hq0 hv
  subst e
  refine s_istore_n (i := 2) dX9_delete_5 rfl (by decide) (by simp only [sl, sl2, rm, Value.category, reduceIte, Nat.reduceAdd, Nat.reduceEqDiff, reduceCtorEq]; rfl) ?_
  refine s_iload_n (i := 2) dX9_delete_6 rfl rfl ?_
  refine s_aload_n (i := 0) dX9_delete_7 rfl rfl ?_
  refine s_getI dX9_delete_8 fl_X9_21 (by assumption) (by assumption) ?_
  refine s_icmp_ge (tgt := 47) dX9_delete_11 (by decide) (fun h11 => absurd h11 (by rw [hR.sz]; rw [zI_le (by omega) (by omega) (by omega) (by omega)]; omega)) (fun h11 => ?_)
  refine s_aload_n (i := 0) dX9_delete_14 rfl rfl ?_
  refine s_getR dX9_delete_15 fl_X9_15 (by assumption) (by assumption) (by assumption) ?_
  refine s_iload_n (i := 2) dX9_delete_18 rfl rfl ?_
  refine s_iconst (v := 1) dX9_delete_19 (by decide) ?_
  refine s_iadd dX9_delete_20 ?_
  refine s_topi (y := zI (p + 1)) (by rw [z1, zI_add]) ?_
  refine s_aload_n (i := 0) dX9_delete_21 rfl rfl ?_
  refine s_getR dX9_delete_22 fl_X9_15 (by assumption) (by assumption) (by assumption) ?_
  refine s_iload_n (i := 2) dX9_delete_25 rfl rfl ?_
  refine s_aload_n (i := 0) dX9_delete_26 rfl rfl ?_
  refine s_getI dX9_delete_27 fl_X9_21 (by assumption) (by assumption) ?_
  refine s_iload_n (i := 2) dX9_delete_30 rfl rfl ?_
  refine s_isub dX9_delete_31 ?_
  refine s_iconst (v := 1) dX9_delete_32 (by decide) ?_
  refine s_isub dX9_delete_33 ?_
  refine s_topi (y := zI (m - p - 1)) (by rw [hR.sz, zI_sub, z1, zI_sub]) ?_
  refine s_copy dX9_delete_34 wM_X9_28 (by assumption) (by assumption) (by assumption) (by assumption) (nn_z (by omega) (by omega)) (nn_z (by omega) (by omega)) (nn_z (by omega) (by omega)) (by rw [zI_n (by omega) (by omega), zI_n (by omega) (by omega), a6]; omega) (by rw [zI_n (by omega) (by omega), zI_n (by omega) (by omega), a6]; omega) (Nat.le_of_ble_eq_true rfl) ?_
  refine s_aload_n (i := 0) dX9_delete_37 rfl rfl ?_
  refine s_dup dX9_delete_38 rfl ?_
  refine s_getI dX9_delete_39 fl_X9_21 (by assumption) (by assumption) ?_
  refine s_iconst (v := 1) dX9_delete_42 (by decide) ?_
  refine s_isub dX9_delete_43 ?_
  refine s_putI dX9_delete_44 fp_X9_21 (by assumption) (by assumption) ?_
  refine s_iload_n (i := 2) dX9_delete_47 rfl rfl ?_
  refine s_iret dX9_delete_48 rfl ?_
  refine hq _ (fr_trans (fr_ia (by simp)) (fr_iu (by simp))) ⟨hA, by omega, ?_, fun q hq => ?_⟩
  · rw [iu_at, ia_b (by omega), hR.sz, z1, zI_sub, zI_t (by omega) (by omega)]
    omega
  · rw [iu_b (by omega), ia_eq, zI_n (by omega) (by omega), zI_n (by omega) (by omega), zI_n (by omega) (by omega)]
    unfold del va_cpy
    by_cases h : q < p
    · rw [if_neg (by omega), if_pos h]
      exact b3 q (by omega)
    · rw [if_pos (by omega), if_neg h, show (((p : Int) + 1).toNat + (q - (p : Int).toNat)) = q + 1 by omega]
      exact b3 (q + 1) (by omega)
set_option maxRecDepth 100000 in
set_option maxHeartbeats 4000000 in
theorem c_gap {G : fG} {x0 : Nat} {l : Launch} {d k n : Nat} {T : fT} {I : fI} {J : fJ} {Q : Option Value → fT → fI → fJ → Prop} {r cap m : Nat} {g : Nat → Int} {z : Int} (hR : RowIs T I r cap g m) (h0 : -2147483648 ≤ z) (h1 : z < 2147483648) (hq : Q (some (.int (zI (gapz g m z)))) T I J) : PW G x0 l mX9_gapBefore d (ZM G x0 Q) k n 0 [(0, .ref (x0 + r)), (1, .int (zI z))] [] T I J := by
  obtain ⟨hA, b1, b2, b3⟩ := id hR
  obtain ⟨a1, a2, a3, a4, a5, a6, a7⟩ := id hA
  refine s_iload_n (i := 1) dX9_gapBefore_0 rfl rfl ?_
  refine s_iconst (v := 1) dX9_gapBefore_1 (by decide) ?_
  refine s_icmp_lt (tgt := 33) dX9_gapBefore_2 (by decide) (fun h2 => ?_) (fun h2 => ?_)
  · refine s_iconst (v := 0) dX9_gapBefore_33 (by decide) ?_
    refine s_iret dX9_gapBefore_34 rfl ?_
    have e : gapz g m z = 0 := by
      unfold gapz
      first
      | (rw [z1, zI_lt (by omega) (by omega) (by omega) (by omega)] at h2
         rw [if_neg (by omega)])
      | (rw [hR.sz, zI_le (by omega) (by omega) (by omega) (by omega)] at h10
         rw [if_neg (by omega)])
    rw [e] at hq
    exact hq
  · rw [z1, zI_lt (by omega) (by omega) (by omega) (by omega)] at h2
    refine s_iload_n (i := 1) dX9_gapBefore_5 rfl rfl ?_
    refine s_aload_n (i := 0) dX9_gapBefore_6 rfl rfl ?_
    refine s_getI dX9_gapBefore_7 fl_X9_21 (by assumption) (by assumption) ?_
    refine s_icmp_ge (tgt := 33) dX9_gapBefore_10 (by decide) (fun h10 => ?_) (fun h10 => ?_)
    · refine s_iconst (v := 0) dX9_gapBefore_33 (by decide) ?_
      refine s_iret dX9_gapBefore_34 rfl ?_
      have e : gapz g m z = 0 := by
        unfold gapz
        first
        | (rw [z1, zI_lt (by omega) (by omega) (by omega) (by omega)] at h2
           rw [if_neg (by omega)])
        | (rw [hR.sz, zI_le (by omega) (by omega) (by omega) (by omega)] at h10
           rw [if_neg (by omega)])
      rw [e] at hq
      exact hq
    · rw [hR.sz, zI_le (by omega) (by omega) (by omega) (by omega)] at h10
      refine s_aload_n (i := 0) dX9_gapBefore_13 rfl rfl ?_
      refine s_getR dX9_gapBefore_14 fl_X9_15 (by assumption) (by assumption) (by assumption) ?_
      refine s_iload_n (i := 1) dX9_gapBefore_17 rfl rfl ?_
      refine s_iald dX9_gapBefore_18 (by assumption) (by assumption) (by rw [a6]; exact z_in (by omega) (by omega) (by omega)) ?_
      refine s_aload_n (i := 0) dX9_gapBefore_19 rfl rfl ?_
      refine s_getR dX9_gapBefore_20 fl_X9_15 (by assumption) (by assumption) (by assumption) ?_
      refine s_iload_n (i := 1) dX9_gapBefore_23 rfl rfl ?_
      refine s_iconst (v := 1) dX9_gapBefore_24 (by decide) ?_
      refine s_isub dX9_gapBefore_25 ?_
      refine s_topi (y := zI (z - 1)) (by rw [z1, zI_sub]) ?_
      refine s_iald dX9_gapBefore_26 (by assumption) (by assumption) (by rw [a6]; exact z_in (by omega) (by omega) (by omega)) ?_
      refine s_isub dX9_gapBefore_27 ?_
      refine s_iconst (v := 1) dX9_gapBefore_28 (by decide) ?_
      refine s_isub dX9_gapBefore_29 ?_
      refine s_goto (tgt := 34) dX9_gapBefore_30 (by decide) ?_
      refine s_iret dX9_gapBefore_34 rfl ?_
      have e : gapz g m z = g z.toNat - g (z.toNat - 1) - 1 := by
        unfold gapz
        rw [if_pos (by omega)]
      rw [e] at hq
      rw [zI_n (by omega) (by omega), zI_n (by omega) (by omega), hR.el (by omega), hR.el (by omega), zI_sub, z1, zI_sub, show (z - 1).toNat = z.toNat - 1 by omega]
      exact hq
