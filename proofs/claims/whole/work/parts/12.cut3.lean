def mvS (s : Nat → Int) (jj : Nat) (b : Int) : Nat → Int := fun i => if jj + 1 ≤ i then s i + b else s i
def insS (s : Nat → Int) (nb m jj : Nat) : (Nat → Int) × Nat := if stf (mvS s jj 1) nb (m + 1) (jj + 1) - stf (mvS s jj 1) nb (m + 1) jj ≤ 64 then (mvS s jj 1, nb) else (ins (mvS s jj 1) (jj + 1) (stf (mvS s jj 1) nb (m + 1) jj + 32), nb + 1)
def delS (s : Nat → Int) (nb m jj : Nat) : (Nat → Int) × Nat := if stf (mvS s jj (-1)) nb (m - 1) (jj + 1) = stf (mvS s jj (-1)) nb (m - 1) jj then (del (mvS s jj (-1)) jj, nb - 1) else (mvS s jj (-1), nb)
theorem stf_le {s : Nat → Int} {nb m : Nat} {z B : Int} (h : ∀ j, j < nb → 0 ≤ s j ∧ s j ≤ B) (hm : (m : Int) ≤ B) : 0 ≤ stf s nb m z ∧ stf s nb m z ≤ B := by
  unfold stf
  split
  · exact h _ (by omega)
  · omega
set_option maxRecDepth 100000 in
set_option maxHeartbeats 4000000 in
theorem l_ins22 {G : fG} {x0 : Nat} {l : Launch} {d k n : Nat} {T : fT} {I : fI} {J : fJ} {Q : Option Value → fT → fI → fJ → Prop} {c m nb jj : Nat} {g s : Nat → Int} {v : Int32} (hC : CutIs T I c g m s nb) (hs : ∀ j, j < nb → 0 ≤ s j ∧ s j ≤ m) (hg : Sorted g m) (hm : m < 200) (hj : jj < nb) (hn : nb < 200) (hq : ∀ (p : Nat) (I' : fI), FA g m v.toInt p → fr I I' [c, c + 1, c + 2, c + 3] → CutIs T I' c (ins g p v.toInt) (m + 1) (insS s nb m jj).1 (insS s nb m jj).2 → Q (some (.int (zI p))) T I' J) :
    PW G x0 l mX2_insert (d + 3) (ZM G x0 Q) k n 22 [(0, .ref (x0 + c)), (1, .int v), (2, .int (zI jj))] [] T I J := by
  obtain ⟨hA, hR, e1, e2, e3⟩ := id hC
  obtain ⟨a1, a2, a3, a4, a5, a6, a7, hRA⟩ := id hA
  obtain ⟨-, b1, b2, b3⟩ := id hR
  obtain ⟨r1, r2, r3, r4, r5, r6, r7⟩ := id hRA
  refine s_aload_n (i := 0) dX2_insert_22 rfl rfl ?_
  refine s_getR dX2_insert_23 fl_X2_14 (by assumption) (by assumption) (by assumption) ?_
  refine s_iload_n (i := 1) dX2_insert_26 rfl rfl ?_
  refine s_cV_I (My := mX9_insert) dX2_insert_27 wM_X2_60 cb_yX9_insert ci_yX9_insert (by assumption) (by assumption) (Nat.le_of_ble_eq_true rfl) (by decide) (c_rowIns hR hg hm (fun p I1 hp hf1 hR1 => ?_))
  have hC1 : CutIs T I1 c (ins g p v.toInt) (m + 1) s nb := ⟨hA, hR1, e1, by rw [hf1 c (by simp; omega)]; exact e2, fun j hj => by rw [hf1 (c + 3) (by simp)]; exact e3 j hj⟩
  have hp1 := hp.1
  refine s_istore_n (i := 3) dX2_insert_30 rfl (by decide) (by simp only [sl, sl2, rm, Value.category, reduceIte, Nat.reduceAdd, Nat.reduceEqDiff, reduceCtorEq]; rfl) ?_
  refine s_aload_n (i := 0) dX2_insert_31 rfl rfl ?_
  refine s_iload_n (i := 2) dX2_insert_32 rfl rfl ?_
  refine s_iconst (v := 1) dX2_insert_33 (by decide) ?_
  refine s_iadd dX2_insert_34 ?_
  refine s_topi (y := zI ((jj + 1 : Nat) : Int)) (by rw [z1, zI_add]; congr 1) ?_
  refine s_iconst (v := 1) dX2_insert_35 (by decide) ?_
  refine s_cV_II (My := mX2_moveStarts) dX2_insert_36 wM_X2_63 cb_yX2_moveStarts ci_yX2_moveStarts (by assumption) (by assumption) (Nat.le_of_ble_eq_true rfl) (by decide) (c_move (f := jj + 1) (b := 1) hC1 (by omega) (by omega) (fun j hj => by have := hs j hj; omega) (fun I2 hf2 hC2 => ?_))
  have hsm : ∀ j, j < nb → 0 ≤ mvS s jj 1 j ∧ mvS s jj 1 j ≤ ((m + 1 : Nat) : Int) := fun j hj => by
    have := hs j hj
    unfold mvS
    split <;> omega
  have q1 := stf_le (nb := nb) (m := m + 1) (z := (jj : Int) + 1) hsm (Int.le_refl _)
  have q2 := stf_le (nb := nb) (m := m + 1) (z := (jj : Int)) hsm (Int.le_refl _)
  have hf12 : fr I I2 [c, c + 1, c + 2, c + 3] := fr_trans (fr_sub hf1 (fun b hb => by simp at hb ⊢; omega)) (fr_sub hf2 (fun b hb => by simp at hb ⊢; omega))
  have hC2 : CutIs T I2 c (ins g p v.toInt) (m + 1) (mvS s jj 1) nb := hC2
  refine s_aload_n (i := 0) dX2_insert_39 rfl rfl ?_
  refine s_iload_n (i := 2) dX2_insert_40 rfl rfl ?_
  refine s_iconst (v := 1) dX2_insert_41 (by decide) ?_
  refine s_iadd dX2_insert_42 ?_
  refine s_topi (y := zI ((jj : Int) + 1)) (by rw [z1, zI_add]) ?_
  refine s_cV_I (My := mX2_startOf) dX2_insert_43 wM_X2_50 cb_yX2_startOf ci_yX2_startOf (by assumption) (by assumption) (Nat.le_of_ble_eq_true rfl) (by decide) (c_startOf hC2 (by omega) (by omega) ?_)
  refine s_aload_n (i := 0) dX2_insert_46 rfl rfl ?_
  refine s_iload_n (i := 2) dX2_insert_47 rfl rfl ?_
  refine s_cV_I (My := mX2_startOf) dX2_insert_48 wM_X2_50 cb_yX2_startOf ci_yX2_startOf (by assumption) (by assumption) (Nat.le_of_ble_eq_true rfl) (by decide) (c_startOf hC2 (by omega) (by omega) ?_)
  refine s_isub dX2_insert_51 ?_
  refine s_topi (y := zI (stf (mvS s jj 1) nb (m + 1) ((jj : Int) + 1) - stf (mvS s jj 1) nb (m + 1) jj)) (zI_sub _ _) ?_
  refine s_bipush (v := 64) dX2_insert_52 (by decide) ?_
  refine s_icmp_le (tgt := 70) dX2_insert_54 (by decide) (fun c54 => ?_) (fun c54 => ?_)
  · refine s_iload_n (i := 3) dX2_insert_70 rfl rfl ?_
    refine s_iret dX2_insert_71 rfl ?_
    have c54' : zI (stf (mvS s jj 1) nb (m + 1) ((jj : Int) + 1) - stf (mvS s jj 1) nb (m + 1) jj) ≤ zI 64 ↔ _ := zI_le (by omega) (by omega) (by omega) (by omega)
    first
    | (refine hq p _ hp hf12 ?_
       unfold insS
       rw [if_pos (c54'.mp c54)]
       exact hC2)
    | (refine hq p _ hp (fr_trans hf12 (fr_sub hf3 (fun b hb => by simp at hb ⊢; omega))) ?_
       unfold insS
       rw [if_neg (fun h => c54 (c54'.mpr h))]
       exact hC3)
  · refine s_aload_n (i := 0) dX2_insert_57 rfl rfl ?_
    refine s_iload_n (i := 2) dX2_insert_58 rfl rfl ?_
    refine s_aload_n (i := 0) dX2_insert_59 rfl rfl ?_
    refine s_iload_n (i := 2) dX2_insert_60 rfl rfl ?_
    refine s_cV_I (My := mX2_startOf) dX2_insert_61 wM_X2_50 cb_yX2_startOf ci_yX2_startOf (by assumption) (by assumption) (Nat.le_of_ble_eq_true rfl) (by decide) (c_startOf hC2 (by omega) (by omega) ?_)
    refine s_bipush (v := 32) dX2_insert_64 (by decide) ?_
    refine s_iadd dX2_insert_66 ?_
    refine s_topi (y := zI (stf (mvS s jj 1) nb (m + 1) jj + 32)) (by show zI _ + zI 32 = _; rw [zI_add]) ?_
    refine s_cV_II (My := mX2_split) dX2_insert_67 wM_X2_67 cb_yX2_split ci_yX2_split (by assumption) (by assumption) (Nat.le_of_ble_eq_true rfl) (by decide) (c_split hC2 hj hn (by omega) (fun I3 hf3 hC3 => ?_))
    refine s_iload_n (i := 3) dX2_insert_70 rfl rfl ?_
    refine s_iret dX2_insert_71 rfl ?_
    have c54' : zI (stf (mvS s jj 1) nb (m + 1) ((jj : Int) + 1) - stf (mvS s jj 1) nb (m + 1) jj) ≤ zI 64 ↔ _ := zI_le (by omega) (by omega) (by omega) (by omega)
    first
    | (refine hq p _ hp hf12 ?_
       unfold insS
       rw [if_pos (c54'.mp c54)]
       exact hC2)
    | (refine hq p _ hp (fr_trans hf12 (fr_sub hf3 (fun b hb => by simp at hb ⊢; omega))) ?_
       unfold insS
       rw [if_neg (fun h => c54 (c54'.mpr h))]
       exact hC3)
set_option maxRecDepth 100000 in
set_option maxHeartbeats 4000000 in
theorem c_cutIns {G : fG} {x0 : Nat} {l : Launch} {d k n : Nat} {T : fT} {I : fI} {J : fJ} {Q : Option Value → fT → fI → fJ → Prop} {c m nb : Nat} {g s : Nat → Int} {v : Int32} (hC : CutIs T I c g m s nb) (hs : StOk s nb m) (hs0 : s 0 = 0) (hg : Sorted g m) (hm : m < 200) (hn : nb < 200) (hq : ∀ (j : Int) (p : Nat) (I' : fI), LB g s nb v.toInt j → FA g m v.toInt p → fr I I' [c, c + 1, c + 2, c + 3] → CutIs T I' c (ins g p v.toInt) (m + 1) (insS s (if nb = 0 then 1 else nb) m j.toNat).1 (insS s (if nb = 0 then 1 else nb) m j.toNat).2 → Q (some (.int (zI p))) T I' J) :
    PW G x0 l mX2_insert (d + 3) (ZM G x0 Q) k n 0 [(0, .ref (x0 + c)), (1, .int v)] [] T I J := by
  obtain ⟨hA, hR, e1, e2, e3⟩ := id hC
  obtain ⟨a1, a2, a3, a4, a5, a6, a7, hRA⟩ := id hA
  obtain ⟨-, b1, b2, b3⟩ := id hR
  obtain ⟨r1, r2, r3, r4, r5, r6, r7⟩ := id hRA
  refine s_iconst (v := 0) dX2_insert_0 (by decide) ?_
  refine s_aload_n (i := 0) dX2_insert_1 rfl rfl ?_
  refine s_iload_n (i := 1) dX2_insert_2 rfl rfl ?_
  refine s_cV_I (My := mX2_lastBlockUpTo) dX2_insert_3 wM_X2_57 cb_yX2_lastBlockUpTo ci_yX2_lastBlockUpTo (by assumption) (by assumption) (Nat.le_of_ble_eq_true rfl) (by decide) (s_d (by omega) (c_lbu (d := 0) hC hs hg (fun j hj => ?_)))
  refine s_max dX2_insert_6 wM_X2_44 (Nat.le_of_ble_eq_true rfl) ?_
  have hj1 := hj.1
  have hj2 := hj.2.1
  refine s_topi (y := zI j.toNat) ?_ ?_
  · rw [z0]
    by_cases h : zI 0 < zI j
    · rw [if_pos h]
      rw [zI_lt (by omega) (by omega) (by omega) (by omega)] at h
      congr 1
      omega
    · rw [if_neg h]
      rw [zI_lt (by omega) (by omega) (by omega) (by omega)] at h
      congr 1
      omega
  refine s_istore_n (i := 2) dX2_insert_9 rfl (by decide) (by simp only [sl, sl2, rm, Value.category, reduceIte, Nat.reduceAdd, Nat.reduceEqDiff, reduceCtorEq]; rfl) ?_
  refine s_aload_n (i := 0) dX2_insert_10 rfl rfl ?_
  refine s_getI dX2_insert_11 fl_X2_24 (by assumption) (by assumption) ?_
  refine s_if_ne (tgt := 22) dX2_insert_14 (by decide) (fun h14 => ?_) (fun h14 => ?_)
  · first
    | (have hn0 : nb ≠ 0 := fun e => h14 (by rw [hC.nb, e]; rfl)
       refine l_ins22 hC (fun j hj => by have := hs.1 j hj; omega) hg hm (by omega) hn (fun p I' hp hf hC2 => hq j p I' hj hp hf ?_)
       rw [if_neg hn0]
       exact hC2)
    | (have hC1' : CutIs T I1 c g m s (nb + 1) := hC1.cong (fun _ _ => rfl) (fun q hq => by
          try dsimp only
          by_cases h : q = nb
          · rw [if_pos h, h, hn0, hs0]
          · omega)
       refine l_ins22 hC1' (fun j hj => by rw [show j = 0 by omega, hs0]; omega) hg hm (by omega) (by omega) (fun p I' hp hf hC2 => hq j p I' hj hp (fr_trans (fr_sub hf1 (fun b hb => by simp at hb ⊢; omega)) hf) ?_)
       rw [show (if nb = 0 then 1 else nb) = nb + 1 by rw [if_pos hn0]; omega]
       exact hC2)
  · have hn0 : nb = 0 := by rw [hC.nb, z0, zI_eq (by omega) (by omega) (by omega) (by omega)] at h14; omega
    refine s_aload_n (i := 0) dX2_insert_17 rfl rfl ?_
    refine s_iconst (v := 0) dX2_insert_18 (by decide) ?_
    refine s_cV_I (My := mX2_startBlock) dX2_insert_19 wM_X2_41 cb_yX2_startBlock ci_yX2_startBlock (by assumption) (by assumption) (Nat.le_of_ble_eq_true rfl) (by decide) (c_startBlock (z := 0) hC (by omega) hn (fun I1 hf1 hC1 => ?_))
    first
    | (have hn0 : nb ≠ 0 := fun e => h14 (by rw [hC.nb, e]; rfl)
       refine l_ins22 hC (fun j hj => by have := hs.1 j hj; omega) hg hm (by omega) hn (fun p I' hp hf hC2 => hq j p I' hj hp hf ?_)
       rw [if_neg hn0]
       exact hC2)
    | (have hC1' : CutIs T I1 c g m s (nb + 1) := hC1.cong (fun _ _ => rfl) (fun q hq => by
          try dsimp only
          by_cases h : q = nb
          · rw [if_pos h, h, hn0, hs0]
          · omega)
       refine l_ins22 hC1' (fun j hj => by rw [show j = 0 by omega, hs0]; omega) hg hm (by omega) (by omega) (fun p I' hp hf hC2 => hq j p I' hj hp (fr_trans (fr_sub hf1 (fun b hb => by simp at hb ⊢; omega)) hf) ?_)
       rw [show (if nb = 0 then 1 else nb) = nb + 1 by rw [if_pos hn0]; omega]
       exact hC2)
set_option maxRecDepth 100000 in
set_option maxHeartbeats 4000000 in
theorem c_cutDel {G : fG} {x0 : Nat} {l : Launch} {d k n : Nat} {T : fT} {I : fI} {J : fJ} {Q : Option Value → fT → fI → fJ → Prop} {c m nb q0 : Nat} {g s : Nat → Int} {v : Int32} (hC : CutIs T I c g m s nb) (hs : StOk s nb m) (hs0 : s 0 = 0) (hg : Sorted g m) (hn : 0 < nb) (hq0 : q0 < m) (hv : g q0 = v.toInt) (hq : ∀ (j : Nat) (I' : fI), LB g s nb v.toInt j → fr I I' [c, c + 1, c + 2, c + 3] → CutIs T I' c (del g q0) (m - 1) (delS s nb m j).1 (delS s nb m j).2 → Q (some (.int (zI q0))) T I' J) :
    PW G x0 l mX2_delete (d + 3) (ZM G x0 Q) k n 0 [(0, .ref (x0 + c)), (1, .int v)] [] T I J := by
  obtain ⟨hA, hR, e1, e2, e3⟩ := id hC
  obtain ⟨a1, a2, a3, a4, a5, a6, a7, hRA⟩ := id hA
  obtain ⟨-, b1, b2, b3⟩ := id hR
  obtain ⟨r1, r2, r3, r4, r5, r6, r7⟩ := id hRA
  refine s_aload_n (i := 0) dX2_delete_0 rfl rfl ?_
  refine s_iload_n (i := 1) dX2_delete_1 rfl rfl ?_
  refine s_cV_I (My := mX2_lastBlockUpTo) dX2_delete_2 wM_X2_57 cb_yX2_lastBlockUpTo ci_yX2_lastBlockUpTo (by assumption) (by assumption) (Nat.le_of_ble_eq_true rfl) (by decide) (s_d (by omega) (c_lbu (d := 0) hC hs hg (fun j hj => ?_)))
  have hj0 : 0 ≤ j := by
    rcases Int.lt_or_le j 0 with h | h
    · have h5 := hj.2.2.2 0 (by omega) hn
      have h6 : g (s 0).toNat ≤ g q0 := by
        rw [hs0]
        rcases Nat.eq_zero_or_pos q0 with h7 | h7
        · rw [h7]; exact Int.le_refl _
        · exact Int.le_of_lt (hg 0 q0 h7 hq0)
      omega
    · exact h
  have hj2 := hj.2.1
  obtain ⟨jj, rfl⟩ : ∃ jj : Nat, j = jj := ⟨j.toNat, by omega⟩
  refine s_istore_n (i := 2) dX2_delete_5 rfl (by decide) (by simp only [sl, sl2, rm, Value.category, reduceIte, Nat.reduceAdd, Nat.reduceEqDiff, reduceCtorEq]; rfl) ?_
  refine s_aload_n (i := 0) dX2_delete_6 rfl rfl ?_
  refine s_getR dX2_delete_7 fl_X2_14 (by assumption) (by assumption) (by assumption) ?_
  refine s_iload_n (i := 1) dX2_delete_10 rfl rfl ?_
  refine s_cV_I (My := mX9_delete) dX2_delete_11 wM_X2_70 cb_yX9_delete ci_yX9_delete (by assumption) (by assumption) (Nat.le_of_ble_eq_true rfl) (by decide) (c_rowDel hR hg hq0 hv (fun I1 hf1 hR1 => ?_))
  have hC1 : CutIs T I1 c (del g q0) (m - 1) s nb := ⟨hA, hR1, e1, by rw [hf1 c (by simp; omega)]; exact e2, fun j hj => by rw [hf1 (c + 3) (by simp)]; exact e3 j hj⟩
  refine s_istore_n (i := 3) dX2_delete_14 rfl (by decide) (by simp only [sl, sl2, rm, Value.category, reduceIte, Nat.reduceAdd, Nat.reduceEqDiff, reduceCtorEq]; rfl) ?_
  refine s_iload_n (i := 2) dX2_delete_15 rfl rfl ?_
  refine s_iconst (v := -1) dX2_delete_16 (by decide) ?_
  refine s_icmp_eq (tgt := 48) dX2_delete_17 (by decide) (fun h17 => absurd h17 (by rw [zm1, zI_eq (by omega) (by omega) (by omega) (by omega)]; omega)) (fun h17 => ?_)
  refine s_aload_n (i := 0) dX2_delete_20 rfl rfl ?_
  refine s_iload_n (i := 2) dX2_delete_21 rfl rfl ?_
  refine s_iconst (v := 1) dX2_delete_22 (by decide) ?_
  refine s_iadd dX2_delete_23 ?_
  refine s_topi (y := zI ((jj + 1 : Nat) : Int)) (by rw [z1, zI_add]; congr 1) ?_
  refine s_iconst (v := -1) dX2_delete_24 (by decide) ?_
  refine s_topi zm1 ?_
  refine s_cV_II (My := mX2_moveStarts) dX2_delete_25 wM_X2_63 cb_yX2_moveStarts ci_yX2_moveStarts (by assumption) (by assumption) (Nat.le_of_ble_eq_true rfl) (by decide) (c_move (f := jj + 1) (b := -1) hC1 (by omega) (by omega) (fun j hj => by have := hs.1 j hj; omega) (fun I2 hf2 hC2 => ?_))
  have hf12 : fr I I2 [c, c + 1, c + 2, c + 3] := fr_trans (fr_sub hf1 (fun b hb => by simp at hb ⊢; omega)) (fr_sub hf2 (fun b hb => by simp at hb ⊢; omega))
  have hC2 : CutIs T I2 c (del g q0) (m - 1) (mvS s jj (-1)) nb := hC2
  have hsm : ∀ j, j < nb → 0 ≤ mvS s jj (-1) j ∧ mvS s jj (-1) j ≤ (1000 : Int) := fun j hj => by
    have k1 := hs.1 j hj
    unfold mvS
    split
    · have k2 := hs.2 jj j (by omega) hj
      have k3 := hs.1 jj (by omega)
      omega
    · omega
  have q1 := stf_le (nb := nb) (m := m - 1) (z := (jj : Int) + 1) hsm (by omega)
  have q2 := stf_le (nb := nb) (m := m - 1) (z := (jj : Int)) hsm (by omega)
  refine s_aload_n (i := 0) dX2_delete_28 rfl rfl ?_
  refine s_iload_n (i := 2) dX2_delete_29 rfl rfl ?_
  refine s_iconst (v := 1) dX2_delete_30 (by decide) ?_
  refine s_iadd dX2_delete_31 ?_
  refine s_topi (y := zI ((jj : Int) + 1)) (by rw [z1, zI_add]) ?_
  refine s_cV_I (My := mX2_startOf) dX2_delete_32 wM_X2_50 cb_yX2_startOf ci_yX2_startOf (by assumption) (by assumption) (Nat.le_of_ble_eq_true rfl) (by decide) (c_startOf hC2 (by omega) (by omega) ?_)
  refine s_aload_n (i := 0) dX2_delete_35 rfl rfl ?_
  refine s_iload_n (i := 2) dX2_delete_36 rfl rfl ?_
  refine s_cV_I (My := mX2_startOf) dX2_delete_37 wM_X2_50 cb_yX2_startOf ci_yX2_startOf (by assumption) (by assumption) (Nat.le_of_ble_eq_true rfl) (by decide) (c_startOf hC2 (by omega) (by omega) ?_)
  refine s_icmp_ne (tgt := 48) dX2_delete_40 (by decide) (fun c40 => ?_) (fun c40 => ?_)
  · refine s_iload_n (i := 3) dX2_delete_48 rfl rfl ?_
    refine s_iret dX2_delete_49 rfl ?_
    have c40' : zI (stf (mvS s jj (-1)) nb (m - 1) ((jj : Int) + 1)) = zI (stf (mvS s jj (-1)) nb (m - 1) jj) ↔ _ := zI_eq (by omega) (by omega) (by omega) (by omega)
    first
    | (refine hq jj _ hj (fr_trans hf12 (fr_sub hf3 (fun b hb => by simp at hb ⊢; omega))) ?_
       unfold delS
       rw [if_pos (c40'.mp c40)]
       exact hC3)
    | (refine hq jj _ hj hf12 ?_
       unfold delS
       rw [if_neg (fun h => c40 (c40'.mpr h))]
       exact hC2)
  · refine s_aload_n (i := 0) dX2_delete_43 rfl rfl ?_
    refine s_iload_n (i := 2) dX2_delete_44 rfl rfl ?_
    refine s_cV_I (My := mX2_dropBlock) dX2_delete_45 wM_X2_73 cb_yX2_dropBlock ci_yX2_dropBlock (by assumption) (by assumption) (Nat.le_of_ble_eq_true rfl) (by decide) (c_drop hC2 (by omega) (fun I3 hf3 hC3 => ?_))
    refine s_iload_n (i := 3) dX2_delete_48 rfl rfl ?_
    refine s_iret dX2_delete_49 rfl ?_
    have c40' : zI (stf (mvS s jj (-1)) nb (m - 1) ((jj : Int) + 1)) = zI (stf (mvS s jj (-1)) nb (m - 1) jj) ↔ _ := zI_eq (by omega) (by omega) (by omega) (by omega)
    first
    | (refine hq jj _ hj (fr_trans hf12 (fr_sub hf3 (fun b hb => by simp at hb ⊢; omega))) ?_
       unfold delS
       rw [if_pos (c40'.mp c40)]
       exact hC3)
    | (refine hq jj _ hj hf12 ?_
       unfold delS
       rw [if_neg (fun h => c40 (c40'.mpr h))]
       exact hC2)
