set_option maxRecDepth 100000 in
set_option maxHeartbeats 4000000 in
theorem c_look {G : fG} {x0 : Nat} {l : Launch} {d k n : Nat} {T : fT} {I : fI} {J : fJ} {Q : Option Value → fT → fI → fJ → Prop} {C : List (Int × Int)} {h ms : Nat} {x y : Int32} (hC : CacheIs T I C h ms) (hh : h < 100000 ∧ ms < 100000) (hy : ∀ (p : Nat) (I' : fI), C[p]? = some (x.toInt, y.toInt) → fr I I' [37, 38, 39] → CacheIs T I' ((x.toInt, y.toInt) :: C.eraseIdx p) (h + 1) ms → Q none T I' J) (hn2 : ∀ I', (x.toInt, y.toInt) ∉ C → fr I I' [37, 38, 39] → CacheIs T I' (((x.toInt, y.toInt) :: C).take 4) h (ms + 1) → Q none T I' J) : PW G x0 l mX1_look (d + 1) (ZM G x0 Q) k n 0 [(0, .ref (x0 + 37)), (1, .int x), (2, .int y)] [] T I J := by
  obtain ⟨hA, c1, c2, c3, c4, c5⟩ := id hC
  obtain ⟨a1, a2, a3, a4, a5, a6, a7, a8⟩ := id hA
  have e37 : (37 : Nat) < T.1 := by omega
  have e38 : (38 : Nat) < T.1 := by omega
  have e39 : (39 : Nat) < T.1 := by omega
  refine s_aload_n (i := 0) dX1_look_0 rfl rfl ?_
  refine s_iload_n (i := 1) dX1_look_1 rfl rfl ?_
  refine s_iload_n (i := 2) dX1_look_2 rfl rfl ?_
  refine s_cV_II (My := mX1_placeOf) dX1_look_3 wM_X1_22 cb_yX1_placeOf ci_yX1_placeOf (by assumption) (by assumption) (Nat.le_of_ble_eq_true rfl) (by decide) (c_place hC (fun p hp => ?_) (fun hn => ?_))
  · refine s_istore_n (i := 3) dX1_look_6 rfl (by decide) (by simp only [sl, sl2, rm, Value.category, reduceIte, Nat.reduceAdd, Nat.reduceEqDiff, reduceCtorEq]; rfl) ?_
    have hpl := (List.getElem?_eq_some_iff.mp hp).1
    refine s_iload_n (i := 3) dX1_look_7 rfl rfl ?_
    refine s_iconst (v := -1) dX1_look_8 (by decide) ?_
    refine s_icmp_eq (tgt := 25) dX1_look_9 (by decide) (fun h9 => absurd h9 (by rw [zm1, zI_eq (by omega) (by omega) (by omega) (by omega)]; omega)) (fun h9 => ?_)
    refine s_aload_n (i := 0) dX1_look_12 rfl rfl ?_
    refine s_dup dX1_look_13 rfl ?_
    refine s_getI dX1_look_14 fl_X1_26 (by assumption) (by assumption) ?_
    refine s_iconst (v := 1) dX1_look_17 (by decide) ?_
    refine s_iadd dX1_look_18 ?_
    refine s_putI dX1_look_19 fp_X1_26 (by assumption) (by assumption) ?_
    refine s_goto (tgt := 56) dX1_look_22 (by decide) ?_
    refine l_look56 (f1 := fun q => (I 38 q).toInt) (f2 := fun q => (I 39 q).toInt) hA (by omega) (fun q _ => by rw [iu_b (by omega)]) (fun q _ => by rw [iu_b (by omega)]) (fun I' hf h1 h2 => ?_)
    have g37 : I' 37 = iu I 37 3 (I 37 3 + 1) 37 := hf 37 (by simp)
    refine hy p I' hp (fr_trans (fr_iu (by simp)) (fr_sub hf (fun b hb => by simp at hb ⊢; omega))) ⟨hA, ?_, ?_, ?_, ?_, ?_⟩
    · rw [List.length_cons, List.length_eraseIdx_of_lt hpl]; omega
    · rw [g37, iu_j (by omega), c2, List.length_cons, List.length_eraseIdx_of_lt hpl]; omega
    · rw [g37, iu_at, t_zI c3, z1, zI_add, zI_t (by omega) (by omega)]; omega
    · rw [g37, iu_j (by omega)]; exact c4
    · intro q e he
      have hq4 : q < 4 := by
        have := (List.getElem?_eq_some_iff.mp he).1
        rw [List.length_cons, List.length_eraseIdx_of_lt hpl] at this
        omega
      rw [h1 q hq4, h2 q hq4]
      cases q with
      | zero =>
        simp at he
        subst he
        exact ⟨rfl, rfl⟩
      | succ q =>
        rw [List.getElem?_cons_succ, List.getElem?_eraseIdx] at he
        rw [if_neg (show ¬ q + 1 = 0 by omega), if_neg (show ¬ q + 1 = 0 by omega), Nat.add_sub_cancel]
        by_cases hqp : q < p
        · rw [if_pos hqp] at he
          rw [if_pos (show q + 1 ≤ p by omega), if_pos (show q + 1 ≤ p by omega)]
          exact c5 q e he
        · rw [if_neg hqp] at he
          rw [if_neg (show ¬ q + 1 ≤ p by omega), if_neg (show ¬ q + 1 ≤ p by omega)]
          exact c5 (q + 1) e he
  · refine s_istore_n (i := 3) dX1_look_6 rfl (by decide) (by simp only [sl, sl2, rm, Value.category, reduceIte, Nat.reduceAdd, Nat.reduceEqDiff, reduceCtorEq]; rfl) ?_
    refine s_iload_n (i := 3) dX1_look_7 rfl rfl ?_
    refine s_iconst (v := -1) dX1_look_8 (by decide) ?_
    refine s_icmp_eq (tgt := 25) dX1_look_9 (by decide) (fun h9 => ?_) (fun h9 => absurd (rfl) h9)
    refine s_aload_n (i := 0) dX1_look_25 rfl rfl ?_
    refine s_dup dX1_look_26 rfl ?_
    refine s_getI dX1_look_27 fl_X1_29 (by assumption) (by assumption) ?_
    refine s_iconst (v := 1) dX1_look_30 (by decide) ?_
    refine s_iadd dX1_look_31 ?_
    refine s_putI dX1_look_32 fp_X1_29 (by assumption) (by assumption) ?_
    refine s_aload_n (i := 0) dX1_look_35 rfl rfl ?_
    refine s_aload_n (i := 0) dX1_look_36 rfl rfl ?_
    refine s_getI dX1_look_37 fl_X1_18 (by assumption) (by assumption) ?_
    refine s_iconst (v := 1) dX1_look_40 (by decide) ?_
    refine s_iadd dX1_look_41 ?_
    refine s_iconst (v := 4) dX1_look_42 (by decide) ?_
    refine s_min dX1_look_43 wM_X1_32 (Nat.le_of_ble_eq_true rfl) ?_
    refine s_topi (y := zI ((((x.toInt, y.toInt) :: C).take 4).length : Int)) ?_ ?_
    · rw [iu_j (by omega), t_zI c2, z1, zI_add]
      show (if zI _ > zI 4 then zI 4 else zI _) = _
      rw [List.length_take, List.length_cons]
      by_cases hc : zI ((C.length : Int) + 1) > zI 4
      · rw [if_pos hc]
        rw [gt_iff_lt, zI_lt (by omega) (by omega) (by omega) (by omega)] at hc
        congr 1
        omega
      · rw [if_neg hc]
        rw [gt_iff_lt, zI_lt (by omega) (by omega) (by omega) (by omega)] at hc
        congr 1
        omega
    have hln : (((x.toInt, y.toInt) :: C).take 4).length = min 4 (C.length + 1) := by rw [List.length_take, List.length_cons]
    refine s_putI dX1_look_46 fp_X1_18 (by assumption) (by assumption) ?_
    refine s_aload_n (i := 0) dX1_look_49 rfl rfl ?_
    refine s_getI dX1_look_50 fl_X1_18 (by assumption) (by assumption) ?_
    refine s_iconst (v := 1) dX1_look_53 (by decide) ?_
    refine s_isub dX1_look_54 ?_
    refine s_topi (y := zI (((min 4 (C.length + 1) - 1 : Nat) : Int))) (by rw [iu_at, hln, z1, zI_sub]; congr 1; omega) ?_
    refine s_istore_n (i := 3) dX1_look_55 rfl (by decide) (by simp only [sl, sl2, rm, Value.category, reduceIte, Nat.reduceAdd, Nat.reduceEqDiff, reduceCtorEq]; rfl) ?_
    refine l_look56 (f1 := fun q => (I 38 q).toInt) (f2 := fun q => (I 39 q).toInt) hA (by omega) (fun q _ => by rw [iu_b (by omega), iu_b (by omega)]) (fun q _ => by rw [iu_b (by omega), iu_b (by omega)]) (fun I' hf h1 h2 => ?_)
    have g37 := hf 37 (by simp)
    refine hn2 I' hn (fr_trans (fr_trans (fr_iu (by simp)) (fr_iu (by simp))) (fr_sub hf (fun b hb => by simp at hb ⊢; omega))) ⟨hA, ?_, ?_, ?_, ?_, ?_⟩
    · rw [hln]; omega
    · rw [g37, iu_at]; exact zI_t (by omega) (by omega)
    · rw [g37, iu_j (by omega), iu_j (by omega)]; exact c3
    · rw [g37, iu_j (by omega), iu_at, t_zI c4, z1, zI_add, zI_t (by omega) (by omega)]; omega
    · intro q e he
      have hq4 : q < min 4 (C.length + 1) := by
        have := (List.getElem?_eq_some_iff.mp he).1
        rw [hln] at this
        exact this
      rw [List.getElem?_take_of_lt (by omega)] at he
      rw [h1 q (by omega), h2 q (by omega)]
      cases q with
      | zero =>
        simp at he
        subst he
        exact ⟨rfl, rfl⟩
      | succ q =>
        rw [List.getElem?_cons_succ] at he
        rw [if_neg (show ¬ q + 1 = 0 by omega), if_neg (show ¬ q + 1 = 0 by omega), Nat.add_sub_cancel, if_pos (show q + 1 ≤ min 4 (C.length + 1) - 1 by omega), if_pos (show q + 1 ≤ min 4 (C.length + 1) - 1 by omega)]
        exact c5 q e he
set_option maxRecDepth 100000 in
set_option maxHeartbeats 4000000 in
theorem l_forget {G : fG} {x0 : Nat} {l : Launch} {d k n : Nat} {T : fT} {J : fJ} {Q : Option Value → fT → fI → fJ → Prop} {h ms : Nat} {x : Int32} {C : List (Int × Int)} (hA : CacheAt T) (hC4 : C.length ≤ 4) : ∀ (z i : Nat) (F : List (Int × Int)) (I : fI), C.length - i ≤ z → i ≤ C.length → F = (C.take i).filter (fun e => decide (e.1 ≠ x.toInt)) → (I 37 2).toInt = C.length → (I 37 3).toInt = h → (I 37 4).toInt = ms → (∀ q e, F[q]? = some e → (I 38 q).toInt = e.1 ∧ (I 39 q).toInt = e.2) → (∀ q e, i ≤ q → C[q]? = some e → (I 38 q).toInt = e.1 ∧ (I 39 q).toInt = e.2) → (hq : ∀ I', fr I I' [37, 38, 39] → CacheIs T I' (C.filter (fun e => decide (e.1 ≠ x.toInt))) h ms → Q none T I' J) →
    PW G x0 l mX1_forget d (ZM G x0 Q) k n 4 [(0, .ref (x0 + 37)), (1, .int x), (2, .int (zI F.length)), (3, .int (zI i))] [] T I J := by
  obtain ⟨a1, a2, a3, a4, a5, a6, a7, a8⟩ := id hA
  have e37 : (37 : Nat) < T.1 := by omega
  have e38 : (38 : Nat) < T.1 := by omega
  have e39 : (39 : Nat) < T.1 := by omega
  intro z
  induction z with
  | zero =>
    intro i F I hz hi hF c2 c3 c4 hf1 hf2 hq
    have hFl : F.length ≤ i := by rw [hF]; exact Nat.le_trans (List.length_filter_le _ _) (by rw [List.length_take]; omega)
    refine s_iload_n (i := 3) dX1_forget_4 rfl rfl ?_
    refine s_aload_n (i := 0) dX1_forget_5 rfl rfl ?_
    refine s_getI dX1_forget_6 fl_X1_18 (by assumption) (by assumption) ?_
    refine s_icmp_ge (tgt := 55) dX1_forget_9 (by decide) (fun h9 => ?_) (fun h9 => absurd (by rw [t_zI c2, zI_le (by omega) (by omega) (by omega) (by omega)]; omega) h9)
    refine s_aload_n (i := 0) dX1_forget_55 rfl rfl ?_
    refine s_iload_n (i := 2) dX1_forget_56 rfl rfl ?_
    refine s_putI dX1_forget_57 fp_X1_18 (by assumption) (by assumption) ?_
    refine s_ret dX1_forget_60 rfl ?_
    have hFC : F = C.filter (fun e => decide (e.1 ≠ x.toInt)) := by rw [hF, List.take_of_length_le (by omega)]
    rw [← hFC] at hq
    exact hq _ (fr_iu (by simp)) ⟨hA, by omega, by rw [iu_at]; exact zI_t (by omega) (by omega), by rw [iu_j (by omega)]; exact c3, by rw [iu_j (by omega)]; exact c4, fun q e he => by rw [iu_b (by omega), iu_b (by omega)]; exact hf1 q e he⟩
  | succ z ih =>
    intro i F I hz hi hF c2 c3 c4 hf1 hf2 hq
    have hFl : F.length ≤ i := by rw [hF]; exact Nat.le_trans (List.length_filter_le _ _) (by rw [List.length_take]; omega)
    refine s_iload_n (i := 3) dX1_forget_4 rfl rfl ?_
    refine s_aload_n (i := 0) dX1_forget_5 rfl rfl ?_
    refine s_getI dX1_forget_6 fl_X1_18 (by assumption) (by assumption) ?_
    refine s_icmp_ge (tgt := 55) dX1_forget_9 (by decide) (fun c9 => ?_) (fun c9 => ?_)
    · refine s_aload_n (i := 0) dX1_forget_55 rfl rfl ?_
      refine s_iload_n (i := 2) dX1_forget_56 rfl rfl ?_
      refine s_putI dX1_forget_57 fp_X1_18 (by assumption) (by assumption) ?_
      refine s_ret dX1_forget_60 rfl ?_
      rw [t_zI c2, zI_le (by omega) (by omega) (by omega) (by omega)] at c9
      have hFC : F = C.filter (fun e => decide (e.1 ≠ x.toInt)) := by rw [hF, List.take_of_length_le (by omega)]
      rw [← hFC] at hq
      exact hq _ (fr_iu (by simp)) ⟨hA, by omega, by rw [iu_at]; exact zI_t (by omega) (by omega), by rw [iu_j (by omega)]; exact c3, by rw [iu_j (by omega)]; exact c4, fun q e he => by rw [iu_b (by omega), iu_b (by omega)]; exact hf1 q e he⟩
    · rw [t_zI c2, zI_le (by omega) (by omega) (by omega) (by omega)] at c9
      have hni : (zI i).toNatClampNeg = i := by rw [zI_n (by omega) (by omega)]; simp
      have hnF : (zI F.length).toNatClampNeg = F.length := by rw [zI_n (by omega) (by omega)]; simp
      obtain ⟨e, he⟩ : ∃ e, C[i]? = some e := ⟨C[i]'(by omega), List.getElem?_eq_getElem (by omega)⟩
      obtain ⟨w1, w2⟩ := hf2 i e (Nat.le_refl i) he
      have htk : C.take (i + 1) = C.take i ++ [e] := by rw [List.take_add_one, he]; rfl
      refine s_aload_n (i := 0) dX1_forget_12 rfl rfl ?_
      refine s_getR dX1_forget_13 fl_X1_9 (by assumption) (by assumption) (by assumption) ?_
      refine s_iload_n (i := 3) dX1_forget_16 rfl rfl ?_
      refine s_iald dX1_forget_17 (by assumption) (by assumption) (by rw [a6]; exact z_in (by omega) (by omega) (by omega)) ?_
      refine s_iload_n (i := 1) dX1_forget_18 rfl rfl ?_
      refine s_topi rfl ?_
      refine s_icmp_eq (tgt := 49) dX1_forget_19 (by decide) (fun c19 => ?_) (fun c19 => ?_)
      · refine s_iinc dX1_forget_49 rfl (zI_inc _) (by decide) (by simp only [sl, sl2, rm, Value.category, reduceIte, Nat.reduceAdd, Nat.reduceEqDiff, reduceCtorEq]; rfl) ?_
        refine s_goto (tgt := 4) dX1_forget_52 (by decide) ?_
        first
        | (have hx : e.1 = x.toInt := by rw [← w1, ← c19, hni]
           refine ih (i + 1) F I (by omega) (by omega) ?_ c2 c3 c4 hf1 (fun q e h1 h2 => hf2 q e (by omega) h2) hq
           rw [htk, List.filter_append, hF]
           simp [hx])
        | (have hx : ¬ e.1 = x.toInt := fun h => c19 (by rw [hni]; exact Int32.toInt_inj.mp (by rw [w1, h]))
           have hFs : F ++ [e] = (C.take (i + 1)).filter (fun e => decide (e.1 ≠ x.toInt)) := by
             rw [htk, List.filter_append, hF]
             simp [hx]
           have hlen : ((F ++ [e]).length : Int) = (F.length : Int) + 1 := by simp
           rw [hni, hnF]
           refine s_lv (lv' := [(0, .ref (x0 + 37)), (1, .int x), (2, .int (zI ((F ++ [e]).length : Int))), (3, .int (zI ((i + 1 : Nat) : Int)))]) ⟨rfl, rfl, by rw [hlen]; rfl, rfl, trivial⟩ ?_
           refine ih (i + 1) (F ++ [e]) _ (by omega) (by omega) hFs (by rw [iu_b (by omega), iu_b (by omega)]; exact c2) (by rw [iu_b (by omega), iu_b (by omega)]; exact c3) (by rw [iu_b (by omega), iu_b (by omega)]; exact c4) (fun q e2 h2 => ?_) (fun q e2 h1 h2 => ?_) (fun I' hf hC2 => hq I' (fr_trans (fr_trans (fr_iu (by simp)) (fr_iu (by simp))) hf) hC2)
           · rw [iu_b (by omega)]
             by_cases hqF : q < F.length
             · rw [List.getElem?_append_left hqF] at h2
               rw [iu_j (by omega), iu_j (by omega), iu_b (by omega)]
               exact hf1 q e2 h2
             · have hq1 := (List.getElem?_eq_some_iff.mp h2).1
               rw [List.length_append, List.length_singleton] at hq1
               have hqe : q = F.length := by omega
               subst hqe
               simp at h2
               subst h2
               rw [iu_at, iu_at, iu_b (by omega)]
               exact ⟨w1, w2⟩
           · rw [iu_b (by omega), iu_j (by omega), iu_j (by omega), iu_b (by omega)]
             exact hf2 q e2 (by omega) h2)
      · refine s_aload_n (i := 0) dX1_forget_22 rfl rfl ?_
        refine s_getR dX1_forget_23 fl_X1_9 (by assumption) (by assumption) (by assumption) ?_
        refine s_iload_n (i := 2) dX1_forget_26 rfl rfl ?_
        refine s_aload_n (i := 0) dX1_forget_27 rfl rfl ?_
        refine s_getR dX1_forget_28 fl_X1_9 (by assumption) (by assumption) (by assumption) ?_
        refine s_iload_n (i := 3) dX1_forget_31 rfl rfl ?_
        refine s_iald dX1_forget_32 (by assumption) (by assumption) (by rw [a6]; exact z_in (by omega) (by omega) (by omega)) ?_
        refine s_iast dX1_forget_33 (by assumption) (by assumption) (by rw [a6]; exact z_in (by omega) (by omega) (by omega)) ?_
        refine s_aload_n (i := 0) dX1_forget_34 rfl rfl ?_
        refine s_getR dX1_forget_35 fl_X1_15 (by assumption) (by assumption) (by assumption) ?_
        refine s_iload_n (i := 2) dX1_forget_38 rfl rfl ?_
        refine s_aload_n (i := 0) dX1_forget_39 rfl rfl ?_
        refine s_getR dX1_forget_40 fl_X1_15 (by assumption) (by assumption) (by assumption) ?_
        refine s_iload_n (i := 3) dX1_forget_43 rfl rfl ?_
        refine s_iald dX1_forget_44 (by assumption) (by assumption) (by rw [a8]; exact z_in (by omega) (by omega) (by omega)) ?_
        refine s_iast dX1_forget_45 (by assumption) (by assumption) (by rw [a8]; exact z_in (by omega) (by omega) (by omega)) ?_
        refine s_iinc dX1_forget_46 rfl (zI_inc _) (by decide) (by simp only [sl, sl2, rm, Value.category, reduceIte, Nat.reduceAdd, Nat.reduceEqDiff, reduceCtorEq]; rfl) ?_
        refine s_iinc dX1_forget_49 rfl (zI_inc _) (by decide) (by simp only [sl, sl2, rm, Value.category, reduceIte, Nat.reduceAdd, Nat.reduceEqDiff, reduceCtorEq]; rfl) ?_
        refine s_goto (tgt := 4) dX1_forget_52 (by decide) ?_
        first
        | (have hx : e.1 = x.toInt := by rw [← w1, ← c19, hni]
           refine ih (i + 1) F I (by omega) (by omega) ?_ c2 c3 c4 hf1 (fun q e h1 h2 => hf2 q e (by omega) h2) hq
           rw [htk, List.filter_append, hF]
           simp [hx])
        | (have hx : ¬ e.1 = x.toInt := fun h => c19 (by rw [hni]; exact Int32.toInt_inj.mp (by rw [w1, h]))
           have hFs : F ++ [e] = (C.take (i + 1)).filter (fun e => decide (e.1 ≠ x.toInt)) := by
             rw [htk, List.filter_append, hF]
             simp [hx]
           have hlen : ((F ++ [e]).length : Int) = (F.length : Int) + 1 := by simp
           rw [hni, hnF]
           refine s_lv (lv' := [(0, .ref (x0 + 37)), (1, .int x), (2, .int (zI ((F ++ [e]).length : Int))), (3, .int (zI ((i + 1 : Nat) : Int)))]) ⟨rfl, rfl, by rw [hlen]; rfl, rfl, trivial⟩ ?_
           refine ih (i + 1) (F ++ [e]) _ (by omega) (by omega) hFs (by rw [iu_b (by omega), iu_b (by omega)]; exact c2) (by rw [iu_b (by omega), iu_b (by omega)]; exact c3) (by rw [iu_b (by omega), iu_b (by omega)]; exact c4) (fun q e2 h2 => ?_) (fun q e2 h1 h2 => ?_) (fun I' hf hC2 => hq I' (fr_trans (fr_trans (fr_iu (by simp)) (fr_iu (by simp))) hf) hC2)
           · rw [iu_b (by omega)]
             by_cases hqF : q < F.length
             · rw [List.getElem?_append_left hqF] at h2
               rw [iu_j (by omega), iu_j (by omega), iu_b (by omega)]
               exact hf1 q e2 h2
             · have hq1 := (List.getElem?_eq_some_iff.mp h2).1
               rw [List.length_append, List.length_singleton] at hq1
               have hqe : q = F.length := by omega
               subst hqe
               simp at h2
               subst h2
               rw [iu_at, iu_at, iu_b (by omega)]
               exact ⟨w1, w2⟩
           · rw [iu_b (by omega), iu_j (by omega), iu_j (by omega), iu_b (by omega)]
             exact hf2 q e2 (by omega) h2)
set_option maxRecDepth 100000 in
set_option maxHeartbeats 4000000 in
theorem c_forget {G : fG} {x0 : Nat} {l : Launch} {d k n : Nat} {T : fT} {I : fI} {J : fJ} {Q : Option Value → fT → fI → fJ → Prop} {C : List (Int × Int)} {h ms : Nat} {x : Int32} (hC : CacheIs T I C h ms) (hq : ∀ I', fr I I' [37, 38, 39] → CacheIs T I' (C.filter (fun e => decide (e.1 ≠ x.toInt))) h ms → Q none T I' J) : PW G x0 l mX1_forget d (ZM G x0 Q) k n 0 [(0, .ref (x0 + 37)), (1, .int x)] [] T I J := by
  obtain ⟨hA, c1, c2, c3, c4, c5⟩ := id hC
  obtain ⟨a1, a2, a3, a4, a5, a6, a7, a8⟩ := id hA
  have e37 : (37 : Nat) < T.1 := by omega
  have e38 : (38 : Nat) < T.1 := by omega
  have e39 : (39 : Nat) < T.1 := by omega
  refine s_iconst (v := 0) dX1_forget_0 (by decide) ?_
  refine s_istore_n (i := 2) dX1_forget_1 rfl (by decide) (by simp only [sl, sl2, rm, Value.category, reduceIte, Nat.reduceAdd, Nat.reduceEqDiff, reduceCtorEq]; rfl) ?_
  refine s_iconst (v := 0) dX1_forget_2 (by decide) ?_
  refine s_istore_n (i := 3) dX1_forget_3 rfl (by decide) (by simp only [sl, sl2, rm, Value.category, reduceIte, Nat.reduceAdd, Nat.reduceEqDiff, reduceCtorEq]; rfl) ?_
  exact l_forget hA c1 C.length 0 [] I (by omega) (by omega) (by simp) c2 c3 c4 (fun q e he => by simp at he) (fun q e _ he => c5 q e he) hq
