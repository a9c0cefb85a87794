def ListsAt (T : fT) : Prop := 144 ≤ T.1 ∧ T.2.1 1 = 15 ∧ T.2.2.1 1 = 6 ∧ ∀ i, i < 6 → T.2.2.2 1 i = some (120 + 4 * i) ∧ CutAt T (120 + 4 * i)
theorem ListsAt.tq {T T' : fT} (h : ListsAt T) (q : Tq T T') : ListsAt T' := by
  obtain ⟨a1, a2, a3, a4⟩ := h
  obtain ⟨q1, q2, q3, q4⟩ := id q
  exact ⟨by omega, by rw [q2]; exact a2, by rw [q3]; exact a3, fun i hi => ⟨by rw [q4 _ _ (by omega) (by omega)]; exact (a4 i hi).1, (a4 i hi).2.tq q ⟨by omega, by omega⟩⟩⟩
set_option maxRecDepth 100000 in
set_option maxHeartbeats 4000000 in
theorem c_restore {G : fG} {x0 : Nat} {l : Launch} {d k n : Nat} {T : fT} {I : fI} {J : fJ} {Q : Option Value → fT → fI → fJ → Prop} {li : Nat} {L : LSt} {H : List (Nat × LSt)} (hH : HistIs T I ((li, L) :: H)) (hl : ListsAt T) (hli : li < 6) (hq : ∀ I', fr I I' [2, 120 + 4 * li, 120 + 4 * li + 1, 120 + 4 * li + 2, 120 + 4 * li + 3] → HistIs T I' H → CutL T I' (120 + 4 * li) L → Q none T I' J) : PW G x0 l mX5_restoreLatest (d + 3) (ZM G x0 Q) k n 0 [(0, .ref (x0 + 2)), (1, .ref (x0 + 1))] [] T I J := by
  obtain ⟨hA, h2, h3, La, h4, h5, h6⟩ := id hH
  obtain ⟨a1, a2, a3, a4, a5, a6, a7, a8, a9⟩ := id hA
  obtain ⟨l1, l2, l3, l4⟩ := id hl
  rw [List.length_cons] at h2 h3
  obtain ⟨w1, w2⟩ := h6 0 (li, L) rfl
  have hs0 : hslot La 0 = La := by unfold hslot; omega
  rw [hs0] at w1 w2
  dsimp only at w1 w2
  have hst := a9 La h4
  have hll := l4 li hli
  have e1 : (1 : Nat) < T.1 := by omega
  have e2 : (2 : Nat) < T.1 := by omega
  have e3 : (3 : Nat) < T.1 := by omega
  have e4 : (4 : Nat) < T.1 := by omega
  have hn8 : (zI La).toNatClampNeg = La := by rw [zI_n (by omega) (by omega)]; simp
  have hnl : (zI li).toNatClampNeg = li := by rw [zI_n (by omega) (by omega)]; simp
  obtain ⟨y1, y2, -⟩ := id hst.2
  obtain ⟨u1, u2, -⟩ := id hll.2
  refine s_aload_n (i := 0) dX5_restoreLatest_0 rfl rfl ?_
  refine s_getI dX5_restoreLatest_1 fl_X5_30 (by assumption) (by assumption) ?_
  refine s_if_le (tgt := 70) dX5_restoreLatest_4 (by decide) (fun h4 => absurd h4 (by rw [t_zI h3, z0, zI_le (by omega) (by omega) (by omega) (by omega)]; omega)) (fun h4 => ?_)
  refine s_aload_n (i := 0) dX5_restoreLatest_7 rfl rfl ?_
  refine s_getR dX5_restoreLatest_8 fl_X5_9 (by assumption) (by assumption) (by assumption) ?_
  refine s_aload_n (i := 0) dX5_restoreLatest_11 rfl rfl ?_
  refine s_getI dX5_restoreLatest_12 fl_X5_22 (by assumption) (by assumption) ?_
  refine s_topi (t_zI h5) ?_
  refine s_iald dX5_restoreLatest_15 (by assumption) (by assumption) (by rw [a6]; exact z_in (by omega) (by omega) (by omega)) ?_
  refine s_topi (y := zI li) (by rw [hn8]; exact t_zI w1) ?_
  refine s_aload_n (i := 1) dX5_restoreLatest_16 rfl rfl ?_
  refine s_alen dX5_restoreLatest_17 (by assumption) (by omega) (rfl) ?_
  refine s_icmp_ge (tgt := 70) dX5_restoreLatest_18 (by decide) (fun h18 => absurd h18 (by rw [l3]; show ¬ zI 6 ≤ zI li; rw [zI_le (by omega) (by omega) (by omega) (by omega)]; omega)) (fun h18 => ?_)
  refine s_aload_n (i := 1) dX5_restoreLatest_21 rfl rfl ?_
  refine s_aload_n (i := 0) dX5_restoreLatest_22 rfl rfl ?_
  refine s_getR dX5_restoreLatest_23 fl_X5_9 (by assumption) (by assumption) (by assumption) ?_
  refine s_aload_n (i := 0) dX5_restoreLatest_26 rfl rfl ?_
  refine s_getI dX5_restoreLatest_27 fl_X5_22 (by assumption) (by assumption) ?_
  refine s_topi (t_zI h5) ?_
  refine s_iald dX5_restoreLatest_30 (by assumption) (by assumption) (by rw [a6]; exact z_in (by omega) (by omega) (by omega)) ?_
  refine s_topi (y := zI li) (by rw [hn8]; exact t_zI w1) ?_
  refine s_aldC dX5_restoreLatest_31 (by assumption) (by assumption) (by rw [l3]; exact z_in (by omega) (by omega) (by omega)) (by rw [hnl]; exact hll.1) ?_
  refine s_aload_n (i := 0) dX5_restoreLatest_32 rfl rfl ?_
  refine s_getR dX5_restoreLatest_33 fl_X5_17 (by assumption) (by assumption) (by assumption) ?_
  refine s_aload_n (i := 0) dX5_restoreLatest_36 rfl rfl ?_
  refine s_getI dX5_restoreLatest_37 fl_X5_22 (by assumption) (by assumption) ?_
  refine s_topi (t_zI h5) ?_
  refine s_aldC dX5_restoreLatest_40 (by assumption) (by assumption) (by rw [a8]; exact z_in (by omega) (by omega) (by omega)) (by rw [hn8]; exact hst.1) ?_
  refine s_cV_R (My := mX2_copyFrom) dX5_restoreLatest_41 wM_X5_26 cb_yX2_copyFrom ci_yX2_copyFrom (by assumption) (by assumption) (Nat.le_of_ble_eq_true rfl) (by decide) (c_cutCopy (o := 5 + 4 * La) hll.2 w2 (by omega) (fun I1 hf1 hC2 => ?_))
  have g2 : I1 2 = I 2 := hf1 2 (by simp; omega)
  have g3 : I1 3 = I 3 := hf1 3 (by simp; omega)
  refine s_aload_n (i := 0) dX5_restoreLatest_44 rfl rfl ?_
  refine s_aload_n (i := 0) dX5_restoreLatest_45 rfl rfl ?_
  refine s_getI dX5_restoreLatest_46 fl_X5_22 (by assumption) (by assumption) ?_
  refine s_bipush (v := 8) dX5_restoreLatest_49 (by decide) ?_
  refine s_iadd dX5_restoreLatest_51 ?_
  refine s_iconst (v := 1) dX5_restoreLatest_52 (by decide) ?_
  refine s_isub dX5_restoreLatest_53 ?_
  refine s_bipush (v := 8) dX5_restoreLatest_54 (by decide) ?_
  refine s_irem dX5_restoreLatest_56 (by decide) ?_
  refine s_topi (y := zI (((La + 7) % 8 : Nat) : Int)) (by rw [g2, t_zI h5]; show zI _ + zI 8 - zI 1 - (zI _ + zI 8 - zI 1) / zI 8 * zI 8 = _; rw [zI_add, zI_sub, zI_rem (by omega) (by omega) (by omega) (by omega)]; congr 1; omega) ?_
  refine s_putI dX5_restoreLatest_57 fp_X5_22 (by assumption) (by assumption) ?_
  refine s_aload_n (i := 0) dX5_restoreLatest_60 rfl rfl ?_
  refine s_dup dX5_restoreLatest_61 rfl ?_
  refine s_getI dX5_restoreLatest_62 fl_X5_30 (by assumption) (by assumption) ?_
  refine s_iconst (v := 1) dX5_restoreLatest_65 (by decide) ?_
  refine s_isub dX5_restoreLatest_66 ?_
  refine s_topi (y := zI H.length) (by rw [iu_j (by omega), g2, t_zI h3, z1, zI_sub]; congr 1; omega) ?_
  refine s_putI dX5_restoreLatest_67 fp_X5_30 (by assumption) (by assumption) ?_
  refine s_ret dX5_restoreLatest_70 rfl ?_
  refine hq _ (fr_trans (fr_sub hf1 (fun b hb => by simp at hb ⊢; omega)) (fr_trans (fr_iu (by simp)) (fr_iu (by simp)))) ⟨hA, by omega, by rw [iu_at]; exact zI_t (by omega) (by omega), (La + 7) % 8, by omega, ?_, ?_⟩ (CutIs.fr hC2 ?_ ?_ ?_ ?_)
  · rw [iu_j (by omega), iu_at]
    exact zI_t (by omega) (by omega)
  · intro q e he
    have hs1 : hslot ((La + 7) % 8) q = hslot La (q + 1) := by
      have := (List.getElem?_eq_some_iff.mp he).1
      unfold hslot
      omega
    have hl8 : hslot La (q + 1) < 8 := Nat.mod_lt _ (by omega)
    obtain ⟨z1, z2⟩ := h6 (q + 1) e (by rw [List.getElem?_cons_succ]; exact he)
    rw [hs1]
    refine ⟨?_, CutIs.fr z2 ?_ ?_ ?_ ?_⟩
    · rw [iu_b (by omega), iu_b (by omega), g3]
      exact z1
    all_goals exact (iu_ne (by omega)).trans ((iu_ne (by omega)).trans (hf1 _ (by simp; omega)))
  all_goals exact (iu_ne (by omega)).trans (iu_ne (by omega))
def CacheAt (T : fT) : Prop := 40 ≤ T.1 ∧ T.2.1 37 = 1 ∧ T.2.2.2 37 0 = some 38 ∧ T.2.2.2 37 1 = some 39 ∧ T.2.1 38 = 13 ∧ T.2.2.1 38 = 4 ∧ T.2.1 39 = 13 ∧ T.2.2.1 39 = 4
theorem CacheAt.tq {T T' : fT} (h : CacheAt T) (q : Tq T T') : CacheAt T' := by
  obtain ⟨a1, a2, a3, a4, a5, a6, a7, a8⟩ := h
  obtain ⟨q1, q2, q3, q4⟩ := id q
  exact ⟨by omega, by rw [q2]; exact a2, by rw [q4 _ _ (by omega) (by omega)]; exact a3, by rw [q4 _ _ (by omega) (by omega)]; exact a4, by rw [q2]; exact a5, by rw [q3]; exact a6, by rw [q2]; exact a7, by rw [q3]; exact a8⟩
/-- the blocks in the cache, that of the latest look first; hits; misses -/
def CacheIs (T : fT) (I : fI) (C : List (Int × Int)) (h ms : Nat) : Prop := CacheAt T ∧ C.length ≤ 4 ∧ (I 37 2).toInt = C.length ∧ (I 37 3).toInt = h ∧ (I 37 4).toInt = ms ∧ ∀ q e, C[q]? = some e → (I 38 q).toInt = e.1 ∧ (I 39 q).toInt = e.2
theorem CacheIs.fr {T : fT} {I I' : fI} {C : List (Int × Int)} {h ms : Nat} (hC : CacheIs T I C h ms) (h1 : I' 37 = I 37) (h2 : I' 38 = I 38) (h3 : I' 39 = I 39) : CacheIs T I' C h ms := by
  unfold CacheIs at *
  rw [h1, h2, h3]
  exact hC
theorem CacheIs.tq {T T' : fT} {I : fI} {C : List (Int × Int)} {h ms : Nat} (hC : CacheIs T I C h ms) (q : Tq T T') : CacheIs T' I C h ms := ⟨hC.1.tq q, hC.2⟩
set_option maxRecDepth 100000 in
set_option maxHeartbeats 4000000 in
theorem l_place {G : fG} {x0 : Nat} {l : Launch} {d k n : Nat} {T : fT} {I : fI} {J : fJ} {Q : Option Value → fT → fI → fJ → Prop} {C : List (Int × Int)} {h ms : Nat} {x y : Int32} (hC : CacheIs T I C h ms) (hy : ∀ p : Nat, C[p]? = some (x.toInt, y.toInt) → Q (some (.int (zI p))) T I J) (hn : (x.toInt, y.toInt) ∉ C → Q (some (.int (-1))) T I J) : ∀ (z i : Nat), C.length - i ≤ z → i ≤ C.length → (∀ q, q < i → C[q]? ≠ some (x.toInt, y.toInt)) → PW G x0 l mX1_placeOf d (ZM G x0 Q) k n 2 [(0, .ref (x0 + 37)), (1, .int x), (2, .int y), (3, .int (zI i))] [] T I J := by
  obtain ⟨hA, c1, c2, c3, c4, c5⟩ := id hC
  obtain ⟨a1, a2, a3, a4, a5, a6, a7, a8⟩ := id hA
  have e37 : (37 : Nat) < T.1 := by omega
  have e38 : (38 : Nat) < T.1 := by omega
  have e39 : (39 : Nat) < T.1 := by omega
  intro z
  induction z with
  | zero =>
    intro i hz hi hne
    refine s_iload_n (i := 3) dX1_placeOf_2 rfl rfl ?_
    refine s_aload_n (i := 0) dX1_placeOf_3 rfl rfl ?_
    refine s_getI dX1_placeOf_4 fl_X1_18 (by assumption) (by assumption) ?_
    refine s_icmp_ge (tgt := 38) dX1_placeOf_7 (by decide) (fun h7 => ?_) (fun h7 => absurd (by rw [t_zI c2, zI_le (by omega) (by omega) (by omega) (by omega)]; omega) h7)
    refine s_iconst (v := -1) dX1_placeOf_38 (by decide) ?_
    refine s_iret dX1_placeOf_39 rfl ?_
    refine hn (fun hm => ?_)
    obtain ⟨q, hq⟩ := List.getElem?_of_mem hm
    exact hne q (by have := (List.getElem?_eq_some_iff.mp hq).1; omega) hq
  | succ z ih =>
    intro i hz hi hne
    refine s_iload_n (i := 3) dX1_placeOf_2 rfl rfl ?_
    refine s_aload_n (i := 0) dX1_placeOf_3 rfl rfl ?_
    refine s_getI dX1_placeOf_4 fl_X1_18 (by assumption) (by assumption) ?_
    refine s_icmp_ge (tgt := 38) dX1_placeOf_7 (by decide) (fun c7 => ?_) (fun c7 => ?_)
    · refine s_iconst (v := -1) dX1_placeOf_38 (by decide) ?_
      refine s_iret dX1_placeOf_39 rfl ?_
      rw [t_zI c2, zI_le (by omega) (by omega) (by omega) (by omega)] at c7
      refine hn (fun hm => ?_)
      obtain ⟨q, hq⟩ := List.getElem?_of_mem hm
      exact hne q (by have := (List.getElem?_eq_some_iff.mp hq).1; omega) hq
    · rw [t_zI c2, zI_le (by omega) (by omega) (by omega) (by omega)] at c7
      have hni : (zI i).toNatClampNeg = i := by rw [zI_n (by omega) (by omega)]; simp
      obtain ⟨e, he⟩ : ∃ e, C[i]? = some e := ⟨C[i]'(by omega), List.getElem?_eq_getElem (by omega)⟩
      obtain ⟨w1, w2⟩ := c5 i e he
      refine s_aload_n (i := 0) dX1_placeOf_10 rfl rfl ?_
      refine s_getR dX1_placeOf_11 fl_X1_9 (by assumption) (by assumption) (by assumption) ?_
      refine s_iload_n (i := 3) dX1_placeOf_14 rfl rfl ?_
      refine s_iald dX1_placeOf_15 (by assumption) (by assumption) (by rw [a6]; exact z_in (by omega) (by omega) (by omega)) ?_
      refine s_iload_n (i := 1) dX1_placeOf_16 rfl rfl ?_
      refine s_icmp_ne (tgt := 32) dX1_placeOf_17 (by decide) (fun c17 => ?_) (fun c17 => ?_)
      · refine s_iinc dX1_placeOf_32 rfl (zI_inc _) (by decide) (by simp only [sl, sl2, rm, Value.category, reduceIte, Nat.reduceAdd, Nat.reduceEqDiff, reduceCtorEq]; rfl) ?_
        refine s_goto (tgt := 2) dX1_placeOf_35 (by decide) ?_
        refine ih (i + 1) (by omega) (by omega) (fun q hq hqe => ?_)
        by_cases hqi : q = i
        · subst hqi
          rw [he] at hqe
          have hee := Option.some.inj hqe
          rw [hee] at w1 w2
          dsimp only at w1 w2
          first
          | exact c17 (by rw [hni]; exact Int32.toInt_inj.mp w1)
          | exact c27 (by rw [hni]; exact Int32.toInt_inj.mp w2)
        · exact hne q (by omega) hqe
      · refine s_aload_n (i := 0) dX1_placeOf_20 rfl rfl ?_
        refine s_getR dX1_placeOf_21 fl_X1_15 (by assumption) (by assumption) (by assumption) ?_
        refine s_iload_n (i := 3) dX1_placeOf_24 rfl rfl ?_
        refine s_iald dX1_placeOf_25 (by assumption) (by assumption) (by rw [a8]; exact z_in (by omega) (by omega) (by omega)) ?_
        refine s_iload_n (i := 2) dX1_placeOf_26 rfl rfl ?_
        refine s_icmp_ne (tgt := 32) dX1_placeOf_27 (by decide) (fun c27 => ?_) (fun c27 => ?_)
        · refine s_iinc dX1_placeOf_32 rfl (zI_inc _) (by decide) (by simp only [sl, sl2, rm, Value.category, reduceIte, Nat.reduceAdd, Nat.reduceEqDiff, reduceCtorEq]; rfl) ?_
          refine s_goto (tgt := 2) dX1_placeOf_35 (by decide) ?_
          refine ih (i + 1) (by omega) (by omega) (fun q hq hqe => ?_)
          by_cases hqi : q = i
          · subst hqi
            rw [he] at hqe
            have hee := Option.some.inj hqe
            rw [hee] at w1 w2
            dsimp only at w1 w2
            first
            | exact c17 (by rw [hni]; exact Int32.toInt_inj.mp w1)
            | exact c27 (by rw [hni]; exact Int32.toInt_inj.mp w2)
          · exact hne q (by omega) hqe
        · refine s_iload_n (i := 3) dX1_placeOf_30 rfl rfl ?_
          refine s_iret dX1_placeOf_31 rfl ?_
          rw [hni] at c17 c27
          exact hy i (by rw [he, ← c17, ← c27, w1, w2])
set_option maxRecDepth 100000 in
set_option maxHeartbeats 4000000 in
theorem c_place {G : fG} {x0 : Nat} {l : Launch} {d k n : Nat} {T : fT} {I : fI} {J : fJ} {Q : Option Value → fT → fI → fJ → Prop} {C : List (Int × Int)} {h ms : Nat} {x y : Int32} (hC : CacheIs T I C h ms) (hy : ∀ p : Nat, C[p]? = some (x.toInt, y.toInt) → Q (some (.int (zI p))) T I J) (hn : (x.toInt, y.toInt) ∉ C → Q (some (.int (-1))) T I J) : PW G x0 l mX1_placeOf d (ZM G x0 Q) k n 0 [(0, .ref (x0 + 37)), (1, .int x), (2, .int y)] [] T I J := by
  refine s_iconst (v := 0) dX1_placeOf_0 (by decide) ?_
  refine s_istore_n (i := 3) dX1_placeOf_1 rfl (by decide) (by simp only [sl, sl2, rm, Value.category, reduceIte, Nat.reduceAdd, Nat.reduceEqDiff, reduceCtorEq]; rfl) ?_
  exact l_place hC hy hn C.length 0 (by omega) (by omega) (fun q hq => absurd hq (Nat.not_lt_zero q))
set_option maxRecDepth 100000 in
set_option maxHeartbeats 4000000 in
theorem c_forgetAll {G : fG} {x0 : Nat} {l : Launch} {d k n : Nat} {T : fT} {I : fI} {J : fJ} {Q : Option Value → fT → fI → fJ → Prop} {C : List (Int × Int)} {h ms : Nat} (hC : CacheIs T I C h ms) (hq : ∀ I', fr I I' [37] → CacheIs T I' [] h ms → Q none T I' J) : PW G x0 l mX1_forgetAll d (ZM G x0 Q) k n 0 [(0, .ref (x0 + 37))] [] T I J := by
  obtain ⟨hA, c1, c2, c3, c4, c5⟩ := id hC
  obtain ⟨a1, a2, a3, a4, a5, a6, a7, a8⟩ := id hA
  have e37 : (37 : Nat) < T.1 := by omega
  have e38 : (38 : Nat) < T.1 := by omega
  have e39 : (39 : Nat) < T.1 := by omega
  refine s_aload_n (i := 0) dX1_forgetAll_0 rfl rfl ?_
  refine s_iconst (v := 0) dX1_forgetAll_1 (by decide) ?_
  refine s_putI dX1_forgetAll_2 fp_X1_18 (by assumption) (by assumption) ?_
  refine s_ret dX1_forgetAll_5 rfl ?_
  exact hq _ (fr_iu (by simp)) ⟨hA, by simp, by rw [iu_at]; rfl, by rw [iu_j (by omega)]; exact c3, by rw [iu_j (by omega)]; exact c4, fun q e he => by simp at he⟩
set_option maxRecDepth 100000 in
set_option maxHeartbeats 4000000 in
theorem l_look56 {G : fG} {x0 : Nat} {l : Launch} {d k n : Nat} {T : fT} {I : fI} {J : fJ} {Q : Option Value → fT → fI → fJ → Prop} {p : Nat} {f1 f2 : Nat → Int} {x y : Int32} (hA : CacheAt T) (hp : p < 4) (h1 : ∀ q, q < 4 → (I 38 q).toInt = f1 q) (h2 : ∀ q, q < 4 → (I 39 q).toInt = f2 q) (hq : ∀ I', fr I I' [38, 39] → (∀ q, q < 4 → (I' 38 q).toInt = if q = 0 then x.toInt else if q ≤ p then f1 (q - 1) else f1 q) → (∀ q, q < 4 → (I' 39 q).toInt = if q = 0 then y.toInt else if q ≤ p then f2 (q - 1) else f2 q) → Q none T I' J) : PW G x0 l mX1_look (d + 1) (ZM G x0 Q) k n 56 [(0, .ref (x0 + 37)), (1, .int x), (2, .int y), (3, .int (zI p))] [] T I J := by
  obtain ⟨a1, a2, a3, a4, a5, a6, a7, a8⟩ := id hA
  have e37 : (37 : Nat) < T.1 := by omega
  have e38 : (38 : Nat) < T.1 := by omega
  have e39 : (39 : Nat) < T.1 := by omega
  have hnp : (zI p).toNatClampNeg = p := by rw [zI_n (by omega) (by omega)]; simp
  refine s_aload_n (i := 0) dX1_look_56 rfl rfl ?_
  refine s_getR dX1_look_57 fl_X1_9 (by assumption) (by assumption) (by assumption) ?_
  refine s_iconst (v := 0) dX1_look_60 (by decide) ?_
  refine s_aload_n (i := 0) dX1_look_61 rfl rfl ?_
  refine s_getR dX1_look_62 fl_X1_9 (by assumption) (by assumption) (by assumption) ?_
  refine s_iconst (v := 1) dX1_look_65 (by decide) ?_
  refine s_iload_n (i := 3) dX1_look_66 rfl rfl ?_
  refine s_copy dX1_look_67 wM_X1_37 (by assumption) (by assumption) (by assumption) (by assumption) (by decide) (by decide) (nn_z (by omega) (by omega)) (by rw [hnp, a6]; show 0 + _ ≤ _; omega) (by rw [hnp, a6]; show 1 + _ ≤ _; omega) (Nat.le_of_ble_eq_true rfl) ?_
  refine s_aload_n (i := 0) dX1_look_70 rfl rfl ?_
  refine s_getR dX1_look_71 fl_X1_15 (by assumption) (by assumption) (by assumption) ?_
  refine s_iconst (v := 0) dX1_look_74 (by decide) ?_
  refine s_aload_n (i := 0) dX1_look_75 rfl rfl ?_
  refine s_getR dX1_look_76 fl_X1_15 (by assumption) (by assumption) (by assumption) ?_
  refine s_iconst (v := 1) dX1_look_79 (by decide) ?_
  refine s_iload_n (i := 3) dX1_look_80 rfl rfl ?_
  refine s_copy dX1_look_81 wM_X1_37 (by assumption) (by assumption) (by assumption) (by assumption) (by decide) (by decide) (nn_z (by omega) (by omega)) (by rw [hnp, a8]; show 0 + _ ≤ _; omega) (by rw [hnp, a8]; show 1 + _ ≤ _; omega) (Nat.le_of_ble_eq_true rfl) ?_
  refine s_aload_n (i := 0) dX1_look_84 rfl rfl ?_
  refine s_getR dX1_look_85 fl_X1_9 (by assumption) (by assumption) (by assumption) ?_
  refine s_iconst (v := 0) dX1_look_88 (by decide) ?_
  refine s_iload_n (i := 1) dX1_look_89 rfl rfl ?_
  refine s_iast dX1_look_90 (by assumption) (by assumption) (by rw [a6]; exact z_in (z := 0) (by omega) (by omega) (by omega)) ?_
  refine s_aload_n (i := 0) dX1_look_91 rfl rfl ?_
  refine s_getR dX1_look_92 fl_X1_15 (by assumption) (by assumption) (by assumption) ?_
  refine s_iconst (v := 0) dX1_look_95 (by decide) ?_
  refine s_iload_n (i := 2) dX1_look_96 rfl rfl ?_
  refine s_iast dX1_look_97 (by assumption) (by assumption) (by rw [a8]; exact z_in (z := 0) (by omega) (by omega) (by omega)) ?_
  refine s_ret dX1_look_98 rfl ?_
  rw [hnp]
  refine hq _ (fr_trans (fr_trans (fr_trans (fr_ia (by simp)) (fr_ia (by simp))) (fr_iu (by simp))) (fr_iu (by simp))) (fun q hq4 => ?_) (fun q hq4 => ?_)
  · rw [iu_b (by omega)]
    by_cases hq0 : q = 0
    · rw [if_pos hq0, hq0]
      rfl
    · rw [if_neg hq0, show ((0 : Int32).toNatClampNeg) = 0 from rfl, iu_j hq0, ia_b (by omega), ia_eq]
      show Int32.toInt (va_cpy _ _ 0 1 _ q) = _
      unfold va_cpy
      by_cases hqp : q ≤ p
      · rw [if_pos (by omega), if_pos hqp, show 0 + (q - 1) = q - 1 by omega]
        exact h1 _ (by omega)
      · rw [if_neg (by omega), if_neg hqp]
        exact h1 _ hq4
  · by_cases hq0 : q = 0
    · rw [if_pos hq0, hq0]
      rfl
    · rw [if_neg hq0, show ((0 : Int32).toNatClampNeg) = 0 from rfl, iu_j hq0, iu_b (by omega), ia_eq]
      show Int32.toInt (va_cpy _ _ 0 1 _ q) = _
      unfold va_cpy
      by_cases hqp : q ≤ p
      · rw [if_pos (by omega), if_pos hqp, show 0 + (q - 1) = q - 1 by omega, ia_b (by omega)]
        exact h2 _ (by omega)
      · rw [if_neg (by omega), if_neg hqp, ia_b (by omega)]
        exact h2 _ hq4
