theorem bprop5 (g : Nat → Int) (f len : Nat) : bprop g f len 5 = bcost g f len := by
  unfold bprop
  rw [if_neg (by omega), if_neg (by omega), if_neg (by omega), if_neg (by omega), if_neg (by omega), if_pos rfl]
theorem planL_bf (g : Nat → Int) (m : Nat) (E : Nat → Nat) (nb j : Nat) : bf (planL g m E nb) j = pst E j := by simp [bf, planL]
theorem planL_bl {g : Nat → Int} {m : Nat} {R : Nat → Int} {E : Nat → Nat} {nb : Nat} (h : Plan g m R E) (he : pst E nb = m) (hn : ∀ j, j < nb → pst E j < m) {j : Nat} (hj : j < nb) : bl (planL g m E nb) j = pst E (j + 1) - pst E j := by
  have h2 : stf (fun j => (pst E j : Int)) nb m ((j : Int) + 1) = (pst E (j + 1) : Int) := by
    unfold stf
    by_cases e : j + 1 < nb
    · rw [if_pos (by omega), show ((j : Int) + 1).toNat = j + 1 by omega]
    · rw [if_neg (by omega), show j + 1 = nb by omega, he]
  have h1 := pst_lt h hn hj
  unfold bl
  show (stf (fun j => (pst E j : Int)) nb m ((j : Int) + 1) - (pst E j : Int)).toNat = _
  rw [h2]
  omega
theorem plan_sum {g : Nat → Int} {m : Nat} {R : Nat → Int} {E : Nat → Nat} {nb : Nat} (h : Plan g m R E) (he : pst E nb = m) (hn : ∀ j, j < nb → pst E j < m) : ∀ j, j ≤ nb → R 0 = 256 * sumB (planL g m E nb) 5 j + j + R (pst E j) := by
  intro j
  induction j with
  | zero => intro _; simp [sumB, pst]
  | succ j ih =>
    intro hj
    have h1 := ih (by omega)
    have h2 := (h.2 (pst E j) (hn j (by omega))).2.2.2.1
    simp only [sumB]
    rw [bprop5, planL_bf, planL_bl h he hn (by omega)]
    unfold pval at h2
    have h3 : pst E (j + 1) = E (pst E j) := rfl
    rw [h3]
    show R 0 = 256 * (_ + bcost g _ _) + _ + _
    omega
theorem plan_cost {g : Nat → Int} {m : Nat} {R : Nat → Int} {E : Nat → Nat} {nb : Nat} (hm : m ≤ 200) (h : Plan g m R E) (he : pst E nb = m) (hn : ∀ j, j < nb → pst E j < m) : sumB (planL g m E nb) 5 nb = R 0 / 256 := by
  have h1 := plan_sum h he hn nb (Nat.le_refl nb)
  have h2 := pst_mono h hn nb (Nat.le_refl nb)
  rw [he, h.1] at h1
  omega
theorem plan_end {g : Nat → Int} {m : Nat} {R : Nat → Int} {E : Nat → Nat} (h : Plan g m R E) : ∃ nb, pst E nb = m ∧ ∀ j, j < nb → pst E j < m := by
  have key : ∀ t, (∃ nb, pst E nb = m ∧ ∀ j, j < nb → pst E j < m) ∨ ∀ j, j ≤ t → pst E j < m := by
    intro t
    induction t with
    | zero =>
      rcases Nat.eq_zero_or_pos m with e | e
      · exact Or.inl ⟨0, by rw [e]; rfl, fun j hj => absurd hj (Nat.not_lt_zero j)⟩
      · exact Or.inr (fun j hj => by rw [show j = 0 by omega]; exact e)
    | succ t ih =>
      rcases ih with h1 | h1
      · exact Or.inl h1
      · have h2 := (h.2 _ (h1 t (Nat.le_refl t))).2.2.1
        rcases Nat.lt_or_ge (E (pst E t)) m with e | e
        · exact Or.inr (fun j hj => by
            rcases Nat.lt_or_ge t j with h3 | h3
            · rw [show j = t + 1 by omega]; exact e
            · exact h1 j h3)
        · exact Or.inl ⟨t + 1, by show E (pst E t) = m; omega, fun j hj => h1 j (by omega)⟩
  rcases key m with h1 | h1
  · exact h1
  · have h2 := pst_mono h (nb := m + 1) (fun j hj => h1 j (by omega)) m (by omega)
    have := h1 m (Nat.le_refl m)
    omega
def rCost (S : ASt) (x y : Int) (a : Int) : Prop := (¬ (isL x ∧ 0 ≤ y ∧ y ≤ 64) ∧ a = -2) ∨ ∃ (li : Nat) (L' : LSt), li < 6 ∧ x = li ∧ (0 ≤ y ∧ y ≤ 64) ∧ rCut (S.1 li) y L' ∧ a = sumB L' 5 L'.2.2.2
def rLook (C : List (Int × Int) × Nat × Nat) (e : Int × Int) (C' : List (Int × Int) × Nat × Nat) : Prop := (∃ p : Nat, C.1[p]? = some e ∧ C' = (e :: C.1.eraseIdx p, C.2.1 + 1, C.2.2)) ∨ (e ∉ C.1 ∧ C' = ((e :: C.1).take 4, C.2.1, C.2.2 + 1))
def setC (S : ASt) (C' : List (Int × Int) × Nat × Nat) : ASt := (S.1, S.2.1, C', S.2.2.2)
def rAt (S : ASt) (x y : Int) (a : Int) (S' : ASt) : Prop := (¬ (isL x ∧ 0 ≤ y ∧ y < ((S.1 x.toNat).2.1 : Int)) ∧ a = -2 ∧ S' = S) ∨ ∃ (li q j : Nat) (C' : List (Int × Int) × Nat × Nat), li < 6 ∧ x = li ∧ y = q ∧ q < (S.1 li).2.1 ∧ a = (S.1 li).1 q ∧ LB (S.1 li).1 (S.1 li).2.2.1 (S.1 li).2.2.2 ((S.1 li).1 q) j ∧ rLook S.2.2.1 ((li : Int), (j : Int)) C' ∧ S' = setC S C'
def rFind (S : ASt) (x y z : Int) (a : Int) (S' : ASt) : Prop := (¬ (isL x ∧ (0 ≤ y ∧ y ≤ 999999) ∧ 0 ≤ z ∧ z ≤ 1) ∧ a = -2 ∧ S' = S) ∨ ∃ (li p : Nat) (j : Int), li < 6 ∧ x = li ∧ (0 ≤ y ∧ y ≤ 999999) ∧ (0 ≤ z ∧ z ≤ 1) ∧ LB (S.1 li).1 (S.1 li).2.2.1 (S.1 li).2.2.2 y j ∧ FA (S.1 li).1 (S.1 li).2.1 y p ∧ a = (if p = (S.1 li).2.1 then -1 else if z = 0 then (p : Int) else (S.1 li).1 p) ∧ ((j = -1 ∧ S' = S) ∨ ∃ C', j ≠ -1 ∧ rLook S.2.2.1 ((li : Int), j) C' ∧ S' = setC S C')
theorem SOk.look {S : ASt} (h : SOk S) {C' : List (Int × Int) × Nat × Nat} {li : Nat} {j : Int} (hli : li < 6) (hj : 0 ≤ j ∧ j < ((S.1 li).2.2.2 : Int)) (hl : rLook S.2.2.1 ((li : Int), j) C') (h1 : C'.2.1 < 100000) (h2 : C'.2.2 < 100000) : SOk (setC S C') := by
  obtain ⟨a1, a2, ⟨a3, a4, a5, a6⟩, a7⟩ := h
  have hv : ∀ e, e ∈ ((li : Int), j) :: S.2.2.1.1 → 0 ≤ e.1 ∧ e.1 < 6 ∧ 0 ≤ e.2 ∧ e.2 < ((S.1 e.1.toNat).2.2.2 : Int) := fun e he => by
    rcases List.mem_cons.mp he with rfl | he
    · exact ⟨by dsimp only; omega, by dsimp only; omega, hj.1, by dsimp only; rw [Int.toNat_natCast]; exact hj.2⟩
    · exact a4 e he
  refine ⟨a1, a2, ⟨?_, fun e he => ?_, h1, h2⟩, a7⟩
  · rcases hl with ⟨p, hp, rfl⟩ | ⟨hn, rfl⟩
    · refine List.nodup_cons.mpr ⟨fun hm => ?_, a3.sublist (List.eraseIdx_sublist _ _)⟩
      obtain ⟨i, hi, hip, hie⟩ := List.mem_eraseIdx_iff_getElem.mp hm
      obtain ⟨hp2, hpe⟩ := List.getElem?_eq_some_iff.mp hp
      rw [← hpe] at hie
      exact hip ((List.getElem_inj a3).mp hie)
    · exact (List.nodup_cons.mpr ⟨hn, a3⟩).sublist (List.take_sublist _ _)
  · rcases hl with ⟨p, hp, rfl⟩ | ⟨hn, rfl⟩
    · refine hv e ?_
      rcases List.mem_cons.mp he with rfl | he
      · exact List.mem_cons_self
      · exact List.mem_cons_of_mem _ (List.mem_of_mem_eraseIdx he)
    · exact hv e (List.mem_of_mem_take he)
theorem LB.nn {L : LSt} (h : LOk L) {q : Nat} {j : Int} (hq : q < L.2.1) (hB : LB L.1 L.2.2.1 L.2.2.2 (L.1 q) j) : 0 ≤ j := by
  rcases Int.lt_or_le j 0 with e | e
  · exfalso
    have h1 := h.2.2.2.2.2.2 (by omega)
    have h2 := hB.2.2.2 0 (by omega) h1
    rw [h.2.2.2.1] at h2
    simp only [Int.toNat_zero] at h2
    rcases Nat.eq_zero_or_pos q with e2 | e2
    · rw [e2] at h2; omega
    · have := h.2.1 0 q e2 hq; omega
  · exact e
set_option maxRecDepth 100000 in
set_option maxHeartbeats 1000000 in
theorem l_gaps {G : fG} {x0 : Nat} {l : Launch} {d k n : Nat} {T : fT} {I : fI} {J : fJ} {Q : Option Value → fT → fI → fJ → Prop} {e1 y : Int32} {r cap m : Nat} {g : Nat → Int} (hR : RowIs T I r cap g m) (hg : GapOk g m) (hm : m ≤ 200) (hy : 0 ≤ y.toInt ∧ y.toInt ≤ 20) (hq : Q (some (.int (zI (need g 0 m y.toInt.toNat)))) T I J) : ∀ (t i : Nat), m - i ≤ t → 1 ≤ i → (i ≤ m ∨ (m = 0 ∧ i = 1)) →
    PW G x0 l mX11_gaps (d + 1) (ZM G x0 Q) k n 36 [(0, .ref (x0 + 0)), (1, .int e1), (2, .int y), (3, .ref (x0 + r)), (4, .int (zI (need g 0 i y.toInt.toNat))), (5, .int (zI i))] [] T I J := by
  obtain ⟨k1, k2, k3, k4, k5, k6, k7⟩ := id hR.1
  have k9 := hR.2.2.1
  intro t
  induction t with
  | zero =>
    intro i ht hi him
    have e : need g 0 i y.toInt.toNat = need g 0 m y.toInt.toNat := by
      rcases him with h | ⟨h, h2⟩
      · rw [show i = m by omega]
      · rw [h, h2]; rfl
    refine s_iload dX11_gaps_36 rfl ?_
    refine s_aload_n (i := 3) dX11_gaps_38 rfl rfl ?_
    refine s_getI dX11_gaps_39 fl_X11_87 (by assumption) (by assumption) ?_
    refine s_icmp_ge (tgt := 67) dX11_gaps_42 (by decide) (fun h42 => ?_) (fun h42 => absurd (by rw [t_zI k9, zI_le (by omega) (by omega) (by omega) (by omega)]; omega) h42)
    refine s_iload dX11_gaps_67 rfl ?_
    refine s_iret dX11_gaps_69 rfl ?_
    rw [e]
    exact hq
  | succ t ih =>
    intro i ht hi him
    refine s_iload dX11_gaps_36 rfl ?_
    refine s_aload_n (i := 3) dX11_gaps_38 rfl rfl ?_
    refine s_getI dX11_gaps_39 fl_X11_87 (by assumption) (by assumption) ?_
    refine s_icmp_ge (tgt := 67) dX11_gaps_42 (by decide) (fun c42 => ?_) (fun c42 => ?_)
    · rw [t_zI k9, zI_le (by omega) (by omega) (by omega) (by omega)] at c42
      have e : need g 0 i y.toInt.toNat = need g 0 m y.toInt.toNat := by
        rcases him with h | ⟨h, h2⟩
        · rw [show i = m by omega]
        · rw [h, h2]; rfl
      refine s_iload dX11_gaps_67 rfl ?_
      refine s_iret dX11_gaps_69 rfl ?_
      rw [e]
      exact hq
    · rw [t_zI k9, zI_le (by omega) (by omega) (by omega) (by omega)] at c42
      have hgz := gapz_in hg (i := i) (by omega) (by omega)
      have hbz : bz g i ≤ 20 := bz_le hg (by omega) (by omega)
      have hns := need_succ g 0 i y.toInt.toNat hi
      rw [Nat.zero_add] at hns
      refine s_aload_n (i := 3) dX11_gaps_45 rfl rfl ?_
      refine s_iload dX11_gaps_46 rfl ?_
      refine s_cV_I (My := mX9_gapBefore) dX11_gaps_48 wM_X11_180 cb_yX9_gapBefore ci_yX9_gapBefore (by assumption) (by assumption) (Nat.le_of_ble_eq_true rfl) (by decide) (s_d (by omega) (c_gap (d := 0) hR (by omega) (by omega) ?_))
      refine s_cS_I (My := mX11_bitsOf) dX11_gaps_51 wM_X11_183 cb_yX11_bitsOf wT_yX11_bitsOf (Nat.le_of_ble_eq_true rfl) (by decide) (s_d (by omega) (c_bits (d := 0) hgz.2.1 hgz.2.2 ?_))
      refine s_topi (y := zI (bz g i)) (by rw [hgz.1]; rfl) ?_
      refine s_iload_n (i := 2) dX11_gaps_54 rfl rfl ?_
      refine s_icmp_ne (tgt := 61) dX11_gaps_55 (by decide) (fun c55 => ?_) (fun c55 => ?_)
      · refine s_iinc dX11_gaps_61 rfl (zI_inc _) (by decide) (by simp only [sl, sl2, rm, Value.category, reduceIte, Nat.reduceAdd, Nat.reduceEqDiff, reduceCtorEq]; rfl) ?_
        refine s_goto (tgt := 36) dX11_gaps_64 (by decide) ?_
        rw [t_eq', zI_t (by omega) (by omega)] at c55
        rw [if_neg (by omega), Nat.add_zero] at hns
        have := ih (i + 1) (by omega) (by omega) (by omega)
        rw [hns] at this
        exact this
      · refine s_iinc dX11_gaps_58 rfl (zI_inc _) (by decide) (by simp only [sl, sl2, rm, Value.category, reduceIte, Nat.reduceAdd, Nat.reduceEqDiff, reduceCtorEq]; rfl) ?_
        refine s_iinc dX11_gaps_61 rfl (zI_inc _) (by decide) (by simp only [sl, sl2, rm, Value.category, reduceIte, Nat.reduceAdd, Nat.reduceEqDiff, reduceCtorEq]; rfl) ?_
        refine s_goto (tgt := 36) dX11_gaps_64 (by decide) ?_
        rw [t_eq', zI_t (by omega) (by omega)] at c55
        rw [if_pos (by omega)] at hns
        have := ih (i + 1) (by omega) (by omega) (by omega)
        rw [hns] at this
        exact this
set_option maxRecDepth 100000 in
set_option maxHeartbeats 1000000 in
theorem c_gaps {G : fG} {x0 : Nat} {l : Launch} {d k n : Nat} {T : fT} {I : fI} {J : fJ} {Q : Option Value → fT → fI → fJ → Prop} {x y : Int32} {S : ASt} (hS : ClsIs T I S) (hk : SOk S) (hq : ∀ (T' : fT) (I' : fI), Tq T T' → fr I I' roS → Q (some (.int (zI (fGaps S x.toInt y.toInt)))) T' I' J) : PW G x0 l mX11_gaps (d + 1) (ZM G x0 Q) k n 0 [(0, .ref (x0 + 0)), (1, .int x), (2, .int y)] [] T I J := by
  obtain ⟨⟨o1, o2, o3, o4, o5, o6, o7, o8, o9, o10, o11⟩, hLA, hTA, hVA, hPA, hGA, hNA, hEA⟩ := id hS.1
  obtain ⟨la1, la2, la3, la4⟩ := id hLA
  have e0 : (0 : Nat) < T.1 := by omega
  have e1 : (1 : Nat) < T.1 := by omega
  have e2 : (2 : Nat) < T.1 := by omega
  have e37 : (37 : Nat) < T.1 := by omega
  have e40 : (40 : Nat) < T.1 := by omega
  have e42 : (42 : Nat) < T.1 := by omega
  have e44 : (44 : Nat) < T.1 := by omega
  have e112 : (112 : Nat) < T.1 := by omega
  have v42 := hVA.2.1
  have v44 := hPA.2.1
  have v2 := hS.2.2.1.1.2.1
  have v37 := hS.2.2.2.1.1.2.1
  have v40 := hTA.2.2.1
  have v112 := hNA.2.1
  unfold fGaps at hq
  refine s_iload_n (i := 1) dX11_gaps_0 rfl rfl ?_
  refine s_cS_I (My := mX11_isList) dX11_gaps_1 wM_X11_74 cb_yX11_isList wT_yX11_isList (Nat.le_of_ble_eq_true rfl) (by decide) (c_isList ?_ ?_)
  · intro hx
    obtain ⟨li, hli, rfl⟩ := lidx hx
    have hxt : (zI (li : Int)).toInt = li := zI_t (by omega) (by omega)
    have hnl : (zI li).toNatClampNeg = li := by rw [zI_n (by omega) (by omega)]; simp
    obtain ⟨lb1, lb2⟩ := la4 li hli
    obtain ⟨k1, k2, k3, k4, k5, k6, k7, k8⟩ := id lb2
    obtain ⟨r1, r2, r3, r4, r5, r6, r7⟩ := id k8
    have hC := hS.2.1 li hli
    have hL := hk.1 li hli
    have hxn : (zI (li : Int)).toInt.toNat = li := by rw [hxt]; simp
    simp only [hxn] at hq
    refine s_if_eq (tgt := 17) dX11_gaps_4 (by decide) (fun c4 => absurd c4 (by decide)) (fun c4 => ?_)
    refine s_iload_n (i := 2) dX11_gaps_7 rfl rfl ?_
    refine s_if_lt (tgt := 17) dX11_gaps_8 (by decide) (fun c8 => ?_) (fun c8 => ?_)
    · refine s_bipush (v := -2) dX11_gaps_17 (by decide) ?_
      refine s_iret dX11_gaps_19 rfl ?_
      rw [t_lt0] at c8
      try rw [t_le', show ((20 : Int32).toInt) = 20 from by decide] at c14
      rw [if_neg (fun h => by omega)] at hq
      rw [zm2]
      exact hq T I (Tq.refl T) (fr_refl I _)
    · refine s_iload_n (i := 2) dX11_gaps_11 rfl rfl ?_
      refine s_bipush (v := 20) dX11_gaps_12 (by decide) ?_
      refine s_icmp_le (tgt := 20) dX11_gaps_14 (by decide) (fun c14 => ?_) (fun c14 => ?_)
      · refine s_aload_n (i := 0) dX11_gaps_20 rfl rfl ?_
        refine s_getR dX11_gaps_21 fl_X11_11 (by assumption) (by assumption) (by assumption) ?_
        refine s_iload_n (i := 1) dX11_gaps_24 rfl rfl ?_
        refine s_aldC dX11_gaps_25 (by assumption) (by assumption) (by rw [la3]; exact z_in (by omega) (by omega) (by omega)) (by rw [hnl]; exact lb1) ?_
        refine s_getR dX11_gaps_26 fl_X11_81 (by assumption) (by assumption) (by assumption) ?_
        refine s_astore_n (i := 3) dX11_gaps_29 rfl (by decide) (by simp only [sl, sl2, rm, Value.category, reduceIte, Nat.reduceAdd, Nat.reduceEqDiff, reduceCtorEq]; rfl) ?_
        refine s_iconst (v := 0) dX11_gaps_30 (by decide) ?_
        refine s_istore dX11_gaps_31 (by decide) (by simp only [sl, sl2, rm, Value.category, reduceIte, Nat.reduceAdd, Nat.reduceEqDiff, reduceCtorEq]; rfl) ?_
        refine s_iconst (v := 1) dX11_gaps_33 (by decide) ?_
        refine s_istore dX11_gaps_34 (by decide) (by simp only [sl, sl2, rm, Value.category, reduceIte, Nat.reduceAdd, Nat.reduceEqDiff, reduceCtorEq]; rfl) ?_
        rw [t_lt0] at c8
        rw [t_le', show ((20 : Int32).toInt) = 20 from by decide] at c14
        rw [if_pos ⟨hx, by omega⟩] at hq
        exact l_gaps hC.2.1 hL.gap hL.1 (by omega) (hq T I (Tq.refl T) (fr_refl I _)) (S.1 li).2.1 1 (by omega) (by omega) (by omega)
      · refine s_bipush (v := -2) dX11_gaps_17 (by decide) ?_
        refine s_iret dX11_gaps_19 rfl ?_
        rw [t_lt0] at c8
        try rw [t_le', show ((20 : Int32).toInt) = 20 from by decide] at c14
        rw [if_neg (fun h => by omega)] at hq
        rw [zm2]
        exact hq T I (Tq.refl T) (fr_refl I _)
  · intro hx
    refine s_if_eq (tgt := 17) dX11_gaps_4 (by decide) (fun c4 => ?_) (fun c4 => absurd (rfl) c4)
    refine s_bipush (v := -2) dX11_gaps_17 (by decide) ?_
    refine s_iret dX11_gaps_19 rfl ?_
    rw [if_neg (fun h => hx h.1)] at hq
    rw [zm2]
    exact hq T I (Tq.refl T) (fr_refl I _)
theorem nbs {m len : Nat} (hl : 1 ≤ len) : ∃ nb : Nat, m ≤ nb * len ∧ (nb = 0 ∨ (nb - 1) * len < m) := by
  induction m with
  | zero => exact ⟨0, Nat.zero_le _, Or.inl rfl⟩
  | succ m ih =>
    obtain ⟨nb, h1, h2⟩ := ih
    by_cases e : m + 1 ≤ nb * len
    · exact ⟨nb, e, by rcases h2 with h | h
                       · exact Or.inl h
                       · right; omega⟩
    · refine ⟨nb + 1, ?_, Or.inr ?_⟩
      · rw [Nat.succ_mul]; omega
      · rw [Nat.add_sub_cancel]; omega
theorem hmin2 {a b c : Int32} (h : (if a ≤ b then a else b) = c) : (if b < a then b else a) = c := by
  rw [← h]
  by_cases e : a ≤ b
  · rw [if_pos e, if_neg (by rw [t_lt']; rw [t_le'] at e; omega)]
  · rw [if_neg e, if_pos (by rw [t_lt']; rw [t_le'] at e; omega)]
set_option maxRecDepth 100000 in
set_option maxHeartbeats 1000000 in
theorem l_costBy {G : fG} {x0 : Nat} {l : Launch} {d k n : Nat} {J : fJ} {Q : Option Value → fT → fI → fJ → Prop} {e1 : Int32} {li len nb : Nat} {L : LSt} (hli : li < 6) (hL : LOk L) (hlen : 1 ≤ len ∧ len ≤ 64) (hn1 : L.2.1 ≤ nb * len) (hn2 : nb = 0 ∨ (nb - 1) * len < L.2.1) : ∀ (t j : Nat) (T : fT) (I : fI), j + t = nb → CObj T → CutL T I (120 + 4 * li) L → (hq : ∀ (T' : fT) (I' : fI), Tq T T' → fr I I' [42, 43] → Q (some (.int (zI (sumB (cbyL L len nb) 5 nb)))) T' I' J) →
    PW G x0 l mX11_costBy (d + 4) (ZM G x0 Q) k n 46 [(0, .ref (x0 + 0)), (1, .int e1), (2, .int (zI len)), (3, .ref (x0 + (120 + 4 * li + 1))), (4, .int (zI (sumB (cbyL L len nb) 5 j))), (5, .int (zI ((j : Int) * (len : Int))))] [] T I J := by
  have hL2 := hL.cby hlen hn1 hn2
  have hm := hL.1
  intro t
  induction t with
  | zero =>
    intro j T I hj hO hC hq
    obtain ⟨k1, k2, k3, k4, k5, k6, k7⟩ := id hC.2.1.1
    have hjn : j = nb := by omega
    subst hjn
    have hge : (L.2.1 : Int) ≤ (j : Int) * (len : Int) := by rw [← Int.natCast_mul]; omega
    have hbd : (j : Int) * (len : Int) ≤ 1000 := by
      rw [← Int.natCast_mul]
      rcases hn2 with h | h
      · subst h; simp
      · have : j * len = (j - 1) * len + len ∨ j = 0 := by
          rcases Nat.eq_zero_or_pos j with e | e
          · exact Or.inr e
          · left; obtain ⟨q, rfl⟩ : ∃ q, j = q + 1 := ⟨j - 1, by omega⟩
            rw [Nat.add_sub_cancel, Nat.succ_mul]
        rcases this with e | e
        · omega
        · subst e; simp
    refine s_iload dX11_costBy_46 rfl ?_
    refine s_aload_n (i := 3) dX11_costBy_48 rfl rfl ?_
    refine s_getI dX11_costBy_49 fl_X11_87 (by assumption) (by assumption) ?_
    refine s_icmp_ge (tgt := 97) dX11_costBy_52 (by decide) (fun h52 => ?_) (fun h52 => absurd (by rw [t_zI hC.2.1.2.2.1, zI_le (by omega) (by omega) (by omega) (by omega)]; omega) h52)
    refine s_iload dX11_costBy_97 rfl ?_
    refine s_iret dX11_costBy_99 rfl ?_
    exact hq T I (Tq.refl T) (fr_refl I _)
  | succ t ih =>
    intro j T I hj hO hC hq
    obtain ⟨k1, k2, k3, k4, k5, k6, k7⟩ := id hC.2.1.1
    obtain ⟨⟨o1, o2, o3, o4, o5, o6, o7, o8, o9, o10, o11⟩, hLA, hTA, hVA, hPA, hGA, hNA, hEA⟩ := id hO
    have e0 : (0 : Nat) < T.1 := by omega
    have e42 : (42 : Nat) < T.1 := by omega
    have v42 := hVA.2.1
    have hb := hL2.blk (j := j) (by show j < nb; omega)
    have hb1 : (j : Int) * (len : Int) = (bf (cbyL L len nb) j : Int) := hb.1
    have hb3 := hb.2.2.1
    rw [stf_natS] at hb3
    have hb3' : (if j + 1 < nb then (((j + 1 : Nat) : Int) * (len : Int)) else (L.2.1 : Int)) = ((bf (cbyL L len nb) j + bl (cbyL L len nb) j : Nat) : Int) := hb3
    have hb6 : bf (cbyL L len nb) j + bl (cbyL L len nb) j ≤ L.2.1 := hb.2.2.2.2.2
    have hb4 := hb.2.2.2.1
    have hb5 := hb.2.2.2.2.1
    have he : ((j + 1 : Nat) : Int) * (len : Int) = (j : Int) * (len : Int) + len := by rw [Int.natCast_add, Int.add_mul]; omega
    have hge : j + 1 < nb ∨ (L.2.1 : Int) ≤ (j : Int) * (len : Int) + len := by
      rcases Nat.lt_or_ge (j + 1) nb with h | h
      · exact Or.inl h
      · right
        rw [← he, ← Int.natCast_mul, show j + 1 = nb by omega]
        omega
    rw [he] at hb3'
    have hmin : (if (zI ((j : Int) * (len : Int) + len) ≤ zI (L.2.1 : Int)) then zI ((j : Int) * (len : Int) + len) else zI (L.2.1 : Int)) = zI ((bf (cbyL L len nb) j + bl (cbyL L len nb) j : Nat) : Int) := by
      rw [← hb3', hb1]
      by_cases c : j + 1 < nb
      · rw [if_pos c] at hb3' ⊢
        rw [if_pos (by rw [zI_le (by omega) (by omega) (by omega) (by omega)]; omega)]
      · rw [if_neg c]
        by_cases c2 : zI ((bf (cbyL L len nb) j : Int) + len) ≤ zI (L.2.1 : Int)
        · rw [if_pos c2]
          rw [zI_le (by omega) (by omega) (by omega) (by omega)] at c2
          congr 1
          omega
        · rw [if_neg c2]
    refine s_iload dX11_costBy_46 rfl ?_
    refine s_aload_n (i := 3) dX11_costBy_48 rfl rfl ?_
    refine s_getI dX11_costBy_49 fl_X11_87 (by assumption) (by assumption) ?_
    refine s_icmp_ge (tgt := 97) dX11_costBy_52 (by decide) (fun h52 => absurd h52 (by rw [t_zI hC.2.1.2.2.1, hb1, zI_le (by omega) (by omega) (by omega) (by omega)]; omega)) (fun h52 => ?_)
    refine s_aload_n (i := 0) dX11_costBy_55 rfl rfl ?_
    refine s_getR dX11_costBy_56 fl_X11_41 (by assumption) (by assumption) (by assumption) ?_
    refine s_aload_n (i := 3) dX11_costBy_59 rfl rfl ?_
    refine s_iload dX11_costBy_60 rfl ?_
    refine s_iload dX11_costBy_62 rfl ?_
    refine s_iload_n (i := 2) dX11_costBy_64 rfl rfl ?_
    refine s_iadd dX11_costBy_65 ?_
    refine s_aload_n (i := 3) dX11_costBy_66 rfl rfl ?_
    refine s_getI dX11_costBy_67 fl_X11_87 (by assumption) (by assumption) ?_
    refine s_min dX11_costBy_70 wM_X11_189 (Nat.le_of_ble_eq_true rfl) ?_
    refine s_st (st2 := [.int (zI ((bf (cbyL L len nb) j + bl (cbyL L len nb) j : Nat) : Int)), .int (zI (bf (cbyL L len nb) j)), .ref (x0 + (120 + 4 * li + 1)), .ref (x0 + 42)]) (by rw [zI_add, t_zI hC.2.1.2.2.1]; rw [hmin2 hmin, hb1]) ?_
    refine s_cV_RII (My := mX0_measure) dX11_costBy_73 wM_X11_195 cb_yX0_measure ci_yX0_measure (by assumption) (by assumption) (Nat.le_of_ble_eq_true rfl) (by decide) (s_d (by omega) (c_measure (d := 0) hVA hC.2.1 hL.gap hb6 hb4 (by omega) (by omega) (by omega) (fun T1 I1 hT1 hf1 hV1 => ?_)))
    have hC1 : CutL T1 I1 (120 + 4 * li) L := CutIs.tq (CutIs.fr hC (hf1 _ (by simp; omega)) (hf1 _ (by simp; omega)) (hf1 _ (by simp; omega)) (hf1 _ (by simp; omega))) hT1 ⟨by omega, by omega⟩
    have e0' : (0 : Nat) < T1.1 := by rw [hT1.1]; exact e0
    have o2' : T1.2.1 0 = 11 := by rw [hT1.2.1]; exact o2
    have o7' : T1.2.2.2 0 4 = some 42 := by rw [hT1.2.2.2 0 4 (by omega) (by omega)]; exact o7
    have e42' : (42 : Nat) < T1.1 := by rw [hT1.1]; exact e42
    have v42' : T1.2.1 42 = 0 := by rw [hT1.2.1]; exact v42
    refine s_iload dX11_costBy_76 rfl ?_
    refine s_aload_n (i := 0) dX11_costBy_78 rfl rfl ?_
    refine s_getR dX11_costBy_79 fl_X11_41 (by assumption) (by assumption) (by assumption) ?_
    refine s_getI dX11_costBy_82 fl_X11_199 (by assumption) (by assumption) ?_
    refine s_iadd dX11_costBy_85 ?_
    refine s_topi (y := zI (sumB (cbyL L len nb) 5 (j + 1))) (by rw [t_zI hV1.2.2.2.2.2.2, zI_add]; simp only [sumB]; rw [bprop5]; rfl) ?_
    refine s_istore dX11_costBy_86 (by decide) (by simp only [sl, sl2, rm, Value.category, reduceIte, Nat.reduceAdd, Nat.reduceEqDiff, reduceCtorEq]; rfl) ?_
    refine s_iload dX11_costBy_88 rfl ?_
    refine s_iload_n (i := 2) dX11_costBy_90 rfl rfl ?_
    refine s_iadd dX11_costBy_91 ?_
    refine s_topi (y := zI (((j + 1 : Nat) : Int) * (len : Int))) (by rw [zI_add, he]) ?_
    refine s_istore dX11_costBy_92 (by decide) (by simp only [sl, sl2, rm, Value.category, reduceIte, Nat.reduceAdd, Nat.reduceEqDiff, reduceCtorEq]; rfl) ?_
    refine s_goto (tgt := 46) dX11_costBy_94 (by decide) ?_
    exact ih (j + 1) T1 I1 (by omega) (hO.tq hT1) hC1 (fun T2 I2 hT2 hf2 => hq T2 I2 (hT1.trans hT2) (fr_trans hf1 hf2))
set_option maxRecDepth 100000 in
set_option maxHeartbeats 1000000 in
theorem c_costBy {G : fG} {x0 : Nat} {l : Launch} {d k n : Nat} {T : fT} {I : fI} {J : fJ} {Q : Option Value → fT → fI → fJ → Prop} {x y : Int32} {S : ASt} (hS : ClsIs T I S) (hk : SOk S) (hq : ∀ (T' : fT) (I' : fI) (a : Int), rCost S x.toInt y.toInt a → Tq T T' → frM I I' → ClsIs T' I' S → Q (some (.int (zI a))) T' I' J) : PW G x0 l mX11_costBy (d + 5) (ZM G x0 Q) k n 0 [(0, .ref (x0 + 0)), (1, .int x), (2, .int y)] [] T I J := by
  obtain ⟨⟨o1, o2, o3, o4, o5, o6, o7, o8, o9, o10, o11⟩, hLA, hTA, hVA, hPA, hGA, hNA, hEA⟩ := id hS.1
  obtain ⟨la1, la2, la3, la4⟩ := id hLA
  have e0 : (0 : Nat) < T.1 := by omega
  have e1 : (1 : Nat) < T.1 := by omega
  have e2 : (2 : Nat) < T.1 := by omega
  have e37 : (37 : Nat) < T.1 := by omega
  have e40 : (40 : Nat) < T.1 := by omega
  have e42 : (42 : Nat) < T.1 := by omega
  have e44 : (44 : Nat) < T.1 := by omega
  have e112 : (112 : Nat) < T.1 := by omega
  have v42 := hVA.2.1
  have v44 := hPA.2.1
  have v2 := hS.2.2.1.1.2.1
  have v37 := hS.2.2.2.1.1.2.1
  have v40 := hTA.2.2.1
  have v112 := hNA.2.1
  refine s_iload_n (i := 1) dX11_costBy_0 rfl rfl ?_
  refine s_cS_I (My := mX11_isList) dX11_costBy_1 wM_X11_74 cb_yX11_isList wT_yX11_isList (Nat.le_of_ble_eq_true rfl) (by decide) (c_isList ?_ ?_)
  · intro hx
    refine s_if_eq (tgt := 14) dX11_costBy_4 (by decide) (fun c4 => absurd c4 (by decide)) (fun c4 => ?_)
    refine s_iload_n (i := 2) dX11_costBy_7 rfl rfl ?_
    refine s_cS_I (My := mX11_isPacking) dX11_costBy_8 wM_X11_101 cb_yX11_isPacking wT_yX11_isPacking (Nat.le_of_ble_eq_true rfl) (by decide) (c_isPacking ?_ ?_)
    · intro hy
      obtain ⟨li, hli, rfl⟩ := lidx hx
      have hxt : (zI (li : Int)).toInt = li := zI_t (by omega) (by omega)
      have hnl : (zI li).toNatClampNeg = li := by rw [zI_n (by omega) (by omega)]; simp
      obtain ⟨lb1, lb2⟩ := la4 li hli
      obtain ⟨k1, k2, k3, k4, k5, k6, k7, k8⟩ := id lb2
      obtain ⟨r1, r2, r3, r4, r5, r6, r7⟩ := id k8
      have hC := hS.2.1 li hli
      have hL := hk.1 li hli
      refine s_if_ne (tgt := 17) dX11_costBy_11 (by decide) (fun c11 => ?_) (fun c11 => absurd c11 (by decide))
      refine s_aload_n (i := 0) dX11_costBy_17 rfl rfl ?_
      refine s_getR dX11_costBy_18 fl_X11_11 (by assumption) (by assumption) (by assumption) ?_
      refine s_iload_n (i := 1) dX11_costBy_21 rfl rfl ?_
      refine s_aldC dX11_costBy_22 (by assumption) (by assumption) (by rw [la3]; exact z_in (by omega) (by omega) (by omega)) (by rw [hnl]; exact lb1) ?_
      refine s_getR dX11_costBy_23 fl_X11_81 (by assumption) (by assumption) (by assumption) ?_
      refine s_astore_n (i := 3) dX11_costBy_26 rfl (by decide) (by simp only [sl, sl2, rm, Value.category, reduceIte, Nat.reduceAdd, Nat.reduceEqDiff, reduceCtorEq]; rfl) ?_
      refine s_iload_n (i := 2) dX11_costBy_27 rfl rfl ?_
      refine s_if_ne (tgt := 40) dX11_costBy_28 (by decide) (fun c28 => ?_) (fun c28 => ?_)
      · refine s_iconst (v := 0) dX11_costBy_40 (by decide) ?_
        refine s_istore dX11_costBy_41 (by decide) (by simp only [sl, sl2, rm, Value.category, reduceIte, Nat.reduceAdd, Nat.reduceEqDiff, reduceCtorEq]; rfl) ?_
        refine s_iconst (v := 0) dX11_costBy_43 (by decide) ?_
        refine s_istore dX11_costBy_44 (by decide) (by simp only [sl, sl2, rm, Value.category, reduceIte, Nat.reduceAdd, Nat.reduceEqDiff, reduceCtorEq]; rfl) ?_
        have y0 : y.toInt ≠ 0 := fun h => c28 (by rw [t_zI h]; rfl)
        obtain ⟨len, hlen⟩ : ∃ len : Nat, y.toInt = len := ⟨y.toInt.toNat, by omega⟩
        have hl1 : 1 ≤ len ∧ len ≤ 64 := by omega
        obtain ⟨nb, hn1, hn2⟩ : ∃ nb : Nat, (S.1 li).2.1 ≤ nb * len ∧ (nb = 0 ∨ (nb - 1) * len < (S.1 li).2.1) := nbs (by omega)
        refine s_lv (lv' := [(0, .ref (x0 + 0)), (1, .int (zI li)), (2, .int (zI len)), (3, .ref (x0 + (120 + 4 * li + 1))), (4, .int (zI (sumB (cbyL (S.1 li) len nb) 5 0))), (5, .int (zI (((0 : Nat) : Int) * (len : Int))))]) ⟨rfl, rfl, (by rw [← hlen, zI_self]; rfl), rfl, rfl, (by rw [show ((0 : Nat) : Int) * (len : Int) = 0 by simp]; rfl), trivial⟩ ?_
        refine s_d (by omega) (l_costBy (d := 0) hli hL hl1 hn1 hn2 nb 0 T I (by omega) hS.1 hC (fun T1 I1 hT1 hf1 => ?_))
        exact hq T1 I1 _ (Or.inr ⟨li, _, hli, hxt, hy, Or.inr ⟨len, nb, hlen, hl1, hn1, hn2, rfl⟩, rfl⟩) hT1 (frM.ro (ro_of hf1)) (cls_ro hS hT1 (ro_of hf1))
      · refine s_aload_n (i := 0) dX11_costBy_31 rfl rfl ?_
        refine s_getR dX11_costBy_32 fl_X11_48 (by assumption) (by assumption) (by assumption) ?_
        refine s_aload_n (i := 3) dX11_costBy_35 rfl rfl ?_
        refine s_cV_R (My := mX8_leastCost) dX11_costBy_36 wM_X11_186 cb_yX8_leastCost ci_yX8_leastCost (by assumption) (by assumption) (Nat.le_of_ble_eq_true rfl) (by decide) (s_d (by omega) (c_leastCost (d := 0) ⟨hPA, hS.2.2.2.2.2.1⟩ (by omega) (by omega) hL.1 hL.gap hC.2.1 (fun I1 R E hf1 hv1 hPl => ?_)))
        refine s_iret dX11_costBy_39 rfl ?_
        have y0 : y.toInt = 0 := by rw [c28]; rfl
        obtain ⟨nb, hn1, hn2⟩ := plan_end hPl.1
        rw [← plan_cost hL.1 hPl.1 hn1 hn2]
        exact hq T I1 _ (Or.inr ⟨li, _, hli, hxt, hy, Or.inl ⟨y0, R, E, nb, hPl.1, hn1, hn2, rfl⟩, rfl⟩) (Tq.refl T) (fun b h1 h2 => hf1 b (by omega)) (hS.fr (fun b hb => hf1 b (by omega)) hv1)
    · intro hy
      refine s_if_ne (tgt := 17) dX11_costBy_11 (by decide) (fun c11 => absurd c11 (fun h => h rfl)) (fun c11 => ?_)
      refine s_bipush (v := -2) dX11_costBy_14 (by decide) ?_
      refine s_iret dX11_costBy_16 rfl ?_
      rw [zm2]
      exact hq T I _ (Or.inl ⟨fun h => hy h.2, rfl⟩) (Tq.refl T) (frM.refl I) hS
  · intro hx
    refine s_if_eq (tgt := 14) dX11_costBy_4 (by decide) (fun c4 => ?_) (fun c4 => absurd (rfl) c4)
    refine s_bipush (v := -2) dX11_costBy_14 (by decide) ?_
    refine s_iret dX11_costBy_16 rfl ?_
    rw [zm2]
    exact hq T I _ (Or.inl ⟨fun h => hx h.1, rfl⟩) (Tq.refl T) (frM.refl I) hS
