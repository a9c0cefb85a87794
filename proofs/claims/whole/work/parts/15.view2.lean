/-- the same but for the two references that change: the view's row, the number reader's text -/
def Tq (T T' : fT) : Prop := T'.1 = T.1 ∧ T'.2.1 = T.2.1 ∧ T'.2.2.1 = T.2.2.1 ∧ ∀ a j, ¬ (a = 42 ∧ j = 1) → ¬ (a = 112 ∧ j = 1) → T'.2.2.2 a j = T.2.2.2 a j
theorem Tq.refl (T : fT) : Tq T T := ⟨rfl, rfl, rfl, fun _ _ _ _ => rfl⟩
theorem Tq.trans {T T1 T2 : fT} (h : Tq T T1) (h2 : Tq T1 T2) : Tq T T2 := ⟨h2.1.trans h.1, h2.2.1.trans h.2.1, h2.2.2.1.trans h.2.2.1, fun a j q1 q2 => (h2.2.2.2 a j q1 q2).trans (h.2.2.2 a j q1 q2)⟩
theorem RowAt.tq {T T' : fT} {r cap : Nat} (h : RowAt T r cap) (q : Tq T T') : RowAt T' r cap := by
  obtain ⟨a1, a2, a3, a4, a5, a6, a7⟩ := h
  obtain ⟨q1, q2, q3, q4⟩ := q
  exact ⟨by omega, by omega, by rw [q2]; exact a3, by rw [q2]; exact a4, by rw [q4 _ _ (by omega) (by omega)]; exact a5, by rw [q3]; exact a6, a7⟩
theorem RowIs.tq {T T' : fT} {I : fI} {r cap m : Nat} {g : Nat → Int} (h : RowIs T I r cap g m) (q : Tq T T') : RowIs T' I r cap g m := ⟨h.1.tq q, h.2⟩
theorem CutAt.tq {T T' : fT} {c : Nat} (h : CutAt T c) (q : Tq T T') (hc : c ≠ 42 ∧ c ≠ 112) : CutAt T' c := by
  obtain ⟨a1, a2, a3, a4, a5, a6, a7, a8⟩ := h
  have hr := a8.tq q
  obtain ⟨q1, q2, q3, q4⟩ := q
  exact ⟨by omega, by rw [q2]; exact a2, by rw [q4 _ _ (by omega) (by omega)]; exact a3, by rw [q4 _ _ (by omega) (by omega)]; exact a4, by omega, by rw [q2]; exact a6, by rw [q3]; exact a7, hr⟩
theorem CutIs.tq {T T' : fT} {I : fI} {c m nb : Nat} {g s : Nat → Int} (h : CutIs T I c g m s nb) (q : Tq T T') (hc : c ≠ 42 ∧ c ≠ 112) : CutIs T' I c g m s nb := ⟨h.1.tq q hc, h.2.1.tq q, h.2.2⟩
theorem ViewAt.tq {T T' : fT} {v : Nat} (h : ViewAt T v) (q : Tq T T') : ViewAt T' v := by
  obtain ⟨a1, a2, a3, a4, a5, a6⟩ := h
  obtain ⟨q1, q2, q3, q4⟩ := q
  exact ⟨by omega, by rw [q2]; exact a2, by rw [q4 _ _ (by omega) (by omega)]; exact a3, by omega, by rw [q2]; exact a5, by rw [q3]; exact a6⟩
theorem need_succ (g : Nat → Int) (f i w : Nat) (hi : 1 ≤ i) : need g f (i + 1) w = need g f i w + if bz g (f + i) = w then 1 else 0 := by
  unfold need
  obtain ⟨q, rfl⟩ : ∃ q, i = q + 1 := ⟨i - 1, by omega⟩
  simp only [Nat.add_sub_cancel, cnt, decide_eq_true_eq, show f + 1 + q = f + (q + 1) by omega]
theorem gapz_in {g : Nat → Int} {m : Nat} (h : GapOk g m) {i : Nat} (h1 : 1 ≤ i) (h2 : i < m) : gapz g m i = gp g i ∧ 0 ≤ gapz g m i ∧ gapz g m i < 1048576 := by
  have h3 := h i h1 h2
  unfold gapz gp
  rw [if_pos (by omega)]
  simp only [Int.toNat_natCast]
  omega
set_option maxRecDepth 100000 in
set_option maxHeartbeats 4000000 in
theorem l_meas {G : fG} {x0 : Nat} {l : Launch} {d k n : Nat} {T : fT} {J : fJ} {Q : Option Value → fT → fI → fJ → Prop} {r cap m f len : Nat} {g : Nat → Int} {e1 : Nat} {e2 e3 : Int32} (hV : ViewAt T 42) (hVr : T.2.2.2 42 1 = some r) (hg : GapOk g m) (hfl : f + len ≤ m) (hl : 1 ≤ len) (hl2 : len ≤ 1000) (hm : m ≤ 100000) (hr : r + 1 < 42 ∨ 43 < r) : ∀ (z i Wd : Nat) (I : fI), len - i ≤ z → 1 ≤ i → i ≤ len → RowIs T I r cap g m → (I 42 2).toInt = f → (I 42 3).toInt = len → (∀ q, q ≤ 20 → (I 43 q).toInt = need g f i q) → Wd ≤ 20 → (∀ q, q < i - 1 → bz g (f + 1 + q) ≤ Wd) →
    (hq : ∀ I', fr I I' [42, 43] → ViewIs T I' 42 r g f len → Q none T I' J) → PW G x0 l mX0_measure (d + 2) (ZM G x0 Q) k n 31 [(0, .ref (x0 + 42)), (1, .ref e1), (2, .int e2), (3, .int e3), (4, .int (zI Wd)), (5, .int (zI i))] [] T I J := by
  obtain ⟨a1, a2, a3, a4, a5, a6⟩ := id hV
  have fin : ∀ (i Wd : Nat) (I : fI), i = len → RowIs T I r cap g m → (I 42 2).toInt = f → (I 42 3).toInt = len → (∀ q, q ≤ 20 → (I 43 q).toInt = need g f i q) → Wd ≤ 20 → (∀ q, q < i - 1 → bz g (f + 1 + q) ≤ Wd) →
    (hq : ∀ I', fr I I' [42, 43] → ViewIs T I' 42 r g f len → Q none T I' J) → PW G x0 l mX0_measure (d + 2) (ZM G x0 Q) k n 85 [(0, .ref (x0 + 42)), (1, .ref e1), (2, .int e2), (3, .int e3), (4, .int (zI Wd)), (5, .int (zI i))] [] T I J := by
    intro i Wd I hi hR h2 h3 hn hW hWd hq
    subst hi
    refine s_aload_n (i := 0) dX0_measure_85 rfl rfl ?_
    refine s_iload dX0_measure_86 rfl ?_
    refine s_cV_I (My := mX0_chooseWidth) dX0_measure_88 wM_X0_47 cb_yX0_chooseWidth ci_yX0_chooseWidth (by assumption) (by assumption) (Nat.le_of_ble_eq_true rfl) (by decide) (c_chooseWidth (g := g) (f := f) (len := i) hV hl hl2 hW h3 hn (fun I' hf y2 y3 y4 y5 y6 => ?_))
    refine s_ret dX0_measure_91 rfl ?_
    have e : bwr g f i Wd = bw g f i := (bwr_stop hl hWd 20 hW).symm
    rw [e] at y4 y5 y6
    exact hq I' (fr_sub hf (fun b hb => by simp at hb ⊢; omega)) ⟨hV, hVr, by rw [y2]; exact h2, by rw [y3]; exact h3, y4, y5, y6⟩
  intro z
  induction z with
  | zero =>
    intro i Wd I hz hi1 hi hR h2 h3 hn hW hWd hq
    refine s_iload dX0_measure_31 rfl ?_
    refine s_aload_n (i := 0) dX0_measure_33 rfl rfl ?_
    refine s_getI dX0_measure_34 fl_X0_23 (by assumption) (by assumption) ?_
    refine s_icmp_ge (tgt := 85) dX0_measure_37 (by decide) (fun h37 => ?_) (fun h37 => absurd (by rw [t_zI h3, zI_le (by omega) (by omega) (by omega) (by omega)]; omega) h37)
    exact fin i Wd I (by omega) hR h2 h3 hn hW hWd hq
  | succ z ih =>
    intro i Wd I hz hi1 hi hR h2 h3 hn hW hWd hq
    refine s_iload dX0_measure_31 rfl ?_
    refine s_aload_n (i := 0) dX0_measure_33 rfl rfl ?_
    refine s_getI dX0_measure_34 fl_X0_23 (by assumption) (by assumption) ?_
    refine s_icmp_ge (tgt := 85) dX0_measure_37 (by decide) (fun c37 => ?_) (fun c37 => ?_)
    · rw [t_zI h3, zI_le (by omega) (by omega) (by omega) (by omega)] at c37
      exact fin i Wd I (by omega) hR h2 h3 hn hW hWd hq
    · rw [t_zI h3, zI_le (by omega) (by omega) (by omega) (by omega)] at c37
      obtain ⟨k1, k2, k3, k4, k5, k6, k7⟩ := id hR.1
      have hgz := gapz_in hg (i := f + i) (by omega) (by omega)
      have hbz : bz g (f + i) ≤ 20 := bz_le hg (by omega) (by omega)
      have hnl : need g f i (bz g (f + i)) ≤ i - 1 := cnt_le _ _
      refine s_aload_n (i := 0) dX0_measure_40 rfl rfl ?_
      refine s_getR dX0_measure_41 fl_X0_15 (by assumption) (by assumption) (by assumption) ?_
      refine s_aload_n (i := 0) dX0_measure_44 rfl rfl ?_
      refine s_getI dX0_measure_45 fl_X0_19 (by assumption) (by assumption) ?_
      refine s_iload dX0_measure_48 rfl ?_
      refine s_iadd dX0_measure_50 ?_
      refine s_topi (y := zI (((f + i : Nat) : Int))) (by rw [t_zI h2, zI_add]; congr 1) ?_
      refine s_cV_I (My := mX9_gapBefore) dX0_measure_51 wM_X0_32 cb_yX9_gapBefore ci_yX9_gapBefore (by assumption) (by assumption) (Nat.le_of_ble_eq_true rfl) (by decide) (c_gap hR (by omega) (by omega) ?_)
      refine s_cSN_I (My := mX11_bitsOf) dX0_measure_54 wX_X0_38 cb_yX11_bitsOf wT_yX11_bitsOf (Nat.le_of_ble_eq_true rfl) (by decide) (c_bits hgz.2.1 hgz.2.2 ?_)
      refine s_topi (y := zI (bz g (f + i))) (by rw [hgz.1]; rfl) ?_
      refine s_istore dX0_measure_57 (by decide) (by simp only [sl, sl2, rm, Value.category, reduceIte, Nat.reduceAdd, Nat.reduceEqDiff, reduceCtorEq]; rfl) ?_
      refine s_aload_n (i := 0) dX0_measure_59 rfl rfl ?_
      refine s_getR dX0_measure_60 fl_X0_9 (by assumption) (by assumption) (by assumption) ?_
      refine s_iload dX0_measure_63 rfl ?_
      refine s_dup2 dX0_measure_65 rfl rfl ?_
      refine s_iald dX0_measure_66 (by assumption) (by assumption) (by rw [a6]; exact z_in (by omega) (by omega) (by omega)) ?_
      refine s_iconst (v := 1) dX0_measure_67 (by decide) ?_
      refine s_iadd dX0_measure_68 ?_
      refine s_iast dX0_measure_69 (by assumption) (by assumption) (by rw [a6]; exact z_in (by omega) (by omega) (by omega)) ?_
      refine s_iload dX0_measure_70 rfl ?_
      refine s_iload dX0_measure_72 rfl ?_
      refine s_max dX0_measure_74 wM_X0_41 (Nat.le_of_ble_eq_true rfl) ?_
      refine s_topi (y := zI ((Nat.max Wd (bz g (f + i)) : Nat) : Int)) ?_ ?_
      · by_cases hc : zI (Wd : Int) < zI (bz g (f + i) : Int)
        · rw [if_pos hc]
          rw [zI_lt (by omega) (by omega) (by omega) (by omega)] at hc
          rw [show Nat.max Wd (bz g (f + i)) = bz g (f + i) from Nat.max_eq_right (by omega)]
        · rw [if_neg hc]
          rw [zI_lt (by omega) (by omega) (by omega) (by omega)] at hc
          rw [show Nat.max Wd (bz g (f + i)) = Wd from Nat.max_eq_left (by omega)]
      refine s_istore dX0_measure_77 (by decide) (by simp only [sl, sl2, rm, Value.category, reduceIte, Nat.reduceAdd, Nat.reduceEqDiff, reduceCtorEq]; rfl) ?_
      refine s_iinc dX0_measure_79 rfl (zI_inc _) (by decide) (by simp only [sl, sl2, rm, Value.category, reduceIte, Nat.reduceAdd, Nat.reduceEqDiff, reduceCtorEq]; rfl) ?_
      refine s_goto (tgt := 31) dX0_measure_82 (by decide) ?_
      refine s_lv (lv' := [(0, .ref (x0 + 42)), (1, .ref e1), (2, .int e2), (3, .int e3), (4, .int (zI ((Nat.max Wd (bz g (f + i)) : Nat) : Int))), (5, .int (zI ((i + 1 : Nat) : Int)))]) ⟨rfl, rfl, rfl, rfl, rfl, rfl, trivial⟩ ?_
      refine ih (i + 1) _ _ (by omega) (by omega) (by omega) (hR.fr (iu_ne (by omega)) (iu_ne (by omega))) (by rw [iu_b (by omega)]; exact h2) (by rw [iu_b (by omega)]; exact h3) (fun q hq => ?_) (Nat.max_le.mpr ⟨hW, hbz⟩) (fun q hq => ?_) (fun I' hf hV2 => hq I' (fr_trans (fr_iu (by simp)) hf) hV2)
      · rw [need_succ g f i q hi1, zI_n (by omega) (by omega)]
        simp only [Int.toNat_natCast]
        by_cases e : bz g (f + i) = q
        · rw [if_pos e, e, iu_at, t_zI (hn q hq), z1, zI_add, zI_t (by omega) (by rw [e] at hnl; omega)]
          omega
        · rw [if_neg e, iu_j (fun x => e x.symm)]
          exact hn q hq
      · rcases Nat.lt_or_ge q (i - 1) with h | h
        · exact Nat.le_trans (hWd q h) (Nat.le_max_left _ _)
        · rw [show f + 1 + q = f + i by omega]
          exact Nat.le_max_right _ _
set_option maxRecDepth 100000 in
set_option maxHeartbeats 4000000 in
theorem c_measure {G : fG} {x0 : Nat} {l : Launch} {d k n : Nat} {T : fT} {I : fI} {J : fJ} {Q : Option Value → fT → fI → fJ → Prop} {r cap m f len : Nat} {g : Nat → Int} (hV : ViewAt T 42) (hR : RowIs T I r cap g m) (hg : GapOk g m) (hfl : f + len ≤ m) (hl : 1 ≤ len) (hl2 : len ≤ 1000) (hm : m ≤ 100000) (hr : r + 1 < 42 ∨ 43 < r) (hq : ∀ (T' : fT) (I' : fI), Tq T T' → fr I I' [42, 43] → ViewIs T' I' 42 r g f len → Q none T' I' J) : PW G x0 l mX0_measure (d + 2) (ZM G x0 Q) k n 0 [(0, .ref (x0 + 42)), (1, .ref (x0 + r)), (2, .int (zI f)), (3, .int (zI ((f + len : Nat) : Int)))] [] T I J := by
  obtain ⟨a1, a2, a3, a4, a5, a6⟩ := id hV
  refine s_aload_n (i := 0) dX0_measure_0 rfl rfl ?_
  refine s_aload_n (i := 1) dX0_measure_1 rfl rfl ?_
  refine s_putR dX0_measure_2 fp_X0_15 (Or.inl rfl) rfl rfl (by assumption) (by assumption) ?_
  have tq : Tq T (T.1, T.2.1, T.2.2.1, vu T.2.2.2 42 1 (some r)) := ⟨rfl, rfl, rfl, fun a j q1 q2 => by
    simp only [vu]
    split
    · split
      · omega
      · rfl
    · rfl⟩
  have tr : ((T.1, T.2.1, T.2.2.1, vu T.2.2.2 42 1 (some r)) : fT).2.2.2 42 1 = some r := by simp [vu]
  generalize ((T.1, T.2.1, T.2.2.1, vu T.2.2.2 42 1 (some r)) : fT) = T1 at tq tr ⊢
  have hV1 := hV.tq tq
  have hR1 := hR.tq tq
  obtain ⟨y1, y2, y3, y4, y5, y6⟩ := id hV1
  refine s_aload_n (i := 0) dX0_measure_5 rfl rfl ?_
  refine s_iload_n (i := 2) dX0_measure_6 rfl rfl ?_
  refine s_putI dX0_measure_7 fp_X0_19 (by assumption) (by assumption) ?_
  refine s_aload_n (i := 0) dX0_measure_10 rfl rfl ?_
  refine s_iload_n (i := 3) dX0_measure_11 rfl rfl ?_
  refine s_iload_n (i := 2) dX0_measure_12 rfl rfl ?_
  refine s_isub dX0_measure_13 ?_
  refine s_topi (y := zI len) (by rw [zI_sub]; congr 1; omega) ?_
  refine s_putI dX0_measure_14 fp_X0_23 (by assumption) (by assumption) ?_
  refine s_aload_n (i := 0) dX0_measure_17 rfl rfl ?_
  refine s_getR dX0_measure_18 fl_X0_9 (by assumption) (by assumption) (by assumption) ?_
  refine s_iconst (v := 0) dX0_measure_21 (by decide) ?_
  refine s_cS_RI (My := mJ7_fill_53178) dX0_measure_22 wM_X0_26 cb_yJ7_fill_53178 wT_yJ7_fill_53178 (Nat.le_of_ble_eq_true rfl) (by decide) (c_fill (N := 21) (by assumption) (by assumption) (by assumption) (by omega) (fun I1 hf1 hz1 => ?_))
  have w2 : (I1 42 2).toInt = f := by rw [hf1 42 (by simp), iu_j (by omega), iu_at]; exact zI_t (by omega) (by omega)
  have w3 : (I1 42 3).toInt = len := by rw [hf1 42 (by simp), iu_at]; exact zI_t (by omega) (by omega)
  have hRr := hR1.fr (I' := I1) ((hf1 r (by simp; omega)).trans ((iu_ne (by omega)).trans (iu_ne (by omega)))) ((hf1 (r + 1) (by simp; omega)).trans ((iu_ne (by omega)).trans (iu_ne (by omega))))
  refine s_iconst (v := 0) dX0_measure_25 (by decide) ?_
  refine s_istore dX0_measure_26 (by decide) (by simp only [sl, sl2, rm, Value.category, reduceIte, Nat.reduceAdd, Nat.reduceEqDiff, reduceCtorEq]; rfl) ?_
  refine s_iconst (v := 1) dX0_measure_28 (by decide) ?_
  refine s_istore dX0_measure_29 (by decide) (by simp only [sl, sl2, rm, Value.category, reduceIte, Nat.reduceAdd, Nat.reduceEqDiff, reduceCtorEq]; rfl) ?_
  refine l_meas hV1 tr hg hfl hl hl2 hm hr len 1 0 I1 (by omega) (by omega) hl hRr w2 w3 (fun q hq => ?_) (by omega) (fun q hq => absurd hq (by omega)) (fun I' hf hV2 => hq T1 I' tq (fr_trans (fr_trans (fr_trans (fr_iu (by simp)) (fr_iu (by simp))) (fr_sub hf1 (fun b hb => by simp at hb ⊢; omega))) hf) hV2)
  rw [hz1 q (by omega)]
  rfl
def wordsN (g : Nat → Int) (f len : Nat) : Nat := (bw g f len * (len - 1) + 31) / 32
theorem bw_le (g : Nat → Int) (f len : Nat) : bw g f len ≤ 20 := bwr_le g f len 20
set_option maxRecDepth 100000 in
set_option maxHeartbeats 4000000 in
theorem c_words {G : fG} {x0 : Nat} {l : Launch} {d k n : Nat} {T : fT} {I : fI} {J : fJ} {Q : Option Value → fT → fI → fJ → Prop} {v r f len : Nat} {g : Nat → Int} (hV : ViewIs T I v r g f len) (hl : 1 ≤ len) (hl2 : len ≤ 1000) (hq : Q (some (.int (zI (wordsN g f len)))) T I J) : PW G x0 l mX0_words d (ZM G x0 Q) k n 0 [(0, .ref (x0 + v))] [] T I J := by
  obtain ⟨hA, hVr, v2, v3, v4, v5, v6⟩ := id hV
  obtain ⟨a1, a2, a3, a4, a5, a6⟩ := id hA
  have hb := bw_le g f len
  have hmul : bw g f len * (len - 1) ≤ 20 * 1000 := Nat.mul_le_mul hb (by omega)
  have hc : (bw g f len : Int) * ((len : Int) - 1) = ((bw g f len * (len - 1) : Nat) : Int) := by rw [Int.natCast_mul]; congr 1; omega
  refine s_aload_n (i := 0) dX0_words_0 rfl rfl ?_
  refine s_getI dX0_words_1 fl_X0_51 (by assumption) (by assumption) ?_
  refine s_aload_n (i := 0) dX0_words_4 rfl rfl ?_
  refine s_getI dX0_words_5 fl_X0_23 (by assumption) (by assumption) ?_
  refine s_iconst (v := 1) dX0_words_8 (by decide) ?_
  refine s_isub dX0_words_9 ?_
  refine s_imul dX0_words_10 ?_
  refine s_bipush (v := 32) dX0_words_11 (by decide) ?_
  refine s_iadd dX0_words_13 ?_
  refine s_iconst (v := 1) dX0_words_14 (by decide) ?_
  refine s_isub dX0_words_15 ?_
  refine s_topi (y := zI (((bw g f len * (len - 1) + 31 : Nat) : Int))) (by rw [t_zI v4, t_zI v3, z1, zI_sub, zI_mul]; show zI _ + zI 32 - zI 1 = _; rw [zI_add, zI_sub, hc]; congr 1; omega) ?_
  refine s_bipush (v := 32) dX0_words_16 (by decide) ?_
  refine s_idiv dX0_words_18 (by decide) ?_
  refine s_iret dX0_words_19 rfl ?_
  show Q (some (.int (zI _ / zI 32))) T I J
  rw [zI_div (by omega) (by omega) (by omega) (by omega)]
  exact hq
set_option maxRecDepth 100000 in
set_option maxHeartbeats 4000000 in
theorem c_high {G : fG} {x0 : Nat} {l : Launch} {d k n : Nat} {T : fT} {I : fI} {J : fJ} {Q : Option Value → fT → fI → fJ → Prop} {v r cap m f len i : Nat} {g : Nat → Int} (hV : ViewIs T I v r g f len) (hR : RowIs T I r cap g m) (hg : GapOk g m) (hm : m ≤ 100000) (hfl : f + len ≤ m) (hi : 1 ≤ i) (hi2 : i < len) (hq : Q (some (.int (zI ((gp g (f + i) / 2 ^ bw g f len : Nat) : Int)))) T I J) : PW G x0 l mX0_highPart (d + 1) (ZM G x0 Q) k n 0 [(0, .ref (x0 + v)), (1, .int (zI i))] [] T I J := by
  obtain ⟨hA, hVr, v2, v3, v4, v5, v6⟩ := id hV
  obtain ⟨a1, a2, a3, a4, a5, a6⟩ := id hA
  obtain ⟨k1, k2, k3, k4, k5, k6, k7⟩ := id hR.1
  have hb := bw_le g f len
  have hgz := gapz_in hg (i := f + i) (by omega) (by omega)
  refine s_aload_n (i := 0) dX0_highPart_0 rfl rfl ?_
  refine s_getR dX0_highPart_1 fl_X0_15 (by assumption) (by assumption) (by assumption) ?_
  refine s_aload_n (i := 0) dX0_highPart_4 rfl rfl ?_
  refine s_getI dX0_highPart_5 fl_X0_19 (by assumption) (by assumption) ?_
  refine s_iload_n (i := 1) dX0_highPart_8 rfl rfl ?_
  refine s_iadd dX0_highPart_9 ?_
  refine s_topi (y := zI (((f + i : Nat) : Int))) (by rw [t_zI v2, zI_add]; congr 1) ?_
  refine s_cV_I (My := mX9_gapBefore) dX0_highPart_10 wM_X0_32 cb_yX9_gapBefore ci_yX9_gapBefore (by assumption) (by assumption) (Nat.le_of_ble_eq_true rfl) (by decide) (c_gap hR (by omega) (by omega) ?_)
  refine s_aload_n (i := 0) dX0_highPart_13 rfl rfl ?_
  refine s_getI dX0_highPart_14 fl_X0_51 (by assumption) (by assumption) ?_
  refine s_ishr dX0_highPart_17 ?_
  refine s_iret dX0_highPart_18 rfl ?_
  rw [t_zI v4, zI_shr hgz.2.1 (by omega) (by omega) (by omega), hgz.1]
  simp only [Int.toNat_natCast]
  exact hq
