set_option maxRecDepth 100000 in
set_option maxHeartbeats 1000000 in
theorem c_measured {G : fG} {x0 : Nat} {l : Launch} {d k n : Nat} {T : fT} {I : fI} {J : fJ} {Q : Option Value → fT → fI → fJ → Prop} {li j : Nat} {L : LSt} (hO : CObj T) (hli : li < 6) (hC : CutL T I (120 + 4 * li) L) (hL : LOk L) (hj : j < L.2.2.2) (hq : ∀ (T' : fT) (I' : fI), Tq T T' → fr I I' [42, 43] → ViewIs T' I' 42 (120 + 4 * li + 1) L.1 (bf L j) (bl L j) → Q (some (.ref (x0 + 42))) T' I' J) : PW G x0 l mX11_measured (d + 3) (ZM G x0 Q) k n 0 [(0, .ref (x0 + 0)), (1, .ref (x0 + (120 + 4 * li))), (2, .int (zI j))] [] T I J := by
  obtain ⟨⟨o1, o2, o3, o4, o5, o6, o7, o8, o9, o10, o11⟩, hLA, hTA, hVA, hPA, hGA, hNA, hEA⟩ := id hO
  obtain ⟨la1, la2, la3, la4⟩ := id hLA
  have e0 : (0 : Nat) < T.1 := by omega
  have e1 : (1 : Nat) < T.1 := by omega
  have e42 : (42 : Nat) < T.1 := by omega
  have e44 : (44 : Nat) < T.1 := by omega
  have v42 := hVA.2.1
  have v44 := hPA.2.1
  have hxt : (zI (li : Int)).toInt = li := zI_t (by omega) (by omega)
  have hnl : (zI li).toNatClampNeg = li := by rw [zI_n (by omega) (by omega)]; simp
  obtain ⟨lb1, lb2⟩ := la4 li hli
  obtain ⟨k1, k2, k3, k4, k5, -⟩ := id lb2
  have hb := hL.blk hj
  have hm := hL.1
  have hnm := hL.nbm
  refine s_aload_n (i := 0) dX11_measured_0 rfl rfl ?_
  refine s_getR dX11_measured_1 fl_X11_41 (by assumption) (by assumption) (by assumption) ?_
  refine s_aload_n (i := 1) dX11_measured_4 rfl rfl ?_
  refine s_getR dX11_measured_5 fl_X11_81 (by assumption) (by assumption) (by assumption) ?_
  refine s_aload_n (i := 1) dX11_measured_8 rfl rfl ?_
  refine s_iload_n (i := 2) dX11_measured_9 rfl rfl ?_
  refine s_cV_I (My := mX2_startOf) dX11_measured_10 wM_X11_289 cb_yX2_startOf ci_yX2_startOf (by assumption) (by assumption) (Nat.le_of_ble_eq_true rfl) (by decide) (c_startOf hC (by omega) (by omega) ?_)
  rw [hb.2.1]
  refine s_aload_n (i := 1) dX11_measured_13 rfl rfl ?_
  refine s_iload_n (i := 2) dX11_measured_14 rfl rfl ?_
  refine s_iconst (v := 1) dX11_measured_15 (by decide) ?_
  refine s_iadd dX11_measured_16 ?_
  refine s_topi (y := zI ((j : Int) + 1)) (by rw [z1, zI_add]) ?_
  refine s_cV_I (My := mX2_startOf) dX11_measured_17 wM_X11_289 cb_yX2_startOf ci_yX2_startOf (by assumption) (by assumption) (Nat.le_of_ble_eq_true rfl) (by decide) (c_startOf hC (by omega) (by omega) ?_)
  rw [hb.2.2.1]
  refine s_cV_RII (My := mX0_measure) dX11_measured_20 wM_X11_195 cb_yX0_measure ci_yX0_measure (by assumption) (by assumption) (Nat.le_of_ble_eq_true rfl) (by decide) (s_d (by omega) (c_measure (d := 0) hVA hC.2.1 hL.gap hb.2.2.2.2.2 hb.2.2.2.1 (by omega) (by omega) (by omega) (fun T1 I1 hT1 hf1 hV1 => ?_)))
  have e0' : (0 : Nat) < T1.1 := by rw [hT1.1]; exact e0
  have o2' : T1.2.1 0 = 11 := by rw [hT1.2.1]; exact o2
  have o7' : T1.2.2.2 0 4 = some 42 := by rw [hT1.2.2.2 0 4 (by omega) (by omega)]; exact o7
  refine s_aload_n (i := 0) dX11_measured_23 rfl rfl ?_
  refine s_getR dX11_measured_24 fl_X11_41 (by assumption) (by assumption) (by assumption) ?_
  refine s_aret dX11_measured_27 rfl ?_
  exact hq T1 I1 hT1 hf1 hV1
/-- the sum of a property over the blocks -/
def sumB (L : LSt) (z : Int) : Nat → Int
  | 0 => 0
  | j + 1 => sumB L z j + bprop L.1 (bf L j) (bl L j) z
set_option maxRecDepth 100000 in
set_option maxHeartbeats 1000000 in
theorem l_sumB {G : fG} {x0 : Nat} {l : Launch} {d k n : Nat} {J : fJ} {Q : Option Value → fT → fI → fJ → Prop} {li : Nat} {L : LSt} {x : Int32} (hli : li < 6) (hL : LOk L) : ∀ (z j : Nat) (T : fT) (I : fI), j + z = L.2.2.2 → CObj T → CutL T I (120 + 4 * li) L → (hq : ∀ (T' : fT) (I' : fI), Tq T T' → fr I I' [42, 43] → Q (some (.int (zI (sumB L x.toInt L.2.2.2)))) T' I' J) →
    PW G x0 l mX11_sumOfBlocks (d + 4) (ZM G x0 Q) k n 5 [(0, .ref (x0 + 0)), (1, .ref (x0 + (120 + 4 * li))), (2, .int x), (3, .int (zI (sumB L x.toInt j))), (4, .int (zI j))] [] T I J := by
  have hnm := hL.nbm
  have hm := hL.1
  intro z
  induction z with
  | zero =>
    intro j T I hz hO hC hq
    obtain ⟨⟨o1, o2, o3, o4, o5, o6, o7, o8, o9, o10, o11⟩, hLA, hTA, hVA, hPA, hGA, hNA, hEA⟩ := id hO
    obtain ⟨la1, la2, la3, la4⟩ := id hLA
    have e0 : (0 : Nat) < T.1 := by omega
    have e1 : (1 : Nat) < T.1 := by omega
    have e42 : (42 : Nat) < T.1 := by omega
    have e44 : (44 : Nat) < T.1 := by omega
    have v42 := hVA.2.1
    have v44 := hPA.2.1
    have hxt : (zI (li : Int)).toInt = li := zI_t (by omega) (by omega)
    have hnl : (zI li).toNatClampNeg = li := by rw [zI_n (by omega) (by omega)]; simp
    obtain ⟨lb1, lb2⟩ := la4 li hli
    obtain ⟨k1, k2, k3, k4, k5, -⟩ := id lb2
    refine s_iload dX11_sumOfBlocks_5 rfl ?_
    refine s_aload_n (i := 1) dX11_sumOfBlocks_7 rfl rfl ?_
    refine s_getI dX11_sumOfBlocks_8 fl_X11_147 (by assumption) (by assumption) ?_
    refine s_icmp_ge (tgt := 34) dX11_sumOfBlocks_11 (by decide) (fun h11 => ?_) (fun h11 => absurd (by rw [t_zI hC.2.2.2.1, zI_le (by omega) (by omega) (by omega) (by omega)]; omega) h11)
    refine s_iload_n (i := 3) dX11_sumOfBlocks_34 rfl rfl ?_
    refine s_iret dX11_sumOfBlocks_35 rfl ?_
    have hj : j = L.2.2.2 := by omega
    rw [hj]
    exact hq T I (Tq.refl T) (fr_refl I _)
  | succ z ih =>
    intro j T I hz hO hC hq
    obtain ⟨⟨o1, o2, o3, o4, o5, o6, o7, o8, o9, o10, o11⟩, hLA, hTA, hVA, hPA, hGA, hNA, hEA⟩ := id hO
    obtain ⟨la1, la2, la3, la4⟩ := id hLA
    have e0 : (0 : Nat) < T.1 := by omega
    have e1 : (1 : Nat) < T.1 := by omega
    have e42 : (42 : Nat) < T.1 := by omega
    have e44 : (44 : Nat) < T.1 := by omega
    have v42 := hVA.2.1
    have v44 := hPA.2.1
    have hxt : (zI (li : Int)).toInt = li := zI_t (by omega) (by omega)
    have hnl : (zI li).toNatClampNeg = li := by rw [zI_n (by omega) (by omega)]; simp
    obtain ⟨lb1, lb2⟩ := la4 li hli
    obtain ⟨k1, k2, k3, k4, k5, -⟩ := id lb2
    have hb := hL.blk (j := j) (by omega)
    refine s_iload dX11_sumOfBlocks_5 rfl ?_
    refine s_aload_n (i := 1) dX11_sumOfBlocks_7 rfl rfl ?_
    refine s_getI dX11_sumOfBlocks_8 fl_X11_147 (by assumption) (by assumption) ?_
    refine s_icmp_ge (tgt := 34) dX11_sumOfBlocks_11 (by decide) (fun h11 => absurd h11 (by rw [t_zI hC.2.2.2.1, zI_le (by omega) (by omega) (by omega) (by omega)]; omega)) (fun h11 => ?_)
    refine s_iload_n (i := 3) dX11_sumOfBlocks_14 rfl rfl ?_
    refine s_aload_n (i := 0) dX11_sumOfBlocks_15 rfl rfl ?_
    refine s_aload_n (i := 1) dX11_sumOfBlocks_16 rfl rfl ?_
    refine s_iload dX11_sumOfBlocks_17 rfl ?_
    refine s_cV_RI (My := mX11_measured) dX11_sumOfBlocks_19 wM_X11_157 cb_yX11_measured ci_yX11_measured (by assumption) (by assumption) (Nat.le_of_ble_eq_true rfl) (by decide) (s_d (by omega) (c_measured (d := 0) hO hli hC hL (by omega) (fun T1 I1 hT1 hf1 hV1 => ?_)))
    have hC1 : CutL T1 I1 (120 + 4 * li) L := CutIs.tq (CutIs.fr hC (hf1 _ (by simp; omega)) (hf1 _ (by simp; omega)) (hf1 _ (by simp; omega)) (hf1 _ (by simp; omega))) hT1 ⟨by omega, by omega⟩
    have e42' : (42 : Nat) < T1.1 := by rw [hT1.1]; exact e42
    have v42' : T1.2.1 42 = 0 := by rw [hT1.2.1]; exact v42
    refine s_iload_n (i := 2) dX11_sumOfBlocks_22 rfl rfl ?_
    refine s_cV_I (My := mX0_property) dX11_sumOfBlocks_23 wM_X11_161 cb_yX0_property ci_yX0_property (by assumption) (by assumption) (Nat.le_of_ble_eq_true rfl) (by decide) (s_d (by omega) (c_prop (d := 0) hV1 (hC1.2.1) hb.2.2.2.2.2 hb.2.2.2.1 (by omega) ?_))
    refine s_iadd dX11_sumOfBlocks_26 ?_
    refine s_topi (y := zI (sumB L x.toInt (j + 1))) (by rw [zI_add]; rfl) ?_
    refine s_istore_n (i := 3) dX11_sumOfBlocks_27 rfl (by decide) (by simp only [sl, sl2, rm, Value.category, reduceIte, Nat.reduceAdd, Nat.reduceEqDiff, reduceCtorEq]; rfl) ?_
    refine s_iinc dX11_sumOfBlocks_28 rfl (zI_inc _) (by decide) (by simp only [sl, sl2, rm, Value.category, reduceIte, Nat.reduceAdd, Nat.reduceEqDiff, reduceCtorEq]; rfl) ?_
    refine s_goto (tgt := 5) dX11_sumOfBlocks_31 (by decide) ?_
    exact ih (j + 1) T1 I1 (by omega) (hO.tq hT1) hC1 (fun T2 I2 hT2 hf2 => hq T2 I2 (hT1.trans hT2) (fr_trans hf1 hf2))
set_option maxRecDepth 100000 in
set_option maxHeartbeats 1000000 in
theorem c_sumB {G : fG} {x0 : Nat} {l : Launch} {d k n : Nat} {T : fT} {I : fI} {J : fJ} {Q : Option Value → fT → fI → fJ → Prop} {li : Nat} {L : LSt} {x : Int32} (hli : li < 6) (hL : LOk L) (hO : CObj T) (hC : CutL T I (120 + 4 * li) L) (hq : ∀ (T' : fT) (I' : fI), Tq T T' → fr I I' [42, 43] → Q (some (.int (zI (sumB L x.toInt L.2.2.2)))) T' I' J) : PW G x0 l mX11_sumOfBlocks (d + 4) (ZM G x0 Q) k n 0 [(0, .ref (x0 + 0)), (1, .ref (x0 + (120 + 4 * li))), (2, .int x)] [] T I J := by
  refine s_iconst (v := 0) dX11_sumOfBlocks_0 (by decide) ?_
  refine s_istore_n (i := 3) dX11_sumOfBlocks_1 rfl (by decide) (by simp only [sl, sl2, rm, Value.category, reduceIte, Nat.reduceAdd, Nat.reduceEqDiff, reduceCtorEq]; rfl) ?_
  refine s_iconst (v := 0) dX11_sumOfBlocks_2 (by decide) ?_
  refine s_istore dX11_sumOfBlocks_3 (by decide) (by simp only [sl, sl2, rm, Value.category, reduceIte, Nat.reduceAdd, Nat.reduceEqDiff, reduceCtorEq]; rfl) ?_
  exact l_sumB hli hL L.2.2.2 0 T I (by omega) hO hC hq
/-- the list that a plan gives -/
def planL (g : Nat → Int) (m : Nat) (E : Nat → Nat) (nb : Nat) : LSt := (g, m, fun j => (pst E j : Int), nb)
theorem GapOk.of {g : Nat → Int} {m : Nat} (hs : Sorted g m) (hv : ∀ q, q < m → 0 ≤ g q ∧ g q ≤ 999999) : GapOk g m := fun i h1 h2 => by
  have := hs (i - 1) i (by omega) h2
  have := hv i h2
  have := hv (i - 1) (by omega)
  omega
theorem pst_lt {g : Nat → Int} {m : Nat} {R : Nat → Int} {E : Nat → Nat} (h : Plan g m R E) {nb : Nat} (hn : ∀ j, j < nb → pst E j < m) {j : Nat} (hj : j < nb) : pst E j < pst E (j + 1) ∧ pst E (j + 1) ≤ pst E j + 64 := by
  have := h.2 _ (hn j hj)
  simp only [pst]
  omega
theorem LOk.plan {g : Nat → Int} {m : Nat} {R : Nat → Int} {E : Nat → Nat} {nb : Nat} (hm : m ≤ 200) (hs : Sorted g m) (hv : ∀ q, q < m → 0 ≤ g q ∧ g q ≤ 999999) (h : Plan g m R E) (he : pst E nb = m) (hn : ∀ j, j < nb → pst E j < m) : LOk (planL g m E nb) := by
  have mono : ∀ t i, i + t < nb → pst E i ≤ pst E (i + t) := by
    intro t
    induction t with
    | zero => intro i _; exact Nat.le_refl _
    | succ t ih =>
      intro i hi
      have h1 := ih i (by omega)
      have h2 := (pst_lt h hn (j := i + t) (by omega)).1
      rw [show i + (t + 1) = i + t + 1 by omega]
      omega
  refine ⟨hm, hs, hv, rfl, ⟨fun j hj => ⟨by dsimp only [planL]; omega, by have := hn j hj; dsimp only [planL]; omega⟩, fun i j hij hj => ?_⟩, fun j hj => ?_, fun hp => ?_⟩
  · have h1 := (pst_lt h hn (j := i) (by dsimp only [planL] at hj; omega)).1
    have h2 := mono (j - i - 1) (i + 1) (by dsimp only [planL] at hj; omega)
    rw [show i + 1 + (j - i - 1) = j by omega] at h2
    dsimp only [planL]
    omega
  · have hj' : j < nb := hj
    have h1 := pst_lt h hn hj'
    have h2 : stf (fun j => (pst E j : Int)) nb m ((j : Int) + 1) = (pst E (j + 1) : Int) := by
      unfold stf
      by_cases e : j + 1 < nb
      · rw [if_pos (by omega), show ((j : Int) + 1).toNat = j + 1 by omega]
      · rw [if_neg (by omega), show j + 1 = nb by omega, he]
    show (pst E j : Int) < stf (fun j => (pst E j : Int)) nb m ((j : Int) + 1) ∧ stf (fun j => (pst E j : Int)) nb m ((j : Int) + 1) ≤ (pst E j : Int) + 64
    rw [h2]
    omega
  · dsimp only [planL] at hp ⊢
    rcases Nat.eq_zero_or_pos nb with e | e
    · subst e; have : pst E 0 = 0 := rfl; omega
    · exact e
set_option maxRecDepth 100000 in
set_option maxHeartbeats 1000000 in
theorem c_replace {G : fG} {x0 : Nat} {l : Launch} {d k n : Nat} {T : fT} {I : fI} {J : fJ} {Q : Option Value → fT → fI → fJ → Prop} {li r cap m : Nat} {g : Nat → Int} {S : ASt} (hS : ClsIs T I S) (hli : li < 6) (hr : r = 113 ∨ r = 164) (hR : RowIs T I r cap g m) (hm : m ≤ 200) (hg : GapOk g m) (hq : ∀ (I' : fI) (R : Nat → Int) (E : Nat → Nat) (nb : Nat), frM I I' → Plan g m R E → pst E nb = m → (∀ j, j < nb → pst E j < m) → ClsIs T I' (updL S.1 li (planL g m E nb), ((li, S.1 li) :: S.2.1).take 8, (S.2.2.1.1.filter (fun e => decide (e.1 ≠ (li : Int))), S.2.2.1.2), S.2.2.2) → Q none T I' J) : PW G x0 l mX11_replaceNumbers (d + 5) (ZM G x0 Q) k n 0 [(0, .ref (x0 + 0)), (1, .int (zI li)), (2, .ref (x0 + r))] [] T I J := by
  obtain ⟨⟨o1, o2, o3, o4, o5, o6, o7, o8, o9, o10, o11⟩, hLA, hTA, hVA, hPA, hGA, hNA, hEA⟩ := id hS.1
  obtain ⟨la1, la2, la3, la4⟩ := id hLA
  have e0 : (0 : Nat) < T.1 := by omega
  have e1 : (1 : Nat) < T.1 := by omega
  have e42 : (42 : Nat) < T.1 := by omega
  have e44 : (44 : Nat) < T.1 := by omega
  have v42 := hVA.2.1
  have v44 := hPA.2.1
  have hxt : (zI (li : Int)).toInt = li := zI_t (by omega) (by omega)
  have hnl : (zI li).toNatClampNeg = li := by rw [zI_n (by omega) (by omega)]; simp
  obtain ⟨lb1, lb2⟩ := la4 li hli
  obtain ⟨k1, k2, k3, k4, k5, -⟩ := id lb2
  have hC := hS.2.1 li hli
  refine s_aload_n (i := 0) dX11_replaceNumbers_0 rfl rfl ?_
  refine s_iload_n (i := 1) dX11_replaceNumbers_1 rfl rfl ?_
  refine s_cV_I (My := mX11_beginChange) dX11_replaceNumbers_2 wM_X11_91 cb_yX11_beginChange ci_yX11_beginChange (by assumption) (by assumption) (Nat.le_of_ble_eq_true rfl) (by decide) (s_d (by omega) (c_begin (d := 0) hS hli (fun I1 hM1 hS1 hb1 => ?_)))
  refine s_aload_n (i := 0) dX11_replaceNumbers_5 rfl rfl ?_
  refine s_getR dX11_replaceNumbers_6 fl_X11_11 (by assumption) (by assumption) (by assumption) ?_
  refine s_iload_n (i := 1) dX11_replaceNumbers_9 rfl rfl ?_
  refine s_aldC dX11_replaceNumbers_10 (by assumption) (by assumption) (by rw [la3]; exact z_in (by omega) (by omega) (by omega)) (by rw [hnl]; exact lb1) ?_
  refine s_getR dX11_replaceNumbers_11 fl_X11_81 (by assumption) (by assumption) (by assumption) ?_
  refine s_aload_n (i := 2) dX11_replaceNumbers_14 rfl rfl ?_
  have kr := lb2.2.2.2.2.2.2.2.1
  have kr2 := lb2.2.2.2.2.2.2.2.2.2.1
  refine s_cV_R (My := mX9_copyFrom) dX11_replaceNumbers_15 wM_X11_285 cb_yX9_copyFrom ci_yX9_copyFrom (by assumption) (by assumption) (Nat.le_of_ble_eq_true rfl) (by decide) (s_d (by omega) (c_rowCopy (d := 0) (r := 120 + 4 * li + 1) lb2.2.2.2.2.2.2.2 (hR.fr (hb1 _ (by omega)) (hb1 _ (by omega))) (by omega) hm (fun I2 hf2 hR2 => ?_)))
  have hC1 := hS1.2.1 li hli
  have hC2 : CutIs T I2 (120 + 4 * li) g m (S.1 li).2.2.1 (S.1 li).2.2.2 := ⟨lb2, hR2, hC1.2.2.1, by rw [hf2 _ (by simp; omega)]; exact hC1.2.2.2.1, fun j hj => by rw [hf2 _ (by simp)]; exact hC1.2.2.2.2 j hj⟩
  have hw2 : PackW I2 := fun w hw => by rw [hf2 _ (by simp; omega), hb1 _ (by omega)]; exact hS.2.2.2.2.2.1 w hw
  refine s_aload_n (i := 0) dX11_replaceNumbers_18 rfl rfl ?_
  refine s_getR dX11_replaceNumbers_19 fl_X11_48 (by assumption) (by assumption) (by assumption) ?_
  refine s_aload_n (i := 0) dX11_replaceNumbers_22 rfl rfl ?_
  refine s_getR dX11_replaceNumbers_23 fl_X11_11 (by assumption) (by assumption) (by assumption) ?_
  refine s_iload_n (i := 1) dX11_replaceNumbers_26 rfl rfl ?_
  refine s_aldC dX11_replaceNumbers_27 (by assumption) (by assumption) (by rw [la3]; exact z_in (by omega) (by omega) (by omega)) (by rw [hnl]; exact lb1) ?_
  refine s_cV_R (My := mX8_cut) dX11_replaceNumbers_28 wM_X11_104 cb_yX8_cut ci_yX8_cut (by assumption) (by assumption) (Nat.le_of_ble_eq_true rfl) (by decide) (s_d (by omega) (c_pcut (d := 0) (c := 120 + 4 * li) ⟨hPA, hw2⟩ (by omega) hm hg hC2 (fun I3 R E nb hf3 hP3 hPl he hn hC3 => ?_)))
  refine s_ret dX11_replaceNumbers_31 rfl ?_
  have z12 : ∀ b, ¬ (120 + 4 * li ≤ b ∧ b < 120 + 4 * li + 4) → I2 b = I1 b := fun b hb => hf2 b (by simp; omega)
  have z3 : ∀ b, (b < 45 ∨ b = 47 ∨ 110 < b) → ¬ (120 + 4 * li ≤ b ∧ b < 120 + 4 * li + 4) → I3 b = I1 b := fun b h1 h2 => (hf3 b h1 (by omega) (by omega)).trans (z12 b h2)
  exact hq I3 R E nb (fun b h1 h2 => (z3 b (by omega) (by omega)).trans (hM1 b h1 h2)) hPl he hn ⟨hS.1, hS1.2.1.upd hli (fun b h1 h2 h3 => z3 b (by omega) (by omega)) hC3, hS1.2.2.1.fr (fun b hb => by have := histS_lt hb; exact z3 b (by omega) (by omega)), hS1.2.2.2.1.fr (z3 _ (by omega) (by omega)) (z3 _ (by omega) (by omega)) (z3 _ (by omega) (by omega)), RowIs.fr hS1.2.2.2.2.1 (z3 _ (by omega) (by omega)) (z3 _ (by omega) (by omega)), hP3.2, hS1.2.2.2.2.2.2.fr (z3 _ (by omega) (by omega)) (z3 _ (by omega) (by omega)) (z3 _ (by omega) (by omega))⟩
