theorem zm2 : (-2 : Int32) = zI (-2) := by decide
theorem zm3 : (-3 : Int32) = zI (-3) := by decide
theorem zm4 : (-4 : Int32) = zI (-4) := by decide
theorem ClsIs.chgd {T : fT} {I1 I2 : fI} {S : ASt} {li : Nat} {L' : LSt} {H : List (Nat × LSt)} {C : List (Int × Int) × Nat × Nat} {X : ((Nat → Int) × Nat) × Option (List Int × Int)} (hS1 : ClsIs T I1 (S.1, H, C, X)) (hli : li < 6) (z2 : ∀ b, ¬ (120 + 4 * li ≤ b ∧ b < 120 + 4 * li + 4) → I2 b = I1 b) (hC : CutL T I2 (120 + 4 * li) L') : ClsIs T I2 (updL S.1 li L', H, C, X) := ⟨hS1.1, hS1.2.1.upd hli (fun b h1 h2 h3 => z2 b (by omega)) hC, hS1.2.2.1.fr (fun b hb => by have := histS_lt hb; exact z2 b (by omega)), hS1.2.2.2.1.fr (z2 _ (by omega)) (z2 _ (by omega)) (z2 _ (by omega)), RowIs.fr hS1.2.2.2.2.1 (z2 _ (by omega)) (z2 _ (by omega)), fun w hw => by rw [z2 _ (by omega)]; exact hS1.2.2.2.2.2.1 w hw, hS1.2.2.2.2.2.2.fr (z2 _ (by omega)) (z2 _ (by omega)) (z2 _ (by omega))⟩
theorem CutL.nil {T : fT} {I : fI} {c m nb : Nat} {g s s' : Nat → Int} (h : CutIs T I c g m s nb) (hn : nb = 0) : CutIs T I c g m s' nb := ⟨h.1, h.2.1, h.2.2.1, h.2.2.2.1, fun j hj => absurd hj (by omega)⟩
set_option maxRecDepth 100000 in
set_option maxHeartbeats 1000000 in
theorem c_add {G : fG} {x0 : Nat} {l : Launch} {d k n : Nat} {T : fT} {I : fI} {J : fJ} {Q : Option Value → fT → fI → fJ → Prop} {x y : Int32} {S : ASt} (hS : ClsIs T I S) (hk : SOk S) (hq : ∀ (T' : fT) (I' : fI) (a : Int) (S' : ASt), rAdd S x.toInt y.toInt a S' → Tq T T' → frM I I' → ClsIs T' I' S' → Q (some (.int (zI a))) T' I' J) : PW G x0 l mX11_add (d + 5) (ZM G x0 Q) k n 0 [(0, .ref (x0 + 0)), (1, .int x), (2, .int y)] [] T I J := by
  obtain ⟨⟨o1, o2, o3, o4, o5, o6, o7, o8, o9, o10, o11⟩, hLA, hTA, hVA, hPA, hGA, hNA, hEA⟩ := id hS.1
  obtain ⟨la1, la2, la3, la4⟩ := id hLA
  have e0 : (0 : Nat) < T.1 := by omega
  have e1 : (1 : Nat) < T.1 := by omega
  have e2 : (2 : Nat) < T.1 := by omega
  have e37 : (37 : Nat) < T.1 := by omega
  have e40 : (40 : Nat) < T.1 := by omega
  have e42 : (42 : Nat) < T.1 := by omega
  have e44 : (44 : Nat) < T.1 := by omega
  have e112 : (112 : Nat) < T.1 := by omega
  have v42 := hVA.2.1
  have v44 := hPA.2.1
  have v2 := hS.2.2.1.1.2.1
  have v37 := hS.2.2.2.1.1.2.1
  have v40 := hTA.2.2.1
  have v112 := hNA.2.1
  refine s_iload_n (i := 1) dX11_add_0 rfl rfl ?_
  refine s_cS_I (My := mX11_isList) dX11_add_1 wM_X11_74 cb_yX11_isList wT_yX11_isList (Nat.le_of_ble_eq_true rfl) (by decide) (c_isList ?_ ?_)
  · intro hx
    refine s_if_eq (tgt := 14) dX11_add_4 (by decide) (fun c4 => absurd c4 (by decide)) (fun c4 => ?_)
    refine s_iload_n (i := 2) dX11_add_7 rfl rfl ?_
    refine s_cS_I (My := mX11_isValue) dX11_add_8 wM_X11_78 cb_yX11_isValue wT_yX11_isValue (Nat.le_of_ble_eq_true rfl) (by decide) (c_isValue ?_ ?_)
    · intro hy
      obtain ⟨li, hli, rfl⟩ := lidx hx
      have hxt : (zI (li : Int)).toInt = li := zI_t (by omega) (by omega)
      have hnl : (zI li).toNatClampNeg = li := by rw [zI_n (by omega) (by omega)]; simp
      obtain ⟨lb1, lb2⟩ := la4 li hli
      obtain ⟨k1, k2, k3, k4, k5, k6, k7, k8⟩ := id lb2
      obtain ⟨r1, r2, r3, r4, r5, r6, r7⟩ := id k8
      have hC := hS.2.1 li hli
      have hL := hk.1 li hli
      refine s_if_ne (tgt := 17) dX11_add_11 (by decide) (fun c11 => ?_) (fun c11 => absurd c11 (by decide))
      refine s_aload_n (i := 0) dX11_add_17 rfl rfl ?_
      refine s_getR dX11_add_18 fl_X11_11 (by assumption) (by assumption) (by assumption) ?_
      refine s_iload_n (i := 1) dX11_add_21 rfl rfl ?_
      refine s_aldC dX11_add_22 (by assumption) (by assumption) (by rw [la3]; exact z_in (by omega) (by omega) (by omega)) (by rw [hnl]; exact lb1) ?_
      refine s_getR dX11_add_23 fl_X11_81 (by assumption) (by assumption) (by assumption) ?_
      refine s_iload_n (i := 2) dX11_add_26 rfl rfl ?_
      refine s_cV_I (My := mX9_has) dX11_add_27 wM_X11_84 cb_yX9_has ci_yX9_has (by assumption) (by assumption) (Nat.le_of_ble_eq_true rfl) (by decide) (s_d (by omega) (c_has (d := 0) hC.2.1 hL.2.1 ?_ ?_))
      · intro hh
        refine s_if_eq (tgt := 36) dX11_add_30 (by decide) (fun c30 => absurd c30 (by decide)) (fun c30 => ?_)
        refine s_bipush (v := -3) dX11_add_33 (by decide) ?_
        refine s_iret dX11_add_35 rfl ?_
        rw [zm3]
        exact hq T I (-3) S (Or.inr ⟨li, hli, hxt, hy, Or.inl ⟨hh, rfl, rfl⟩⟩) (Tq.refl T) (frM.refl I) hS
      · intro hh
        refine s_if_eq (tgt := 36) dX11_add_30 (by decide) (fun c30 => ?_) (fun c30 => absurd (rfl) c30)
        refine s_aload_n (i := 0) dX11_add_36 rfl rfl ?_
        refine s_getR dX11_add_37 fl_X11_11 (by assumption) (by assumption) (by assumption) ?_
        refine s_iload_n (i := 1) dX11_add_40 rfl rfl ?_
        refine s_aldC dX11_add_41 (by assumption) (by assumption) (by rw [la3]; exact z_in (by omega) (by omega) (by omega)) (by rw [hnl]; exact lb1) ?_
        refine s_getR dX11_add_42 fl_X11_81 (by assumption) (by assumption) (by assumption) ?_
        refine s_getI dX11_add_45 fl_X11_87 (by assumption) (by assumption) ?_
        refine s_sipush (v := 200) dX11_add_48 (by decide) ?_
        refine s_icmp_lt (tgt := 57) dX11_add_51 (by decide) (fun c51 => ?_) (fun c51 => ?_)
        · rw [t_zI hC.2.1.2.2.1, show (200 : Int32) = zI 200 from rfl, zI_lt (by have := hL.1; omega) (by have := hL.1; omega) (by omega) (by omega)] at c51
          refine s_aload_n (i := 0) dX11_add_57 rfl rfl ?_
          refine s_iload_n (i := 1) dX11_add_58 rfl rfl ?_
          refine s_cV_I (My := mX11_beginChange) dX11_add_59 wM_X11_91 cb_yX11_beginChange ci_yX11_beginChange (by assumption) (by assumption) (Nat.le_of_ble_eq_true rfl) (by decide) (s_d (by omega) (c_begin (d := 0) hS hli (fun I1 hM1 hS1 hb1 => ?_)))
          refine s_aload_n (i := 0) dX11_add_62 rfl rfl ?_
          refine s_getR dX11_add_63 fl_X11_11 (by assumption) (by assumption) (by assumption) ?_
          refine s_iload_n (i := 1) dX11_add_66 rfl rfl ?_
          refine s_aldC dX11_add_67 (by assumption) (by assumption) (by rw [la3]; exact z_in (by omega) (by omega) (by omega)) (by rw [hnl]; exact lb1) ?_
          refine s_iload_n (i := 2) dX11_add_68 rfl rfl ?_
          have hC1 : CutL T I1 (120 + 4 * li) (S.1 li) := hS1.2.1 li hli
          have hnm := hL.nbm
          have hm2 : (S.1 li).2.1 < 200 := by omega
          have hn2 : (S.1 li).2.2.2 < 200 := by omega
          refine s_cV_I (My := mX2_insert) dX11_add_69 wM_X11_94 cb_yX2_insert ci_yX2_insert (by assumption) (by assumption) (Nat.le_of_ble_eq_true rfl) (by decide) (s_d (by omega) (c_cutIns (d := 0) hC1 hL.2.2.2.2.1 hL.2.2.2.1 hL.2.1 hm2 hn2 (fun j p I2 hB hF hf2 hC2 => ?_)))
          refine s_iret dX11_add_72 rfl ?_
          have z2 : ∀ b, ¬ (120 + 4 * li ≤ b ∧ b < 120 + 4 * li + 4) → I2 b = I1 b := fun b hb => hf2 b (by simp; omega)
          exact hq T I2 p (chg S li (insL (S.1 li) p y.toInt j.toNat)) (Or.inr ⟨li, hli, hxt, hy, Or.inr ⟨hh, Or.inr ⟨by omega, p, j, hF, hB, rfl, rfl⟩⟩⟩) (Tq.refl T) (fun b h1 h2 => (z2 b (by omega)).trans (hM1 b h1 h2)) (hS1.chgd hli z2 hC2)
        · rw [t_zI hC.2.1.2.2.1, show (200 : Int32) = zI 200 from rfl, zI_lt (by have := hL.1; omega) (by have := hL.1; omega) (by omega) (by omega)] at c51
          refine s_bipush (v := -4) dX11_add_54 (by decide) ?_
          refine s_iret dX11_add_56 rfl ?_
          rw [zm4]
          exact hq T I (-4) S (Or.inr ⟨li, hli, hxt, hy, Or.inr ⟨hh, Or.inl ⟨by omega, rfl, rfl⟩⟩⟩) (Tq.refl T) (frM.refl I) hS
    · intro hy
      refine s_if_ne (tgt := 17) dX11_add_11 (by decide) (fun c11 => absurd c11 (fun h => h rfl)) (fun c11 => ?_)
      refine s_bipush (v := -2) dX11_add_14 (by decide) ?_
      refine s_iret dX11_add_16 rfl ?_
      rw [zm2]
      exact hq T I (-2) S (Or.inl ⟨fun h => hy h.2, rfl, rfl⟩) (Tq.refl T) (frM.refl I) hS
  · intro hx
    refine s_if_eq (tgt := 14) dX11_add_4 (by decide) (fun c4 => ?_) (fun c4 => absurd (rfl) c4)
    refine s_bipush (v := -2) dX11_add_14 (by decide) ?_
    refine s_iret dX11_add_16 rfl ?_
    rw [zm2]
    exact hq T I (-2) S (Or.inl ⟨fun h => hx h.1, rfl, rfl⟩) (Tq.refl T) (frM.refl I) hS
set_option maxRecDepth 100000 in
set_option maxHeartbeats 1000000 in
theorem c_remove {G : fG} {x0 : Nat} {l : Launch} {d k n : Nat} {T : fT} {I : fI} {J : fJ} {Q : Option Value → fT → fI → fJ → Prop} {x y : Int32} {S : ASt} (hS : ClsIs T I S) (hk : SOk S) (hq : ∀ (T' : fT) (I' : fI) (a : Int) (S' : ASt), rRem S x.toInt y.toInt a S' → Tq T T' → frM I I' → ClsIs T' I' S' → Q (some (.int (zI a))) T' I' J) : PW G x0 l mX11_remove (d + 5) (ZM G x0 Q) k n 0 [(0, .ref (x0 + 0)), (1, .int x), (2, .int y)] [] T I J := by
  obtain ⟨⟨o1, o2, o3, o4, o5, o6, o7, o8, o9, o10, o11⟩, hLA, hTA, hVA, hPA, hGA, hNA, hEA⟩ := id hS.1
  obtain ⟨la1, la2, la3, la4⟩ := id hLA
  have e0 : (0 : Nat) < T.1 := by omega
  have e1 : (1 : Nat) < T.1 := by omega
  have e2 : (2 : Nat) < T.1 := by omega
  have e37 : (37 : Nat) < T.1 := by omega
  have e40 : (40 : Nat) < T.1 := by omega
  have e42 : (42 : Nat) < T.1 := by omega
  have e44 : (44 : Nat) < T.1 := by omega
  have e112 : (112 : Nat) < T.1 := by omega
  have v42 := hVA.2.1
  have v44 := hPA.2.1
  have v2 := hS.2.2.1.1.2.1
  have v37 := hS.2.2.2.1.1.2.1
  have v40 := hTA.2.2.1
  have v112 := hNA.2.1
  refine s_iload_n (i := 1) dX11_remove_0 rfl rfl ?_
  refine s_cS_I (My := mX11_isList) dX11_remove_1 wM_X11_74 cb_yX11_isList wT_yX11_isList (Nat.le_of_ble_eq_true rfl) (by decide) (c_isList ?_ ?_)
  · intro hx
    refine s_if_eq (tgt := 14) dX11_remove_4 (by decide) (fun c4 => absurd c4 (by decide)) (fun c4 => ?_)
    refine s_iload_n (i := 2) dX11_remove_7 rfl rfl ?_
    refine s_cS_I (My := mX11_isValue) dX11_remove_8 wM_X11_78 cb_yX11_isValue wT_yX11_isValue (Nat.le_of_ble_eq_true rfl) (by decide) (c_isValue ?_ ?_)
    · intro hy
      obtain ⟨li, hli, rfl⟩ := lidx hx
      have hxt : (zI (li : Int)).toInt = li := zI_t (by omega) (by omega)
      have hnl : (zI li).toNatClampNeg = li := by rw [zI_n (by omega) (by omega)]; simp
      obtain ⟨lb1, lb2⟩ := la4 li hli
      obtain ⟨k1, k2, k3, k4, k5, k6, k7, k8⟩ := id lb2
      obtain ⟨r1, r2, r3, r4, r5, r6, r7⟩ := id k8
      have hC := hS.2.1 li hli
      have hL := hk.1 li hli
      refine s_if_ne (tgt := 17) dX11_remove_11 (by decide) (fun c11 => ?_) (fun c11 => absurd c11 (by decide))
      refine s_aload_n (i := 0) dX11_remove_17 rfl rfl ?_
      refine s_getR dX11_remove_18 fl_X11_11 (by assumption) (by assumption) (by assumption) ?_
      refine s_iload_n (i := 1) dX11_remove_21 rfl rfl ?_
      refine s_aldC dX11_remove_22 (by assumption) (by assumption) (by rw [la3]; exact z_in (by omega) (by omega) (by omega)) (by rw [hnl]; exact lb1) ?_
      refine s_getR dX11_remove_23 fl_X11_81 (by assumption) (by assumption) (by assumption) ?_
      refine s_iload_n (i := 2) dX11_remove_26 rfl rfl ?_
      refine s_cV_I (My := mX9_has) dX11_remove_27 wM_X11_84 cb_yX9_has ci_yX9_has (by assumption) (by assumption) (Nat.le_of_ble_eq_true rfl) (by decide) (s_d (by omega) (c_has (d := 0) hC.2.1 hL.2.1 ?_ ?_))
      · intro hh
        obtain ⟨q0, hq0, hg0⟩ := hh
        refine s_if_ne (tgt := 36) dX11_remove_30 (by decide) (fun c30 => ?_) (fun c30 => absurd c30 (by decide))
        refine s_aload_n (i := 0) dX11_remove_36 rfl rfl ?_
        refine s_iload_n (i := 1) dX11_remove_37 rfl rfl ?_
        refine s_cV_I (My := mX11_beginChange) dX11_remove_38 wM_X11_91 cb_yX11_beginChange ci_yX11_beginChange (by assumption) (by assumption) (Nat.le_of_ble_eq_true rfl) (by decide) (s_d (by omega) (c_begin (d := 0) hS hli (fun I1 hM1 hS1 hb1 => ?_)))
        refine s_aload_n (i := 0) dX11_remove_41 rfl rfl ?_
        refine s_getR dX11_remove_42 fl_X11_11 (by assumption) (by assumption) (by assumption) ?_
        refine s_iload_n (i := 1) dX11_remove_45 rfl rfl ?_
        refine s_aldC dX11_remove_46 (by assumption) (by assumption) (by rw [la3]; exact z_in (by omega) (by omega) (by omega)) (by rw [hnl]; exact lb1) ?_
        refine s_iload_n (i := 2) dX11_remove_47 rfl rfl ?_
        have hC1 := hS1.2.1 li hli
        refine s_cV_I (My := mX2_delete) dX11_remove_48 wM_X11_98 cb_yX2_delete ci_yX2_delete (by assumption) (by assumption) (Nat.le_of_ble_eq_true rfl) (by decide) (s_d (by omega) (c_cutDel (d := 0) hC1 hL.2.2.2.2.1 hL.2.2.2.1 hL.2.1 (hL.2.2.2.2.2.2 (by omega)) hq0 hg0 (fun j I2 hB hf2 hC2 => ?_)))
        refine s_iret dX11_remove_51 rfl ?_
        have z2 : ∀ b, ¬ (120 + 4 * li ≤ b ∧ b < 120 + 4 * li + 4) → I2 b = I1 b := fun b hb => hf2 b (by simp; omega)
        have hC3 : CutL T I2 (120 + 4 * li) (delL (S.1 li) q0 j) := by
          unfold delL
          by_cases e : (delS (S.1 li).2.2.1 (S.1 li).2.2.2 (S.1 li).2.1 j).2 = 0
          · rw [if_pos e]; exact CutL.nil hC2 e
          · rw [if_neg e]; exact hC2
        exact hq T I2 q0 (chg S li (delL (S.1 li) q0 j)) (Or.inr ⟨li, hli, hxt, hy, Or.inr ⟨q0, j, hq0, hg0, hB, rfl, rfl⟩⟩) (Tq.refl T) (fun b h1 h2 => (z2 b (by omega)).trans (hM1 b h1 h2)) (hS1.chgd hli z2 hC3)
      · intro hh
        refine s_if_ne (tgt := 36) dX11_remove_30 (by decide) (fun c30 => absurd c30 (fun h => h rfl)) (fun c30 => ?_)
        refine s_bipush (v := -3) dX11_remove_33 (by decide) ?_
        refine s_iret dX11_remove_35 rfl ?_
        rw [zm3]
        exact hq T I (-3) S (Or.inr ⟨li, hli, hxt, hy, Or.inl ⟨hh, rfl, rfl⟩⟩) (Tq.refl T) (frM.refl I) hS
    · intro hy
      refine s_if_ne (tgt := 17) dX11_remove_11 (by decide) (fun c11 => absurd c11 (fun h => h rfl)) (fun c11 => ?_)
      refine s_bipush (v := -2) dX11_remove_14 (by decide) ?_
      refine s_iret dX11_remove_16 rfl ?_
      rw [zm2]
      exact hq T I (-2) S (Or.inl ⟨fun h => hy h.2, rfl, rfl⟩) (Tq.refl T) (frM.refl I) hS
  · intro hx
    refine s_if_eq (tgt := 14) dX11_remove_4 (by decide) (fun c4 => ?_) (fun c4 => absurd (rfl) c4)
    refine s_bipush (v := -2) dX11_remove_14 (by decide) ?_
    refine s_iret dX11_remove_16 rfl ?_
    rw [zm2]
    exact hq T I (-2) S (Or.inl ⟨fun h => hx h.1, rfl, rfl⟩) (Tq.refl T) (frM.refl I) hS
set_option maxRecDepth 100000 in
set_option maxHeartbeats 1000000 in
theorem l_packEnd {G : fG} {x0 : Nat} {l : Launch} {d k n : Nat} {T : fT} {I : fI} {J : fJ} {Q : Option Value → fT → fI → fJ → Prop} {li : Nat} {y : Int32} {S : ASt} {L' : LSt} {I0 : fI} (hS : ClsIs T I0 S) (hk : SOk S) (hli : li < 6) (hy : 0 ≤ y.toInt ∧ y.toInt ≤ 64) (hcut : rCut (S.1 li) y.toInt L') (hM3 : frM I0 I) (hS3 : ClsIs T I (chg S li L')) (hq : ∀ (T' : fT) (I' : fI) (a : Int) (S' : ASt), rPack S li y.toInt a S' → Tq T T' → frM I0 I' → ClsIs T' I' S' → Q (some (.int (zI a))) T' I' J) : PW G x0 l mX11_pack (d + 5) (ZM G x0 Q) k n 52 [(0, .ref (x0 + 0)), (1, .int (zI li)), (2, .int y)] [] T I J := by
  obtain ⟨⟨o1, o2, o3, o4, o5, o6, o7, o8, o9, o10, o11⟩, hLA, hTA, hVA, hPA, hGA, hNA, hEA⟩ := id hS.1
  obtain ⟨la1, la2, la3, la4⟩ := id hLA
  have e0 : (0 : Nat) < T.1 := by omega
  have e1 : (1 : Nat) < T.1 := by omega
  have e2 : (2 : Nat) < T.1 := by omega
  have e37 : (37 : Nat) < T.1 := by omega
  have e40 : (40 : Nat) < T.1 := by omega
  have e42 : (42 : Nat) < T.1 := by omega
  have e44 : (44 : Nat) < T.1 := by omega
  have e112 : (112 : Nat) < T.1 := by omega
  have v42 := hVA.2.1
  have v44 := hPA.2.1
  have v2 := hS.2.2.1.1.2.1
  have v37 := hS.2.2.2.1.1.2.1
  have v40 := hTA.2.2.1
  have v112 := hNA.2.1
  have hxt : (zI (li : Int)).toInt = li := zI_t (by omega) (by omega)
  have hnl : (zI li).toNatClampNeg = li := by rw [zI_n (by omega) (by omega)]; simp
  obtain ⟨lb1, lb2⟩ := la4 li hli
  obtain ⟨k1, k2, k3, k4, k5, k6, k7, k8⟩ := id lb2
  obtain ⟨r1, r2, r3, r4, r5, r6, r7⟩ := id k8
  have hC := hS.2.1 li hli
  have hL := hk.1 li hli
  have hLk := hcut.ok hL
  have hC3 : CutL T I (120 + 4 * li) L' := by have := hS3.2.1 li hli; rw [show (chg S li L').1 li = L' from updL_at] at this; exact this
  refine s_aload_n (i := 0) dX11_pack_52 rfl rfl ?_
  refine s_aload_n (i := 0) dX11_pack_53 rfl rfl ?_
  refine s_getR dX11_pack_54 fl_X11_11 (by assumption) (by assumption) (by assumption) ?_
  refine s_iload_n (i := 1) dX11_pack_57 rfl rfl ?_
  refine s_aldC dX11_pack_58 (by assumption) (by assumption) (by rw [la3]; exact z_in (by omega) (by omega) (by omega)) (by rw [hnl]; exact lb1) ?_
  refine s_iconst (v := 5) dX11_pack_59 (by decide) ?_
  refine s_cV_RI (My := mX11_sumOfBlocks) dX11_pack_60 wM_X11_111 cb_yX11_sumOfBlocks ci_yX11_sumOfBlocks (by assumption) (by assumption) (Nat.le_of_ble_eq_true rfl) (by decide) (s_d (by omega) (c_sumB (d := 0) hli hLk hS.1 hC3 (fun T4 I4 hT4 hf4 => ?_)))
  refine s_iret dX11_pack_63 rfl ?_
  refine hq T4 I4 _ (chg S li L') (Or.inr ⟨li, L', hli, rfl, hy, hcut, rfl, rfl⟩) hT4 (fun b h1 h2 => (hf4 b (by simp; omega)).trans (hM3 b h1 h2)) (ClsIs.tq (hS3.fr (fun b hb => hf4 b (by simp; omega)) (fun w hw => by rw [hf4 _ (by simp; omega)])) hT4)
set_option maxRecDepth 100000 in
set_option maxHeartbeats 1000000 in
theorem c_pack {G : fG} {x0 : Nat} {l : Launch} {d k n : Nat} {T : fT} {I : fI} {J : fJ} {Q : Option Value → fT → fI → fJ → Prop} {x y : Int32} {S : ASt} (hS : ClsIs T I S) (hk : SOk S) (hq : ∀ (T' : fT) (I' : fI) (a : Int) (S' : ASt), rPack S x.toInt y.toInt a S' → Tq T T' → frM I I' → ClsIs T' I' S' → Q (some (.int (zI a))) T' I' J) : PW G x0 l mX11_pack (d + 5) (ZM G x0 Q) k n 0 [(0, .ref (x0 + 0)), (1, .int x), (2, .int y)] [] T I J := by
  obtain ⟨⟨o1, o2, o3, o4, o5, o6, o7, o8, o9, o10, o11⟩, hLA, hTA, hVA, hPA, hGA, hNA, hEA⟩ := id hS.1
  obtain ⟨la1, la2, la3, la4⟩ := id hLA
  have e0 : (0 : Nat) < T.1 := by omega
  have e1 : (1 : Nat) < T.1 := by omega
  have e2 : (2 : Nat) < T.1 := by omega
  have e37 : (37 : Nat) < T.1 := by omega
  have e40 : (40 : Nat) < T.1 := by omega
  have e42 : (42 : Nat) < T.1 := by omega
  have e44 : (44 : Nat) < T.1 := by omega
  have e112 : (112 : Nat) < T.1 := by omega
  have v42 := hVA.2.1
  have v44 := hPA.2.1
  have v2 := hS.2.2.1.1.2.1
  have v37 := hS.2.2.2.1.1.2.1
  have v40 := hTA.2.2.1
  have v112 := hNA.2.1
  refine s_iload_n (i := 1) dX11_pack_0 rfl rfl ?_
  refine s_cS_I (My := mX11_isList) dX11_pack_1 wM_X11_74 cb_yX11_isList wT_yX11_isList (Nat.le_of_ble_eq_true rfl) (by decide) (c_isList ?_ ?_)
  · intro hx
    refine s_if_eq (tgt := 14) dX11_pack_4 (by decide) (fun c4 => absurd c4 (by decide)) (fun c4 => ?_)
    refine s_iload_n (i := 2) dX11_pack_7 rfl rfl ?_
    refine s_cS_I (My := mX11_isPacking) dX11_pack_8 wM_X11_101 cb_yX11_isPacking wT_yX11_isPacking (Nat.le_of_ble_eq_true rfl) (by decide) (c_isPacking ?_ ?_)
    · intro hy
      obtain ⟨li, hli, rfl⟩ := lidx hx
      have hxt : (zI (li : Int)).toInt = li := zI_t (by omega) (by omega)
      have hnl : (zI li).toNatClampNeg = li := by rw [zI_n (by omega) (by omega)]; simp
      obtain ⟨lb1, lb2⟩ := la4 li hli
      obtain ⟨k1, k2, k3, k4, k5, k6, k7, k8⟩ := id lb2
      obtain ⟨r1, r2, r3, r4, r5, r6, r7⟩ := id k8
      have hC := hS.2.1 li hli
      have hL := hk.1 li hli
      rw [hxt] at hq
      refine s_if_ne (tgt := 17) dX11_pack_11 (by decide) (fun c11 => ?_) (fun c11 => absurd c11 (by decide))
      refine s_aload_n (i := 0) dX11_pack_17 rfl rfl ?_
      refine s_iload_n (i := 1) dX11_pack_18 rfl rfl ?_
      refine s_cV_I (My := mX11_beginChange) dX11_pack_19 wM_X11_91 cb_yX11_beginChange ci_yX11_beginChange (by assumption) (by assumption) (Nat.le_of_ble_eq_true rfl) (by decide) (s_d (by omega) (c_begin (d := 0) hS hli (fun I1 hM1 hS1 hb1 => ?_)))
      have hC1 := hS1.2.1 li hli
      refine s_iload_n (i := 2) dX11_pack_22 rfl rfl ?_
      refine s_if_ne (tgt := 42) dX11_pack_23 (by decide) (fun c23 => ?_) (fun c23 => ?_)
      · refine s_aload_n (i := 0) dX11_pack_42 rfl rfl ?_
        refine s_getR dX11_pack_43 fl_X11_11 (by assumption) (by assumption) (by assumption) ?_
        refine s_iload_n (i := 1) dX11_pack_46 rfl rfl ?_
        refine s_aldC dX11_pack_47 (by assumption) (by assumption) (by rw [la3]; exact z_in (by omega) (by omega) (by omega)) (by rw [hnl]; exact lb1) ?_
        refine s_iload_n (i := 2) dX11_pack_48 rfl rfl ?_
        have y0 : y.toInt ≠ 0 := fun h => c23 (by rw [t_zI h]; rfl)
        obtain ⟨len, hlen⟩ : ∃ len : Nat, y.toInt = len := ⟨y.toInt.toNat, by omega⟩
        refine s_topi (y := zI (len : Int)) (t_zI hlen) ?_
        refine s_cV_I (My := mX2_cutBy) dX11_pack_49 wM_X11_108 cb_yX2_cutBy ci_yX2_cutBy (by assumption) (by assumption) (Nat.le_of_ble_eq_true rfl) (by decide) (s_d (by omega) (c_cutBy (d := 0) hC1 ⟨by omega, by omega⟩ (fun I2 nb hf2 hn1 hn2 hC2 => ?_)))
        refine l_packEnd hS hk hli hy (Or.inr ⟨len, nb, hlen, by omega, hn1, hn2, rfl⟩) (fun b h1 h2 => (hf2 b (by simp; omega)).trans (hM1 b h1 h2)) ?_ hq
        exact hS1.chgd hli (fun b hb => hf2 b (by simp; omega)) hC2
      · have y0 : y.toInt = 0 := by rw [c23]; rfl
        refine s_aload_n (i := 0) dX11_pack_26 rfl rfl ?_
        refine s_getR dX11_pack_27 fl_X11_48 (by assumption) (by assumption) (by assumption) ?_
        refine s_aload_n (i := 0) dX11_pack_30 rfl rfl ?_
        refine s_getR dX11_pack_31 fl_X11_11 (by assumption) (by assumption) (by assumption) ?_
        refine s_iload_n (i := 1) dX11_pack_34 rfl rfl ?_
        refine s_aldC dX11_pack_35 (by assumption) (by assumption) (by rw [la3]; exact z_in (by omega) (by omega) (by omega)) (by rw [hnl]; exact lb1) ?_
        refine s_cV_R (My := mX8_cut) dX11_pack_36 wM_X11_104 cb_yX8_cut ci_yX8_cut (by assumption) (by assumption) (Nat.le_of_ble_eq_true rfl) (by decide) (s_d (by omega) (c_pcut (d := 0) (c := 120 + 4 * li) ⟨hPA, hS1.2.2.2.2.2.1⟩ (by omega) hL.1 hL.gap hC1 (fun I2 R E nb hf2 hP2 hPl he hn hC2 => ?_)))
        refine s_goto (tgt := 52) dX11_pack_39 (by decide) ?_
        refine l_packEnd hS hk hli hy (Or.inl ⟨y0, R, E, nb, hPl, he, hn, rfl⟩) (fun b h1 h2 => (hf2 b (by omega) (by omega) (by omega)).trans (hM1 b h1 h2)) ?_ hq
        have z3 : ∀ b, (b < 45 ∨ b = 47 ∨ 110 < b) → ¬ (120 + 4 * li ≤ b ∧ b < 120 + 4 * li + 4) → I2 b = I1 b := fun b h1 h2 => hf2 b h1 (by omega) (by omega)
        exact ⟨hS.1, hS1.2.1.upd hli (fun b h1 h2 h3 => z3 b (by omega) (by omega)) hC2, hS1.2.2.1.fr (fun b hb => by have := histS_lt hb; exact z3 b (by omega) (by omega)), hS1.2.2.2.1.fr (z3 _ (by omega) (by omega)) (z3 _ (by omega) (by omega)) (z3 _ (by omega) (by omega)), RowIs.fr hS1.2.2.2.2.1 (z3 _ (by omega) (by omega)) (z3 _ (by omega) (by omega)), hP2.2, hS1.2.2.2.2.2.2.fr (z3 _ (by omega) (by omega)) (z3 _ (by omega) (by omega)) (z3 _ (by omega) (by omega))⟩
    · intro hy
      refine s_if_ne (tgt := 17) dX11_pack_11 (by decide) (fun c11 => absurd c11 (fun h => h rfl)) (fun c11 => ?_)
      refine s_bipush (v := -2) dX11_pack_14 (by decide) ?_
      refine s_iret dX11_pack_16 rfl ?_
      rw [zm2]
      exact hq T I (-2) S (Or.inl ⟨fun h => hy h.2, rfl, rfl⟩) (Tq.refl T) (frM.refl I) hS
  · intro hx
    refine s_if_eq (tgt := 14) dX11_pack_4 (by decide) (fun c4 => ?_) (fun c4 => absurd (rfl) c4)
    refine s_bipush (v := -2) dX11_pack_14 (by decide) ?_
    refine s_iret dX11_pack_16 rfl ?_
    rw [zm2]
    exact hq T I (-2) S (Or.inl ⟨fun h => hx h.1, rfl, rfl⟩) (Tq.refl T) (frM.refl I) hS
set_option maxRecDepth 100000 in
set_option maxHeartbeats 1000000 in
theorem c_clear {G : fG} {x0 : Nat} {l : Launch} {d k n : Nat} {T : fT} {I : fI} {J : fJ} {Q : Option Value → fT → fI → fJ → Prop} {x : Int32} {S : ASt} (hS : ClsIs T I S) (hk : SOk S) (hq : ∀ (T' : fT) (I' : fI) (a : Int) (S' : ASt), rClear S x.toInt a S' → Tq T T' → frM I I' → ClsIs T' I' S' → Q (some (.int (zI a))) T' I' J) : PW G x0 l mX11_clear (d + 5) (ZM G x0 Q) k n 0 [(0, .ref (x0 + 0)), (1, .int x)] [] T I J := by
  obtain ⟨⟨o1, o2, o3, o4, o5, o6, o7, o8, o9, o10, o11⟩, hLA, hTA, hVA, hPA, hGA, hNA, hEA⟩ := id hS.1
  obtain ⟨la1, la2, la3, la4⟩ := id hLA
  have e0 : (0 : Nat) < T.1 := by omega
  have e1 : (1 : Nat) < T.1 := by omega
  have e2 : (2 : Nat) < T.1 := by omega
  have e37 : (37 : Nat) < T.1 := by omega
  have e40 : (40 : Nat) < T.1 := by omega
  have e42 : (42 : Nat) < T.1 := by omega
  have e44 : (44 : Nat) < T.1 := by omega
  have e112 : (112 : Nat) < T.1 := by omega
  have v42 := hVA.2.1
  have v44 := hPA.2.1
  have v2 := hS.2.2.1.1.2.1
  have v37 := hS.2.2.2.1.1.2.1
  have v40 := hTA.2.2.1
  have v112 := hNA.2.1
  refine s_iload_n (i := 1) dX11_clear_0 rfl rfl ?_
  refine s_cS_I (My := mX11_isList) dX11_clear_1 wM_X11_74 cb_yX11_isList wT_yX11_isList (Nat.le_of_ble_eq_true rfl) (by decide) (c_isList ?_ ?_)
  · intro hx
    obtain ⟨li, hli, rfl⟩ := lidx hx
    have hxt : (zI (li : Int)).toInt = li := zI_t (by omega) (by omega)
    have hnl : (zI li).toNatClampNeg = li := by rw [zI_n (by omega) (by omega)]; simp
    obtain ⟨lb1, lb2⟩ := la4 li hli
    obtain ⟨k1, k2, k3, k4, k5, k6, k7, k8⟩ := id lb2
    obtain ⟨r1, r2, r3, r4, r5, r6, r7⟩ := id k8
    have hC := hS.2.1 li hli
    have hL := hk.1 li hli
    refine s_if_ne (tgt := 10) dX11_clear_4 (by decide) (fun c4 => ?_) (fun c4 => absurd c4 (by decide))
    refine s_aload_n (i := 0) dX11_clear_10 rfl rfl ?_
    refine s_getR dX11_clear_11 fl_X11_11 (by assumption) (by assumption) (by assumption) ?_
    refine s_iload_n (i := 1) dX11_clear_14 rfl rfl ?_
    refine s_aldC dX11_clear_15 (by assumption) (by assumption) (by rw [la3]; exact z_in (by omega) (by omega) (by omega)) (by rw [hnl]; exact lb1) ?_
    refine s_getR dX11_clear_16 fl_X11_81 (by assumption) (by assumption) (by assumption) ?_
    refine s_getI dX11_clear_19 fl_X11_87 (by assumption) (by assumption) ?_
    refine s_istore_n (i := 2) dX11_clear_22 rfl (by decide) (by simp only [sl, sl2, rm, Value.category, reduceIte, Nat.reduceAdd, Nat.reduceEqDiff, reduceCtorEq]; rfl) ?_
    refine s_aload_n (i := 0) dX11_clear_23 rfl rfl ?_
    refine s_iload_n (i := 1) dX11_clear_24 rfl rfl ?_
    refine s_cV_I (My := mX11_beginChange) dX11_clear_25 wM_X11_91 cb_yX11_beginChange ci_yX11_beginChange (by assumption) (by assumption) (Nat.le_of_ble_eq_true rfl) (by decide) (s_d (by omega) (c_begin (d := 0) hS hli (fun I1 hM1 hS1 hb1 => ?_)))
    refine s_aload_n (i := 0) dX11_clear_28 rfl rfl ?_
    refine s_getR dX11_clear_29 fl_X11_11 (by assumption) (by assumption) (by assumption) ?_
    refine s_iload_n (i := 1) dX11_clear_32 rfl rfl ?_
    refine s_aldC dX11_clear_33 (by assumption) (by assumption) (by rw [la3]; exact z_in (by omega) (by omega) (by omega)) (by rw [hnl]; exact lb1) ?_
    refine s_cV_ (My := mX2_makeEmpty) dX11_clear_34 wM_X11_133 cb_yX2_makeEmpty ci_yX2_makeEmpty (by assumption) (by assumption) (Nat.le_of_ble_eq_true rfl) (by decide) (s_d (by omega) (c_makeEmpty (d := 0) (hS1.2.1 li hli) (g' := fun _ => 0) (s' := fun _ => 0) (fun I2 hf2 hC2 => ?_)))
    refine s_iload_n (i := 2) dX11_clear_37 rfl rfl ?_
    refine s_iret dX11_clear_38 rfl ?_
    have z2 : ∀ b, ¬ (120 + 4 * li ≤ b ∧ b < 120 + 4 * li + 4) → I2 b = I1 b := fun b hb => hf2 b (by simp; omega)
    rw [t_zI hC.2.1.2.2.1]
    exact hq T I2 _ (chg S li L0) (Or.inr ⟨li, hli, hxt, rfl, rfl⟩) (Tq.refl T) (fun b h1 h2 => (z2 b (by omega)).trans (hM1 b h1 h2)) (hS1.chgd hli z2 hC2)
  · intro hx
    refine s_if_ne (tgt := 10) dX11_clear_4 (by decide) (fun c4 => absurd c4 (fun h => h rfl)) (fun c4 => ?_)
    refine s_bipush (v := -2) dX11_clear_7 (by decide) ?_
    refine s_iret dX11_clear_9 rfl ?_
    rw [zm2]
    exact hq T I (-2) S (Or.inl ⟨hx, rfl, rfl⟩) (Tq.refl T) (frM.refl I) hS
