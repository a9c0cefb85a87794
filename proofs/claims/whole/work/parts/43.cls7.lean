set_option maxRecDepth 100000 in
set_option maxHeartbeats 1000000 in
theorem c_part {G : fG} {x0 : Nat} {l : Launch} {d k n : Nat} {T : fT} {I : fI} {J : fJ} {Q : Option Value → fT → fI → fJ → Prop} {x y z u : Int32} {S : ASt} (hS : ClsIs T I S) (hk : SOk S) (hq : ∀ (T' : fT) (I' : fI), Tq T T' → fr I I' roS → Q (some (.int (zI (fPart S x.toInt y.toInt z.toInt u.toInt)))) T' I' J) : PW G x0 l mX11_part (d + 4) (ZM G x0 Q) k n 0 [(0, .ref (x0 + 0)), (1, .int x), (2, .int y), (3, .int z), (4, .int u)] [] T I J := by
  obtain ⟨⟨o1, o2, o3, o4, o5, o6, o7, o8, o9, o10, o11⟩, hLA, hTA, hVA, hPA, hGA, hNA, hEA⟩ := id hS.1
  obtain ⟨la1, la2, la3, la4⟩ := id hLA
  have e0 : (0 : Nat) < T.1 := by omega
  have e1 : (1 : Nat) < T.1 := by omega
  have e2 : (2 : Nat) < T.1 := by omega
  have e37 : (37 : Nat) < T.1 := by omega
  have e40 : (40 : Nat) < T.1 := by omega
  have e42 : (42 : Nat) < T.1 := by omega
  have e44 : (44 : Nat) < T.1 := by omega
  have e112 : (112 : Nat) < T.1 := by omega
  have v42 := hVA.2.1
  have v44 := hPA.2.1
  have v2 := hS.2.2.1.1.2.1
  have v37 := hS.2.2.2.1.1.2.1
  have v40 := hTA.2.2.1
  have v112 := hNA.2.1
  unfold fPart at hq
  refine s_iload_n (i := 1) dX11_part_0 rfl rfl ?_
  refine s_cS_I (My := mX11_isList) dX11_part_1 wM_X11_74 cb_yX11_isList wT_yX11_isList (Nat.le_of_ble_eq_true rfl) (by decide) (c_isList ?_ ?_)
  · intro hx
    obtain ⟨li, hli, rfl⟩ := lidx hx
    have hxt : (zI (li : Int)).toInt = li := zI_t (by omega) (by omega)
    have hnl : (zI li).toNatClampNeg = li := by rw [zI_n (by omega) (by omega)]; simp
    obtain ⟨lb1, lb2⟩ := la4 li hli
    obtain ⟨k1, k2, k3, k4, k5, k6, k7, k8⟩ := id lb2
    obtain ⟨r1, r2, r3, r4, r5, r6, r7⟩ := id k8
    have hC := hS.2.1 li hli
    have hL := hk.1 li hli
    have hxn : (zI (li : Int)).toInt.toNat = li := by rw [hxt]; simp
    simp only [hxn] at hq
    have hm := hL.1
    have hms := hC.2.1.2.2.1
    refine s_if_eq (tgt := 32) dX11_part_4 (by decide) (fun c4 => absurd c4 (by decide)) (fun c4 => ?_)
    refine s_iload_n (i := 2) dX11_part_7 rfl rfl ?_
    refine s_if_lt (tgt := 32) dX11_part_8 (by decide) (fun c8 => ?_) (fun c8 => ?_)
    · refine s_bipush (v := -2) dX11_part_32 (by decide) ?_
      refine s_iret dX11_part_34 rfl ?_
      try rw [t_lt0] at c8
      try rw [t_lt'] at c13
      try rw [t_lt', hms] at c29
      rw [if_neg (fun h => by omega)] at hq
      rw [zm2]
      exact hq T I (Tq.refl T) (fr_refl I _)
    · refine s_iload_n (i := 3) dX11_part_11 rfl rfl ?_
      refine s_iload_n (i := 2) dX11_part_12 rfl rfl ?_
      refine s_icmp_lt (tgt := 32) dX11_part_13 (by decide) (fun c13 => ?_) (fun c13 => ?_)
      · refine s_bipush (v := -2) dX11_part_32 (by decide) ?_
        refine s_iret dX11_part_34 rfl ?_
        try rw [t_lt0] at c8
        try rw [t_lt'] at c13
        try rw [t_lt', hms] at c29
        rw [if_neg (fun h => by omega)] at hq
        rw [zm2]
        exact hq T I (Tq.refl T) (fr_refl I _)
      · refine s_iload_n (i := 3) dX11_part_16 rfl rfl ?_
        refine s_aload_n (i := 0) dX11_part_17 rfl rfl ?_
        refine s_getR dX11_part_18 fl_X11_11 (by assumption) (by assumption) (by assumption) ?_
        refine s_iload_n (i := 1) dX11_part_21 rfl rfl ?_
        refine s_aldC dX11_part_22 (by assumption) (by assumption) (by rw [la3]; exact z_in (by omega) (by omega) (by omega)) (by rw [hnl]; exact lb1) ?_
        refine s_getR dX11_part_23 fl_X11_81 (by assumption) (by assumption) (by assumption) ?_
        refine s_getI dX11_part_26 fl_X11_87 (by assumption) (by assumption) ?_
        refine s_icmp_lt (tgt := 35) dX11_part_29 (by decide) (fun c29 => ?_) (fun c29 => ?_)
        · rw [t_lt0] at c8
          rw [t_lt'] at c13
          rw [t_lt', hms] at c29
          refine s_iload_n (i := 3) dX11_part_35 rfl rfl ?_
          refine s_iload_n (i := 2) dX11_part_36 rfl rfl ?_
          refine s_isub dX11_part_37 ?_
          refine s_topi (y := zI (z.toInt - y.toInt)) (by rw [← zI_self z, ← zI_self y, zI_sub, zI_self, zI_self]) ?_
          refine s_bipush (v := 64) dX11_part_38 (by decide) ?_
          refine s_icmp_lt (tgt := 46) dX11_part_40 (by decide) (fun c40 => ?_) (fun c40 => ?_)
          · rw [show (64 : Int32) = zI 64 from rfl, zI_lt (by omega) (by omega) (by omega) (by omega)] at c40
            rw [if_pos ⟨hx, by omega⟩] at hq
            obtain ⟨f, hf⟩ : ∃ f : Nat, y.toInt = f := ⟨y.toInt.toNat, by omega⟩
            obtain ⟨len, hlen⟩ : ∃ len : Nat, z.toInt - y.toInt + 1 = len := ⟨(z.toInt - y.toInt + 1).toNat, by omega⟩
            rw [hlen, hf, Int.toNat_natCast, Int.toNat_natCast] at hq
            refine s_aload_n (i := 0) dX11_part_46 rfl rfl ?_
            refine s_getR dX11_part_47 fl_X11_41 (by assumption) (by assumption) (by assumption) ?_
            refine s_aload_n (i := 0) dX11_part_50 rfl rfl ?_
            refine s_getR dX11_part_51 fl_X11_11 (by assumption) (by assumption) (by assumption) ?_
            refine s_iload_n (i := 1) dX11_part_54 rfl rfl ?_
            refine s_aldC dX11_part_55 (by assumption) (by assumption) (by rw [la3]; exact z_in (by omega) (by omega) (by omega)) (by rw [hnl]; exact lb1) ?_
            refine s_getR dX11_part_56 fl_X11_81 (by assumption) (by assumption) (by assumption) ?_
            refine s_iload_n (i := 2) dX11_part_59 rfl rfl ?_
            refine s_iload_n (i := 3) dX11_part_60 rfl rfl ?_
            refine s_iconst (v := 1) dX11_part_61 (by decide) ?_
            refine s_iadd dX11_part_62 ?_
            refine s_st (st2 := [.int (zI ((f + len : Nat) : Int)), .int (zI f), .ref (x0 + (120 + 4 * li + 1)), .ref (x0 + 42)]) (by rw [t_zI (x := y) hf, t_zI (x := z) (z := (f : Int) + len - 1) (by omega), z1, zI_add]; congr 3; omega) ?_
            refine s_cV_RII (My := mX0_measure) dX11_part_63 wM_X11_195 cb_yX0_measure ci_yX0_measure (by assumption) (by assumption) (Nat.le_of_ble_eq_true rfl) (by decide) (s_d (by omega) (c_measure (d := 0) hVA hC.2.1 hL.gap (f := f) (len := len) (by omega) (by omega) (by omega) (by omega) (by omega) (fun T1 I1 hT1 hf1 hV1 => ?_)))
            have e0' : (0 : Nat) < T1.1 := by rw [hT1.1]; exact e0
            have o2' : T1.2.1 0 = 11 := by rw [hT1.2.1]; exact o2
            have o7' : T1.2.2.2 0 4 = some 42 := by rw [hT1.2.2.2 0 4 (by omega) (by omega)]; exact o7
            have e42' : (42 : Nat) < T1.1 := by rw [hT1.1]; exact e42
            have v42' : T1.2.1 42 = 0 := by rw [hT1.2.1]; exact v42
            refine s_iload dX11_part_66 rfl ?_
            rcases (show (u.toInt < 0 ∨ 2 < u.toInt) ∨ u.toInt = 0 ∨ u.toInt = 1 ∨ u.toInt = 2 by omega) with hw | hw | hw | hw
            · refine s_tabOut (tgt := 120) dX11_part_68 hw (by decide) ?_
              refine s_bipush (v := -2) dX11_part_120 (by decide) ?_
              refine s_iret dX11_part_122 rfl ?_
              rw [if_neg (by omega), if_neg (by omega), if_neg (by omega)] at hq
              rw [zm2]
              exact hq T1 I1 hT1 (ro_of hf1)
            · refine s_tabIn (off := 28) (tgt := 96) dX11_part_68 (by omega) (by omega) (by rw [hw]; rfl) (by decide) ?_
              refine s_aload_n (i := 0) dX11_part_96 rfl rfl ?_
              refine s_getR dX11_part_97 fl_X11_41 (by assumption) (by assumption) (by assumption) ?_
              refine s_getI dX11_part_100 fl_X11_202 (by assumption) (by assumption) ?_
              refine s_iret dX11_part_103 rfl ?_
              rw [if_pos hw] at hq
              rw [t_zI hV1.2.2.2.2.1]
              exact hq T1 I1 hT1 (ro_of hf1)
            · refine s_tabIn (off := 36) (tgt := 104) dX11_part_68 (by omega) (by omega) (by rw [hw]; rfl) (by decide) ?_
              refine s_aload_n (i := 0) dX11_part_104 rfl rfl ?_
              refine s_getR dX11_part_105 fl_X11_41 (by assumption) (by assumption) (by assumption) ?_
              refine s_getI dX11_part_108 fl_X11_199 (by assumption) (by assumption) ?_
              refine s_iret dX11_part_111 rfl ?_
              rw [if_neg (by omega), if_pos hw] at hq
              rw [t_zI hV1.2.2.2.2.2.2]
              exact hq T1 I1 hT1 (ro_of hf1)
            · refine s_tabIn (off := 44) (tgt := 112) dX11_part_68 (by omega) (by omega) (by rw [hw]; rfl) (by decide) ?_
              refine s_aload_n (i := 0) dX11_part_112 rfl rfl ?_
              refine s_getR dX11_part_113 fl_X11_41 (by assumption) (by assumption) (by assumption) ?_
              refine s_getI dX11_part_116 fl_X11_205 (by assumption) (by assumption) ?_
              refine s_iret dX11_part_119 rfl ?_
              rw [if_neg (by omega), if_neg (by omega), if_pos hw] at hq
              rw [t_zI hV1.2.2.2.2.2.1]
              exact hq T1 I1 hT1 (ro_of hf1)
          · refine s_bipush (v := -2) dX11_part_43 (by decide) ?_
            refine s_iret dX11_part_45 rfl ?_
            rw [show (64 : Int32) = zI 64 from rfl, zI_lt (by omega) (by omega) (by omega) (by omega)] at c40
            rw [if_neg (fun h => by omega)] at hq
            rw [zm2]
            exact hq T I (Tq.refl T) (fr_refl I _)
        · refine s_bipush (v := -2) dX11_part_32 (by decide) ?_
          refine s_iret dX11_part_34 rfl ?_
          try rw [t_lt0] at c8
          try rw [t_lt'] at c13
          try rw [t_lt', hms] at c29
          rw [if_neg (fun h => by omega)] at hq
          rw [zm2]
          exact hq T I (Tq.refl T) (fr_refl I _)
  · intro hx
    refine s_if_eq (tgt := 32) dX11_part_4 (by decide) (fun c4 => ?_) (fun c4 => absurd (rfl) c4)
    refine s_bipush (v := -2) dX11_part_32 (by decide) ?_
    refine s_iret dX11_part_34 rfl ?_
    rw [if_neg (fun h => hx h.1)] at hq
    rw [zm2]
    exact hq T I (Tq.refl T) (fr_refl I _)
theorem cls_setC {T : fT} {I I' : fI} {S : ASt} {C' : List (Int × Int) × Nat × Nat} (h : ClsIs T I S) (hf : fr I I' [37, 38, 39]) (hc : CacheIs T I' C'.1 C'.2.1 C'.2.2) : ClsIs T I' (setC S C') := ⟨h.1, h.2.1.fr (fun b h1 h2 => hf b (by simp; omega)), h.2.2.1.fr (fun b hb => hf b (by have := histS_lt hb; simp; omega)), hc, RowIs.fr h.2.2.2.2.1 (hf _ (by simp)) (hf _ (by simp)), fun w h1 => by rw [hf _ (by simp; omega)]; exact h.2.2.2.2.2.1 w h1, h.2.2.2.2.2.2.fr (hf _ (by simp)) (hf _ (by simp)) (hf _ (by simp))⟩
set_option maxRecDepth 100000 in
set_option maxHeartbeats 1000000 in
theorem c_lookS {G : fG} {x0 : Nat} {l : Launch} {d k n : Nat} {T : fT} {I : fI} {J : fJ} {Q : Option Value → fT → fI → fJ → Prop} {li j : Nat} {S : ASt} (hS : ClsIs T I S) (hk : SOk S) (hli : li < 6) (hj : j < 1000) (hq : ∀ (I' : fI) (C' : List (Int × Int) × Nat × Nat), rLook S.2.2.1 ((li : Int), (j : Int)) C' → frM I I' → (∀ b, 40 ≤ b → I' b = I b) → ClsIs T I' (setC S C') → Q none T I' J) : PW G x0 l mX1_look (d + 1) (ZM G x0 Q) k n 0 [(0, .ref (x0 + 37)), (1, .int (zI li)), (2, .int (zI j))] [] T I J := by
  have h1 : (zI (li : Int)).toInt = li := zI_t (by omega) (by omega)
  have h2 : (zI (j : Int)).toInt = j := zI_t (by omega) (by omega)
  refine c_look hS.2.2.2.1 hk.2.2.1.2.2 (fun p I1 hp hf1 hC1 => ?_) (fun I1 hn hf1 hC1 => ?_)
  · rw [h1, h2] at hp hC1
    exact hq I1 _ (Or.inl ⟨p, hp, rfl⟩) (fun b a c => hf1 b (by simp; omega)) (fun b a => hf1 b (by simp; omega)) (cls_setC hS hf1 hC1)
  · rw [h1, h2] at hn hC1
    exact hq I1 _ (Or.inr ⟨hn, rfl⟩) (fun b a c => hf1 b (by simp; omega)) (fun b a => hf1 b (by simp; omega)) (cls_setC hS hf1 hC1)
set_option maxRecDepth 100000 in
set_option maxHeartbeats 1000000 in
theorem c_at {G : fG} {x0 : Nat} {l : Launch} {d k n : Nat} {T : fT} {I : fI} {J : fJ} {Q : Option Value → fT → fI → fJ → Prop} {x y : Int32} {S : ASt} (hS : ClsIs T I S) (hk : SOk S) (hq : ∀ (T' : fT) (I' : fI) (a : Int) (S' : ASt), rAt S x.toInt y.toInt a S' → Tq T T' → frM I I' → ClsIs T' I' S' → Q (some (.int (zI a))) T' I' J) : PW G x0 l mX11_at (d + 3) (ZM G x0 Q) k n 0 [(0, .ref (x0 + 0)), (1, .int x), (2, .int y)] [] T I J := by
  obtain ⟨⟨o1, o2, o3, o4, o5, o6, o7, o8, o9, o10, o11⟩, hLA, hTA, hVA, hPA, hGA, hNA, hEA⟩ := id hS.1
  obtain ⟨la1, la2, la3, la4⟩ := id hLA
  have e0 : (0 : Nat) < T.1 := by omega
  have e1 : (1 : Nat) < T.1 := by omega
  have e2 : (2 : Nat) < T.1 := by omega
  have e37 : (37 : Nat) < T.1 := by omega
  have e40 : (40 : Nat) < T.1 := by omega
  have e42 : (42 : Nat) < T.1 := by omega
  have e44 : (44 : Nat) < T.1 := by omega
  have e112 : (112 : Nat) < T.1 := by omega
  have v42 := hVA.2.1
  have v44 := hPA.2.1
  have v2 := hS.2.2.1.1.2.1
  have v37 := hS.2.2.2.1.1.2.1
  have v40 := hTA.2.2.1
  have v112 := hNA.2.1
  refine s_iload_n (i := 1) dX11_at_0 rfl rfl ?_
  refine s_cS_I (My := mX11_isList) dX11_at_1 wM_X11_74 cb_yX11_isList wT_yX11_isList (Nat.le_of_ble_eq_true rfl) (by decide) (c_isList ?_ ?_)
  · intro hx
    obtain ⟨li, hli, rfl⟩ := lidx hx
    have hxt : (zI (li : Int)).toInt = li := zI_t (by omega) (by omega)
    have hnl : (zI li).toNatClampNeg = li := by rw [zI_n (by omega) (by omega)]; simp
    obtain ⟨lb1, lb2⟩ := la4 li hli
    obtain ⟨k1, k2, k3, k4, k5, k6, k7, k8⟩ := id lb2
    obtain ⟨r1, r2, r3, r4, r5, r6, r7⟩ := id k8
    have hC := hS.2.1 li hli
    have hL := hk.1 li hli
    have hxn : (zI (li : Int)).toInt.toNat = li := by rw [hxt]; simp
    have hm := hL.1
    have hms := hC.2.1.2.2.1
    refine s_if_eq (tgt := 27) dX11_at_4 (by decide) (fun c4 => absurd c4 (by decide)) (fun c4 => ?_)
    refine s_iload_n (i := 2) dX11_at_7 rfl rfl ?_
    refine s_if_lt (tgt := 27) dX11_at_8 (by decide) (fun c8 => ?_) (fun c8 => ?_)
    · refine s_bipush (v := -2) dX11_at_27 (by decide) ?_
      refine s_iret dX11_at_29 rfl ?_
      try rw [t_lt0] at c8
      try rw [t_lt', hms] at c24
      rw [zm2]
      exact hq T I (-2) S (Or.inl ⟨fun h => by rw [hxn] at h; omega, rfl, rfl⟩) (Tq.refl T) (frM.refl I) hS
    · refine s_iload_n (i := 2) dX11_at_11 rfl rfl ?_
      refine s_aload_n (i := 0) dX11_at_12 rfl rfl ?_
      refine s_getR dX11_at_13 fl_X11_11 (by assumption) (by assumption) (by assumption) ?_
      refine s_iload_n (i := 1) dX11_at_16 rfl rfl ?_
      refine s_aldC dX11_at_17 (by assumption) (by assumption) (by rw [la3]; exact z_in (by omega) (by omega) (by omega)) (by rw [hnl]; exact lb1) ?_
      refine s_getR dX11_at_18 fl_X11_81 (by assumption) (by assumption) (by assumption) ?_
      refine s_getI dX11_at_21 fl_X11_87 (by assumption) (by assumption) ?_
      refine s_icmp_lt (tgt := 30) dX11_at_24 (by decide) (fun c24 => ?_) (fun c24 => ?_)
      · rw [t_lt0] at c8
        rw [t_lt', hms] at c24
        obtain ⟨q, hyq⟩ : ∃ q : Nat, y.toInt = q := ⟨y.toInt.toNat, by omega⟩
        have hyz := t_zI hyq
        have hqm : q < (S.1 li).2.1 := by omega
        have hgv := hL.2.2.1 q hqm
        refine s_aload_n (i := 0) dX11_at_30 rfl rfl ?_
        refine s_getR dX11_at_31 fl_X11_11 (by assumption) (by assumption) (by assumption) ?_
        refine s_iload_n (i := 1) dX11_at_34 rfl rfl ?_
        refine s_aldC dX11_at_35 (by assumption) (by assumption) (by rw [la3]; exact z_in (by omega) (by omega) (by omega)) (by rw [hnl]; exact lb1) ?_
        refine s_getR dX11_at_36 fl_X11_81 (by assumption) (by assumption) (by assumption) ?_
        refine s_iload_n (i := 2) dX11_at_39 rfl rfl ?_
        refine s_topi (y := zI (q : Int)) hyz ?_
        refine s_cV_I (My := mX9_get) dX11_at_40 wM_X11_150 cb_yX9_get ci_yX9_get (by assumption) (by assumption) (Nat.le_of_ble_eq_true rfl) (by decide) (c_getn hC.2.1 hqm ?_)
        refine s_istore_n (i := 3) dX11_at_43 rfl (by decide) (by simp only [sl, sl2, rm, Value.category, reduceIte, Nat.reduceAdd, Nat.reduceEqDiff, reduceCtorEq]; rfl) ?_
        refine s_aload_n (i := 0) dX11_at_44 rfl rfl ?_
        refine s_getR dX11_at_45 fl_X11_25 (by assumption) (by assumption) (by assumption) ?_
        refine s_iload_n (i := 1) dX11_at_48 rfl rfl ?_
        refine s_aload_n (i := 0) dX11_at_49 rfl rfl ?_
        refine s_getR dX11_at_50 fl_X11_11 (by assumption) (by assumption) (by assumption) ?_
        refine s_iload_n (i := 1) dX11_at_53 rfl rfl ?_
        refine s_aldC dX11_at_54 (by assumption) (by assumption) (by rw [la3]; exact z_in (by omega) (by omega) (by omega)) (by rw [hnl]; exact lb1) ?_
        refine s_iload_n (i := 3) dX11_at_55 rfl rfl ?_
        refine s_cV_I (My := mX2_lastBlockUpTo) dX11_at_56 wM_X11_208 cb_yX2_lastBlockUpTo ci_yX2_lastBlockUpTo (by assumption) (by assumption) (Nat.le_of_ble_eq_true rfl) (by decide) (s_d (by omega) (c_lbu (d := 0) hC hL.2.2.2.2.1 hL.2.1 (fun j hB => ?_)))
        rw [zI_t (by omega) (by omega)] at hB
        have hj0 := LB.nn hL hqm hB
        obtain ⟨j, rfl⟩ : ∃ j' : Nat, j = j' := ⟨j.toNat, by omega⟩
        have hnm := hL.nbm
        have hjn := hB.2.1
        refine s_cV_II (My := mX1_look) dX11_at_59 wM_X11_211 cb_yX1_look ci_yX1_look (by assumption) (by assumption) (Nat.le_of_ble_eq_true rfl) (by decide) (s_d (by omega) (c_lookS (d := 0) hS hk hli (by omega) (fun I1 C1 hl1 hM1 hb1 hS1 => ?_)))
        refine s_iload_n (i := 3) dX11_at_62 rfl rfl ?_
        refine s_iret dX11_at_63 rfl ?_
        exact hq T I1 _ _ (Or.inr ⟨li, q, j, C1, hli, hxt, hyq, hqm, rfl, hB, hl1, rfl⟩) (Tq.refl T) hM1 hS1
      · refine s_bipush (v := -2) dX11_at_27 (by decide) ?_
        refine s_iret dX11_at_29 rfl ?_
        try rw [t_lt0] at c8
        try rw [t_lt', hms] at c24
        rw [zm2]
        exact hq T I (-2) S (Or.inl ⟨fun h => by rw [hxn] at h; omega, rfl, rfl⟩) (Tq.refl T) (frM.refl I) hS
  · intro hx
    refine s_if_eq (tgt := 27) dX11_at_4 (by decide) (fun c4 => ?_) (fun c4 => absurd (rfl) c4)
    refine s_bipush (v := -2) dX11_at_27 (by decide) ?_
    refine s_iret dX11_at_29 rfl ?_
    rw [zm2]
    exact hq T I (-2) S (Or.inl ⟨fun h => hx h.1, rfl, rfl⟩) (Tq.refl T) (frM.refl I) hS
set_option maxRecDepth 100000 in
set_option maxHeartbeats 1000000 in
theorem l_find54 {G : fG} {x0 : Nat} {l : Launch} {d k n : Nat} {T : fT} {I : fI} {J : fJ} {Q : Option Value → fT → fI → fJ → Prop} {li : Nat} {y z e4 : Int32} {S S' : ASt} {I0 : fI} (hS : ClsIs T I S') (hL1 : S'.1 = S.1) (hk : SOk S) (hli : li < 6) (hz : 0 ≤ z.toInt ∧ z.toInt ≤ 1) (hM : frM I0 I) (hq : ∀ (p : Nat), FA (S.1 li).1 (S.1 li).2.1 y.toInt p → Q (some (.int (zI (if p = (S.1 li).2.1 then -1 else if z.toInt = 0 then (p : Int) else (S.1 li).1 p)))) T I J) : PW G x0 l mX11_find (d + 3) (ZM G x0 Q) k n 54 [(0, .ref (x0 + 0)), (1, .int (zI li)), (2, .int y), (3, .int z), (4, .int e4)] [] T I J := by
  obtain ⟨⟨o1, o2, o3, o4, o5, o6, o7, o8, o9, o10, o11⟩, hLA, hTA, hVA, hPA, hGA, hNA, hEA⟩ := id hS.1
  obtain ⟨la1, la2, la3, la4⟩ := id hLA
  have e0 : (0 : Nat) < T.1 := by omega
  have e1 : (1 : Nat) < T.1 := by omega
  have e2 : (2 : Nat) < T.1 := by omega
  have e37 : (37 : Nat) < T.1 := by omega
  have e40 : (40 : Nat) < T.1 := by omega
  have e42 : (42 : Nat) < T.1 := by omega
  have e44 : (44 : Nat) < T.1 := by omega
  have e112 : (112 : Nat) < T.1 := by omega
  have v42 := hVA.2.1
  have v44 := hPA.2.1
  have v2 := hS.2.2.1.1.2.1
  have v37 := hS.2.2.2.1.1.2.1
  have v40 := hTA.2.2.1
  have v112 := hNA.2.1
  have hxt : (zI (li : Int)).toInt = li := zI_t (by omega) (by omega)
  have hnl : (zI li).toNatClampNeg = li := by rw [zI_n (by omega) (by omega)]; simp
  obtain ⟨lb1, lb2⟩ := la4 li hli
  obtain ⟨k1, k2, k3, k4, k5, k6, k7, k8⟩ := id lb2
  obtain ⟨r1, r2, r3, r4, r5, r6, r7⟩ := id k8
  have hC := hS.2.1 li hli
  have hL := hk.1 li hli
  rw [hL1] at hC
  have hm := hL.1
  have hms := hC.2.1.2.2.1
  refine s_aload_n (i := 0) dX11_find_54 rfl rfl ?_
  refine s_getR dX11_find_55 fl_X11_11 (by assumption) (by assumption) (by assumption) ?_
  refine s_iload_n (i := 1) dX11_find_58 rfl rfl ?_
  refine s_aldC dX11_find_59 (by assumption) (by assumption) (by rw [la3]; exact z_in (by omega) (by omega) (by omega)) (by rw [hnl]; exact lb1) ?_
  refine s_getR dX11_find_60 fl_X11_81 (by assumption) (by assumption) (by assumption) ?_
  refine s_astore dX11_find_63 (by decide) (by simp only [sl, sl2, rm, Value.category, reduceIte, Nat.reduceAdd, Nat.reduceEqDiff, reduceCtorEq]; rfl) ?_
  refine s_aload dX11_find_65 rfl ?_
  refine s_iload_n (i := 2) dX11_find_67 rfl rfl ?_
  refine s_cV_I (My := mX9_firstAtLeast) dX11_find_68 wM_X11_215 cb_yX9_firstAtLeast ci_yX9_firstAtLeast (by assumption) (by assumption) (Nat.le_of_ble_eq_true rfl) (by decide) (s_d (by omega) (c_fal (d := 0) hC.2.1 hL.2.1 (fun p hF => ?_)))
  have hF1 := hF.1
  refine s_istore dX11_find_71 (by decide) (by simp only [sl, sl2, rm, Value.category, reduceIte, Nat.reduceAdd, Nat.reduceEqDiff, reduceCtorEq]; rfl) ?_
  refine s_iload dX11_find_73 rfl ?_
  refine s_aload dX11_find_75 rfl ?_
  refine s_getI dX11_find_77 fl_X11_87 (by assumption) (by assumption) ?_
  refine s_icmp_lt (tgt := 85) dX11_find_80 (by decide) (fun c80 => ?_) (fun c80 => ?_)
  · rw [t_zI hms, zI_lt (by omega) (by omega) (by omega) (by omega)] at c80
    have hpm : p < (S.1 li).2.1 := by omega
    have hq' := hq p hF
    rw [if_neg (by omega)] at hq'
    refine s_iload_n (i := 3) dX11_find_85 rfl rfl ?_
    refine s_if_ne (tgt := 94) dX11_find_86 (by decide) (fun c86 => ?_) (fun c86 => ?_)
    · have c86' : z.toInt ≠ 0 := fun h => c86 (by rw [t_zI h]; rfl)
      rw [if_neg c86'] at hq'
      refine s_aload dX11_find_94 rfl ?_
      refine s_iload dX11_find_96 rfl ?_
      refine s_cV_I (My := mX9_get) dX11_find_98 wM_X11_150 cb_yX9_get ci_yX9_get (by assumption) (by assumption) (Nat.le_of_ble_eq_true rfl) (by decide) (c_getn hC.2.1 hpm ?_)
      refine s_iret dX11_find_101 rfl ?_
      exact hq'
    · have c86' : z.toInt = 0 := by rw [c86]; rfl
      rw [if_pos c86'] at hq'
      refine s_iload dX11_find_89 rfl ?_
      refine s_goto (tgt := 101) dX11_find_91 (by decide) ?_
      refine s_iret dX11_find_101 rfl ?_
      exact hq'
  · rw [t_zI hms, zI_lt (by omega) (by omega) (by omega) (by omega)] at c80
    have hq' := hq p hF
    rw [if_pos (by omega)] at hq'
    refine s_iconst (v := -1) dX11_find_83 (by decide) ?_
    refine s_iret dX11_find_84 rfl ?_
    rw [zm1]
    exact hq'
set_option maxRecDepth 100000 in
set_option maxHeartbeats 1000000 in
theorem c_find {G : fG} {x0 : Nat} {l : Launch} {d k n : Nat} {T : fT} {I : fI} {J : fJ} {Q : Option Value → fT → fI → fJ → Prop} {x y z : Int32} {S : ASt} (hS : ClsIs T I S) (hk : SOk S) (hq : ∀ (T' : fT) (I' : fI) (a : Int) (S' : ASt), rFind S x.toInt y.toInt z.toInt a S' → Tq T T' → frM I I' → ClsIs T' I' S' → Q (some (.int (zI a))) T' I' J) : PW G x0 l mX11_find (d + 3) (ZM G x0 Q) k n 0 [(0, .ref (x0 + 0)), (1, .int x), (2, .int y), (3, .int z)] [] T I J := by
  obtain ⟨⟨o1, o2, o3, o4, o5, o6, o7, o8, o9, o10, o11⟩, hLA, hTA, hVA, hPA, hGA, hNA, hEA⟩ := id hS.1
  obtain ⟨la1, la2, la3, la4⟩ := id hLA
  have e0 : (0 : Nat) < T.1 := by omega
  have e1 : (1 : Nat) < T.1 := by omega
  have e2 : (2 : Nat) < T.1 := by omega
  have e37 : (37 : Nat) < T.1 := by omega
  have e40 : (40 : Nat) < T.1 := by omega
  have e42 : (42 : Nat) < T.1 := by omega
  have e44 : (44 : Nat) < T.1 := by omega
  have e112 : (112 : Nat) < T.1 := by omega
  have v42 := hVA.2.1
  have v44 := hPA.2.1
  have v2 := hS.2.2.1.1.2.1
  have v37 := hS.2.2.2.1.1.2.1
  have v40 := hTA.2.2.1
  have v112 := hNA.2.1
  refine s_iload_n (i := 1) dX11_find_0 rfl rfl ?_
  refine s_cS_I (My := mX11_isList) dX11_find_1 wM_X11_74 cb_yX11_isList wT_yX11_isList (Nat.le_of_ble_eq_true rfl) (by decide) (c_isList ?_ ?_)
  · intro hx
    refine s_if_eq (tgt := 23) dX11_find_4 (by decide) (fun c4 => absurd c4 (by decide)) (fun c4 => ?_)
    refine s_iload_n (i := 2) dX11_find_7 rfl rfl ?_
    refine s_cS_I (My := mX11_isValue) dX11_find_8 wM_X11_78 cb_yX11_isValue wT_yX11_isValue (Nat.le_of_ble_eq_true rfl) (by decide) (c_isValue ?_ ?_)
    · intro hy
      obtain ⟨li, hli, rfl⟩ := lidx hx
      have hxt : (zI (li : Int)).toInt = li := zI_t (by omega) (by omega)
      have hnl : (zI li).toNatClampNeg = li := by rw [zI_n (by omega) (by omega)]; simp
      obtain ⟨lb1, lb2⟩ := la4 li hli
      obtain ⟨k1, k2, k3, k4, k5, k6, k7, k8⟩ := id lb2
      obtain ⟨r1, r2, r3, r4, r5, r6, r7⟩ := id k8
      have hC := hS.2.1 li hli
      have hL := hk.1 li hli
      have hxn : (zI (li : Int)).toInt.toNat = li := by rw [hxt]; simp
      have hm := hL.1
      have hms := hC.2.1.2.2.1
      have hnm := hL.nbm
      refine s_if_eq (tgt := 23) dX11_find_11 (by decide) (fun c11 => absurd c11 (by decide)) (fun c11 => ?_)
      refine s_iload_n (i := 3) dX11_find_14 rfl rfl ?_
      refine s_if_lt (tgt := 23) dX11_find_15 (by decide) (fun c15 => ?_) (fun c15 => ?_)
      · refine s_bipush (v := -2) dX11_find_23 (by decide) ?_
        refine s_iret dX11_find_25 rfl ?_
        rw [t_lt0] at c15
        try rw [t_le', show ((1 : Int32).toInt) = 1 from by decide] at c20
        rw [zm2]
        exact hq T I (-2) S (Or.inl ⟨fun h => by omega, rfl, rfl⟩) (Tq.refl T) (frM.refl I) hS
      · refine s_iload_n (i := 3) dX11_find_18 rfl rfl ?_
        refine s_iconst (v := 1) dX11_find_19 (by decide) ?_
        refine s_icmp_le (tgt := 26) dX11_find_20 (by decide) (fun c20 => ?_) (fun c20 => ?_)
        · rw [t_lt0] at c15
          rw [t_le', show ((1 : Int32).toInt) = 1 from by decide] at c20
          refine s_aload_n (i := 0) dX11_find_26 rfl rfl ?_
          refine s_getR dX11_find_27 fl_X11_11 (by assumption) (by assumption) (by assumption) ?_
          refine s_iload_n (i := 1) dX11_find_30 rfl rfl ?_
          refine s_aldC dX11_find_31 (by assumption) (by assumption) (by rw [la3]; exact z_in (by omega) (by omega) (by omega)) (by rw [hnl]; exact lb1) ?_
          refine s_iload_n (i := 2) dX11_find_32 rfl rfl ?_
          refine s_cV_I (My := mX2_lastBlockUpTo) dX11_find_33 wM_X11_208 cb_yX2_lastBlockUpTo ci_yX2_lastBlockUpTo (by assumption) (by assumption) (Nat.le_of_ble_eq_true rfl) (by decide) (s_d (by omega) (c_lbu (d := 0) hC hL.2.2.2.2.1 hL.2.1 (fun j hB => ?_)))
          have hjb := hB.1
          have hjn := hB.2.1
          refine s_istore dX11_find_36 (by decide) (by simp only [sl, sl2, rm, Value.category, reduceIte, Nat.reduceAdd, Nat.reduceEqDiff, reduceCtorEq]; rfl) ?_
          refine s_iload dX11_find_38 rfl ?_
          refine s_iconst (v := -1) dX11_find_40 (by decide) ?_
          refine s_icmp_eq (tgt := 54) dX11_find_41 (by decide) (fun c41 => ?_) (fun c41 => ?_)
          · rw [zm1, zI_eq (by omega) (by omega) (by omega) (by omega)] at c41
            refine l_find54 (S := S) hS rfl hk hli (by omega) (frM.refl I) (fun p hF => ?_)
            exact hq T I _ _ (Or.inr ⟨li, p, j, hli, hxt, hy, by omega, hB, hF, rfl, Or.inl ⟨c41, rfl⟩⟩) (Tq.refl T) (frM.refl I) hS
          · rw [zm1, zI_eq (by omega) (by omega) (by omega) (by omega)] at c41
            obtain ⟨j, rfl⟩ : ∃ j' : Nat, j = j' := ⟨j.toNat, by omega⟩
            refine s_aload_n (i := 0) dX11_find_44 rfl rfl ?_
            refine s_getR dX11_find_45 fl_X11_25 (by assumption) (by assumption) (by assumption) ?_
            refine s_iload_n (i := 1) dX11_find_48 rfl rfl ?_
            refine s_iload dX11_find_49 rfl ?_
            refine s_cV_II (My := mX1_look) dX11_find_51 wM_X11_211 cb_yX1_look ci_yX1_look (by assumption) (by assumption) (Nat.le_of_ble_eq_true rfl) (by decide) (s_d (by omega) (c_lookS (d := 0) hS hk hli (by omega) (fun I1 C1 hl1 hM1 hb1 hS1 => ?_)))
            refine l_find54 (S := S) (S' := setC S C1) hS1 rfl hk hli (by omega) hM1 (fun p hF => ?_)
            exact hq T I1 _ _ (Or.inr ⟨li, p, j, hli, hxt, hy, by omega, hB, hF, rfl, Or.inr ⟨C1, c41, hl1, rfl⟩⟩) (Tq.refl T) hM1 hS1
        · refine s_bipush (v := -2) dX11_find_23 (by decide) ?_
          refine s_iret dX11_find_25 rfl ?_
          rw [t_lt0] at c15
          try rw [t_le', show ((1 : Int32).toInt) = 1 from by decide] at c20
          rw [zm2]
          exact hq T I (-2) S (Or.inl ⟨fun h => by omega, rfl, rfl⟩) (Tq.refl T) (frM.refl I) hS
    · intro hy
      refine s_if_eq (tgt := 23) dX11_find_11 (by decide) (fun c11 => ?_) (fun c11 => absurd (rfl) c11)
      refine s_bipush (v := -2) dX11_find_23 (by decide) ?_
      refine s_iret dX11_find_25 rfl ?_
      rw [zm2]
      exact hq T I (-2) S (Or.inl ⟨fun h => hy h.2.1, rfl, rfl⟩) (Tq.refl T) (frM.refl I) hS
  · intro hx
    refine s_if_eq (tgt := 23) dX11_find_4 (by decide) (fun c4 => ?_) (fun c4 => absurd (rfl) c4)
    refine s_bipush (v := -2) dX11_find_23 (by decide) ?_
    refine s_iret dX11_find_25 rfl ?_
    rw [zm2]
    exact hq T I (-2) S (Or.inl ⟨fun h => hx h.1, rfl, rfl⟩) (Tq.refl T) (frM.refl I) hS
set_option maxRecDepth 100000 in
set_option maxHeartbeats 1000000 in
theorem c_cached {G : fG} {x0 : Nat} {l : Launch} {d k n : Nat} {T : fT} {I : fI} {J : fJ} {Q : Option Value → fT → fI → fJ → Prop} {x y : Int32} {S : ASt} (hS : ClsIs T I S) (hk : SOk S) (hq : ∀ (T' : fT) (I' : fI), Tq T T' → fr I I' roS → Q (some (.int (zI (fCached S x.toInt y.toInt)))) T' I' J) : PW G x0 l mX11_cached (d + 2) (ZM G x0 Q) k n 0 [(0, .ref (x0 + 0)), (1, .int x), (2, .int y)] [] T I J := by
  obtain ⟨⟨o1, o2, o3, o4, o5, o6, o7, o8, o9, o10, o11⟩, hLA, hTA, hVA, hPA, hGA, hNA, hEA⟩ := id hS.1
  obtain ⟨la1, la2, la3, la4⟩ := id hLA
  have e0 : (0 : Nat) < T.1 := by omega
  have e1 : (1 : Nat) < T.1 := by omega
  have e2 : (2 : Nat) < T.1 := by omega
  have e37 : (37 : Nat) < T.1 := by omega
  have e40 : (40 : Nat) < T.1 := by omega
  have e42 : (42 : Nat) < T.1 := by omega
  have e44 : (44 : Nat) < T.1 := by omega
  have e112 : (112 : Nat) < T.1 := by omega
  have v42 := hVA.2.1
  have v44 := hPA.2.1
  have v2 := hS.2.2.1.1.2.1
  have v37 := hS.2.2.2.1.1.2.1
  have v40 := hTA.2.2.1
  have v112 := hNA.2.1
  unfold fCached at hq
  refine s_aload_n (i := 0) dX11_cached_0 rfl rfl ?_
  refine s_iload_n (i := 1) dX11_cached_1 rfl rfl ?_
  refine s_iload_n (i := 2) dX11_cached_2 rfl rfl ?_
  refine s_cV_II (My := mX11_isBlock) dX11_cached_3 wM_X11_153 cb_yX11_isBlock ci_yX11_isBlock (by assumption) (by assumption) (Nat.le_of_ble_eq_true rfl) (by decide) (s_d (by omega) (c_isBlock (d := 0) hS ?_ ?_))
  · rintro li j rfl rfl hli hj
    have hxt : (zI (li : Int)).toInt = li := zI_t (by omega) (by omega)
    have hnl : (zI li).toNatClampNeg = li := by rw [zI_n (by omega) (by omega)]; simp
    have hxn : (zI (li : Int)).toInt.toNat = li := by rw [hxt]; simp
    obtain ⟨lb1, lb2⟩ := la4 li hli
    obtain ⟨k1, k2, k3, k4, k5, k6, k7, k8⟩ := id lb2
    have hC := hS.2.1 li hli
    have hL := hk.1 li hli
    have hnm := hL.nbm
    have hm := hL.1
    have hyt : (zI (j : Int)).toInt = j := zI_t (by omega) (by omega)
    have hyn : (zI (j : Int)).toInt.toNat = j := by rw [hyt]; simp
    have hb := hL.blk hj
    have hB : isB S (zI (li : Int)).toInt (zI (j : Int)).toInt := ⟨by omega, by rw [hxn]; omega⟩
    rw [if_pos hB] at hq
    refine s_if_ne (tgt := 12) dX11_cached_6 (by decide) (fun c6 => ?_) (fun c6 => absurd c6 (by decide))
    refine s_aload_n (i := 0) dX11_cached_12 rfl rfl ?_
    refine s_getR dX11_cached_13 fl_X11_25 (by assumption) (by assumption) (by assumption) ?_
    refine s_iload_n (i := 1) dX11_cached_16 rfl rfl ?_
    refine s_iload_n (i := 2) dX11_cached_17 rfl rfl ?_
    refine s_cV_II (My := mX1_placeOf) dX11_cached_18 wM_X11_218 cb_yX1_placeOf ci_yX1_placeOf (by assumption) (by assumption) (Nat.le_of_ble_eq_true rfl) (by decide) (s_d (by omega) (c_place (d := 0) hS.2.2.2.1 (fun p hp => ?_) (fun hn => ?_)))
    · have hp4 := (List.getElem?_eq_some_iff.mp hp).1
      have hc4 := hS.2.2.2.1.2.1
      refine s_iconst (v := -1) dX11_cached_21 (by decide) ?_
      refine s_icmp_eq (tgt := 29) dX11_cached_22 (by decide) (fun c22 => absurd c22 (by rw [zm1, zI_eq (by omega) (by omega) (by omega) (by omega)]; omega)) (fun c22 => ?_)
      refine s_iconst (v := 1) dX11_cached_25 (by decide) ?_
      refine s_goto (tgt := 30) dX11_cached_26 (by decide) ?_
      refine s_iret dX11_cached_30 rfl ?_
      rw [if_pos (List.mem_of_getElem? hp)] at hq
      exact hq T I (Tq.refl T) (fr_refl I _)
    · refine s_iconst (v := -1) dX11_cached_21 (by decide) ?_
      refine s_icmp_eq (tgt := 29) dX11_cached_22 (by decide) (fun c22 => ?_) (fun c22 => absurd (rfl) c22)
      refine s_iconst (v := 0) dX11_cached_29 (by decide) ?_
      refine s_iret dX11_cached_30 rfl ?_
      rw [if_neg hn] at hq
      exact hq T I (Tq.refl T) (fr_refl I _)
  · intro hx
    refine s_if_ne (tgt := 12) dX11_cached_6 (by decide) (fun c6 => absurd c6 (fun h => h rfl)) (fun c6 => ?_)
    refine s_bipush (v := -2) dX11_cached_9 (by decide) ?_
    refine s_iret dX11_cached_11 rfl ?_
    rw [if_neg (hx)] at hq
    rw [zm2]
    exact hq T I (Tq.refl T) (fr_refl I _)
set_option maxRecDepth 100000 in
set_option maxHeartbeats 1000000 in
theorem c_result {G : fG} {x0 : Nat} {l : Launch} {d k n : Nat} {T : fT} {I : fI} {J : fJ} {Q : Option Value → fT → fI → fJ → Prop} {x : Int32} {S : ASt} (hS : ClsIs T I S) (hk : SOk S) (hq : ∀ (T' : fT) (I' : fI), Tq T T' → fr I I' roS → Q (some (.int (zI (fRes S x.toInt)))) T' I' J) : PW G x0 l mX11_result (d + 1) (ZM G x0 Q) k n 0 [(0, .ref (x0 + 0)), (1, .int x)] [] T I J := by
  obtain ⟨⟨o1, o2, o3, o4, o5, o6, o7, o8, o9, o10, o11⟩, hLA, hTA, hVA, hPA, hGA, hNA, hEA⟩ := id hS.1
  obtain ⟨la1, la2, la3, la4⟩ := id hLA
  have e0 : (0 : Nat) < T.1 := by omega
  have e1 : (1 : Nat) < T.1 := by omega
  have e2 : (2 : Nat) < T.1 := by omega
  have e37 : (37 : Nat) < T.1 := by omega
  have e40 : (40 : Nat) < T.1 := by omega
  have e42 : (42 : Nat) < T.1 := by omega
  have e44 : (44 : Nat) < T.1 := by omega
  have e112 : (112 : Nat) < T.1 := by omega
  have v42 := hVA.2.1
  have v44 := hPA.2.1
  have v2 := hS.2.2.1.1.2.1
  have v37 := hS.2.2.2.1.1.2.1
  have v40 := hTA.2.2.1
  have v112 := hNA.2.1
  unfold fRes at hq
  cases hr : S.2.2.2.2 with
  | none =>
    have hj := hS.2.2.2.2.2.2
    rw [hr] at hj
    have hj0 : T.2.2.2 0 9 = none := hj
    simp only [hr] at hq
    refine s_iload_n (i := 1) dX11_result_0 rfl rfl ?_
    refine s_if_ge (tgt := 7) dX11_result_1 (by decide) (fun c1 => ?_) (fun c1 => ?_)
    · refine s_aload_n (i := 0) dX11_result_7 rfl rfl ?_
      refine s_getN dX11_result_8 fl_X11_124 (by assumption) (by assumption) hj0 ?_
      refine s_ifnonnullN dX11_result_11 ?_
      refine s_bipush (v := -3) dX11_result_14 (by decide) ?_
      refine s_iret dX11_result_16 rfl ?_
      rw [t_ge0] at c1
      rw [if_neg (by omega)] at hq
      rw [zm3]
      exact hq T I (Tq.refl T) (fr_refl I _)
    · refine s_bipush (v := -2) dX11_result_4 (by decide) ?_
      refine s_iret dX11_result_6 rfl ?_
      rw [t_ge0] at c1
      rw [if_pos (by omega)] at hq
      rw [zm2]
      exact hq T I (Tq.refl T) (fr_refl I _)
  | some r =>
    have hj := hS.2.2.2.2.2.2
    rw [hr] at hj
    obtain ⟨j0, hJA, hJR, hJp⟩ := hj
    obtain ⟨hr1, hr2, hr3⟩ := hk.2.2.2.2.2 r hr
    have j1 : T.2.1 162 = 6 := hJA.2.1
    have j2 : T.2.2.2 162 1 = some 164 := hJA.2.2.2.1
    have j3 : T.2.2.2 162 0 = some 163 := hJA.2.2.1
    have e162 : (162 : Nat) < T.1 := by have := hJA.1; omega
    have e163 : (163 : Nat) < T.1 := by have := hJA.1; omega
    have e164 : (164 : Nat) < T.1 := by have := hJA.1; omega
    have j4 : T.2.1 164 = 9 := hJR.1.2.2.1
    have j5 : T.2.1 163 = 4 := hJA.2.2.2.2.2.2.2.2.2.2.1.2
    simp only [hr] at hq
    refine s_iload_n (i := 1) dX11_result_0 rfl rfl ?_
    refine s_if_ge (tgt := 7) dX11_result_1 (by decide) (fun c1 => ?_) (fun c1 => ?_)
    · refine s_aload_n (i := 0) dX11_result_7 rfl rfl ?_
      refine s_getR dX11_result_8 fl_X11_124 (by assumption) (by assumption) (by assumption) ?_
      refine s_ifnonnull (tgt := 17) dX11_result_11 (by decide) ?_
      refine s_aload_n (i := 0) dX11_result_17 rfl rfl ?_
      refine s_getR dX11_result_18 fl_X11_124 (by assumption) (by assumption) (by assumption) ?_
      refine s_getR dX11_result_21 fl_X11_128 (by assumption) (by assumption) (by assumption) ?_
      refine s_iload_n (i := 1) dX11_result_24 rfl rfl ?_
      refine s_cV_I (My := mX9_get) dX11_result_25 wM_X11_150 cb_yX9_get ci_yX9_get (by assumption) (by assumption) (Nat.le_of_ble_eq_true rfl) (by decide) (c_get hJR.1 (by rw [hJR.2.2.1]; exact Int.ofNat_le.mpr hJR.2.1) rfl ?_)
      refine s_iret dX11_result_28 rfl ?_
      rw [t_ge0] at c1
      rw [if_neg (by omega)] at hq
      by_cases hxl : x.toInt < r.1.length
      · rw [if_pos hxl] at hq
        have := hJR.get (z := x.toInt) c1 hxl
        rw [zI_self] at this
        rw [this]
        exact hq T I (Tq.refl T) (fr_refl I _)
      · rw [if_neg hxl] at hq
        have : rget I 164 x = zI (-1) := by
          unfold rget
          rw [if_neg (by rw [t_lt0]; omega), if_pos (by rw [t_le', hJR.2.2.1]; omega)]
          exact zm1
        rw [this]
        exact hq T I (Tq.refl T) (fr_refl I _)
    · refine s_bipush (v := -2) dX11_result_4 (by decide) ?_
      refine s_iret dX11_result_6 rfl ?_
      rw [t_ge0] at c1
      rw [if_pos (by omega)] at hq
      rw [zm2]
      exact hq T I (Tq.refl T) (fr_refl I _)
