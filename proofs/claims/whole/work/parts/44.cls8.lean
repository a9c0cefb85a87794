def gpair (S : ASt) (a b : Nat) : Nat × Nat := gint (S.1 a).1 (S.1 a).2.1 (S.1 b).1 (S.1 b).2.1 ((S.1 a).2.1 + (S.1 b).2.1) 0 0
def fCommon (S : ASt) (x y z : Int) : Int := if isL x ∧ isL y ∧ 0 ≤ z ∧ z ≤ 1 then (if z = 0 then ((gpair S x.toNat y.toNat).1 : Int) else ((gpair S x.toNat y.toNat).2 : Int)) else -2
def sumL (S : ASt) (z : Int) : Nat → Int
  | 0 => 0
  | i + 1 => sumL S z i + listP (S.1 i) z
def resL (S : ASt) : Int := match S.2.2.2.2 with
  | none => -1
  | some r => r.1.length
def resP (S : ASt) : Int := match S.2.2.2.2 with
  | none => -1
  | some r => r.2
def fCount (S : ASt) (x : Int) : Int := if 0 ≤ x ∧ x ≤ 2 then sumL S x 6 else if x = 3 then S.2.2.1.1.length else if x = 4 then S.2.2.1.2.1 else if x = 5 then S.2.2.1.2.2 else if x = 6 then resL S else if x = 7 then resP S else if x = 8 then S.2.1.length else if x = 9 then S.2.2.2.1.2 else -2
set_option maxRecDepth 100000 in
set_option maxHeartbeats 1000000 in
theorem c_common {G : fG} {x0 : Nat} {l : Launch} {d k n : Nat} {T : fT} {I : fI} {J : fJ} {Q : Option Value → fT → fI → fJ → Prop} {x y z : Int32} {S : ASt} (hS : ClsIs T I S) (hk : SOk S) (hq : ∀ (T' : fT) (I' : fI), Tq T T' → fr I I' roS → Q (some (.int (zI (fCommon S x.toInt y.toInt z.toInt)))) T' I' J) : PW G x0 l mX11_common (d + 4) (ZM G x0 Q) k n 0 [(0, .ref (x0 + 0)), (1, .int x), (2, .int y), (3, .int z)] [] T I J := by
  obtain ⟨⟨o1, o2, o3, o4, o5, o6, o7, o8, o9, o10, o11⟩, hLA, hTA, hVA, hPA, hGA, hNA, hEA⟩ := id hS.1
  obtain ⟨la1, la2, la3, la4⟩ := id hLA
  have e0 : (0 : Nat) < T.1 := by omega
  have e1 : (1 : Nat) < T.1 := by omega
  have e2 : (2 : Nat) < T.1 := by omega
  have e37 : (37 : Nat) < T.1 := by omega
  have e40 : (40 : Nat) < T.1 := by omega
  have e42 : (42 : Nat) < T.1 := by omega
  have e44 : (44 : Nat) < T.1 := by omega
  have e112 : (112 : Nat) < T.1 := by omega
  have v42 := hVA.2.1
  have v44 := hPA.2.1
  have v2 := hS.2.2.1.1.2.1
  have v37 := hS.2.2.2.1.1.2.1
  have v40 := hTA.2.2.1
  have v112 := hNA.2.1
  have e111 : (111 : Nat) < T.1 := by omega
  have v111 := hGA.2
  unfold fCommon at hq
  refine s_iload_n (i := 1) dX11_common_0 rfl rfl ?_
  refine s_cS_I (My := mX11_isList) dX11_common_1 wM_X11_74 cb_yX11_isList wT_yX11_isList (Nat.le_of_ble_eq_true rfl) (by decide) (c_isList ?_ ?_)
  · intro hx
    refine s_if_eq (tgt := 23) dX11_common_4 (by decide) (fun c4 => absurd c4 (by decide)) (fun c4 => ?_)
    refine s_iload_n (i := 2) dX11_common_7 rfl rfl ?_
    refine s_cS_I (My := mX11_isList) dX11_common_8 wM_X11_74 cb_yX11_isList wT_yX11_isList (Nat.le_of_ble_eq_true rfl) (by decide) (c_isList ?_ ?_)
    · intro hy
      obtain ⟨li, hli, rfl⟩ := lidx hx
      have hxt : (zI (li : Int)).toInt = li := zI_t (by omega) (by omega)
      have hnl : (zI li).toNatClampNeg = li := by rw [zI_n (by omega) (by omega)]; simp
      obtain ⟨lb1, lb2⟩ := la4 li hli
      obtain ⟨k1, k2, k3, k4, k5, k6, k7, k8⟩ := id lb2
      obtain ⟨r1, r2, r3, r4, r5, r6, r7⟩ := id k8
      have hC := hS.2.1 li hli
      have hL := hk.1 li hli
      have hxn : (zI (li : Int)).toInt.toNat = li := by rw [hxt]; simp
      obtain ⟨lj, hlj, rfl⟩ := lidx hy
      have hyt : (zI (lj : Int)).toInt = lj := zI_t (by omega) (by omega)
      have hnj : (zI lj).toNatClampNeg = lj := by rw [zI_n (by omega) (by omega)]; simp
      obtain ⟨lc1, lc2⟩ := la4 lj hlj
      obtain ⟨y1, y2, y3, y4, y5, y6, y7, y8⟩ := id lc2
      have hD := hS.2.1 lj hlj
      have hyn : (zI (lj : Int)).toInt.toNat = lj := by rw [hyt]; simp
      simp only [hxn, hyn] at hq
      refine s_if_eq (tgt := 23) dX11_common_11 (by decide) (fun c11 => absurd c11 (by decide)) (fun c11 => ?_)
      refine s_iload_n (i := 3) dX11_common_14 rfl rfl ?_
      refine s_if_lt (tgt := 23) dX11_common_15 (by decide) (fun c15 => ?_) (fun c15 => ?_)
      · refine s_bipush (v := -2) dX11_common_23 (by decide) ?_
        refine s_iret dX11_common_25 rfl ?_
        rw [t_lt0] at c15
        try rw [t_le', show ((1 : Int32).toInt) = 1 from by decide] at c20
        rw [if_neg (fun h => by omega)] at hq
        rw [zm2]
        exact hq T I (Tq.refl T) (fr_refl I _)
      · refine s_iload_n (i := 3) dX11_common_18 rfl rfl ?_
        refine s_iconst (v := 1) dX11_common_19 (by decide) ?_
        refine s_icmp_le (tgt := 26) dX11_common_20 (by decide) (fun c20 => ?_) (fun c20 => ?_)
        · rw [t_lt0] at c15
          rw [t_le', show ((1 : Int32).toInt) = 1 from by decide] at c20
          rw [if_pos ⟨hx, hy, by omega⟩] at hq
          refine s_aload_n (i := 0) dX11_common_26 rfl rfl ?_
          refine s_getR dX11_common_27 fl_X11_55 (by assumption) (by assumption) (by assumption) ?_
          refine s_iconst (v := 0) dX11_common_30 (by decide) ?_
          refine s_putI dX11_common_31 fp_X11_230 (by assumption) (by assumption) ?_
          refine s_aload_n (i := 0) dX11_common_34 rfl rfl ?_
          refine s_getR dX11_common_35 fl_X11_55 (by assumption) (by assumption) (by assumption) ?_
          refine s_aload_n (i := 0) dX11_common_38 rfl rfl ?_
          refine s_getR dX11_common_39 fl_X11_11 (by assumption) (by assumption) (by assumption) ?_
          refine s_iload_n (i := 1) dX11_common_42 rfl rfl ?_
          refine s_aldC dX11_common_43 (by assumption) (by assumption) (by rw [la3]; exact z_in (by omega) (by omega) (by omega)) (by rw [hnl]; exact lb1) ?_
          refine s_getR dX11_common_44 fl_X11_81 (by assumption) (by assumption) (by assumption) ?_
          refine s_aload_n (i := 0) dX11_common_47 rfl rfl ?_
          refine s_getR dX11_common_48 fl_X11_11 (by assumption) (by assumption) (by assumption) ?_
          refine s_iload_n (i := 2) dX11_common_51 rfl rfl ?_
          refine s_aldC dX11_common_52 (by assumption) (by assumption) (by rw [la3]; exact z_in (by omega) (by omega) (by omega)) (by rw [hnj]; exact lc1) ?_
          refine s_getR dX11_common_53 fl_X11_81 (by assumption) (by assumption) (by assumption) ?_
          refine s_cV_RR (My := mX4_intersect) dX11_common_56 wM_X11_233 cb_yX4_intersect ci_yX4_intersect (by assumption) (by assumption) (Nat.le_of_ble_eq_true rfl) (by decide) (s_d (by omega) (c_intersect (d := 0) (pr := 0) hGA (by omega) (by omega) (hC.2.1.fr (iu_ne (by omega)) (iu_ne (by omega))) (hD.2.1.fr (iu_ne (by omega)) (iu_ne (by omega))) iu_at (fun I1 hf1 ht1 hp1 => ?_)))
          have hf : fr I I1 roS := fun b hb => (hf1 b (by simp [roS] at hb ⊢; omega)).trans (iu_ne (by simp [roS] at hb; omega))
          rw [Int.zero_add] at hp1
          refine s_iload_n (i := 3) dX11_common_59 rfl rfl ?_
          refine s_if_ne (tgt := 73) dX11_common_60 (by decide) (fun c60 => ?_) (fun c60 => ?_)
          · have c60' : z.toInt ≠ 0 := fun h => c60 (by rw [t_zI h]; rfl)
            rw [if_neg c60'] at hq
            refine s_aload_n (i := 0) dX11_common_73 rfl rfl ?_
            refine s_getR dX11_common_74 fl_X11_55 (by assumption) (by assumption) (by assumption) ?_
            refine s_getI dX11_common_77 fl_X11_230 (by assumption) (by assumption) ?_
            refine s_iret dX11_common_80 rfl ?_
            first
            | exact hq T I1 (Tq.refl T) hf
            | (rw [hp1]
               exact hq T I1 (Tq.refl T) hf)
          · have c60' : z.toInt = 0 := by rw [c60]; rfl
            rw [if_pos c60'] at hq
            refine s_aload_n (i := 0) dX11_common_63 rfl rfl ?_
            refine s_getR dX11_common_64 fl_X11_55 (by assumption) (by assumption) (by assumption) ?_
            refine s_getI dX11_common_67 fl_X11_237 (by assumption) (by assumption) ?_
            refine s_topi (t_zI ht1) ?_
            refine s_goto (tgt := 80) dX11_common_70 (by decide) ?_
            refine s_iret dX11_common_80 rfl ?_
            first
            | exact hq T I1 (Tq.refl T) hf
            | (rw [hp1]
               exact hq T I1 (Tq.refl T) hf)
        · refine s_bipush (v := -2) dX11_common_23 (by decide) ?_
          refine s_iret dX11_common_25 rfl ?_
          rw [t_lt0] at c15
          try rw [t_le', show ((1 : Int32).toInt) = 1 from by decide] at c20
          rw [if_neg (fun h => by omega)] at hq
          rw [zm2]
          exact hq T I (Tq.refl T) (fr_refl I _)
    · intro hy
      refine s_if_eq (tgt := 23) dX11_common_11 (by decide) (fun c11 => ?_) (fun c11 => absurd (rfl) c11)
      refine s_bipush (v := -2) dX11_common_23 (by decide) ?_
      refine s_iret dX11_common_25 rfl ?_
      rw [if_neg (fun h => hy h.2.1)] at hq
      rw [zm2]
      exact hq T I (Tq.refl T) (fr_refl I _)
  · intro hx
    refine s_if_eq (tgt := 23) dX11_common_4 (by decide) (fun c4 => ?_) (fun c4 => absurd (rfl) c4)
    refine s_bipush (v := -2) dX11_common_23 (by decide) ?_
    refine s_iret dX11_common_25 rfl ?_
    rw [if_neg (fun h => hx h.1)] at hq
    rw [zm2]
    exact hq T I (Tq.refl T) (fr_refl I _)
set_option maxRecDepth 100000 in
set_option maxHeartbeats 1000000 in
theorem l_count {G : fG} {x0 : Nat} {l : Launch} {d k n : Nat} {J : fJ} {Q : Option Value → fT → fI → fJ → Prop} {x : Int32} {S : ASt} (hk : SOk S) : ∀ (t i : Nat) (T : fT) (I : fI), i + t = 6 → ClsIs T I S → (hq : ∀ (T' : fT) (I' : fI), Tq T T' → fr I I' roS → Q (some (.int (zI (sumL S x.toInt 6)))) T' I' J) →
    PW G x0 l mX11_count (d + 6) (ZM G x0 Q) k n 60 [(0, .ref (x0 + 0)), (1, .int x), (2, .int (zI (sumL S x.toInt i))), (3, .int (zI i))] [] T I J := by
  intro t
  induction t with
  | zero =>
    intro i T I ht hS hq
    have hi6 : i = 6 := by omega
    subst hi6
    refine s_iload_n (i := 3) dX11_count_60 rfl rfl ?_
    refine s_bipush (v := 6) dX11_count_61 (by decide) ?_
    refine s_icmp_ge (tgt := 81) dX11_count_63 (by decide) (fun h63 => ?_) (fun h63 => absurd (by show zI 6 ≤ zI _; exact (zI_le (by omega) (by omega) (by omega) (by omega)).mpr (by omega)) h63)
    refine s_iload_n (i := 2) dX11_count_81 rfl rfl ?_
    refine s_iret dX11_count_82 rfl ?_
    exact hq T I (Tq.refl T) (fr_refl I _)
  | succ t ih =>
    intro i T I ht hS hq
    obtain ⟨⟨o1, o2, o3, o4, o5, o6, o7, o8, o9, o10, o11⟩, -⟩ := id hS.1
    have e0 : (0 : Nat) < T.1 := by omega
    have hit : (zI (i : Int)).toInt = i := zI_t (by omega) (by omega)
    refine s_iload_n (i := 3) dX11_count_60 rfl rfl ?_
    refine s_bipush (v := 6) dX11_count_61 (by decide) ?_
    refine s_icmp_ge (tgt := 81) dX11_count_63 (by decide) (fun h63 => absurd h63 (fun h => by have := (zI_le (a := 6) (b := i) (by omega) (by omega) (by omega) (by omega)).mp h; omega)) (fun h63 => ?_)
    refine s_iload_n (i := 2) dX11_count_66 rfl rfl ?_
    refine s_aload_n (i := 0) dX11_count_67 rfl rfl ?_
    refine s_iload_n (i := 3) dX11_count_68 rfl rfl ?_
    refine s_iload_n (i := 1) dX11_count_69 rfl rfl ?_
    refine s_cV_II (My := mX11_list) dX11_count_70 wM_X11_240 cb_yX11_list ci_yX11_list (by assumption) (by assumption) (Nat.le_of_ble_eq_true rfl) (by decide) (s_d (by omega) (c_list (d := 0) hS hk (fun T1 I1 hT1 hf1 => ?_)))
    refine s_iadd dX11_count_73 ?_
    refine s_topi (y := zI (sumL S x.toInt (i + 1))) (by rw [zI_add]; simp only [sumL]; congr 2; unfold fList; rw [if_pos (by omega), hit, Int.toNat_natCast]) ?_
    refine s_istore_n (i := 2) dX11_count_74 rfl (by decide) (by simp only [sl, sl2, rm, Value.category, reduceIte, Nat.reduceAdd, Nat.reduceEqDiff, reduceCtorEq]; rfl) ?_
    refine s_iinc dX11_count_75 rfl (zI_inc _) (by decide) (by simp only [sl, sl2, rm, Value.category, reduceIte, Nat.reduceAdd, Nat.reduceEqDiff, reduceCtorEq]; rfl) ?_
    refine s_goto (tgt := 60) dX11_count_78 (by decide) ?_
    exact ih (i + 1) T1 I1 (by omega) (cls_ro hS hT1 hf1) (fun T2 I2 hT2 hf2 => hq T2 I2 (hT1.trans hT2) (fr_trans hf1 hf2))
set_option maxRecDepth 100000 in
set_option maxHeartbeats 1000000 in
theorem c_count {G : fG} {x0 : Nat} {l : Launch} {d k n : Nat} {T : fT} {I : fI} {J : fJ} {Q : Option Value → fT → fI → fJ → Prop} {x : Int32} {S : ASt} (hS : ClsIs T I S) (hk : SOk S) (hq : ∀ (T' : fT) (I' : fI), Tq T T' → fr I I' roS → Q (some (.int (zI (fCount S x.toInt)))) T' I' J) : PW G x0 l mX11_count (d + 6) (ZM G x0 Q) k n 0 [(0, .ref (x0 + 0)), (1, .int x)] [] T I J := by
  obtain ⟨⟨o1, o2, o3, o4, o5, o6, o7, o8, o9, o10, o11⟩, hLA, hTA, hVA, hPA, hGA, hNA, hEA⟩ := id hS.1
  obtain ⟨la1, la2, la3, la4⟩ := id hLA
  have e0 : (0 : Nat) < T.1 := by omega
  have e1 : (1 : Nat) < T.1 := by omega
  have e2 : (2 : Nat) < T.1 := by omega
  have e37 : (37 : Nat) < T.1 := by omega
  have e40 : (40 : Nat) < T.1 := by omega
  have e42 : (42 : Nat) < T.1 := by omega
  have e44 : (44 : Nat) < T.1 := by omega
  have e112 : (112 : Nat) < T.1 := by omega
  have v42 := hVA.2.1
  have v44 := hPA.2.1
  have v2 := hS.2.2.1.1.2.1
  have v37 := hS.2.2.2.1.1.2.1
  have v40 := hTA.2.2.1
  have v112 := hNA.2.1
  unfold fCount at hq
  cases hr : S.2.2.2.2 with
  | none =>
    have hj := hS.2.2.2.2.2.2
    rw [hr] at hj
    have hj0 : T.2.2.2 0 9 = none := hj
    have hrl : resL S = -1 := by unfold resL; rw [hr]
    have hrp : resP S = -1 := by unfold resP; rw [hr]
    refine s_iload_n (i := 1) dX11_count_0 rfl rfl ?_
    rcases (show (x.toInt < 0 ∨ 9 < x.toInt) ∨ x.toInt = 0 ∨ x.toInt = 1 ∨ x.toInt = 2 ∨ x.toInt = 3 ∨ x.toInt = 4 ∨ x.toInt = 5 ∨ x.toInt = 6 ∨ x.toInt = 7 ∨ x.toInt = 8 ∨ x.toInt = 9 by omega) with hw | hw | hw | hw | hw | hw | hw | hw | hw | hw | hw
    · refine s_tabOut (tgt := 167) dX11_count_1 hw (by decide) ?_
      refine s_bipush (v := -2) dX11_count_167 (by decide) ?_
      refine s_iret dX11_count_169 rfl ?_
      rw [if_neg (by omega), if_neg (by omega), if_neg (by omega), if_neg (by omega), if_neg (by omega), if_neg (by omega), if_neg (by omega), if_neg (by omega)] at hq
      rw [zm2]
      exact hq T I (Tq.refl T) (fr_refl I _)
    · refine s_tabIn (off := 55) (tgt := 56) dX11_count_1 (by omega) (by omega) (by rw [hw]; rfl) (by decide) ?_
      refine s_iconst (v := 0) dX11_count_56 (by decide) ?_
      refine s_istore_n (i := 2) dX11_count_57 rfl (by decide) (by simp only [sl, sl2, rm, Value.category, reduceIte, Nat.reduceAdd, Nat.reduceEqDiff, reduceCtorEq]; rfl) ?_
      refine s_iconst (v := 0) dX11_count_58 (by decide) ?_
      refine s_istore_n (i := 3) dX11_count_59 rfl (by decide) (by simp only [sl, sl2, rm, Value.category, reduceIte, Nat.reduceAdd, Nat.reduceEqDiff, reduceCtorEq]; rfl) ?_
      rw [if_pos (by omega)] at hq
      exact l_count hk 6 0 T I (by omega) hS hq
    · refine s_tabIn (off := 55) (tgt := 56) dX11_count_1 (by omega) (by omega) (by rw [hw]; rfl) (by decide) ?_
      refine s_iconst (v := 0) dX11_count_56 (by decide) ?_
      refine s_istore_n (i := 2) dX11_count_57 rfl (by decide) (by simp only [sl, sl2, rm, Value.category, reduceIte, Nat.reduceAdd, Nat.reduceEqDiff, reduceCtorEq]; rfl) ?_
      refine s_iconst (v := 0) dX11_count_58 (by decide) ?_
      refine s_istore_n (i := 3) dX11_count_59 rfl (by decide) (by simp only [sl, sl2, rm, Value.category, reduceIte, Nat.reduceAdd, Nat.reduceEqDiff, reduceCtorEq]; rfl) ?_
      rw [if_pos (by omega)] at hq
      exact l_count hk 6 0 T I (by omega) hS hq
    · refine s_tabIn (off := 55) (tgt := 56) dX11_count_1 (by omega) (by omega) (by rw [hw]; rfl) (by decide) ?_
      refine s_iconst (v := 0) dX11_count_56 (by decide) ?_
      refine s_istore_n (i := 2) dX11_count_57 rfl (by decide) (by simp only [sl, sl2, rm, Value.category, reduceIte, Nat.reduceAdd, Nat.reduceEqDiff, reduceCtorEq]; rfl) ?_
      refine s_iconst (v := 0) dX11_count_58 (by decide) ?_
      refine s_istore_n (i := 3) dX11_count_59 rfl (by decide) (by simp only [sl, sl2, rm, Value.category, reduceIte, Nat.reduceAdd, Nat.reduceEqDiff, reduceCtorEq]; rfl) ?_
      rw [if_pos (by omega)] at hq
      exact l_count hk 6 0 T I (by omega) hS hq
    · refine s_tabIn (off := 82) (tgt := 83) dX11_count_1 (by omega) (by omega) (by rw [hw]; rfl) (by decide) ?_
      refine s_aload_n (i := 0) dX11_count_83 rfl rfl ?_
      refine s_getR dX11_count_84 fl_X11_25 (by assumption) (by assumption) (by assumption) ?_
      refine s_getI dX11_count_87 fl_X11_243 (by assumption) (by assumption) ?_
      refine s_iret dX11_count_90 rfl ?_
      rw [if_neg (by omega), if_pos hw] at hq
      rw [t_zI hS.2.2.2.1.2.2.1]
      exact hq T I (Tq.refl T) (fr_refl I _)
    · refine s_tabIn (off := 90) (tgt := 91) dX11_count_1 (by omega) (by omega) (by rw [hw]; rfl) (by decide) ?_
      refine s_aload_n (i := 0) dX11_count_91 rfl rfl ?_
      refine s_getR dX11_count_92 fl_X11_25 (by assumption) (by assumption) (by assumption) ?_
      refine s_getI dX11_count_95 fl_X11_244 (by assumption) (by assumption) ?_
      refine s_iret dX11_count_98 rfl ?_
      rw [if_neg (by omega), if_neg (by omega), if_pos hw] at hq
      rw [t_zI hS.2.2.2.1.2.2.2.1]
      exact hq T I (Tq.refl T) (fr_refl I _)
    · refine s_tabIn (off := 98) (tgt := 99) dX11_count_1 (by omega) (by omega) (by rw [hw]; rfl) (by decide) ?_
      refine s_aload_n (i := 0) dX11_count_99 rfl rfl ?_
      refine s_getR dX11_count_100 fl_X11_25 (by assumption) (by assumption) (by assumption) ?_
      refine s_getI dX11_count_103 fl_X11_247 (by assumption) (by assumption) ?_
      refine s_iret dX11_count_106 rfl ?_
      rw [if_neg (by omega), if_neg (by omega), if_neg (by omega), if_pos hw] at hq
      rw [t_zI hS.2.2.2.1.2.2.2.2.1]
      exact hq T I (Tq.refl T) (fr_refl I _)
    · refine s_tabIn (off := 106) (tgt := 107) dX11_count_1 (by omega) (by omega) (by rw [hw]; rfl) (by decide) ?_
      refine s_aload_n (i := 0) dX11_count_107 rfl rfl ?_
      refine s_getN dX11_count_108 fl_X11_124 (by assumption) (by assumption) hj0 ?_
      refine s_ifnonnullN dX11_count_111 ?_
      refine s_iconst (v := -1) dX11_count_114 (by decide) ?_
      refine s_goto (tgt := 128) dX11_count_115 (by decide) ?_
      refine s_iret dX11_count_128 rfl ?_
      rw [if_neg (by omega), if_neg (by omega), if_neg (by omega), if_neg (by omega), if_pos hw] at hq
      rw [hrl] at hq
      rw [zm1]
      exact hq T I (Tq.refl T) (fr_refl I _)
    · refine s_tabIn (off := 128) (tgt := 129) dX11_count_1 (by omega) (by omega) (by rw [hw]; rfl) (by decide) ?_
      refine s_aload_n (i := 0) dX11_count_129 rfl rfl ?_
      refine s_getN dX11_count_130 fl_X11_124 (by assumption) (by assumption) hj0 ?_
      refine s_ifnonnullN dX11_count_133 ?_
      refine s_iconst (v := -1) dX11_count_136 (by decide) ?_
      refine s_goto (tgt := 150) dX11_count_137 (by decide) ?_
      refine s_iret dX11_count_150 rfl ?_
      rw [if_neg (by omega), if_neg (by omega), if_neg (by omega), if_neg (by omega), if_neg (by omega), if_pos hw] at hq
      rw [hrp] at hq
      rw [zm1]
      exact hq T I (Tq.refl T) (fr_refl I _)
    · refine s_tabIn (off := 150) (tgt := 151) dX11_count_1 (by omega) (by omega) (by rw [hw]; rfl) (by decide) ?_
      refine s_aload_n (i := 0) dX11_count_151 rfl rfl ?_
      refine s_getR dX11_count_152 fl_X11_18 (by assumption) (by assumption) (by assumption) ?_
      refine s_getI dX11_count_155 fl_X11_136 (by assumption) (by assumption) ?_
      refine s_iret dX11_count_158 rfl ?_
      rw [if_neg (by omega), if_neg (by omega), if_neg (by omega), if_neg (by omega), if_neg (by omega), if_neg (by omega), if_pos hw] at hq
      rw [t_zI hS.2.2.1.2.2.1]
      exact hq T I (Tq.refl T) (fr_refl I _)
    · refine s_tabIn (off := 158) (tgt := 159) dX11_count_1 (by omega) (by omega) (by rw [hw]; rfl) (by decide) ?_
      refine s_aload_n (i := 0) dX11_count_159 rfl rfl ?_
      refine s_getR dX11_count_160 fl_X11_34 (by assumption) (by assumption) (by assumption) ?_
      refine s_getI dX11_count_163 fl_X11_87 (by assumption) (by assumption) ?_
      refine s_iret dX11_count_166 rfl ?_
      rw [if_neg (by omega), if_neg (by omega), if_neg (by omega), if_neg (by omega), if_neg (by omega), if_neg (by omega), if_neg (by omega), if_pos hw] at hq
      rw [t_zI hS.2.2.2.2.1.2.2.1]
      exact hq T I (Tq.refl T) (fr_refl I _)
  | some r =>
    have hj := hS.2.2.2.2.2.2
    rw [hr] at hj
    obtain ⟨j0, hJA, hJR, hJp⟩ := hj
    obtain ⟨hr1, hr2, hr3⟩ := hk.2.2.2.2.2 r hr
    have j1 : T.2.1 162 = 6 := hJA.2.1
    have j2 : T.2.2.2 162 1 = some 164 := hJA.2.2.2.1
    have j3 : T.2.2.2 162 0 = some 163 := hJA.2.2.1
    have e162 : (162 : Nat) < T.1 := by have := hJA.1; omega
    have e163 : (163 : Nat) < T.1 := by have := hJA.1; omega
    have e164 : (164 : Nat) < T.1 := by have := hJA.1; omega
    have j4 : T.2.1 164 = 9 := hJR.1.2.2.1
    have j5 : T.2.1 163 = 4 := hJA.2.2.2.2.2.2.2.2.2.2.1.2
    have hrl : resL S = r.1.length := by unfold resL; rw [hr]
    have hrp : resP S = r.2 := by unfold resP; rw [hr]
    refine s_iload_n (i := 1) dX11_count_0 rfl rfl ?_
    rcases (show (x.toInt < 0 ∨ 9 < x.toInt) ∨ x.toInt = 0 ∨ x.toInt = 1 ∨ x.toInt = 2 ∨ x.toInt = 3 ∨ x.toInt = 4 ∨ x.toInt = 5 ∨ x.toInt = 6 ∨ x.toInt = 7 ∨ x.toInt = 8 ∨ x.toInt = 9 by omega) with hw | hw | hw | hw | hw | hw | hw | hw | hw | hw | hw
    · refine s_tabOut (tgt := 167) dX11_count_1 hw (by decide) ?_
      refine s_bipush (v := -2) dX11_count_167 (by decide) ?_
      refine s_iret dX11_count_169 rfl ?_
      rw [if_neg (by omega), if_neg (by omega), if_neg (by omega), if_neg (by omega), if_neg (by omega), if_neg (by omega), if_neg (by omega), if_neg (by omega)] at hq
      rw [zm2]
      exact hq T I (Tq.refl T) (fr_refl I _)
    · refine s_tabIn (off := 55) (tgt := 56) dX11_count_1 (by omega) (by omega) (by rw [hw]; rfl) (by decide) ?_
      refine s_iconst (v := 0) dX11_count_56 (by decide) ?_
      refine s_istore_n (i := 2) dX11_count_57 rfl (by decide) (by simp only [sl, sl2, rm, Value.category, reduceIte, Nat.reduceAdd, Nat.reduceEqDiff, reduceCtorEq]; rfl) ?_
      refine s_iconst (v := 0) dX11_count_58 (by decide) ?_
      refine s_istore_n (i := 3) dX11_count_59 rfl (by decide) (by simp only [sl, sl2, rm, Value.category, reduceIte, Nat.reduceAdd, Nat.reduceEqDiff, reduceCtorEq]; rfl) ?_
      rw [if_pos (by omega)] at hq
      exact l_count hk 6 0 T I (by omega) hS hq
    · refine s_tabIn (off := 55) (tgt := 56) dX11_count_1 (by omega) (by omega) (by rw [hw]; rfl) (by decide) ?_
      refine s_iconst (v := 0) dX11_count_56 (by decide) ?_
      refine s_istore_n (i := 2) dX11_count_57 rfl (by decide) (by simp only [sl, sl2, rm, Value.category, reduceIte, Nat.reduceAdd, Nat.reduceEqDiff, reduceCtorEq]; rfl) ?_
      refine s_iconst (v := 0) dX11_count_58 (by decide) ?_
      refine s_istore_n (i := 3) dX11_count_59 rfl (by decide) (by simp only [sl, sl2, rm, Value.category, reduceIte, Nat.reduceAdd, Nat.reduceEqDiff, reduceCtorEq]; rfl) ?_
      rw [if_pos (by omega)] at hq
      exact l_count hk 6 0 T I (by omega) hS hq
    · refine s_tabIn (off := 55) (tgt := 56) dX11_count_1 (by omega) (by omega) (by rw [hw]; rfl) (by decide) ?_
      refine s_iconst (v := 0) dX11_count_56 (by decide) ?_
      refine s_istore_n (i := 2) dX11_count_57 rfl (by decide) (by simp only [sl, sl2, rm, Value.category, reduceIte, Nat.reduceAdd, Nat.reduceEqDiff, reduceCtorEq]; rfl) ?_
      refine s_iconst (v := 0) dX11_count_58 (by decide) ?_
      refine s_istore_n (i := 3) dX11_count_59 rfl (by decide) (by simp only [sl, sl2, rm, Value.category, reduceIte, Nat.reduceAdd, Nat.reduceEqDiff, reduceCtorEq]; rfl) ?_
      rw [if_pos (by omega)] at hq
      exact l_count hk 6 0 T I (by omega) hS hq
    · refine s_tabIn (off := 82) (tgt := 83) dX11_count_1 (by omega) (by omega) (by rw [hw]; rfl) (by decide) ?_
      refine s_aload_n (i := 0) dX11_count_83 rfl rfl ?_
      refine s_getR dX11_count_84 fl_X11_25 (by assumption) (by assumption) (by assumption) ?_
      refine s_getI dX11_count_87 fl_X11_243 (by assumption) (by assumption) ?_
      refine s_iret dX11_count_90 rfl ?_
      rw [if_neg (by omega), if_pos hw] at hq
      rw [t_zI hS.2.2.2.1.2.2.1]
      exact hq T I (Tq.refl T) (fr_refl I _)
    · refine s_tabIn (off := 90) (tgt := 91) dX11_count_1 (by omega) (by omega) (by rw [hw]; rfl) (by decide) ?_
      refine s_aload_n (i := 0) dX11_count_91 rfl rfl ?_
      refine s_getR dX11_count_92 fl_X11_25 (by assumption) (by assumption) (by assumption) ?_
      refine s_getI dX11_count_95 fl_X11_244 (by assumption) (by assumption) ?_
      refine s_iret dX11_count_98 rfl ?_
      rw [if_neg (by omega), if_neg (by omega), if_pos hw] at hq
      rw [t_zI hS.2.2.2.1.2.2.2.1]
      exact hq T I (Tq.refl T) (fr_refl I _)
    · refine s_tabIn (off := 98) (tgt := 99) dX11_count_1 (by omega) (by omega) (by rw [hw]; rfl) (by decide) ?_
      refine s_aload_n (i := 0) dX11_count_99 rfl rfl ?_
      refine s_getR dX11_count_100 fl_X11_25 (by assumption) (by assumption) (by assumption) ?_
      refine s_getI dX11_count_103 fl_X11_247 (by assumption) (by assumption) ?_
      refine s_iret dX11_count_106 rfl ?_
      rw [if_neg (by omega), if_neg (by omega), if_neg (by omega), if_pos hw] at hq
      rw [t_zI hS.2.2.2.1.2.2.2.2.1]
      exact hq T I (Tq.refl T) (fr_refl I _)
    · refine s_tabIn (off := 106) (tgt := 107) dX11_count_1 (by omega) (by omega) (by rw [hw]; rfl) (by decide) ?_
      refine s_aload_n (i := 0) dX11_count_107 rfl rfl ?_
      refine s_getR dX11_count_108 fl_X11_124 (by assumption) (by assumption) (by assumption) ?_
      refine s_ifnonnull (tgt := 118) dX11_count_111 (by decide) ?_
      refine s_aload_n (i := 0) dX11_count_118 rfl rfl ?_
      refine s_getR dX11_count_119 fl_X11_124 (by assumption) (by assumption) (by assumption) ?_
      refine s_getR dX11_count_122 fl_X11_128 (by assumption) (by assumption) (by assumption) ?_
      refine s_getI dX11_count_125 fl_X11_87 (by assumption) (by assumption) ?_
      refine s_iret dX11_count_128 rfl ?_
      rw [if_neg (by omega), if_neg (by omega), if_neg (by omega), if_neg (by omega), if_pos hw] at hq
      rw [hrl] at hq
      rw [t_zI hJR.2.2.1]
      exact hq T I (Tq.refl T) (fr_refl I _)
    · refine s_tabIn (off := 128) (tgt := 129) dX11_count_1 (by omega) (by omega) (by rw [hw]; rfl) (by decide) ?_
      refine s_aload_n (i := 0) dX11_count_129 rfl rfl ?_
      refine s_getR dX11_count_130 fl_X11_124 (by assumption) (by assumption) (by assumption) ?_
      refine s_ifnonnull (tgt := 140) dX11_count_133 (by decide) ?_
      refine s_aload_n (i := 0) dX11_count_140 rfl rfl ?_
      refine s_getR dX11_count_141 fl_X11_124 (by assumption) (by assumption) (by assumption) ?_
      refine s_getR dX11_count_144 fl_X11_250 (by assumption) (by assumption) (by assumption) ?_
      refine s_getI dX11_count_147 fl_X11_230 (by assumption) (by assumption) ?_
      refine s_iret dX11_count_150 rfl ?_
      rw [if_neg (by omega), if_neg (by omega), if_neg (by omega), if_neg (by omega), if_neg (by omega), if_pos hw] at hq
      rw [hrp] at hq
      rw [hJp]
      exact hq T I (Tq.refl T) (fr_refl I _)
    · refine s_tabIn (off := 150) (tgt := 151) dX11_count_1 (by omega) (by omega) (by rw [hw]; rfl) (by decide) ?_
      refine s_aload_n (i := 0) dX11_count_151 rfl rfl ?_
      refine s_getR dX11_count_152 fl_X11_18 (by assumption) (by assumption) (by assumption) ?_
      refine s_getI dX11_count_155 fl_X11_136 (by assumption) (by assumption) ?_
      refine s_iret dX11_count_158 rfl ?_
      rw [if_neg (by omega), if_neg (by omega), if_neg (by omega), if_neg (by omega), if_neg (by omega), if_neg (by omega), if_pos hw] at hq
      rw [t_zI hS.2.2.1.2.2.1]
      exact hq T I (Tq.refl T) (fr_refl I _)
    · refine s_tabIn (off := 158) (tgt := 159) dX11_count_1 (by omega) (by omega) (by rw [hw]; rfl) (by decide) ?_
      refine s_aload_n (i := 0) dX11_count_159 rfl rfl ?_
      refine s_getR dX11_count_160 fl_X11_34 (by assumption) (by assumption) (by assumption) ?_
      refine s_getI dX11_count_163 fl_X11_87 (by assumption) (by assumption) ?_
      refine s_iret dX11_count_166 rfl ?_
      rw [if_neg (by omega), if_neg (by omega), if_neg (by omega), if_neg (by omega), if_neg (by omega), if_neg (by omega), if_neg (by omega), if_pos hw] at hq
      rw [t_zI hS.2.2.2.2.1.2.2.1]
      exact hq T I (Tq.refl T) (fr_refl I _)
