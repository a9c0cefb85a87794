/-! what the calls tell -/
def roS : List Nat := [42, 43, 111]
theorem cls_ro {T T' : fT} {I I' : fI} {S : ASt} (h : ClsIs T I S) (q : Tq T T') (hf : fr I I' roS) : ClsIs T' I' S := ClsIs.tq (h.fr (fun b hb => hf b (by simp [roS]; omega)) (fun w hw => by rw [hf _ (by simp [roS]; omega)])) q
theorem frM.ro {I I' : fI} (hf : fr I I' roS) : frM I I' := fun b h1 h2 => hf b (by simp [roS]; omega)
theorem ro_of {I I' : fI} (hf : fr I I' [42, 43]) : fr I I' roS := fr_sub hf (fun b hb => by simp [roS] at hb ⊢; omega)
def listP (L : LSt) (y : Int) : Int := if y = 0 then L.2.1 else if y = 1 then L.2.2.2 else if y = 2 then sumB L 5 L.2.2.2 else if y = 3 then sumB L 4 L.2.2.2 else if y = 4 then (if L.2.1 = 0 then -1 else L.1 0) else if y = 5 then (if L.2.1 = 0 then -1 else L.1 (L.2.1 - 1)) else -2
abbrev isL (x : Int) : Prop := 0 ≤ x ∧ x < 6
abbrev isB (S : ASt) (x y : Int) : Prop := (0 ≤ x ∧ x < 6) ∧ 0 ≤ y ∧ y < ((S.1 x.toNat).2.2.2 : Int)
def fList (S : ASt) (x y : Int) : Int := if isL x then listP (S.1 x.toNat) y else -2
def fBlock (S : ASt) (x y z : Int) : Int := if isB S x y then bprop (S.1 x.toNat).1 (bf (S.1 x.toNat) y.toNat) (bl (S.1 x.toNat) y.toNat) z else -2
def fWord (S : ASt) (x y z : Int) : Int64 := if isB S x y ∧ 0 ≤ z ∧ z < (wordsN (S.1 x.toNat).1 (bf (S.1 x.toNat) y.toNat) (bl (S.1 x.toNat) y.toNat) : Int) then wordV (S.1 x.toNat).1 (bf (S.1 x.toNat) y.toNat) (bl (S.1 x.toNat) y.toNat) z.toNat else -2
/-- the k-th from i on, of z places -/
def nthE (p : Nat → Bool) : Nat → Nat → Nat → Option Nat
  | 0, _, _ => none
  | z + 1, i, k => if p i then (if k = 0 then some i else nthE p z (i + 1) (k - 1)) else nthE p z (i + 1) k
def isE (g : Nat → Int) (f len i : Nat) : Bool := decide (bw g f len < bz g (f + i))
def excV (g : Nat → Int) (f len : Nat) (u : Int) : Option Nat → Int
  | none => -2
  | some i => if u = 0 then (i : Int) else ((gp g (f + i) / 2 ^ bw g f len : Nat) : Int)
def fExc (S : ASt) (x y z u : Int) : Int := if isB S x y ∧ 0 ≤ z ∧ 0 ≤ u ∧ u ≤ 1 then excV (S.1 x.toNat).1 (bf (S.1 x.toNat) y.toNat) (bl (S.1 x.toNat) y.toNat) u (nthE (isE (S.1 x.toNat).1 (bf (S.1 x.toNat) y.toNat) (bl (S.1 x.toNat) y.toNat)) (bl (S.1 x.toNat) y.toNat - 1) 1 z.toNat) else -2
def fGaps (S : ASt) (x y : Int) : Int := if isL x ∧ 0 ≤ y ∧ y ≤ 20 then (need (S.1 x.toNat).1 0 (S.1 x.toNat).2.1 y.toNat : Int) else -2
def fPart (S : ASt) (x y z u : Int) : Int := if isL x ∧ 0 ≤ y ∧ y ≤ z ∧ z < ((S.1 x.toNat).2.1 : Int) ∧ z - y < 64 then (if u = 0 then (bw (S.1 x.toNat).1 y.toNat (z - y + 1).toNat : Int) else if u = 1 then bcost (S.1 x.toNat).1 y.toNat (z - y + 1).toNat else if u = 2 then (bexc (S.1 x.toNat).1 y.toNat (z - y + 1).toNat : Int) else -2) else -2
def fCached (S : ASt) (x y : Int) : Int := if isB S x y then (if (x, y) ∈ S.2.2.1.1 then 1 else 0) else -2
def fRes (S : ASt) (x : Int) : Int := if x < 0 then -2 else match S.2.2.2.2 with
  | none => -3
  | some r => if x < r.1.length then lfn r.1 x.toNat else -1
theorem high_pos {g : Nat → Int} {f len i : Nat} : 0 < gp g (f + i) / 2 ^ bw g f len ↔ isE g f len i = true := by
  unfold isE
  rw [decide_eq_true_eq]
  unfold bz
  rw [lt_nbt, Nat.div_pos_iff]
  exact ⟨fun h => h.2, fun h => ⟨Nat.two_pow_pos _, h⟩⟩
theorem RowIs.get0 {T : fT} {I : fI} {r cap m : Nat} {g : Nat → Int} (h : RowIs T I r cap g m) : rget I r 0 = zI (if m = 0 then -1 else g 0) := by
  have hc := h.1.2.2.2.2.2.2
  have hm := h.2.1
  by_cases e : m = 0
  · unfold rget
    rw [if_neg (by decide), if_pos (by rw [t_zI h.2.2.1, z0, zI_le (by omega) (by omega) (by omega) (by omega)]; omega), if_pos e]
    exact zm1
  · rw [if_neg e, z0]
    exact h.get (by omega) (by omega)
theorem RowIs.getL {T : fT} {I : fI} {r cap m : Nat} {g : Nat → Int} (h : RowIs T I r cap g m) : rget I r (zI (((m : Nat) : Int) - 1)) = zI (if m = 0 then -1 else g (m - 1)) := by
  have hc := h.1.2.2.2.2.2.2
  have hm := h.2.1
  by_cases e : m = 0
  · unfold rget
    rw [if_pos (by rw [z0, zI_lt (by omega) (by omega) (by omega) (by omega)]; omega), if_pos e]
    exact zm1
  · rw [if_neg e, h.get (by omega) (by omega)]
    congr 2
    omega
set_option maxRecDepth 100000 in
set_option maxHeartbeats 1000000 in
theorem c_list {G : fG} {x0 : Nat} {l : Launch} {d k n : Nat} {T : fT} {I : fI} {J : fJ} {Q : Option Value → fT → fI → fJ → Prop} {x y : Int32} {S : ASt} (hS : ClsIs T I S) (hk : SOk S) (hq : ∀ (T' : fT) (I' : fI), Tq T T' → fr I I' roS → Q (some (.int (zI (fList S x.toInt y.toInt)))) T' I' J) : PW G x0 l mX11_list (d + 5) (ZM G x0 Q) k n 0 [(0, .ref (x0 + 0)), (1, .int x), (2, .int y)] [] T I J := by
  obtain ⟨⟨o1, o2, o3, o4, o5, o6, o7, o8, o9, o10, o11⟩, hLA, hTA, hVA, hPA, hGA, hNA, hEA⟩ := id hS.1
  obtain ⟨la1, la2, la3, la4⟩ := id hLA
  have e0 : (0 : Nat) < T.1 := by omega
  have e1 : (1 : Nat) < T.1 := by omega
  have e2 : (2 : Nat) < T.1 := by omega
  have e37 : (37 : Nat) < T.1 := by omega
  have e40 : (40 : Nat) < T.1 := by omega
  have e42 : (42 : Nat) < T.1 := by omega
  have e44 : (44 : Nat) < T.1 := by omega
  have e112 : (112 : Nat) < T.1 := by omega
  have v42 := hVA.2.1
  have v44 := hPA.2.1
  have v2 := hS.2.2.1.1.2.1
  have v37 := hS.2.2.2.1.1.2.1
  have v40 := hTA.2.2.1
  have v112 := hNA.2.1
  unfold fList at hq
  refine s_iload_n (i := 1) dX11_list_0 rfl rfl ?_
  refine s_cS_I (My := mX11_isList) dX11_list_1 wM_X11_74 cb_yX11_isList wT_yX11_isList (Nat.le_of_ble_eq_true rfl) (by decide) (c_isList ?_ ?_)
  · intro hx
    rw [if_pos hx] at hq
    obtain ⟨li, hli, rfl⟩ := lidx hx
    have hxt : (zI (li : Int)).toInt = li := zI_t (by omega) (by omega)
    have hnl : (zI li).toNatClampNeg = li := by rw [zI_n (by omega) (by omega)]; simp
    obtain ⟨lb1, lb2⟩ := la4 li hli
    obtain ⟨k1, k2, k3, k4, k5, k6, k7, k8⟩ := id lb2
    obtain ⟨r1, r2, r3, r4, r5, r6, r7⟩ := id k8
    have hC := hS.2.1 li hli
    have hL := hk.1 li hli
    have hxn : (zI (li : Int)).toInt.toNat = li := by rw [hxt]; simp
    rw [hxn] at hq
    unfold listP at hq
    have hm := hL.1
    have hms := hC.2.1.2.2.1
    refine s_if_ne (tgt := 10) dX11_list_4 (by decide) (fun c4 => ?_) (fun c4 => absurd c4 (by decide))
    refine s_aload_n (i := 0) dX11_list_10 rfl rfl ?_
    refine s_getR dX11_list_11 fl_X11_11 (by assumption) (by assumption) (by assumption) ?_
    refine s_iload_n (i := 1) dX11_list_14 rfl rfl ?_
    refine s_aldC dX11_list_15 (by assumption) (by assumption) (by rw [la3]; exact z_in (by omega) (by omega) (by omega)) (by rw [hnl]; exact lb1) ?_
    refine s_astore_n (i := 3) dX11_list_16 rfl (by decide) (by simp only [sl, sl2, rm, Value.category, reduceIte, Nat.reduceAdd, Nat.reduceEqDiff, reduceCtorEq]; rfl) ?_
    refine s_iload_n (i := 2) dX11_list_17 rfl rfl ?_
    rcases (show (y.toInt < 0 ∨ 5 < y.toInt) ∨ y.toInt = 0 ∨ y.toInt = 1 ∨ y.toInt = 2 ∨ y.toInt = 3 ∨ y.toInt = 4 ∨ y.toInt = 5 by omega) with hw | hw | hw | hw | hw | hw | hw
    · refine s_tabOut (tgt := 109) dX11_list_18 hw (by decide) ?_
      refine s_bipush (v := -2) dX11_list_109 (by decide) ?_
      refine s_iret dX11_list_111 rfl ?_
      rw [if_neg (by omega), if_neg (by omega), if_neg (by omega), if_neg (by omega), if_neg (by omega), if_neg (by omega)] at hq
      rw [zm2]
      exact hq T I (Tq.refl T) (fr_refl I _)
    · refine s_tabIn (off := 38) (tgt := 56) dX11_list_18 (by omega) (by omega) (by rw [hw]; rfl) (by decide) ?_
      refine s_aload_n (i := 3) dX11_list_56 rfl rfl ?_
      refine s_getR dX11_list_57 fl_X11_81 (by assumption) (by assumption) (by assumption) ?_
      refine s_getI dX11_list_60 fl_X11_87 (by assumption) (by assumption) ?_
      refine s_iret dX11_list_63 rfl ?_
      rw [if_pos hw] at hq
      rw [t_zI hms]
      exact hq T I (Tq.refl T) (fr_refl I _)
    · refine s_tabIn (off := 46) (tgt := 64) dX11_list_18 (by omega) (by omega) (by rw [hw]; rfl) (by decide) ?_
      refine s_aload_n (i := 3) dX11_list_64 rfl rfl ?_
      refine s_getI dX11_list_65 fl_X11_147 (by assumption) (by assumption) ?_
      refine s_iret dX11_list_68 rfl ?_
      rw [if_neg (by omega), if_pos hw] at hq
      rw [t_zI hC.2.2.2.1]
      exact hq T I (Tq.refl T) (fr_refl I _)
    · refine s_tabIn (off := 51) (tgt := 69) dX11_list_18 (by omega) (by omega) (by rw [hw]; rfl) (by decide) ?_
      refine s_aload_n (i := 0) dX11_list_69 rfl rfl ?_
      refine s_aload_n (i := 3) dX11_list_70 rfl rfl ?_
      refine s_iconst (v := 5) dX11_list_71 (by decide) ?_
      refine s_cV_RI (My := mX11_sumOfBlocks) dX11_list_72 wM_X11_111 cb_yX11_sumOfBlocks ci_yX11_sumOfBlocks (by assumption) (by assumption) (Nat.le_of_ble_eq_true rfl) (by decide) (s_d (by omega) (c_sumB (d := 0) hli hL hS.1 hC (fun T1 I1 hT1 hf1 => ?_)))
      refine s_iret dX11_list_75 rfl ?_
      rw [if_neg (by omega), if_neg (by omega), if_pos hw] at hq
      exact hq T1 I1 hT1 (ro_of hf1)
    · refine s_tabIn (off := 58) (tgt := 76) dX11_list_18 (by omega) (by omega) (by rw [hw]; rfl) (by decide) ?_
      refine s_aload_n (i := 0) dX11_list_76 rfl rfl ?_
      refine s_aload_n (i := 3) dX11_list_77 rfl rfl ?_
      refine s_iconst (v := 4) dX11_list_78 (by decide) ?_
      refine s_cV_RI (My := mX11_sumOfBlocks) dX11_list_79 wM_X11_111 cb_yX11_sumOfBlocks ci_yX11_sumOfBlocks (by assumption) (by assumption) (Nat.le_of_ble_eq_true rfl) (by decide) (s_d (by omega) (c_sumB (d := 0) hli hL hS.1 hC (fun T1 I1 hT1 hf1 => ?_)))
      refine s_iret dX11_list_82 rfl ?_
      rw [if_neg (by omega), if_neg (by omega), if_neg (by omega), if_pos hw] at hq
      exact hq T1 I1 hT1 (ro_of hf1)
    · refine s_tabIn (off := 65) (tgt := 83) dX11_list_18 (by omega) (by omega) (by rw [hw]; rfl) (by decide) ?_
      refine s_aload_n (i := 3) dX11_list_83 rfl rfl ?_
      refine s_getR dX11_list_84 fl_X11_81 (by assumption) (by assumption) (by assumption) ?_
      refine s_iconst (v := 0) dX11_list_87 (by decide) ?_
      refine s_cV_I (My := mX9_get) dX11_list_88 wM_X11_150 cb_yX9_get ci_yX9_get (by assumption) (by assumption) (Nat.le_of_ble_eq_true rfl) (by decide) (c_get hC.2.1.1 (by rw [hms]; have := hC.2.1.2.1; omega) rfl ?_)
      refine s_topi (y := zI (if (S.1 li).2.1 = 0 then -1 else (S.1 li).1 0)) (hC.2.1.get0) ?_
      refine s_iret dX11_list_91 rfl ?_
      rw [if_neg (by omega), if_neg (by omega), if_neg (by omega), if_neg (by omega), if_pos hw] at hq
      exact hq T I (Tq.refl T) (fr_refl I _)
    · refine s_tabIn (off := 74) (tgt := 92) dX11_list_18 (by omega) (by omega) (by rw [hw]; rfl) (by decide) ?_
      refine s_aload_n (i := 3) dX11_list_92 rfl rfl ?_
      refine s_getR dX11_list_93 fl_X11_81 (by assumption) (by assumption) (by assumption) ?_
      refine s_aload_n (i := 3) dX11_list_96 rfl rfl ?_
      refine s_getR dX11_list_97 fl_X11_81 (by assumption) (by assumption) (by assumption) ?_
      refine s_getI dX11_list_100 fl_X11_87 (by assumption) (by assumption) ?_
      refine s_iconst (v := 1) dX11_list_103 (by decide) ?_
      refine s_isub dX11_list_104 ?_
      refine s_topi (y := zI ((((S.1 li).2.1 : Nat) : Int) - 1)) (by rw [t_zI hms, z1, zI_sub]) ?_
      refine s_cV_I (My := mX9_get) dX11_list_105 wM_X11_150 cb_yX9_get ci_yX9_get (by assumption) (by assumption) (Nat.le_of_ble_eq_true rfl) (by decide) (c_get hC.2.1.1 (by rw [hms]; have := hC.2.1.2.1; omega) rfl ?_)
      refine s_topi (y := zI (if (S.1 li).2.1 = 0 then -1 else (S.1 li).1 ((S.1 li).2.1 - 1))) (hC.2.1.getL) ?_
      refine s_iret dX11_list_108 rfl ?_
      rw [if_neg (by omega), if_neg (by omega), if_neg (by omega), if_neg (by omega), if_neg (by omega), if_pos hw] at hq
      exact hq T I (Tq.refl T) (fr_refl I _)
  · intro hx
    refine s_if_ne (tgt := 10) dX11_list_4 (by decide) (fun c4 => absurd c4 (fun h => h rfl)) (fun c4 => ?_)
    refine s_bipush (v := -2) dX11_list_7 (by decide) ?_
    refine s_iret dX11_list_9 rfl ?_
    rw [if_neg hx] at hq
    rw [zm2]
    exact hq T I (Tq.refl T) (fr_refl I _)
set_option maxRecDepth 100000 in
set_option maxHeartbeats 1000000 in
theorem c_block {G : fG} {x0 : Nat} {l : Launch} {d k n : Nat} {T : fT} {I : fI} {J : fJ} {Q : Option Value → fT → fI → fJ → Prop} {x y z : Int32} {S : ASt} (hS : ClsIs T I S) (hk : SOk S) (hq : ∀ (T' : fT) (I' : fI), Tq T T' → fr I I' roS → Q (some (.int (zI (fBlock S x.toInt y.toInt z.toInt)))) T' I' J) : PW G x0 l mX11_block (d + 4) (ZM G x0 Q) k n 0 [(0, .ref (x0 + 0)), (1, .int x), (2, .int y), (3, .int z)] [] T I J := by
  obtain ⟨⟨o1, o2, o3, o4, o5, o6, o7, o8, o9, o10, o11⟩, hLA, hTA, hVA, hPA, hGA, hNA, hEA⟩ := id hS.1
  obtain ⟨la1, la2, la3, la4⟩ := id hLA
  have e0 : (0 : Nat) < T.1 := by omega
  have e1 : (1 : Nat) < T.1 := by omega
  have e2 : (2 : Nat) < T.1 := by omega
  have e37 : (37 : Nat) < T.1 := by omega
  have e40 : (40 : Nat) < T.1 := by omega
  have e42 : (42 : Nat) < T.1 := by omega
  have e44 : (44 : Nat) < T.1 := by omega
  have e112 : (112 : Nat) < T.1 := by omega
  have v42 := hVA.2.1
  have v44 := hPA.2.1
  have v2 := hS.2.2.1.1.2.1
  have v37 := hS.2.2.2.1.1.2.1
  have v40 := hTA.2.2.1
  have v112 := hNA.2.1
  unfold fBlock at hq
  refine s_aload_n (i := 0) dX11_block_0 rfl rfl ?_
  refine s_iload_n (i := 1) dX11_block_1 rfl rfl ?_
  refine s_iload_n (i := 2) dX11_block_2 rfl rfl ?_
  refine s_cV_II (My := mX11_isBlock) dX11_block_3 wM_X11_153 cb_yX11_isBlock ci_yX11_isBlock (by assumption) (by assumption) (Nat.le_of_ble_eq_true rfl) (by decide) (s_d (by omega) (c_isBlock (d := 0) hS ?_ ?_))
  · rintro li j rfl rfl hli hj
    have hxt : (zI (li : Int)).toInt = li := zI_t (by omega) (by omega)
    have hnl : (zI li).toNatClampNeg = li := by rw [zI_n (by omega) (by omega)]; simp
    have hxn : (zI (li : Int)).toInt.toNat = li := by rw [hxt]; simp
    obtain ⟨lb1, lb2⟩ := la4 li hli
    obtain ⟨k1, k2, k3, k4, k5, k6, k7, k8⟩ := id lb2
    have hC := hS.2.1 li hli
    have hL := hk.1 li hli
    have hnm := hL.nbm
    have hm := hL.1
    have hyt : (zI (j : Int)).toInt = j := zI_t (by omega) (by omega)
    have hyn : (zI (j : Int)).toInt.toNat = j := by rw [hyt]; simp
    have hb := hL.blk hj
    have hB : isB S (zI (li : Int)).toInt (zI (j : Int)).toInt := ⟨by omega, by rw [hxn]; omega⟩
    rw [if_pos hB, hxn, hyn] at hq
    refine s_if_ne (tgt := 12) dX11_block_6 (by decide) (fun c6 => ?_) (fun c6 => absurd c6 (by decide))
    refine s_aload_n (i := 0) dX11_block_12 rfl rfl ?_
    refine s_aload_n (i := 0) dX11_block_13 rfl rfl ?_
    refine s_getR dX11_block_14 fl_X11_11 (by assumption) (by assumption) (by assumption) ?_
    refine s_iload_n (i := 1) dX11_block_17 rfl rfl ?_
    refine s_aldC dX11_block_18 (by assumption) (by assumption) (by rw [la3]; exact z_in (by omega) (by omega) (by omega)) (by rw [hnl]; exact lb1) ?_
    refine s_iload_n (i := 2) dX11_block_19 rfl rfl ?_
    refine s_cV_RI (My := mX11_measured) dX11_block_20 wM_X11_157 cb_yX11_measured ci_yX11_measured (by assumption) (by assumption) (Nat.le_of_ble_eq_true rfl) (by decide) (s_d (by omega) (c_measured (d := 0) hS.1 hli hC hL hj (fun T1 I1 hT1 hf1 hV1 => ?_)))
    have hR1 : RowIs T1 I1 (120 + 4 * li + 1) 200 (S.1 li).1 (S.1 li).2.1 := RowIs.tq (hC.2.1.fr (hf1 _ (by simp; omega)) (hf1 _ (by simp; omega))) hT1
    have e42' : (42 : Nat) < T1.1 := by rw [hT1.1]; exact e42
    have v42' : T1.2.1 42 = 0 := by rw [hT1.2.1]; exact v42
    refine s_iload_n (i := 3) dX11_block_23 rfl rfl ?_
    refine s_cV_I (My := mX0_property) dX11_block_24 wM_X11_161 cb_yX0_property ci_yX0_property (by assumption) (by assumption) (Nat.le_of_ble_eq_true rfl) (by decide) (s_d (by omega) (c_prop (d := 0) hV1 hR1 hb.2.2.2.2.2 hb.2.2.2.1 (by omega) ?_))
    refine s_iret dX11_block_27 rfl ?_
    exact hq T1 I1 hT1 (ro_of hf1)
  · intro hx
    refine s_if_ne (tgt := 12) dX11_block_6 (by decide) (fun c6 => absurd c6 (fun h => h rfl)) (fun c6 => ?_)
    refine s_bipush (v := -2) dX11_block_9 (by decide) ?_
    refine s_iret dX11_block_11 rfl ?_
    rw [if_neg hx] at hq
    rw [zm2]
    exact hq T I (Tq.refl T) (fr_refl I _)
set_option maxRecDepth 100000 in
set_option maxHeartbeats 1000000 in
theorem c_wordM {G : fG} {x0 : Nat} {l : Launch} {d k n : Nat} {T : fT} {I : fI} {J : fJ} {Q : Option Value → fT → fI → fJ → Prop} {x y z : Int32} {S : ASt} (hS : ClsIs T I S) (hk : SOk S) (hq : ∀ (T' : fT) (I' : fI), Tq T T' → fr I I' roS → Q (some (.long (fWord S x.toInt y.toInt z.toInt))) T' I' J) : PW G x0 l mX11_word (d + 4) (ZM G x0 Q) k n 0 [(0, .ref (x0 + 0)), (1, .int x), (2, .int y), (3, .int z)] [] T I J := by
  obtain ⟨⟨o1, o2, o3, o4, o5, o6, o7, o8, o9, o10, o11⟩, hLA, hTA, hVA, hPA, hGA, hNA, hEA⟩ := id hS.1
  obtain ⟨la1, la2, la3, la4⟩ := id hLA
  have e0 : (0 : Nat) < T.1 := by omega
  have e1 : (1 : Nat) < T.1 := by omega
  have e2 : (2 : Nat) < T.1 := by omega
  have e37 : (37 : Nat) < T.1 := by omega
  have e40 : (40 : Nat) < T.1 := by omega
  have e42 : (42 : Nat) < T.1 := by omega
  have e44 : (44 : Nat) < T.1 := by omega
  have e112 : (112 : Nat) < T.1 := by omega
  have v42 := hVA.2.1
  have v44 := hPA.2.1
  have v2 := hS.2.2.1.1.2.1
  have v37 := hS.2.2.2.1.1.2.1
  have v40 := hTA.2.2.1
  have v112 := hNA.2.1
  unfold fWord at hq
  refine s_aload_n (i := 0) dX11_word_0 rfl rfl ?_
  refine s_iload_n (i := 1) dX11_word_1 rfl rfl ?_
  refine s_iload_n (i := 2) dX11_word_2 rfl rfl ?_
  refine s_cV_II (My := mX11_isBlock) dX11_word_3 wM_X11_153 cb_yX11_isBlock ci_yX11_isBlock (by assumption) (by assumption) (Nat.le_of_ble_eq_true rfl) (by decide) (s_d (by omega) (c_isBlock (d := 0) hS ?_ ?_))
  · rintro li j rfl rfl hli hj
    have hxt : (zI (li : Int)).toInt = li := zI_t (by omega) (by omega)
    have hnl : (zI li).toNatClampNeg = li := by rw [zI_n (by omega) (by omega)]; simp
    have hxn : (zI (li : Int)).toInt.toNat = li := by rw [hxt]; simp
    obtain ⟨lb1, lb2⟩ := la4 li hli
    obtain ⟨k1, k2, k3, k4, k5, k6, k7, k8⟩ := id lb2
    have hC := hS.2.1 li hli
    have hL := hk.1 li hli
    have hnm := hL.nbm
    have hm := hL.1
    have hyt : (zI (j : Int)).toInt = j := zI_t (by omega) (by omega)
    have hyn : (zI (j : Int)).toInt.toNat = j := by rw [hyt]; simp
    have hb := hL.blk hj
    have hB : isB S (zI (li : Int)).toInt (zI (j : Int)).toInt := ⟨by omega, by rw [hxn]; omega⟩
    simp only [hxn, hyn] at hq
    have hwl : wordsN (S.1 li).1 (bf (S.1 li) j) (bl (S.1 li) j) ≤ 1000 := by
      have := bw_le (S.1 li).1 (bf (S.1 li) j) (bl (S.1 li) j)
      have h2 : bw (S.1 li).1 (bf (S.1 li) j) (bl (S.1 li) j) * (bl (S.1 li) j - 1) ≤ 20 * 64 := Nat.mul_le_mul this (by omega)
      unfold wordsN
      generalize bw (S.1 li).1 (bf (S.1 li) j) (bl (S.1 li) j) * (bl (S.1 li) j - 1) = P at h2
      omega
    refine s_if_ne (tgt := 13) dX11_word_6 (by decide) (fun c6 => ?_) (fun c6 => absurd c6 (by decide))
    refine s_aload_n (i := 0) dX11_word_13 rfl rfl ?_
    refine s_aload_n (i := 0) dX11_word_14 rfl rfl ?_
    refine s_getR dX11_word_15 fl_X11_11 (by assumption) (by assumption) (by assumption) ?_
    refine s_iload_n (i := 1) dX11_word_18 rfl rfl ?_
    refine s_aldC dX11_word_19 (by assumption) (by assumption) (by rw [la3]; exact z_in (by omega) (by omega) (by omega)) (by rw [hnl]; exact lb1) ?_
    refine s_iload_n (i := 2) dX11_word_20 rfl rfl ?_
    refine s_cV_RI (My := mX11_measured) dX11_word_21 wM_X11_157 cb_yX11_measured ci_yX11_measured (by assumption) (by assumption) (Nat.le_of_ble_eq_true rfl) (by decide) (s_d (by omega) (c_measured (d := 0) hS.1 hli hC hL hj (fun T1 I1 hT1 hf1 hV1 => ?_)))
    have hR1 : RowIs T1 I1 (120 + 4 * li + 1) 200 (S.1 li).1 (S.1 li).2.1 := RowIs.tq (hC.2.1.fr (hf1 _ (by simp; omega)) (hf1 _ (by simp; omega))) hT1
    have e42' : (42 : Nat) < T1.1 := by rw [hT1.1]; exact e42
    have v42' : T1.2.1 42 = 0 := by rw [hT1.2.1]; exact v42
    refine s_astore dX11_word_24 (by decide) (by simp only [sl, sl2, rm, Value.category, reduceIte, Nat.reduceAdd, Nat.reduceEqDiff, reduceCtorEq]; rfl) ?_
    refine s_iload_n (i := 3) dX11_word_26 rfl rfl ?_
    refine s_if_lt (tgt := 48) dX11_word_27 (by decide) (fun c27 => ?_) (fun c27 => ?_)
    · rw [t_lt0] at c27
      try rw [t_le', zI_t (by omega) (by omega)] at c36
      refine s_ldc2 dX11_word_48 wK_X11_164 ?_
      refine s_lret dX11_word_51 rfl ?_
      first
      | (rw [if_pos ⟨hB, by omega⟩] at hq
         exact hq T1 I1 hT1 (ro_of hf1))
      | (rw [if_neg (fun h => by omega)] at hq
         exact hq T1 I1 hT1 (ro_of hf1))
    · refine s_iload_n (i := 3) dX11_word_30 rfl rfl ?_
      refine s_aload dX11_word_31 rfl ?_
      refine s_cV_ (My := mX0_words) dX11_word_33 wM_X11_166 cb_yX0_words ci_yX0_words (by assumption) (by assumption) (Nat.le_of_ble_eq_true rfl) (by decide) (s_d (by omega) (c_words (d := 0) hV1 hb.2.2.2.1 (by omega) ?_))
      refine s_icmp_ge (tgt := 48) dX11_word_36 (by decide) (fun c36 => ?_) (fun c36 => ?_)
      · rw [t_lt0] at c27
        try rw [t_le', zI_t (by omega) (by omega)] at c36
        refine s_ldc2 dX11_word_48 wK_X11_164 ?_
        refine s_lret dX11_word_51 rfl ?_
        first
        | (rw [if_pos ⟨hB, by omega⟩] at hq
           exact hq T1 I1 hT1 (ro_of hf1))
        | (rw [if_neg (fun h => by omega)] at hq
           exact hq T1 I1 hT1 (ro_of hf1))
      · rw [t_lt0] at c27
        rw [t_le', zI_t (by omega) (by omega)] at c36
        refine s_aload dX11_word_39 rfl ?_
        refine s_iload_n (i := 3) dX11_word_41 rfl rfl ?_
        refine s_topi (y := zI ((z.toInt.toNat : Nat) : Int)) (t_zI (by omega)) ?_
        refine s_cV_I (My := mX0_wordAt) dX11_word_42 wM_X11_170 cb_yX0_wordAt ci_yX0_wordAt (by assumption) (by assumption) (Nat.le_of_ble_eq_true rfl) (by decide) (s_d (by omega) (c_word (d := 0) (kk := z.toInt.toNat) hV1 hR1 hL.gap (by omega) hb.2.2.2.2.2 hb.2.2.2.1 (by omega) (by omega) ?_))
        refine s_goto (tgt := 51) dX11_word_45 (by decide) ?_
        refine s_lret dX11_word_51 rfl ?_
        first
        | (rw [if_pos ⟨hB, by omega⟩] at hq
           exact hq T1 I1 hT1 (ro_of hf1))
        | (rw [if_neg (fun h => by omega)] at hq
           exact hq T1 I1 hT1 (ro_of hf1))
  · intro hx
    refine s_if_ne (tgt := 13) dX11_word_6 (by decide) (fun c6 => absurd c6 (fun h => h rfl)) (fun c6 => ?_)
    refine s_ldc2 dX11_word_9 wK_X11_164 ?_
    refine s_lret dX11_word_12 rfl ?_
    rw [if_neg (fun h => hx h.1)] at hq
    exact hq T I (Tq.refl T) (fr_refl I _)
set_option maxRecDepth 100000 in
set_option maxHeartbeats 1000000 in
theorem l_exc {G : fG} {x0 : Nat} {l : Launch} {d k n : Nat} {T : fT} {I : fI} {J : fJ} {Q : Option Value → fT → fI → fJ → Prop} {e1 e2 z u : Int32} {r cap m f len : Nat} {g : Nat → Int} (hV : ViewIs T I 42 r g f len) (hR : RowIs T I r cap g m) (hg : GapOk g m) (hm : m ≤ 200) (hfl : f + len ≤ m) (hz : 0 ≤ z.toInt) (hu : 0 ≤ u.toInt ∧ u.toInt ≤ 1) : ∀ (t i b : Nat), i + t = len → 1 ≤ i → b < i → (b : Int) ≤ z.toInt → (hq : Q (some (.int (zI (excV g f len u.toInt (nthE (isE g f len) t i (z.toInt - b).toNat))))) T I J) →
    PW G x0 l mX11_exception (d + 4) (ZM G x0 Q) k n 46 [(0, .ref (x0 + 0)), (1, .int e1), (2, .int e2), (3, .int z), (4, .int u), (5, .ref (x0 + 42)), (6, .int (zI b)), (7, .int (zI i))] [] T I J := by
  obtain ⟨hA, hVr, v2, v3, v4, v5, v6⟩ := id hV
  obtain ⟨a1, a2, a3, a4, a5, a6⟩ := id hA
  intro t
  induction t with
  | zero =>
    intro i b ht hi hb hbz hq
    refine s_iload dX11_exception_46 rfl ?_
    refine s_aload dX11_exception_48 rfl ?_
    refine s_getI dX11_exception_50 fl_X11_174 (by assumption) (by assumption) ?_
    refine s_icmp_ge (tgt := 103) dX11_exception_53 (by decide) (fun h53 => ?_) (fun h53 => absurd (by rw [t_zI v3, zI_le (by omega) (by omega) (by omega) (by omega)]; omega) h53)
    refine s_bipush (v := -2) dX11_exception_103 (by decide) ?_
    refine s_iret dX11_exception_105 rfl ?_
    rw [zm2]
    exact hq
  | succ t ih =>
    intro i b ht hi hb hbz hq
    have hgz := gapz_in hg (i := f + i) (by omega) (by omega)
    have hdv : gp g (f + i) / 2 ^ bw g f len ≤ gp g (f + i) := Nat.div_le_self _ _
    have hp := high_pos (g := g) (f := f) (len := len) (i := i)
    obtain ⟨hi', hhi⟩ : ∃ hi', gp g (f + i) / 2 ^ bw g f len = hi' := ⟨_, rfl⟩
    rw [hhi] at hdv hp
    simp only [nthE] at hq
    refine s_iload dX11_exception_46 rfl ?_
    refine s_aload dX11_exception_48 rfl ?_
    refine s_getI dX11_exception_50 fl_X11_174 (by assumption) (by assumption) ?_
    refine s_icmp_ge (tgt := 103) dX11_exception_53 (by decide) (fun c53 => absurd c53 (by rw [t_zI v3, zI_le (by omega) (by omega) (by omega) (by omega)]; omega)) (fun c53 => ?_)
    refine s_aload dX11_exception_56 rfl ?_
    refine s_iload dX11_exception_58 rfl ?_
    refine s_cV_I (My := mX0_highPart) dX11_exception_60 wM_X11_177 cb_yX0_highPart ci_yX0_highPart (by assumption) (by assumption) (Nat.le_of_ble_eq_true rfl) (by decide) (s_d (by omega) (c_high (d := 0) hV hR hg (by omega) hfl hi (by omega) ?_))
    rw [hhi]
    refine s_istore dX11_exception_63 (by decide) (by simp only [sl, sl2, rm, Value.category, reduceIte, Nat.reduceAdd, Nat.reduceEqDiff, reduceCtorEq]; rfl) ?_
    refine s_iload dX11_exception_65 rfl ?_
    refine s_if_le (tgt := 89) dX11_exception_67 (by decide) (fun c67 => ?_) (fun c67 => ?_)
    · refine s_iload dX11_exception_89 rfl ?_
      refine s_if_le (tgt := 97) dX11_exception_91 (by decide) (fun c91 => ?_) (fun c91 => ?_)
      · refine s_iinc dX11_exception_97 rfl (zI_inc _) (by decide) (by simp only [sl, sl2, rm, Value.category, reduceIte, Nat.reduceAdd, Nat.reduceEqDiff, reduceCtorEq]; rfl) ?_
        refine s_goto (tgt := 46) dX11_exception_100 (by decide) ?_
        try rw [z0, zI_le (by omega) (by omega) (by omega) (by omega)] at c91
        try rw [z0, zI_le (by omega) (by omega) (by omega) (by omega)] at c67
        first
        | (exfalso; omega)
        | (rw [if_neg (fun h => by have := hp.mpr h; omega)] at hq
           refine s_lv (lv' := [(0, .ref (x0 + 0)), (1, .int e1), (2, .int e2), (3, .int z), (4, .int u), (5, .ref (x0 + 42)), (6, .int (zI b)), (7, .int (zI ((i + 1 : Nat) : Int)))]) ⟨rfl, rfl, rfl, rfl, rfl, rfl, rfl, rfl, trivial⟩ ?_
           exact ih (i + 1) b (by omega) (by omega) (by omega) hbz hq)
        | (rw [t_eq', zI_t (by omega) (by omega)] at c73
           rw [if_neg (by omega)] at hq
           refine s_lv (lv' := [(0, .ref (x0 + 0)), (1, .int e1), (2, .int e2), (3, .int z), (4, .int u), (5, .ref (x0 + 42)), (6, .int (zI ((b + 1 : Nat) : Int))), (7, .int (zI ((i + 1 : Nat) : Int)))]) ⟨rfl, rfl, rfl, rfl, rfl, rfl, rfl, rfl, trivial⟩ ?_
           refine ih (i + 1) (b + 1) (by omega) (by omega) (by omega) (by omega) ?_
           rw [show (z.toInt - ((b + 1 : Nat) : Int)).toNat = (z.toInt - b).toNat - 1 by omega]
           exact hq)
      · refine s_iinc dX11_exception_94 rfl (zI_inc _) (by decide) (by simp only [sl, sl2, rm, Value.category, reduceIte, Nat.reduceAdd, Nat.reduceEqDiff, reduceCtorEq]; rfl) ?_
        refine s_iinc dX11_exception_97 rfl (zI_inc _) (by decide) (by simp only [sl, sl2, rm, Value.category, reduceIte, Nat.reduceAdd, Nat.reduceEqDiff, reduceCtorEq]; rfl) ?_
        refine s_goto (tgt := 46) dX11_exception_100 (by decide) ?_
        try rw [z0, zI_le (by omega) (by omega) (by omega) (by omega)] at c91
        try rw [z0, zI_le (by omega) (by omega) (by omega) (by omega)] at c67
        first
        | (exfalso; omega)
        | (rw [if_neg (fun h => by have := hp.mpr h; omega)] at hq
           refine s_lv (lv' := [(0, .ref (x0 + 0)), (1, .int e1), (2, .int e2), (3, .int z), (4, .int u), (5, .ref (x0 + 42)), (6, .int (zI b)), (7, .int (zI ((i + 1 : Nat) : Int)))]) ⟨rfl, rfl, rfl, rfl, rfl, rfl, rfl, rfl, trivial⟩ ?_
           exact ih (i + 1) b (by omega) (by omega) (by omega) hbz hq)
        | (rw [t_eq', zI_t (by omega) (by omega)] at c73
           rw [if_neg (by omega)] at hq
           refine s_lv (lv' := [(0, .ref (x0 + 0)), (1, .int e1), (2, .int e2), (3, .int z), (4, .int u), (5, .ref (x0 + 42)), (6, .int (zI ((b + 1 : Nat) : Int))), (7, .int (zI ((i + 1 : Nat) : Int)))]) ⟨rfl, rfl, rfl, rfl, rfl, rfl, rfl, rfl, trivial⟩ ?_
           refine ih (i + 1) (b + 1) (by omega) (by omega) (by omega) (by omega) ?_
           rw [show (z.toInt - ((b + 1 : Nat) : Int)).toNat = (z.toInt - b).toNat - 1 by omega]
           exact hq)
    · rw [z0, zI_le (by omega) (by omega) (by omega) (by omega)] at c67
      rw [if_pos (hp.mp (by omega))] at hq
      refine s_iload dX11_exception_70 rfl ?_
      refine s_iload_n (i := 3) dX11_exception_72 rfl rfl ?_
      refine s_icmp_ne (tgt := 89) dX11_exception_73 (by decide) (fun c73 => ?_) (fun c73 => ?_)
      · refine s_iload dX11_exception_89 rfl ?_
        refine s_if_le (tgt := 97) dX11_exception_91 (by decide) (fun c91 => ?_) (fun c91 => ?_)
        · refine s_iinc dX11_exception_97 rfl (zI_inc _) (by decide) (by simp only [sl, sl2, rm, Value.category, reduceIte, Nat.reduceAdd, Nat.reduceEqDiff, reduceCtorEq]; rfl) ?_
          refine s_goto (tgt := 46) dX11_exception_100 (by decide) ?_
          try rw [z0, zI_le (by omega) (by omega) (by omega) (by omega)] at c91
          try rw [z0, zI_le (by omega) (by omega) (by omega) (by omega)] at c67
          first
          | (exfalso; omega)
          | (rw [if_neg (fun h => by have := hp.mpr h; omega)] at hq
             refine s_lv (lv' := [(0, .ref (x0 + 0)), (1, .int e1), (2, .int e2), (3, .int z), (4, .int u), (5, .ref (x0 + 42)), (6, .int (zI b)), (7, .int (zI ((i + 1 : Nat) : Int)))]) ⟨rfl, rfl, rfl, rfl, rfl, rfl, rfl, rfl, trivial⟩ ?_
             exact ih (i + 1) b (by omega) (by omega) (by omega) hbz hq)
          | (rw [t_eq', zI_t (by omega) (by omega)] at c73
             rw [if_neg (by omega)] at hq
             refine s_lv (lv' := [(0, .ref (x0 + 0)), (1, .int e1), (2, .int e2), (3, .int z), (4, .int u), (5, .ref (x0 + 42)), (6, .int (zI ((b + 1 : Nat) : Int))), (7, .int (zI ((i + 1 : Nat) : Int)))]) ⟨rfl, rfl, rfl, rfl, rfl, rfl, rfl, rfl, trivial⟩ ?_
             refine ih (i + 1) (b + 1) (by omega) (by omega) (by omega) (by omega) ?_
             rw [show (z.toInt - ((b + 1 : Nat) : Int)).toNat = (z.toInt - b).toNat - 1 by omega]
             exact hq)
        · refine s_iinc dX11_exception_94 rfl (zI_inc _) (by decide) (by simp only [sl, sl2, rm, Value.category, reduceIte, Nat.reduceAdd, Nat.reduceEqDiff, reduceCtorEq]; rfl) ?_
          refine s_iinc dX11_exception_97 rfl (zI_inc _) (by decide) (by simp only [sl, sl2, rm, Value.category, reduceIte, Nat.reduceAdd, Nat.reduceEqDiff, reduceCtorEq]; rfl) ?_
          refine s_goto (tgt := 46) dX11_exception_100 (by decide) ?_
          try rw [z0, zI_le (by omega) (by omega) (by omega) (by omega)] at c91
          try rw [z0, zI_le (by omega) (by omega) (by omega) (by omega)] at c67
          first
          | (exfalso; omega)
          | (rw [if_neg (fun h => by have := hp.mpr h; omega)] at hq
             refine s_lv (lv' := [(0, .ref (x0 + 0)), (1, .int e1), (2, .int e2), (3, .int z), (4, .int u), (5, .ref (x0 + 42)), (6, .int (zI b)), (7, .int (zI ((i + 1 : Nat) : Int)))]) ⟨rfl, rfl, rfl, rfl, rfl, rfl, rfl, rfl, trivial⟩ ?_
             exact ih (i + 1) b (by omega) (by omega) (by omega) hbz hq)
          | (rw [t_eq', zI_t (by omega) (by omega)] at c73
             rw [if_neg (by omega)] at hq
             refine s_lv (lv' := [(0, .ref (x0 + 0)), (1, .int e1), (2, .int e2), (3, .int z), (4, .int u), (5, .ref (x0 + 42)), (6, .int (zI ((b + 1 : Nat) : Int))), (7, .int (zI ((i + 1 : Nat) : Int)))]) ⟨rfl, rfl, rfl, rfl, rfl, rfl, rfl, rfl, trivial⟩ ?_
             refine ih (i + 1) (b + 1) (by omega) (by omega) (by omega) (by omega) ?_
             rw [show (z.toInt - ((b + 1 : Nat) : Int)).toNat = (z.toInt - b).toNat - 1 by omega]
             exact hq)
      · rw [t_eq', zI_t (by omega) (by omega)] at c73
        rw [if_pos (by omega)] at hq
        refine s_iload dX11_exception_76 rfl ?_
        refine s_if_ne (tgt := 86) dX11_exception_78 (by decide) (fun c78 => ?_) (fun c78 => ?_)
        · have c78' : u.toInt ≠ 0 := fun h => c78 (by rw [t_zI h]; rfl)
          dsimp only [excV] at hq
          rw [if_neg c78', hhi] at hq
          refine s_iload dX11_exception_86 rfl ?_
          refine s_iret dX11_exception_88 rfl ?_
          exact hq
        · have c78' : u.toInt = 0 := by rw [c78]; rfl
          dsimp only [excV] at hq
          rw [if_pos c78'] at hq
          refine s_iload dX11_exception_81 rfl ?_
          refine s_goto (tgt := 88) dX11_exception_83 (by decide) ?_
          refine s_iret dX11_exception_88 rfl ?_
          exact hq
set_option maxRecDepth 100000 in
set_option maxHeartbeats 1000000 in
theorem c_exc {G : fG} {x0 : Nat} {l : Launch} {d k n : Nat} {T : fT} {I : fI} {J : fJ} {Q : Option Value → fT → fI → fJ → Prop} {x y z u : Int32} {S : ASt} (hS : ClsIs T I S) (hk : SOk S) (hq : ∀ (T' : fT) (I' : fI), Tq T T' → fr I I' roS → Q (some (.int (zI (fExc S x.toInt y.toInt z.toInt u.toInt)))) T' I' J) : PW G x0 l mX11_exception (d + 4) (ZM G x0 Q) k n 0 [(0, .ref (x0 + 0)), (1, .int x), (2, .int y), (3, .int z), (4, .int u)] [] T I J := by
  obtain ⟨⟨o1, o2, o3, o4, o5, o6, o7, o8, o9, o10, o11⟩, hLA, hTA, hVA, hPA, hGA, hNA, hEA⟩ := id hS.1
  obtain ⟨la1, la2, la3, la4⟩ := id hLA
  have e0 : (0 : Nat) < T.1 := by omega
  have e1 : (1 : Nat) < T.1 := by omega
  have e2 : (2 : Nat) < T.1 := by omega
  have e37 : (37 : Nat) < T.1 := by omega
  have e40 : (40 : Nat) < T.1 := by omega
  have e42 : (42 : Nat) < T.1 := by omega
  have e44 : (44 : Nat) < T.1 := by omega
  have e112 : (112 : Nat) < T.1 := by omega
  have v42 := hVA.2.1
  have v44 := hPA.2.1
  have v2 := hS.2.2.1.1.2.1
  have v37 := hS.2.2.2.1.1.2.1
  have v40 := hTA.2.2.1
  have v112 := hNA.2.1
  unfold fExc at hq
  refine s_aload_n (i := 0) dX11_exception_0 rfl rfl ?_
  refine s_iload_n (i := 1) dX11_exception_1 rfl rfl ?_
  refine s_iload_n (i := 2) dX11_exception_2 rfl rfl ?_
  refine s_cV_II (My := mX11_isBlock) dX11_exception_3 wM_X11_153 cb_yX11_isBlock ci_yX11_isBlock (by assumption) (by assumption) (Nat.le_of_ble_eq_true rfl) (by decide) (s_d (by omega) (c_isBlock (d := 0) hS ?_ ?_))
  · rintro li j rfl rfl hli hj
    have hxt : (zI (li : Int)).toInt = li := zI_t (by omega) (by omega)
    have hnl : (zI li).toNatClampNeg = li := by rw [zI_n (by omega) (by omega)]; simp
    have hxn : (zI (li : Int)).toInt.toNat = li := by rw [hxt]; simp
    obtain ⟨lb1, lb2⟩ := la4 li hli
    obtain ⟨k1, k2, k3, k4, k5, k6, k7, k8⟩ := id lb2
    have hC := hS.2.1 li hli
    have hL := hk.1 li hli
    have hnm := hL.nbm
    have hm := hL.1
    have hyt : (zI (j : Int)).toInt = j := zI_t (by omega) (by omega)
    have hyn : (zI (j : Int)).toInt.toNat = j := by rw [hyt]; simp
    have hb := hL.blk hj
    have hB : isB S (zI (li : Int)).toInt (zI (j : Int)).toInt := ⟨by omega, by rw [hxn]; omega⟩
    simp only [hxn, hyn] at hq
    refine s_if_eq (tgt := 24) dX11_exception_6 (by decide) (fun c6 => absurd c6 (by decide)) (fun c6 => ?_)
    refine s_iload_n (i := 3) dX11_exception_9 rfl rfl ?_
    refine s_if_lt (tgt := 24) dX11_exception_10 (by decide) (fun c10 => ?_) (fun c10 => ?_)
    · refine s_bipush (v := -2) dX11_exception_24 (by decide) ?_
      refine s_iret dX11_exception_26 rfl ?_
      rw [t_lt0] at c10
      try rw [t_lt0] at c15
      try rw [t_le', show ((1 : Int32).toInt) = 1 from by decide] at c21
      rw [if_neg (fun h => by omega)] at hq
      rw [zm2]
      exact hq T I (Tq.refl T) (fr_refl I _)
    · refine s_iload dX11_exception_13 rfl ?_
      refine s_if_lt (tgt := 24) dX11_exception_15 (by decide) (fun c15 => ?_) (fun c15 => ?_)
      · refine s_bipush (v := -2) dX11_exception_24 (by decide) ?_
        refine s_iret dX11_exception_26 rfl ?_
        rw [t_lt0] at c10
        try rw [t_lt0] at c15
        try rw [t_le', show ((1 : Int32).toInt) = 1 from by decide] at c21
        rw [if_neg (fun h => by omega)] at hq
        rw [zm2]
        exact hq T I (Tq.refl T) (fr_refl I _)
      · refine s_iload dX11_exception_18 rfl ?_
        refine s_iconst (v := 1) dX11_exception_20 (by decide) ?_
        refine s_icmp_le (tgt := 27) dX11_exception_21 (by decide) (fun c21 => ?_) (fun c21 => ?_)
        · refine s_aload_n (i := 0) dX11_exception_27 rfl rfl ?_
          refine s_aload_n (i := 0) dX11_exception_28 rfl rfl ?_
          refine s_getR dX11_exception_29 fl_X11_11 (by assumption) (by assumption) (by assumption) ?_
          refine s_iload_n (i := 1) dX11_exception_32 rfl rfl ?_
          refine s_aldC dX11_exception_33 (by assumption) (by assumption) (by rw [la3]; exact z_in (by omega) (by omega) (by omega)) (by rw [hnl]; exact lb1) ?_
          refine s_iload_n (i := 2) dX11_exception_34 rfl rfl ?_
          refine s_cV_RI (My := mX11_measured) dX11_exception_35 wM_X11_157 cb_yX11_measured ci_yX11_measured (by assumption) (by assumption) (Nat.le_of_ble_eq_true rfl) (by decide) (s_d (by omega) (c_measured (d := 0) hS.1 hli hC hL hj (fun T1 I1 hT1 hf1 hV1 => ?_)))
          have hR1 : RowIs T1 I1 (120 + 4 * li + 1) 200 (S.1 li).1 (S.1 li).2.1 := RowIs.tq (hC.2.1.fr (hf1 _ (by simp; omega)) (hf1 _ (by simp; omega))) hT1
          have e42' : (42 : Nat) < T1.1 := by rw [hT1.1]; exact e42
          have v42' : T1.2.1 42 = 0 := by rw [hT1.2.1]; exact v42
          refine s_astore dX11_exception_38 (by decide) (by simp only [sl, sl2, rm, Value.category, reduceIte, Nat.reduceAdd, Nat.reduceEqDiff, reduceCtorEq]; rfl) ?_
          refine s_iconst (v := 0) dX11_exception_40 (by decide) ?_
          refine s_istore dX11_exception_41 (by decide) (by simp only [sl, sl2, rm, Value.category, reduceIte, Nat.reduceAdd, Nat.reduceEqDiff, reduceCtorEq]; rfl) ?_
          refine s_iconst (v := 1) dX11_exception_43 (by decide) ?_
          refine s_istore dX11_exception_44 (by decide) (by simp only [sl, sl2, rm, Value.category, reduceIte, Nat.reduceAdd, Nat.reduceEqDiff, reduceCtorEq]; rfl) ?_
          rw [t_lt0] at c10
          rw [t_lt0] at c15
          rw [t_le', show ((1 : Int32).toInt) = 1 from by decide] at c21
          rw [if_pos ⟨hB, by omega⟩] at hq
          refine l_exc hV1 hR1 hL.gap hm hb.2.2.2.2.2 (by omega) (by omega) (bl (S.1 li) j - 1) 1 0 (by omega) (by omega) (by omega) (by omega) ?_
          rw [show (z.toInt - ((0 : Nat) : Int)).toNat = z.toInt.toNat by omega]
          exact hq T1 I1 hT1 (ro_of hf1)
        · refine s_bipush (v := -2) dX11_exception_24 (by decide) ?_
          refine s_iret dX11_exception_26 rfl ?_
          rw [t_lt0] at c10
          try rw [t_lt0] at c15
          try rw [t_le', show ((1 : Int32).toInt) = 1 from by decide] at c21
          rw [if_neg (fun h => by omega)] at hq
          rw [zm2]
          exact hq T I (Tq.refl T) (fr_refl I _)
  · intro hx
    refine s_if_eq (tgt := 24) dX11_exception_6 (by decide) (fun c6 => ?_) (fun c6 => absurd (rfl) c6)
    refine s_bipush (v := -2) dX11_exception_24 (by decide) ?_
    refine s_iret dX11_exception_26 rfl ?_
    rw [if_neg (fun h => hx h.1)] at hq
    rw [zm2]
    exact hq T I (Tq.refl T) (fr_refl I _)
