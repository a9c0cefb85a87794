def tbit (x : Int64) (j : Nat) : Bool := x.toBitVec.getLsbD j
theorem sh_amt : ∀ j, j < 64 → (((zI ((j : Nat) : Int)).toInt64.toUInt64 &&& Int64.toUInt64 63).toBitVec % 64).toNat = j := by decide
theorem tb_val (x : Int64) {j : Nat} (hj : j < 64) : (x.toUInt64 >>> ((zI ((j : Nat) : Int)).toInt64.toUInt64 &&& Int64.toUInt64 63)).toInt64 &&& 1 = if tbit x j then 1 else 0 := by
  apply Int64.toBitVec.inj
  rw [Int64.toBitVec_and, UInt64.toBitVec_toInt64, UInt64.toBitVec_shiftRight, BitVec.ushiftRight_eq', sh_amt j hj]
  apply BitVec.eq_of_getLsbD_eq
  intro i hi
  rw [BitVec.getLsbD_and, BitVec.getLsbD_ushiftRight]
  show (x.toBitVec.getLsbD (j + i) && (1#64).getLsbD i) = _
  rw [BitVec.getLsbD_one]
  by_cases h0 : i = 0
  · subst h0
    unfold tbit
    cases hb : x.toBitVec.getLsbD j <;> simp [hb]
  · cases hb : tbit x j <;> simp [h0]
theorem tb_cmp (x : Int64) {j : Nat} (hj : j < 64) : lg_cmp ((x.toUInt64 >>> ((zI ((j : Nat) : Int)).toInt64.toUInt64 &&& Int64.toUInt64 63)).toInt64 &&& 1) 1 = 0 ↔ tbit x j = true := by
  rw [tb_val x hj]
  cases tbit x j
  · decide
  · decide
theorem tbit_and (x y : Int64) (j : Nat) : tbit (x &&& y) j = (tbit x j && tbit y j) := by unfold tbit; rw [Int64.toBitVec_and, BitVec.getLsbD_and]
theorem tbit_or (x y : Int64) (j : Nat) : tbit (x ||| y) j = (tbit x j || tbit y j) := by unfold tbit; rw [Int64.toBitVec_or, BitVec.getLsbD_or]
theorem tbit_xor (x y : Int64) (j : Nat) : tbit (x ^^^ y) j = (tbit x j ^^ tbit y j) := by unfold tbit; rw [Int64.toBitVec_xor, BitVec.getLsbD_xor]
theorem tbit_m1 : ∀ j, j < 64 → tbit (-1) j = true := by decide
theorem tbit_tab : ∀ i, i < 6 → ∀ j, j < 64 → tbit (fm_tab i) j = Nat.testBit j i := by decide
theorem mk6_lt (g : Nat → Nat → Int) (m : Nat → Nat) (v : Int) : ∀ i, mk6 g m v i < 2 ^ i := by
  intro i
  induction i with
  | zero => simp [mk6]
  | succ i ih =>
    have : 2 ^ (i + 1) = 2 ^ i + 2 ^ i := by rw [Nat.pow_succ]; omega
    simp only [mk6]
    split <;> omega
/-- the numbers of a table -/
def rowT (g : Nat → Nat → Int) (m : Nat → Nat) (AL : List Int) (t : Int64) : List Int := AL.filter (fun v => tbit t (mk6 g m v 6))
/-- what the joiner holds of all numbers -/
def AllIs (T : fT) (I : fI) (g : Nat → Nat → Int) (m : Nat → Nat) (AL : List Int) : Prop := RowL T I 166 1200 AL ∧ ∀ q, q < AL.length → (I 168 q).toInt = mk6 g m (AL.getD q 0) 6
theorem AllIs.fr {T : fT} {I I' : fI} {g : Nat → Nat → Int} {m : Nat → Nat} {AL : List Int} (h : AllIs T I g m AL) (h1 : I' 166 = I 166) (h2 : I' 167 = I 167) (h3 : I' 168 = I 168) : AllIs T I' g m AL := ⟨RowL.fr h.1 h1 h2, fun q hq => by rw [h3]; exact h.2 q hq⟩
theorem take_succ_getD {L : List Int} {i : Nat} (h : i < L.length) : L.take (i + 1) = L.take i ++ [L.getD i 0] := by
  rw [List.take_add_one, List.getElem?_eq_getElem h, List.getD_eq_getElem?_getD, List.getElem?_eq_getElem h]
  rfl
set_option maxRecDepth 100000 in
set_option maxHeartbeats 4000000 in
theorem l_mkRow {G : fG} {x0 : Nat} {l : Launch} {d k n : Nat} {T : fT} {J : fJ} {Q : Option Value → fT → fI → fJ → Prop} {g : Nat → Nat → Int} {m : Nat → Nat} {AL : List Int} {r : Nat} {t : Int64} (hJ : JoinAt T) (hr : RowAt T r 1200) (hrr : r = 164 ∨ r = 169 ∨ r = 171) : ∀ (z i : Nat) (I : fI), i + z = AL.length → AllIs T I g m AL → RowL T I r 1200 ((AL.take i).filter (fun v => tbit t (mk6 g m v 6))) → (hq : ∀ I', fr I I' [r, r + 1] → RowL T I' r 1200 (rowT g m AL t) → Q none T I' J) →
    PW G x0 l mX6_makeRow (d + 1) (ZM G x0 Q) k n 8 [(0, .ref (x0 + 162)), (1, .long t), (3, .ref (x0 + r)), (4, .int (zI i))] [] T I J := by
  obtain ⟨j1, j2, j3, j4, j5, j6, j7, j8, j9, j10, j11, j12, j13, j14, j15, j16, j17, j18, j19, j20, j21⟩ := id hJ
  have e162 : (162 : Nat) < T.1 := by omega
  have e163 : (163 : Nat) < T.1 := by omega
  have e164 : (164 : Nat) < T.1 := by omega
  have e166 : (166 : Nat) < T.1 := by omega
  have e168 : (168 : Nat) < T.1 := by omega
  have e169 : (169 : Nat) < T.1 := by omega
  have e171 : (171 : Nat) < T.1 := by omega
  have e173 : (173 : Nat) < T.1 := by omega
  have k163 : T.2.1 163 = 4 := j11.2
  have k164 : T.2.1 164 = 9 := j12.2.2.1
  have k166 : T.2.1 166 = 9 := j13.2.2.1
  have k169 : T.2.1 169 = 9 := j14.2.2.1
  have k171 : T.2.1 171 = 9 := j15.2.2.1
  obtain ⟨y1, y2, y3, y4, y5, y6, y7⟩ := id hr
  intro z
  induction z with
  | zero =>
    intro i I hz hA hR hq
    have hlen := hA.1.2.1
    have hsz := RowIs.sz hA.1
    refine s_iload dX6_makeRow_8 rfl ?_
    refine s_aload_n (i := 0) dX6_makeRow_10 rfl rfl ?_
    refine s_getR dX6_makeRow_11 fl_X6_27 (by assumption) (by assumption) (by assumption) ?_
    refine s_getI dX6_makeRow_14 fl_X6_55 (by assumption) (by assumption) ?_
    refine s_icmp_ge (tgt := 55) dX6_makeRow_17 (by decide) (fun h17 => ?_) (fun h17 => absurd (by rw [hsz, zI_le (by omega) (by omega) (by omega) (by omega)]; omega) h17)
    refine s_ret dX6_makeRow_55 rfl ?_
    rw [List.take_of_length_le (by omega)] at hR
    exact hq I (fr_refl I _) hR
  | succ z ih =>
    intro i I hz hA hR hq
    have hlen := hA.1.2.1
    have hsz := RowIs.sz hA.1
    have hni : (zI i).toNatClampNeg = i := by rw [zI_n (by omega) (by omega)]; simp
    have hset := t_zI (hA.2 i (by omega))
    have hml := mk6_lt g m (AL.getD i 0) 6
    have hts := take_succ_getD (L := AL) (i := i) (by omega)
    have hfl : ((AL.take i).filter (fun v => tbit t (mk6 g m v 6))).length ≤ i := Nat.le_trans (List.length_filter_le _ _) (by rw [List.length_take]; omega)
    refine s_iload dX6_makeRow_8 rfl ?_
    refine s_aload_n (i := 0) dX6_makeRow_10 rfl rfl ?_
    refine s_getR dX6_makeRow_11 fl_X6_27 (by assumption) (by assumption) (by assumption) ?_
    refine s_getI dX6_makeRow_14 fl_X6_55 (by assumption) (by assumption) ?_
    refine s_icmp_ge (tgt := 55) dX6_makeRow_17 (by decide) (fun h17 => absurd h17 (by rw [hsz, zI_le (by omega) (by omega) (by omega) (by omega)]; omega)) (fun h17 => ?_)
    refine s_lload_n (i := 1) dX6_makeRow_20 rfl rfl ?_
    refine s_aload_n (i := 0) dX6_makeRow_21 rfl rfl ?_
    refine s_getR dX6_makeRow_22 fl_X6_30 (by assumption) (by assumption) (by assumption) ?_
    refine s_iload dX6_makeRow_25 rfl ?_
    refine s_iald dX6_makeRow_27 (by assumption) (by assumption) (by rw [j17]; exact z_in (by omega) (by omega) (by omega)) ?_
    refine s_topi (y := zI (mk6 g m (AL.getD i 0) 6)) (by rw [hni]; exact hset) ?_
    refine s_lushr dX6_makeRow_28 ?_
    refine s_lconst (v := 1) dX6_makeRow_29 (by decide) ?_
    refine s_land dX6_makeRow_30 ?_
    refine s_lconst (v := 1) dX6_makeRow_31 (by decide) ?_
    refine s_lcmp dX6_makeRow_32 ?_
    refine s_if_ne (tgt := 49) dX6_makeRow_33 (by decide) (fun c33 => ?_) (fun c33 => ?_)
    · refine s_iinc dX6_makeRow_49 rfl (zI_inc _) (by decide) (by simp only [sl, sl2, rm, Value.category, reduceIte, Nat.reduceAdd, Nat.reduceEqDiff, reduceCtorEq]; rfl) ?_
      refine s_goto (tgt := 8) dX6_makeRow_52 (by decide) ?_
      first
      | (have hb : tbit t (mk6 g m (AL.getD i 0) 6) = false := by
           cases h : tbit t (mk6 g m (AL.getD i 0) 6) with
           | false => rfl
           | true => exact absurd ((tb_cmp t (by omega)).mpr h) c33
         refine ih (i + 1) I (by omega) hA ?_ hq
         rw [hts, List.filter_append, List.filter_cons_of_neg (by rw [hb]; decide), List.filter_nil, List.append_nil]
         exact hR)
      | (have hcc : zI ((AL.getD i 0)) = zI (AL.getD i 0) := rfl
         have hrng := (RowIs.rng hA.1) i (by omega)
         rw [zI_t hrng.1 hrng.2] at hR1
         have hR2 := RowL.snoc hR1
         refine ih (i + 1) I1 (by omega) (hA.fr (hf1 166 (by simp; omega)) (hf1 167 (by simp; omega)) (hf1 168 (by simp; omega))) ?_ (fun I' hf hR' => hq I' (fr_trans hf1 hf) hR')
         rw [hts, List.filter_append, List.filter_cons_of_pos (p := fun v => tbit t (mk6 g m v 6)) hb, List.filter_nil]
         exact hR2)
    · have hb : tbit t (mk6 g m (AL.getD i 0) 6) = true := (tb_cmp t (by omega)).mp c33
      refine s_aload_n (i := 3) dX6_makeRow_36 rfl rfl ?_
      refine s_aload_n (i := 0) dX6_makeRow_37 rfl rfl ?_
      refine s_getR dX6_makeRow_38 fl_X6_27 (by assumption) (by assumption) (by assumption) ?_
      refine s_iload dX6_makeRow_41 rfl ?_
      refine s_cV_I (My := mX9_get) dX6_makeRow_43 wM_X6_58 cb_yX9_get ci_yX9_get (by assumption) (by assumption) (Nat.le_of_ble_eq_true rfl) (by decide) (c_getn hA.1 (by omega) ?_)
      refine s_cV_I (My := mX9_append) dX6_makeRow_46 wM_X6_79 cb_yX9_append ci_yX9_append (by assumption) (by assumption) (Nat.le_of_ble_eq_true rfl) (by decide) (c_append hR (by omega) (fun I1 hf1 hR1 => ?_))
      refine s_iinc dX6_makeRow_49 rfl (zI_inc _) (by decide) (by simp only [sl, sl2, rm, Value.category, reduceIte, Nat.reduceAdd, Nat.reduceEqDiff, reduceCtorEq]; rfl) ?_
      refine s_goto (tgt := 8) dX6_makeRow_52 (by decide) ?_
      first
      | (have hb : tbit t (mk6 g m (AL.getD i 0) 6) = false := by
           cases h : tbit t (mk6 g m (AL.getD i 0) 6) with
           | false => rfl
           | true => exact absurd ((tb_cmp t (by omega)).mpr h) c33
         refine ih (i + 1) I (by omega) hA ?_ hq
         rw [hts, List.filter_append, List.filter_cons_of_neg (by rw [hb]; decide), List.filter_nil, List.append_nil]
         exact hR)
      | (have hcc : zI ((AL.getD i 0)) = zI (AL.getD i 0) := rfl
         have hrng := (RowIs.rng hA.1) i (by omega)
         rw [zI_t hrng.1 hrng.2] at hR1
         have hR2 := RowL.snoc hR1
         refine ih (i + 1) I1 (by omega) (hA.fr (hf1 166 (by simp; omega)) (hf1 167 (by simp; omega)) (hf1 168 (by simp; omega))) ?_ (fun I' hf hR' => hq I' (fr_trans hf1 hf) hR')
         rw [hts, List.filter_append, List.filter_cons_of_pos (p := fun v => tbit t (mk6 g m v 6)) hb, List.filter_nil]
         exact hR2)
set_option maxRecDepth 100000 in
set_option maxHeartbeats 4000000 in
theorem c_mkRow {G : fG} {x0 : Nat} {l : Launch} {d k n : Nat} {T : fT} {I : fI} {J : fJ} {Q : Option Value → fT → fI → fJ → Prop} {g : Nat → Nat → Int} {m : Nat → Nat} {AL : List Int} {r : Nat} {t : Int64} (hJ : JoinAt T) (hr : RowAt T r 1200) (hrr : r = 164 ∨ r = 169 ∨ r = 171) (hA : AllIs T I g m AL) (hq : ∀ I', fr I I' [r, r + 1] → RowL T I' r 1200 (rowT g m AL t) → Q none T I' J) :
    PW G x0 l mX6_makeRow (d + 1) (ZM G x0 Q) k n 0 [(0, .ref (x0 + 162)), (1, .long t), (3, .ref (x0 + r))] [] T I J := by
  obtain ⟨y1, y2, y3, y4, y5, y6, y7⟩ := id hr
  refine s_aload_n (i := 3) dX6_makeRow_0 rfl rfl ?_
  refine s_iconst (v := 0) dX6_makeRow_1 (by decide) ?_
  refine s_putI dX6_makeRow_2 fp_X6_55 (by assumption) (by assumption) ?_
  refine s_iconst (v := 0) dX6_makeRow_5 (by decide) ?_
  refine s_istore dX6_makeRow_6 (by decide) (by simp only [sl, sl2, rm, Value.category, reduceIte, Nat.reduceAdd, Nat.reduceEqDiff, reduceCtorEq]; rfl) ?_
  exact l_mkRow hJ hr hrr AL.length 0 _ (by omega) (hA.fr (iu_ne (by omega)) (iu_ne (by omega)) (iu_ne (by omega))) ⟨hr, by simp, by rw [iu_at]; rfl, fun q hq => absurd hq (by simp)⟩ (fun I' hf hR' => hq I' (fr_trans (fr_iu (by simp)) hf) hR')
def jop (c : Int) (a b : Int64) : Int64 := if c = 124 then a ||| b else if c = 45 then a &&& (b ^^^ -1) else if c = 94 then a ^^^ b else a &&& b
def lfn (L : List Int) : Nat → Int := fun q => L.getD q 0
/-- how many indices a sign probes -/
def jpr (g : Nat → Nat → Int) (m : Nat → Nat) (AL : List Int) (c : Int) (a b : Int64) : Int := if c = 124 then 0 else if c = 45 then 0 else if c = 94 then 0 else ((gint (lfn (rowT g m AL a)) (rowT g m AL a).length (lfn (rowT g m AL b)) (rowT g m AL b).length ((rowT g m AL a).length + (rowT g m AL b).length) 0 0).2 : Int)
abbrev joinS : List Nat := [163, 169, 170, 171, 172]
set_option maxRecDepth 100000 in
set_option maxHeartbeats 4000000 in
theorem c_join {G : fG} {x0 : Nat} {l : Launch} {d k n : Nat} {T : fT} {I : fI} {J : fJ} {Q : Option Value → fT → fI → fJ → Prop} {g : Nat → Nat → Int} {m : Nat → Nat} {AL : List Int} {a b : Int64} {x : Int32} {pr : Int} (hJ : JoinAt T) (hA : AllIs T I g m AL) (hp : I 163 1 = zI pr) (hq : ∀ I', fr I I' joinS → I' 163 1 = zI (pr + jpr g m AL x.toInt a b) → Q (some (.long (jop x.toInt a b))) T I' J) :
    PW G x0 l mX6_join (d + 4) (ZM G x0 Q) k n 0 [(0, .ref (x0 + 162)), (1, .int x), (2, .long a), (4, .long b)] [] T I J := by
  obtain ⟨j1, j2, j3, j4, j5, j6, j7, j8, j9, j10, j11, j12, j13, j14, j15, j16, j17, j18, j19, j20, j21⟩ := id hJ
  have e162 : (162 : Nat) < T.1 := by omega
  have e163 : (163 : Nat) < T.1 := by omega
  have e164 : (164 : Nat) < T.1 := by omega
  have e166 : (166 : Nat) < T.1 := by omega
  have e168 : (168 : Nat) < T.1 := by omega
  have e169 : (169 : Nat) < T.1 := by omega
  have e171 : (171 : Nat) < T.1 := by omega
  have e173 : (173 : Nat) < T.1 := by omega
  have k163 : T.2.1 163 = 4 := j11.2
  have k164 : T.2.1 164 = 9 := j12.2.2.1
  have k166 : T.2.1 166 = 9 := j13.2.2.1
  have k169 : T.2.1 169 = 9 := j14.2.2.1
  have k171 : T.2.1 171 = 9 := j15.2.2.1
  refine s_iload_n (i := 1) dX6_join_0 rfl rfl ?_
  rcases (show x.toInt = 45 ∨ x.toInt = 94 ∨ x.toInt = 124 ∨ (¬ x.toInt = 45 ∧ ¬ x.toInt = 94 ∧ ¬ x.toInt = 124) by omega) with h1 | h1 | h1 | h1
  · refine s_look (off := 40) (tgt := 41) dX6_join_1 (by decide) (by rw [h1]; rfl) (by decide) ?_
    refine s_lload_n (i := 2) dX6_join_41 rfl rfl ?_
    refine s_lload dX6_join_42 rfl ?_
    refine s_ldc2 dX6_join_44 wK_X6_73 ?_
    refine s_lxor dX6_join_47 ?_
    refine s_land dX6_join_48 ?_
    refine s_lret dX6_join_49 rfl ?_
    exact hq I (fr_refl I _) (by unfold jpr; rw [if_neg (by omega), if_pos h1, hp]; simp) |> fun z => by unfold jop at z; rw [if_neg (by omega), if_pos h1] at z; exact z
  · refine s_look (off := 49) (tgt := 50) dX6_join_1 (by decide) (by rw [h1]; rfl) (by decide) ?_
    refine s_lload_n (i := 2) dX6_join_50 rfl rfl ?_
    refine s_lload dX6_join_51 rfl ?_
    refine s_lxor dX6_join_53 ?_
    refine s_lret dX6_join_54 rfl ?_
    exact hq I (fr_refl I _) (by unfold jpr; rw [if_neg (by omega), if_neg (by omega), if_pos h1, hp]; simp) |> fun z => by unfold jop at z; rw [if_neg (by omega), if_neg (by omega), if_pos h1] at z; exact z
  · refine s_look (off := 35) (tgt := 36) dX6_join_1 (by decide) (by rw [h1]; rfl) (by decide) ?_
    refine s_lload_n (i := 2) dX6_join_36 rfl rfl ?_
    refine s_lload dX6_join_37 rfl ?_
    refine s_lor dX6_join_39 ?_
    refine s_lret dX6_join_40 rfl ?_
    exact hq I (fr_refl I _) (by unfold jpr; rw [if_pos h1, hp]; simp) |> fun z => by unfold jop at z; rw [if_pos h1] at z; exact z
  · refine s_look (off := 54) (tgt := 55) dX6_join_1 (by decide) (by rw [Op.lookupswitch.offset_cons, if_neg (by omega)]; rw [Op.lookupswitch.offset_cons, if_neg (by omega)]; rw [Op.lookupswitch.offset_cons, if_neg (by omega)]; rfl) (by decide) ?_
    refine s_aload_n (i := 0) dX6_join_55 rfl rfl ?_
    refine s_lload_n (i := 2) dX6_join_56 rfl rfl ?_
    refine s_aload_n (i := 0) dX6_join_57 rfl rfl ?_
    refine s_getR dX6_join_58 fl_X6_34 (by assumption) (by assumption) (by assumption) ?_
    refine s_cV_JR (My := mX6_makeRow) dX6_join_61 wM_X6_69 cb_yX6_makeRow ci_yX6_makeRow (by assumption) (by assumption) (Nat.le_of_ble_eq_true rfl) (by decide) (s_d (by omega) (c_mkRow (d := 0) hJ j14 (by omega) hA (fun I1 hf1 hR1 => ?_)))
    have hA1 : AllIs T I1 g m AL := hA.fr (hf1 166 (by simp)) (hf1 167 (by simp)) (hf1 168 (by simp))
    refine s_aload_n (i := 0) dX6_join_64 rfl rfl ?_
    refine s_lload dX6_join_65 rfl ?_
    refine s_aload_n (i := 0) dX6_join_67 rfl rfl ?_
    refine s_getR dX6_join_68 fl_X6_37 (by assumption) (by assumption) (by assumption) ?_
    refine s_cV_JR (My := mX6_makeRow) dX6_join_71 wM_X6_69 cb_yX6_makeRow ci_yX6_makeRow (by assumption) (by assumption) (Nat.le_of_ble_eq_true rfl) (by decide) (s_d (by omega) (c_mkRow (d := 0) hJ j15 (by omega) hA1 (fun I2 hf2 hR2 => ?_)))
    have hR1b : RowL T I2 169 1200 (rowT g m AL a) := RowL.fr hR1 (hf2 169 (by simp)) (hf2 170 (by simp))
    have hp2 : I2 163 1 = zI pr := by rw [hf2 163 (by simp), hf1 163 (by simp)]; exact hp
    refine s_aload_n (i := 0) dX6_join_74 rfl rfl ?_
    refine s_getR dX6_join_75 fl_X6_12 (by assumption) (by assumption) (by assumption) ?_
    refine s_aload_n (i := 0) dX6_join_78 rfl rfl ?_
    refine s_getR dX6_join_79 fl_X6_34 (by assumption) (by assumption) (by assumption) ?_
    refine s_aload_n (i := 0) dX6_join_82 rfl rfl ?_
    refine s_getR dX6_join_83 fl_X6_37 (by assumption) (by assumption) (by assumption) ?_
    refine s_cV_RR (My := mX4_intersect) dX6_join_86 wM_X6_75 cb_yX4_intersect ci_yX4_intersect (by assumption) (by assumption) (Nat.le_of_ble_eq_true rfl) (by decide) (c_intersect j11 (by omega) (by omega) hR1b hR2 hp2 (fun I3 hf3 u0 u1 => ?_))
    refine s_lload_n (i := 2) dX6_join_89 rfl rfl ?_
    refine s_lload dX6_join_90 rfl ?_
    refine s_land dX6_join_92 ?_
    refine s_lret dX6_join_93 rfl ?_
    have z := hq I3 (fr_trans (fr_trans (fr_sub hf1 (fun b hb => by simp at hb ⊢; omega)) (fr_sub hf2 (fun b hb => by simp at hb ⊢; omega))) (fr_sub hf3 (fun b hb => by simp at hb ⊢; omega))) (by unfold jpr; rw [if_neg (by omega), if_neg (by omega), if_neg (by omega), u1]; rfl)
    unfold jop at z
    rw [if_neg (by omega), if_neg (by omega), if_neg (by omega)] at z
    exact z
