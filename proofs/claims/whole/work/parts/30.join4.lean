/-- a step of carrying out: the tables (the latest last) and the probes -/
def jst (g : Nat → Nat → Int) (m : Nat → Nat) (AL : List Int) (s : List Int64 × Int) (c : Int) : List Int64 × Int :=
  if 65 ≤ c ∧ c < 71 then (s.1 ++ [fm_tab (c - 65).toNat], s.2)
  else if 1 < s.1.length then (s.1.take (s.1.length - 2) ++ [jop c (s.1.getD (s.1.length - 2) 0) (s.1.getD (s.1.length - 1) 0)], s.2 + jpr g m AL c (s.1.getD (s.1.length - 2) 0) (s.1.getD (s.1.length - 1) 0))
  else s
def JL (J : fJ) (TS : List Int64) : Prop := ∀ q, q < TS.length → J 173 q = TS.getD q 0
theorem JL.push {J : fJ} {TS : List Int64} {t : Int64} (h : JL J TS) : JL (ju J 173 TS.length t) (TS ++ [t]) := by
  intro q hq
  rw [List.length_append, List.length_singleton] at hq
  simp only [ju, if_true, List.getD_eq_getElem?_getD]
  by_cases hc : q = TS.length
  · subst hc
    simp
  · rw [if_neg hc, List.getElem?_append_left (by omega)]
    have := h q (by omega)
    rw [List.getD_eq_getElem?_getD] at this
    exact this
theorem JL.take {J : fJ} {TS : List Int64} (h : JL J TS) (n : Nat) : JL J (TS.take n) := by
  intro q hq
  rw [List.length_take] at hq
  rw [h q (by omega)]
  simp only [List.getD_eq_getElem?_getD]
  rw [List.getElem?_take_of_lt (by omega)]
abbrev carS : List Nat := [163, 164, 165, 166, 167, 168, 169, 170, 171, 172, 174]
theorem jst_len (g : Nat → Nat → Int) (m : Nat → Nat) (AL : List Int) (s : List Int64 × Int) (c : Int) : (jst g m AL s c).1.length ≤ s.1.length + 1 ∧ (1 ≤ s.1.length → 1 ≤ (jst g m AL s c).1.length) := by
  unfold jst
  split
  · dsimp only; rw [List.length_append, List.length_singleton]; omega
  · split
    · dsimp only; rw [List.length_append, List.length_singleton, List.length_take]; omega
    · omega
set_option maxRecDepth 100000 in
set_option maxHeartbeats 4000000 in
theorem l_carry {G : fG} {x0 : Nat} {l : Launch} {d k n : Nat} {T : fT} {Q : Option Value → fT → fI → fJ → Prop} {g : Nat → Nat → Int} {m : Nat → Nat} {AL P : List Int} (hJ : JoinAt T) (hp116 : RowAt T 116 100) (hP : ∀ v, v ∈ P → 0 ≤ v ∧ v ≤ 127) : ∀ (z i : Nat) (TS : List Int64) (pr : Int) (I : fI) (J : fJ), i + z = P.length → TS.length ≤ i → (i = P.length → 1 ≤ TS.length) → (1 ≤ i → 1 ≤ TS.length) → (∀ c, P.head? = some c → 65 ≤ c ∧ c < 71) → RowL T I 116 100 P → AllIs T I g m AL → I 163 1 = zI pr → JL J TS → (hq : ∀ (I' : fI) (J' : fJ) (TS' : List Int64) (pr' : Int), (TS', pr') = (P.drop i).foldl (jst g m AL) (TS, pr) → fr I I' carS → I' 163 1 = zI pr' → (∀ b, b ≠ 173 → J' b = J b) → RowL T I' 164 1200 (rowT g m AL (TS'.getD 0 0)) → Q none T I' J') →
    PW G x0 l mX6_carryOut (d + 5) (ZM G x0 Q) k n 18 [(0, .ref (x0 + 162)), (1, .ref (x0 + 116)), (3, .int (zI TS.length)), (4, .int (zI i))] [] T I J := by
  obtain ⟨j1, j2, j3, j4, j5, j6, j7, j8, j9, j10, j11, j12, j13, j14, j15, j16, j17, j18, j19, j20, j21⟩ := id hJ
  have e162 : (162 : Nat) < T.1 := by omega
  have e163 : (163 : Nat) < T.1 := by omega
  have e116 : (116 : Nat) < T.1 := by omega
  have e173 : (173 : Nat) < T.1 := by omega
  have k163 : T.2.1 163 = 4 := j11.2
  have k116 : T.2.1 116 = 9 := hp116.2.2.1
  intro z
  induction z with
  | zero =>
    intro i TS pr I J hz hl hne hne2 hhd hR hA hp hJL hq
    have hlen := RowIs.sz hR
    have hP100 := hR.2.1
    refine s_iload dX6_carryOut_18 rfl ?_
    refine s_aload_n (i := 1) dX6_carryOut_20 rfl rfl ?_
    refine s_getI dX6_carryOut_21 fl_X6_55 (by assumption) (by assumption) ?_
    refine s_icmp_ge (tgt := 112) dX6_carryOut_24 (by decide) (fun h24 => ?_) (fun h24 => absurd (by rw [hlen, zI_le (by omega) (by omega) (by omega) (by omega)]; omega) h24)
    refine s_aload_n (i := 0) dX6_carryOut_112 rfl rfl ?_
    refine s_aload_n (i := 0) dX6_carryOut_113 rfl rfl ?_
    refine s_getR dX6_carryOut_114 fl_X6_40 (by assumption) (by assumption) (by assumption) ?_
    refine s_iconst (v := 0) dX6_carryOut_117 (by decide) ?_
    refine s_lald dX6_carryOut_118 (by assumption) (by assumption) (by rw [j19]; exact z_in (z := 0) (by omega) (by omega) (by omega)) ?_
    refine s_topl (y := TS.getD 0 0) (hJL 0 (by have := hne (by omega); omega)) ?_
    refine s_aload_n (i := 0) dX6_carryOut_119 rfl rfl ?_
    refine s_getR dX6_carryOut_120 fl_X6_23 (by assumption) (by assumption) (by assumption) ?_
    refine s_cV_JR (My := mX6_makeRow) dX6_carryOut_123 wM_X6_69 cb_yX6_makeRow ci_yX6_makeRow (by assumption) (by assumption) (Nat.le_of_ble_eq_true rfl) (by decide) (s_d (by omega) (c_mkRow (d := 0) (g := g) (m := m) hJ j12 (by omega) hA (fun I1 hf1 hR1 => ?_)))
    refine s_ret dX6_carryOut_126 rfl ?_
    refine hq I1 J TS pr (by rw [List.drop_of_length_le (by omega)]; rfl) (fr_sub hf1 (fun b hb => by simp at hb ⊢; omega)) (by rw [hf1 163 (by simp)]; exact hp) (fun _ _ => rfl) hR1
  | succ z ih =>
    intro i TS pr I J hz hl hne hne2 hhd hR hA hp hJL hq
    have hlen := RowIs.sz hR
    have hP100 := hR.2.1
    have hpb := hP (P.getD i 0) (getD_mem (by omega))
    have hdr : P.drop i = P.getD i 0 :: P.drop (i + 1) := by
      rw [List.drop_eq_getElem_cons (by omega), List.getD_eq_getElem?_getD, List.getElem?_eq_getElem (by omega)]
      rfl
    rw [hdr] at hq
    simp only [List.foldl_cons] at hq
    have hjl := jst_len g m AL (TS, pr) (P.getD i 0)
    have hfirst : i = 0 → 65 ≤ P.getD i 0 ∧ P.getD i 0 < 71 := by
      intro h0
      subst h0
      refine hhd _ ?_
      rw [List.getD_eq_getElem?_getD, List.head?_eq_getElem?, List.getElem?_eq_getElem (by omega)]
      rfl
    generalize hc : P.getD i 0 = c at hq hpb hjl hfirst
    have hJL2 : ∀ (TS2 : List Int64) (pr2 : Int), jst g m AL (TS, pr) c = (TS2, pr2) → 1 ≤ TS2.length := by
      intro TS2 pr2 e
      rw [e] at hjl
      rcases Nat.eq_zero_or_pos i with h0 | h0
      · have := hfirst h0
        unfold jst at e
        rw [if_pos this] at e
        have e2 : TS ++ [fm_tab (c - 65).toNat] = TS2 := congrArg Prod.fst e
        rw [← e2]
        simp
      · exact hjl.2 (hne2 h0)
    refine s_iload dX6_carryOut_18 rfl ?_
    refine s_aload_n (i := 1) dX6_carryOut_20 rfl rfl ?_
    refine s_getI dX6_carryOut_21 fl_X6_55 (by assumption) (by assumption) ?_
    refine s_icmp_ge (tgt := 112) dX6_carryOut_24 (by decide) (fun h24 => absurd h24 (by rw [hlen, zI_le (by omega) (by omega) (by omega) (by omega)]; omega)) (fun h24 => ?_)
    refine s_aload_n (i := 1) dX6_carryOut_27 rfl rfl ?_
    refine s_iload dX6_carryOut_28 rfl ?_
    refine s_cV_I (My := mX9_get) dX6_carryOut_30 wM_X6_58 cb_yX9_get ci_yX9_get (by assumption) (by assumption) (Nat.le_of_ble_eq_true rfl) (by decide) (c_getn hR (by omega) ?_)
    refine s_topi (y := zI c) (by rw [hc]) ?_
    refine s_istore dX6_carryOut_33 (by decide) (by simp only [sl, sl2, rm, Value.category, reduceIte, Nat.reduceAdd, Nat.reduceEqDiff, reduceCtorEq]; rfl) ?_
    refine s_iload dX6_carryOut_35 rfl ?_
    refine s_bipush (v := 65) dX6_carryOut_37 (by decide) ?_
    refine s_icmp_lt (tgt := 70) dX6_carryOut_39 (by decide) (fun c39 => ?_) (fun c39 => ?_)
    · have hno : ¬ (65 ≤ c ∧ c < 71) := by
        first
        | (have c39 : zI c < zI 65 := c39
           rw [zI_lt (by omega) (by omega) (by omega) (by omega)] at c39
           omega)
        | (have c46 : zI 71 ≤ zI c := c46
           rw [zI_le (by omega) (by omega) (by omega) (by omega)] at c46
           omega)
      refine s_iload_n (i := 3) dX6_carryOut_70 rfl rfl ?_
      refine s_iconst (v := 1) dX6_carryOut_71 (by decide) ?_
      refine s_icmp_le (tgt := 106) dX6_carryOut_72 (by decide) (fun c72 => ?_) (fun c72 => ?_)
      · refine s_iinc dX6_carryOut_106 rfl (zI_inc _) (by decide) (by simp only [sl, sl2, rm, Value.category, reduceIte, Nat.reduceAdd, Nat.reduceEqDiff, reduceCtorEq]; rfl) ?_
        refine s_goto (tgt := 18) dX6_carryOut_109 (by decide) ?_
        first
        | (have hst : jst g m AL (TS, pr) c = (TS ++ [fm_tab (c - 65).toNat], pr) := by
             unfold jst
             rw [if_pos (by omega)]
           have hll : (TS ++ [fm_tab (c - 65).toNat]).length = TS.length + 1 := by simp
           have hnT : (zI TS.length).toNatClampNeg = TS.length := by rw [zI_n (by omega) (by omega)]; simp
           have hn65 : (zI (c - 65)).toNatClampNeg = (c - 65).toNat := zI_n (by omega) (by omega)
           rw [hnT, hn65]
           rw [hst] at hq
           refine s_lv (lv' := [(0, .ref (x0 + 162)), (1, .ref (x0 + 116)), (3, .int (zI ((TS ++ [fm_tab (c - 65).toNat]).length : Int))), (4, .int (zI ((i + 1 : Nat) : Int)))]) ⟨rfl, rfl, by rw [hll]; rfl, rfl, trivial⟩ ?_
           exact ih (i + 1) _ pr I _ (by omega) (by rw [hll]; omega) (fun _ => by rw [hll]; omega) (fun _ => by rw [hll]; omega) hhd hR hA hp hJL.push (fun I' J' TS' pr' e hf u1 hj hR' => hq I' J' TS' pr' e hf u1 (fun b hb => (hj b hb).trans (ju_ne hb)) hR'))
        | (rw [hst] at hq
           have hl1 := hJL2 _ _ hst
           have hll : (TS.take (TS.length - 2) ++ [jop c (TS.getD (TS.length - 2) 0) (TS.getD (TS.length - 1) 0)]).length = TS.length - 1 := by rw [List.length_append, List.length_singleton, List.length_take]; omega
           rw [n2, ets]
           rw [ets] at u1
           refine s_lv (lv' := [(0, .ref (x0 + 162)), (1, .ref (x0 + 116)), (3, .int (zI ((TS.take (TS.length - 2) ++ [jop c (TS.getD (TS.length - 2) 0) (TS.getD (TS.length - 1) 0)]).length : Int))), (4, .int (zI ((i + 1 : Nat) : Int)))]) ⟨rfl, rfl, by rw [hll]; show some (Value.int (zI _)) = _; congr 3; omega, rfl, trivial⟩ ?_
           have hJ2 : JL (ju J 173 (TS.length - 2) (jop c (TS.getD (TS.length - 2) 0) (TS.getD (TS.length - 1) 0))) (TS.take (TS.length - 2) ++ [jop c (TS.getD (TS.length - 2) 0) (TS.getD (TS.length - 1) 0)]) := by
             have := (hJL.take (TS.length - 2)).push (t := jop c (TS.getD (TS.length - 2) 0) (TS.getD (TS.length - 1) 0))
             rw [List.length_take, show min (TS.length - 2) TS.length = TS.length - 2 by omega] at this
             exact this
           exact ih (i + 1) _ _ I1 _ (by omega) (by rw [hll]; omega) (fun _ => hl1) (fun _ => hl1) hhd (RowL.fr hR (hf1 116 (by simp)) (hf1 117 (by simp))) (hA.fr (hf1 166 (by simp)) (hf1 167 (by simp)) (hf1 168 (by simp))) u1 hJ2 (fun I' J' TS' pr' e hf u2 hj hR' => hq I' J' TS' pr' e (fr_trans (fr_sub hf1 (fun b hb => by simp at hb ⊢; omega)) hf) u2 (fun b hb => (hj b hb).trans (ju_ne hb)) hR'))
        | (rw [z1, zI_le (by omega) (by omega) (by omega) (by omega)] at c72
           have hst : jst g m AL (TS, pr) c = (TS, pr) := by
             unfold jst
             rw [if_neg hno, if_neg (show ¬ 1 < TS.length by omega)]
           rw [hst] at hq
           have hl1 := hJL2 _ _ hst
           refine s_lv (lv' := [(0, .ref (x0 + 162)), (1, .ref (x0 + 116)), (3, .int (zI TS.length)), (4, .int (zI ((i + 1 : Nat) : Int)))]) ⟨rfl, rfl, rfl, rfl, trivial⟩ ?_
           exact ih (i + 1) TS pr I J (by omega) (by omega) (fun _ => hl1) (fun _ => hl1) hhd hR hA hp hJL hq)
      · rw [z1, zI_le (by omega) (by omega) (by omega) (by omega)] at c72
        have hst : jst g m AL (TS, pr) c = (TS.take (TS.length - 2) ++ [jop c (TS.getD (TS.length - 2) 0) (TS.getD (TS.length - 1) 0)], pr + jpr g m AL c (TS.getD (TS.length - 2) 0) (TS.getD (TS.length - 1) 0)) := by
          unfold jst
          rw [if_neg hno, if_pos (show 1 < TS.length by omega)]
        have n1 : (zI ((TS.length : Int) - 1)).toNatClampNeg = TS.length - 1 := by rw [zI_n (by omega) (by omega)]; omega
        have n2 : (zI ((TS.length : Int) - 1 - 1)).toNatClampNeg = TS.length - 2 := by rw [zI_n (by omega) (by omega)]; omega
        have ets : (zI c).toInt = c := zI_t (by omega) (by omega)
        refine s_iinc dX6_carryOut_75 rfl (zI_dec _) (by decide) (by simp only [sl, sl2, rm, Value.category, reduceIte, Nat.reduceAdd, Nat.reduceEqDiff, reduceCtorEq]; rfl) ?_
        refine s_aload_n (i := 0) dX6_carryOut_78 rfl rfl ?_
        refine s_getR dX6_carryOut_79 fl_X6_40 (by assumption) (by assumption) (by assumption) ?_
        refine s_iload_n (i := 3) dX6_carryOut_82 rfl rfl ?_
        refine s_iconst (v := 1) dX6_carryOut_83 (by decide) ?_
        refine s_isub dX6_carryOut_84 ?_
        refine s_topi (y := zI ((TS.length : Int) - 1 - 1)) (by rw [z1, zI_sub]) ?_
        refine s_aload_n (i := 0) dX6_carryOut_85 rfl rfl ?_
        refine s_iload dX6_carryOut_86 rfl ?_
        refine s_aload_n (i := 0) dX6_carryOut_88 rfl rfl ?_
        refine s_getR dX6_carryOut_89 fl_X6_40 (by assumption) (by assumption) (by assumption) ?_
        refine s_iload_n (i := 3) dX6_carryOut_92 rfl rfl ?_
        refine s_iconst (v := 1) dX6_carryOut_93 (by decide) ?_
        refine s_isub dX6_carryOut_94 ?_
        refine s_topi (y := zI ((TS.length : Int) - 1 - 1)) (by rw [z1, zI_sub]) ?_
        refine s_lald dX6_carryOut_95 (by assumption) (by assumption) (by rw [j19]; exact z_in (by omega) (by omega) (by omega)) ?_
        refine s_topl (y := TS.getD (TS.length - 2) 0) (by rw [n2]; exact hJL _ (by omega)) ?_
        refine s_aload_n (i := 0) dX6_carryOut_96 rfl rfl ?_
        refine s_getR dX6_carryOut_97 fl_X6_40 (by assumption) (by assumption) (by assumption) ?_
        refine s_iload_n (i := 3) dX6_carryOut_100 rfl rfl ?_
        refine s_lald dX6_carryOut_101 (by assumption) (by assumption) (by rw [j19]; exact z_in (by omega) (by omega) (by omega)) ?_
        refine s_topl (y := TS.getD (TS.length - 1) 0) (by rw [n1]; exact hJL _ (by omega)) ?_
        refine s_cV_IJJ (My := mX6_join) dX6_carryOut_102 wM_X6_65 cb_yX6_join ci_yX6_join (by assumption) (by assumption) (Nat.le_of_ble_eq_true rfl) (by decide) (c_join (x := zI c) hJ hA hp (fun I1 hf1 u1 => ?_))
        refine s_last dX6_carryOut_105 (by assumption) (by assumption) (by rw [j19]; exact z_in (by omega) (by omega) (by omega)) ?_
        refine s_iinc dX6_carryOut_106 rfl (zI_inc _) (by decide) (by simp only [sl, sl2, rm, Value.category, reduceIte, Nat.reduceAdd, Nat.reduceEqDiff, reduceCtorEq]; rfl) ?_
        refine s_goto (tgt := 18) dX6_carryOut_109 (by decide) ?_
        first
        | (have hst : jst g m AL (TS, pr) c = (TS ++ [fm_tab (c - 65).toNat], pr) := by
             unfold jst
             rw [if_pos (by omega)]
           have hll : (TS ++ [fm_tab (c - 65).toNat]).length = TS.length + 1 := by simp
           have hnT : (zI TS.length).toNatClampNeg = TS.length := by rw [zI_n (by omega) (by omega)]; simp
           have hn65 : (zI (c - 65)).toNatClampNeg = (c - 65).toNat := zI_n (by omega) (by omega)
           rw [hnT, hn65]
           rw [hst] at hq
           refine s_lv (lv' := [(0, .ref (x0 + 162)), (1, .ref (x0 + 116)), (3, .int (zI ((TS ++ [fm_tab (c - 65).toNat]).length : Int))), (4, .int (zI ((i + 1 : Nat) : Int)))]) ⟨rfl, rfl, by rw [hll]; rfl, rfl, trivial⟩ ?_
           exact ih (i + 1) _ pr I _ (by omega) (by rw [hll]; omega) (fun _ => by rw [hll]; omega) (fun _ => by rw [hll]; omega) hhd hR hA hp hJL.push (fun I' J' TS' pr' e hf u1 hj hR' => hq I' J' TS' pr' e hf u1 (fun b hb => (hj b hb).trans (ju_ne hb)) hR'))
        | (rw [hst] at hq
           have hl1 := hJL2 _ _ hst
           have hll : (TS.take (TS.length - 2) ++ [jop c (TS.getD (TS.length - 2) 0) (TS.getD (TS.length - 1) 0)]).length = TS.length - 1 := by rw [List.length_append, List.length_singleton, List.length_take]; omega
           rw [n2, ets]
           rw [ets] at u1
           refine s_lv (lv' := [(0, .ref (x0 + 162)), (1, .ref (x0 + 116)), (3, .int (zI ((TS.take (TS.length - 2) ++ [jop c (TS.getD (TS.length - 2) 0) (TS.getD (TS.length - 1) 0)]).length : Int))), (4, .int (zI ((i + 1 : Nat) : Int)))]) ⟨rfl, rfl, by rw [hll]; show some (Value.int (zI _)) = _; congr 3; omega, rfl, trivial⟩ ?_
           have hJ2 : JL (ju J 173 (TS.length - 2) (jop c (TS.getD (TS.length - 2) 0) (TS.getD (TS.length - 1) 0))) (TS.take (TS.length - 2) ++ [jop c (TS.getD (TS.length - 2) 0) (TS.getD (TS.length - 1) 0)]) := by
             have := (hJL.take (TS.length - 2)).push (t := jop c (TS.getD (TS.length - 2) 0) (TS.getD (TS.length - 1) 0))
             rw [List.length_take, show min (TS.length - 2) TS.length = TS.length - 2 by omega] at this
             exact this
           exact ih (i + 1) _ _ I1 _ (by omega) (by rw [hll]; omega) (fun _ => hl1) (fun _ => hl1) hhd (RowL.fr hR (hf1 116 (by simp)) (hf1 117 (by simp))) (hA.fr (hf1 166 (by simp)) (hf1 167 (by simp)) (hf1 168 (by simp))) u1 hJ2 (fun I' J' TS' pr' e hf u2 hj hR' => hq I' J' TS' pr' e (fr_trans (fr_sub hf1 (fun b hb => by simp at hb ⊢; omega)) hf) u2 (fun b hb => (hj b hb).trans (ju_ne hb)) hR'))
        | (rw [z1, zI_le (by omega) (by omega) (by omega) (by omega)] at c72
           have hst : jst g m AL (TS, pr) c = (TS, pr) := by
             unfold jst
             rw [if_neg hno, if_neg (show ¬ 1 < TS.length by omega)]
           rw [hst] at hq
           have hl1 := hJL2 _ _ hst
           refine s_lv (lv' := [(0, .ref (x0 + 162)), (1, .ref (x0 + 116)), (3, .int (zI TS.length)), (4, .int (zI ((i + 1 : Nat) : Int)))]) ⟨rfl, rfl, rfl, rfl, trivial⟩ ?_
           exact ih (i + 1) TS pr I J (by omega) (by omega) (fun _ => hl1) (fun _ => hl1) hhd hR hA hp hJL hq)
    · have c39 : ¬ zI c < zI 65 := c39
      rw [zI_lt (by omega) (by omega) (by omega) (by omega)] at c39
      refine s_iload dX6_carryOut_42 rfl ?_
      refine s_bipush (v := 71) dX6_carryOut_44 (by decide) ?_
      refine s_icmp_ge (tgt := 70) dX6_carryOut_46 (by decide) (fun c46 => ?_) (fun c46 => ?_)
      · have hno : ¬ (65 ≤ c ∧ c < 71) := by
          first
          | (have c39 : zI c < zI 65 := c39
             rw [zI_lt (by omega) (by omega) (by omega) (by omega)] at c39
             omega)
          | (have c46 : zI 71 ≤ zI c := c46
             rw [zI_le (by omega) (by omega) (by omega) (by omega)] at c46
             omega)
        refine s_iload_n (i := 3) dX6_carryOut_70 rfl rfl ?_
        refine s_iconst (v := 1) dX6_carryOut_71 (by decide) ?_
        refine s_icmp_le (tgt := 106) dX6_carryOut_72 (by decide) (fun c72 => ?_) (fun c72 => ?_)
        · refine s_iinc dX6_carryOut_106 rfl (zI_inc _) (by decide) (by simp only [sl, sl2, rm, Value.category, reduceIte, Nat.reduceAdd, Nat.reduceEqDiff, reduceCtorEq]; rfl) ?_
          refine s_goto (tgt := 18) dX6_carryOut_109 (by decide) ?_
          first
          | (have hst : jst g m AL (TS, pr) c = (TS ++ [fm_tab (c - 65).toNat], pr) := by
               unfold jst
               rw [if_pos (by omega)]
             have hll : (TS ++ [fm_tab (c - 65).toNat]).length = TS.length + 1 := by simp
             have hnT : (zI TS.length).toNatClampNeg = TS.length := by rw [zI_n (by omega) (by omega)]; simp
             have hn65 : (zI (c - 65)).toNatClampNeg = (c - 65).toNat := zI_n (by omega) (by omega)
             rw [hnT, hn65]
             rw [hst] at hq
             refine s_lv (lv' := [(0, .ref (x0 + 162)), (1, .ref (x0 + 116)), (3, .int (zI ((TS ++ [fm_tab (c - 65).toNat]).length : Int))), (4, .int (zI ((i + 1 : Nat) : Int)))]) ⟨rfl, rfl, by rw [hll]; rfl, rfl, trivial⟩ ?_
             exact ih (i + 1) _ pr I _ (by omega) (by rw [hll]; omega) (fun _ => by rw [hll]; omega) (fun _ => by rw [hll]; omega) hhd hR hA hp hJL.push (fun I' J' TS' pr' e hf u1 hj hR' => hq I' J' TS' pr' e hf u1 (fun b hb => (hj b hb).trans (ju_ne hb)) hR'))
          | (rw [hst] at hq
             have hl1 := hJL2 _ _ hst
             have hll : (TS.take (TS.length - 2) ++ [jop c (TS.getD (TS.length - 2) 0) (TS.getD (TS.length - 1) 0)]).length = TS.length - 1 := by rw [List.length_append, List.length_singleton, List.length_take]; omega
             rw [n2, ets]
             rw [ets] at u1
             refine s_lv (lv' := [(0, .ref (x0 + 162)), (1, .ref (x0 + 116)), (3, .int (zI ((TS.take (TS.length - 2) ++ [jop c (TS.getD (TS.length - 2) 0) (TS.getD (TS.length - 1) 0)]).length : Int))), (4, .int (zI ((i + 1 : Nat) : Int)))]) ⟨rfl, rfl, by rw [hll]; show some (Value.int (zI _)) = _; congr 3; omega, rfl, trivial⟩ ?_
             have hJ2 : JL (ju J 173 (TS.length - 2) (jop c (TS.getD (TS.length - 2) 0) (TS.getD (TS.length - 1) 0))) (TS.take (TS.length - 2) ++ [jop c (TS.getD (TS.length - 2) 0) (TS.getD (TS.length - 1) 0)]) := by
               have := (hJL.take (TS.length - 2)).push (t := jop c (TS.getD (TS.length - 2) 0) (TS.getD (TS.length - 1) 0))
               rw [List.length_take, show min (TS.length - 2) TS.length = TS.length - 2 by omega] at this
               exact this
             exact ih (i + 1) _ _ I1 _ (by omega) (by rw [hll]; omega) (fun _ => hl1) (fun _ => hl1) hhd (RowL.fr hR (hf1 116 (by simp)) (hf1 117 (by simp))) (hA.fr (hf1 166 (by simp)) (hf1 167 (by simp)) (hf1 168 (by simp))) u1 hJ2 (fun I' J' TS' pr' e hf u2 hj hR' => hq I' J' TS' pr' e (fr_trans (fr_sub hf1 (fun b hb => by simp at hb ⊢; omega)) hf) u2 (fun b hb => (hj b hb).trans (ju_ne hb)) hR'))
          | (rw [z1, zI_le (by omega) (by omega) (by omega) (by omega)] at c72
             have hst : jst g m AL (TS, pr) c = (TS, pr) := by
               unfold jst
               rw [if_neg hno, if_neg (show ¬ 1 < TS.length by omega)]
             rw [hst] at hq
             have hl1 := hJL2 _ _ hst
             refine s_lv (lv' := [(0, .ref (x0 + 162)), (1, .ref (x0 + 116)), (3, .int (zI TS.length)), (4, .int (zI ((i + 1 : Nat) : Int)))]) ⟨rfl, rfl, rfl, rfl, trivial⟩ ?_
             exact ih (i + 1) TS pr I J (by omega) (by omega) (fun _ => hl1) (fun _ => hl1) hhd hR hA hp hJL hq)
        · rw [z1, zI_le (by omega) (by omega) (by omega) (by omega)] at c72
          have hst : jst g m AL (TS, pr) c = (TS.take (TS.length - 2) ++ [jop c (TS.getD (TS.length - 2) 0) (TS.getD (TS.length - 1) 0)], pr + jpr g m AL c (TS.getD (TS.length - 2) 0) (TS.getD (TS.length - 1) 0)) := by
            unfold jst
            rw [if_neg hno, if_pos (show 1 < TS.length by omega)]
          have n1 : (zI ((TS.length : Int) - 1)).toNatClampNeg = TS.length - 1 := by rw [zI_n (by omega) (by omega)]; omega
          have n2 : (zI ((TS.length : Int) - 1 - 1)).toNatClampNeg = TS.length - 2 := by rw [zI_n (by omega) (by omega)]; omega
          have ets : (zI c).toInt = c := zI_t (by omega) (by omega)
          refine s_iinc dX6_carryOut_75 rfl (zI_dec _) (by decide) (by simp only [sl, sl2, rm, Value.category, reduceIte, Nat.reduceAdd, Nat.reduceEqDiff, reduceCtorEq]; rfl) ?_
          refine s_aload_n (i := 0) dX6_carryOut_78 rfl rfl ?_
          refine s_getR dX6_carryOut_79 fl_X6_40 (by assumption) (by assumption) (by assumption) ?_
          refine s_iload_n (i := 3) dX6_carryOut_82 rfl rfl ?_
          refine s_iconst (v := 1) dX6_carryOut_83 (by decide) ?_
          refine s_isub dX6_carryOut_84 ?_
          refine s_topi (y := zI ((TS.length : Int) - 1 - 1)) (by rw [z1, zI_sub]) ?_
          refine s_aload_n (i := 0) dX6_carryOut_85 rfl rfl ?_
          refine s_iload dX6_carryOut_86 rfl ?_
          refine s_aload_n (i := 0) dX6_carryOut_88 rfl rfl ?_
          refine s_getR dX6_carryOut_89 fl_X6_40 (by assumption) (by assumption) (by assumption) ?_
          refine s_iload_n (i := 3) dX6_carryOut_92 rfl rfl ?_
          refine s_iconst (v := 1) dX6_carryOut_93 (by decide) ?_
          refine s_isub dX6_carryOut_94 ?_
          refine s_topi (y := zI ((TS.length : Int) - 1 - 1)) (by rw [z1, zI_sub]) ?_
          refine s_lald dX6_carryOut_95 (by assumption) (by assumption) (by rw [j19]; exact z_in (by omega) (by omega) (by omega)) ?_
          refine s_topl (y := TS.getD (TS.length - 2) 0) (by rw [n2]; exact hJL _ (by omega)) ?_
          refine s_aload_n (i := 0) dX6_carryOut_96 rfl rfl ?_
          refine s_getR dX6_carryOut_97 fl_X6_40 (by assumption) (by assumption) (by assumption) ?_
          refine s_iload_n (i := 3) dX6_carryOut_100 rfl rfl ?_
          refine s_lald dX6_carryOut_101 (by assumption) (by assumption) (by rw [j19]; exact z_in (by omega) (by omega) (by omega)) ?_
          refine s_topl (y := TS.getD (TS.length - 1) 0) (by rw [n1]; exact hJL _ (by omega)) ?_
          refine s_cV_IJJ (My := mX6_join) dX6_carryOut_102 wM_X6_65 cb_yX6_join ci_yX6_join (by assumption) (by assumption) (Nat.le_of_ble_eq_true rfl) (by decide) (c_join (x := zI c) hJ hA hp (fun I1 hf1 u1 => ?_))
          refine s_last dX6_carryOut_105 (by assumption) (by assumption) (by rw [j19]; exact z_in (by omega) (by omega) (by omega)) ?_
          refine s_iinc dX6_carryOut_106 rfl (zI_inc _) (by decide) (by simp only [sl, sl2, rm, Value.category, reduceIte, Nat.reduceAdd, Nat.reduceEqDiff, reduceCtorEq]; rfl) ?_
          refine s_goto (tgt := 18) dX6_carryOut_109 (by decide) ?_
          first
          | (have hst : jst g m AL (TS, pr) c = (TS ++ [fm_tab (c - 65).toNat], pr) := by
               unfold jst
               rw [if_pos (by omega)]
             have hll : (TS ++ [fm_tab (c - 65).toNat]).length = TS.length + 1 := by simp
             have hnT : (zI TS.length).toNatClampNeg = TS.length := by rw [zI_n (by omega) (by omega)]; simp
             have hn65 : (zI (c - 65)).toNatClampNeg = (c - 65).toNat := zI_n (by omega) (by omega)
             rw [hnT, hn65]
             rw [hst] at hq
             refine s_lv (lv' := [(0, .ref (x0 + 162)), (1, .ref (x0 + 116)), (3, .int (zI ((TS ++ [fm_tab (c - 65).toNat]).length : Int))), (4, .int (zI ((i + 1 : Nat) : Int)))]) ⟨rfl, rfl, by rw [hll]; rfl, rfl, trivial⟩ ?_
             exact ih (i + 1) _ pr I _ (by omega) (by rw [hll]; omega) (fun _ => by rw [hll]; omega) (fun _ => by rw [hll]; omega) hhd hR hA hp hJL.push (fun I' J' TS' pr' e hf u1 hj hR' => hq I' J' TS' pr' e hf u1 (fun b hb => (hj b hb).trans (ju_ne hb)) hR'))
          | (rw [hst] at hq
             have hl1 := hJL2 _ _ hst
             have hll : (TS.take (TS.length - 2) ++ [jop c (TS.getD (TS.length - 2) 0) (TS.getD (TS.length - 1) 0)]).length = TS.length - 1 := by rw [List.length_append, List.length_singleton, List.length_take]; omega
             rw [n2, ets]
             rw [ets] at u1
             refine s_lv (lv' := [(0, .ref (x0 + 162)), (1, .ref (x0 + 116)), (3, .int (zI ((TS.take (TS.length - 2) ++ [jop c (TS.getD (TS.length - 2) 0) (TS.getD (TS.length - 1) 0)]).length : Int))), (4, .int (zI ((i + 1 : Nat) : Int)))]) ⟨rfl, rfl, by rw [hll]; show some (Value.int (zI _)) = _; congr 3; omega, rfl, trivial⟩ ?_
             have hJ2 : JL (ju J 173 (TS.length - 2) (jop c (TS.getD (TS.length - 2) 0) (TS.getD (TS.length - 1) 0))) (TS.take (TS.length - 2) ++ [jop c (TS.getD (TS.length - 2) 0) (TS.getD (TS.length - 1) 0)]) := by
               have := (hJL.take (TS.length - 2)).push (t := jop c (TS.getD (TS.length - 2) 0) (TS.getD (TS.length - 1) 0))
               rw [List.length_take, show min (TS.length - 2) TS.length = TS.length - 2 by omega] at this
               exact this
             exact ih (i + 1) _ _ I1 _ (by omega) (by rw [hll]; omega) (fun _ => hl1) (fun _ => hl1) hhd (RowL.fr hR (hf1 116 (by simp)) (hf1 117 (by simp))) (hA.fr (hf1 166 (by simp)) (hf1 167 (by simp)) (hf1 168 (by simp))) u1 hJ2 (fun I' J' TS' pr' e hf u2 hj hR' => hq I' J' TS' pr' e (fr_trans (fr_sub hf1 (fun b hb => by simp at hb ⊢; omega)) hf) u2 (fun b hb => (hj b hb).trans (ju_ne hb)) hR'))
          | (rw [z1, zI_le (by omega) (by omega) (by omega) (by omega)] at c72
             have hst : jst g m AL (TS, pr) c = (TS, pr) := by
               unfold jst
               rw [if_neg hno, if_neg (show ¬ 1 < TS.length by omega)]
             rw [hst] at hq
             have hl1 := hJL2 _ _ hst
             refine s_lv (lv' := [(0, .ref (x0 + 162)), (1, .ref (x0 + 116)), (3, .int (zI TS.length)), (4, .int (zI ((i + 1 : Nat) : Int)))]) ⟨rfl, rfl, rfl, rfl, trivial⟩ ?_
             exact ih (i + 1) TS pr I J (by omega) (by omega) (fun _ => hl1) (fun _ => hl1) hhd hR hA hp hJL hq)
      · have c46 : ¬ zI 71 ≤ zI c := c46
        rw [zI_le (by omega) (by omega) (by omega) (by omega)] at c46
        refine s_aload_n (i := 0) dX6_carryOut_49 rfl rfl ?_
        refine s_getR dX6_carryOut_50 fl_X6_40 (by assumption) (by assumption) (by assumption) ?_
        refine s_iload_n (i := 3) dX6_carryOut_53 rfl rfl ?_
        refine s_gets dX6_carryOut_54 wF_X6_62 ?_
        refine s_iload dX6_carryOut_57 rfl ?_
        refine s_bipush (v := 65) dX6_carryOut_59 (by decide) ?_
        refine s_isub dX6_carryOut_61 ?_
        refine s_topi (y := zI (c - 65)) (by show zI c - zI 65 = _; rw [zI_sub]) ?_
        refine s_tabld dX6_carryOut_62 (z_in (by omega) (by omega) (by omega)) ?_
        refine s_last dX6_carryOut_63 (by assumption) (by assumption) (by rw [j19]; exact z_in (by omega) (by omega) (by omega)) ?_
        refine s_iinc dX6_carryOut_64 rfl (zI_inc _) (by decide) (by simp only [sl, sl2, rm, Value.category, reduceIte, Nat.reduceAdd, Nat.reduceEqDiff, reduceCtorEq]; rfl) ?_
        refine s_goto (tgt := 106) dX6_carryOut_67 (by decide) ?_
        refine s_iinc dX6_carryOut_106 rfl (zI_inc _) (by decide) (by simp only [sl, sl2, rm, Value.category, reduceIte, Nat.reduceAdd, Nat.reduceEqDiff, reduceCtorEq]; rfl) ?_
        refine s_goto (tgt := 18) dX6_carryOut_109 (by decide) ?_
        first
        | (have hst : jst g m AL (TS, pr) c = (TS ++ [fm_tab (c - 65).toNat], pr) := by
             unfold jst
             rw [if_pos (by omega)]
           have hll : (TS ++ [fm_tab (c - 65).toNat]).length = TS.length + 1 := by simp
           have hnT : (zI TS.length).toNatClampNeg = TS.length := by rw [zI_n (by omega) (by omega)]; simp
           have hn65 : (zI (c - 65)).toNatClampNeg = (c - 65).toNat := zI_n (by omega) (by omega)
           rw [hnT, hn65]
           rw [hst] at hq
           refine s_lv (lv' := [(0, .ref (x0 + 162)), (1, .ref (x0 + 116)), (3, .int (zI ((TS ++ [fm_tab (c - 65).toNat]).length : Int))), (4, .int (zI ((i + 1 : Nat) : Int)))]) ⟨rfl, rfl, by rw [hll]; rfl, rfl, trivial⟩ ?_
           exact ih (i + 1) _ pr I _ (by omega) (by rw [hll]; omega) (fun _ => by rw [hll]; omega) (fun _ => by rw [hll]; omega) hhd hR hA hp hJL.push (fun I' J' TS' pr' e hf u1 hj hR' => hq I' J' TS' pr' e hf u1 (fun b hb => (hj b hb).trans (ju_ne hb)) hR'))
        | (rw [hst] at hq
           have hl1 := hJL2 _ _ hst
           have hll : (TS.take (TS.length - 2) ++ [jop c (TS.getD (TS.length - 2) 0) (TS.getD (TS.length - 1) 0)]).length = TS.length - 1 := by rw [List.length_append, List.length_singleton, List.length_take]; omega
           rw [n2, ets]
           rw [ets] at u1
           refine s_lv (lv' := [(0, .ref (x0 + 162)), (1, .ref (x0 + 116)), (3, .int (zI ((TS.take (TS.length - 2) ++ [jop c (TS.getD (TS.length - 2) 0) (TS.getD (TS.length - 1) 0)]).length : Int))), (4, .int (zI ((i + 1 : Nat) : Int)))]) ⟨rfl, rfl, by rw [hll]; show some (Value.int (zI _)) = _; congr 3; omega, rfl, trivial⟩ ?_
           have hJ2 : JL (ju J 173 (TS.length - 2) (jop c (TS.getD (TS.length - 2) 0) (TS.getD (TS.length - 1) 0))) (TS.take (TS.length - 2) ++ [jop c (TS.getD (TS.length - 2) 0) (TS.getD (TS.length - 1) 0)]) := by
             have := (hJL.take (TS.length - 2)).push (t := jop c (TS.getD (TS.length - 2) 0) (TS.getD (TS.length - 1) 0))
             rw [List.length_take, show min (TS.length - 2) TS.length = TS.length - 2 by omega] at this
             exact this
           exact ih (i + 1) _ _ I1 _ (by omega) (by rw [hll]; omega) (fun _ => hl1) (fun _ => hl1) hhd (RowL.fr hR (hf1 116 (by simp)) (hf1 117 (by simp))) (hA.fr (hf1 166 (by simp)) (hf1 167 (by simp)) (hf1 168 (by simp))) u1 hJ2 (fun I' J' TS' pr' e hf u2 hj hR' => hq I' J' TS' pr' e (fr_trans (fr_sub hf1 (fun b hb => by simp at hb ⊢; omega)) hf) u2 (fun b hb => (hj b hb).trans (ju_ne hb)) hR'))
        | (rw [z1, zI_le (by omega) (by omega) (by omega) (by omega)] at c72
           have hst : jst g m AL (TS, pr) c = (TS, pr) := by
             unfold jst
             rw [if_neg hno, if_neg (show ¬ 1 < TS.length by omega)]
           rw [hst] at hq
           have hl1 := hJL2 _ _ hst
           refine s_lv (lv' := [(0, .ref (x0 + 162)), (1, .ref (x0 + 116)), (3, .int (zI TS.length)), (4, .int (zI ((i + 1 : Nat) : Int)))]) ⟨rfl, rfl, rfl, rfl, trivial⟩ ?_
           exact ih (i + 1) TS pr I J (by omega) (by omega) (fun _ => hl1) (fun _ => hl1) hhd hR hA hp hJL hq)
set_option maxRecDepth 100000 in
set_option maxHeartbeats 4000000 in
theorem c_carry {G : fG} {x0 : Nat} {l : Launch} {d k n : Nat} {T : fT} {I : fI} {J : fJ} {Q : Option Value → fT → fI → fJ → Prop} {g : Nat → Nat → Int} {m : Nat → Nat} {P : List Int} (hJ : JoinAt T) (hL : ListsAt T) (hV : Val6 g m) (h6 : SixIs T I g m) (hR : RowL T I 116 100 P) (hP : ∀ v, v ∈ P → 0 ≤ v ∧ v ≤ 127) (hP0 : 0 < P.length) (hhd : ∀ c, P.head? = some c → 65 ≤ c ∧ c < 71) (hq : ∀ (I' : fI) (J' : fJ) (AL : List Int) (TS' : List Int64) (pr' : Int), AllOf g m AL → (TS', pr') = P.foldl (jst g m AL) ([], 0) → fr I I' carS → I' 163 1 = zI pr' → (∀ b, b ≠ 173 → J' b = J b) → RowL T I' 164 1200 (rowT g m AL (TS'.getD 0 0)) → Q none T I' J') :
    PW G x0 l mX6_carryOut (d + 5) (ZM G x0 Q) k n 0 [(0, .ref (x0 + 162)), (1, .ref (x0 + 116)), (2, .ref (x0 + 1))] [] T I J := by
  have hp116 : RowAt T 116 100 := hR.1
  obtain ⟨j1, j2, j3, j4, j5, j6, j7, j8, j9, j10, j11, j12, j13, j14, j15, j16, j17, j18, j19, j20, j21⟩ := id hJ
  have e162 : (162 : Nat) < T.1 := by omega
  have e163 : (163 : Nat) < T.1 := by omega
  have e116 : (116 : Nat) < T.1 := by omega
  have e173 : (173 : Nat) < T.1 := by omega
  have k163 : T.2.1 163 = 4 := j11.2
  have k116 : T.2.1 116 = 9 := hp116.2.2.1
  refine s_aload_n (i := 0) dX6_carryOut_0 rfl rfl ?_
  refine s_aload_n (i := 2) dX6_carryOut_1 rfl rfl ?_
  refine s_cV_R (My := mX6_gatherAll) dX6_carryOut_2 wM_X6_47 cb_yX6_gatherAll ci_yX6_gatherAll (by assumption) (by assumption) (Nat.le_of_ble_eq_true rfl) (by decide) (s_d (by omega) (c_gather (d := 0) hJ hL hV h6 (fun I1 AL hf1 hAl hR1 hs1 => ?_)))
  refine s_aload_n (i := 0) dX6_carryOut_5 rfl rfl ?_
  refine s_getR dX6_carryOut_6 fl_X6_12 (by assumption) (by assumption) (by assumption) ?_
  refine s_iconst (v := 0) dX6_carryOut_9 (by decide) ?_
  refine s_putI dX6_carryOut_10 fp_X6_51 (by assumption) (by assumption) ?_
  refine s_iconst (v := 0) dX6_carryOut_13 (by decide) ?_
  refine s_istore_n (i := 3) dX6_carryOut_14 rfl (by decide) (by simp only [sl, sl2, rm, Value.category, reduceIte, Nat.reduceAdd, Nat.reduceEqDiff, reduceCtorEq]; rfl) ?_
  refine s_iconst (v := 0) dX6_carryOut_15 (by decide) ?_
  refine s_istore dX6_carryOut_16 (by decide) (by simp only [sl, sl2, rm, Value.category, reduceIte, Nat.reduceAdd, Nat.reduceEqDiff, reduceCtorEq]; rfl) ?_
  refine s_lv (lv' := [(0, .ref (x0 + 162)), (1, .ref (x0 + 116)), (3, .int (zI (([] : List Int64).length : Int))), (4, .int (zI ((0 : Nat) : Int)))]) ⟨rfl, rfl, rfl, rfl, trivial⟩ ?_
  refine l_carry hJ hp116 hP P.length 0 [] 0 _ J (by omega) (by simp) (fun h => by omega) (fun h => by omega) hhd (RowL.fr hR ((iu_ne (by omega)).trans (hf1 116 (by simp))) ((iu_ne (by omega)).trans (hf1 117 (by simp)))) (AllIs.fr ⟨hR1, hs1⟩ (iu_ne (by omega)) (iu_ne (by omega)) (iu_ne (by omega))) iu_at (fun q hq => absurd hq (by simp)) (fun I' J' TS' pr' e hf u1 hj hR' => hq I' J' AL TS' pr' hAl (by rw [e]; rfl) (fr_trans (fr_trans (fr_sub hf1 (fun b hb => by simp at hb ⊢; omega)) (fr_iu (by simp))) hf) u1 hj hR')
