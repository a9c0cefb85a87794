/-- what a part leaves, if it has no fault -/
theorem partC_bd {tx : Nat → Int} {tl p c : Nat} {least : Int} (hp : p ≤ tl) (hc : c ≤ 200) (h : (partC tx tl p least c).1 = -1) : p < (partC tx tl p least c).2.1 ∧ (partC tx tl p least c).2.1 ≤ tl ∧ 0 ≤ (partC tx tl p least c).2.2.1 ∧ least ≤ (partC tx tl p least c).2.2.1 ∧ (partC tx tl p least c).2.2.1 ≤ (partC tx tl p least c).2.2.2 ∧ (partC tx tl p least c).2.2.2 < 1000000 ∧ (c : Int) + ((partC tx tl p least c).2.2.2 - (partC tx tl p least c).2.2.1 + 1) ≤ 200 := by
  have hr := rdn_bd tx tl 6 p 0 (by omega)
  have hr1 := hr.2.1 hp
  have hs := sk_ge tx tl (rdn tx tl 6 p 0).1
  have hs2 := hs.2 hr1
  revert h
  unfold partC
  split
  · intro h; exfalso; revert h; show ¬ (p : Int) = -1; omega
  · next h1 =>
    split
    · next h2 =>
      have hlt : sk tx tl (rdn tx tl 6 p 0).1 < tl := by
        rcases Nat.lt_or_ge (sk tx tl (rdn tx tl 6 p 0).1) tl with h | h
        · exact h
        · rw [chz_out h] at h2; omega
      have hs3 := sk_ge tx tl (sk tx tl (rdn tx tl 6 p 0).1 + 1)
      have hs4 := hs3.2 (by omega)
      have hz := rdn_bd tx tl 6 (sk tx tl (sk tx tl (rdn tx tl 6 p 0).1 + 1)) 0 (by omega)
      have hz1 := hz.2.1 hs4
      have hs5 := sk_ge tx tl (rdn tx tl 6 (sk tx tl (sk tx tl (rdn tx tl 6 p 0).1 + 1)) 0).1
      have hs6 := hs5.2 hz1
      split
      · intro h; exfalso; revert h; show ¬ ((sk tx tl (sk tx tl (rdn tx tl 6 p 0).1 + 1) : Nat) : Int) = -1; omega
      · split
        · intro h; exfalso; revert h; show ¬ ((rdn tx tl 6 (sk tx tl (sk tx tl (rdn tx tl 6 p 0).1 + 1)) 0).1 : Int) = -1; omega
        · intro _; dsimp only; omega
    · split
      · intro h; exfalso; revert h; show ¬ ((rdn tx tl 6 p 0).1 : Int) = -1; omega
      · intro _; dsimp only; omega
/-- the numbers of a text: the fault or -1, how many, which -/
def numsC (tx : Nat → Int) (tl : Nat) : Nat → Nat → Int → Nat → (Nat → Int) → Int × Nat × (Nat → Int)
  | 0, p, _, c, g => ((p : Int), c, g)
  | z + 1, p, least, c, g =>
    if (partC tx tl p least c).1 ≠ -1 then ((partC tx tl p least c).1, c, g)
    else if tl ≤ (partC tx tl p least c).2.1 then (-1, c + ((partC tx tl p least c).2.2.2 - (partC tx tl p least c).2.2.1 + 1).toNat, app g c (partC tx tl p least c).2.2.1)
    else if chz tx tl (partC tx tl p least c).2.1 ≠ 44 then (((partC tx tl p least c).2.1 : Int), c, g)
    else numsC tx tl z (sk tx tl ((partC tx tl p least c).2.1 + 1)) ((partC tx tl p least c).2.2.2 + 1) (c + ((partC tx tl p least c).2.2.2 - (partC tx tl p least c).2.2.1 + 1).toNat) (app g c (partC tx tl p least c).2.2.1)
def numsOf (tx : Nat → Int) (tl : Nat) : Int × Nat × (Nat → Int) := if tl ≤ sk tx tl 0 then (-1, 0, fun _ => 0) else numsC tx tl 100 (sk tx tl 0) 0 0 (fun _ => 0)
set_option maxRecDepth 100000 in
set_option maxHeartbeats 4000000 in
theorem l_nums {G : fG} {x0 : Nat} {l : Launch} {d k n : Nat} {T : fT} {J : fJ} {Q : Option Value → fT → fI → fJ → Prop} {tx : Nat → Int} {tl e1 : Nat} (hN : NrAt T) (hT : TxOk tx tl) : ∀ (z i p c : Nat) (least : Int) (g : Nat → Int) (I : fI), i + z = 100 → p ≤ tl → 0 ≤ least → least ≤ 1000000 → RowTx T I tx tl → RowIs T I 113 200 g c → I 112 2 = zI p → (hq : ∀ (I' : fI) (r : Int × Nat × (Nat → Int)), r = numsC tx tl z p least c g → fr I I' [112, 113, 114] → (r.1 = -1 → RowIs T I' 113 200 r.2.2 r.2.1) → Q (some (.int (zI r.1))) T I' J) →
    PW G x0 l mX7_read (d + 4) (ZM G x0 Q) k n 42 [(0, .ref (x0 + 112)), (1, .ref e1), (2, .int (zI least)), (3, .int (zI i))] [] T I J := by
  obtain ⟨n1, n2, n3, n4, n5, n6⟩ := id hN
  have e112 : (112 : Nat) < T.1 := by omega
  have e113 : (113 : Nat) < T.1 := by omega
  have e40 : (40 : Nat) < T.1 := by omega
  have k40 : T.2.1 40 = 9 := n6.2.2.1
  have k113 : T.2.1 113 = 9 := n5.2.2.1
  intro z
  induction z with
  | zero =>
    intro i p c least g I hz hp h0 hl hX hR h2 hq
    refine s_iload_n (i := 3) dX7_read_42 rfl rfl ?_
    refine s_bipush (v := 100) dX7_read_43 (by decide) ?_
    refine s_icmp_ge (tgt := 118) dX7_read_45 (by decide) (fun h45 => ?_) (fun h45 => absurd (by show zI 100 ≤ zI i; rw [zI_le (by omega) (by omega) (by omega) (by omega)]; omega) h45)
    refine s_aload_n (i := 0) dX7_read_118 rfl rfl ?_
    refine s_getI dX7_read_119 fl_X7_23 (by assumption) (by assumption) ?_
    refine s_iret dX7_read_122 rfl ?_
    rw [h2]
    exact hq I ((p : Int), c, g) rfl (fr_refl I _) (fun h => absurd h (by show ¬ (p : Int) = -1; omega))
  | succ z ih =>
    intro i p c least g I hz hp h0 hl hX hR h2 hq
    have hc := hR.2.1
    have ht := hX.2.1
    simp only [numsC] at hq
    have hbd := partC_bd (tx := tx) (least := least) hp hc
    have hbd2 : -1 ≤ (partC tx tl p least c).1 ∧ (partC tx tl p least c).1 ≤ 1000 := by
      have hr := rdn_bd tx tl 6 p 0 (by omega)
      have hr1 := hr.2.1 hp
      have hs2 := (sk_ge tx tl (rdn tx tl 6 p 0).1).2 hr1
      unfold partC
      split
      · dsimp only; omega
      · split
        · next h2 =>
          have hlt : sk tx tl (rdn tx tl 6 p 0).1 < tl := by
            rcases Nat.lt_or_ge (sk tx tl (rdn tx tl 6 p 0).1) tl with h | h
            · exact h
            · rw [chz_out h] at h2; omega
          have hs4 := (sk_ge tx tl (sk tx tl (rdn tx tl 6 p 0).1 + 1)).2 (by omega)
          have hz1 := (rdn_bd tx tl 6 (sk tx tl (sk tx tl (rdn tx tl 6 p 0).1 + 1)) 0 (by omega)).2.1 hs4
          split
          · dsimp only; omega
          · split <;> (dsimp only; omega)
        · split <;> (dsimp only; omega)
    generalize hr : partC tx tl p least c = r at hq hbd hbd2
    refine s_iload_n (i := 3) dX7_read_42 rfl rfl ?_
    refine s_bipush (v := 100) dX7_read_43 (by decide) ?_
    refine s_icmp_ge (tgt := 118) dX7_read_45 (by decide) (fun h45 => absurd h45 (by show ¬ zI 100 ≤ zI i; rw [zI_le (by omega) (by omega) (by omega) (by omega)]; omega)) (fun h45 => ?_)
    refine s_aload_n (i := 0) dX7_read_48 rfl rfl ?_
    refine s_iload_n (i := 2) dX7_read_49 rfl rfl ?_
    refine s_cV_I (My := mX7_readPart) dX7_read_50 wM_X7_33 cb_yX7_readPart ci_yX7_readPart (by assumption) (by assumption) (Nat.le_of_ble_eq_true rfl) (by decide) (c_readPart hN hT hp (by omega) hX hR h2 (fun I1 r1 hr1 hf1 hok => ?_))
    have hrr : r1 = r := by rw [hr1, hr]
    subst hrr
    have hX1 : RowTx T I1 tx tl := RowIs.fr hX (hf1 40 (by simp)) (hf1 41 (by simp))
    refine s_istore dX7_read_53 (by decide) (by simp only [sl, sl2, rm, Value.category, reduceIte, Nat.reduceAdd, Nat.reduceEqDiff, reduceCtorEq]; rfl) ?_
    refine s_iload dX7_read_55 rfl ?_
    refine s_iconst (v := -1) dX7_read_57 (by decide) ?_
    refine s_icmp_eq (tgt := 64) dX7_read_58 (by decide) (fun c58 => ?_) (fun c58 => ?_)
    · have c58' : r1.1 = -1 := by
        rw [zm1, zI_eq (by omega) (by omega) (by omega) (by omega)] at c58
        exact c58
      have hk := hok c58'
      have hb := hbd c58'
      rw [if_neg (show ¬ r1.1 ≠ -1 by omega)] at hq
      refine s_aload_n (i := 0) dX7_read_64 rfl rfl ?_
      refine s_getI dX7_read_65 fl_X7_23 (by assumption) (by assumption) ?_
      refine s_aload_n (i := 0) dX7_read_68 rfl rfl ?_
      refine s_getR dX7_read_69 fl_X7_20 (by assumption) (by assumption) (by assumption) ?_
      refine s_getI dX7_read_72 fl_X7_27 (by assumption) (by assumption) ?_
      refine s_icmp_lt (tgt := 80) dX7_read_75 (by decide) (fun c75 => ?_) (fun c75 => ?_)
      · rw [hk.1, hX1.sz, zI_lt (by omega) (by omega) (by omega) (by omega)] at c75
        rw [if_neg (show ¬ tl ≤ r1.2.1 by omega)] at hq
        have hcb := chz_bd (p := r1.2.1) hT
        refine s_aload_n (i := 0) dX7_read_80 rfl rfl ?_
        refine s_getR dX7_read_81 fl_X7_20 (by assumption) (by assumption) (by assumption) ?_
        refine s_aload_n (i := 0) dX7_read_84 rfl rfl ?_
        refine s_getI dX7_read_85 fl_X7_23 (by assumption) (by assumption) ?_
        refine s_topi hk.1 ?_
        refine s_cV_I (My := mX9_get) dX7_read_88 wM_X7_37 cb_yX9_get ci_yX9_get (by assumption) (by assumption) (Nat.le_of_ble_eq_true rfl) (by decide) (c_get n6 (by rw [hX1.2.2.1]; have := hX1.2.1; omega) (rget_ch hX1 (by omega)) ?_)
        refine s_bipush (v := 44) dX7_read_91 (by decide) ?_
        refine s_icmp_eq (tgt := 101) dX7_read_93 (by decide) (fun c93 => ?_) (fun c93 => ?_)
        · have c93 : zI (chz tx tl r1.2.1) = zI 44 := c93
          rw [zI_eq (by omega) (by omega) (by omega) (by omega)] at c93
          rw [if_neg (show ¬ chz tx tl r1.2.1 ≠ 44 by omega)] at hq
          refine s_aload_n (i := 0) dX7_read_101 rfl rfl ?_
          refine s_getI dX7_read_102 fl_X7_40 (by assumption) (by assumption) ?_
          refine s_iconst (v := 1) dX7_read_105 (by decide) ?_
          refine s_iadd dX7_read_106 ?_
          refine s_topi (y := zI (r1.2.2.2 + 1)) (by rw [hk.2.1, z1, zI_add]) ?_
          refine s_istore_n (i := 2) dX7_read_107 rfl (by decide) (by simp only [sl, sl2, rm, Value.category, reduceIte, Nat.reduceAdd, Nat.reduceEqDiff, reduceCtorEq]; rfl) ?_
          refine s_aload_n (i := 0) dX7_read_108 rfl rfl ?_
          refine s_cV_ (My := mX7_stepOver) dX7_read_109 wM_X7_43 cb_yX7_stepOver ci_yX7_stepOver (by assumption) (by assumption) (Nat.le_of_ble_eq_true rfl) (by decide) (s_d (by omega) (c_stepOver (d := 0) hN hT (by omega) hX1 hk.1 (fun I2 hf2 w2 w3 => ?_)))
          refine s_iinc dX7_read_112 rfl (zI_inc _) (by decide) (by simp only [sl, sl2, rm, Value.category, reduceIte, Nat.reduceAdd, Nat.reduceEqDiff, reduceCtorEq]; rfl) ?_
          refine s_goto (tgt := 42) dX7_read_115 (by decide) ?_
          have hs9 := (sk_ge tx tl (r1.2.1 + 1)).2 (by omega)
          refine s_lv (lv' := [(0, .ref (x0 + 112)), (1, .ref e1), (2, .int (zI (r1.2.2.2 + 1))), (3, .int (zI ((i + 1 : Nat) : Int)))]) ⟨rfl, rfl, rfl, rfl, trivial⟩ ?_
          exact ih (i + 1) (sk tx tl (r1.2.1 + 1)) _ (r1.2.2.2 + 1) _ I2 (by omega) hs9 (by omega) (by omega) (RowIs.fr hX1 (hf2 40 (by simp)) (hf2 41 (by simp))) (RowIs.fr hk.2.2 (hf2 113 (by simp)) (hf2 114 (by simp))) w2 (fun I' r2 hr2 hf hok2 => hq I' r2 hr2 (fr_trans hf1 (fr_trans (fr_sub hf2 (fun b hb => by simp at hb ⊢; omega)) hf)) hok2)
        · refine s_aload_n (i := 0) dX7_read_96 rfl rfl ?_
          refine s_getI dX7_read_97 fl_X7_23 (by assumption) (by assumption) ?_
          refine s_iret dX7_read_100 rfl ?_
          have c93 : ¬ zI (chz tx tl r1.2.1) = zI 44 := c93
          rw [zI_eq (by omega) (by omega) (by omega) (by omega)] at c93
          rw [if_pos (show chz tx tl r1.2.1 ≠ 44 by omega)] at hq
          rw [hk.1]
          exact hq I1 ((r1.2.1 : Int), c, g) rfl hf1 (fun h => absurd h (by show ¬ (r1.2.1 : Int) = -1; omega))
      · refine s_iconst (v := -1) dX7_read_78 (by decide) ?_
        refine s_iret dX7_read_79 rfl ?_
        rw [hk.1, hX1.sz, zI_lt (by omega) (by omega) (by omega) (by omega)] at c75
        rw [if_pos (show tl ≤ r1.2.1 by omega)] at hq
        exact hq I1 (-1, _, _) rfl hf1 (fun _ => hk.2.2)
    · refine s_iload dX7_read_61 rfl ?_
      refine s_iret dX7_read_63 rfl ?_
      have c58' : r1.1 ≠ -1 := fun h => c58 (by rw [h]; exact zm1.symm)
      rw [if_pos c58'] at hq
      exact hq I1 (r1.1, c, g) rfl hf1 (fun h => absurd h c58')
def NrAt0 (T : fT) : Prop := 115 ≤ T.1 ∧ T.2.1 112 = 7 ∧ T.2.2.2 112 0 = some 113 ∧ RowAt T 113 200 ∧ RowAt T 40 100
set_option maxRecDepth 100000 in
set_option maxHeartbeats 4000000 in
theorem c_read {G : fG} {x0 : Nat} {l : Launch} {d k n : Nat} {T : fT} {I : fI} {J : fJ} {Q : Option Value → fT → fI → fJ → Prop} {tx : Nat → Int} {tl : Nat} (hN0 : NrAt0 T) (hT : TxOk tx tl) (hX : RowTx T I tx tl) (hq : ∀ (T' : fT) (I' : fI) (r : Int × Nat × (Nat → Int)), r = numsOf tx tl → Tq T T' → fr I I' [112, 113, 114] → (r.1 = -1 → RowIs T' I' 113 200 r.2.2 r.2.1) → Q (some (.int (zI r.1))) T' I' J) : PW G x0 l mX7_read (d + 4) (ZM G x0 Q) k n 0 [(0, .ref (x0 + 112)), (1, .ref (x0 + 40))] [] T I J := by
  obtain ⟨n1, n2, n3, n5, n6⟩ := id hN0
  have e112 : (112 : Nat) < T.1 := by omega
  refine s_aload_n (i := 0) dX7_read_0 rfl rfl ?_
  refine s_aload_n (i := 1) dX7_read_1 rfl rfl ?_
  refine s_putR dX7_read_2 fp_X7_20 (Or.inl rfl) rfl rfl (by assumption) (by assumption) ?_
  have tq : Tq T (T.1, T.2.1, T.2.2.1, vu T.2.2.2 112 1 (some 40)) := ⟨rfl, rfl, rfl, fun a j q1 q2 => by
    simp only [vu]
    split
    · split
      · omega
      · rfl
    · rfl⟩
  have tr : ((T.1, T.2.1, T.2.2.1, vu T.2.2.2 112 1 (some 40)) : fT).2.2.2 112 1 = some 40 := by simp [vu]
  generalize ((T.1, T.2.1, T.2.2.1, vu T.2.2.2 112 1 (some 40)) : fT) = T1 at tq tr ⊢
  have hN : NrAt T1 := by
    obtain ⟨q1, q2, q3, q4⟩ := id tq
    exact ⟨by omega, by rw [q2]; exact n2, by rw [q4 _ _ (by omega) (by omega)]; exact n3, tr, n5.tq tq, n6.tq tq⟩
  have hX' : RowTx T1 I tx tl := RowIs.tq hX tq
  clear n1 n2 n3 n5 n6 e112
  obtain ⟨n1, n2, n3, n4, n5, n6⟩ := id hN
  have e112 : (112 : Nat) < T1.1 := by omega
  have e113 : (113 : Nat) < T1.1 := by omega
  have e40 : (40 : Nat) < T1.1 := by omega
  have k40 : T1.2.1 40 = 9 := n6.2.2.1
  have k113 : T1.2.1 113 = 9 := n5.2.2.1
  refine s_aload_n (i := 0) dX7_read_5 rfl rfl ?_
  refine s_iconst (v := 0) dX7_read_6 (by decide) ?_
  refine s_putI dX7_read_7 fp_X7_23 (by assumption) (by assumption) ?_
  refine s_aload_n (i := 0) dX7_read_10 rfl rfl ?_
  refine s_getR dX7_read_11 fl_X7_14 (by assumption) (by assumption) (by assumption) ?_
  refine s_iconst (v := 0) dX7_read_14 (by decide) ?_
  refine s_putI dX7_read_15 fp_X7_27 (by assumption) (by assumption) ?_
  have hX1 : RowTx T1 (iu (iu I 112 2 0) 113 1 0) tx tl := RowIs.fr hX' (by rw [iu_ne (by omega), iu_ne (by omega)]) (by rw [iu_ne (by omega), iu_ne (by omega)])
  have hR1 : RowIs T1 (iu (iu I 112 2 0) 113 1 0) 113 200 (fun _ => 0) 0 := ⟨n5, by omega, by rw [iu_at]; rfl, fun q hq => absurd hq (Nat.not_lt_zero q)⟩
  have hfr1 : fr I (iu (iu I 112 2 0) 113 1 0) [112, 113, 114] := fr_trans (fr_iu (by simp)) (fr_iu (by simp))
  refine s_aload_n (i := 0) dX7_read_18 rfl rfl ?_
  refine s_cV_ (My := mX7_skipBlanks) dX7_read_19 wM_X7_30 cb_yX7_skipBlanks ci_yX7_skipBlanks (by assumption) (by assumption) (Nat.le_of_ble_eq_true rfl) (by decide) (s_d (by omega) (c_skip (d := 0) (p := 0) hN hT (by omega) hX1 (by rw [iu_b (by omega), iu_at]; rfl) (fun I2 hf2 w2 w3 => ?_)))
  have hX2 : RowTx T1 I2 tx tl := RowIs.fr hX1 (hf2 40 (by simp)) (hf2 41 (by simp))
  have hR2 : RowIs T1 I2 113 200 (fun _ => 0) 0 := RowIs.fr hR1 (hf2 113 (by simp)) (hf2 114 (by simp))
  have hfr2 : fr I I2 [112, 113, 114] := fr_trans hfr1 (fr_sub hf2 (fun b hb => by simp at hb ⊢; omega))
  have hsk := (sk_ge tx tl 0).2 (by omega)
  have ht := hX.2.1
  refine s_aload_n (i := 0) dX7_read_22 rfl rfl ?_
  refine s_getI dX7_read_23 fl_X7_23 (by assumption) (by assumption) ?_
  refine s_aload_n (i := 0) dX7_read_26 rfl rfl ?_
  refine s_getR dX7_read_27 fl_X7_20 (by assumption) (by assumption) (by assumption) ?_
  refine s_getI dX7_read_30 fl_X7_27 (by assumption) (by assumption) ?_
  refine s_icmp_lt (tgt := 38) dX7_read_33 (by decide) (fun c33 => ?_) (fun c33 => ?_)
  · refine s_iconst (v := 0) dX7_read_38 (by decide) ?_
    refine s_istore_n (i := 2) dX7_read_39 rfl (by decide) (by simp only [sl, sl2, rm, Value.category, reduceIte, Nat.reduceAdd, Nat.reduceEqDiff, reduceCtorEq]; rfl) ?_
    refine s_iconst (v := 0) dX7_read_40 (by decide) ?_
    refine s_istore_n (i := 3) dX7_read_41 rfl (by decide) (by simp only [sl, sl2, rm, Value.category, reduceIte, Nat.reduceAdd, Nat.reduceEqDiff, reduceCtorEq]; rfl) ?_
    rw [w2, hX2.sz, zI_lt (by omega) (by omega) (by omega) (by omega)] at c33
    exact l_nums hN hT 100 0 (sk tx tl 0) 0 0 (fun _ => 0) I2 (by omega) hsk (by omega) (by omega) hX2 hR2 w2 (fun I' r hr hf hok => hq T1 I' r (by rw [hr]; unfold numsOf; rw [if_neg (by omega)]) tq (fr_trans hfr2 hf) hok)
  · refine s_iconst (v := -1) dX7_read_36 (by decide) ?_
    refine s_iret dX7_read_37 rfl ?_
    rw [w2, hX2.sz, zI_lt (by omega) (by omega) (by omega) (by omega)] at c33
    exact hq T1 I2 (-1, 0, fun _ => 0) (by unfold numsOf; rw [if_pos (by omega)]) tq hfr2 (fun _ => hR2)
