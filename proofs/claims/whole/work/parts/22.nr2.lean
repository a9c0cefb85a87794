/-- what is appended: the numbers from a on -/
def app (g : Nat → Int) (c : Nat) (a : Int) : Nat → Int := fun q => if q < c then g q else a + (q - c)
/-- a part of the numbers: the fault or -1, where it ends, its first and last number -/
def partC (tx : Nat → Int) (tl p : Nat) (least : Int) (c : Nat) : Int × Nat × Int × Int :=
  if (rdn tx tl 6 p 0).1 = p ∨ (rdn tx tl 6 p 0).2 < least then ((p : Int), 0, 0, 0)
  else if chz tx tl (sk tx tl (rdn tx tl 6 p 0).1) = 45 then
    (if (rdn tx tl 6 (sk tx tl (sk tx tl (rdn tx tl 6 p 0).1 + 1)) 0).1 = sk tx tl (sk tx tl (rdn tx tl 6 p 0).1 + 1) ∨ (rdn tx tl 6 (sk tx tl (sk tx tl (rdn tx tl 6 p 0).1 + 1)) 0).2 < (rdn tx tl 6 p 0).2 then ((sk tx tl (sk tx tl (rdn tx tl 6 p 0).1 + 1) : Int), 0, 0, 0)
     else if 200 - (c : Int) ≤ (rdn tx tl 6 (sk tx tl (sk tx tl (rdn tx tl 6 p 0).1 + 1)) 0).2 - (rdn tx tl 6 p 0).2 then (((rdn tx tl 6 (sk tx tl (sk tx tl (rdn tx tl 6 p 0).1 + 1)) 0).1 : Int), 0, 0, 0)
     else (-1, sk tx tl (rdn tx tl 6 (sk tx tl (sk tx tl (rdn tx tl 6 p 0).1 + 1)) 0).1, (rdn tx tl 6 p 0).2, (rdn tx tl 6 (sk tx tl (sk tx tl (rdn tx tl 6 p 0).1 + 1)) 0).2))
  else if 200 - (c : Int) ≤ (rdn tx tl 6 p 0).2 - (rdn tx tl 6 p 0).2 then (((rdn tx tl 6 p 0).1 : Int), 0, 0, 0)
  else (-1, sk tx tl (rdn tx tl 6 p 0).1, (rdn tx tl 6 p 0).2, (rdn tx tl 6 p 0).2)
set_option maxRecDepth 100000 in
set_option maxHeartbeats 4000000 in
theorem l_app {G : fG} {x0 : Nat} {l : Launch} {d k n : Nat} {T : fT} {J : fJ} {Q : Option Value → fT → fI → fJ → Prop} {a b bh : Int} {g0 : Nat → Int} {c0 : Nat} (hN : NrAt T) (ha : 0 ≤ a ∧ b ≤ 1000000 ∧ a ≤ b + 1) (hcb : (c0 : Int) + (b - a + 1) ≤ 200) : ∀ (z i : Nat) (I : fI), b + 1 - (a + i) ≤ z → a + i ≤ b + 1 → I 112 3 = zI b → RowIs T I 113 200 (app g0 c0 a) (c0 + i) → (hq : ∀ I', fr I I' [113, 114] → RowIs T I' 113 200 (app g0 c0 a) (c0 + (b - a + 1).toNat) → Q (some (.int (-1))) T I' J) → PW G x0 l mX7_readPart (d + 1) (ZM G x0 Q) k n 97 [(0, .ref (x0 + 112)), (3, .int (zI a)), (4, .int (zI bh)), (5, .int (zI (a + i)))] [] T I J := by
  obtain ⟨n1, n2, n3, n4, n5, n6⟩ := id hN
  have e112 : (112 : Nat) < T.1 := by omega
  have e113 : (113 : Nat) < T.1 := by omega
  have e40 : (40 : Nat) < T.1 := by omega
  have k40 : T.2.1 40 = 9 := n6.2.2.1
  have k113 : T.2.1 113 = 9 := n5.2.2.1
  intro z
  induction z with
  | zero =>
    intro i I hz hi h3 hR hq
    refine s_iload dX7_readPart_97 rfl ?_
    refine s_aload_n (i := 0) dX7_readPart_99 rfl rfl ?_
    refine s_getI dX7_readPart_100 fl_X7_40 (by assumption) (by assumption) ?_
    refine s_icmp_gt (tgt := 121) dX7_readPart_103 (by decide) (fun h103 => ?_) (fun h103 => absurd (by rw [h3, zI_lt (by omega) (by omega) (by omega) (by omega)]; omega) h103)
    refine s_iconst (v := -1) dX7_readPart_121 (by decide) ?_
    refine s_iret dX7_readPart_122 rfl ?_
    exact hq I (fr_refl I _) (by rw [show c0 + (b - a + 1).toNat = c0 + i by omega]; exact hR)
  | succ z ih =>
    intro i I hz hi h3 hR hq
    refine s_iload dX7_readPart_97 rfl ?_
    refine s_aload_n (i := 0) dX7_readPart_99 rfl rfl ?_
    refine s_getI dX7_readPart_100 fl_X7_40 (by assumption) (by assumption) ?_
    refine s_icmp_gt (tgt := 121) dX7_readPart_103 (by decide) (fun c103 => ?_) (fun c103 => ?_)
    · refine s_iconst (v := -1) dX7_readPart_121 (by decide) ?_
      refine s_iret dX7_readPart_122 rfl ?_
      rw [h3, zI_lt (by omega) (by omega) (by omega) (by omega)] at c103
      exact hq I (fr_refl I _) (by rw [show c0 + (b - a + 1).toNat = c0 + i by omega]; exact hR)
    · rw [h3, zI_lt (by omega) (by omega) (by omega) (by omega)] at c103
      refine s_aload_n (i := 0) dX7_readPart_106 rfl rfl ?_
      refine s_getR dX7_readPart_107 fl_X7_14 (by assumption) (by assumption) (by assumption) ?_
      refine s_iload dX7_readPart_110 rfl ?_
      refine s_cV_I (My := mX9_append) dX7_readPart_112 wM_X7_49 cb_yX9_append ci_yX9_append (by assumption) (by assumption) (Nat.le_of_ble_eq_true rfl) (by decide) (c_append hR (by omega) (fun I1 hf1 hR1 => ?_))
      refine s_iinc dX7_readPart_115 rfl (zI_inc _) (by decide) (by simp only [sl, sl2, rm, Value.category, reduceIte, Nat.reduceAdd, Nat.reduceEqDiff, reduceCtorEq]; rfl) ?_
      refine s_goto (tgt := 97) dX7_readPart_118 (by decide) ?_
      have hR2 : RowIs T I1 113 200 (app g0 c0 a) (c0 + (i + 1)) := hR1.cong (fun q hq => by
        try dsimp only
        by_cases h : q = c0 + i
        · rw [if_pos h, zI_t (by omega) (by omega)]
          unfold app
          rw [if_neg (by omega)]
          omega
        · rw [if_neg h])
      refine s_lv (lv' := [(0, .ref (x0 + 112)), (3, .int (zI a)), (4, .int (zI bh)), (5, .int (zI (a + ((i + 1 : Nat) : Int))))]) ⟨rfl, rfl, rfl, by show some (Value.int (zI _)) = _; congr 3; omega, trivial⟩ ?_
      exact ih (i + 1) I1 (by omega) (by omega) (by rw [hf1 112 (by simp)]; exact h3) hR2 (fun I' hf hR' => hq I' (fr_trans hf1 hf) hR')
set_option maxRecDepth 100000 in
set_option maxHeartbeats 4000000 in
theorem l_part71 {G : fG} {x0 : Nat} {l : Launch} {d k n : Nat} {T : fT} {I : fI} {J : fJ} {Q : Option Value → fT → fI → fJ → Prop} {a b : Int} {bh : Nat} {g : Nat → Int} {c : Nat} (hN : NrAt T) (ha : 0 ≤ a ∧ b ≤ 1000000 ∧ a ≤ b) (hbh : bh ≤ 1000) (h3 : I 112 3 = zI b) (hR : RowIs T I 113 200 g c) (hf : 200 - (c : Int) ≤ b - a → Q (some (.int (zI bh))) T I J) (hq : ∀ I', ¬ 200 - (c : Int) ≤ b - a → fr I I' [113, 114] → RowIs T I' 113 200 (app g c a) (c + (b - a + 1).toNat) → Q (some (.int (-1))) T I' J) : PW G x0 l mX7_readPart (d + 1) (ZM G x0 Q) k n 71 [(0, .ref (x0 + 112)), (3, .int (zI a)), (4, .int (zI bh))] [] T I J := by
  obtain ⟨n1, n2, n3, n4, n5, n6⟩ := id hN
  have e112 : (112 : Nat) < T.1 := by omega
  have e113 : (113 : Nat) < T.1 := by omega
  have e40 : (40 : Nat) < T.1 := by omega
  have k40 : T.2.1 40 = 9 := n6.2.2.1
  have k113 : T.2.1 113 = 9 := n5.2.2.1
  have hc := hR.2.1
  refine s_aload_n (i := 0) dX7_readPart_71 rfl rfl ?_
  refine s_getI dX7_readPart_72 fl_X7_40 (by assumption) (by assumption) ?_
  refine s_iload_n (i := 3) dX7_readPart_75 rfl rfl ?_
  refine s_isub dX7_readPart_76 ?_
  refine s_sipush (v := 200) dX7_readPart_77 (by decide) ?_
  refine s_aload_n (i := 0) dX7_readPart_80 rfl rfl ?_
  refine s_getR dX7_readPart_81 fl_X7_14 (by assumption) (by assumption) (by assumption) ?_
  refine s_getI dX7_readPart_84 fl_X7_27 (by assumption) (by assumption) ?_
  refine s_isub dX7_readPart_87 ?_
  refine s_st (st2 := [.int (zI (200 - c)), .int (zI (b - a))]) (by rw [hR.sz, h3, zI_sub]; show [Value.int (zI 200 - zI c), _] = _; rw [zI_sub]) ?_
  refine s_icmp_lt (tgt := 94) dX7_readPart_88 (by decide) (fun c88 => ?_) (fun c88 => ?_)
  · rw [zI_lt (by omega) (by omega) (by omega) (by omega)] at c88
    refine s_iload_n (i := 3) dX7_readPart_94 rfl rfl ?_
    refine s_istore dX7_readPart_95 (by decide) (by simp only [sl, sl2, rm, Value.category, reduceIte, Nat.reduceAdd, Nat.reduceEqDiff, reduceCtorEq]; rfl) ?_
    refine s_lv (lv' := [(0, .ref (x0 + 112)), (3, .int (zI a)), (4, .int (zI bh)), (5, .int (zI (a + ((0 : Nat) : Int))))]) ⟨rfl, rfl, rfl, by show some (Value.int (zI _)) = _; congr 3; omega, trivial⟩ ?_
    refine l_app hN (by omega) (by omega) (b + 1 - a).toNat 0 I (by omega) (by omega) h3 (hR.cong (fun q hq => ?_)) (fun I' hf hR' => hq I' (by omega) hf hR')
    unfold app
    rw [if_pos (by omega)]
  · refine s_iload dX7_readPart_91 rfl ?_
    refine s_iret dX7_readPart_93 rfl ?_
    rw [zI_lt (by omega) (by omega) (by omega) (by omega)] at c88
    exact hf (by omega)
set_option maxRecDepth 100000 in
set_option maxHeartbeats 4000000 in
theorem c_readPart {G : fG} {x0 : Nat} {l : Launch} {d k n : Nat} {T : fT} {I : fI} {J : fJ} {Q : Option Value → fT → fI → fJ → Prop} {tx : Nat → Int} {tl p c : Nat} {least : Int} {g : Nat → Int} (hN : NrAt T) (hT : TxOk tx tl) (hp : p ≤ tl) (hl : -10 ≤ least ∧ least ≤ 10000000) (hX : RowTx T I tx tl) (hR : RowIs T I 113 200 g c) (h2 : I 112 2 = zI p) (hq : ∀ (I' : fI) (r : Int × Nat × Int × Int), r = partC tx tl p least c → fr I I' [112, 113, 114] → (r.1 = -1 → I' 112 2 = zI r.2.1 ∧ I' 112 3 = zI r.2.2.2 ∧ RowIs T I' 113 200 (app g c r.2.2.1) (c + (r.2.2.2 - r.2.2.1 + 1).toNat)) → Q (some (.int (zI r.1))) T I' J) : PW G x0 l mX7_readPart (d + 3) (ZM G x0 Q) k n 0 [(0, .ref (x0 + 112)), (1, .int (zI least))] [] T I J := by
  obtain ⟨n1, n2, n3, n4, n5, n6⟩ := id hN
  have e112 : (112 : Nat) < T.1 := by omega
  have e113 : (113 : Nat) < T.1 := by omega
  have e40 : (40 : Nat) < T.1 := by omega
  have k40 : T.2.1 40 = 9 := n6.2.2.1
  have k113 : T.2.1 113 = 9 := n5.2.2.1
  have ht := hX.2.1
  have hr := rdn_bd tx tl 6 p 0 (by omega)
  have hr1 := hr.2.1 hp
  have hs := sk_ge tx tl (rdn tx tl 6 p 0).1
  have hs2 := hs.2 hr1
  have hb := chz_bd (p := sk tx tl (rdn tx tl 6 p 0).1) hT
  refine s_aload_n (i := 0) dX7_readPart_0 rfl rfl ?_
  refine s_iload_n (i := 1) dX7_readPart_1 rfl rfl ?_
  refine s_cV_I (My := mX7_readNumber) dX7_readPart_2 wM_X7_46 cb_yX7_readNumber ci_yX7_readNumber (by assumption) (by assumption) (Nat.le_of_ble_eq_true rfl) (by decide) (s_d (by omega) (c_readNumber (d := 0) hN hT hp hl hX h2 (fun I1 hf1 u2 u3 => ?_)))
  have hX1 : RowTx T I1 tx tl := RowIs.fr hX (hf1 40 (by simp)) (hf1 41 (by simp))
  have hc8 : zI (if (rdn tx tl 6 p 0).1 = p ∨ (rdn tx tl 6 p 0).2 < least then (p : Int) else -1) = zI (-1) ↔ _ := zI_eq (by split <;> omega) (by split <;> omega) (by omega) (by omega)
  refine s_istore_n (i := 2) dX7_readPart_5 rfl (by decide) (by simp only [sl, sl2, rm, Value.category, reduceIte, Nat.reduceAdd, Nat.reduceEqDiff, reduceCtorEq]; rfl) ?_
  refine s_iload_n (i := 2) dX7_readPart_6 rfl rfl ?_
  refine s_iconst (v := -1) dX7_readPart_7 (by decide) ?_
  refine s_icmp_eq (tgt := 13) dX7_readPart_8 (by decide) (fun c8 => ?_) (fun c8 => ?_)
  · have c8' : ¬ ((rdn tx tl 6 p 0).1 = p ∨ (rdn tx tl 6 p 0).2 < least) := fun h => by
      have := hc8.mp c8
      rw [if_pos h] at this
      omega
    refine s_aload_n (i := 0) dX7_readPart_13 rfl rfl ?_
    refine s_getI dX7_readPart_14 fl_X7_40 (by assumption) (by assumption) ?_
    refine s_topi u3 ?_
    refine s_istore_n (i := 3) dX7_readPart_17 rfl (by decide) (by simp only [sl, sl2, rm, Value.category, reduceIte, Nat.reduceAdd, Nat.reduceEqDiff, reduceCtorEq]; rfl) ?_
    refine s_aload_n (i := 0) dX7_readPart_18 rfl rfl ?_
    refine s_getI dX7_readPart_19 fl_X7_23 (by assumption) (by assumption) ?_
    refine s_topi u2 ?_
    refine s_istore dX7_readPart_22 (by decide) (by simp only [sl, sl2, rm, Value.category, reduceIte, Nat.reduceAdd, Nat.reduceEqDiff, reduceCtorEq]; rfl) ?_
    refine s_aload_n (i := 0) dX7_readPart_24 rfl rfl ?_
    refine s_cV_ (My := mX7_skipBlanks) dX7_readPart_25 wM_X7_30 cb_yX7_skipBlanks ci_yX7_skipBlanks (by assumption) (by assumption) (Nat.le_of_ble_eq_true rfl) (by decide) (s_d (by omega) (c_skip (d := 0) hN hT (by omega) hX1 u2 (fun I2 hf2 w2 w3 => ?_)))
    have hX2 : RowTx T I2 tx tl := RowIs.fr hX1 (hf2 40 (by simp)) (hf2 41 (by simp))
    refine s_aload_n (i := 0) dX7_readPart_28 rfl rfl ?_
    refine s_getR dX7_readPart_29 fl_X7_20 (by assumption) (by assumption) (by assumption) ?_
    refine s_aload_n (i := 0) dX7_readPart_32 rfl rfl ?_
    refine s_getI dX7_readPart_33 fl_X7_23 (by assumption) (by assumption) ?_
    refine s_topi w2 ?_
    refine s_cV_I (My := mX9_get) dX7_readPart_36 wM_X7_37 cb_yX9_get ci_yX9_get (by assumption) (by assumption) (Nat.le_of_ble_eq_true rfl) (by decide) (c_get n6 (by rw [hX2.2.2.1]; have := hX2.2.1; omega) (rget_ch hX2 (by omega)) ?_)
    refine s_bipush (v := 45) dX7_readPart_39 (by decide) ?_
    refine s_icmp_ne (tgt := 71) dX7_readPart_41 (by decide) (fun c41 => ?_) (fun c41 => ?_)
    · first
      | (have c41 : ¬ zI (chz tx tl (sk tx tl (rdn tx tl 6 p 0).1)) = zI 45 := c41
         rw [zI_eq (by omega) (by omega) (by omega) (by omega)] at c41
         refine s_lv (lv' := [(0, .ref (x0 + 112)), (3, .int (zI (rdn tx tl 6 p 0).2)), (4, .int (zI (rdn tx tl 6 p 0).1))]) ⟨rfl, rfl, rfl, trivial⟩ ?_
         have hf12 := fr_trans hf1 hf2
         refine s_d (by omega) (l_part71 (d := 0) (c := c) (g := g) hN ⟨by omega, by omega, Int.le_refl _⟩ (by omega) (w3.trans u3) (RowIs.fr hR (hf12 113 (by simp)) (hf12 114 (by simp))) (fun h => ?_) (fun I' h hf hR' => ?_))
         · exact hq I2 (((rdn tx tl 6 p 0).1 : Int), 0, 0, 0) (by unfold partC; rw [if_neg c8', if_neg c41, if_pos h]) (fr_sub hf12 (fun b hb => by simp at hb ⊢; omega)) (fun h => absurd h (by show ¬ ((rdn tx tl 6 p 0).1 : Int) = -1; omega))
         · exact hq I' (-1, sk tx tl (rdn tx tl 6 p 0).1, (rdn tx tl 6 p 0).2, (rdn tx tl 6 p 0).2) (by unfold partC; rw [if_neg c8', if_neg c41, if_neg h]) (fr_trans (fr_sub hf12 (fun b hb => by simp at hb ⊢; omega)) (fr_sub hf (fun b hb => by simp at hb ⊢; omega))) (fun _ => ⟨by rw [hf 112 (by simp)]; exact w2, by rw [hf 112 (by simp)]; exact w3.trans u3, hR'⟩))
      | (refine s_lv (lv' := [(0, .ref (x0 + 112)), (3, .int (zI (rdn tx tl 6 p 0).2)), (4, .int (zI (rdn tx tl 6 (sk tx tl (sk tx tl (rdn tx tl 6 p 0).1 + 1)) 0).1))]) ⟨rfl, rfl, rfl, trivial⟩ ?_
         have hf12 := fr_trans (fr_trans (fr_trans (fr_trans hf1 hf2) hf3) hf4) hf5
         refine s_d (by omega) (l_part71 (d := 0) (c := c) (g := g) hN ⟨by omega, by omega, by omega⟩ (by omega) (q3.trans x3) (RowIs.fr hR (hf12 113 (by simp)) (hf12 114 (by simp))) (fun h => ?_) (fun I' h hf hR' => ?_))
         · exact hq I5 (((rdn tx tl 6 (sk tx tl (sk tx tl (rdn tx tl 6 p 0).1 + 1)) 0).1 : Int), 0, 0, 0) (by unfold partC; rw [if_neg c8', if_pos c41, if_neg c56', if_pos h]) (fr_sub hf12 (fun b hb => by simp at hb ⊢; omega)) (fun h => absurd h (by show ¬ ((rdn tx tl 6 (sk tx tl (sk tx tl (rdn tx tl 6 p 0).1 + 1)) 0).1 : Int) = -1; omega))
         · exact hq I' (-1, sk tx tl (rdn tx tl 6 (sk tx tl (sk tx tl (rdn tx tl 6 p 0).1 + 1)) 0).1, (rdn tx tl 6 p 0).2, (rdn tx tl 6 (sk tx tl (sk tx tl (rdn tx tl 6 p 0).1 + 1)) 0).2) (by unfold partC; rw [if_neg c8', if_pos c41, if_neg c56', if_neg h]) (fr_trans (fr_sub hf12 (fun b hb => by simp at hb ⊢; omega)) (fr_sub hf (fun b hb => by simp at hb ⊢; omega))) (fun _ => ⟨by rw [hf 112 (by simp)]; exact q2, by rw [hf 112 (by simp)]; exact q3.trans x3, hR'⟩))
    · have c41 : zI (chz tx tl (sk tx tl (rdn tx tl 6 p 0).1)) = zI 45 := c41
      rw [zI_eq (by omega) (by omega) (by omega) (by omega)] at c41
      have hlt : sk tx tl (rdn tx tl 6 p 0).1 < tl := by
        rcases Nat.lt_or_ge (sk tx tl (rdn tx tl 6 p 0).1) tl with h | h
        · exact h
        · rw [chz_out h] at c41; omega
      refine s_aload_n (i := 0) dX7_readPart_44 rfl rfl ?_
      refine s_cV_ (My := mX7_stepOver) dX7_readPart_45 wM_X7_43 cb_yX7_stepOver ci_yX7_stepOver (by assumption) (by assumption) (Nat.le_of_ble_eq_true rfl) (by decide) (c_stepOver hN hT (by omega) hX2 w2 (fun I3 hf3 y2 y3 => ?_))
      have hX3 : RowTx T I3 tx tl := RowIs.fr hX2 (hf3 40 (by simp)) (hf3 41 (by simp))
      have hs3 := (sk_ge tx tl (sk tx tl (rdn tx tl 6 p 0).1 + 1)).2 (by omega)
      have hz := rdn_bd tx tl 6 (sk tx tl (sk tx tl (rdn tx tl 6 p 0).1 + 1)) 0 (by omega)
      have hz1 := hz.2.1 hs3
      refine s_aload_n (i := 0) dX7_readPart_48 rfl rfl ?_
      refine s_iload_n (i := 3) dX7_readPart_49 rfl rfl ?_
      refine s_cV_I (My := mX7_readNumber) dX7_readPart_50 wM_X7_46 cb_yX7_readNumber ci_yX7_readNumber (by assumption) (by assumption) (Nat.le_of_ble_eq_true rfl) (by decide) (s_d (by omega) (c_readNumber (d := 0) hN hT hs3 (by omega) hX3 y2 (fun I4 hf4 x2 x3 => ?_)))
      have hX4 : RowTx T I4 tx tl := RowIs.fr hX3 (hf4 40 (by simp)) (hf4 41 (by simp))
      have hc56 : zI (if (rdn tx tl 6 (sk tx tl (sk tx tl (rdn tx tl 6 p 0).1 + 1)) 0).1 = sk tx tl (sk tx tl (rdn tx tl 6 p 0).1 + 1) ∨ (rdn tx tl 6 (sk tx tl (sk tx tl (rdn tx tl 6 p 0).1 + 1)) 0).2 < (rdn tx tl 6 p 0).2 then ((sk tx tl (sk tx tl (rdn tx tl 6 p 0).1 + 1) : Nat) : Int) else -1) = zI (-1) ↔ _ := zI_eq (by split <;> omega) (by split <;> omega) (by omega) (by omega)
      refine s_istore_n (i := 2) dX7_readPart_53 rfl (by decide) (by simp only [sl, sl2, rm, Value.category, reduceIte, Nat.reduceAdd, Nat.reduceEqDiff, reduceCtorEq]; rfl) ?_
      refine s_iload_n (i := 2) dX7_readPart_54 rfl rfl ?_
      refine s_iconst (v := -1) dX7_readPart_55 (by decide) ?_
      refine s_icmp_eq (tgt := 61) dX7_readPart_56 (by decide) (fun c56 => ?_) (fun c56 => ?_)
      · have c56' : ¬ ((rdn tx tl 6 (sk tx tl (sk tx tl (rdn tx tl 6 p 0).1 + 1)) 0).1 = sk tx tl (sk tx tl (rdn tx tl 6 p 0).1 + 1) ∨ (rdn tx tl 6 (sk tx tl (sk tx tl (rdn tx tl 6 p 0).1 + 1)) 0).2 < (rdn tx tl 6 p 0).2) := fun h => by
          have := hc56.mp c56
          rw [if_pos h] at this
          omega
        refine s_aload_n (i := 0) dX7_readPart_61 rfl rfl ?_
        refine s_getI dX7_readPart_62 fl_X7_23 (by assumption) (by assumption) ?_
        refine s_topi x2 ?_
        refine s_istore dX7_readPart_65 (by decide) (by simp only [sl, sl2, rm, Value.category, reduceIte, Nat.reduceAdd, Nat.reduceEqDiff, reduceCtorEq]; rfl) ?_
        refine s_aload_n (i := 0) dX7_readPart_67 rfl rfl ?_
        refine s_cV_ (My := mX7_skipBlanks) dX7_readPart_68 wM_X7_30 cb_yX7_skipBlanks ci_yX7_skipBlanks (by assumption) (by assumption) (Nat.le_of_ble_eq_true rfl) (by decide) (s_d (by omega) (c_skip (d := 0) hN hT (by omega) hX4 x2 (fun I5 hf5 q2 q3 => ?_)))
        first
        | (have c41 : ¬ zI (chz tx tl (sk tx tl (rdn tx tl 6 p 0).1)) = zI 45 := c41
           rw [zI_eq (by omega) (by omega) (by omega) (by omega)] at c41
           refine s_lv (lv' := [(0, .ref (x0 + 112)), (3, .int (zI (rdn tx tl 6 p 0).2)), (4, .int (zI (rdn tx tl 6 p 0).1))]) ⟨rfl, rfl, rfl, trivial⟩ ?_
           have hf12 := fr_trans hf1 hf2
           refine s_d (by omega) (l_part71 (d := 0) (c := c) (g := g) hN ⟨by omega, by omega, Int.le_refl _⟩ (by omega) (w3.trans u3) (RowIs.fr hR (hf12 113 (by simp)) (hf12 114 (by simp))) (fun h => ?_) (fun I' h hf hR' => ?_))
           · exact hq I2 (((rdn tx tl 6 p 0).1 : Int), 0, 0, 0) (by unfold partC; rw [if_neg c8', if_neg c41, if_pos h]) (fr_sub hf12 (fun b hb => by simp at hb ⊢; omega)) (fun h => absurd h (by show ¬ ((rdn tx tl 6 p 0).1 : Int) = -1; omega))
           · exact hq I' (-1, sk tx tl (rdn tx tl 6 p 0).1, (rdn tx tl 6 p 0).2, (rdn tx tl 6 p 0).2) (by unfold partC; rw [if_neg c8', if_neg c41, if_neg h]) (fr_trans (fr_sub hf12 (fun b hb => by simp at hb ⊢; omega)) (fr_sub hf (fun b hb => by simp at hb ⊢; omega))) (fun _ => ⟨by rw [hf 112 (by simp)]; exact w2, by rw [hf 112 (by simp)]; exact w3.trans u3, hR'⟩))
        | (refine s_lv (lv' := [(0, .ref (x0 + 112)), (3, .int (zI (rdn tx tl 6 p 0).2)), (4, .int (zI (rdn tx tl 6 (sk tx tl (sk tx tl (rdn tx tl 6 p 0).1 + 1)) 0).1))]) ⟨rfl, rfl, rfl, trivial⟩ ?_
           have hf12 := fr_trans (fr_trans (fr_trans (fr_trans hf1 hf2) hf3) hf4) hf5
           refine s_d (by omega) (l_part71 (d := 0) (c := c) (g := g) hN ⟨by omega, by omega, by omega⟩ (by omega) (q3.trans x3) (RowIs.fr hR (hf12 113 (by simp)) (hf12 114 (by simp))) (fun h => ?_) (fun I' h hf hR' => ?_))
           · exact hq I5 (((rdn tx tl 6 (sk tx tl (sk tx tl (rdn tx tl 6 p 0).1 + 1)) 0).1 : Int), 0, 0, 0) (by unfold partC; rw [if_neg c8', if_pos c41, if_neg c56', if_pos h]) (fr_sub hf12 (fun b hb => by simp at hb ⊢; omega)) (fun h => absurd h (by show ¬ ((rdn tx tl 6 (sk tx tl (sk tx tl (rdn tx tl 6 p 0).1 + 1)) 0).1 : Int) = -1; omega))
           · exact hq I' (-1, sk tx tl (rdn tx tl 6 (sk tx tl (sk tx tl (rdn tx tl 6 p 0).1 + 1)) 0).1, (rdn tx tl 6 p 0).2, (rdn tx tl 6 (sk tx tl (sk tx tl (rdn tx tl 6 p 0).1 + 1)) 0).2) (by unfold partC; rw [if_neg c8', if_pos c41, if_neg c56', if_neg h]) (fr_trans (fr_sub hf12 (fun b hb => by simp at hb ⊢; omega)) (fr_sub hf (fun b hb => by simp at hb ⊢; omega))) (fun _ => ⟨by rw [hf 112 (by simp)]; exact q2, by rw [hf 112 (by simp)]; exact q3.trans x3, hR'⟩))
      · refine s_iload_n (i := 2) dX7_readPart_59 rfl rfl ?_
        refine s_iret dX7_readPart_60 rfl ?_
        have h1 : (rdn tx tl 6 (sk tx tl (sk tx tl (rdn tx tl 6 p 0).1 + 1)) 0).1 = sk tx tl (sk tx tl (rdn tx tl 6 p 0).1 + 1) ∨ (rdn tx tl 6 (sk tx tl (sk tx tl (rdn tx tl 6 p 0).1 + 1)) 0).2 < (rdn tx tl 6 p 0).2 := by
          by_cases h : (rdn tx tl 6 (sk tx tl (sk tx tl (rdn tx tl 6 p 0).1 + 1)) 0).1 = sk tx tl (sk tx tl (rdn tx tl 6 p 0).1 + 1) ∨ (rdn tx tl 6 (sk tx tl (sk tx tl (rdn tx tl 6 p 0).1 + 1)) 0).2 < (rdn tx tl 6 p 0).2
          · exact h
          · exact absurd (hc56.mpr (if_neg h)) c56
        rw [if_pos h1]
        exact hq I4 ((sk tx tl (sk tx tl (rdn tx tl 6 p 0).1 + 1) : Int), 0, 0, 0) (by unfold partC; rw [if_neg c8', if_pos c41, if_pos h1]) (fr_sub (fr_trans (fr_trans (fr_trans hf1 hf2) hf3) hf4) (fun b hb => by simp at hb ⊢; omega)) (fun h => absurd h (by show ¬ ((sk tx tl (sk tx tl (rdn tx tl 6 p 0).1 + 1) : Nat) : Int) = -1; omega))
  · refine s_iload_n (i := 2) dX7_readPart_11 rfl rfl ?_
    refine s_iret dX7_readPart_12 rfl ?_
    have h1 : (rdn tx tl 6 p 0).1 = p ∨ (rdn tx tl 6 p 0).2 < least := by
      by_cases h : (rdn tx tl 6 p 0).1 = p ∨ (rdn tx tl 6 p 0).2 < least
      · exact h
      · exact absurd (hc8.mpr (if_neg h)) c8
    rw [if_pos h1]
    exact hq I1 ((p : Int), 0, 0, 0) (by unfold partC; rw [if_pos h1]) (fr_sub hf1 (fun b hb => by simp at hb ⊢; omega)) (fun h => absurd h (by show ¬ (p : Int) = -1; omega))
