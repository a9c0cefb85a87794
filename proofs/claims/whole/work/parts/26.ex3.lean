/-- an expression in postfix order: the fault or -1, and the order -/
def prs (tx : Nat → Int) (tl : Nat) : Nat → Nat → eS → Int × List Int
  | 0, _, s => if s.2.2.2 = true ∨ 0 < s.2.2.1 then ((tl : Int), []) else (-1, (rel 1 s.2.1 s.1).2)
  | z + 1, i, s => match estep s (tx i) with
    | none => ((i : Int), [])
    | some s' => prs tx tl z (i + 1) s'
def exprOf (tx : Nat → Int) (tl : Nat) : Int × List Int := prs tx tl tl 0 ([], [], 0, true)
set_option maxRecDepth 100000 in
set_option maxHeartbeats 4000000 in
theorem l_xread {G : fG} {x0 : Nat} {l : Launch} {d k n : Nat} {T : fT} {J : fJ} {Q : Option Value → fT → fI → fJ → Prop} {tx : Nat → Int} {tl : Nat} (hE : ExAt T) (hT : TxOk tx tl) : ∀ (z i : Nat) (s : eS) (I : fI), i + z = tl → RowTx T I tx tl → ExIsS T I s → ExOk s i → (hq : ∀ (I' : fI) (r : Int × List Int), r = prs tx tl z i s → fr I I' exS → (r.1 = -1 → RowL T I' 116 100 r.2) → Q (some (.int (zI r.1))) T I' J) → PW G x0 l mX3_read (d + 4) (ZM G x0 Q) k n 28 [(0, .ref (x0 + 115)), (1, .ref (x0 + 40)), (2, .int (zI i))] [] T I J := by
  obtain ⟨x1, x2, x3, x4, x5, x6, x7⟩ := id hE
  have e115 : (115 : Nat) < T.1 := by omega
  have e116 : (116 : Nat) < T.1 := by omega
  have e118 : (118 : Nat) < T.1 := by omega
  have e40 : (40 : Nat) < T.1 := by omega
  have k116 : T.2.1 116 = 9 := x5.2.2.1
  have k118 : T.2.1 118 = 9 := x6.2.2.1
  have k40 : T.2.1 40 = 9 := x7.2.2.1
  intro z
  induction z with
  | zero =>
    intro i s I hz hX hx hk hq
    have ht := hX.2.1
    have ho4 := hk.2.2.2
    obtain ⟨r1, r2, r3, r4⟩ := id hx
    refine s_iload_n (i := 2) dX3_read_28 rfl rfl ?_
    refine s_aload_n (i := 1) dX3_read_29 rfl rfl ?_
    refine s_getI dX3_read_30 fl_X3_23 (by assumption) (by assumption) ?_
    refine s_icmp_ge (tgt := 56) dX3_read_33 (by decide) (fun h33 => ?_) (fun h33 => absurd (by rw [hX.sz, zI_le (by omega) (by omega) (by omega) (by omega)]; omega) h33)
    refine s_aload_n (i := 0) dX3_read_56 rfl rfl ?_
    refine s_getI dX3_read_57 fl_X3_30 (by assumption) (by assumption) ?_
    refine s_if_ne (tgt := 70) dX3_read_60 (by decide) (fun c60 => ?_) (fun c60 => ?_)
    · refine s_aload_n (i := 1) dX3_read_70 rfl rfl ?_
      refine s_getI dX3_read_71 fl_X3_23 (by assumption) (by assumption) ?_
      refine s_iret dX3_read_74 rfl ?_
      simp only [prs] at hq
      have hor : s.2.2.2 = true ∨ 0 < s.2.2.1 := by
        first
        | (left
           cases h : s.2.2.2 with
           | true => rfl
           | false => rw [r4, h] at c60; exact absurd rfl c60)
        | (right
           rw [t_zI r3, z0, zI_le (by omega) (by omega) (by omega) (by omega)] at c67
           omega)
      rw [if_pos hor] at hq
      rw [hX.sz]
      exact hq I ((tl : Int), []) rfl (fr_refl I _) (fun h => absurd h (by show ¬ (tl : Int) = -1; omega))
    · have hdue : s.2.2.2 = false := by
        cases h : s.2.2.2 with
        | false => rfl
        | true => rw [r4, h] at c60; exact absurd c60 (by decide)
      refine s_aload_n (i := 0) dX3_read_63 rfl rfl ?_
      refine s_getI dX3_read_64 fl_X3_27 (by assumption) (by assumption) ?_
      refine s_if_le (tgt := 75) dX3_read_67 (by decide) (fun c67 => ?_) (fun c67 => ?_)
      · rw [t_zI r3, z0, zI_le (by omega) (by omega) (by omega) (by omega)] at c67
        simp only [prs] at hq
        rw [if_neg (by rw [hdue]; simp only [Bool.false_eq_true, false_or]; omega)] at hq
        refine s_aload_n (i := 0) dX3_read_75 rfl rfl ?_
        refine s_iconst (v := 1) dX3_read_76 (by decide) ?_
        refine s_cV_I (My := mX3_releaseFrom) dX3_read_77 wM_X3_42 cb_yX3_releaseFrom ci_yX3_releaseFrom (by assumption) (by assumption) (Nat.le_of_ble_eq_true rfl) (by decide) (s_d (by omega) (l_rel (d := 0) (st := 1) hE (by omega) s.2.1 s.1 I (by have := hk.1; omega) (fun t ht => ⟨(hk.2.1 t ht).1, (hk.2.1 t ht).2.1⟩) r1 r2 (fun I1 hf1 w1 w2 => ?_)))
        refine s_iconst (v := -1) dX3_read_80 (by decide) ?_
        refine s_iret dX3_read_81 rfl ?_
        exact hq I1 (-1, (rel 1 s.2.1 s.1).2) rfl (fr_sub hf1 (fun b hb => by simp at hb ⊢; omega)) (fun _ => w1)
      · refine s_aload_n (i := 1) dX3_read_70 rfl rfl ?_
        refine s_getI dX3_read_71 fl_X3_23 (by assumption) (by assumption) ?_
        refine s_iret dX3_read_74 rfl ?_
        simp only [prs] at hq
        have hor : s.2.2.2 = true ∨ 0 < s.2.2.1 := by
          first
          | (left
             cases h : s.2.2.2 with
             | true => rfl
             | false => rw [r4, h] at c60; exact absurd rfl c60)
          | (right
             rw [t_zI r3, z0, zI_le (by omega) (by omega) (by omega) (by omega)] at c67
             omega)
        rw [if_pos hor] at hq
        rw [hX.sz]
        exact hq I ((tl : Int), []) rfl (fr_refl I _) (fun h => absurd h (by show ¬ (tl : Int) = -1; omega))
  | succ z ih =>
    intro i s I hz hX hx hk hq
    have ht := hX.2.1
    have hc := hT i (by omega)
    simp only [prs] at hq
    refine s_iload_n (i := 2) dX3_read_28 rfl rfl ?_
    refine s_aload_n (i := 1) dX3_read_29 rfl rfl ?_
    refine s_getI dX3_read_30 fl_X3_23 (by assumption) (by assumption) ?_
    refine s_icmp_ge (tgt := 56) dX3_read_33 (by decide) (fun h33 => absurd h33 (by rw [hX.sz, zI_le (by omega) (by omega) (by omega) (by omega)]; omega)) (fun h33 => ?_)
    refine s_aload_n (i := 0) dX3_read_36 rfl rfl ?_
    refine s_aload_n (i := 1) dX3_read_37 rfl rfl ?_
    refine s_iload_n (i := 2) dX3_read_38 rfl rfl ?_
    refine s_cV_I (My := mX9_get) dX3_read_39 wM_X3_34 cb_yX9_get ci_yX9_get (by assumption) (by assumption) (Nat.le_of_ble_eq_true rfl) (by decide) (c_getn hX (by omega) ?_)
    refine s_cV_I (My := mX3_take) dX3_read_42 wM_X3_38 cb_yX3_take ci_yX3_take (by assumption) (by assumption) (Nat.le_of_ble_eq_true rfl) (by decide) (c_take (s := s) hE hx hk (by omega) hc (fun h => ?_) (fun s' I1 h hf1 hx1 => ?_))
    · refine s_if_ne (tgt := 50) dX3_read_45 (by decide) (fun h45 => absurd h45 (by decide)) (fun h45 => ?_)
      refine s_iload_n (i := 2) dX3_read_48 rfl rfl ?_
      refine s_iret dX3_read_49 rfl ?_
      rw [h] at hq
      exact hq I ((i : Int), []) rfl (fr_refl I _) (fun h => absurd h (by show ¬ (i : Int) = -1; omega))
    · refine s_if_ne (tgt := 50) dX3_read_45 (by decide) (fun h45 => ?_) (fun h45 => absurd h45 (by decide))
      refine s_iinc dX3_read_50 rfl (zI_inc _) (by decide) (by simp only [sl, sl2, rm, Value.category, reduceIte, Nat.reduceAdd, Nat.reduceEqDiff, reduceCtorEq]; rfl) ?_
      refine s_goto (tgt := 28) dX3_read_53 (by decide) ?_
      rw [h] at hq
      exact ih (i + 1) s' I1 (by omega) (RowIs.fr hX (hf1 40 (by simp)) (hf1 41 (by simp))) hx1 (hk.step hc h) (fun I' r hr hf hok => hq I' r hr (fr_trans hf1 hf) hok)
set_option maxRecDepth 100000 in
set_option maxHeartbeats 4000000 in
theorem c_xread {G : fG} {x0 : Nat} {l : Launch} {d k n : Nat} {T : fT} {I : fI} {J : fJ} {Q : Option Value → fT → fI → fJ → Prop} {tx : Nat → Int} {tl : Nat} (hE : ExAt T) (hT : TxOk tx tl) (hX : RowTx T I tx tl) (hq : ∀ (I' : fI) (r : Int × List Int), r = exprOf tx tl → fr I I' exS → (r.1 = -1 → RowL T I' 116 100 r.2) → Q (some (.int (zI r.1))) T I' J) : PW G x0 l mX3_read (d + 4) (ZM G x0 Q) k n 0 [(0, .ref (x0 + 115)), (1, .ref (x0 + 40))] [] T I J := by
  obtain ⟨x1, x2, x3, x4, x5, x6, x7⟩ := id hE
  have e115 : (115 : Nat) < T.1 := by omega
  have e116 : (116 : Nat) < T.1 := by omega
  have e118 : (118 : Nat) < T.1 := by omega
  have e40 : (40 : Nat) < T.1 := by omega
  have k116 : T.2.1 116 = 9 := x5.2.2.1
  have k118 : T.2.1 118 = 9 := x6.2.2.1
  have k40 : T.2.1 40 = 9 := x7.2.2.1
  refine s_aload_n (i := 0) dX3_read_0 rfl rfl ?_
  refine s_getR dX3_read_1 fl_X3_14 (by assumption) (by assumption) (by assumption) ?_
  refine s_iconst (v := 0) dX3_read_4 (by decide) ?_
  refine s_putI dX3_read_5 fp_X3_23 (by assumption) (by assumption) ?_
  refine s_aload_n (i := 0) dX3_read_8 rfl rfl ?_
  refine s_getR dX3_read_9 fl_X3_20 (by assumption) (by assumption) (by assumption) ?_
  refine s_iconst (v := 0) dX3_read_12 (by decide) ?_
  refine s_putI dX3_read_13 fp_X3_23 (by assumption) (by assumption) ?_
  refine s_aload_n (i := 0) dX3_read_16 rfl rfl ?_
  refine s_iconst (v := 0) dX3_read_17 (by decide) ?_
  refine s_putI dX3_read_18 fp_X3_27 (by assumption) (by assumption) ?_
  refine s_aload_n (i := 0) dX3_read_21 rfl rfl ?_
  refine s_iconst (v := 1) dX3_read_22 (by decide) ?_
  refine s_putZ dX3_read_23 fp_X3_30 (Or.inr rfl) (by assumption) (by assumption) ?_
  refine s_iconst (v := 0) dX3_read_26 (by decide) ?_
  refine s_istore_n (i := 2) dX3_read_27 rfl (by decide) (by simp only [sl, sl2, rm, Value.category, reduceIte, Nat.reduceAdd, Nat.reduceEqDiff, reduceCtorEq]; rfl) ?_
  refine l_xread hE hT tl 0 ([], [], 0, true) _ (by omega) (RowIs.fr hX ?_ ?_) ⟨⟨x5, by simp, ?_, fun q hq => absurd hq (Nat.not_lt_zero q)⟩, ⟨x6, by simp, ?_, fun q hq => absurd hq (Nat.not_lt_zero q)⟩, ?_, iu_at⟩ ⟨by simp, fun t ht => by simp at ht, rfl, by simp⟩ (fun I' r hr hf hok => hq I' r hr (fr_trans (fr_trans (fr_trans (fr_trans (fr_iu (by simp)) (fr_iu (by simp))) (fr_iu (by simp))) (fr_iu (by simp))) hf) hok)
  · rw [iu_ne (by omega), iu_ne (by omega), iu_ne (by omega), iu_ne (by omega)]
  · rw [iu_ne (by omega), iu_ne (by omega), iu_ne (by omega), iu_ne (by omega)]
  · rw [iu_b (by omega), iu_b (by omega), iu_b (by omega), iu_at]; rfl
  · rw [iu_b (by omega), iu_b (by omega), iu_at]; rfl
  · rw [iu_j (by omega), iu_at]; rfl
