/-! texts -/
def chz (tx : Nat → Int) (tl p : Nat) : Int := if p < tl then tx p else -1
theorem chz_out {tx : Nat → Int} {tl p : Nat} (h : tl ≤ p) : chz tx tl p = -1 := by unfold chz; rw [if_neg (by omega)]
def skp (tx : Nat → Int) (tl : Nat) : Nat → Nat → Nat
  | 0, p => p
  | z + 1, p => if chz tx tl p = 32 then skp tx tl z (p + 1) else p
theorem skp_fuel (tx : Nat → Int) (tl : Nat) : ∀ z z' p, tl - p ≤ z → tl - p ≤ z' → skp tx tl z p = skp tx tl z' p := by
  intro z
  induction z with
  | zero =>
    intro z' p h1 h2
    cases z' with
    | zero => rfl
    | succ z' => simp only [skp]; rw [if_neg (by rw [chz_out (by omega)]; omega)]
  | succ z ih =>
    intro z' p h1 h2
    cases z' with
    | zero => simp only [skp]; rw [if_neg (by rw [chz_out (by omega)]; omega)]
    | succ z' =>
      simp only [skp]
      split
      · exact ih z' (p + 1) (by omega) (by omega)
      · rfl
def sk (tx : Nat → Int) (tl p : Nat) : Nat := skp tx tl tl p
theorem skp_ge (tx : Nat → Int) (tl : Nat) : ∀ z p, p ≤ skp tx tl z p ∧ (p ≤ tl → skp tx tl z p ≤ tl) := by
  intro z
  induction z with
  | zero => intro p; exact ⟨Nat.le_refl p, fun h => h⟩
  | succ z ih =>
    intro p
    simp only [skp]
    split
    · next h =>
      have := ih (p + 1)
      have hp : p < tl := by
        rcases Nat.lt_or_ge p tl with h2 | h2
        · exact h2
        · unfold chz at h; rw [if_neg (by omega)] at h; omega
      exact ⟨by omega, fun _ => this.2 (by omega)⟩
    · exact ⟨Nat.le_refl p, fun h => h⟩
theorem sk_ge (tx : Nat → Int) (tl p : Nat) : p ≤ sk tx tl p ∧ (p ≤ tl → sk tx tl p ≤ tl) := skp_ge tx tl tl p
def rdn (tx : Nat → Int) (tl : Nat) : Nat → Nat → Int → Nat × Int
  | 0, p, v => (p, v)
  | z + 1, p, v => if 48 ≤ chz tx tl p ∧ chz tx tl p ≤ 57 then rdn tx tl z (p + 1) (10 * v + chz tx tl p - 48) else (p, v)
theorem dig_lt {tx : Nat → Int} {tl p : Nat} (h : 48 ≤ chz tx tl p ∧ chz tx tl p ≤ 57) : p < tl := by
  rcases Nat.lt_or_ge p tl with h2 | h2
  · exact h2
  · unfold chz at h; rw [if_neg (by omega)] at h; omega
theorem rdn_bd (tx : Nat → Int) (tl : Nat) : ∀ z p v, 0 ≤ v → p ≤ (rdn tx tl z p v).1 ∧ (p ≤ tl → (rdn tx tl z p v).1 ≤ tl) ∧ 0 ≤ (rdn tx tl z p v).2 ∧ (rdn tx tl z p v).2 < (v + 1) * 10 ^ z := by
  intro z
  induction z with
  | zero => intro p v h; simp only [rdn]; exact ⟨Nat.le_refl p, fun h => h, h, by omega⟩
  | succ z ih =>
    intro p v h
    have hp : (0 : Int) < 10 ^ z := Int.pow_pos (by omega)
    have hps : (10 : Int) ^ (z + 1) = 10 ^ z * 10 := Int.pow_succ 10 z
    simp only [rdn]
    split
    · next hc =>
      have h1 := ih (p + 1) (10 * v + chz tx tl p - 48) (by omega)
      have h2 := dig_lt hc
      refine ⟨by omega, fun _ => h1.2.1 (by omega), h1.2.2.1, Int.lt_of_lt_of_le h1.2.2.2 ?_⟩
      have h3 : (10 * v + chz tx tl p - 48 + 1) * 10 ^ z ≤ ((v + 1) * 10) * 10 ^ z := Int.mul_le_mul_of_nonneg_right (by omega) (by omega)
      rw [hps, ← Int.mul_assoc, Int.mul_right_comm]
      exact h3
    · refine ⟨Nat.le_refl p, fun h => h, h, ?_⟩
      have h3 : (v + 1) * 1 ≤ (v + 1) * 10 ^ (z + 1) := Int.mul_le_mul_of_nonneg_left (by omega) (by omega)
      omega
def RowTx (T : fT) (I : fI) (tx : Nat → Int) (tl : Nat) : Prop := RowIs T I 40 100 tx tl
theorem rget_ch {T : fT} {I : fI} {tx : Nat → Int} {tl p : Nat} (h : RowTx T I tx tl) (hp : p < 100000) : rget I 40 (zI p) = zI (chz tx tl p) := by
  unfold chz
  by_cases hc : p < tl
  · rw [if_pos hc]
    have := RowIs.get h (z := (p : Int)) (by omega) (by omega)
    simpa using this
  · rw [if_neg hc, rget_out (Or.inr (by rw [h.2.2.1, zI_t (by omega) (by omega)]; omega))]
    exact zm1
def NrAt (T : fT) : Prop := 115 ≤ T.1 ∧ T.2.1 112 = 7 ∧ T.2.2.2 112 0 = some 113 ∧ T.2.2.2 112 1 = some 40 ∧ RowAt T 113 200 ∧ RowAt T 40 100
/-- bytes -/
def TxOk (tx : Nat → Int) (tl : Nat) : Prop := ∀ q, q < tl → 0 ≤ tx q ∧ tx q ≤ 127
theorem chz_bd {tx : Nat → Int} {tl p : Nat} (h : TxOk tx tl) : -1 ≤ chz tx tl p ∧ chz tx tl p ≤ 127 := by
  unfold chz
  split
  · next hp => have := h p hp; omega
  · omega
set_option maxRecDepth 100000 in
set_option maxHeartbeats 4000000 in
theorem l_skip {G : fG} {x0 : Nat} {l : Launch} {d k n : Nat} {T : fT} {J : fJ} {Q : Option Value → fT → fI → fJ → Prop} {tx : Nat → Int} {tl : Nat} (hN : NrAt T) (hT : TxOk tx tl) : ∀ (z p : Nat) (I : fI), tl - p ≤ z → p ≤ 200 → RowTx T I tx tl → I 112 2 = zI p → (hq : ∀ I', fr I I' [112] → I' 112 2 = zI (skp tx tl z p) → I' 112 3 = I 112 3 → Q none T I' J) → PW G x0 l mX7_skipBlanks (d + 1) (ZM G x0 Q) k n 0 [(0, .ref (x0 + 112))] [] T I J := by
  obtain ⟨n1, n2, n3, n4, n5, n6⟩ := id hN
  have e112 : (112 : Nat) < T.1 := by omega
  have e113 : (113 : Nat) < T.1 := by omega
  have e40 : (40 : Nat) < T.1 := by omega
  have k40 : T.2.1 40 = 9 := n6.2.2.1
  have k113 : T.2.1 113 = 9 := n5.2.2.1
  intro z
  induction z with
  | zero =>
    intro p I hz hp hX h2 hq
    have ht := hX.2.1
    refine s_aload_n (i := 0) dX7_skipBlanks_0 rfl rfl ?_
    refine s_getI dX7_skipBlanks_1 fl_X7_23 (by assumption) (by assumption) ?_
    refine s_aload_n (i := 0) dX7_skipBlanks_4 rfl rfl ?_
    refine s_getR dX7_skipBlanks_5 fl_X7_20 (by assumption) (by assumption) (by assumption) ?_
    refine s_getI dX7_skipBlanks_8 fl_X7_27 (by assumption) (by assumption) ?_
    refine s_icmp_ge (tgt := 43) dX7_skipBlanks_11 (by decide) (fun h11 => ?_) (fun h11 => absurd (by rw [h2, hX.sz, zI_le (by omega) (by omega) (by omega) (by omega)]; omega) h11)
    refine s_ret dX7_skipBlanks_43 rfl ?_
    exact hq I (fr_refl I _) h2 rfl
  | succ z ih =>
    intro p I hz hp hX h2 hq
    have ht := hX.2.1
    have hb := chz_bd (p := p) hT
    refine s_aload_n (i := 0) dX7_skipBlanks_0 rfl rfl ?_
    refine s_getI dX7_skipBlanks_1 fl_X7_23 (by assumption) (by assumption) ?_
    refine s_aload_n (i := 0) dX7_skipBlanks_4 rfl rfl ?_
    refine s_getR dX7_skipBlanks_5 fl_X7_20 (by assumption) (by assumption) (by assumption) ?_
    refine s_getI dX7_skipBlanks_8 fl_X7_27 (by assumption) (by assumption) ?_
    refine s_icmp_ge (tgt := 43) dX7_skipBlanks_11 (by decide) (fun c11 => ?_) (fun c11 => ?_)
    · refine s_ret dX7_skipBlanks_43 rfl ?_
      first
      | (rw [h2, hX.sz, zI_le (by omega) (by omega) (by omega) (by omega)] at c11
         have e : skp tx tl (z + 1) p = p := by
           simp only [skp]
           rw [if_neg (by rw [chz_out (by omega)]; omega)]
         rw [e] at hq
         exact hq I (fr_refl I _) h2 rfl)
      | (have c27 : ¬ zI (chz tx tl p) = zI 32 := c27
         rw [zI_eq (by omega) (by omega) (by omega) (by omega)] at c27
         simp only [skp] at hq
         rw [if_neg c27] at hq
         exact hq I (fr_refl I _) h2 rfl)
    · rw [h2, hX.sz, zI_le (by omega) (by omega) (by omega) (by omega)] at c11
      refine s_aload_n (i := 0) dX7_skipBlanks_14 rfl rfl ?_
      refine s_getR dX7_skipBlanks_15 fl_X7_20 (by assumption) (by assumption) (by assumption) ?_
      refine s_aload_n (i := 0) dX7_skipBlanks_18 rfl rfl ?_
      refine s_getI dX7_skipBlanks_19 fl_X7_23 (by assumption) (by assumption) ?_
      refine s_topi h2 ?_
      refine s_cV_I (My := mX9_get) dX7_skipBlanks_22 wM_X7_37 cb_yX9_get ci_yX9_get (by assumption) (by assumption) (Nat.le_of_ble_eq_true rfl) (by decide) (c_get n6 (by rw [hX.2.2.1]; have := hX.2.1; omega) (rget_ch hX (by omega)) ?_)
      refine s_bipush (v := 32) dX7_skipBlanks_25 (by decide) ?_
      refine s_icmp_ne (tgt := 43) dX7_skipBlanks_27 (by decide) (fun c27 => ?_) (fun c27 => ?_)
      · refine s_ret dX7_skipBlanks_43 rfl ?_
        first
        | (rw [h2, hX.sz, zI_le (by omega) (by omega) (by omega) (by omega)] at c11
           have e : skp tx tl (z + 1) p = p := by
             simp only [skp]
             rw [if_neg (by rw [chz_out (by omega)]; omega)]
           rw [e] at hq
           exact hq I (fr_refl I _) h2 rfl)
        | (have c27 : ¬ zI (chz tx tl p) = zI 32 := c27
           rw [zI_eq (by omega) (by omega) (by omega) (by omega)] at c27
           simp only [skp] at hq
           rw [if_neg c27] at hq
           exact hq I (fr_refl I _) h2 rfl)
      · have c27 : zI (chz tx tl p) = zI 32 := c27
        rw [zI_eq (by omega) (by omega) (by omega) (by omega)] at c27
        simp only [skp] at hq
        rw [if_pos c27] at hq
        refine s_aload_n (i := 0) dX7_skipBlanks_30 rfl rfl ?_
        refine s_dup dX7_skipBlanks_31 rfl ?_
        refine s_getI dX7_skipBlanks_32 fl_X7_23 (by assumption) (by assumption) ?_
        refine s_iconst (v := 1) dX7_skipBlanks_35 (by decide) ?_
        refine s_iadd dX7_skipBlanks_36 ?_
        refine s_topi (y := zI ((p + 1 : Nat) : Int)) (by rw [h2, z1, zI_add]; congr 1) ?_
        refine s_putI dX7_skipBlanks_37 fp_X7_23 (by assumption) (by assumption) ?_
        refine s_goto (tgt := 0) dX7_skipBlanks_40 (by decide) ?_
        exact ih (p + 1) _ (by omega) (by omega) (RowIs.fr hX (iu_ne (by omega)) (iu_ne (by omega))) iu_at (fun I' hf u2 u3 => hq I' (fr_trans (fr_iu (by simp)) hf) u2 (by rw [u3, iu_j (by omega)]))
theorem c_skip {G : fG} {x0 : Nat} {l : Launch} {d k n : Nat} {T : fT} {I : fI} {J : fJ} {Q : Option Value → fT → fI → fJ → Prop} {tx : Nat → Int} {tl p : Nat} (hN : NrAt T) (hT : TxOk tx tl) (hp : p ≤ 200) (hX : RowTx T I tx tl) (h2 : I 112 2 = zI p) (hq : ∀ I', fr I I' [112] → I' 112 2 = zI (sk tx tl p) → I' 112 3 = I 112 3 → Q none T I' J) : PW G x0 l mX7_skipBlanks (d + 1) (ZM G x0 Q) k n 0 [(0, .ref (x0 + 112))] [] T I J := l_skip hN hT tl p I (by omega) hp hX h2 hq
set_option maxRecDepth 100000 in
set_option maxHeartbeats 4000000 in
theorem c_stepOver {G : fG} {x0 : Nat} {l : Launch} {d k n : Nat} {T : fT} {I : fI} {J : fJ} {Q : Option Value → fT → fI → fJ → Prop} {tx : Nat → Int} {tl p : Nat} (hN : NrAt T) (hT : TxOk tx tl) (hp : p < 200) (hX : RowTx T I tx tl) (h2 : I 112 2 = zI p) (hq : ∀ I', fr I I' [112] → I' 112 2 = zI (sk tx tl (p + 1)) → I' 112 3 = I 112 3 → Q none T I' J) : PW G x0 l mX7_stepOver (d + 2) (ZM G x0 Q) k n 0 [(0, .ref (x0 + 112))] [] T I J := by
  obtain ⟨n1, n2, n3, n4, n5, n6⟩ := id hN
  have e112 : (112 : Nat) < T.1 := by omega
  have e113 : (113 : Nat) < T.1 := by omega
  have e40 : (40 : Nat) < T.1 := by omega
  have k40 : T.2.1 40 = 9 := n6.2.2.1
  have k113 : T.2.1 113 = 9 := n5.2.2.1
  refine s_aload_n (i := 0) dX7_stepOver_0 rfl rfl ?_
  refine s_dup dX7_stepOver_1 rfl ?_
  refine s_getI dX7_stepOver_2 fl_X7_23 (by assumption) (by assumption) ?_
  refine s_iconst (v := 1) dX7_stepOver_5 (by decide) ?_
  refine s_iadd dX7_stepOver_6 ?_
  refine s_topi (y := zI ((p + 1 : Nat) : Int)) (by rw [h2, z1, zI_add]; congr 1) ?_
  have hX1 : RowTx T (iu I 112 2 (zI ((p + 1 : Nat) : Int))) tx tl := RowIs.fr hX (iu_ne (by omega)) (iu_ne (by omega))
  refine s_putI dX7_stepOver_7 fp_X7_23 (by assumption) (by assumption) ?_
  refine s_aload_n (i := 0) dX7_stepOver_10 rfl rfl ?_
  refine s_cV_ (My := mX7_skipBlanks) dX7_stepOver_11 wM_X7_30 cb_yX7_skipBlanks ci_yX7_skipBlanks (by assumption) (by assumption) (Nat.le_of_ble_eq_true rfl) (by decide) (c_skip (p := p + 1) hN hT (by omega) hX1 iu_at (fun I' hf u2 u3 => ?_))
  refine s_ret dX7_stepOver_14 rfl ?_
  exact hq I' (fr_trans (fr_iu (by simp)) hf) u2 (by rw [u3, iu_j (by omega)])
set_option maxRecDepth 100000 in
set_option maxHeartbeats 4000000 in
theorem c_isDigit {G : fG} {x0 : Nat} {l : Launch} {d k n : Nat} {T : fT} {I : fI} {J : fJ} {Q : Option Value → fT → fI → fJ → Prop} {x : Int} (hx : -1 ≤ x ∧ x ≤ 127) (hq : Q (some (.int (if 48 ≤ x ∧ x ≤ 57 then 1 else 0))) T I J) : PW G x0 l mX7_isDigit d (ZM G x0 Q) k n 0 [(0, .int (zI x))] [] T I J := by
  refine s_iload_n (i := 0) dX7_isDigit_0 rfl rfl ?_
  refine s_bipush (v := 48) dX7_isDigit_1 (by decide) ?_
  refine s_icmp_lt (tgt := 16) dX7_isDigit_3 (by decide) (fun c3 => ?_) (fun c3 => ?_)
  · refine s_iconst (v := 0) dX7_isDigit_16 (by decide) ?_
    refine s_zret dX7_isDigit_17 rfl (by first | exact Or.inl rfl | exact Or.inr rfl) ?_
    first
    | (have c3 : zI x < zI 48 := c3
       rw [zI_lt (by omega) (by omega) (by omega) (by omega)] at c3
       rw [if_neg (by omega)] at hq
       exact hq)
    | (have c9 : zI 57 < zI x := c9
       rw [zI_lt (by omega) (by omega) (by omega) (by omega)] at c9
       rw [if_neg (by omega)] at hq
       exact hq)
    | (have c9 : ¬ zI 57 < zI x := c9
       rw [zI_lt (by omega) (by omega) (by omega) (by omega)] at c9
       rw [if_pos (by omega)] at hq
       exact hq)
  · have c3 : ¬ zI x < zI 48 := c3
    rw [zI_lt (by omega) (by omega) (by omega) (by omega)] at c3
    refine s_iload_n (i := 0) dX7_isDigit_6 rfl rfl ?_
    refine s_bipush (v := 57) dX7_isDigit_7 (by decide) ?_
    refine s_icmp_gt (tgt := 16) dX7_isDigit_9 (by decide) (fun c9 => ?_) (fun c9 => ?_)
    · refine s_iconst (v := 0) dX7_isDigit_16 (by decide) ?_
      refine s_zret dX7_isDigit_17 rfl (by first | exact Or.inl rfl | exact Or.inr rfl) ?_
      first
      | (have c3 : zI x < zI 48 := c3
         rw [zI_lt (by omega) (by omega) (by omega) (by omega)] at c3
         rw [if_neg (by omega)] at hq
         exact hq)
      | (have c9 : zI 57 < zI x := c9
         rw [zI_lt (by omega) (by omega) (by omega) (by omega)] at c9
         rw [if_neg (by omega)] at hq
         exact hq)
      | (have c9 : ¬ zI 57 < zI x := c9
         rw [zI_lt (by omega) (by omega) (by omega) (by omega)] at c9
         rw [if_pos (by omega)] at hq
         exact hq)
    · refine s_iconst (v := 1) dX7_isDigit_12 (by decide) ?_
      refine s_goto (tgt := 17) dX7_isDigit_13 (by decide) ?_
      refine s_zret dX7_isDigit_17 rfl (by first | exact Or.inl rfl | exact Or.inr rfl) ?_
      first
      | (have c3 : zI x < zI 48 := c3
         rw [zI_lt (by omega) (by omega) (by omega) (by omega)] at c3
         rw [if_neg (by omega)] at hq
         exact hq)
      | (have c9 : zI 57 < zI x := c9
         rw [zI_lt (by omega) (by omega) (by omega) (by omega)] at c9
         rw [if_neg (by omega)] at hq
         exact hq)
      | (have c9 : ¬ zI 57 < zI x := c9
         rw [zI_lt (by omega) (by omega) (by omega) (by omega)] at c9
         rw [if_pos (by omega)] at hq
         exact hq)
set_option maxRecDepth 100000 in
set_option maxHeartbeats 4000000 in
theorem l_rdn {G : fG} {x0 : Nat} {l : Launch} {d k n : Nat} {T : fT} {J : fJ} {Q : Option Value → fT → fI → fJ → Prop} {tx : Nat → Int} {tl st : Nat} {least : Int} (hN : NrAt T) (hT : TxOk tx tl) : ∀ (z i p : Nat) (v : Int) (I : fI), i + z = 6 → p ≤ tl → RowTx T I tx tl → I 112 2 = zI p → I 112 3 = zI v → (kk : ∀ (I' : fI) (i' : Nat), fr I I' [112] → I' 112 2 = zI (rdn tx tl z p v).1 → I' 112 3 = zI (rdn tx tl z p v).2 → PW G x0 l mX7_readNumber (d + 1) (ZM G x0 Q) k n 77 [(0, .ref (x0 + 112)), (1, .int (zI least)), (2, .int (zI st)), (3, .int (zI i'))] [] T I' J) → PW G x0 l mX7_readNumber (d + 1) (ZM G x0 Q) k n 12 [(0, .ref (x0 + 112)), (1, .int (zI least)), (2, .int (zI st)), (3, .int (zI i))] [] T I J := by
  obtain ⟨n1, n2, n3, n4, n5, n6⟩ := id hN
  have e112 : (112 : Nat) < T.1 := by omega
  have e113 : (113 : Nat) < T.1 := by omega
  have e40 : (40 : Nat) < T.1 := by omega
  have k40 : T.2.1 40 = 9 := n6.2.2.1
  have k113 : T.2.1 113 = 9 := n5.2.2.1
  intro z
  induction z with
  | zero =>
    intro i p v I hz hp hX h2 h3 kk
    refine s_iload_n (i := 3) dX7_readNumber_12 rfl rfl ?_
    refine s_bipush (v := 6) dX7_readNumber_13 (by decide) ?_
    refine s_icmp_ge (tgt := 77) dX7_readNumber_15 (by decide) (fun h15 => ?_) (fun h15 => absurd (by show zI 6 ≤ zI i; rw [zI_le (by omega) (by omega) (by omega) (by omega)]; omega) h15)
    exact kk I i (fr_refl I _) h2 h3
  | succ z ih =>
    intro i p v I hz hp hX h2 h3 kk
    have ht := hX.2.1
    have hb := chz_bd (p := p) hT
    simp only [rdn] at kk
    refine s_iload_n (i := 3) dX7_readNumber_12 rfl rfl ?_
    refine s_bipush (v := 6) dX7_readNumber_13 (by decide) ?_
    refine s_icmp_ge (tgt := 77) dX7_readNumber_15 (by decide) (fun h15 => absurd h15 (by show ¬ zI 6 ≤ zI i; rw [zI_le (by omega) (by omega) (by omega) (by omega)]; omega)) (fun h15 => ?_)
    refine s_aload_n (i := 0) dX7_readNumber_18 rfl rfl ?_
    refine s_getR dX7_readNumber_19 fl_X7_20 (by assumption) (by assumption) (by assumption) ?_
    refine s_aload_n (i := 0) dX7_readNumber_22 rfl rfl ?_
    refine s_getI dX7_readNumber_23 fl_X7_23 (by assumption) (by assumption) ?_
    refine s_topi h2 ?_
    refine s_cV_I (My := mX9_get) dX7_readNumber_26 wM_X7_37 cb_yX9_get ci_yX9_get (by assumption) (by assumption) (Nat.le_of_ble_eq_true rfl) (by decide) (c_get n6 (by rw [hX.2.2.1]; have := hX.2.1; omega) (rget_ch hX (by omega)) ?_)
    refine s_cS_I (My := mX7_isDigit) dX7_readNumber_29 wM_X7_52 cb_yX7_isDigit wT_yX7_isDigit (Nat.le_of_ble_eq_true rfl) (by decide) (c_isDigit hb ?_)
    refine s_if_eq (tgt := 77) dX7_readNumber_32 (by decide) (fun c32 => ?_) (fun c32 => ?_)
    · have hd : ¬ (48 ≤ chz tx tl p ∧ chz tx tl p ≤ 57) := fun h => by rw [if_pos h] at c32; exact absurd c32 (by decide)
      rw [if_neg hd] at kk
      exact kk I i (fr_refl I _) h2 h3
    · have hd : 48 ≤ chz tx tl p ∧ chz tx tl p ≤ 57 := by
        by_cases h : 48 ≤ chz tx tl p ∧ chz tx tl p ≤ 57
        · exact h
        · exact absurd (if_neg h) c32
      have hpl := dig_lt hd
      rw [if_pos hd] at kk
      refine s_aload_n (i := 0) dX7_readNumber_35 rfl rfl ?_
      refine s_bipush (v := 10) dX7_readNumber_36 (by decide) ?_
      refine s_aload_n (i := 0) dX7_readNumber_38 rfl rfl ?_
      refine s_getI dX7_readNumber_39 fl_X7_40 (by assumption) (by assumption) ?_
      refine s_imul dX7_readNumber_42 ?_
      refine s_aload_n (i := 0) dX7_readNumber_43 rfl rfl ?_
      refine s_getR dX7_readNumber_44 fl_X7_20 (by assumption) (by assumption) (by assumption) ?_
      refine s_aload_n (i := 0) dX7_readNumber_47 rfl rfl ?_
      refine s_getI dX7_readNumber_48 fl_X7_23 (by assumption) (by assumption) ?_
      refine s_topi h2 ?_
      refine s_cV_I (My := mX9_get) dX7_readNumber_51 wM_X7_37 cb_yX9_get ci_yX9_get (by assumption) (by assumption) (Nat.le_of_ble_eq_true rfl) (by decide) (c_get n6 (by rw [hX.2.2.1]; have := hX.2.1; omega) (rget_ch hX (by omega)) ?_)
      refine s_iadd dX7_readNumber_54 ?_
      refine s_bipush (v := 48) dX7_readNumber_55 (by decide) ?_
      refine s_isub dX7_readNumber_57 ?_
      refine s_topi (y := zI (10 * v + chz tx tl p - 48)) (by rw [h3]; show zI 10 * zI v + zI _ - zI 48 = _; rw [zI_mul, zI_add, zI_sub]) ?_
      refine s_putI dX7_readNumber_58 fp_X7_40 (by assumption) (by assumption) ?_
      refine s_aload_n (i := 0) dX7_readNumber_61 rfl rfl ?_
      refine s_dup dX7_readNumber_62 rfl ?_
      refine s_getI dX7_readNumber_63 fl_X7_23 (by assumption) (by assumption) ?_
      refine s_iconst (v := 1) dX7_readNumber_66 (by decide) ?_
      refine s_iadd dX7_readNumber_67 ?_
      refine s_topi (y := zI ((p + 1 : Nat) : Int)) (by rw [iu_j (by omega), h2, z1, zI_add]; congr 1) ?_
      refine s_putI dX7_readNumber_68 fp_X7_23 (by assumption) (by assumption) ?_
      refine s_iinc dX7_readNumber_71 rfl (zI_inc _) (by decide) (by simp only [sl, sl2, rm, Value.category, reduceIte, Nat.reduceAdd, Nat.reduceEqDiff, reduceCtorEq]; rfl) ?_
      refine s_goto (tgt := 12) dX7_readNumber_74 (by decide) ?_
      exact ih (i + 1) (p + 1) _ _ (by omega) (by omega) (RowIs.fr hX (by rw [iu_ne (by omega), iu_ne (by omega)]) (by rw [iu_ne (by omega), iu_ne (by omega)])) iu_at (by rw [iu_j (by omega), iu_at]) (fun I' i' hf u2 u3 => kk I' i' (fr_trans (fr_trans (fr_iu (by simp)) (fr_iu (by simp))) hf) u2 u3)
set_option maxRecDepth 100000 in
set_option maxHeartbeats 4000000 in
theorem c_readNumber {G : fG} {x0 : Nat} {l : Launch} {d k n : Nat} {T : fT} {I : fI} {J : fJ} {Q : Option Value → fT → fI → fJ → Prop} {tx : Nat → Int} {tl p : Nat} {least : Int} (hN : NrAt T) (hT : TxOk tx tl) (hp : p ≤ tl) (hl : -10 ≤ least ∧ least ≤ 10000000) (hX : RowTx T I tx tl) (h2 : I 112 2 = zI p) (hq : ∀ I', fr I I' [112] → I' 112 2 = zI (rdn tx tl 6 p 0).1 → I' 112 3 = zI (rdn tx tl 6 p 0).2 → Q (some (.int (zI (if (rdn tx tl 6 p 0).1 = p ∨ (rdn tx tl 6 p 0).2 < least then (p : Int) else -1)))) T I' J) : PW G x0 l mX7_readNumber (d + 1) (ZM G x0 Q) k n 0 [(0, .ref (x0 + 112)), (1, .int (zI least))] [] T I J := by
  obtain ⟨n1, n2, n3, n4, n5, n6⟩ := id hN
  have e112 : (112 : Nat) < T.1 := by omega
  have e113 : (113 : Nat) < T.1 := by omega
  have e40 : (40 : Nat) < T.1 := by omega
  have k40 : T.2.1 40 = 9 := n6.2.2.1
  have k113 : T.2.1 113 = 9 := n5.2.2.1
  have ht := hX.2.1
  have hr := rdn_bd tx tl 6 p 0 (by omega)
  have hr1 := hr.2.1 hp
  refine s_aload_n (i := 0) dX7_readNumber_0 rfl rfl ?_
  refine s_getI dX7_readNumber_1 fl_X7_23 (by assumption) (by assumption) ?_
  refine s_topi h2 ?_
  refine s_istore_n (i := 2) dX7_readNumber_4 rfl (by decide) (by simp only [sl, sl2, rm, Value.category, reduceIte, Nat.reduceAdd, Nat.reduceEqDiff, reduceCtorEq]; rfl) ?_
  refine s_aload_n (i := 0) dX7_readNumber_5 rfl rfl ?_
  refine s_iconst (v := 0) dX7_readNumber_6 (by decide) ?_
  refine s_putI dX7_readNumber_7 fp_X7_40 (by assumption) (by assumption) ?_
  refine s_iconst (v := 0) dX7_readNumber_10 (by decide) ?_
  refine s_istore_n (i := 3) dX7_readNumber_11 rfl (by decide) (by simp only [sl, sl2, rm, Value.category, reduceIte, Nat.reduceAdd, Nat.reduceEqDiff, reduceCtorEq]; rfl) ?_
  refine l_rdn hN hT 6 0 p 0 _ (by omega) hp (RowIs.fr hX (iu_ne (by omega)) (iu_ne (by omega))) (by rw [iu_j (by omega)]; exact h2) iu_at (fun I' i' hf u2 u3 => ?_)
  have hf' : fr I I' [112] := fr_trans (fr_iu (by simp)) hf
  refine s_aload_n (i := 0) dX7_readNumber_77 rfl rfl ?_
  refine s_getI dX7_readNumber_78 fl_X7_23 (by assumption) (by assumption) ?_
  refine s_iload_n (i := 2) dX7_readNumber_81 rfl rfl ?_
  refine s_icmp_eq (tgt := 93) dX7_readNumber_82 (by decide) (fun c82 => ?_) (fun c82 => ?_)
  · refine s_iload_n (i := 2) dX7_readNumber_93 rfl rfl ?_
    refine s_goto (tgt := 98) dX7_readNumber_94 (by decide) ?_
    refine s_iret dX7_readNumber_98 rfl ?_
    have hq2 := hq I' hf' u2 u3
    first
    | (rw [u2, zI_eq (by omega) (by omega) (by omega) (by omega)] at c82
       rw [if_pos (Or.inl (by omega))] at hq2
       exact hq2)
    | (rw [u3, zI_le (by omega) (by omega) (by omega) (by omega)] at c90
       rw [if_neg (by omega)] at hq2
       exact hq2)
    | (rw [u3, zI_le (by omega) (by omega) (by omega) (by omega)] at c90
       rw [if_pos (Or.inr (by omega))] at hq2
       exact hq2)
  · rw [u2, zI_eq (by omega) (by omega) (by omega) (by omega)] at c82
    refine s_aload_n (i := 0) dX7_readNumber_85 rfl rfl ?_
    refine s_getI dX7_readNumber_86 fl_X7_40 (by assumption) (by assumption) ?_
    refine s_iload_n (i := 1) dX7_readNumber_89 rfl rfl ?_
    refine s_icmp_ge (tgt := 97) dX7_readNumber_90 (by decide) (fun c90 => ?_) (fun c90 => ?_)
    · refine s_iconst (v := -1) dX7_readNumber_97 (by decide) ?_
      refine s_iret dX7_readNumber_98 rfl ?_
      have hq2 := hq I' hf' u2 u3
      first
      | (rw [u2, zI_eq (by omega) (by omega) (by omega) (by omega)] at c82
         rw [if_pos (Or.inl (by omega))] at hq2
         exact hq2)
      | (rw [u3, zI_le (by omega) (by omega) (by omega) (by omega)] at c90
         rw [if_neg (by omega)] at hq2
         exact hq2)
      | (rw [u3, zI_le (by omega) (by omega) (by omega) (by omega)] at c90
         rw [if_pos (Or.inr (by omega))] at hq2
         exact hq2)
    · refine s_iload_n (i := 2) dX7_readNumber_93 rfl rfl ?_
      refine s_goto (tgt := 98) dX7_readNumber_94 (by decide) ?_
      refine s_iret dX7_readNumber_98 rfl ?_
      have hq2 := hq I' hf' u2 u3
      first
      | (rw [u2, zI_eq (by omega) (by omega) (by omega) (by omega)] at c82
         rw [if_pos (Or.inl (by omega))] at hq2
         exact hq2)
      | (rw [u3, zI_le (by omega) (by omega) (by omega) (by omega)] at c90
         rw [if_neg (by omega)] at hq2
         exact hq2)
      | (rw [u3, zI_le (by omega) (by omega) (by omega) (by omega)] at c90
         rw [if_pos (Or.inr (by omega))] at hq2
         exact hq2)
