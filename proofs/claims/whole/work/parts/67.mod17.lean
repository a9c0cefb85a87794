/-! the model reads an expression whole -/
theorem skp_ne {tx : Nat → Int} {tl : Nat} : ∀ z p, tl - p ≤ z → chz tx tl (skp tx tl z p) ≠ 32 := by
  intro z
  induction z with
  | zero => intro p h; simp only [skp]; rw [chz_out (by omega)]; decide
  | succ z ih =>
    intro p h
    simp only [skp]
    by_cases c : chz tx tl p = 32
    · rw [if_pos c]; exact ih (p + 1) (by omega)
    · rw [if_neg c]; exact c
theorem sk_ne {tx : Nat → Int} {tl p : Nat} (h : sk tx tl p < tl) : tx (sk tx tl p) ≠ 32 := by
  have h1 := skp_ne (tx := tx) (tl := tl) tl p (by omega)
  change chz tx tl (sk tx tl p) ≠ 32 at h1
  unfold chz at h1
  rw [if_pos h] at h1
  exact h1
theorem ExOk.mono {s : eS} {i j : Nat} (h : ExOk s i) (hij : i ≤ j) : ExOk s j := ⟨by have := h.1; omega, h.2⟩
set_option maxRecDepth 100000 in
set_option maxHeartbeats 1000000 in
theorem ml_x91 {G : fG} {x0 : Nat} {l : Launch} {d k n : Nat} {T : fT} {I : fI} {J : fJ} {Q : Option Value → fT → fI → fJ → Prop} {tx : Nat → Int} {tl : Nat} (hM : MObj T) (hT : TxOk tx tl) (htl : tl ≤ 100) {out w : List Int} {dp : Nat} {due : Bool} {f : Int} (hX : TextM I (tx, tl)) (hO : OrdM I out) (hW : WtM I w) (h33 : I 144 33 = zI dp) (hl : out.length + w.length ≤ 100) (hdp : dp ≤ 1000) (h20 : I 144 20 = zI f) (hf : -1 ≤ f ∧ f ≤ 1000) (hq : ∀ I', frX I I' → I' 144 20 = zI (if f = -1 ∧ (due = true ∨ 0 < dp) then (tl : Int) else f) → OrdM I' (out ++ w) → Q none T I' J) : PW G x0 l mX12_readsExpression (d + 2) (ZM G x0 Q) k n 91 [(0, .ref (x0 + 144)), (1, .int (if due = true then 1 else 0))] [] T I J := by
  obtain ⟨o1, o2⟩ := hM.o
  obtain ⟨r161, b161, k161, n161⟩ := hM.a161
  have bad : ∀ c1 : Int32, (due = true ∨ 0 < dp) → PW G x0 l mX12_readsExpression (d + 2) (ZM G x0 Q) k n 102 [(0, .ref (x0 + 144)), (1, .int c1)] [] T I J := by
    intro c1 hc
    obtain ⟨h18, -⟩ := id hX
    refine s_aload_n (i := 0) dX12_readsExpression_102 rfl rfl ?_
    refine s_aload_n (i := 0) dX12_readsExpression_103 rfl rfl ?_
    refine s_getI dX12_readsExpression_104 fl_X12_170 (by assumption) (by assumption) ?_
    rw [h18]
    refine s_cV_I (My := mX12_fails) dX12_readsExpression_107 wM_X12_183 cb_yX12_fails ci_yX12_fails (by assumption) (by assumption) (Nat.le_of_ble_eq_true rfl) (by decide) (s_d (by omega) (m_fails (d := 0) (x := tl) hM h20 hf (fun I1 hf1 hj1 h1 => ?_)))
    refine ml_popC hM w out I1 hl (hO.fr (hj1 30 (by omega)) (hf1 160 (by decide))) (hW.fr (hj1 32 (by omega)) (hf1 161 (by decide))) (fun I2 hf2 g20 hO2 => hq I2 ((frX.of (j := 20) (by omega) hf1 hj1).trans hf2) ?_ hO2)
    rw [g20, h1]
    by_cases e : f = -1
    · rw [if_pos e, if_pos ⟨e, hc⟩]
    · rw [if_neg e, if_neg (fun h => e h.1)]
  cases due with
  | true =>
    refine s_iload_n (i := 1) dX12_readsExpression_91 rfl rfl ?_
    refine s_if_ne (tgt := 102) dX12_readsExpression_92 (by decide) (fun h92 => ?_) (fun h92 => absurd h92 (by decide))
    exact bad _ (Or.inl rfl)
  | false =>
    by_cases c : 0 < dp
    · refine s_iload_n (i := 1) dX12_readsExpression_91 rfl rfl ?_
      refine s_if_ne (tgt := 102) dX12_readsExpression_92 (by decide) (fun h92 => absurd h92 (fun h => h rfl)) (fun h92 => ?_)
      refine s_aload_n (i := 0) dX12_readsExpression_95 rfl rfl ?_
      refine s_getI dX12_readsExpression_96 fl_X12_246 (by assumption) (by assumption) ?_
      rw [h33]
      refine s_if_le (tgt := 110) dX12_readsExpression_99 (by decide) (fun h99 => absurd h99 (fun h => by rw [z0, zI_le (by omega) (by omega) (by omega) (by omega)] at h; omega)) (fun h99 => ?_)
      exact bad _ (Or.inr c)
    · refine s_iload_n (i := 1) dX12_readsExpression_91 rfl rfl ?_
      refine s_if_ne (tgt := 102) dX12_readsExpression_92 (by decide) (fun h92 => absurd h92 (fun h => h rfl)) (fun h92 => ?_)
      refine s_aload_n (i := 0) dX12_readsExpression_95 rfl rfl ?_
      refine s_getI dX12_readsExpression_96 fl_X12_246 (by assumption) (by assumption) ?_
      rw [h33]
      refine s_if_le (tgt := 110) dX12_readsExpression_99 (by decide) (fun h99 => ?_) (fun h99 => absurd (by rw [z0]; exact (zI_le (by omega) (by omega) (by omega) (by omega)).mpr (by omega)) h99)
      refine ml_popC hM w out I hl hO hW (fun I2 hf2 g20 hO2 => hq I2 hf2 ?_ hO2)
      rw [g20, h20, if_neg]
      intro h
      rcases h.2 with h | h
      · exact absurd h (by decide)
      · exact c h
set_option maxRecDepth 100000 in
set_option maxHeartbeats 1000000 in
theorem ml_xbad {G : fG} {x0 : Nat} {l : Launch} {d k n : Nat} {T : fT} {I : fI} {J : fJ} {Q : Option Value → fT → fI → fJ → Prop} {tx : Nat → Int} {tl : Nat} (hM : MObj T) (hT : TxOk tx tl) (htl : tl ≤ 100) {p : Nat} {s : eS} {due : Bool} {e1 : Int32} {f : Int} (hX : TextM I (tx, tl)) (hp : p < tl) (h19 : I 144 19 = zI p) (h20 : I 144 20 = zI f) (hf : 0 ≤ f ∧ f ≤ 1000) (hS : XM I s) (hl : s.1.length + s.2.1.length ≤ 100) (hdp : s.2.2.1 ≤ 1000) (hq : ∀ I', frX I I' → I' 144 20 = zI f → Q none T I' J) : PW G x0 l mX12_readsExpression (d + 2) (ZM G x0 Q) k n 73 [(0, .ref (x0 + 144)), (1, .int e1)] [.int (if due = true then 1 else 0)] T I J := by
  obtain ⟨o1, o2⟩ := hM.o
  obtain ⟨r161, b161, k161, n161⟩ := hM.a161
  refine s_istore_n (i := 1) dX12_readsExpression_73 rfl (by decide) (by simp only [sl, sl2, rm, Value.category, reduceIte, Nat.reduceAdd, Nat.reduceEqDiff, reduceCtorEq]; rfl) ?_
  refine s_aload_n (i := 0) dX12_readsExpression_74 rfl rfl ?_
  refine s_dup dX12_readsExpression_75 rfl ?_
  refine s_getI dX12_readsExpression_76 fl_X12_173 (by assumption) (by assumption) ?_
  rw [h19]
  refine s_iconst (v := 1) dX12_readsExpression_79 (by decide) ?_
  refine s_iadd dX12_readsExpression_80 ?_
  refine s_topi (y := zI ((p + 1 : Nat) : Int)) (by first | with_reducible rfl | ((try simp only [z0, z1, zm1, zm2, zm3, zm4, zl2, zl3, zl4, zl5, zl6, zl7, zl8, zl9, zl10, zl20, zl28, zl31, zl32, zl33, zl48, zl57, zl64, zl100, zl127, zl200, zl201, zl202, zl402, zl1200, zl2412, zl16884, zI_add, zI_sub, zI_mul, zI_inc, zI_dec]) <;> (congr 1 <;> omega))) ?_
  refine s_putI dX12_readsExpression_81 fp_X12_173 (by assumption) (by assumption) ?_
  refine s_aload_n (i := 0) dX12_readsExpression_84 rfl rfl ?_
  refine s_cV_ (My := mX12_skips) dX12_readsExpression_85 wM_X12_189 cb_yX12_skips ci_yX12_skips (by assumption) (by assumption) (Nat.le_of_ble_eq_true rfl) (by decide) (s_d (by omega) (m_skips (d := 0) (p := p + 1) hM hT htl (hX.fr (iu_j (by omega)) (iu_ne (by omega))) iu_at (by omega) (fun I2 hf2 hj2 h2 => ?_)))
  refine s_goto (tgt := 31) dX12_readsExpression_88 (by decide) ?_
  have hX2 : TextM I2 (tx, tl) := hX.fr (by rw [hj2 18 (by omega), iu_j (by omega)]) (by rw [hf2 155 (by decide), iu_ne (by omega)])
  have hS2 : XM I2 s := XM.of (j := 19) (by omega) (XM.of (j := 19) (by omega) hS (fr_iu (by simp)) (fun q h => iu_j h)) hf2 hj2
  have g20 : I2 144 20 = zI f := by rw [hj2 20 (by omega), iu_j (by omega)]; exact h20
  have hff : frX I I2 := (frX.put (j := 19) (by omega)).trans (frX.of (j := 19) (by omega) hf2 hj2)
  obtain ⟨h18, -⟩ := id hX2
  have s2 := (sk_ge tx tl (p + 1)).2 (by omega)
  have go : PW G x0 l mX12_readsExpression (d + 2) (ZM G x0 Q) k n 91 [(0, .ref (x0 + 144)), (1, .int (if due = true then 1 else 0))] [] T I2 J := ml_x91 hM hT htl hX2 hS2.1 hS2.2.1 hS2.2.2 hl hdp g20 (by omega) (fun I3 hf3 g _ => hq I3 (hff.trans hf3) (by rw [g, if_neg (fun h => by omega)]))
  by_cases c : sk tx tl (p + 1) < tl
  · refine s_aload_n (i := 0) dX12_readsExpression_31 rfl rfl ?_
    refine s_getI dX12_readsExpression_32 fl_X12_173 (by assumption) (by assumption) ?_
    rw [h2]
    refine s_aload_n (i := 0) dX12_readsExpression_35 rfl rfl ?_
    refine s_getI dX12_readsExpression_36 fl_X12_170 (by assumption) (by assumption) ?_
    rw [h18]
    refine s_icmp_ge (tgt := 91) dX12_readsExpression_39 (by decide) (fun h39 => absurd h39 (fun h => by have h := (zI_le (by omega) (by omega) (by omega) (by omega)).mp h; have h : (tl : Int) ≤ sk tx tl (p + 1) := h; omega)) (fun h39 => ?_)
    refine s_aload_n (i := 0) dX12_readsExpression_42 rfl rfl ?_
    refine s_getI dX12_readsExpression_43 fl_X12_180 (by assumption) (by assumption) ?_
    rw [g20]
    refine s_iconst (v := -1) dX12_readsExpression_46 (by decide) ?_
    refine s_icmp_ne (tgt := 91) dX12_readsExpression_47 (by decide) (fun h47 => ?_) (fun h47 => absurd h47 (fun h => by rw [zm1, zI_eq (by omega) (by omega) (by omega) (by omega)] at h; omega))
    exact go
  · refine s_aload_n (i := 0) dX12_readsExpression_31 rfl rfl ?_
    refine s_getI dX12_readsExpression_32 fl_X12_173 (by assumption) (by assumption) ?_
    rw [h2]
    refine s_aload_n (i := 0) dX12_readsExpression_35 rfl rfl ?_
    refine s_getI dX12_readsExpression_36 fl_X12_170 (by assumption) (by assumption) ?_
    rw [h18]
    refine s_icmp_ge (tgt := 91) dX12_readsExpression_39 (by decide) (fun h39 => ?_) (fun h39 => absurd ((zI_le (by omega) (by omega) (by omega) (by omega)).mpr (by show (tl : Int) ≤ _; omega)) h39)
    exact go
set_option maxRecDepth 100000 in
set_option maxHeartbeats 1000000 in
theorem ml_xr {G : fG} {x0 : Nat} {l : Launch} {d k n : Nat} {T : fT} {J : fJ} {Q : Option Value → fT → fI → fJ → Prop} {tx : Nat → Int} {tl : Nat} (hM : MObj T) (hT : TxOk tx tl) (htl : tl ≤ 100) : ∀ (N p : Nat) (s : eS) (I : fI), tl - p ≤ N → p ≤ tl → (p < tl → tx p ≠ 32) → TextM I (tx, tl) → I 144 19 = zI p → I 144 20 = zI (-1) → XM I s → ExOk s p → (∀ (I' : fI) (r : Int × List Int), r = prs tx tl (tl - p) p s → frX I I' → I' 144 20 = zI r.1 → (r.1 = -1 → OrdM I' r.2) → Q none T I' J) → PW G x0 l mX12_readsExpression (d + 2) (ZM G x0 Q) k n 31 [(0, .ref (x0 + 144)), (1, .int (if s.2.2.2 = true then 1 else 0))] [] T I J := by
  obtain ⟨o1, o2⟩ := hM.o
  obtain ⟨r161, b161, k161, n161⟩ := hM.a161
  have fin : ∀ (p : Nat) (s : eS) (I : fI), p = tl → TextM I (tx, tl) → I 144 19 = zI p → I 144 20 = zI (-1) → XM I s → ExOk s p → (∀ (I' : fI) (r : Int × List Int), r = prs tx tl (tl - p) p s → frX I I' → I' 144 20 = zI r.1 → (r.1 = -1 → OrdM I' r.2) → Q none T I' J) → PW G x0 l mX12_readsExpression (d + 2) (ZM G x0 Q) k n 31 [(0, .ref (x0 + 144)), (1, .int (if s.2.2.2 = true then 1 else 0))] [] T I J := by
    intro p s I hp hX h19 h20 hS hk hq
    obtain ⟨out, w, dp, due⟩ := s
    obtain ⟨hO, hW, h33⟩ := hS
    obtain ⟨k1, k2, k3, k4⟩ := hk
    dsimp only at *
    obtain ⟨h18, -⟩ := id hX
    rw [show tl - p = 0 by omega] at hq
    simp only [prs] at hq
    refine s_aload_n (i := 0) dX12_readsExpression_31 rfl rfl ?_
    refine s_getI dX12_readsExpression_32 fl_X12_173 (by assumption) (by assumption) ?_
    rw [h19]
    refine s_aload_n (i := 0) dX12_readsExpression_35 rfl rfl ?_
    refine s_getI dX12_readsExpression_36 fl_X12_170 (by assumption) (by assumption) ?_
    rw [h18]
    refine s_icmp_ge (tgt := 91) dX12_readsExpression_39 (by decide) (fun h39 => ?_) (fun h39 => absurd ((zI_le (by omega) (by omega) (by omega) (by omega)).mpr (by show (tl : Int) ≤ _; omega)) h39)
    refine ml_x91 hM hT htl hX hO hW h33 (by omega) (by omega) h20 (by omega) (fun I1 hf1 g20 hO1 => ?_)
    by_cases c : due = true ∨ 0 < dp
    · rw [if_pos ⟨rfl, c⟩] at g20
      exact hq I1 _ (by rw [if_pos c]) hf1 g20 (fun h => absurd h (by dsimp only; omega))
    · rw [if_neg (fun h => c h.2)] at g20
      refine hq I1 _ (by rw [if_neg c]) hf1 g20 (fun _ => ?_)
      dsimp only
      rw [rel_all w out (fun t h => (k2 t h).2.2) (by omega)]
      exact hO1
  intro N
  induction N with
  | zero =>
    intro p s I hN hp h32 hX h19 h20 hS hk hq
    exact fin p s I (by omega) hX h19 h20 hS hk hq
  | succ N ih =>
    intro p s I hN hp h32 hX h19 h20 hS hk hq
    by_cases hpl : p = tl
    · exact fin p s I hpl hX h19 h20 hS hk hq
    have hlt : p < tl := by omega
    have h32 := h32 hlt
    have hcb := hT p hlt
    obtain ⟨h18, -⟩ := id hX
    obtain ⟨out, w, dp, due⟩ := s
    have k1 := hk.1
    have k4 := hk.2.2.2
    dsimp only at k1 k4
    have none : ∀ r, estep (out, w, dp, due) (tx p) = none → r = ((p : Int), ([] : List Int)) → r = prs tx tl (tl - p) p (out, w, dp, due) := fun r he hr => by
      rw [hr, show tl - p = (tl - (p + 1)) + 1 by omega]
      simp only [prs]
      rw [he]
    cases due with
    | true =>
      refine s_aload_n (i := 0) dX12_readsExpression_31 rfl rfl ?_
      refine s_getI dX12_readsExpression_32 fl_X12_173 (by assumption) (by assumption) ?_
      rw [h19]
      refine s_aload_n (i := 0) dX12_readsExpression_35 rfl rfl ?_
      refine s_getI dX12_readsExpression_36 fl_X12_170 (by assumption) (by assumption) ?_
      rw [h18]
      refine s_icmp_ge (tgt := 91) dX12_readsExpression_39 (by decide) (fun h39 => absurd h39 (fun h => by have h := (zI_le (by omega) (by omega) (by omega) (by omega)).mp h; have h : (tl : Int) ≤ p := h; omega)) (fun h39 => ?_)
      refine s_aload_n (i := 0) dX12_readsExpression_42 rfl rfl ?_
      refine s_getI dX12_readsExpression_43 fl_X12_180 (by assumption) (by assumption) ?_
      rw [h20]
      refine s_iconst (v := -1) dX12_readsExpression_46 (by decide) ?_
      refine s_icmp_ne (tgt := 91) dX12_readsExpression_47 (by decide) (fun h47 => absurd h47 (fun h => h zm1.symm)) (fun h47 => ?_)
      refine s_iload_n (i := 1) dX12_readsExpression_50 rfl rfl ?_
      refine s_topi (y := 1) (if_pos rfl) ?_
      refine s_if_eq (tgt := 69) dX12_readsExpression_51 (by decide) (fun h51 => absurd h51 (by decide)) (fun h51 => ?_)
      refine s_aload_n (i := 0) dX12_readsExpression_54 rfl rfl ?_
      refine s_cV_ (My := mX12_readsOperand) dX12_readsExpression_55 wM_X12_257 cb_yX12_readsOperand ci_yX12_readsOperand (by assumption) (by assumption) (Nat.le_of_ble_eq_true rfl) (by decide) (s_d (by omega) (m_readsOperand (d := 0) hM hT htl hX hlt h19 h20 hS hk h32 ?_ ?_))
      · intro I1 out' hes hf1 g19 g20 hl1 hS1
        refine s_if_ne (tgt := 65) dX12_readsExpression_58 (by decide) (fun h58 => ?_) (fun h58 => absurd h58 (by decide))
        refine s_iconst (v := 0) dX12_readsExpression_65 (by decide) ?_
        refine s_goto (tgt := 73) dX12_readsExpression_66 (by decide) ?_
        exact ml_xbad (due := false) hM hT htl (hf1.tx hX) hlt g19 g20 (by omega) hS1 hl1 (by show dp ≤ 1000; omega) (fun I2 hf2 g => hq I2 _ (none _ hes rfl) (hf1.trans hf2) g (fun h => absurd h (by dsimp only; omega)))
      · intro s' I1 hes hf1 g19 g20 hS1
        have hk2 : ExOk s' (p + 1) := hk.step hcb hes
        have hpr : prs tx tl (tl - p) p (out, w, dp, true) = prs tx tl (tl - sk tx tl (p + 1)) (sk tx tl (p + 1)) s' := by
          rw [← prs_sk (tl - (p + 1)) (p + 1) s' (by omega), show tl - p = (tl - (p + 1)) + 1 by omega]
          simp only [prs]
          rw [hes]
        rw [hpr] at hq
        have hX1 := hf1.tx hX
        obtain ⟨sk1, sk2⟩ := sk_ge tx tl (p + 1)
        have sk2 := sk2 (by omega)
        by_cases hdu : s'.2.2.2 = true
        · rw [if_pos hdu]
          refine s_if_ne (tgt := 65) dX12_readsExpression_58 (by decide) (fun h58 => absurd h58 (fun h => h rfl)) (fun h58 => ?_)
          refine s_iconst (v := 1) dX12_readsExpression_61 (by decide) ?_
          refine s_goto (tgt := 73) dX12_readsExpression_62 (by decide) ?_
          refine s_istore_n (i := 1) dX12_readsExpression_73 rfl (by decide) (by simp only [sl, sl2, rm, Value.category, reduceIte, Nat.reduceAdd, Nat.reduceEqDiff, reduceCtorEq]; rfl) ?_
          refine s_aload_n (i := 0) dX12_readsExpression_74 rfl rfl ?_
          refine s_dup dX12_readsExpression_75 rfl ?_
          refine s_getI dX12_readsExpression_76 fl_X12_173 (by assumption) (by assumption) ?_
          rw [g19]
          refine s_iconst (v := 1) dX12_readsExpression_79 (by decide) ?_
          refine s_iadd dX12_readsExpression_80 ?_
          refine s_topi (y := zI ((p + 1 : Nat) : Int)) (by first | with_reducible rfl | ((try simp only [z0, z1, zm1, zm2, zm3, zm4, zl2, zl3, zl4, zl5, zl6, zl7, zl8, zl9, zl10, zl20, zl28, zl31, zl32, zl33, zl48, zl57, zl64, zl100, zl127, zl200, zl201, zl202, zl402, zl1200, zl2412, zl16884, zI_add, zI_sub, zI_mul, zI_inc, zI_dec]) <;> (congr 1 <;> omega))) ?_
          refine s_putI dX12_readsExpression_81 fp_X12_173 (by assumption) (by assumption) ?_
          refine s_aload_n (i := 0) dX12_readsExpression_84 rfl rfl ?_
          refine s_cV_ (My := mX12_skips) dX12_readsExpression_85 wM_X12_189 cb_yX12_skips ci_yX12_skips (by assumption) (by assumption) (Nat.le_of_ble_eq_true rfl) (by decide) (s_d (by omega) (m_skips (d := 0) (p := p + 1) hM hT htl (hX1.fr (iu_j (by omega)) (iu_ne (by omega))) iu_at (by omega) (fun I2 hf2 hj2 h2 => ?_)))
          refine s_goto (tgt := 31) dX12_readsExpression_88 (by decide) ?_
          have hX2 : TextM I2 (tx, tl) := hX1.fr (by rw [hj2 18 (by omega), iu_j (by omega)]) (by rw [hf2 155 (by decide), iu_ne (by omega)])
          have hff : frX I1 I2 := (frX.put (j := 19) (by omega)).trans (frX.of (j := 19) (by omega) hf2 hj2)
          have hin := ih (sk tx tl (p + 1)) s' I2 (by omega) sk2 (fun h => sk_ne h) hX2 h2 (by rw [hj2 20 (by omega), iu_j (by omega)]; exact g20) (XM.of (j := 19) (by omega) (XM.of (j := 19) (by omega) hS1 (fr_iu (by simp)) (fun q h => iu_j h)) hf2 hj2) (hk2.mono (by omega)) (fun I' r hr hf a b => hq I' r hr (hf1.trans (hff.trans hf)) a b)
          rw [if_pos hdu] at hin
          exact hin
        · rw [if_neg hdu]
          refine s_if_ne (tgt := 65) dX12_readsExpression_58 (by decide) (fun h58 => ?_) (fun h58 => absurd h58 (by decide))
          refine s_iconst (v := 0) dX12_readsExpression_65 (by decide) ?_
          refine s_goto (tgt := 73) dX12_readsExpression_66 (by decide) ?_
          refine s_istore_n (i := 1) dX12_readsExpression_73 rfl (by decide) (by simp only [sl, sl2, rm, Value.category, reduceIte, Nat.reduceAdd, Nat.reduceEqDiff, reduceCtorEq]; rfl) ?_
          refine s_aload_n (i := 0) dX12_readsExpression_74 rfl rfl ?_
          refine s_dup dX12_readsExpression_75 rfl ?_
          refine s_getI dX12_readsExpression_76 fl_X12_173 (by assumption) (by assumption) ?_
          rw [g19]
          refine s_iconst (v := 1) dX12_readsExpression_79 (by decide) ?_
          refine s_iadd dX12_readsExpression_80 ?_
          refine s_topi (y := zI ((p + 1 : Nat) : Int)) (by first | with_reducible rfl | ((try simp only [z0, z1, zm1, zm2, zm3, zm4, zl2, zl3, zl4, zl5, zl6, zl7, zl8, zl9, zl10, zl20, zl28, zl31, zl32, zl33, zl48, zl57, zl64, zl100, zl127, zl200, zl201, zl202, zl402, zl1200, zl2412, zl16884, zI_add, zI_sub, zI_mul, zI_inc, zI_dec]) <;> (congr 1 <;> omega))) ?_
          refine s_putI dX12_readsExpression_81 fp_X12_173 (by assumption) (by assumption) ?_
          refine s_aload_n (i := 0) dX12_readsExpression_84 rfl rfl ?_
          refine s_cV_ (My := mX12_skips) dX12_readsExpression_85 wM_X12_189 cb_yX12_skips ci_yX12_skips (by assumption) (by assumption) (Nat.le_of_ble_eq_true rfl) (by decide) (s_d (by omega) (m_skips (d := 0) (p := p + 1) hM hT htl (hX1.fr (iu_j (by omega)) (iu_ne (by omega))) iu_at (by omega) (fun I2 hf2 hj2 h2 => ?_)))
          refine s_goto (tgt := 31) dX12_readsExpression_88 (by decide) ?_
          have hX2 : TextM I2 (tx, tl) := hX1.fr (by rw [hj2 18 (by omega), iu_j (by omega)]) (by rw [hf2 155 (by decide), iu_ne (by omega)])
          have hff : frX I1 I2 := (frX.put (j := 19) (by omega)).trans (frX.of (j := 19) (by omega) hf2 hj2)
          have hin := ih (sk tx tl (p + 1)) s' I2 (by omega) sk2 (fun h => sk_ne h) hX2 h2 (by rw [hj2 20 (by omega), iu_j (by omega)]; exact g20) (XM.of (j := 19) (by omega) (XM.of (j := 19) (by omega) hS1 (fr_iu (by simp)) (fun q h => iu_j h)) hf2 hj2) (hk2.mono (by omega)) (fun I' r hr hf a b => hq I' r hr (hf1.trans (hff.trans hf)) a b)
          rw [if_neg hdu] at hin
          exact hin
    | false =>
      refine s_aload_n (i := 0) dX12_readsExpression_31 rfl rfl ?_
      refine s_getI dX12_readsExpression_32 fl_X12_173 (by assumption) (by assumption) ?_
      rw [h19]
      refine s_aload_n (i := 0) dX12_readsExpression_35 rfl rfl ?_
      refine s_getI dX12_readsExpression_36 fl_X12_170 (by assumption) (by assumption) ?_
      rw [h18]
      refine s_icmp_ge (tgt := 91) dX12_readsExpression_39 (by decide) (fun h39 => absurd h39 (fun h => by have h := (zI_le (by omega) (by omega) (by omega) (by omega)).mp h; have h : (tl : Int) ≤ p := h; omega)) (fun h39 => ?_)
      refine s_aload_n (i := 0) dX12_readsExpression_42 rfl rfl ?_
      refine s_getI dX12_readsExpression_43 fl_X12_180 (by assumption) (by assumption) ?_
      rw [h20]
      refine s_iconst (v := -1) dX12_readsExpression_46 (by decide) ?_
      refine s_icmp_ne (tgt := 91) dX12_readsExpression_47 (by decide) (fun h47 => absurd h47 (fun h => h zm1.symm)) (fun h47 => ?_)
      refine s_iload_n (i := 1) dX12_readsExpression_50 rfl rfl ?_
      refine s_if_eq (tgt := 69) dX12_readsExpression_51 (by decide) (fun h51 => ?_) (fun h51 => absurd (rfl) h51)
      refine s_aload_n (i := 0) dX12_readsExpression_69 rfl rfl ?_
      refine s_cV_ (My := mX12_readsSign) dX12_readsExpression_70 wM_X12_261 cb_yX12_readsSign ci_yX12_readsSign (by assumption) (by assumption) (Nat.le_of_ble_eq_true rfl) (by decide) (s_d (by omega) (m_readsSign (d := 0) hM hT htl hX hlt h19 h20 hS hk h32 ?_ ?_))
      · intro I1 hes hf1 g19 g20 hS1
        exact ml_xbad (due := false) hM hT htl (hf1.tx hX) hlt g19 g20 (by omega) hS1 (by show out.length + w.length ≤ 100; omega) (by show dp ≤ 1000; omega) (fun I2 hf2 g => hq I2 _ (none _ hes rfl) (hf1.trans hf2) g (fun h => absurd h (by dsimp only; omega)))
      · intro s' I1 hes hf1 g19 g20 hS1
        have hk2 : ExOk s' (p + 1) := hk.step hcb hes
        have hpr : prs tx tl (tl - p) p (out, w, dp, false) = prs tx tl (tl - sk tx tl (p + 1)) (sk tx tl (p + 1)) s' := by
          rw [← prs_sk (tl - (p + 1)) (p + 1) s' (by omega), show tl - p = (tl - (p + 1)) + 1 by omega]
          simp only [prs]
          rw [hes]
        rw [hpr] at hq
        have hX1 := hf1.tx hX
        obtain ⟨sk1, sk2⟩ := sk_ge tx tl (p + 1)
        have sk2 := sk2 (by omega)
        refine s_istore_n (i := 1) dX12_readsExpression_73 rfl (by decide) (by simp only [sl, sl2, rm, Value.category, reduceIte, Nat.reduceAdd, Nat.reduceEqDiff, reduceCtorEq]; rfl) ?_
        refine s_aload_n (i := 0) dX12_readsExpression_74 rfl rfl ?_
        refine s_dup dX12_readsExpression_75 rfl ?_
        refine s_getI dX12_readsExpression_76 fl_X12_173 (by assumption) (by assumption) ?_
        rw [g19]
        refine s_iconst (v := 1) dX12_readsExpression_79 (by decide) ?_
        refine s_iadd dX12_readsExpression_80 ?_
        refine s_topi (y := zI ((p + 1 : Nat) : Int)) (by first | with_reducible rfl | ((try simp only [z0, z1, zm1, zm2, zm3, zm4, zl2, zl3, zl4, zl5, zl6, zl7, zl8, zl9, zl10, zl20, zl28, zl31, zl32, zl33, zl48, zl57, zl64, zl100, zl127, zl200, zl201, zl202, zl402, zl1200, zl2412, zl16884, zI_add, zI_sub, zI_mul, zI_inc, zI_dec]) <;> (congr 1 <;> omega))) ?_
        refine s_putI dX12_readsExpression_81 fp_X12_173 (by assumption) (by assumption) ?_
        refine s_aload_n (i := 0) dX12_readsExpression_84 rfl rfl ?_
        refine s_cV_ (My := mX12_skips) dX12_readsExpression_85 wM_X12_189 cb_yX12_skips ci_yX12_skips (by assumption) (by assumption) (Nat.le_of_ble_eq_true rfl) (by decide) (s_d (by omega) (m_skips (d := 0) (p := p + 1) hM hT htl (hX1.fr (iu_j (by omega)) (iu_ne (by omega))) iu_at (by omega) (fun I2 hf2 hj2 h2 => ?_)))
        refine s_goto (tgt := 31) dX12_readsExpression_88 (by decide) ?_
        have hX2 : TextM I2 (tx, tl) := hX1.fr (by rw [hj2 18 (by omega), iu_j (by omega)]) (by rw [hf2 155 (by decide), iu_ne (by omega)])
        have hff : frX I1 I2 := (frX.put (j := 19) (by omega)).trans (frX.of (j := 19) (by omega) hf2 hj2)
        have hin := ih (sk tx tl (p + 1)) s' I2 (by omega) sk2 (fun h => sk_ne h) hX2 h2 (by rw [hj2 20 (by omega), iu_j (by omega)]; exact g20) (XM.of (j := 19) (by omega) (XM.of (j := 19) (by omega) hS1 (fr_iu (by simp)) (fun q h => iu_j h)) hf2 hj2) (hk2.mono (by omega)) (fun I' r hr hf a b => hq I' r hr (hf1.trans (hff.trans hf)) a b)
        exact hin
set_option maxRecDepth 100000 in
set_option maxHeartbeats 1000000 in
theorem m_readsExpression {G : fG} {x0 : Nat} {l : Launch} {d k n : Nat} {T : fT} {I : fI} {J : fJ} {Q : Option Value → fT → fI → fJ → Prop} {tx : Nat → Int} {tl : Nat} (hM : MObj T) (hT : TxOk tx tl) (htl : tl ≤ 100) (hX : TextM I (tx, tl)) (hq : ∀ (I' : fI) (r : Int × List Int), r = exprOf tx tl → frX I I' → I' 144 20 = zI r.1 → (r.1 = -1 → OrdM I' r.2) → Q none T I' J) : PW G x0 l mX12_readsExpression (d + 2) (ZM G x0 Q) k n 0 [(0, .ref (x0 + 144))] [] T I J := by
  obtain ⟨o1, o2⟩ := hM.o
  obtain ⟨r161, b161, k161, n161⟩ := hM.a161
  have f5 : frX I (iu (iu (iu (iu (iu I 144 19 0) 144 20 (-1)) 144 30 0) 144 32 0) 144 33 0) := (frX.put (j := 19) (by omega)).trans ((frX.put (j := 20) (by omega)).trans ((frX.put (j := 30) (by omega)).trans ((frX.put (j := 32) (by omega)).trans (frX.put (j := 33) (by omega)))))
  have e0 : exprOf tx tl = prs tx tl (tl - sk tx tl 0) (sk tx tl 0) ([], [], 0, true) := prs_sk tl 0 _ (by omega)
  refine s_aload_n (i := 0) dX12_readsExpression_0 rfl rfl ?_
  refine s_iconst (v := 0) dX12_readsExpression_1 (by decide) ?_
  refine s_putI dX12_readsExpression_2 fp_X12_173 (by assumption) (by assumption) ?_
  refine s_aload_n (i := 0) dX12_readsExpression_5 rfl rfl ?_
  refine s_iconst (v := -1) dX12_readsExpression_6 (by decide) ?_
  refine s_putI dX12_readsExpression_7 fp_X12_180 (by assumption) (by assumption) ?_
  refine s_aload_n (i := 0) dX12_readsExpression_10 rfl rfl ?_
  refine s_iconst (v := 0) dX12_readsExpression_11 (by decide) ?_
  refine s_putI dX12_readsExpression_12 fp_X12_243 (by assumption) (by assumption) ?_
  refine s_aload_n (i := 0) dX12_readsExpression_15 rfl rfl ?_
  refine s_iconst (v := 0) dX12_readsExpression_16 (by decide) ?_
  refine s_putI dX12_readsExpression_17 fp_X12_249 (by assumption) (by assumption) ?_
  refine s_aload_n (i := 0) dX12_readsExpression_20 rfl rfl ?_
  refine s_iconst (v := 0) dX12_readsExpression_21 (by decide) ?_
  refine s_putI dX12_readsExpression_22 fp_X12_246 (by assumption) (by assumption) ?_
  refine s_iconst (v := 1) dX12_readsExpression_25 (by decide) ?_
  refine s_istore_n (i := 1) dX12_readsExpression_26 rfl (by decide) (by simp only [sl, sl2, rm, Value.category, reduceIte, Nat.reduceAdd, Nat.reduceEqDiff, reduceCtorEq]; rfl) ?_
  refine s_aload_n (i := 0) dX12_readsExpression_27 rfl rfl ?_
  refine s_cV_ (My := mX12_skips) dX12_readsExpression_28 wM_X12_189 cb_yX12_skips ci_yX12_skips (by assumption) (by assumption) (Nat.le_of_ble_eq_true rfl) (by decide) (s_d (by omega) (m_skips (d := 0) (p := 0) hM hT htl (f5.tx hX) (by rw [iu_j (by omega), iu_j (by omega), iu_j (by omega), iu_j (by omega), iu_at]; rfl) (by omega) (fun I1 hf1 hj1 h1 => ?_)))
  have hff : frX I I1 := f5.trans (frX.of (j := 19) (by omega) hf1 hj1)
  refine ml_xr hM hT htl tl (sk tx tl 0) ([], [], 0, true) I1 (by omega) ((sk_ge tx tl 0).2 (Nat.zero_le _)) (fun h => sk_ne h) (hff.tx hX) h1 ?_ ⟨⟨?_, fun q h => absurd h (Nat.not_lt_zero q)⟩, ⟨?_, fun q h => absurd h (Nat.not_lt_zero q)⟩, ?_⟩ ⟨Nat.zero_le _, fun t h => absurd h List.not_mem_nil, rfl, Nat.zero_le _⟩ (fun I' r hr hf a b => hq I' r (hr.trans e0.symm) (hff.trans hf) a b)
  · rw [hj1 20 (by omega), iu_j (by omega), iu_j (by omega), iu_j (by omega), iu_at, zm1]
  · rw [hj1 30 (by omega), iu_j (by omega), iu_j (by omega), iu_at]; rfl
  · rw [hj1 32 (by omega), iu_j (by omega), iu_at]; rfl
  · rw [hj1 33 (by omega), iu_at]; rfl
/-! how many rows wait -/
def hst (h : Option Nat) (c : Int) : Option Nat := match h with
  | none => none
  | some h => if 65 ≤ c ∧ c < 71 then (if h < 24 then some (h + 1) else none) else if 2 ≤ h ∧ 0 < strg c then some (h - 1) else none
def Hgt (P : List Int) : Option Nat := P.foldl hst (some 0)
theorem Hgt_snoc (P : List Int) (c : Int) : Hgt (P ++ [c]) = hst (Hgt P) c := by unfold Hgt; rw [List.foldl_append]; rfl
def sgn : List Int → Nat
  | [] => 0
  | t :: w => if t = 40 then sgn w else sgn w + 1
def tops : List Int → Int
  | [] => 0
  | t :: _ => strg t
def WD : List Int → Prop
  | [] => True
  | t :: w => (t = 40 ∨ tops w < strg t) ∧ WD w
theorem tops_bd (w : List Int) : 0 ≤ tops w ∧ tops w ≤ 2 := by
  cases w with
  | nil => simp [tops]
  | cons t w => exact strg_bd t
theorem sgn_bd : ∀ (w : List Int), WD w → (sgn w : Int) ≤ 2 * (w.count 40 : Int) + tops w := by
  intro w
  induction w with
  | nil => intro _; simp [sgn, tops]
  | cons t w ih =>
    intro h
    obtain ⟨h1, h2⟩ := h
    have := ih h2
    have := tops_bd w
    simp only [sgn, tops]
    by_cases e : t = 40
    · rw [if_pos e, e, List.count_cons_self]
      have : strg 40 = 0 := by decide
      omega
    · rw [if_neg e, List.count_cons_of_ne (by simpa using e)]
      have := h1.resolve_left e
      omega
theorem strg_letter {t : Int} (h : 0 < strg t) : ¬ (65 ≤ t ∧ t < 71) := by
  have := strg_pos.mp h
  omega
theorem rel_hgt {st : Int} (hst1 : 1 ≤ st) : ∀ (w out : List Int), WD w → Hgt out = some (sgn w + 1) → Hgt (rel st w out).2 = some (sgn (rel st w out).1 + 1) ∧ WD (rel st w out).1 ∧ tops (rel st w out).1 < st := by
  intro w
  induction w with
  | nil => intro out h1 h2; exact ⟨h2, h1, by simp only [rel, tops]; omega⟩
  | cons t w ih =>
    intro out h1 h2
    simp only [rel]
    by_cases e : st ≤ strg t
    · rw [if_pos e]
      have h40 : t ≠ 40 := fun h => by rw [h] at e; have : strg 40 = 0 := by decide
                                       omega
      refine ih (out ++ [t]) h1.2 ?_
      simp only [sgn] at h2
      rw [if_neg h40] at h2
      rw [Hgt_snoc, h2]
      simp only [hst]
      rw [if_neg (strg_letter (by omega)), if_pos ⟨by omega, by omega⟩]
      congr 1
    · rw [if_neg e]
      exact ⟨h2, h1, by simp only [tops]; omega⟩
def HOk (s : eS) : Prop := WD s.2.1 ∧ Hgt s.1 = some (sgn s.2.1 + if s.2.2.2 = true then 0 else 1)
theorem HOk.step {s s' : eS} {i : Nat} {ch : Int} (h : HOk s) (hk : ExOk s i) (hs : estep s ch = some s') : HOk s' := by
  obtain ⟨out, w, dp, due⟩ := s
  obtain ⟨h1, h2⟩ := h
  obtain ⟨k1, k2, k3, k4⟩ := hk
  dsimp only at *
  have hb := sgn_bd w h1
  have ht := tops_bd w
  unfold estep at hs
  by_cases c : ch = 32
  · rw [if_pos c] at hs; cases hs; exact ⟨h1, h2⟩
  rw [if_neg c] at hs
  dsimp only at hs
  cases due with
  | true =>
    rw [if_pos rfl] at hs h2
    by_cases c1 : 65 ≤ ch ∧ ch < 71
    · rw [if_pos c1] at hs
      cases hs
      refine ⟨h1, ?_⟩
      dsimp only
      rw [Hgt_snoc, h2]
      simp only [hst]
      rw [if_pos c1, if_pos (by omega)]
      rfl
    · rw [if_neg c1] at hs
      by_cases c2 : ch = 40 ∧ dp < 8
      · rw [if_pos c2] at hs
        cases hs
        refine ⟨⟨Or.inl rfl, h1⟩, ?_⟩
        dsimp only
        rw [h2]
        simp [sgn]
      · rw [if_neg c2] at hs; cases hs
  | false =>
    rw [if_neg (by decide)] at hs h2
    by_cases c1 : ch = 41 ∧ 0 < dp
    · rw [if_pos c1] at hs
      cases hs
      obtain ⟨r, hr1, hr2⟩ := rel_par w out (fun t h => (k2 t h).2.2) (by omega)
      obtain ⟨g1, g2, g3⟩ := rel_hgt (st := 1) (Int.le_refl 1) w out h1 h2
      rw [hr1] at g1 g2
      refine ⟨?_, ?_⟩
      · dsimp only; rw [hr1]; exact g2.2
      · dsimp only; rw [hr1, g1]; simp [sgn]
    · rw [if_neg c1] at hs
      by_cases c2 : 0 < strg ch
      · rw [if_pos c2] at hs
        cases hs
        obtain ⟨g1, g2, g3⟩ := rel_hgt (st := strg ch) (by omega) w out h1 h2
        refine ⟨⟨Or.inr g3, g2⟩, ?_⟩
        dsimp only
        have h40 : ch ≠ 40 := fun h => by rw [h] at c2; exact absurd c2 (by decide)
        rw [g1]
        simp only [sgn]
        rw [if_neg h40]
        rfl
      · rw [if_neg c2] at hs; cases hs
theorem prs_hgt {tx : Nat → Int} {tl : Nat} (hT : TxOk tx tl) : ∀ (z i : Nat) (s : eS), i + z = tl → HOk s → ExOk s i → (prs tx tl z i s).1 = -1 → Hgt (prs tx tl z i s).2 = some 1 ∧ (prs tx tl z i s).2.length ≤ tl := by
  intro z
  induction z with
  | zero =>
    intro i s hi h hk he
    obtain ⟨out, w, dp, due⟩ := s
    obtain ⟨h1, h2⟩ := h
    obtain ⟨k1, k2, k3, k4⟩ := hk
    dsimp only at *
    simp only [prs] at he ⊢
    by_cases c : due = true ∨ 0 < dp
    · rw [if_pos c] at he
      dsimp only at he
      omega
    · rw [if_neg c]
      dsimp only
      have hd : due = false := by cases due with
        | true => exact absurd (Or.inl rfl) c
        | false => rfl
      subst hd
      rw [if_neg (by decide)] at h2
      have hr := rel_all w out (fun t h => (k2 t h).2.2) (by omega)
      have hl := (rel_len 1 w out).1
      obtain ⟨g1, -, -⟩ := rel_hgt (st := 1) (Int.le_refl 1) w out h1 h2
      have hlen : (rel 1 w out).2.length = out.length + w.length := by rw [hr, List.length_append]
      have h0 : (rel 1 w out).1 = [] := List.length_eq_zero_iff.mp (by omega)
      rw [h0] at g1
      exact ⟨g1, by omega⟩
  | succ z ih =>
    intro i s hi h hk he
    simp only [prs] at he ⊢
    cases hes : estep s (tx i) with
    | none => rw [hes] at he; dsimp only at he; omega
    | some s' =>
      rw [hes] at he
      dsimp only at he ⊢
      exact ih (i + 1) s' (by omega) (h.step hk hes) (hk.step (hT i (by omega)) hes) he
theorem exprOf_hgt {tx : Nat → Int} {tl : Nat} (hT : TxOk tx tl) (h : (exprOf tx tl).1 = -1) : Hgt (exprOf tx tl).2 = some 1 ∧ (exprOf tx tl).2.length ≤ tl := prs_hgt hT tl 0 _ (by omega) ⟨trivial, rfl⟩ ⟨Nat.zero_le _, fun t h => absurd h List.not_mem_nil, rfl, Nat.zero_le _⟩ h
theorem hst_none : ∀ (P : List Int), P.foldl hst none = none := by
  intro P
  induction P with
  | nil => rfl
  | cons c P ih => exact ih
/-- a part of the way -/
theorem Hgt_at {P : List Int} {h : Nat} (hP : Hgt P = some h) {i : Nat} (hi : i < P.length) : ∃ a, Hgt (P.take i) = some a ∧ ((65 ≤ lfn P i ∧ lfn P i < 71 ∧ a < 24 ∧ Hgt (P.take (i + 1)) = some (a + 1)) ∨ (0 < strg (lfn P i) ∧ 2 ≤ a ∧ Hgt (P.take (i + 1)) = some (a - 1))) := by
  have e1 : P.take (i + 1) = P.take i ++ [lfn P i] := take_succ_getD hi
  have e2 : Hgt P = (P.drop (i + 1)).foldl hst (Hgt (P.take (i + 1))) := by
    unfold Hgt
    rw [← List.foldl_append, List.take_append_drop]
  cases ha : Hgt (P.take i) with
  | none =>
    rw [e1, Hgt_snoc, ha] at e2
    have : hst none (lfn P i) = none := rfl
    rw [this, hst_none] at e2
    rw [e2] at hP
    cases hP
  | some a =>
    refine ⟨a, rfl, ?_⟩
    have e3 : Hgt (P.take (i + 1)) = hst (some a) (lfn P i) := by rw [e1, Hgt_snoc, ha]
    have hne : hst (some a) (lfn P i) ≠ none := fun h0 => by
      rw [e3, h0, hst_none] at e2
      rw [e2] at hP
      cases hP
    simp only [hst] at hne e3
    by_cases c : 65 ≤ lfn P i ∧ lfn P i < 71
    · rw [if_pos c] at hne e3
      by_cases c2 : a < 24
      · rw [if_pos c2] at e3; exact Or.inl ⟨c.1, c.2, c2, e3⟩
      · rw [if_neg c2] at hne; exact absurd rfl hne
    · rw [if_neg c] at hne e3
      by_cases c2 : 2 ≤ a ∧ 0 < strg (lfn P i)
      · rw [if_pos c2] at e3; exact Or.inr ⟨c2.2, c2.1, e3⟩
      · rw [if_neg c2] at hne; exact absurd rfl hne
