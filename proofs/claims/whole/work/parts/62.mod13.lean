theorem frN0.of {I I' : fI} (h : fr I I' [144]) (hj : ∀ j, j ≠ 19 → j ≠ 20 → j ≠ 22 → j ≠ 23 → I' 144 j = I 144 j) : frN0 I I' := ⟨h, hj⟩
set_option maxRecDepth 100000 in
set_option maxHeartbeats 1000000 in
theorem ml_numsBad {G : fG} {x0 : Nat} {l : Launch} {d k n : Nat} {T : fT} {I : fI} {J : fJ} {Q : Option Value → fT → fI → fJ → Prop} {tx : Nat → Int} {tl : Nat} (hM : MObj T) (hT : TxOk tx tl) (htl : tl ≤ 100) {p : Nat} {f : Int} {e1 e2 v : Int32} (hX : TextM I (tx, tl)) (hp : p ≤ tl) (hf : -1 ≤ f ∧ f ≤ 1000) (hf2 : f ≠ -1) (h19 : I 144 19 = zI p) (h20 : I 144 20 = zI f) (hq : ∀ I', frN I I' → I' 144 20 = zI f → Q none T I' J) : PW G x0 l mX12_readsNumbers (d + 4) (ZM G x0 Q) k n 55 [(0, .ref (x0 + 144)), (1, .int e1), (2, .int e2)] [.int v] T I J := by
  obtain ⟨o1, o2⟩ := hM.o
  have hcb := chz_bd (p := p) hT
  by_cases hc : chz tx tl p = 44
  · refine s_istore_n (i := 2) dX12_readsNumbers_55 rfl (by decide) (by simp only [sl, sl2, rm, Value.category, reduceIte, Nat.reduceAdd, Nat.reduceEqDiff, reduceCtorEq]; rfl) ?_
    refine s_aload_n (i := 0) dX12_readsNumbers_56 rfl rfl ?_
    refine s_cV_ (My := mX12_next) dX12_readsNumbers_57 wM_X12_176 cb_yX12_next ci_yX12_next (by assumption) (by assumption) (Nat.le_of_ble_eq_true rfl) (by decide) (s_d (by omega) (m_next (d := 0) hM hT htl hX h19 (by omega) ?_))
    rw [hc]
    refine s_bipush (v := 44) dX12_readsNumbers_60 (by decide) ?_
    refine s_icmp_ne (tgt := 69) dX12_readsNumbers_62 (by decide) (fun h62 => absurd h62 (fun h => h rfl)) (fun h62 => ?_)
    refine s_iconst (v := 1) dX12_readsNumbers_65 (by decide) ?_
    refine s_goto (tgt := 70) dX12_readsNumbers_66 (by decide) ?_
    refine s_istore_n (i := 1) dX12_readsNumbers_70 rfl (by decide) (by simp only [sl, sl2, rm, Value.category, reduceIte, Nat.reduceAdd, Nat.reduceEqDiff, reduceCtorEq]; rfl) ?_
    refine s_aload_n (i := 0) dX12_readsNumbers_71 rfl rfl ?_
    refine s_getI dX12_readsNumbers_72 fl_X12_180 (by assumption) (by assumption) ?_
    rw [h20]
    refine s_iconst (v := -1) dX12_readsNumbers_75 (by decide) ?_
    refine s_icmp_ne (tgt := 102) dX12_readsNumbers_76 (by decide) (fun h76 => ?_) (fun h76 => absurd h76 (fun h => by rw [zm1, zI_eq (by omega) (by omega) (by omega) (by omega)] at h; omega))
    refine s_iload_n (i := 1) dX12_readsNumbers_102 rfl rfl ?_
    refine s_if_eq (tgt := 38) dX12_readsNumbers_103 (by decide) (fun h103 => absurd h103 (by decide)) (fun h103 => ?_)
    refine s_aload_n (i := 0) dX12_readsNumbers_106 rfl rfl ?_
    refine s_dup dX12_readsNumbers_107 rfl ?_
    refine s_getI dX12_readsNumbers_108 fl_X12_173 (by assumption) (by assumption) ?_
    rw [h19]
    refine s_iconst (v := 1) dX12_readsNumbers_111 (by decide) ?_
    refine s_iadd dX12_readsNumbers_112 ?_
    refine s_topi (y := zI ((p + 1 : Nat) : Int)) (by first | with_reducible rfl | ((try simp only [z0, z1, zm1, zm2, zm3, zm4, zl2, zl3, zl4, zl5, zl6, zl7, zl8, zl9, zl10, zl20, zl28, zl31, zl32, zl33, zl48, zl57, zl64, zl100, zl127, zl200, zl201, zl202, zl402, zl1200, zl2412, zl16884, zI_add, zI_sub, zI_mul, zI_inc, zI_dec]) <;> (congr 1 <;> omega))) ?_
    refine s_putI dX12_readsNumbers_113 fp_X12_173 (by assumption) (by assumption) ?_
    refine s_aload_n (i := 0) dX12_readsNumbers_116 rfl rfl ?_
    refine s_cV_ (My := mX12_skips) dX12_readsNumbers_117 wM_X12_189 cb_yX12_skips ci_yX12_skips (by assumption) (by assumption) (Nat.le_of_ble_eq_true rfl) (by decide) (s_d (by omega) (m_skips (d := 0) (p := p + 1) hM hT htl (hX.fr (iu_j (by omega)) (iu_ne (by omega))) iu_at (by omega) (fun I2 hf2 hj2 h2 => ?_)))
    refine s_goto (tgt := 38) dX12_readsNumbers_120 (by decide) ?_
    refine s_iload_n (i := 1) dX12_readsNumbers_38 rfl rfl ?_
    refine s_if_eq (tgt := 123) dX12_readsNumbers_39 (by decide) (fun h39 => absurd h39 (by decide)) (fun h39 => ?_)
    refine s_aload_n (i := 0) dX12_readsNumbers_42 rfl rfl ?_
    refine s_getI dX12_readsNumbers_43 fl_X12_180 (by assumption) (by assumption) ?_
    rw [hj2 20 (by omega), iu_j (by omega), h20]
    refine s_iconst (v := -1) dX12_readsNumbers_46 (by decide) ?_
    refine s_icmp_ne (tgt := 123) dX12_readsNumbers_47 (by decide) (fun h47 => ?_) (fun h47 => absurd h47 (fun h => by rw [zm1, zI_eq (by omega) (by omega) (by omega) (by omega)] at h; omega))
    refine s_ret dX12_readsNumbers_123 rfl ?_
    exact hq I2 (((frN0.put (j := 19) (by omega)).trans (frN0.of19 hf2 hj2)).n) (by rw [hj2 20 (by omega), iu_j (by omega), h20])
  · refine s_istore_n (i := 2) dX12_readsNumbers_55 rfl (by decide) (by simp only [sl, sl2, rm, Value.category, reduceIte, Nat.reduceAdd, Nat.reduceEqDiff, reduceCtorEq]; rfl) ?_
    refine s_aload_n (i := 0) dX12_readsNumbers_56 rfl rfl ?_
    refine s_cV_ (My := mX12_next) dX12_readsNumbers_57 wM_X12_176 cb_yX12_next ci_yX12_next (by assumption) (by assumption) (Nat.le_of_ble_eq_true rfl) (by decide) (s_d (by omega) (m_next (d := 0) hM hT htl hX h19 (by omega) ?_))
    refine s_bipush (v := 44) dX12_readsNumbers_60 (by decide) ?_
    refine s_icmp_ne (tgt := 69) dX12_readsNumbers_62 (by decide) (fun h62 => ?_) (fun h62 => absurd h62 (fun h => by rw [zl44, zI_eq (by omega) (by omega) (by omega) (by omega)] at h; omega))
    refine s_iconst (v := 0) dX12_readsNumbers_69 (by decide) ?_
    refine s_istore_n (i := 1) dX12_readsNumbers_70 rfl (by decide) (by simp only [sl, sl2, rm, Value.category, reduceIte, Nat.reduceAdd, Nat.reduceEqDiff, reduceCtorEq]; rfl) ?_
    refine s_aload_n (i := 0) dX12_readsNumbers_71 rfl rfl ?_
    refine s_getI dX12_readsNumbers_72 fl_X12_180 (by assumption) (by assumption) ?_
    rw [h20]
    refine s_iconst (v := -1) dX12_readsNumbers_75 (by decide) ?_
    refine s_icmp_ne (tgt := 102) dX12_readsNumbers_76 (by decide) (fun h76 => ?_) (fun h76 => absurd h76 (fun h => by rw [zm1, zI_eq (by omega) (by omega) (by omega) (by omega)] at h; omega))
    refine s_iload_n (i := 1) dX12_readsNumbers_102 rfl rfl ?_
    refine s_if_eq (tgt := 38) dX12_readsNumbers_103 (by decide) (fun h103 => ?_) (fun h103 => absurd (rfl) h103)
    refine s_iload_n (i := 1) dX12_readsNumbers_38 rfl rfl ?_
    refine s_if_eq (tgt := 123) dX12_readsNumbers_39 (by decide) (fun h39 => ?_) (fun h39 => absurd (rfl) h39)
    refine s_ret dX12_readsNumbers_123 rfl ?_
    exact hq I (frN.refl I) h20
set_option maxRecDepth 100000 in
set_option maxHeartbeats 1000000 in
theorem ml_numsStep {G : fG} {x0 : Nat} {l : Launch} {d k n : Nat} {T : fT} {I : fI} {J : fJ} {Q : Option Value → fT → fI → fJ → Prop} {tx : Nat → Int} {tl : Nat} (hM : MObj T) (hT : TxOk tx tl) (htl : tl ≤ 100) {p c : Nat} {bef : Int} {bh : Int32} {g : Nat → Int} (hX : TextM I (tx, tl)) (hp : p ≤ tl) (hc : c ≤ 200) (hl : -1 ≤ bef ∧ bef ≤ 1000000) (hN : NS I p (-1) c bh) (hR : RdM I g c) (hq : ∀ (I' : fI) (f : Int), frN I I' → I' 144 20 = zI f → (PartE tx tl p (bef + 1) c f ∨ ((partC tx tl p (bef + 1) c).1 = -1 ∧ f = (partC tx tl p (bef + 1) c).2.1 ∧ (partC tx tl p (bef + 1) c).2.1 < tl ∧ chz tx tl (partC tx tl p (bef + 1) c).2.1 ≠ 44)) → f ≠ -1 → Q none T I' J) (hq2 : ∀ I', frN I I' → (partC tx tl p (bef + 1) c).1 = -1 → tl ≤ (partC tx tl p (bef + 1) c).2.1 → I' 144 20 = zI (-1) → I' 144 22 = zI ((c + ((partC tx tl p (bef + 1) c).2.2.2 - (partC tx tl p (bef + 1) c).2.2.1 + 1).toNat : Nat) : Int) → RdM I' (app g c (partC tx tl p (bef + 1) c).2.2.1) (c + ((partC tx tl p (bef + 1) c).2.2.2 - (partC tx tl p (bef + 1) c).2.2.1 + 1).toNat) → Q none T I' J) (kk : ∀ I', frN I I' → (partC tx tl p (bef + 1) c).1 = -1 → (partC tx tl p (bef + 1) c).2.1 < tl → chz tx tl (partC tx tl p (bef + 1) c).2.1 = 44 → NS I' (sk tx tl ((partC tx tl p (bef + 1) c).2.1 + 1)) (-1) (c + ((partC tx tl p (bef + 1) c).2.2.2 - (partC tx tl p (bef + 1) c).2.2.1 + 1).toNat) (I' 144 23) → RdM I' (app g c (partC tx tl p (bef + 1) c).2.2.1) (c + ((partC tx tl p (bef + 1) c).2.2.2 - (partC tx tl p (bef + 1) c).2.2.1 + 1).toNat) → PW G x0 l mX12_readsNumbers (d + 4) (ZM G x0 Q) k n 38 [(0, .ref (x0 + 144)), (1, .int 1), (2, .int (zI (partC tx tl p (bef + 1) c).2.2.2))] [] T I' J) : PW G x0 l mX12_readsNumbers (d + 4) (ZM G x0 Q) k n 38 [(0, .ref (x0 + 144)), (1, .int 1), (2, .int (zI bef))] [] T I J := by
  obtain ⟨o1, o2⟩ := hM.o
  refine s_iload_n (i := 1) dX12_readsNumbers_38 rfl rfl ?_
  refine s_if_eq (tgt := 123) dX12_readsNumbers_39 (by decide) (fun h39 => absurd h39 (by decide)) (fun h39 => ?_)
  refine s_aload_n (i := 0) dX12_readsNumbers_42 rfl rfl ?_
  refine s_getI dX12_readsNumbers_43 fl_X12_180 (by assumption) (by assumption) ?_
  rw [hN.2.1]
  refine s_iconst (v := -1) dX12_readsNumbers_46 (by decide) ?_
  refine s_icmp_ne (tgt := 123) dX12_readsNumbers_47 (by decide) (fun h47 => absurd h47 (fun h => h zm1.symm)) (fun h47 => ?_)
  refine s_aload_n (i := 0) dX12_readsNumbers_50 rfl rfl ?_
  refine s_iload_n (i := 2) dX12_readsNumbers_51 rfl rfl ?_
  refine s_cV_I (My := mX12_readsPart) dX12_readsNumbers_52 wM_X12_198 cb_yX12_readsPart ci_yX12_readsPart (by assumption) (by assumption) (Nat.le_of_ble_eq_true rfl) (by decide) (s_d (by omega) (m_readsPart (d := 0) hM hT htl hX hp hc hl hN hR ?_ ?_))
  · intro I1 f v p' hf1 hfn hE h20 h19 hp'
    have hfb := partC_fb (tx := tx) (tl := tl) (p := p) (c := c) (least := bef + 1) hp
    have hbd := partC_bd (tx := tx) (tl := tl) (p := p) (c := c) (least := bef + 1) hp hc
    have hfr : -1 ≤ f ∧ f ≤ 1000 := by
      rcases hE with ⟨a1, a2⟩ | ⟨a1, a2, -⟩
      · omega
      · have := hbd a1; omega
    exact ml_numsBad hM hT htl (hf1.tx hX) hp' hfr hfn h19 h20 (fun I2 hf2 g20 => hq I2 f (hf1.trans hf2) g20 (Or.inl hE) hfn)
  · intro I1 hf1 hpc h19 h20 h22 hR1
    obtain ⟨k1, k2, k3, k4, k5, k6, k7⟩ := partC_bd (tx := tx) (tl := tl) (p := p) (c := c) (least := bef + 1) hp hc hpc
    have hX1 := hf1.tx hX
    have hcb := chz_bd (p := (partC tx tl p (bef + 1) c).2.1) hT
    obtain ⟨h18, -⟩ := id hX1
    by_cases c1 : tl ≤ (partC tx tl p (bef + 1) c).2.1
    · have hch := chz_out (tx := tx) c1
      refine s_istore_n (i := 2) dX12_readsNumbers_55 rfl (by decide) (by simp only [sl, sl2, rm, Value.category, reduceIte, Nat.reduceAdd, Nat.reduceEqDiff, reduceCtorEq]; rfl) ?_
      refine s_aload_n (i := 0) dX12_readsNumbers_56 rfl rfl ?_
      refine s_cV_ (My := mX12_next) dX12_readsNumbers_57 wM_X12_176 cb_yX12_next ci_yX12_next (by assumption) (by assumption) (Nat.le_of_ble_eq_true rfl) (by decide) (s_d (by omega) (m_next (d := 0) hM hT htl hX1 h19 (by omega) ?_))
      rw [hch]
      refine s_bipush (v := 44) dX12_readsNumbers_60 (by decide) ?_
      refine s_icmp_ne (tgt := 69) dX12_readsNumbers_62 (by decide) (fun h62 => ?_) (fun h62 => absurd h62 (by decide))
      refine s_iconst (v := 0) dX12_readsNumbers_69 (by decide) ?_
      refine s_istore_n (i := 1) dX12_readsNumbers_70 rfl (by decide) (by simp only [sl, sl2, rm, Value.category, reduceIte, Nat.reduceAdd, Nat.reduceEqDiff, reduceCtorEq]; rfl) ?_
      refine s_aload_n (i := 0) dX12_readsNumbers_71 rfl rfl ?_
      refine s_getI dX12_readsNumbers_72 fl_X12_180 (by assumption) (by assumption) ?_
      rw [h20]
      refine s_iconst (v := -1) dX12_readsNumbers_75 (by decide) ?_
      refine s_icmp_ne (tgt := 102) dX12_readsNumbers_76 (by decide) (fun h76 => absurd h76 (fun h => h zm1.symm)) (fun h76 => ?_)
      refine s_iload_n (i := 1) dX12_readsNumbers_79 rfl rfl ?_
      refine s_if_ne (tgt := 102) dX12_readsNumbers_80 (by decide) (fun h80 => absurd h80 (fun h => h rfl)) (fun h80 => ?_)
      refine s_aload_n (i := 0) dX12_readsNumbers_83 rfl rfl ?_
      refine s_getI dX12_readsNumbers_84 fl_X12_173 (by assumption) (by assumption) ?_
      rw [h19]
      refine s_aload_n (i := 0) dX12_readsNumbers_87 rfl rfl ?_
      refine s_getI dX12_readsNumbers_88 fl_X12_170 (by assumption) (by assumption) ?_
      rw [h18]
      refine s_icmp_ge (tgt := 102) dX12_readsNumbers_91 (by decide) (fun h91 => ?_) (fun h91 => absurd ((zI_le (by omega) (by omega) (by omega) (by omega)).mpr (by show (tl : Int) ≤ _; omega)) h91)
      refine s_iload_n (i := 1) dX12_readsNumbers_102 rfl rfl ?_
      refine s_if_eq (tgt := 38) dX12_readsNumbers_103 (by decide) (fun h103 => ?_) (fun h103 => absurd (rfl) h103)
      refine s_iload_n (i := 1) dX12_readsNumbers_38 rfl rfl ?_
      refine s_if_eq (tgt := 123) dX12_readsNumbers_39 (by decide) (fun h39 => ?_) (fun h39 => absurd (rfl) h39)
      refine s_ret dX12_readsNumbers_123 rfl ?_
      exact hq2 I1 hf1 hpc c1 h20 h22 hR1
    · by_cases c2 : chz tx tl (partC tx tl p (bef + 1) c).2.1 = 44
      · refine s_istore_n (i := 2) dX12_readsNumbers_55 rfl (by decide) (by simp only [sl, sl2, rm, Value.category, reduceIte, Nat.reduceAdd, Nat.reduceEqDiff, reduceCtorEq]; rfl) ?_
        refine s_aload_n (i := 0) dX12_readsNumbers_56 rfl rfl ?_
        refine s_cV_ (My := mX12_next) dX12_readsNumbers_57 wM_X12_176 cb_yX12_next ci_yX12_next (by assumption) (by assumption) (Nat.le_of_ble_eq_true rfl) (by decide) (s_d (by omega) (m_next (d := 0) hM hT htl hX1 h19 (by omega) ?_))
        rw [c2]
        refine s_bipush (v := 44) dX12_readsNumbers_60 (by decide) ?_
        refine s_icmp_ne (tgt := 69) dX12_readsNumbers_62 (by decide) (fun h62 => absurd h62 (fun h => h rfl)) (fun h62 => ?_)
        refine s_iconst (v := 1) dX12_readsNumbers_65 (by decide) ?_
        refine s_goto (tgt := 70) dX12_readsNumbers_66 (by decide) ?_
        refine s_istore_n (i := 1) dX12_readsNumbers_70 rfl (by decide) (by simp only [sl, sl2, rm, Value.category, reduceIte, Nat.reduceAdd, Nat.reduceEqDiff, reduceCtorEq]; rfl) ?_
        refine s_aload_n (i := 0) dX12_readsNumbers_71 rfl rfl ?_
        refine s_getI dX12_readsNumbers_72 fl_X12_180 (by assumption) (by assumption) ?_
        rw [h20]
        refine s_iconst (v := -1) dX12_readsNumbers_75 (by decide) ?_
        refine s_icmp_ne (tgt := 102) dX12_readsNumbers_76 (by decide) (fun h76 => absurd h76 (fun h => h zm1.symm)) (fun h76 => ?_)
        refine s_iload_n (i := 1) dX12_readsNumbers_79 rfl rfl ?_
        refine s_if_ne (tgt := 102) dX12_readsNumbers_80 (by decide) (fun h80 => ?_) (fun h80 => absurd h80 (by decide))
        refine s_iload_n (i := 1) dX12_readsNumbers_102 rfl rfl ?_
        refine s_if_eq (tgt := 38) dX12_readsNumbers_103 (by decide) (fun h103 => absurd h103 (by decide)) (fun h103 => ?_)
        refine s_aload_n (i := 0) dX12_readsNumbers_106 rfl rfl ?_
        refine s_dup dX12_readsNumbers_107 rfl ?_
        refine s_getI dX12_readsNumbers_108 fl_X12_173 (by assumption) (by assumption) ?_
        rw [h19]
        refine s_iconst (v := 1) dX12_readsNumbers_111 (by decide) ?_
        refine s_iadd dX12_readsNumbers_112 ?_
        refine s_topi (y := zI (((partC tx tl p (bef + 1) c).2.1 + 1 : Nat) : Int)) (by first | with_reducible rfl | ((try simp only [z0, z1, zm1, zm2, zm3, zm4, zl2, zl3, zl4, zl5, zl6, zl7, zl8, zl9, zl10, zl20, zl28, zl31, zl32, zl33, zl48, zl57, zl64, zl100, zl127, zl200, zl201, zl202, zl402, zl1200, zl2412, zl16884, zI_add, zI_sub, zI_mul, zI_inc, zI_dec]) <;> (congr 1 <;> omega))) ?_
        refine s_putI dX12_readsNumbers_113 fp_X12_173 (by assumption) (by assumption) ?_
        refine s_aload_n (i := 0) dX12_readsNumbers_116 rfl rfl ?_
        refine s_cV_ (My := mX12_skips) dX12_readsNumbers_117 wM_X12_189 cb_yX12_skips ci_yX12_skips (by assumption) (by assumption) (Nat.le_of_ble_eq_true rfl) (by decide) (s_d (by omega) (m_skips (d := 0) (p := (partC tx tl p (bef + 1) c).2.1 + 1) hM hT htl (hX1.fr (iu_j (by omega)) (iu_ne (by omega))) iu_at (by omega) (fun I2 hf2 hj2 h2 => ?_)))
        refine s_goto (tgt := 38) dX12_readsNumbers_120 (by decide) ?_
        exact kk I2 (hf1.trans ((frN0.put (j := 19) (by omega)).trans (frN0.of19 hf2 hj2)).n) hpc (by omega) c2 ⟨h2, by rw [hj2 20 (by omega), iu_j (by omega)]; exact h20, by rw [hj2 22 (by omega), iu_j (by omega)]; exact h22, rfl⟩ (fun q h => by rw [hf2 156 (by decide), iu_ne (by omega)]; exact hR1 q h)
      · refine s_istore_n (i := 2) dX12_readsNumbers_55 rfl (by decide) (by simp only [sl, sl2, rm, Value.category, reduceIte, Nat.reduceAdd, Nat.reduceEqDiff, reduceCtorEq]; rfl) ?_
        refine s_aload_n (i := 0) dX12_readsNumbers_56 rfl rfl ?_
        refine s_cV_ (My := mX12_next) dX12_readsNumbers_57 wM_X12_176 cb_yX12_next ci_yX12_next (by assumption) (by assumption) (Nat.le_of_ble_eq_true rfl) (by decide) (s_d (by omega) (m_next (d := 0) hM hT htl hX1 h19 (by omega) ?_))
        refine s_bipush (v := 44) dX12_readsNumbers_60 (by decide) ?_
        refine s_icmp_ne (tgt := 69) dX12_readsNumbers_62 (by decide) (fun h62 => ?_) (fun h62 => absurd h62 (fun h => by rw [zl44, zI_eq (by omega) (by omega) (by omega) (by omega)] at h; omega))
        refine s_iconst (v := 0) dX12_readsNumbers_69 (by decide) ?_
        refine s_istore_n (i := 1) dX12_readsNumbers_70 rfl (by decide) (by simp only [sl, sl2, rm, Value.category, reduceIte, Nat.reduceAdd, Nat.reduceEqDiff, reduceCtorEq]; rfl) ?_
        refine s_aload_n (i := 0) dX12_readsNumbers_71 rfl rfl ?_
        refine s_getI dX12_readsNumbers_72 fl_X12_180 (by assumption) (by assumption) ?_
        rw [h20]
        refine s_iconst (v := -1) dX12_readsNumbers_75 (by decide) ?_
        refine s_icmp_ne (tgt := 102) dX12_readsNumbers_76 (by decide) (fun h76 => absurd h76 (fun h => h zm1.symm)) (fun h76 => ?_)
        refine s_iload_n (i := 1) dX12_readsNumbers_79 rfl rfl ?_
        refine s_if_ne (tgt := 102) dX12_readsNumbers_80 (by decide) (fun h80 => absurd h80 (fun h => h rfl)) (fun h80 => ?_)
        refine s_aload_n (i := 0) dX12_readsNumbers_83 rfl rfl ?_
        refine s_getI dX12_readsNumbers_84 fl_X12_173 (by assumption) (by assumption) ?_
        rw [h19]
        refine s_aload_n (i := 0) dX12_readsNumbers_87 rfl rfl ?_
        refine s_getI dX12_readsNumbers_88 fl_X12_170 (by assumption) (by assumption) ?_
        rw [h18]
        refine s_icmp_ge (tgt := 102) dX12_readsNumbers_91 (by decide) (fun h91 => absurd h91 (fun h => by have h := (zI_le (by omega) (by omega) (by omega) (by omega)).mp h; have h : (tl : Int) ≤ (partC tx tl p (bef + 1) c).2.1 := h; omega)) (fun h91 => ?_)
        refine s_aload_n (i := 0) dX12_readsNumbers_94 rfl rfl ?_
        refine s_aload_n (i := 0) dX12_readsNumbers_95 rfl rfl ?_
        refine s_getI dX12_readsNumbers_96 fl_X12_173 (by assumption) (by assumption) ?_
        rw [h19]
        refine s_cV_I (My := mX12_fails) dX12_readsNumbers_99 wM_X12_183 cb_yX12_fails ci_yX12_fails (by assumption) (by assumption) (Nat.le_of_ble_eq_true rfl) (by decide) (s_d (by omega) (m_fails (d := 0) hM h20 (by omega) (fun I2 hf2 hj2 h2 => ?_)))
        refine s_iload_n (i := 1) dX12_readsNumbers_102 rfl rfl ?_
        refine s_if_eq (tgt := 38) dX12_readsNumbers_103 (by decide) (fun h103 => ?_) (fun h103 => absurd (rfl) h103)
        refine s_iload_n (i := 1) dX12_readsNumbers_38 rfl rfl ?_
        refine s_if_eq (tgt := 123) dX12_readsNumbers_39 (by decide) (fun h39 => ?_) (fun h39 => absurd (rfl) h39)
        refine s_ret dX12_readsNumbers_123 rfl ?_
        rw [if_pos rfl] at h2
        exact hq I2 _ (hf1.trans (frN0.of20 hf2 hj2).n) h2 (Or.inr ⟨hpc, rfl, by omega, c2⟩) (by omega)
set_option maxRecDepth 100000 in
set_option maxHeartbeats 1000000 in
theorem ml_nums {G : fG} {x0 : Nat} {l : Launch} {d k n : Nat} {T : fT} {J : fJ} {Q : Option Value → fT → fI → fJ → Prop} {tx : Nat → Int} {tl : Nat} (hM : MObj T) (hT : TxOk tx tl) (htl : tl ≤ 100) : ∀ (z p c : Nat) (bef : Int) (bh : Int32) (g : Nat → Int) (I : fI), tl - p ≤ 2 * z + 1 → TextM I (tx, tl) → p ≤ tl → c ≤ 200 → -1 ≤ bef ∧ bef ≤ 1000000 → NS I p (-1) c bh → RdM I g c → (∀ (I' : fI) (r : Int × Nat × (Nat → Int)), r = numsC tx tl (z + 1) p (bef + 1) c g → frN I I' → I' 144 20 = zI r.1 → (r.1 = -1 → I' 144 22 = zI r.2.1 ∧ RdM I' r.2.2 r.2.1) → Q none T I' J) → PW G x0 l mX12_readsNumbers (d + 4) (ZM G x0 Q) k n 38 [(0, .ref (x0 + 144)), (1, .int 1), (2, .int (zI bef))] [] T I J := by
  have one : ∀ (p c : Nat) (bef : Int) (g : Nat → Int) (I : fI) (z : Nat), p ≤ tl → c ≤ 200 → (∀ (I' : fI) (r : Int × Nat × (Nat → Int)), r = numsC tx tl (z + 1) p (bef + 1) c g → frN I I' → I' 144 20 = zI r.1 → (r.1 = -1 → I' 144 22 = zI r.2.1 ∧ RdM I' r.2.2 r.2.1) → Q none T I' J) → (∀ (I' : fI) (f : Int), frN I I' → I' 144 20 = zI f → (PartE tx tl p (bef + 1) c f ∨ ((partC tx tl p (bef + 1) c).1 = -1 ∧ f = (partC tx tl p (bef + 1) c).2.1 ∧ (partC tx tl p (bef + 1) c).2.1 < tl ∧ chz tx tl (partC tx tl p (bef + 1) c).2.1 ≠ 44)) → f ≠ -1 → Q none T I' J) ∧ (∀ I', frN I I' → (partC tx tl p (bef + 1) c).1 = -1 → tl ≤ (partC tx tl p (bef + 1) c).2.1 → I' 144 20 = zI (-1) → I' 144 22 = zI ((c + ((partC tx tl p (bef + 1) c).2.2.2 - (partC tx tl p (bef + 1) c).2.2.1 + 1).toNat : Nat) : Int) → RdM I' (app g c (partC tx tl p (bef + 1) c).2.2.1) (c + ((partC tx tl p (bef + 1) c).2.2.2 - (partC tx tl p (bef + 1) c).2.2.1 + 1).toNat) → Q none T I' J) := by
    intro p c bef g I z hp hc hq
    refine ⟨fun I' f hf h20 hE hfn => ?_, fun I' hf e1 e2 h20 h22 hR => ?_⟩
    · refine hq I' (f, c, g) ?_ hf h20 (fun h => absurd h hfn)
      simp only [numsC]
      have dg : ∀ q, isD (chz tx tl q) → q < tl ∧ chz tx tl q ≠ 44 := fun q h => ⟨dig_lt h, by omega⟩
      rcases hE with (⟨e1, e2⟩ | ⟨e1, e2, e3⟩) | ⟨e1, e2, e3, e4⟩
      · rw [if_pos e1, e2]
      · obtain ⟨d1, d2⟩ := dg _ e3
        rw [if_neg (fun h => h e1), if_neg (by omega), if_pos d2, e2]
      · rw [if_neg (fun h => h e1), if_neg (by omega), if_pos e4, e2]
    · refine hq I' _ rfl hf ?_ ?_ <;> simp only [numsC] <;> rw [if_neg (fun h => h e1), if_pos e2]
      · exact h20
      · exact fun _ => ⟨h22, hR⟩
  intro z
  induction z with
  | zero =>
    intro p c bef bh g I hz hX hp hc hl hN hR hq
    obtain ⟨o1, o2⟩ := one p c bef g I 0 hp hc hq
    refine ml_numsStep hM hT htl hX hp hc hl hN hR o1 o2 (fun I' hf e1 e2 e3 _ _ => ?_)
    obtain ⟨k1, k2, -⟩ := partC_bd (tx := tx) (tl := tl) (p := p) (c := c) (least := bef + 1) hp hc e1
    omega
  | succ z ih =>
    intro p c bef bh g I hz hX hp hc hl hN hR hq
    obtain ⟨o1, o2⟩ := one p c bef g I (z + 1) hp hc hq
    refine ml_numsStep hM hT htl hX hp hc hl hN hR o1 o2 (fun I' hf e1 e2 e3 hN' hR' => ?_)
    obtain ⟨k1, k2, k3, k4, k5, k6, k7⟩ := partC_bd (tx := tx) (tl := tl) (p := p) (c := c) (least := bef + 1) hp hc e1
    obtain ⟨s1, s2⟩ := sk_ge tx tl ((partC tx tl p (bef + 1) c).2.1 + 1)
    refine ih _ _ _ _ _ I' (by omega) (hf.tx hX) (s2 (by omega)) (by omega) (by omega) hN' hR' (fun I2 r hr hf2 h20 hrr => hq I2 r ?_ (hf.trans hf2) h20 hrr)
    rw [hr]
    conv => rhs; rw [numsC.eq_def]
    simp only
    rw [if_neg (fun h => h e1), if_neg (by omega), if_neg (fun h => h e3)]
set_option maxRecDepth 100000 in
set_option maxHeartbeats 1000000 in
theorem m_readsNumbers {G : fG} {x0 : Nat} {l : Launch} {d k n : Nat} {T : fT} {I : fI} {J : fJ} {Q : Option Value → fT → fI → fJ → Prop} {tx : Nat → Int} {tl : Nat} (hM : MObj T) (hT : TxOk tx tl) (htl : tl ≤ 100) (hX : TextM I (tx, tl)) (hq : ∀ (I' : fI) (r : Int × Nat × (Nat → Int)), r = numsOf tx tl → frN I I' → I' 144 20 = zI r.1 → (r.1 = -1 → I' 144 22 = zI r.2.1 ∧ RdM I' r.2.2 r.2.1) → Q none T I' J) : PW G x0 l mX12_readsNumbers (d + 4) (ZM G x0 Q) k n 0 [(0, .ref (x0 + 144))] [] T I J := by
  obtain ⟨o1, o2⟩ := hM.o
  obtain ⟨s1, s2⟩ := sk_ge tx tl 0
  have s2 := s2 (Nat.zero_le _)
  have hm1 : ((-1 : Int32)) = zI (-1) := zm1
  have f3 : frN0 I (iu (iu (iu I 144 19 0) 144 20 (-1)) 144 22 0) := (frN0.put (j := 19) (by omega)).trans ((frN0.put (j := 20) (by omega)).trans (frN0.put (j := 22) (by omega)))
  refine s_aload_n (i := 0) dX12_readsNumbers_0 rfl rfl ?_
  refine s_iconst (v := 0) dX12_readsNumbers_1 (by decide) ?_
  refine s_putI dX12_readsNumbers_2 fp_X12_173 (by assumption) (by assumption) ?_
  refine s_aload_n (i := 0) dX12_readsNumbers_5 rfl rfl ?_
  refine s_iconst (v := -1) dX12_readsNumbers_6 (by decide) ?_
  refine s_putI dX12_readsNumbers_7 fp_X12_180 (by assumption) (by assumption) ?_
  refine s_aload_n (i := 0) dX12_readsNumbers_10 rfl rfl ?_
  refine s_iconst (v := 0) dX12_readsNumbers_11 (by decide) ?_
  refine s_putI dX12_readsNumbers_12 fp_X12_195 (by assumption) (by assumption) ?_
  refine s_aload_n (i := 0) dX12_readsNumbers_15 rfl rfl ?_
  refine s_cV_ (My := mX12_skips) dX12_readsNumbers_16 wM_X12_189 cb_yX12_skips ci_yX12_skips (by assumption) (by assumption) (Nat.le_of_ble_eq_true rfl) (by decide) (s_d (by omega) (m_skips (d := 0) (p := 0) hM hT htl (f3.tx hX) (by rw [iu_j (by omega), iu_j (by omega), iu_at]; rfl) (by omega) (fun I1 hf1 hj1 h1 => ?_)))
  have hf : frN0 I I1 := f3.trans (frN0.of19 hf1 hj1)
  have hX1 := hf.tx hX
  obtain ⟨h18, -⟩ := id hX1
  have g20 : I1 144 20 = zI (-1) := by rw [hj1 20 (by omega), iu_j (by omega), iu_at, hm1]
  have g22 : I1 144 22 = zI ((0 : Nat) : Int) := by rw [hj1 22 (by omega), iu_at]; rfl
  unfold numsOf at hq
  by_cases c1 : tl ≤ sk tx tl 0
  · rw [if_pos c1] at hq
    refine s_aload_n (i := 0) dX12_readsNumbers_19 rfl rfl ?_
    refine s_getI dX12_readsNumbers_20 fl_X12_173 (by assumption) (by assumption) ?_
    rw [h1]
    refine s_aload_n (i := 0) dX12_readsNumbers_23 rfl rfl ?_
    refine s_getI dX12_readsNumbers_24 fl_X12_170 (by assumption) (by assumption) ?_
    rw [h18]
    refine s_icmp_ge (tgt := 34) dX12_readsNumbers_27 (by decide) (fun h27 => ?_) (fun h27 => absurd ((zI_le (by omega) (by omega) (by omega) (by omega)).mpr (by show (tl : Int) ≤ _; omega)) h27)
    refine s_iconst (v := 0) dX12_readsNumbers_34 (by decide) ?_
    refine s_istore_n (i := 1) dX12_readsNumbers_35 rfl (by decide) (by simp only [sl, sl2, rm, Value.category, reduceIte, Nat.reduceAdd, Nat.reduceEqDiff, reduceCtorEq]; rfl) ?_
    refine s_iconst (v := -1) dX12_readsNumbers_36 (by decide) ?_
    refine s_istore_n (i := 2) dX12_readsNumbers_37 rfl (by decide) (by simp only [sl, sl2, rm, Value.category, reduceIte, Nat.reduceAdd, Nat.reduceEqDiff, reduceCtorEq]; rfl) ?_
    refine s_iload_n (i := 1) dX12_readsNumbers_38 rfl rfl ?_
    refine s_if_eq (tgt := 123) dX12_readsNumbers_39 (by decide) (fun h39 => ?_) (fun h39 => absurd (rfl) h39)
    refine s_ret dX12_readsNumbers_123 rfl ?_
    exact hq I1 _ rfl hf.n g20 (fun _ => ⟨g22, fun q h => absurd h (Nat.not_lt_zero q)⟩)
  · rw [if_neg c1] at hq
    refine s_aload_n (i := 0) dX12_readsNumbers_19 rfl rfl ?_
    refine s_getI dX12_readsNumbers_20 fl_X12_173 (by assumption) (by assumption) ?_
    rw [h1]
    refine s_aload_n (i := 0) dX12_readsNumbers_23 rfl rfl ?_
    refine s_getI dX12_readsNumbers_24 fl_X12_170 (by assumption) (by assumption) ?_
    rw [h18]
    refine s_icmp_ge (tgt := 34) dX12_readsNumbers_27 (by decide) (fun h27 => absurd h27 (fun h => by have h := (zI_le (by omega) (by omega) (by omega) (by omega)).mp h; have h : (tl : Int) ≤ sk tx tl 0 := h; omega)) (fun h27 => ?_)
    refine s_iconst (v := 1) dX12_readsNumbers_30 (by decide) ?_
    refine s_goto (tgt := 35) dX12_readsNumbers_31 (by decide) ?_
    refine s_istore_n (i := 1) dX12_readsNumbers_35 rfl (by decide) (by simp only [sl, sl2, rm, Value.category, reduceIte, Nat.reduceAdd, Nat.reduceEqDiff, reduceCtorEq]; rfl) ?_
    skip
    refine s_iconst (v := -1) dX12_readsNumbers_36 (by decide) ?_
    refine s_istore_n (i := 2) dX12_readsNumbers_37 rfl (by decide) (by simp only [sl, sl2, rm, Value.category, reduceIte, Nat.reduceAdd, Nat.reduceEqDiff, reduceCtorEq]; rfl) ?_
    refine s_lv (lv' := [(0, .ref (x0 + 144)), (1, .int 1), (2, .int (zI (-1)))]) ⟨rfl, rfl, by rw [← zm1]; rfl, trivial⟩ ?_
    exact ml_nums hM hT htl 99 (sk tx tl 0) 0 (-1) _ (fun _ => 0) I1 (by omega) hX1 s2 (by omega) (by omega) ⟨h1, g20, g22, rfl⟩ (fun q h => absurd h (Nat.not_lt_zero q)) (fun I2 r hr hf2 a1 a2 => hq I2 r hr (hf.n.trans hf2) a1 a2)
set_option maxRecDepth 100000 in
set_option maxHeartbeats 1000000 in
theorem ml_load {G : fG} {x0 : Nat} {l : Launch} {d k n : Nat} {T : fT} {J : fJ} {Q : Option Value → fT → fI → fJ → Prop} {li mm : Nat} {g : Nat → Int} (hM : MObj T) (hli : li < 6) (hmm : mm ≤ 200) : ∀ (t i : Nat) (I : fI), i + t = mm → I 144 22 = zI mm → (∀ q, q < mm → I 156 q = zI (g q)) → (∀ q, q < i → I 145 (402 * li + 1 + q) = zI (g q)) → (∀ I', fr I I' [145] → (∀ q, ¬ (402 * li + 1 ≤ q ∧ q < 402 * li + 1 + mm) → I' 145 q = I 145 q) → (∀ q, q < mm → I' 145 (402 * li + 1 + q) = zI (g q)) → PW G x0 l mX12_load d (ZM G x0 Q) k n 86 [(0, .ref (x0 + 144)), (1, .int (zI li))] [] T I' J) → PW G x0 l mX12_load d (ZM G x0 Q) k n 52 [(0, .ref (x0 + 144)), (1, .int (zI li)), (2, .int (zI i))] [] T I J := by
  obtain ⟨o1, o2⟩ := hM.o
  obtain ⟨r145, b145, k145, n145⟩ := hM.a145
  obtain ⟨r156, b156, k156, n156⟩ := hM.a156
  intro t
  induction t with
  | zero =>
    intro i I ht hf ha hd kk
    have hi : i = mm := by omega
    subst hi
    refine s_iload_n (i := 2) dX12_load_52 rfl rfl ?_
    refine s_aload_n (i := 0) dX12_load_53 rfl rfl ?_
    refine s_getI dX12_load_54 fl_X12_195 (by assumption) (by assumption) ?_
    rw [hf]
    refine s_icmp_ge (tgt := 86) dX12_load_57 (by decide) (fun h57 => ?_) (fun h57 => absurd ((zI_le (by omega) (by omega) (by omega) (by omega)).mpr (by omega)) h57)
    refine s_lv (lv' := [(0, .ref (x0 + 144)), (1, .int (zI li))]) ⟨rfl, rfl, trivial⟩ ?_
    exact kk I (fr_refl I _) (fun _ _ => rfl) hd
  | succ t ih =>
    intro i I ht hf ha hd kk
    refine s_iload_n (i := 2) dX12_load_52 rfl rfl ?_
    refine s_aload_n (i := 0) dX12_load_53 rfl rfl ?_
    refine s_getI dX12_load_54 fl_X12_195 (by assumption) (by assumption) ?_
    rw [hf]
    refine s_icmp_ge (tgt := 86) dX12_load_57 (by decide) (fun h57 => absurd h57 (fun h => by rw [zI_le (by omega) (by omega) (by omega) (by omega)] at h; omega)) (fun h57 => ?_)
    refine s_aload_n (i := 0) dX12_load_60 rfl rfl ?_
    refine s_getR dX12_load_61 fl_X12_7 (by assumption) (by assumption) (by assumption) ?_
    refine s_sipush (v := 402) dX12_load_64 (by decide) ?_
    refine s_iload_n (i := 1) dX12_load_67 rfl rfl ?_
    refine s_imul dX12_load_68 ?_
    refine s_iconst (v := 1) dX12_load_69 (by decide) ?_
    refine s_iadd dX12_load_70 ?_
    refine s_iload_n (i := 2) dX12_load_71 rfl rfl ?_
    refine s_iadd dX12_load_72 ?_
    refine s_aload_n (i := 0) dX12_load_73 rfl rfl ?_
    refine s_getR dX12_load_74 fl_X12_50 (by assumption) (by assumption) (by assumption) ?_
    refine s_iload_n (i := 2) dX12_load_77 rfl rfl ?_
    refine s_ildn (j := i) dX12_load_78 (by assumption) (by assumption) (by assumption) (by first | with_reducible rfl | ((try simp only [z0, z1, zm1, zm2, zm3, zm4, zl2, zl3, zl4, zl5, zl6, zl7, zl8, zl9, zl10, zl20, zl28, zl31, zl32, zl33, zl48, zl57, zl64, zl100, zl127, zl200, zl201, zl202, zl402, zl1200, zl2412, zl16884, zI_add, zI_sub, zI_mul, zI_inc, zI_dec]) <;> (congr 1 <;> omega))) (by omega) (by decide) ?_
    refine s_istn (j := 402 * li + 1 + i) dX12_load_79 (by assumption) (by assumption) (by assumption) (by first | with_reducible rfl | ((try simp only [z0, z1, zm1, zm2, zm3, zm4, zl2, zl3, zl4, zl5, zl6, zl7, zl8, zl9, zl10, zl20, zl28, zl31, zl32, zl33, zl48, zl57, zl64, zl100, zl127, zl200, zl201, zl202, zl402, zl1200, zl2412, zl16884, zI_add, zI_sub, zI_mul, zI_inc, zI_dec]) <;> (congr 1 <;> omega))) (by omega) (by decide) ?_
    refine s_iinc dX12_load_80 rfl (zI_inc _) (by decide) (by simp only [sl, sl2, rm, Value.category, reduceIte, Nat.reduceAdd, Nat.reduceEqDiff, reduceCtorEq]; rfl) ?_
    refine s_goto (tgt := 52) dX12_load_83 (by decide) ?_
    refine ih (i + 1) _ (by omega) (by rw [iu_ne (by omega)]; exact hf) (fun q h => by rw [iu_ne (by omega)]; exact ha q h) (fun q h => ?_) (fun I' hf ho hd' => kk I' (fr_trans (fr_iu (by simp)) hf) (fun q h => ?_) hd')
    · by_cases e : q = i
      · subst e; rw [iu_at]; exact ha q (by omega)
      · rw [iu_j (by omega)]; exact hd q (by omega)
    · rw [ho q h, iu_j (by omega)]
theorem frN.s {I I' : fI} (h : frN I I') : frS I I' := ⟨fun b hb => h.1 b (by simp; omega), fun j hj => h.2 j (by omega) (by omega) (by omega) (by omega)⟩
set_option maxRecDepth 100000 in
set_option maxHeartbeats 1000000 in
theorem m_load {G : fG} {x0 : Nat} {l : Launch} {d k n : Nat} {T : fT} {I : fI} {J : fJ} {Q : Option Value → fT → fI → fJ → Prop} {x : Int32} {S S' : ASt} {a : Int} (hS : MIs T I S) (hk : SOk S) (h : rLoad S x.toInt a S') (hq : ∀ I', frC I I' → MIs T I' S' → Q (some (.int (zI a))) T I' J) : PW G x0 l mX12_load (d + 5) (ZM G x0 Q) k n 0 [(0, .ref (x0 + 144)), (1, .int x)] [] T I J := by
  have hM := hS.1
  have hX := hS.2.2.2.2.1
  have hTx := hk.2.2.2.1
  have htl := hk.2.2.2.2.1
  obtain ⟨o1, o2⟩ := hM.o
  obtain ⟨r145, b145, k145, n145⟩ := hM.a145
  obtain ⟨r156, b156, k156, n156⟩ := hM.a156
  refine s_iload_n (i := 1) dX12_load_0 rfl rfl ?_
  refine s_cS_I (My := mX12_isList) dX12_load_1 wM_X12_73 cb_yX12_isList wT_yX12_isList (Nat.le_of_ble_eq_true rfl) (by decide) (s_d (by omega) (m_isList (d := 0) ?_ ?_))
  · intro hx
    obtain ⟨hbad, -, -⟩ | ⟨li, r, hli, e1, hr, hh⟩ := h
    · exact absurd hx hbad
    have hxz := t_zI e1
    subst hxz
    have hxt : (zI (li : Int)).toInt = li := zI_t (by omega) (by omega)
    have hL := hk.1 li hli
    have hm := hS.L hli
    have hnm := hL.nbm
    have hmm := hL.1
    have hrb := numsOf_bd hr
    refine s_if_ne (tgt := 10) dX12_load_4 (by decide) (fun h4 => ?_) (fun h4 => absurd h4 (by decide))
    refine s_aload_n (i := 0) dX12_load_10 rfl rfl ?_
    refine s_cV_ (My := mX12_readsNumbers) dX12_load_11 wM_X12_201 cb_yX12_readsNumbers ci_yX12_readsNumbers (by assumption) (by assumption) (Nat.le_of_ble_eq_true rfl) (by decide) (s_d (by omega) (m_readsNumbers (d := 0) hM hTx htl hX (fun I0 r0 hr0 hf0 h20 hrr => ?_)))
    have hrr0 : r0 = r := hr0.trans hr.symm
    subst hrr0
    have hS0 := hS.fr hf0.s
    obtain ⟨hne, rfl, rfl⟩ | ⟨heq, rfl, R, E, nb, h3, h4, h5, rfl⟩ := hh
    · refine s_aload_n (i := 0) dX12_load_14 rfl rfl ?_
      refine s_getI dX12_load_15 fl_X12_180 (by assumption) (by assumption) ?_
      rw [h20]
      refine s_iconst (v := -1) dX12_load_18 (by decide) ?_
      refine s_icmp_eq (tgt := 31) dX12_load_19 (by decide) (fun h19 => absurd h19 (fun h => by rw [zm1, zI_eq (by omega) (by omega) (by omega) (by omega)] at h; omega)) (fun h19 => ?_)
      refine s_sipush (v := -2000) dX12_load_22 (by decide) ?_
      refine s_aload_n (i := 0) dX12_load_25 rfl rfl ?_
      refine s_getI dX12_load_26 fl_X12_180 (by assumption) (by assumption) ?_
      rw [h20]
      refine s_isub dX12_load_29 ?_
      refine s_topi (y := zI (-2000 - r0.1)) (by rw [zm2000, zI_sub]) ?_
      refine s_iret dX12_load_30 rfl ?_
      exact hq I0 hf0.s.c hS0
    · obtain ⟨h22, hR⟩ := hrr heq
      obtain ⟨k1, k2, k3⟩ := numsOf_ok (tx := S.2.2.2.1.1) (tl := S.2.2.2.1.2) (by rw [← hr0]; exact heq)
      rw [← hr0] at k1 k2 k3
      have hL' : LOk (planL r0.2.2 r0.2.1 E nb) := LOk.plan k1 k2 k3 h3 h4 h5
      have hcut : rCut ((r0.2.2, r0.2.1, fun _ => 0, 0) : LSt) ((0 : Int32)).toInt (planL r0.2.2 r0.2.1 E nb) := Or.inl ⟨by decide, R, E, nb, h3, h4, h5, rfl⟩
      have hsb := (sumB5_bd hL' nb (Nat.le_refl _)).1
      have hsb2 := (sumB5_bd hL' nb (Nat.le_refl _)).2
      have hnb : nb ≤ r0.2.1 := hL'.nbm
      refine s_aload_n (i := 0) dX12_load_14 rfl rfl ?_
      refine s_getI dX12_load_15 fl_X12_180 (by assumption) (by assumption) ?_
      rw [h20]
      refine s_iconst (v := -1) dX12_load_18 (by decide) ?_
      refine s_icmp_eq (tgt := 31) dX12_load_19 (by decide) (fun h19 => ?_) (fun h19 => absurd (by rw [heq]; exact zm1.symm) h19)
      refine s_aload_n (i := 0) dX12_load_31 rfl rfl ?_
      refine s_iload_n (i := 1) dX12_load_32 rfl rfl ?_
      refine s_cV_I (My := mX12_keeps) dX12_load_33 wM_X12_154 cb_yX12_keeps ci_yX12_keeps (by assumption) (by assumption) (Nat.le_of_ble_eq_true rfl) (by decide) (s_d (by omega) (m_keeps (d := 0) hS0 hk hli (fun I1 hf1 hj1 hK => ?_)))
      refine s_aload_n (i := 0) dX12_load_36 rfl rfl ?_
      refine s_getR dX12_load_37 fl_X12_7 (by assumption) (by assumption) (by assumption) ?_
      refine s_sipush (v := 402) dX12_load_40 (by decide) ?_
      refine s_iload_n (i := 1) dX12_load_43 rfl rfl ?_
      refine s_imul dX12_load_44 ?_
      refine s_aload_n (i := 0) dX12_load_45 rfl rfl ?_
      refine s_getI dX12_load_46 fl_X12_195 (by assumption) (by assumption) ?_
      rw [hj1 22 (by omega) (by omega), h22]
      refine s_istn (j := 402 * li) dX12_load_49 (by assumption) (by assumption) (by assumption) (by first | with_reducible rfl | ((try simp only [z0, z1, zm1, zm2, zm3, zm4, zl2, zl3, zl4, zl5, zl6, zl7, zl8, zl9, zl10, zl20, zl28, zl31, zl32, zl33, zl48, zl57, zl64, zl100, zl127, zl200, zl201, zl202, zl402, zl1200, zl2412, zl16884, zI_add, zI_sub, zI_mul, zI_inc, zI_dec]) <;> (congr 1 <;> omega))) (by omega) (by decide) ?_
      refine s_iconst (v := 0) dX12_load_50 (by decide) ?_
      refine s_istore_n (i := 2) dX12_load_51 rfl (by decide) (by simp only [sl, sl2, rm, Value.category, reduceIte, Nat.reduceAdd, Nat.reduceEqDiff, reduceCtorEq]; rfl) ?_
      refine ml_load (mm := r0.2.1) (g := r0.2.2) hM hli k1 r0.2.1 0 _ (by omega) (by rw [iu_ne (by omega), hj1 22 (by omega) (by omega), h22]) (fun q h => by rw [iu_ne (by omega), hf1 156 (by decide)]; exact hR q h) (fun q h => absurd h (Nat.not_lt_zero q)) (fun I2 hf2 ho2 hd2 => ?_)
      refine s_aload_n (i := 0) dX12_load_86 rfl rfl ?_
      refine s_iconst (v := 0) dX12_load_87 (by decide) ?_
      refine s_putI dX12_load_88 fp_X12_170 (by assumption) (by assumption) ?_
      refine s_aload_n (i := 0) dX12_load_91 rfl rfl ?_
      refine s_iload_n (i := 1) dX12_load_92 rfl rfl ?_
      refine s_iconst (v := 0) dX12_load_93 (by decide) ?_
      refine s_cV_II (My := mX12_packs) dX12_load_94 wM_X12_167 cb_yX12_packs ci_yX12_packs (by assumption) (by assumption) (Nat.le_of_ble_eq_true rfl) (by decide) (s_d (by omega) (m_packs (d := 0) (L := (r0.2.2, r0.2.1, fun _ => 0, 0)) hM hli hL' ⟨by rw [iu_ne (by omega), ho2 _ (by omega), iu_at], fun q h => by rw [iu_ne (by omega)]; exact hd2 q h⟩ hcut (fun I3 hf3 hj3 ho3 hL3 => ?_)))
      refine s_istore_n (i := 2) dX12_load_97 rfl (by decide) (by simp only [sl, sl2, rm, Value.category, reduceIte, Nat.reduceAdd, Nat.reduceEqDiff, reduceCtorEq]; rfl) ?_
      refine s_iload_n (i := 2) dX12_load_98 rfl rfl ?_
      refine s_if_ge (tgt := 106) dX12_load_99 (by decide) (fun h99 => ?_) (fun h99 => absurd (by rw [z0]; exact (zI_le (by omega) (by omega) (by show sumB (planL r0.2.2 r0.2.1 E nb) 5 nb ≥ _; omega) (by show sumB (planL r0.2.2 r0.2.1 E nb) 5 nb < _; omega)).mpr hsb) h99)
      refine s_aload_n (i := 0) dX12_load_106 rfl rfl ?_
      refine s_getI dX12_load_107 fl_X12_195 (by assumption) (by assumption) ?_
      rw [hj3 22 (by omega), iu_j (by omega), hf2 144 (by decide), iu_ne (by omega), hj1 22 (by omega) (by omega), h22]
      refine s_iret dX12_load_110 rfl ?_
      have hfk : frK I1 I3 := ⟨fun b hb => by rw [hf3 b (by simp; omega), iu_ne (by omega), hf2 b (by simp; omega), iu_ne (by omega)], fun j h => by rw [hj3 j (by omega), iu_j (by omega), hf2 144 (by decide), iu_ne (by omega)]⟩
      refine hq I3 (frC.trans hf0.s.c (frC.trans (frC.of hf1 (fun b hb => by simp at hb; omega)) hfk.c)) (hK.fin hfk (hK.2.1.upd hk.ls (fun q h => ?_) hL3) ⟨?_, fun q h => absurd h (Nat.not_lt_zero q)⟩)
      · rw [ho3 q h, iu_ne (by omega), ho2 q (by omega), iu_j (by omega)]
      · rw [hj3 18 (by omega), iu_at]; rfl
  · intro hx
    obtain ⟨-, rfl, rfl⟩ | ⟨li, r, hli, e1, -⟩ := h
    · refine s_if_ne (tgt := 10) dX12_load_4 (by decide) (fun h4 => absurd h4 (fun h => h rfl)) (fun h4 => ?_)
      refine s_bipush (v := -2) dX12_load_7 (by decide) ?_
      refine s_iret dX12_load_9 rfl ?_
      rw [zm2]
      exact hq I (frC.refl I) hS
    · exact absurd (by omega) hx
