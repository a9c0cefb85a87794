set_option maxRecDepth 100000 in
set_option maxHeartbeats 1000000 in
theorem ml_packs {G : fG} {x0 : Nat} {l : Launch} {d k n : Nat} {T : fT} {J : fJ} {Q : Option Value → fT → fI → fJ → Prop} {li nb : Nat} {v : Nat → Int} {y s : Int32} (hM : MObj T) (hli : li < 6) (hnb : nb ≤ 200) : ∀ (t i : Nat) (I : fI), i + t = nb → I 144 13 = zI nb → (∀ q, q < nb → I 151 q = zI (v q)) → (∀ q, q < i → I 145 (402 * li + 202 + q) = zI (v q)) → (∀ I', fr I I' [145] → (∀ q, ¬ (402 * li + 202 ≤ q ∧ q < 402 * li + 202 + nb) → I' 145 q = I 145 q) → (∀ q, q < nb → I' 145 (402 * li + 202 + q) = zI (v q)) → Q (some (.int s)) T I' J) → PW G x0 l mX12_packs d (ZM G x0 Q) k n 28 [(0, .ref (x0 + 144)), (1, .int (zI li)), (2, .int y), (3, .int s), (4, .int (zI i))] [] T I J := by
  obtain ⟨o1, o2⟩ := hM.o
  obtain ⟨r145, b145, k145, n145⟩ := hM.a145
  obtain ⟨r151, b151, k151, n151⟩ := hM.a151
  intro t
  induction t with
  | zero =>
    intro i I ht h13 h151 hd hq
    have hi : i = nb := by omega
    subst hi
    refine s_iload dX12_packs_28 rfl ?_
    refine s_aload_n (i := 0) dX12_packs_30 rfl rfl ?_
    refine s_getI dX12_packs_31 fl_X12_134 (by assumption) (by assumption) ?_
    rw [h13]
    refine s_icmp_ge (tgt := 67) dX12_packs_34 (by decide) (fun h34 => ?_) (fun h34 => absurd ((zI_le (by omega) (by omega) (by omega) (by omega)).mpr (by omega)) h34)
    refine s_iload_n (i := 3) dX12_packs_67 rfl rfl ?_
    refine s_iret dX12_packs_68 rfl ?_
    exact hq I (fr_refl I _) (fun _ _ => rfl) hd
  | succ t ih =>
    intro i I ht h13 h151 hd hq
    refine s_iload dX12_packs_28 rfl ?_
    refine s_aload_n (i := 0) dX12_packs_30 rfl rfl ?_
    refine s_getI dX12_packs_31 fl_X12_134 (by assumption) (by assumption) ?_
    rw [h13]
    refine s_icmp_ge (tgt := 67) dX12_packs_34 (by decide) (fun h34 => absurd h34 (fun h => by rw [zI_le (by omega) (by omega) (by omega) (by omega)] at h; omega)) (fun h34 => ?_)
    refine s_aload_n (i := 0) dX12_packs_37 rfl rfl ?_
    refine s_getR dX12_packs_38 fl_X12_7 (by assumption) (by assumption) (by assumption) ?_
    refine s_sipush (v := 402) dX12_packs_41 (by decide) ?_
    refine s_iload_n (i := 1) dX12_packs_44 rfl rfl ?_
    refine s_imul dX12_packs_45 ?_
    refine s_sipush (v := 202) dX12_packs_46 (by decide) ?_
    refine s_iadd dX12_packs_49 ?_
    refine s_iload dX12_packs_50 rfl ?_
    refine s_iadd dX12_packs_52 ?_
    refine s_aload_n (i := 0) dX12_packs_53 rfl rfl ?_
    refine s_getR dX12_packs_54 fl_X12_35 (by assumption) (by assumption) (by assumption) ?_
    refine s_iload dX12_packs_57 rfl ?_
    refine s_ildn (j := i) dX12_packs_59 (by assumption) (by assumption) (by assumption) (by first | with_reducible rfl | ((try simp only [z0, z1, zm1, zm2, zm3, zm4, zl2, zl3, zl4, zl5, zl6, zl7, zl8, zl9, zl10, zl20, zl28, zl31, zl32, zl33, zl48, zl57, zl64, zl100, zl127, zl200, zl201, zl202, zl402, zl1200, zl2412, zl16884, zI_add, zI_sub, zI_mul, zI_inc, zI_dec]) <;> (congr 1 <;> omega))) (by omega) (by decide) ?_
    refine s_istn (j := 402 * li + 202 + i) dX12_packs_60 (by assumption) (by assumption) (by assumption) (by first | with_reducible rfl | ((try simp only [z0, z1, zm1, zm2, zm3, zm4, zl2, zl3, zl4, zl5, zl6, zl7, zl8, zl9, zl10, zl20, zl28, zl31, zl32, zl33, zl48, zl57, zl64, zl100, zl127, zl200, zl201, zl202, zl402, zl1200, zl2412, zl16884, zI_add, zI_sub, zI_mul, zI_inc, zI_dec]) <;> (congr 1 <;> omega))) (by omega) (by decide) ?_
    refine s_iinc dX12_packs_61 rfl (zI_inc _) (by decide) (by simp only [sl, sl2, rm, Value.category, reduceIte, Nat.reduceAdd, Nat.reduceEqDiff, reduceCtorEq]; rfl) ?_
    refine s_goto (tgt := 28) dX12_packs_64 (by decide) ?_
    refine ih (i + 1) _ (by omega) (by rw [iu_ne (by omega)]; exact h13) (fun q h => by rw [iu_ne (by omega)]; exact h151 q h) (fun q h => ?_) (fun I' hf ho hd' => hq I' (fr_trans (fr_iu (by simp)) hf) (fun q h => ?_) hd')
    · by_cases e : q = i
      · subst e; rw [iu_at]; exact h151 q (by omega)
      · rw [iu_j (by omega)]; exact hd q (by omega)
    · rw [ho q h, iu_j (by omega)]
set_option maxRecDepth 100000 in
set_option maxHeartbeats 1000000 in
theorem m_packs {G : fG} {x0 : Nat} {l : Launch} {d k n : Nat} {T : fT} {I : fI} {J : fJ} {Q : Option Value → fT → fI → fJ → Prop} {li : Nat} {L L' : LSt} (hM : MObj T) (hli : li < 6) (hL : LOk L') {y : Int32} (hm : MN (I 145) (402 * li) L.1 L.2.1) (hc : rCut L y.toInt L') (hq : ∀ I', fr I I' [144, 145, 150, 151, 152, 153, 154] → (∀ q, q ≠ 13 → I' 144 q = I 144 q) → (∀ q, ¬ (402 * li ≤ q ∧ q < 402 * li + 402) → I' 145 q = I 145 q) → ML (I' 145) (402 * li) L' → Q (some (.int (zI (sumB L' 5 L'.2.2.2)))) T I' J) : PW G x0 l mX12_packs (d + 4) (ZM G x0 Q) k n 0 [(0, .ref (x0 + 144)), (1, .int (zI li)), (2, .int y)] [] T I J := by
  obtain ⟨o1, o2⟩ := hM.o
  obtain ⟨r145, b145, k145, n145⟩ := hM.a145
  obtain ⟨r151, b151, k151, n151⟩ := hM.a151
  have hmm := hL.1
  have hnm := hL.nbm
  obtain ⟨s1, s2⟩ := hc.same
  have hm' : MN (I 145) (402 * li) L'.1 L'.2.1 := by rw [s1, s2]; exact hm
  refine s_aload_n (i := 0) dX12_packs_0 rfl rfl ?_
  refine s_iload_n (i := 1) dX12_packs_1 rfl rfl ?_
  refine s_iload_n (i := 2) dX12_packs_2 rfl rfl ?_
  refine s_cV_II (My := mX12_plans) dX12_packs_3 wM_X12_141 cb_yX12_plans ci_yX12_plans (by assumption) (by assumption) (Nat.le_of_ble_eq_true rfl) (by decide) (s_d (by omega) (m_plans (d := 0) hM hli hmm hL.gap hL hm hc (fun I1 hf1 hj1 h13 h151 => ?_)))
  refine s_istore_n (i := 3) dX12_packs_6 rfl (by decide) (by simp only [sl, sl2, rm, Value.category, reduceIte, Nat.reduceAdd, Nat.reduceEqDiff, reduceCtorEq]; rfl) ?_
  refine s_aload_n (i := 0) dX12_packs_7 rfl rfl ?_
  refine s_getR dX12_packs_8 fl_X12_7 (by assumption) (by assumption) (by assumption) ?_
  refine s_sipush (v := 402) dX12_packs_11 (by decide) ?_
  refine s_iload_n (i := 1) dX12_packs_14 rfl rfl ?_
  refine s_imul dX12_packs_15 ?_
  refine s_sipush (v := 201) dX12_packs_16 (by decide) ?_
  refine s_iadd dX12_packs_19 ?_
  refine s_aload_n (i := 0) dX12_packs_20 rfl rfl ?_
  refine s_getI dX12_packs_21 fl_X12_134 (by assumption) (by assumption) ?_
  rw [h13]
  refine s_istn (j := 402 * li + 201) dX12_packs_24 (by assumption) (by assumption) (by assumption) (by first | with_reducible rfl | ((try simp only [z0, z1, zm1, zm2, zm3, zm4, zl2, zl3, zl4, zl5, zl6, zl7, zl8, zl9, zl10, zl20, zl28, zl31, zl32, zl33, zl48, zl57, zl64, zl100, zl127, zl200, zl201, zl202, zl402, zl1200, zl2412, zl16884, zI_add, zI_sub, zI_mul, zI_inc, zI_dec]) <;> (congr 1 <;> omega))) (by omega) (by decide) ?_
  refine s_iconst (v := 0) dX12_packs_25 (by decide) ?_
  refine s_istore dX12_packs_26 (by decide) (by simp only [sl, sl2, rm, Value.category, reduceIte, Nat.reduceAdd, Nat.reduceEqDiff, reduceCtorEq]; rfl) ?_
  refine ml_packs (nb := L'.2.2.2) (v := fun q => (bl L' q : Int)) hM hli (by omega) L'.2.2.2 0 _ (by omega) (by rw [iu_ne (by omega)]; exact h13) (fun q h => by rw [iu_ne (by omega)]; exact h151 q h) (fun q h => absurd h (Nat.not_lt_zero q)) (fun I2 hf2 ho hd => ?_)
  refine hq I2 (fun b hb => ?_) (fun q h => ?_) (fun q h => ?_) ⟨?_, fun q h => ?_, ?_, fun q h => hd q h⟩
  · simp at hb
    rw [hf2 b (by simp; omega), iu_ne (by omega), hf1 b (by simp; omega)]
  · rw [hf2 144 (by decide), iu_ne (by omega), hj1 q h]
  · rw [ho q (by omega), iu_j (by omega), hf1 145 (by decide)]
  · rw [ho _ (by omega), iu_j (by omega), hf1 145 (by decide)]; exact hm'.1
  · rw [ho _ (by omega), iu_j (by omega), hf1 145 (by decide)]; exact hm'.2 q h
  · rw [ho _ (by omega), iu_at]
set_option maxRecDepth 100000 in
set_option maxHeartbeats 1000000 in
theorem m_pack {G : fG} {x0 : Nat} {l : Launch} {d k n : Nat} {T : fT} {I : fI} {J : fJ} {Q : Option Value → fT → fI → fJ → Prop} {x y : Int32} {S S' : ASt} {a : Int} (hS : MIs T I S) (hk : SOk S) (h : rPack S x.toInt y.toInt a S') (hq : ∀ I', frC I I' → MIs T I' S' → Q (some (.int (zI a))) T I' J) : PW G x0 l mX12_pack (d + 5) (ZM G x0 Q) k n 0 [(0, .ref (x0 + 144)), (1, .int x), (2, .int y)] [] T I J := by
  have hM := hS.1
  obtain ⟨o1, o2⟩ := hM.o
  have t0 : ((0 : Int32)).toInt = 0 := by decide
  have t64 : ((64 : Int32)).toInt = 64 := by decide
  refine s_iload_n (i := 1) dX12_pack_0 rfl rfl ?_
  refine s_cS_I (My := mX12_isList) dX12_pack_1 wM_X12_73 cb_yX12_isList wT_yX12_isList (Nat.le_of_ble_eq_true rfl) (by decide) (s_d (by omega) (m_isList (d := 0) ?_ ?_))
  · intro hx
    refine s_if_eq (tgt := 17) dX12_pack_4 (by decide) (fun h4 => absurd h4 (by decide)) (fun h4 => ?_)
    refine s_iload_n (i := 2) dX12_pack_7 rfl rfl ?_
    refine s_iconst (v := 0) dX12_pack_8 (by decide) ?_
    refine s_bipush (v := 64) dX12_pack_9 (by decide) ?_
    refine s_cS_III (My := mX12_in) dX12_pack_11 wM_X12_68 cb_yX12_in wT_yX12_in (Nat.le_of_ble_eq_true rfl) (by decide) (s_d (by omega) (m_in (d := 0) ?_ ?_))
    · intro hy
      rw [t0, t64] at hy
      obtain ⟨hbad, -, -⟩ | ⟨li, L', hli, e1, hy2, hcut, rfl, rfl⟩ := h
      · exact absurd ⟨hx, hy⟩ hbad
      have hxz := t_zI e1
      subst hxz
      have hxt : (zI (li : Int)).toInt = li := zI_t (by omega) (by omega)
      have hL := hk.1 li hli
      have hm := hS.L hli
      have hnm := hL.nbm
      have hmm := hL.1
      refine s_if_ne (tgt := 20) dX12_pack_14 (by decide) (fun h14 => ?_) (fun h14 => absurd h14 (by decide))
      refine s_aload_n (i := 0) dX12_pack_20 rfl rfl ?_
      refine s_iload_n (i := 1) dX12_pack_21 rfl rfl ?_
      refine s_cV_I (My := mX12_keeps) dX12_pack_22 wM_X12_154 cb_yX12_keeps ci_yX12_keeps (by assumption) (by assumption) (Nat.le_of_ble_eq_true rfl) (by decide) (s_d (by omega) (m_keeps (d := 0) hS hk hli (fun I1 hf1 hj1 hK => ?_)))
      refine s_aload_n (i := 0) dX12_pack_25 rfl rfl ?_
      refine s_iload_n (i := 1) dX12_pack_26 rfl rfl ?_
      refine s_iload_n (i := 2) dX12_pack_27 rfl rfl ?_
      refine s_cV_II (My := mX12_packs) dX12_pack_28 wM_X12_167 cb_yX12_packs ci_yX12_packs (by assumption) (by assumption) (Nat.le_of_ble_eq_true rfl) (by decide) (s_d (by omega) (m_packs (d := 0) hM hli (hcut.ok hL) (hK.2.1.at0 hli).n hcut (fun I2 hf2 hj2 ho2 hL2 => ?_)))
      refine s_iret dX12_pack_31 rfl ?_
      have hfk : frK I1 I2 := ⟨fun b hb => hf2 b (by simp; omega), fun j h => hj2 j (by omega)⟩
      exact hq I2 (frC.trans (frC.of hf1 (fun b hb => by simp at hb; omega)) hfk.c) (hK.fin0 hfk (hj2 18 (by omega)) (hK.2.1.upd hk.ls ho2 hL2))
    · intro hy
      rw [t0, t64] at hy
      obtain ⟨-, rfl, rfl⟩ | ⟨li, L', hli, e1, hy2, -⟩ := h
      · refine s_if_ne (tgt := 20) dX12_pack_14 (by decide) (fun h14 => absurd h14 (fun h => h rfl)) (fun h14 => ?_)
        refine s_bipush (v := -2) dX12_pack_17 (by decide) ?_
        refine s_iret dX12_pack_19 rfl ?_
        rw [zm2]
        exact hq I (frC.refl I) hS
      · exact absurd hy2 hy
  · intro hx
    obtain ⟨-, rfl, rfl⟩ | ⟨li, L', hli, e1, -⟩ := h
    · refine s_if_eq (tgt := 17) dX12_pack_4 (by decide) (fun h4 => ?_) (fun h4 => absurd (rfl) h4)
      refine s_bipush (v := -2) dX12_pack_17 (by decide) ?_
      refine s_iret dX12_pack_19 rfl ?_
      rw [zm2]
      exact hq I (frC.refl I) hS
    · exact absurd (by omega) hx
set_option maxRecDepth 100000 in
set_option maxHeartbeats 1000000 in
theorem m_costBy {G : fG} {x0 : Nat} {l : Launch} {d k n : Nat} {T : fT} {I : fI} {J : fJ} {Q : Option Value → fT → fI → fJ → Prop} {x y : Int32} {S : ASt} {a : Int} (hS : MIs T I S) (hk : SOk S) (h : rCost S x.toInt y.toInt a) (hq : ∀ I', frS I I' → Q (some (.int (zI a))) T I' J) : PW G x0 l mX12_costBy (d + 4) (ZM G x0 Q) k n 0 [(0, .ref (x0 + 144)), (1, .int x), (2, .int y)] [] T I J := by
  have hM := hS.1
  obtain ⟨o1, o2⟩ := hM.o
  have t0 : ((0 : Int32)).toInt = 0 := by decide
  have t64 : ((64 : Int32)).toInt = 64 := by decide
  refine s_iload_n (i := 1) dX12_costBy_0 rfl rfl ?_
  refine s_cS_I (My := mX12_isList) dX12_costBy_1 wM_X12_73 cb_yX12_isList wT_yX12_isList (Nat.le_of_ble_eq_true rfl) (by decide) (s_d (by omega) (m_isList (d := 0) ?_ ?_))
  · intro hx
    refine s_if_eq (tgt := 26) dX12_costBy_4 (by decide) (fun h4 => absurd h4 (by decide)) (fun h4 => ?_)
    refine s_iload_n (i := 2) dX12_costBy_7 rfl rfl ?_
    refine s_iconst (v := 0) dX12_costBy_8 (by decide) ?_
    refine s_bipush (v := 64) dX12_costBy_9 (by decide) ?_
    refine s_cS_III (My := mX12_in) dX12_costBy_11 wM_X12_68 cb_yX12_in wT_yX12_in (Nat.le_of_ble_eq_true rfl) (by decide) (s_d (by omega) (m_in (d := 0) ?_ ?_))
    · intro hy
      rw [t0, t64] at hy
      obtain ⟨hbad, -⟩ | ⟨li, L', hli, e1, hy2, hcut, rfl⟩ := h
      · exact absurd ⟨hx, hy⟩ hbad
      have hxz := t_zI e1
      subst hxz
      have hxt : (zI (li : Int)).toInt = li := zI_t (by omega) (by omega)
      have hL := hk.1 li hli
      have hm := hS.L hli
      have hnm := hL.nbm
      have hmm := hL.1
      have hL' := hcut.ok hL
      refine s_if_eq (tgt := 26) dX12_costBy_14 (by decide) (fun h14 => absurd h14 (by decide)) (fun h14 => ?_)
      refine s_aload_n (i := 0) dX12_costBy_17 rfl rfl ?_
      refine s_iload_n (i := 1) dX12_costBy_18 rfl rfl ?_
      refine s_iload_n (i := 2) dX12_costBy_19 rfl rfl ?_
      refine s_cV_II (My := mX12_plans) dX12_costBy_20 wM_X12_141 cb_yX12_plans ci_yX12_plans (by assumption) (by assumption) (Nat.le_of_ble_eq_true rfl) (by decide) (s_d (by omega) (m_plans (d := 0) hM hli hL'.1 hL'.gap hL' hm.n hcut (fun I1 hf1 hj1 h13 h151 => ?_)))
      refine s_goto (tgt := 28) dX12_costBy_23 (by decide) ?_
      refine s_iret dX12_costBy_28 rfl ?_
      exact hq I1 ⟨fun b hb => hf1 b (by simp; omega), fun j h => hj1 j (by omega)⟩
    · intro hy
      rw [t0, t64] at hy
      obtain ⟨-, rfl⟩ | ⟨li, L', hli, e1, hy2, -⟩ := h
      · refine s_if_eq (tgt := 26) dX12_costBy_14 (by decide) (fun h14 => ?_) (fun h14 => absurd (rfl) h14)
        refine s_bipush (v := -2) dX12_costBy_26 (by decide) ?_
        refine s_iret dX12_costBy_28 rfl ?_
        rw [zm2]
        exact hq I (frS.refl I)
      · exact absurd hy2 hy
  · intro hx
    obtain ⟨-, rfl⟩ | ⟨li, L', hli, e1, -⟩ := h
    · refine s_if_eq (tgt := 26) dX12_costBy_4 (by decide) (fun h4 => ?_) (fun h4 => absurd (rfl) h4)
      refine s_bipush (v := -2) dX12_costBy_26 (by decide) ?_
      refine s_iret dX12_costBy_28 rfl ?_
      rw [zm2]
      exact hq I (frS.refl I)
    · exact absurd (show 0 ≤ x.toInt ∧ x.toInt < 6 by omega) hx
set_option maxRecDepth 100000 in
set_option maxHeartbeats 1000000 in
theorem ml_store {G : fG} {x0 : Nat} {l : Launch} {d k n : Nat} {T : fT} {J : fJ} {Q : Option Value → fT → fI → fJ → Prop} {li mm : Nat} {g : Nat → Int} (hM : MObj T) (hli : li < 6) (hmm : mm ≤ 200) : ∀ (t i : Nat) (I : fI), i + t = mm → I 144 9 = zI mm → (∀ q, q < mm → I 149 q = zI (g q)) → (∀ q, q < i → I 145 (402 * li + 1 + q) = zI (g q)) → (∀ I', fr I I' [145] → (∀ q, ¬ (402 * li + 1 ≤ q ∧ q < 402 * li + 1 + mm) → I' 145 q = I 145 q) → (∀ q, q < mm → I' 145 (402 * li + 1 + q) = zI (g q)) → PW G x0 l mX12_store d (ZM G x0 Q) k n 89 [(0, .ref (x0 + 144)), (1, .int (zI li))] [] T I' J) → PW G x0 l mX12_store d (ZM G x0 Q) k n 55 [(0, .ref (x0 + 144)), (1, .int (zI li)), (2, .int (zI i))] [] T I J := by
  obtain ⟨o1, o2⟩ := hM.o
  obtain ⟨r145, b145, k145, n145⟩ := hM.a145
  obtain ⟨r149, b149, k149, n149⟩ := hM.a149
  intro t
  induction t with
  | zero =>
    intro i I ht hf ha hd kk
    have hi : i = mm := by omega
    subst hi
    refine s_iload_n (i := 2) dX12_store_55 rfl rfl ?_
    refine s_aload_n (i := 0) dX12_store_56 rfl rfl ?_
    refine s_getI dX12_store_57 fl_X12_25 (by assumption) (by assumption) ?_
    rw [hf]
    refine s_icmp_ge (tgt := 89) dX12_store_60 (by decide) (fun h60 => ?_) (fun h60 => absurd ((zI_le (by omega) (by omega) (by omega) (by omega)).mpr (by omega)) h60)
    refine s_lv (lv' := [(0, .ref (x0 + 144)), (1, .int (zI li))]) ⟨rfl, rfl, trivial⟩ ?_
    exact kk I (fr_refl I _) (fun _ _ => rfl) hd
  | succ t ih =>
    intro i I ht hf ha hd kk
    refine s_iload_n (i := 2) dX12_store_55 rfl rfl ?_
    refine s_aload_n (i := 0) dX12_store_56 rfl rfl ?_
    refine s_getI dX12_store_57 fl_X12_25 (by assumption) (by assumption) ?_
    rw [hf]
    refine s_icmp_ge (tgt := 89) dX12_store_60 (by decide) (fun h60 => absurd h60 (fun h => by rw [zI_le (by omega) (by omega) (by omega) (by omega)] at h; omega)) (fun h60 => ?_)
    refine s_aload_n (i := 0) dX12_store_63 rfl rfl ?_
    refine s_getR dX12_store_64 fl_X12_7 (by assumption) (by assumption) (by assumption) ?_
    refine s_sipush (v := 402) dX12_store_67 (by decide) ?_
    refine s_iload_n (i := 1) dX12_store_70 rfl rfl ?_
    refine s_imul dX12_store_71 ?_
    refine s_iconst (v := 1) dX12_store_72 (by decide) ?_
    refine s_iadd dX12_store_73 ?_
    refine s_iload_n (i := 2) dX12_store_74 rfl rfl ?_
    refine s_iadd dX12_store_75 ?_
    refine s_aload_n (i := 0) dX12_store_76 rfl rfl ?_
    refine s_getR dX12_store_77 fl_X12_22 (by assumption) (by assumption) (by assumption) ?_
    refine s_iload_n (i := 2) dX12_store_80 rfl rfl ?_
    refine s_ildn (j := i) dX12_store_81 (by assumption) (by assumption) (by assumption) (by first | with_reducible rfl | ((try simp only [z0, z1, zm1, zm2, zm3, zm4, zl2, zl3, zl4, zl5, zl6, zl7, zl8, zl9, zl10, zl20, zl28, zl31, zl32, zl33, zl48, zl57, zl64, zl100, zl127, zl200, zl201, zl202, zl402, zl1200, zl2412, zl16884, zI_add, zI_sub, zI_mul, zI_inc, zI_dec]) <;> (congr 1 <;> omega))) (by omega) (by decide) ?_
    refine s_istn (j := 402 * li + 1 + i) dX12_store_82 (by assumption) (by assumption) (by assumption) (by first | with_reducible rfl | ((try simp only [z0, z1, zm1, zm2, zm3, zm4, zl2, zl3, zl4, zl5, zl6, zl7, zl8, zl9, zl10, zl20, zl28, zl31, zl32, zl33, zl48, zl57, zl64, zl100, zl127, zl200, zl201, zl202, zl402, zl1200, zl2412, zl16884, zI_add, zI_sub, zI_mul, zI_inc, zI_dec]) <;> (congr 1 <;> omega))) (by omega) (by decide) ?_
    refine s_iinc dX12_store_83 rfl (zI_inc _) (by decide) (by simp only [sl, sl2, rm, Value.category, reduceIte, Nat.reduceAdd, Nat.reduceEqDiff, reduceCtorEq]; rfl) ?_
    refine s_goto (tgt := 55) dX12_store_86 (by decide) ?_
    refine ih (i + 1) _ (by omega) (by rw [iu_ne (by omega)]; exact hf) (fun q h => by rw [iu_ne (by omega)]; exact ha q h) (fun q h => ?_) (fun I' hf ho hd' => kk I' (fr_trans (fr_iu (by simp)) hf) (fun q h => ?_) hd')
    · by_cases e : q = i
      · subst e; rw [iu_at]; exact ha q (by omega)
      · rw [iu_j (by omega)]; exact hd q (by omega)
    · rw [ho q h, iu_j (by omega)]
set_option maxRecDepth 100000 in
set_option maxHeartbeats 1000000 in
theorem m_store {G : fG} {x0 : Nat} {l : Launch} {d k n : Nat} {T : fT} {I : fI} {J : fJ} {Q : Option Value → fT → fI → fJ → Prop} {x : Int32} {S S' : ASt} {a : Int} (hS : MIs T I S) (hk : SOk S) (h : rStore S x.toInt a S') (hq : ∀ I', frC I I' → MIs T I' S' → Q (some (.int (zI a))) T I' J) : PW G x0 l mX12_store (d + 5) (ZM G x0 Q) k n 0 [(0, .ref (x0 + 144)), (1, .int x)] [] T I J := by
  have hM := hS.1
  obtain ⟨o1, o2⟩ := hM.o
  obtain ⟨r145, b145, k145, n145⟩ := hM.a145
  obtain ⟨r149, b149, k149, n149⟩ := hM.a149
  refine s_iload_n (i := 1) dX12_store_0 rfl rfl ?_
  refine s_cS_I (My := mX12_isList) dX12_store_1 wM_X12_73 cb_yX12_isList wT_yX12_isList (Nat.le_of_ble_eq_true rfl) (by decide) (s_d (by omega) (m_isList (d := 0) ?_ ?_))
  · intro hx
    obtain ⟨hbad, -, -⟩ | ⟨li, hli, e1, hh⟩ := h
    · exact absurd hx hbad
    have hxz := t_zI e1
    subst hxz
    have hxt : (zI (li : Int)).toInt = li := zI_t (by omega) (by omega)
    have hL := hk.1 li hli
    have hm := hS.L hli
    have hnm := hL.nbm
    have hmm := hL.1
    have hR := hS.2.2.2.2.2
    obtain ⟨he, rfl, rfl⟩ | ⟨r, he, hh⟩ := hh
    · rw [he] at hR
      obtain ⟨r1, r2⟩ := hR
      refine s_if_ne (tgt := 10) dX12_store_4 (by decide) (fun h4 => ?_) (fun h4 => absurd h4 (by decide))
      refine s_aload_n (i := 0) dX12_store_10 rfl rfl ?_
      refine s_getI dX12_store_11 fl_X12_25 (by assumption) (by assumption) ?_
      refine s_iconst (v := -1) dX12_store_14 (by decide) ?_
      rw [r1]
      refine s_icmp_ne (tgt := 21) dX12_store_15 (by decide) (fun h15 => absurd h15 (fun h => h zm1.symm)) (fun h15 => ?_)
      refine s_bipush (v := -3) dX12_store_18 (by decide) ?_
      refine s_iret dX12_store_20 rfl ?_
      rw [zm3]
      exact hq I (frC.refl I) hS
    rw [he] at hR
    obtain ⟨r1, r2, r3⟩ := hR
    obtain ⟨k1, k2, k3⟩ := hk.2.2.2.2.2 r he
    have hne : ¬ zI (r.1.length : Int) = -1 := fun h => by rw [zm1, zI_eq (by omega) (by omega) (by omega) (by omega)] at h; omega
    obtain ⟨hlen, rfl, rfl⟩ | ⟨hlen, rfl, R, E, nb, h3, h4, h5, rfl⟩ := hh
    · refine s_if_ne (tgt := 10) dX12_store_4 (by decide) (fun h4 => ?_) (fun h4 => absurd h4 (by decide))
      refine s_aload_n (i := 0) dX12_store_10 rfl rfl ?_
      refine s_getI dX12_store_11 fl_X12_25 (by assumption) (by assumption) ?_
      refine s_iconst (v := -1) dX12_store_14 (by decide) ?_
      rw [r1]
      refine s_icmp_ne (tgt := 21) dX12_store_15 (by decide) (fun h15 => ?_) (fun h15 => absurd h15 (hne))
      refine s_aload_n (i := 0) dX12_store_21 rfl rfl ?_
      refine s_getI dX12_store_22 fl_X12_25 (by assumption) (by assumption) ?_
      refine s_sipush (v := 200) dX12_store_25 (by decide) ?_
      rw [r1]
      refine s_icmp_le (tgt := 34) dX12_store_28 (by decide) (fun h28 => absurd h28 (fun h => by rw [zl200, zI_le (by omega) (by omega) (by omega) (by omega)] at h; omega)) (fun h28 => ?_)
      refine s_bipush (v := -4) dX12_store_31 (by decide) ?_
      refine s_iret dX12_store_33 rfl ?_
      rw [zm4]
      exact hq I (frC.refl I) hS
    · have hL' : LOk (planL (lfn r.1) r.1.length E nb) := LOk.plan hlen (srt_sorted k1) (fun q hq => by rw [lfn_at hq]; exact k2 _ (List.getElem_mem hq)) h3 h4 h5
      have hcut : rCut ((lfn r.1, r.1.length, fun _ => 0, 0) : LSt) ((0 : Int32)).toInt (planL (lfn r.1) r.1.length E nb) := Or.inl ⟨by decide, R, E, nb, h3, h4, h5, rfl⟩
      have hsb := (sumB5_bd hL' nb (Nat.le_refl _)).1
      have hsb2 := (sumB5_bd hL' nb (Nat.le_refl _)).2
      have hnb : nb ≤ r.1.length := hL'.nbm
      refine s_if_ne (tgt := 10) dX12_store_4 (by decide) (fun h4 => ?_) (fun h4 => absurd h4 (by decide))
      refine s_aload_n (i := 0) dX12_store_10 rfl rfl ?_
      refine s_getI dX12_store_11 fl_X12_25 (by assumption) (by assumption) ?_
      refine s_iconst (v := -1) dX12_store_14 (by decide) ?_
      rw [r1]
      refine s_icmp_ne (tgt := 21) dX12_store_15 (by decide) (fun h15 => ?_) (fun h15 => absurd h15 (hne))
      refine s_aload_n (i := 0) dX12_store_21 rfl rfl ?_
      refine s_getI dX12_store_22 fl_X12_25 (by assumption) (by assumption) ?_
      refine s_sipush (v := 200) dX12_store_25 (by decide) ?_
      rw [r1]
      refine s_icmp_le (tgt := 34) dX12_store_28 (by decide) (fun h28 => ?_) (fun h28 => absurd (by rw [zl200, zI_le (by omega) (by omega) (by omega) (by omega)]; omega) h28)
      refine s_aload_n (i := 0) dX12_store_34 rfl rfl ?_
      refine s_iload_n (i := 1) dX12_store_35 rfl rfl ?_
      refine s_cV_I (My := mX12_keeps) dX12_store_36 wM_X12_154 cb_yX12_keeps ci_yX12_keeps (by assumption) (by assumption) (Nat.le_of_ble_eq_true rfl) (by decide) (s_d (by omega) (m_keeps (d := 0) hS hk hli (fun I1 hf1 hj1 hK => ?_)))
      refine s_aload_n (i := 0) dX12_store_39 rfl rfl ?_
      refine s_getR dX12_store_40 fl_X12_7 (by assumption) (by assumption) (by assumption) ?_
      refine s_sipush (v := 402) dX12_store_43 (by decide) ?_
      refine s_iload_n (i := 1) dX12_store_46 rfl rfl ?_
      refine s_imul dX12_store_47 ?_
      refine s_aload_n (i := 0) dX12_store_48 rfl rfl ?_
      refine s_getI dX12_store_49 fl_X12_25 (by assumption) (by assumption) ?_
      rw [hj1 9 (by omega) (by omega), r1]
      refine s_istn (j := 402 * li) dX12_store_52 (by assumption) (by assumption) (by assumption) (by first | with_reducible rfl | ((try simp only [z0, z1, zm1, zm2, zm3, zm4, zl2, zl3, zl4, zl5, zl6, zl7, zl8, zl9, zl10, zl20, zl28, zl31, zl32, zl33, zl48, zl57, zl64, zl100, zl127, zl200, zl201, zl202, zl402, zl1200, zl2412, zl16884, zI_add, zI_sub, zI_mul, zI_inc, zI_dec]) <;> (congr 1 <;> omega))) (by omega) (by decide) ?_
      refine s_iconst (v := 0) dX12_store_53 (by decide) ?_
      refine s_istore_n (i := 2) dX12_store_54 rfl (by decide) (by simp only [sl, sl2, rm, Value.category, reduceIte, Nat.reduceAdd, Nat.reduceEqDiff, reduceCtorEq]; rfl) ?_
      refine ml_store (mm := r.1.length) (g := lfn r.1) hM hli hlen r.1.length 0 _ (by omega) (by rw [iu_ne (by omega), hj1 9 (by omega) (by omega), r1]) (fun q h => by rw [iu_ne (by omega), hf1 149 (by decide)]; exact r3 q h) (fun q h => absurd h (Nat.not_lt_zero q)) (fun I2 hf2 ho2 hd2 => ?_)
      refine s_aload_n (i := 0) dX12_store_89 rfl rfl ?_
      refine s_iload_n (i := 1) dX12_store_90 rfl rfl ?_
      refine s_iconst (v := 0) dX12_store_91 (by decide) ?_
      refine s_cV_II (My := mX12_packs) dX12_store_92 wM_X12_167 cb_yX12_packs ci_yX12_packs (by assumption) (by assumption) (Nat.le_of_ble_eq_true rfl) (by decide) (s_d (by omega) (m_packs (d := 0) (L := (lfn r.1, r.1.length, fun _ => 0, 0)) hM hli hL' ⟨by rw [ho2 _ (by omega), iu_at], hd2⟩ hcut (fun I3 hf3 hj3 ho3 hL3 => ?_)))
      refine s_istore_n (i := 2) dX12_store_95 rfl (by decide) (by simp only [sl, sl2, rm, Value.category, reduceIte, Nat.reduceAdd, Nat.reduceEqDiff, reduceCtorEq]; rfl) ?_
      refine s_iload_n (i := 2) dX12_store_96 rfl rfl ?_
      refine s_if_ge (tgt := 104) dX12_store_97 (by decide) (fun h97 => ?_) (fun h97 => absurd (by rw [z0]; exact (zI_le (by omega) (by omega) (by show sumB (planL (lfn r.1) r.1.length E nb) 5 nb ≥ _; omega) (by show sumB (planL (lfn r.1) r.1.length E nb) 5 nb < _; omega)).mpr hsb) h97)
      refine s_aload_n (i := 0) dX12_store_104 rfl rfl ?_
      refine s_getI dX12_store_105 fl_X12_25 (by assumption) (by assumption) ?_
      rw [hj3 9 (by omega), hf2 144 (by decide), iu_ne (by omega), hj1 9 (by omega) (by omega), r1]
      refine s_iret dX12_store_108 rfl ?_
      have hfk : frK I1 I3 := ⟨fun b hb => by rw [hf3 b (by simp; omega), hf2 b (by simp; omega), iu_ne (by omega)], fun j h => by rw [hj3 j (by omega), hf2 144 (by decide), iu_ne (by omega)]⟩
      exact hq I3 (frC.trans (frC.of hf1 (fun b hb => by simp at hb; omega)) hfk.c) (hK.fin0 hfk (by rw [hj3 18 (by omega), hf2 144 (by decide), iu_ne (by omega)]) (hK.2.1.upd hk.ls (fun q h => by rw [ho3 q h, ho2 q (by omega), iu_j (by omega)]) hL3))
  · intro hx
    obtain ⟨-, rfl, rfl⟩ | ⟨li, hli, e1, -⟩ := h
    · refine s_if_ne (tgt := 10) dX12_store_4 (by decide) (fun h4 => absurd h4 (fun h => h rfl)) (fun h4 => ?_)
      refine s_bipush (v := -2) dX12_store_7 (by decide) ?_
      refine s_iret dX12_store_9 rfl ?_
      rw [zm2]
      exact hq I (frC.refl I) hS
    · exact absurd (by omega) hx
