theorem frS150 {I I' : fI} (h : fr I I' [150]) : frS I I' := frS.of h (fun b hb => by simp at hb; omega)
set_option maxRecDepth 100000 in
set_option maxHeartbeats 1000000 in
theorem m_list {G : fG} {x0 : Nat} {l : Launch} {d k n : Nat} {T : fT} {I : fI} {J : fJ} {Q : Option Value → fT → fI → fJ → Prop} {x y : Int32} {S : ASt} (hS : MIs T I S) (hk : SOk S) (hq : ∀ I', frS I I' → Q (some (.int (zI (fList S x.toInt y.toInt)))) T I' J) : PW G x0 l mX12_list (d + 7) (ZM G x0 Q) k n 0 [(0, .ref (x0 + 144)), (1, .int x), (2, .int y)] [] T I J := by
  have hM := hS.1
  obtain ⟨o1, o2⟩ := hM.o
  have t0 : ((0 : Int32)).toInt = 0 := by decide
  have t5 : ((5 : Int32)).toInt = 5 := by decide
  unfold fList at hq
  refine s_iload_n (i := 1) dX12_list_0 rfl rfl ?_
  refine s_cS_I (My := mX12_isList) dX12_list_1 wM_X12_73 cb_yX12_isList wT_yX12_isList (Nat.le_of_ble_eq_true rfl) (by decide) (s_d (by omega) (m_isList (d := 0) ?_ ?_))
  · intro hx
    obtain ⟨li, hli, rfl⟩ := lidx hx
    have hxt : (zI (li : Int)).toInt = li := zI_t (by omega) (by omega)
    have hxn : (zI (li : Int)).toInt.toNat = li := by rw [hxt]; simp
    have hL := hk.1 li hli
    have hm := hS.L hli
    have hnm := hL.nbm
    have hmm := hL.1
    rw [if_pos hx, hxn] at hq
    refine s_if_eq (tgt := 25) dX12_list_4 (by decide) (fun h4 => absurd h4 (by decide)) (fun h4 => ?_)
    refine s_iload_n (i := 2) dX12_list_7 rfl rfl ?_
    refine s_iconst (v := 0) dX12_list_8 (by decide) ?_
    refine s_iconst (v := 5) dX12_list_9 (by decide) ?_
    refine s_cS_III (My := mX12_in) dX12_list_10 wM_X12_68 cb_yX12_in wT_yX12_in (Nat.le_of_ble_eq_true rfl) (by decide) (s_d (by omega) (m_in (d := 0) ?_ ?_))
    · intro hy
      rw [t0, t5] at hy
      refine s_if_eq (tgt := 25) dX12_list_13 (by decide) (fun h13 => absurd h13 (by decide)) (fun h13 => ?_)
      refine s_aload_n (i := 0) dX12_list_16 rfl rfl ?_
      refine s_iload_n (i := 1) dX12_list_17 rfl rfl ?_
      refine s_iload_n (i := 2) dX12_list_18 rfl rfl ?_
      refine s_cV_II (My := mX12_listPart) dX12_list_19 wM_X12_213 cb_yX12_listPart ci_yX12_listPart (by assumption) (by assumption) (Nat.le_of_ble_eq_true rfl) (by decide) (s_d (by omega) (m_listPart (d := 0) hM hli hL hm hy (fun I1 hf1 => ?_)))
      refine s_goto (tgt := 27) dX12_list_22 (by decide) ?_
      refine s_iret dX12_list_27 rfl ?_
      exact hq I1 (frS150 hf1)
    · intro hy
      rw [t0, t5] at hy
      refine s_if_eq (tgt := 25) dX12_list_13 (by decide) (fun h13 => ?_) (fun h13 => absurd (rfl) h13)
      refine s_bipush (v := -2) dX12_list_25 (by decide) ?_
      refine s_iret dX12_list_27 rfl ?_
      unfold listP at hq
      rw [if_neg (by omega), if_neg (by omega), if_neg (by omega), if_neg (by omega), if_neg (by omega), if_neg (by omega)] at hq
      rw [zm2]
      exact hq I (frS.refl I)
  · intro hx
    refine s_if_eq (tgt := 25) dX12_list_4 (by decide) (fun h4 => ?_) (fun h4 => absurd (rfl) h4)
    refine s_bipush (v := -2) dX12_list_25 (by decide) ?_
    refine s_iret dX12_list_27 rfl ?_
    rw [if_neg (hx)] at hq
    rw [zm2]
    exact hq I (frS.refl I)
set_option maxRecDepth 100000 in
set_option maxHeartbeats 1000000 in
theorem m_block {G : fG} {x0 : Nat} {l : Launch} {d k n : Nat} {T : fT} {I : fI} {J : fJ} {Q : Option Value → fT → fI → fJ → Prop} {x y z : Int32} {S : ASt} (hS : MIs T I S) (hk : SOk S) (hq : ∀ I', frS I I' → Q (some (.int (zI (fBlock S x.toInt y.toInt z.toInt)))) T I' J) : PW G x0 l mX12_block (d + 5) (ZM G x0 Q) k n 0 [(0, .ref (x0 + 144)), (1, .int x), (2, .int y), (3, .int z)] [] T I J := by
  have hM := hS.1
  obtain ⟨o1, o2⟩ := hM.o
  unfold fBlock at hq
  refine s_aload_n (i := 0) dX12_block_0 rfl rfl ?_
  refine s_iload_n (i := 1) dX12_block_1 rfl rfl ?_
  refine s_iload_n (i := 2) dX12_block_2 rfl rfl ?_
  refine s_cV_II (My := mX12_isBlock) dX12_block_3 wM_X12_216 cb_yX12_isBlock ci_yX12_isBlock (by assumption) (by assumption) (Nat.le_of_ble_eq_true rfl) (by decide) (s_d (by omega) (m_isBlock (d := 0) hS hk ?_ ?_))
  · rintro li j rfl rfl hli hj
    have hxt : (zI (li : Int)).toInt = li := zI_t (by omega) (by omega)
    have hxn : (zI (li : Int)).toInt.toNat = li := by rw [hxt]; simp
    have hL := hk.1 li hli
    have hm := hS.L hli
    have hnm := hL.nbm
    have hmm := hL.1
    have hyt : (zI (j : Int)).toInt = j := zI_t (by omega) (by omega)
    have hyn : (zI (j : Int)).toInt.toNat = j := by rw [hyt]; simp
    have hb := hL.blk hj
    have hB : isB S (zI (li : Int)).toInt (zI (j : Int)).toInt := ⟨by omega, by rw [hxn]; omega⟩
    rw [if_pos hB, hxn, hyn] at hq
    unfold bprop at hq
    refine s_if_ne (tgt := 12) dX12_block_6 (by decide) (fun h6 => ?_) (fun h6 => absurd h6 (by decide))
    refine s_iload_n (i := 3) dX12_block_12 rfl rfl ?_
    rcases (show (z.toInt < 0 ∨ 6 < z.toInt) ∨ z.toInt = 0 ∨ z.toInt = 1 ∨ z.toInt = 2 ∨ z.toInt = 3 ∨ z.toInt = 4 ∨ z.toInt = 5 ∨ z.toInt = 6 by omega) with hw | hw | hw | hw | hw | hw | hw | hw
    · refine s_tabOut (tgt := 110) dX12_block_13 hw (by decide) ?_
      refine s_bipush (v := -2) dX12_block_110 (by decide) ?_
      refine s_iret dX12_block_112 rfl ?_
      rw [if_neg (by omega), if_neg (by omega), if_neg (by omega), if_neg (by omega), if_neg (by omega), if_neg (by omega), if_neg (by omega)] at hq
      rw [zm2]
      exact hq I (frS.refl I)
    · refine s_tabIn (off := 43) (tgt := 56) dX12_block_13 (by omega) (by omega) (by rw [hw]; rfl) (by decide) ?_
      refine s_aload_n (i := 0) dX12_block_56 rfl rfl ?_
      refine s_iload_n (i := 1) dX12_block_57 rfl rfl ?_
      refine s_iload_n (i := 2) dX12_block_58 rfl rfl ?_
      refine s_cV_II (My := mX12_begin) dX12_block_59 wM_X12_85 cb_yX12_begin ci_yX12_begin (by assumption) (by assumption) (Nat.le_of_ble_eq_true rfl) (by decide) (s_d (by omega) (m_begin (d := 0) hM hli hL hm hj ?_))
      refine s_iret dX12_block_62 rfl ?_
      rw [if_pos hw] at hq
      exact hq I (frS.refl I)
    · refine s_tabIn (off := 50) (tgt := 63) dX12_block_13 (by omega) (by omega) (by rw [hw]; rfl) (by decide) ?_
      refine s_aload_n (i := 0) dX12_block_63 rfl rfl ?_
      refine s_iload_n (i := 1) dX12_block_64 rfl rfl ?_
      refine s_iload_n (i := 2) dX12_block_65 rfl rfl ?_
      refine s_cV_II (My := mX12_length) dX12_block_66 wM_X12_81 cb_yX12_length ci_yX12_length (by assumption) (by assumption) (Nat.le_of_ble_eq_true rfl) (by decide) (s_d (by omega) (m_length (d := 0) hM hli (by omega) ?_))
      refine s_iret dX12_block_69 rfl ?_
      rw [if_neg (by omega), if_pos hw] at hq
      rw [hm.2.2.2 j hj]
      exact hq I (frS.refl I)
    · refine s_tabIn (off := 57) (tgt := 70) dX12_block_13 (by omega) (by omega) (by rw [hw]; rfl) (by decide) ?_
      refine s_aload_n (i := 0) dX12_block_70 rfl rfl ?_
      refine s_iload_n (i := 1) dX12_block_71 rfl rfl ?_
      refine s_aload_n (i := 0) dX12_block_72 rfl rfl ?_
      refine s_iload_n (i := 1) dX12_block_73 rfl rfl ?_
      refine s_iload_n (i := 2) dX12_block_74 rfl rfl ?_
      refine s_cV_II (My := mX12_begin) dX12_block_75 wM_X12_85 cb_yX12_begin ci_yX12_begin (by assumption) (by assumption) (Nat.le_of_ble_eq_true rfl) (by decide) (s_d (by omega) (m_begin (d := 0) hM hli hL hm hj ?_))
      refine s_cV_II (My := mX12_number) dX12_block_78 wM_X12_103 cb_yX12_number ci_yX12_number (by assumption) (by assumption) (Nat.le_of_ble_eq_true rfl) (by decide) (s_d (by omega) (m_number (d := 0) hM hli (by omega) ?_))
      refine s_iret dX12_block_81 rfl ?_
      rw [if_neg (by omega), if_neg (by omega), if_pos hw] at hq
      rw [hm.2.1 _ (by omega)]
      exact hq I (frS.refl I)
    · refine s_tabIn (off := 69) (tgt := 82) dX12_block_13 (by omega) (by omega) (by rw [hw]; rfl) (by decide) ?_
      refine s_aload_n (i := 0) dX12_block_82 rfl rfl ?_
      refine s_iload_n (i := 1) dX12_block_83 rfl rfl ?_
      refine s_iload_n (i := 2) dX12_block_84 rfl rfl ?_
      refine s_cV_II (My := mX12_width) dX12_block_85 wM_X12_122 cb_yX12_width ci_yX12_width (by assumption) (by assumption) (Nat.le_of_ble_eq_true rfl) (by decide) (s_d (by omega) (m_width (d := 0) hM hli hL hm hj (fun I1 hf1 hN1 => ?_)))
      refine s_iret dX12_block_88 rfl ?_
      rw [if_neg (by omega), if_neg (by omega), if_neg (by omega), if_pos hw] at hq
      exact hq I1 (frS150 hf1)
    · refine s_tabIn (off := 76) (tgt := 89) dX12_block_13 (by omega) (by omega) (by rw [hw]; rfl) (by decide) ?_
      refine s_aload_n (i := 0) dX12_block_89 rfl rfl ?_
      refine s_iload_n (i := 1) dX12_block_90 rfl rfl ?_
      refine s_iload_n (i := 2) dX12_block_91 rfl rfl ?_
      refine s_cV_II (My := mX12_exceptions) dX12_block_92 wM_X12_204 cb_yX12_exceptions ci_yX12_exceptions (by assumption) (by assumption) (Nat.le_of_ble_eq_true rfl) (by decide) (s_d (by omega) (m_exceptions (d := 0) hM hli hL hm hj (fun I1 hf1 hN1 => ?_)))
      refine s_iret dX12_block_95 rfl ?_
      rw [if_neg (by omega), if_neg (by omega), if_neg (by omega), if_neg (by omega), if_pos hw] at hq
      exact hq I1 (frS150 hf1)
    · refine s_tabIn (off := 83) (tgt := 96) dX12_block_13 (by omega) (by omega) (by rw [hw]; rfl) (by decide) ?_
      refine s_aload_n (i := 0) dX12_block_96 rfl rfl ?_
      refine s_iload_n (i := 1) dX12_block_97 rfl rfl ?_
      refine s_iload_n (i := 2) dX12_block_98 rfl rfl ?_
      refine s_cV_II (My := mX12_cost) dX12_block_99 wM_X12_128 cb_yX12_cost ci_yX12_cost (by assumption) (by assumption) (Nat.le_of_ble_eq_true rfl) (by decide) (s_d (by omega) (m_cost (d := 0) hM hli hL hm hj (fun I1 hf1 hN1 => ?_)))
      refine s_iret dX12_block_102 rfl ?_
      rw [if_neg (by omega), if_neg (by omega), if_neg (by omega), if_neg (by omega), if_neg (by omega), if_pos hw] at hq
      exact hq I1 (frS150 hf1)
    · refine s_tabIn (off := 90) (tgt := 103) dX12_block_13 (by omega) (by omega) (by rw [hw]; rfl) (by decide) ?_
      refine s_aload_n (i := 0) dX12_block_103 rfl rfl ?_
      refine s_iload_n (i := 1) dX12_block_104 rfl rfl ?_
      refine s_iload_n (i := 2) dX12_block_105 rfl rfl ?_
      refine s_cV_II (My := mX12_words) dX12_block_106 wM_X12_219 cb_yX12_words ci_yX12_words (by assumption) (by assumption) (Nat.le_of_ble_eq_true rfl) (by decide) (s_d (by omega) (m_words (d := 0) hM hli hL hm hj (fun I1 hf1 hN1 => ?_)))
      refine s_iret dX12_block_109 rfl ?_
      rw [if_neg (by omega), if_neg (by omega), if_neg (by omega), if_neg (by omega), if_neg (by omega), if_neg (by omega), if_pos hw] at hq
      exact hq I1 (frS150 hf1)
  · intro hx
    refine s_if_ne (tgt := 12) dX12_block_6 (by decide) (fun h6 => absurd h6 (fun h => h rfl)) (fun h6 => ?_)
    refine s_bipush (v := -2) dX12_block_9 (by decide) ?_
    refine s_iret dX12_block_11 rfl ?_
    rw [if_neg (hx)] at hq
    rw [zm2]
    exact hq I (frS.refl I)
set_option maxRecDepth 100000 in
set_option maxHeartbeats 1000000 in
theorem m_gaps {G : fG} {x0 : Nat} {l : Launch} {d k n : Nat} {T : fT} {I : fI} {J : fJ} {Q : Option Value → fT → fI → fJ → Prop} {x y : Int32} {S : ASt} (hS : MIs T I S) (hk : SOk S) (hq : ∀ I', frS I I' → Q (some (.int (zI (fGaps S x.toInt y.toInt)))) T I' J) : PW G x0 l mX12_gaps (d + 3) (ZM G x0 Q) k n 0 [(0, .ref (x0 + 144)), (1, .int x), (2, .int y)] [] T I J := by
  have hM := hS.1
  obtain ⟨o1, o2⟩ := hM.o
  obtain ⟨r150, b150, k150, n150⟩ := hM.a150
  have t0 : ((0 : Int32)).toInt = 0 := by decide
  have t20 : ((20 : Int32)).toInt = 20 := by decide
  unfold fGaps at hq
  refine s_iload_n (i := 1) dX12_gaps_0 rfl rfl ?_
  refine s_cS_I (My := mX12_isList) dX12_gaps_1 wM_X12_73 cb_yX12_isList wT_yX12_isList (Nat.le_of_ble_eq_true rfl) (by decide) (s_d (by omega) (m_isList (d := 0) ?_ ?_))
  · intro hx
    obtain ⟨li, hli, rfl⟩ := lidx hx
    have hxt : (zI (li : Int)).toInt = li := zI_t (by omega) (by omega)
    have hxn : (zI (li : Int)).toInt.toNat = li := by rw [hxt]; simp
    have hL := hk.1 li hli
    have hm := hS.L hli
    have hnm := hL.nbm
    have hmm := hL.1
    refine s_if_eq (tgt := 17) dX12_gaps_4 (by decide) (fun h4 => absurd h4 (by decide)) (fun h4 => ?_)
    refine s_iload_n (i := 2) dX12_gaps_7 rfl rfl ?_
    refine s_iconst (v := 0) dX12_gaps_8 (by decide) ?_
    refine s_bipush (v := 20) dX12_gaps_9 (by decide) ?_
    refine s_cS_III (My := mX12_in) dX12_gaps_11 wM_X12_68 cb_yX12_in wT_yX12_in (Nat.le_of_ble_eq_true rfl) (by decide) (s_d (by omega) (m_in (d := 0) ?_ ?_))
    · intro hy
      rw [t0, t20] at hy
      rw [if_pos ⟨hx, hy⟩, hxn] at hq
      refine s_if_ne (tgt := 20) dX12_gaps_14 (by decide) (fun h14 => ?_) (fun h14 => absurd h14 (by decide))
      refine s_aload_n (i := 0) dX12_gaps_20 rfl rfl ?_
      refine s_iload_n (i := 1) dX12_gaps_21 rfl rfl ?_
      refine s_iconst (v := 0) dX12_gaps_22 (by decide) ?_
      refine s_aload_n (i := 0) dX12_gaps_23 rfl rfl ?_
      refine s_iload_n (i := 1) dX12_gaps_24 rfl rfl ?_
      refine s_cV_I (My := mX12_many) dX12_gaps_25 wM_X12_131 cb_yX12_many ci_yX12_many (by assumption) (by assumption) (Nat.le_of_ble_eq_true rfl) (by decide) (s_d (by omega) (m_many (d := 0) hM hli ?_))
      rw [hm.1]
      refine s_iconst (v := 1) dX12_gaps_28 (by decide) ?_
      refine s_isub dX12_gaps_29 ?_
      refine s_topi (y := zI (((0 : Nat) : Int) + ((S.1 li).2.1 : Int) - 1)) (by first | with_reducible rfl | ((try simp only [z0, z1, zm1, zm2, zm3, zm4, zl2, zl3, zl4, zl5, zl6, zl7, zl8, zl9, zl10, zl20, zl28, zl31, zl32, zl33, zl48, zl57, zl64, zl100, zl127, zl200, zl201, zl202, zl402, zl1200, zl2412, zl16884, zI_add, zI_sub, zI_mul, zI_inc, zI_dec]) <;> (congr 1 <;> omega))) ?_
      refine s_cV_III (My := mX12_counts) dX12_gaps_30 wM_X12_115 cb_yX12_counts ci_yX12_counts (by assumption) (by assumption) (Nat.le_of_ble_eq_true rfl) (by decide) (s_d (by omega) (m_counts (d := 0) (f := 0) (len := (S.1 li).2.1) hM hli hL hm (by omega) (fun I1 hf1 hN1 => ?_)))
      refine s_aload_n (i := 0) dX12_gaps_33 rfl rfl ?_
      refine s_getR dX12_gaps_34 fl_X12_32 (by assumption) (by assumption) (by assumption) ?_
      refine s_iload_n (i := 2) dX12_gaps_37 rfl rfl ?_
      refine s_ildn (j := y.toInt.toNat) dX12_gaps_38 (by assumption) (by assumption) (by assumption) (t_zI (by omega)) (by omega) (by decide) ?_
      refine s_iret dX12_gaps_39 rfl ?_
      rw [hN1 _ (by omega)]
      exact hq I1 (frS150 hf1)
    · intro hy
      rw [t0, t20] at hy
      refine s_if_ne (tgt := 20) dX12_gaps_14 (by decide) (fun h14 => absurd h14 (fun h => h rfl)) (fun h14 => ?_)
      refine s_bipush (v := -2) dX12_gaps_17 (by decide) ?_
      refine s_iret dX12_gaps_19 rfl ?_
      rw [if_neg (fun h => hy h.2)] at hq
      rw [zm2]
      exact hq I (frS.refl I)
  · intro hx
    refine s_if_eq (tgt := 17) dX12_gaps_4 (by decide) (fun h4 => ?_) (fun h4 => absurd (rfl) h4)
    refine s_bipush (v := -2) dX12_gaps_17 (by decide) ?_
    refine s_iret dX12_gaps_19 rfl ?_
    rw [if_neg (fun h => hx h.1)] at hq
    rw [zm2]
    exact hq I (frS.refl I)
set_option maxRecDepth 100000 in
set_option maxHeartbeats 1000000 in
theorem m_part {G : fG} {x0 : Nat} {l : Launch} {d k n : Nat} {T : fT} {I : fI} {J : fJ} {Q : Option Value → fT → fI → fJ → Prop} {x y z u : Int32} {S : ASt} (hS : MIs T I S) (hk : SOk S) (hq : ∀ I', frS I I' → Q (some (.int (zI (fPart S x.toInt y.toInt z.toInt u.toInt)))) T I' J) : PW G x0 l mX12_part (d + 3) (ZM G x0 Q) k n 0 [(0, .ref (x0 + 144)), (1, .int x), (2, .int y), (3, .int z), (4, .int u)] [] T I J := by
  have hM := hS.1
  obtain ⟨o1, o2⟩ := hM.o
  have t0 : ((0 : Int32)).toInt = 0 := by decide
  have t2 : ((2 : Int32)).toInt = 2 := by decide
  unfold fPart at hq
  refine s_iload_n (i := 1) dX12_part_0 rfl rfl ?_
  refine s_cS_I (My := mX12_isList) dX12_part_1 wM_X12_73 cb_yX12_isList wT_yX12_isList (Nat.le_of_ble_eq_true rfl) (by decide) (s_d (by omega) (m_isList (d := 0) ?_ ?_))
  · intro hx
    obtain ⟨li, hli, rfl⟩ := lidx hx
    have hxt : (zI (li : Int)).toInt = li := zI_t (by omega) (by omega)
    have hxn : (zI (li : Int)).toInt.toNat = li := by rw [hxt]; simp
    have hL := hk.1 li hli
    have hm := hS.L hli
    have hnm := hL.nbm
    have hmm := hL.1
    simp only [hxn] at hq
    have tm : (zI (((S.1 li).2.1 : Int) - 1)).toInt = ((S.1 li).2.1 : Int) - 1 := zI_t (by omega) (by omega)
    refine s_if_eq (tgt := 55) dX12_part_4 (by decide) (fun h4 => absurd h4 (by decide)) (fun h4 => ?_)
    refine s_iload_n (i := 2) dX12_part_7 rfl rfl ?_
    refine s_iconst (v := 0) dX12_part_8 (by decide) ?_
    refine s_aload_n (i := 0) dX12_part_9 rfl rfl ?_
    refine s_iload_n (i := 1) dX12_part_10 rfl rfl ?_
    refine s_cV_I (My := mX12_many) dX12_part_11 wM_X12_131 cb_yX12_many ci_yX12_many (by assumption) (by assumption) (Nat.le_of_ble_eq_true rfl) (by decide) (s_d (by omega) (m_many (d := 0) hM hli ?_))
    rw [hm.1]
    refine s_iconst (v := 1) dX12_part_14 (by decide) ?_
    refine s_isub dX12_part_15 ?_
    refine s_topi (y := zI (((S.1 li).2.1 : Int) - 1)) (by first | with_reducible rfl | ((try simp only [z0, z1, zm1, zm2, zm3, zm4, zl2, zl3, zl4, zl5, zl6, zl7, zl8, zl9, zl10, zl20, zl28, zl31, zl32, zl33, zl48, zl57, zl64, zl100, zl127, zl200, zl201, zl202, zl402, zl1200, zl2412, zl16884, zI_add, zI_sub, zI_mul, zI_inc, zI_dec]) <;> (congr 1 <;> omega))) ?_
    refine s_cS_III (My := mX12_in) dX12_part_16 wM_X12_68 cb_yX12_in wT_yX12_in (Nat.le_of_ble_eq_true rfl) (by decide) (s_d (by omega) (m_in (d := 0) ?_ ?_))
    · intro hy
      rw [t0, tm] at hy
      refine s_if_eq (tgt := 55) dX12_part_19 (by decide) (fun h19 => absurd h19 (by decide)) (fun h19 => ?_)
      refine s_iload_n (i := 3) dX12_part_22 rfl rfl ?_
      refine s_iload_n (i := 2) dX12_part_23 rfl rfl ?_
      refine s_aload_n (i := 0) dX12_part_24 rfl rfl ?_
      refine s_iload_n (i := 1) dX12_part_25 rfl rfl ?_
      refine s_cV_I (My := mX12_many) dX12_part_26 wM_X12_131 cb_yX12_many ci_yX12_many (by assumption) (by assumption) (Nat.le_of_ble_eq_true rfl) (by decide) (s_d (by omega) (m_many (d := 0) hM hli ?_))
      rw [hm.1]
      refine s_iconst (v := 1) dX12_part_29 (by decide) ?_
      refine s_isub dX12_part_30 ?_
      refine s_topi (y := zI (((S.1 li).2.1 : Int) - 1)) (by first | with_reducible rfl | ((try simp only [z0, z1, zm1, zm2, zm3, zm4, zl2, zl3, zl4, zl5, zl6, zl7, zl8, zl9, zl10, zl20, zl28, zl31, zl32, zl33, zl48, zl57, zl64, zl100, zl127, zl200, zl201, zl202, zl402, zl1200, zl2412, zl16884, zI_add, zI_sub, zI_mul, zI_inc, zI_dec]) <;> (congr 1 <;> omega))) ?_
      refine s_cS_III (My := mX12_in) dX12_part_31 wM_X12_68 cb_yX12_in wT_yX12_in (Nat.le_of_ble_eq_true rfl) (by decide) (s_d (by omega) (m_in (d := 0) ?_ ?_))
      · intro hz
        rw [tm] at hz
        refine s_if_eq (tgt := 55) dX12_part_34 (by decide) (fun h34 => absurd h34 (by decide)) (fun h34 => ?_)
        refine s_iload_n (i := 3) dX12_part_37 rfl rfl ?_
        refine s_iload_n (i := 2) dX12_part_38 rfl rfl ?_
        refine s_isub dX12_part_39 ?_
        refine s_topi (y := zI (z.toInt - y.toInt)) (by rw [← zI_self z, ← zI_self y, zI_sub, zI_self, zI_self]) ?_
        refine s_bipush (v := 63) dX12_part_40 (by decide) ?_
        refine s_icmp_gt (tgt := 55) dX12_part_42 (by decide) (fun c42 => ?_) (fun c42 => ?_)
        · refine s_bipush (v := -2) dX12_part_55 (by decide) ?_
          refine s_iret dX12_part_57 rfl ?_
          rw [show (63 : Int32) = zI 63 from rfl, zI_lt (by omega) (by omega) (by omega) (by omega)] at c42
          rw [if_neg (fun h => by omega)] at hq
          rw [zm2]
          exact hq I (frS.refl I)
        · refine s_iload dX12_part_45 rfl ?_
          refine s_iconst (v := 0) dX12_part_47 (by decide) ?_
          refine s_iconst (v := 2) dX12_part_48 (by decide) ?_
          refine s_cS_III (My := mX12_in) dX12_part_49 wM_X12_68 cb_yX12_in wT_yX12_in (Nat.le_of_ble_eq_true rfl) (by decide) (s_d (by omega) (m_in (d := 0) ?_ ?_))
          · intro hu
            rw [t0, t2] at hu
            rw [show (63 : Int32) = zI 63 from rfl, zI_lt (by omega) (by omega) (by omega) (by omega)] at c42
            rw [if_pos ⟨hx, by omega⟩] at hq
            obtain ⟨f, hf⟩ : ∃ f : Nat, y.toInt = f := ⟨y.toInt.toNat, by omega⟩
            obtain ⟨len, hlen⟩ : ∃ len : Nat, z.toInt - y.toInt + 1 = len := ⟨(z.toInt - y.toInt + 1).toNat, by omega⟩
            rw [hlen, hf, Int.toNat_natCast, Int.toNat_natCast] at hq
            have hyz := t_zI hf
            have hzz : z = zI ((f : Int) + len - 1) := t_zI (by omega)
            have hfl : f + len ≤ (S.1 li).2.1 := by omega
            have h20 := hL.bz20 hfl
            subst hyz hzz
            refine s_if_ne (tgt := 58) dX12_part_52 (by decide) (fun h52 => ?_) (fun h52 => absurd h52 (by decide))
            refine s_aload_n (i := 0) dX12_part_58 rfl rfl ?_
            refine s_iload_n (i := 1) dX12_part_59 rfl rfl ?_
            refine s_iload_n (i := 2) dX12_part_60 rfl rfl ?_
            refine s_iload_n (i := 3) dX12_part_61 rfl rfl ?_
            refine s_cV_III (My := mX12_counts) dX12_part_62 wM_X12_115 cb_yX12_counts ci_yX12_counts (by assumption) (by assumption) (Nat.le_of_ble_eq_true rfl) (by decide) (s_d (by omega) (m_counts (d := 0) hM hli hL hm hfl (fun I1 hf1 hN1 => ?_)))
            refine s_aload_n (i := 0) dX12_part_65 rfl rfl ?_
            refine s_iload_n (i := 3) dX12_part_66 rfl rfl ?_
            refine s_iload_n (i := 2) dX12_part_67 rfl rfl ?_
            refine s_isub dX12_part_68 ?_
            refine s_iconst (v := 1) dX12_part_69 (by decide) ?_
            refine s_iadd dX12_part_70 ?_
            refine s_topi (y := zI (len : Int)) (by first | with_reducible rfl | ((try simp only [z0, z1, zm1, zm2, zm3, zm4, zl2, zl3, zl4, zl5, zl6, zl7, zl8, zl9, zl10, zl20, zl28, zl31, zl32, zl33, zl48, zl57, zl64, zl100, zl127, zl200, zl201, zl202, zl402, zl1200, zl2412, zl16884, zI_add, zI_sub, zI_mul, zI_inc, zI_dec]) <;> (congr 1 <;> omega))) ?_
            refine s_cV_I (My := mX12_best) dX12_part_71 wM_X12_119 cb_yX12_best ci_yX12_best (by assumption) (by assumption) (Nat.le_of_ble_eq_true rfl) (by decide) (s_d (by omega) (m_best (d := 0) (len := len) hM hN1 h20 (by omega) (by omega) ?_))
            refine s_istore dX12_part_74 (by decide) (by simp only [sl, sl2, rm, Value.category, reduceIte, Nat.reduceAdd, Nat.reduceEqDiff, reduceCtorEq]; rfl) ?_
            refine s_iload dX12_part_76 rfl ?_
            refine s_if_ne (tgt := 86) dX12_part_78 (by decide) (fun c78 => ?_) (fun c78 => ?_)
            · have c78' : u.toInt ≠ 0 := fun h => c78 (by rw [t_zI h]; rfl)
              refine s_iload dX12_part_86 rfl ?_
              refine s_iconst (v := 1) dX12_part_88 (by decide) ?_
              refine s_icmp_ne (tgt := 106) dX12_part_89 (by decide) (fun c89 => ?_) (fun c89 => ?_)
              · have c89' : u.toInt ≠ 1 := fun h => c89 (by rw [t_zI h]; rfl)
                refine s_aload_n (i := 0) dX12_part_106 rfl rfl ?_
                refine s_iload dX12_part_107 rfl ?_
                refine s_cV_I (My := mX12_above) dX12_part_109 wM_X12_112 cb_yX12_above ci_yX12_above (by assumption) (by assumption) (Nat.le_of_ble_eq_true rfl) (by decide) (s_d (by omega) (m_above (d := 0) hM hN1 h20 (bw_le _ _ _) ?_))
                refine s_iret dX12_part_112 rfl ?_
                first
                | (rw [if_pos c78'] at hq
                   exact hq I1 (frS150 hf1))
                | (rw [if_neg c78', if_pos c89'] at hq
                   exact hq I1 (frS150 hf1))
                | (rw [if_neg c78', if_neg c89', if_pos (by omega)] at hq
                   exact hq I1 (frS150 hf1))
              · have c89' : u.toInt = 1 := by rw [c89]; rfl
                refine s_aload_n (i := 0) dX12_part_92 rfl rfl ?_
                refine s_iload_n (i := 3) dX12_part_93 rfl rfl ?_
                refine s_iload_n (i := 2) dX12_part_94 rfl rfl ?_
                refine s_isub dX12_part_95 ?_
                refine s_iconst (v := 1) dX12_part_96 (by decide) ?_
                refine s_iadd dX12_part_97 ?_
                refine s_topi (y := zI (len : Int)) (by first | with_reducible rfl | ((try simp only [z0, z1, zm1, zm2, zm3, zm4, zl2, zl3, zl4, zl5, zl6, zl7, zl8, zl9, zl10, zl20, zl28, zl31, zl32, zl33, zl48, zl57, zl64, zl100, zl127, zl200, zl201, zl202, zl402, zl1200, zl2412, zl16884, zI_add, zI_sub, zI_mul, zI_inc, zI_dec]) <;> (congr 1 <;> omega))) ?_
                refine s_iload dX12_part_98 rfl ?_
                refine s_cV_II (My := mX12_costOf) dX12_part_100 wM_X12_125 cb_yX12_costOf ci_yX12_costOf (by assumption) (by assumption) (Nat.le_of_ble_eq_true rfl) (by decide) (s_d (by omega) (m_costOf (d := 0) (len := len) hM hN1 h20 (bw_le _ _ _) ?_))
                refine s_goto (tgt := 112) dX12_part_103 (by decide) ?_
                refine s_iret dX12_part_112 rfl ?_
                first
                | (rw [if_pos c78'] at hq
                   exact hq I1 (frS150 hf1))
                | (rw [if_neg c78', if_pos c89'] at hq
                   exact hq I1 (frS150 hf1))
                | (rw [if_neg c78', if_neg c89', if_pos (by omega)] at hq
                   exact hq I1 (frS150 hf1))
            · have c78' : u.toInt = 0 := by rw [c78]; rfl
              refine s_iload dX12_part_81 rfl ?_
              refine s_goto (tgt := 112) dX12_part_83 (by decide) ?_
              refine s_iret dX12_part_112 rfl ?_
              first
              | (rw [if_pos c78'] at hq
                 exact hq I1 (frS150 hf1))
              | (rw [if_neg c78', if_pos c89'] at hq
                 exact hq I1 (frS150 hf1))
              | (rw [if_neg c78', if_neg c89', if_pos (by omega)] at hq
                 exact hq I1 (frS150 hf1))
          · intro hu
            rw [t0, t2] at hu
            rw [show (63 : Int32) = zI 63 from rfl, zI_lt (by omega) (by omega) (by omega) (by omega)] at c42
            rw [if_pos ⟨hx, by omega⟩, if_neg (by omega), if_neg (by omega), if_neg (by omega)] at hq
            refine s_if_ne (tgt := 58) dX12_part_52 (by decide) (fun h52 => absurd h52 (fun h => h rfl)) (fun h52 => ?_)
            refine s_bipush (v := -2) dX12_part_55 (by decide) ?_
            refine s_iret dX12_part_57 rfl ?_
            rw [zm2]
            exact hq I (frS.refl I)
      · intro hz
        rw [tm] at hz
        refine s_if_eq (tgt := 55) dX12_part_34 (by decide) (fun h34 => ?_) (fun h34 => absurd (rfl) h34)
        refine s_bipush (v := -2) dX12_part_55 (by decide) ?_
        refine s_iret dX12_part_57 rfl ?_
        rw [if_neg (fun h => by omega)] at hq
        rw [zm2]
        exact hq I (frS.refl I)
    · intro hy
      rw [t0, tm] at hy
      refine s_if_eq (tgt := 55) dX12_part_19 (by decide) (fun h19 => ?_) (fun h19 => absurd (rfl) h19)
      refine s_bipush (v := -2) dX12_part_55 (by decide) ?_
      refine s_iret dX12_part_57 rfl ?_
      rw [if_neg (fun h => by omega)] at hq
      rw [zm2]
      exact hq I (frS.refl I)
  · intro hx
    refine s_if_eq (tgt := 55) dX12_part_4 (by decide) (fun h4 => ?_) (fun h4 => absurd (rfl) h4)
    refine s_bipush (v := -2) dX12_part_55 (by decide) ?_
    refine s_iret dX12_part_57 rfl ?_
    rw [if_neg (fun h => hx h.1)] at hq
    rw [zm2]
    exact hq I (frS.refl I)
set_option maxRecDepth 100000 in
set_option maxHeartbeats 1000000 in
theorem ml_place {G : fG} {x0 : Nat} {l : Launch} {d k n : Nat} {T : fT} {I : fI} {J : fJ} {Q : Option Value → fT → fI → fJ → Prop} {x y : Int32} {C : List (Int × Int) × Nat × Nat} (hM : MObj T) (hC : CacheM I C) (hr : ∀ e, e ∈ C.1 → 0 ≤ e.1 ∧ e.1 < 1000 ∧ 0 ≤ e.2 ∧ e.2 < 1000) (hy : ∀ p : Nat, C.1.reverse[p]? = some (x.toInt, y.toInt) → Q (some (.int (zI p))) T I J) (hn : (x.toInt, y.toInt) ∉ C.1 → Q (some (.int (-1))) T I J) : ∀ (t i : Nat), i + t = C.1.length → (∀ q, q < i → C.1.reverse[q]? ≠ some (x.toInt, y.toInt)) → PW G x0 l mX12_cachePlace d (ZM G x0 Q) k n 2 [(0, .ref (x0 + 144)), (1, .int x), (2, .int y), (3, .int (zI i))] [] T I J := by
  obtain ⟨o1, o2⟩ := hM.o
  obtain ⟨r147, b147, k147, n147⟩ := hM.a147
  obtain ⟨r148, b148, k148, n148⟩ := hM.a148
  obtain ⟨c1, c2, c3, c4, c5⟩ := id hC
  intro t
  induction t with
  | zero =>
    intro i ht hi
    have hnm : (x.toInt, y.toInt) ∉ C.1 := fun h => by
      obtain ⟨q, hq⟩ := List.getElem?_of_mem (List.mem_reverse.mpr h)
      have hl := (List.getElem?_eq_some_iff.mp hq).1
      rw [List.length_reverse] at hl
      exact hi q (by omega) hq
    refine s_iload_n (i := 3) dX12_cachePlace_2 rfl rfl ?_
    refine s_aload_n (i := 0) dX12_cachePlace_3 rfl rfl ?_
    refine s_getI dX12_cachePlace_4 fl_X12_91 (by assumption) (by assumption) ?_
    rw [c2]
    refine s_icmp_ge (tgt := 38) dX12_cachePlace_7 (by decide) (fun h7 => ?_) (fun h7 => absurd ((zI_le (by omega) (by omega) (by omega) (by omega)).mpr (by omega)) h7)
    refine s_iconst (v := -1) dX12_cachePlace_38 (by decide) ?_
    refine s_iret dX12_cachePlace_39 rfl ?_
    exact hn hnm
  | succ t ih =>
    intro i ht hi
    have hil : i < C.1.reverse.length := by rw [List.length_reverse]; omega
    obtain ⟨e, he⟩ : ∃ e, C.1.reverse[i]? = some e := ⟨_, List.getElem?_eq_getElem hil⟩
    obtain ⟨g1, g2⟩ := c5 i e he
    have ge := hr e (List.mem_reverse.mp (List.mem_of_getElem? he))
    have step : e ≠ (x.toInt, y.toInt) → ∀ q, q < i + 1 → C.1.reverse[q]? ≠ some (x.toInt, y.toInt) := fun hne q hq => by
      rcases Nat.lt_or_ge q i with h | h
      · exact hi q h
      · rw [show q = i by omega, he]
        exact fun h => hne (Option.some.inj h)
    refine s_iload_n (i := 3) dX12_cachePlace_2 rfl rfl ?_
    refine s_aload_n (i := 0) dX12_cachePlace_3 rfl rfl ?_
    refine s_getI dX12_cachePlace_4 fl_X12_91 (by assumption) (by assumption) ?_
    rw [c2]
    refine s_icmp_ge (tgt := 38) dX12_cachePlace_7 (by decide) (fun h7 => absurd h7 (fun h => by rw [zI_le (by omega) (by omega) (by omega) (by omega)] at h; omega)) (fun h7 => ?_)
    refine s_aload_n (i := 0) dX12_cachePlace_10 rfl rfl ?_
    refine s_getR dX12_cachePlace_11 fl_X12_16 (by assumption) (by assumption) (by assumption) ?_
    refine s_iload_n (i := 3) dX12_cachePlace_14 rfl rfl ?_
    refine s_ildn (j := i) dX12_cachePlace_15 (by assumption) (by assumption) (by assumption) (by first | with_reducible rfl | ((try simp only [z0, z1, zm1, zm2, zm3, zm4, zl2, zl3, zl4, zl5, zl6, zl7, zl8, zl9, zl10, zl20, zl28, zl31, zl32, zl33, zl48, zl57, zl64, zl100, zl127, zl200, zl201, zl202, zl402, zl1200, zl2412, zl16884, zI_add, zI_sub, zI_mul, zI_inc, zI_dec]) <;> (congr 1 <;> omega))) (by omega) (by decide) ?_
    rw [g1]
    refine s_iload_n (i := 1) dX12_cachePlace_16 rfl rfl ?_
    refine s_icmp_ne (tgt := 32) dX12_cachePlace_17 (by decide) (fun c17 => ?_) (fun c17 => ?_)
    · refine s_iinc dX12_cachePlace_32 rfl (zI_inc _) (by decide) (by simp only [sl, sl2, rm, Value.category, reduceIte, Nat.reduceAdd, Nat.reduceEqDiff, reduceCtorEq]; rfl) ?_
      refine s_goto (tgt := 2) dX12_cachePlace_35 (by decide) ?_
      exact ih (i + 1) (by omega) (step (fun h => c17 (by rw [h]; exact zI_self x)))
    · refine s_aload_n (i := 0) dX12_cachePlace_20 rfl rfl ?_
      refine s_getR dX12_cachePlace_21 fl_X12_19 (by assumption) (by assumption) (by assumption) ?_
      refine s_iload_n (i := 3) dX12_cachePlace_24 rfl rfl ?_
      refine s_ildn (j := i) dX12_cachePlace_25 (by assumption) (by assumption) (by assumption) (by first | with_reducible rfl | ((try simp only [z0, z1, zm1, zm2, zm3, zm4, zl2, zl3, zl4, zl5, zl6, zl7, zl8, zl9, zl10, zl20, zl28, zl31, zl32, zl33, zl48, zl57, zl64, zl100, zl127, zl200, zl201, zl202, zl402, zl1200, zl2412, zl16884, zI_add, zI_sub, zI_mul, zI_inc, zI_dec]) <;> (congr 1 <;> omega))) (by omega) (by decide) ?_
      rw [g2]
      refine s_iload_n (i := 2) dX12_cachePlace_26 rfl rfl ?_
      refine s_icmp_ne (tgt := 32) dX12_cachePlace_27 (by decide) (fun c27 => ?_) (fun c27 => ?_)
      · refine s_iinc dX12_cachePlace_32 rfl (zI_inc _) (by decide) (by simp only [sl, sl2, rm, Value.category, reduceIte, Nat.reduceAdd, Nat.reduceEqDiff, reduceCtorEq]; rfl) ?_
        refine s_goto (tgt := 2) dX12_cachePlace_35 (by decide) ?_
        exact ih (i + 1) (by omega) (step (fun h => c27 (by rw [h]; exact zI_self y)))
      · refine s_iload_n (i := 3) dX12_cachePlace_30 rfl rfl ?_
        refine s_iret dX12_cachePlace_31 rfl ?_
        have d1 : e.1 = x.toInt := by rw [← c17, zI_t (by omega) (by omega)]
        have d2 : e.2 = y.toInt := by rw [← c27, zI_t (by omega) (by omega)]
        exact hy i (by rw [he, ← d1, ← d2])
set_option maxRecDepth 100000 in
set_option maxHeartbeats 1000000 in
theorem m_place {G : fG} {x0 : Nat} {l : Launch} {d k n : Nat} {T : fT} {I : fI} {J : fJ} {Q : Option Value → fT → fI → fJ → Prop} {x y : Int32} {C : List (Int × Int) × Nat × Nat} (hM : MObj T) (hC : CacheM I C) (hr : ∀ e, e ∈ C.1 → 0 ≤ e.1 ∧ e.1 < 1000 ∧ 0 ≤ e.2 ∧ e.2 < 1000) (hy : ∀ p : Nat, C.1.reverse[p]? = some (x.toInt, y.toInt) → Q (some (.int (zI p))) T I J) (hn : (x.toInt, y.toInt) ∉ C.1 → Q (some (.int (-1))) T I J) : PW G x0 l mX12_cachePlace d (ZM G x0 Q) k n 0 [(0, .ref (x0 + 144)), (1, .int x), (2, .int y)] [] T I J := by
  refine s_iconst (v := 0) dX12_cachePlace_0 (by decide) ?_
  refine s_istore_n (i := 3) dX12_cachePlace_1 rfl (by decide) (by simp only [sl, sl2, rm, Value.category, reduceIte, Nat.reduceAdd, Nat.reduceEqDiff, reduceCtorEq]; rfl) ?_
  exact ml_place hM hC hr hy hn C.1.length 0 (by omega) (fun q h => absurd h (Nat.not_lt_zero q))
theorem SOk.cr {S : ASt} (h : SOk S) : ∀ e, e ∈ S.2.2.1.1 → 0 ≤ e.1 ∧ e.1 < 1000 ∧ 0 ≤ e.2 ∧ e.2 < 1000 := fun e he => by
  have h1 := h.2.2.1.2.1 e he
  have h2 := (h.1 e.1.toNat (by omega)).nbm
  have h3 := (h.1 e.1.toNat (by omega)).1
  omega
set_option maxRecDepth 100000 in
set_option maxHeartbeats 1000000 in
theorem m_cached {G : fG} {x0 : Nat} {l : Launch} {d k n : Nat} {T : fT} {I : fI} {J : fJ} {Q : Option Value → fT → fI → fJ → Prop} {x y : Int32} {S : ASt} (hS : MIs T I S) (hk : SOk S) (hq : ∀ I', frS I I' → Q (some (.int (zI (fCached S x.toInt y.toInt)))) T I' J) : PW G x0 l mX12_cached (d + 3) (ZM G x0 Q) k n 0 [(0, .ref (x0 + 144)), (1, .int x), (2, .int y)] [] T I J := by
  have hM := hS.1
  obtain ⟨o1, o2⟩ := hM.o
  unfold fCached at hq
  refine s_aload_n (i := 0) dX12_cached_0 rfl rfl ?_
  refine s_iload_n (i := 1) dX12_cached_1 rfl rfl ?_
  refine s_iload_n (i := 2) dX12_cached_2 rfl rfl ?_
  refine s_cV_II (My := mX12_isBlock) dX12_cached_3 wM_X12_216 cb_yX12_isBlock ci_yX12_isBlock (by assumption) (by assumption) (Nat.le_of_ble_eq_true rfl) (by decide) (s_d (by omega) (m_isBlock (d := 0) hS hk ?_ ?_))
  · rintro li j rfl rfl hli hj
    have hxt : (zI (li : Int)).toInt = li := zI_t (by omega) (by omega)
    have hxn : (zI (li : Int)).toInt.toNat = li := by rw [hxt]; simp
    have hL := hk.1 li hli
    have hm := hS.L hli
    have hnm := hL.nbm
    have hmm := hL.1
    have hyt : (zI (j : Int)).toInt = j := zI_t (by omega) (by omega)
    have hyn : (zI (j : Int)).toInt.toNat = j := by rw [hyt]; simp
    have hb := hL.blk hj
    have hB : isB S (zI (li : Int)).toInt (zI (j : Int)).toInt := ⟨by omega, by rw [hxn]; omega⟩
    rw [if_pos hB] at hq
    refine s_if_ne (tgt := 12) dX12_cached_6 (by decide) (fun h6 => ?_) (fun h6 => absurd h6 (by decide))
    refine s_aload_n (i := 0) dX12_cached_12 rfl rfl ?_
    refine s_iload_n (i := 1) dX12_cached_13 rfl rfl ?_
    refine s_iload_n (i := 2) dX12_cached_14 rfl rfl ?_
    refine s_cV_II (My := mX12_cachePlace) dX12_cached_15 wM_X12_94 cb_yX12_cachePlace ci_yX12_cachePlace (by assumption) (by assumption) (Nat.le_of_ble_eq_true rfl) (by decide) (s_d (by omega) (m_place (d := 0) hM hS.2.2.2.1 hk.cr (fun p hp => ?_) (fun hn => ?_)))
    · have hp4 := (List.getElem?_eq_some_iff.mp hp).1
      have hc4 := hS.2.2.2.1.1
      rw [List.length_reverse] at hp4
      refine s_iconst (v := -1) dX12_cached_18 (by decide) ?_
      refine s_icmp_ne (tgt := 26) dX12_cached_19 (by decide) (fun h19 => ?_) (fun h19 => absurd h19 (fun h => by rw [zm1, zI_eq (by omega) (by omega) (by omega) (by omega)] at h; omega))
      refine s_iconst (v := 1) dX12_cached_26 (by decide) ?_
      refine s_iret dX12_cached_27 rfl ?_
      rw [if_pos (List.mem_reverse.mp (List.mem_of_getElem? hp))] at hq
      exact hq I (frS.refl I)
    · refine s_iconst (v := -1) dX12_cached_18 (by decide) ?_
      refine s_icmp_ne (tgt := 26) dX12_cached_19 (by decide) (fun h19 => absurd h19 (fun h => h rfl)) (fun h19 => ?_)
      refine s_iconst (v := 0) dX12_cached_22 (by decide) ?_
      refine s_goto (tgt := 27) dX12_cached_23 (by decide) ?_
      refine s_iret dX12_cached_27 rfl ?_
      rw [if_neg hn] at hq
      exact hq I (frS.refl I)
  · intro hx
    refine s_if_ne (tgt := 12) dX12_cached_6 (by decide) (fun h6 => absurd h6 (fun h => h rfl)) (fun h6 => ?_)
    refine s_bipush (v := -2) dX12_cached_9 (by decide) ?_
    refine s_iret dX12_cached_11 rfl ?_
    rw [if_neg (hx)] at hq
    rw [zm2]
    exact hq I (frS.refl I)
set_option maxRecDepth 100000 in
set_option maxHeartbeats 1000000 in
theorem m_result {G : fG} {x0 : Nat} {l : Launch} {d k n : Nat} {T : fT} {I : fI} {J : fJ} {Q : Option Value → fT → fI → fJ → Prop} {x : Int32} {S : ASt} (hS : MIs T I S) (hk : SOk S) (hq : ∀ I', frS I I' → Q (some (.int (zI (fRes S x.toInt)))) T I' J) : PW G x0 l mX12_result d (ZM G x0 Q) k n 0 [(0, .ref (x0 + 144)), (1, .int x)] [] T I J := by
  have hM := hS.1
  obtain ⟨o1, o2⟩ := hM.o
  obtain ⟨r149, b149, k149, n149⟩ := hM.a149
  unfold fRes at hq
  have hR := hS.2.2.2.2.2
  cases hr : S.2.2.2.2 with
  | none =>
    rw [hr] at hR
    simp only [hr] at hq
    obtain ⟨g1, g2⟩ := hR
    refine s_iload_n (i := 1) dX12_result_0 rfl rfl ?_
    refine s_if_ge (tgt := 7) dX12_result_1 (by decide) (fun c1 => ?_) (fun c1 => ?_)
    · refine s_aload_n (i := 0) dX12_result_7 rfl rfl ?_
      refine s_getI dX12_result_8 fl_X12_25 (by assumption) (by assumption) ?_
      rw [g1]
      refine s_iconst (v := -1) dX12_result_11 (by decide) ?_
      refine s_icmp_ne (tgt := 20) dX12_result_12 (by decide) (fun h12 => absurd h12 (fun h => h (by decide))) (fun h12 => ?_)
      refine s_bipush (v := -3) dX12_result_15 (by decide) ?_
      refine s_goto (tgt := 38) dX12_result_17 (by decide) ?_
      refine s_iret dX12_result_38 rfl ?_
      rw [t_ge0] at c1
      rw [if_neg (by omega)] at hq
      rw [zm3]
      exact hq I (frS.refl I)
    · refine s_bipush (v := -2) dX12_result_4 (by decide) ?_
      refine s_iret dX12_result_6 rfl ?_
      rw [t_ge0] at c1
      rw [if_pos (by omega)] at hq
      rw [zm2]
      exact hq I (frS.refl I)
  | some r =>
    rw [hr] at hR
    simp only [hr] at hq
    obtain ⟨g1, g2, g3⟩ := hR
    obtain ⟨hr1, hr2, hr3⟩ := hk.2.2.2.2.2 r hr
    refine s_iload_n (i := 1) dX12_result_0 rfl rfl ?_
    refine s_if_ge (tgt := 7) dX12_result_1 (by decide) (fun c1 => ?_) (fun c1 => ?_)
    · refine s_aload_n (i := 0) dX12_result_7 rfl rfl ?_
      refine s_getI dX12_result_8 fl_X12_25 (by assumption) (by assumption) ?_
      rw [g1]
      refine s_iconst (v := -1) dX12_result_11 (by decide) ?_
      refine s_icmp_ne (tgt := 20) dX12_result_12 (by decide) (fun h12 => ?_) (fun h12 => absurd h12 (fun h => by rw [zm1, zI_eq (by omega) (by omega) (by omega) (by omega)] at h; omega))
      refine s_iload_n (i := 1) dX12_result_20 rfl rfl ?_
      refine s_aload_n (i := 0) dX12_result_21 rfl rfl ?_
      refine s_getI dX12_result_22 fl_X12_25 (by assumption) (by assumption) ?_
      rw [g1]
      refine s_icmp_ge (tgt := 37) dX12_result_25 (by decide) (fun c25 => ?_) (fun c25 => ?_)
      · rw [t_le', zI_t (by omega) (by omega)] at c25
        rw [t_ge0] at c1
        refine s_iconst (v := -1) dX12_result_37 (by decide) ?_
        refine s_iret dX12_result_38 rfl ?_
        rw [if_neg (by omega)] at hq
        first
        | (rw [if_pos (by omega)] at hq
           exact hq I (frS.refl I))
        | (rw [if_neg (by omega)] at hq
           rw [zm1]
           exact hq I (frS.refl I))
      · rw [t_le', zI_t (by omega) (by omega)] at c25
        rw [t_ge0] at c1
        refine s_aload_n (i := 0) dX12_result_28 rfl rfl ?_
        refine s_getR dX12_result_29 fl_X12_22 (by assumption) (by assumption) (by assumption) ?_
        refine s_iload_n (i := 1) dX12_result_32 rfl rfl ?_
        refine s_ildn (j := x.toInt.toNat) dX12_result_33 (by assumption) (by assumption) (by assumption) (t_zI (by omega)) (by omega) (by decide) ?_
        rw [g3 _ (by omega)]
        refine s_goto (tgt := 38) dX12_result_34 (by decide) ?_
        refine s_iret dX12_result_38 rfl ?_
        rw [if_neg (by omega)] at hq
        first
        | (rw [if_pos (by omega)] at hq
           exact hq I (frS.refl I))
        | (rw [if_neg (by omega)] at hq
           rw [zm1]
           exact hq I (frS.refl I))
    · refine s_bipush (v := -2) dX12_result_4 (by decide) ?_
      refine s_iret dX12_result_6 rfl ?_
      rw [t_ge0] at c1
      rw [if_pos (by omega)] at hq
      rw [zm2]
      exact hq I (frS.refl I)
set_option maxRecDepth 100000 in
set_option maxHeartbeats 1000000 in
theorem ml_over {G : fG} {x0 : Nat} {l : Launch} {d k n : Nat} {T : fT} {J : fJ} {Q : Option Value → fT → fI → fJ → Prop} {x : Int32} {S : ASt} (hk : SOk S) (hx : 0 ≤ x.toInt ∧ x.toInt ≤ 5) : ∀ (t i : Nat) (I : fI), i + t = 6 → MIs T I S → (∀ I', frS I I' → Q (some (.int (zI (sumL S x.toInt 6)))) T I' J) → PW G x0 l mX12_over (d + 7) (ZM G x0 Q) k n 4 [(0, .ref (x0 + 144)), (1, .int x), (2, .int (zI (sumL S x.toInt i))), (3, .int (zI i))] [] T I J := by
  intro t
  induction t with
  | zero =>
    intro i I ht hS hq
    have hM := hS.1
    obtain ⟨o1, o2⟩ := hM.o
    have hi : i = 6 := by omega
    subst hi
    refine s_iload_n (i := 3) dX12_over_4 rfl rfl ?_
    refine s_bipush (v := 6) dX12_over_5 (by decide) ?_
    refine s_icmp_ge (tgt := 25) dX12_over_7 (by decide) (fun h7 => ?_) (fun h7 => absurd (by decide) h7)
    refine s_iload_n (i := 2) dX12_over_25 rfl rfl ?_
    refine s_iret dX12_over_26 rfl ?_
    exact hq I (frS.refl I)
  | succ t ih =>
    intro i I ht hS hq
    have hM := hS.1
    obtain ⟨o1, o2⟩ := hM.o
    refine s_iload_n (i := 3) dX12_over_4 rfl rfl ?_
    refine s_bipush (v := 6) dX12_over_5 (by decide) ?_
    refine s_icmp_ge (tgt := 25) dX12_over_7 (by decide) (fun h7 => absurd h7 (fun h => by simp only [z0, z1, zm1, zm2, zm3, zm4, zl2, zl3, zl4, zl5, zl6, zl7, zl8, zl9, zl10, zl20, zl28, zl31, zl32, zl33, zl48, zl57, zl64, zl100, zl127, zl200, zl201, zl202, zl402, zl1200, zl2412, zl16884, zI_add, zI_sub, zI_mul, zI_inc, zI_dec] at h; rw [zI_le (by omega) (by omega) (by omega) (by omega)] at h; omega)) (fun h7 => ?_)
    refine s_iload_n (i := 2) dX12_over_10 rfl rfl ?_
    refine s_aload_n (i := 0) dX12_over_11 rfl rfl ?_
    refine s_iload_n (i := 3) dX12_over_12 rfl rfl ?_
    refine s_iload_n (i := 1) dX12_over_13 rfl rfl ?_
    refine s_cV_II (My := mX12_listPart) dX12_over_14 wM_X12_213 cb_yX12_listPart ci_yX12_listPart (by assumption) (by assumption) (Nat.le_of_ble_eq_true rfl) (by decide) (s_d (by omega) (m_listPart (d := 0) (li := i) hM (by omega) (hk.1 i (by omega)) (hS.L (by omega)) hx (fun I1 hf1 => ?_)))
    refine s_iadd dX12_over_17 ?_
    refine s_topi (y := zI (sumL S x.toInt (i + 1))) (by rw [zI_add]; rfl) ?_
    refine s_istore_n (i := 2) dX12_over_18 rfl (by decide) (by simp only [sl, sl2, rm, Value.category, reduceIte, Nat.reduceAdd, Nat.reduceEqDiff, reduceCtorEq]; rfl) ?_
    refine s_iinc dX12_over_19 rfl (zI_inc _) (by decide) (by simp only [sl, sl2, rm, Value.category, reduceIte, Nat.reduceAdd, Nat.reduceEqDiff, reduceCtorEq]; rfl) ?_
    refine s_goto (tgt := 4) dX12_over_22 (by decide) ?_
    exact ih (i + 1) I1 (by omega) (hS.fr (frS150 hf1)) (fun I2 hf2 => hq I2 ((frS150 hf1).trans hf2))
set_option maxRecDepth 100000 in
set_option maxHeartbeats 1000000 in
theorem m_over {G : fG} {x0 : Nat} {l : Launch} {d k n : Nat} {T : fT} {I : fI} {J : fJ} {Q : Option Value → fT → fI → fJ → Prop} {x : Int32} {S : ASt} (hS : MIs T I S) (hk : SOk S) (hx : 0 ≤ x.toInt ∧ x.toInt ≤ 5) (hq : ∀ I', frS I I' → Q (some (.int (zI (sumL S x.toInt 6)))) T I' J) : PW G x0 l mX12_over (d + 7) (ZM G x0 Q) k n 0 [(0, .ref (x0 + 144)), (1, .int x)] [] T I J := by
  refine s_iconst (v := 0) dX12_over_0 (by decide) ?_
  refine s_istore_n (i := 2) dX12_over_1 rfl (by decide) (by simp only [sl, sl2, rm, Value.category, reduceIte, Nat.reduceAdd, Nat.reduceEqDiff, reduceCtorEq]; rfl) ?_
  refine s_iconst (v := 0) dX12_over_2 (by decide) ?_
  refine s_istore_n (i := 3) dX12_over_3 rfl (by decide) (by simp only [sl, sl2, rm, Value.category, reduceIte, Nat.reduceAdd, Nat.reduceEqDiff, reduceCtorEq]; rfl) ?_
  exact ml_over hk hx 6 0 I (by omega) hS hq
set_option maxRecDepth 100000 in
set_option maxHeartbeats 1000000 in
theorem m_count {G : fG} {x0 : Nat} {l : Launch} {d k n : Nat} {T : fT} {I : fI} {J : fJ} {Q : Option Value → fT → fI → fJ → Prop} {x : Int32} {S : ASt} (hS : MIs T I S) (hk : SOk S) (hq : ∀ I', frS I I' → Q (some (.int (zI (fCount S x.toInt)))) T I' J) : PW G x0 l mX12_count (d + 8) (ZM G x0 Q) k n 0 [(0, .ref (x0 + 144)), (1, .int x)] [] T I J := by
  have hM := hS.1
  obtain ⟨o1, o2⟩ := hM.o
  unfold fCount at hq
  have hR := hS.2.2.2.2.2
  have hR1 : I 144 9 = zI (resL S) := by
    unfold resL
    cases hr : S.2.2.2.2 with
    | none => rw [hr] at hR; exact hR.1
    | some r => rw [hr] at hR; exact hR.1
  have hR2 : I 144 10 = zI (resP S) := by
    unfold resP
    cases hr : S.2.2.2.2 with
    | none => rw [hr] at hR; exact hR.2
    | some r => rw [hr] at hR; exact hR.2.1
  obtain ⟨c1, c2, c3, c4, c5⟩ := hS.2.2.2.1
  refine s_iload_n (i := 1) dX12_count_0 rfl rfl ?_
  rcases (show (x.toInt < 0 ∨ 9 < x.toInt) ∨ x.toInt = 0 ∨ x.toInt = 1 ∨ x.toInt = 2 ∨ x.toInt = 3 ∨ x.toInt = 4 ∨ x.toInt = 5 ∨ x.toInt = 6 ∨ x.toInt = 7 ∨ x.toInt = 8 ∨ x.toInt = 9 by omega) with hw | hw | hw | hw | hw | hw | hw | hw | hw | hw | hw
  · refine s_tabOut (tgt := 97) dX12_count_1 hw (by decide) ?_
    refine s_bipush (v := -2) dX12_count_97 (by decide) ?_
    refine s_iret dX12_count_99 rfl ?_
    rw [if_neg (by omega), if_neg (by omega), if_neg (by omega), if_neg (by omega), if_neg (by omega), if_neg (by omega), if_neg (by omega), if_neg (by omega)] at hq
    rw [zm2]
    exact hq I (frS.refl I)
  · refine s_tabIn (off := 55) (tgt := 56) dX12_count_1 (by omega) (by omega) (by rw [hw]; rfl) (by decide) ?_
    refine s_aload_n (i := 0) dX12_count_56 rfl rfl ?_
    refine s_iload_n (i := 1) dX12_count_57 rfl rfl ?_
    refine s_cV_I (My := mX12_over) dX12_count_58 wM_X12_279 cb_yX12_over ci_yX12_over (by assumption) (by assumption) (Nat.le_of_ble_eq_true rfl) (by decide) (s_d (by omega) (m_over (d := 0) hS hk (by omega) (fun I1 hf1 => ?_)))
    refine s_iret dX12_count_61 rfl ?_
    rw [if_pos (by omega)] at hq
    exact hq I1 hf1
  · refine s_tabIn (off := 55) (tgt := 56) dX12_count_1 (by omega) (by omega) (by rw [hw]; rfl) (by decide) ?_
    refine s_aload_n (i := 0) dX12_count_56 rfl rfl ?_
    refine s_iload_n (i := 1) dX12_count_57 rfl rfl ?_
    refine s_cV_I (My := mX12_over) dX12_count_58 wM_X12_279 cb_yX12_over ci_yX12_over (by assumption) (by assumption) (Nat.le_of_ble_eq_true rfl) (by decide) (s_d (by omega) (m_over (d := 0) hS hk (by omega) (fun I1 hf1 => ?_)))
    refine s_iret dX12_count_61 rfl ?_
    rw [if_pos (by omega)] at hq
    exact hq I1 hf1
  · refine s_tabIn (off := 55) (tgt := 56) dX12_count_1 (by omega) (by omega) (by rw [hw]; rfl) (by decide) ?_
    refine s_aload_n (i := 0) dX12_count_56 rfl rfl ?_
    refine s_iload_n (i := 1) dX12_count_57 rfl rfl ?_
    refine s_cV_I (My := mX12_over) dX12_count_58 wM_X12_279 cb_yX12_over ci_yX12_over (by assumption) (by assumption) (Nat.le_of_ble_eq_true rfl) (by decide) (s_d (by omega) (m_over (d := 0) hS hk (by omega) (fun I1 hf1 => ?_)))
    refine s_iret dX12_count_61 rfl ?_
    rw [if_pos (by omega)] at hq
    exact hq I1 hf1
  · refine s_tabIn (off := 61) (tgt := 62) dX12_count_1 (by omega) (by omega) (by rw [hw]; rfl) (by decide) ?_
    refine s_aload_n (i := 0) dX12_count_62 rfl rfl ?_
    refine s_getI dX12_count_63 fl_X12_91 (by assumption) (by assumption) ?_
    refine s_iret dX12_count_66 rfl ?_
    rw [if_neg (by omega), if_pos hw] at hq
    rw [c2]
    exact hq I (frS.refl I)
  · refine s_tabIn (off := 66) (tgt := 67) dX12_count_1 (by omega) (by omega) (by rw [hw]; rfl) (by decide) ?_
    refine s_aload_n (i := 0) dX12_count_67 rfl rfl ?_
    refine s_getI dX12_count_68 fl_X12_97 (by assumption) (by assumption) ?_
    refine s_iret dX12_count_71 rfl ?_
    rw [if_neg (by omega), if_neg (by omega), if_pos hw] at hq
    rw [c3]
    exact hq I (frS.refl I)
  · refine s_tabIn (off := 71) (tgt := 72) dX12_count_1 (by omega) (by omega) (by rw [hw]; rfl) (by decide) ?_
    refine s_aload_n (i := 0) dX12_count_72 rfl rfl ?_
    refine s_getI dX12_count_73 fl_X12_100 (by assumption) (by assumption) ?_
    refine s_iret dX12_count_76 rfl ?_
    rw [if_neg (by omega), if_neg (by omega), if_neg (by omega), if_pos hw] at hq
    rw [c4]
    exact hq I (frS.refl I)
  · refine s_tabIn (off := 76) (tgt := 77) dX12_count_1 (by omega) (by omega) (by rw [hw]; rfl) (by decide) ?_
    refine s_aload_n (i := 0) dX12_count_77 rfl rfl ?_
    refine s_getI dX12_count_78 fl_X12_25 (by assumption) (by assumption) ?_
    refine s_iret dX12_count_81 rfl ?_
    rw [if_neg (by omega), if_neg (by omega), if_neg (by omega), if_neg (by omega), if_pos hw] at hq
    rw [hR1]
    exact hq I (frS.refl I)
  · refine s_tabIn (off := 81) (tgt := 82) dX12_count_1 (by omega) (by omega) (by rw [hw]; rfl) (by decide) ?_
    refine s_aload_n (i := 0) dX12_count_82 rfl rfl ?_
    refine s_getI dX12_count_83 fl_X12_29 (by assumption) (by assumption) ?_
    refine s_iret dX12_count_86 rfl ?_
    rw [if_neg (by omega), if_neg (by omega), if_neg (by omega), if_neg (by omega), if_neg (by omega), if_pos hw] at hq
    rw [hR2]
    exact hq I (frS.refl I)
  · refine s_tabIn (off := 86) (tgt := 87) dX12_count_1 (by omega) (by omega) (by rw [hw]; rfl) (by decide) ?_
    refine s_aload_n (i := 0) dX12_count_87 rfl rfl ?_
    refine s_getI dX12_count_88 fl_X12_88 (by assumption) (by assumption) ?_
    refine s_iret dX12_count_91 rfl ?_
    rw [if_neg (by omega), if_neg (by omega), if_neg (by omega), if_neg (by omega), if_neg (by omega), if_neg (by omega), if_pos hw] at hq
    rw [hS.2.2.1.2.1]
    exact hq I (frS.refl I)
  · refine s_tabIn (off := 91) (tgt := 92) dX12_count_1 (by omega) (by omega) (by rw [hw]; rfl) (by decide) ?_
    refine s_aload_n (i := 0) dX12_count_92 rfl rfl ?_
    refine s_getI dX12_count_93 fl_X12_170 (by assumption) (by assumption) ?_
    refine s_iret dX12_count_96 rfl ?_
    rw [if_neg (by omega), if_neg (by omega), if_neg (by omega), if_neg (by omega), if_neg (by omega), if_neg (by omega), if_neg (by omega), if_pos hw] at hq
    rw [hS.2.2.2.2.1.1]
    exact hq I (frS.refl I)
