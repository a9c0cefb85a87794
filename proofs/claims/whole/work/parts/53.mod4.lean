theorem bit_at {x r b j : Nat} (hb : b < 64) (hj : j < 64) : tbit ((zI ((x / 2 ^ r % 2 : Nat) : Int)).toInt64 <<< ((zI ((b : Nat) : Int)).toInt64 &&& 63)) j = (decide (j = b) && x.testBit r) := by
  rw [tb_shl _ hb hj, Nat.testBit_eq_decide_div_mod_eq]
  have h2 : x / 2 ^ r % 2 = 0 ∨ x / 2 ^ r % 2 = 1 := by omega
  rcases h2 with h | h
  · rw [h, tb_nat (by omega) (by omega)]
    simp
  · rw [h, tb_nat (by omega) (by omega)]
    rcases Nat.lt_trichotomy j b with e | e | e
    · have e1 : ¬ b ≤ j := by omega
      have e2 : ¬ j = b := by omega
      simp [e1, e2]
    · subst e
      simp
    · have e1 : b ≤ j := by omega
      have e2 : ¬ j = b := by omega
      have e3 : ∃ q, j - b = q + 1 := ⟨j - b - 1, by omega⟩
      obtain ⟨q, hq⟩ := e3
      rw [hq, Nat.testBit_succ]
      simp [e1, e2]
theorem zI_and1 {a : Nat} (ha : a < 2147483648) : zI (a : Int) &&& 1 = zI ((a % 2 : Nat) : Int) := by
  have := zI_and (a := a) (b := 1) ha (by omega)
  rw [Nat.and_one_is_mod] at this
  exact this
theorem zI_remN {a b : Nat} (ha : a < 2147483648) (hb : 0 < b) (hb2 : b < 2147483648) : zI (a : Int) - zI (a : Int) / zI (b : Int) * zI (b : Int) = zI ((a % b : Nat) : Int) := by
  rw [zI_div (by omega) (by omega) (by omega) (by omega), zI_mul, zI_sub]
  congr 1
  have h := Nat.div_add_mod a b
  have h2 : ((a / b : Nat) : Int) = (a : Int) / (b : Int) := Int.natCast_ediv a b
  rw [← h2, ← Int.natCast_mul, Nat.mul_comm (a / b) b]
  generalize b * (a / b) = P at h
  omega
set_option maxRecDepth 100000 in
set_option maxHeartbeats 1000000 in
theorem ml_word {G : fG} {x0 : Nat} {l : Launch} {d k n : Nat} {T : fT} {I : fI} {J : fJ} {Q : Option Value → fT → fI → fJ → Prop} {li j kk : Nat} {L : LSt} (hM : MObj T) (hli : li < 6) (hL : LOk L) (hm : ML (I 145) (402 * li) L) (hj : j < L.2.2.2) (hb0 : 0 < bw L.1 (bf L j) (bl L j)) (hkk : kk ≤ 1000) (hq : Q (some (.long (wordV L.1 (bf L j) (bl L j) kk))) T I J) : ∀ (t b : Nat) (v : Int64), b + t = 32 → (∀ i, i < 64 → tbit v i = (decide (i < b) && wbit L.1 (bf L j) (bl L j) kk i)) → PW G x0 l mX12_word (d + 5) (ZM G x0 Q) k n 51 [(0, .ref (x0 + 144)), (1, .int (zI li)), (2, .int (zI j)), (3, .int (zI kk)), (4, .int (zI (bw L.1 (bf L j) (bl L j)))), (5, .int (zI (bf L j))), (6, .long v), (8, .int (zI b))] [] T I J := by
  obtain ⟨o1, o2⟩ := hM.o
  have hnm := hL.nbm
  have hmm := hL.1
  have hb := hL.blk hj
  have hbw := bw_le L.1 (bf L j) (bl L j)
  intro t
  induction t with
  | zero =>
    intro b v ht hv
    have hb32 : b = 32 := by omega
    subst hb32
    have e : v = wordV L.1 (bf L j) (bl L j) kk := tb_ext (fun i hi => by rw [hv i hi, wordV_bit _ _ _ _ hi])
    refine s_iload dX12_word_51 rfl ?_
    refine s_bipush (v := 32) dX12_word_53 (by decide) ?_
    refine s_icmp_ge (tgt := 120) dX12_word_55 (by decide) (fun h55 => ?_) (fun h55 => absurd (by decide) h55)
    refine s_lload dX12_word_120 rfl ?_
    refine s_lret dX12_word_122 rfl ?_
    rw [e]
    exact hq
  | succ t ih =>
    intro b v ht hv
    obtain ⟨P, hP⟩ : ∃ P, 32 * kk + b = P := ⟨_, rfl⟩
    have hPl : P / bw L.1 (bf L j) (bl L j) ≤ P := Nat.div_le_self _ _
    have hwb : wbit L.1 (bf L j) (bl L j) kk b = (decide (1 + P / bw L.1 (bf L j) (bl L j) < bl L j) && (gp L.1 (bf L j + (1 + P / bw L.1 (bf L j) (bl L j)))).testBit (P % bw L.1 (bf L j) (bl L j))) := by unfold wbit; rw [hP]
    have hml : P % bw L.1 (bf L j) (bl L j) < bw L.1 (bf L j) (bl L j) := Nat.mod_lt _ hb0
    obtain ⟨D, hD⟩ : ∃ D, P / bw L.1 (bf L j) (bl L j) = D := ⟨_, rfl⟩
    obtain ⟨R, hR⟩ : ∃ R, P % bw L.1 (bf L j) (bl L j) = R := ⟨_, rfl⟩
    rw [hD] at hPl hwb
    rw [hR] at hwb hml
    refine s_iload dX12_word_51 rfl ?_
    refine s_bipush (v := 32) dX12_word_53 (by decide) ?_
    refine s_icmp_ge (tgt := 120) dX12_word_55 (by decide) (fun h55 => absurd h55 (fun h => by simp only [z0, z1, zm1, zm2, zm3, zm4, zl2, zl3, zl4, zl5, zl6, zl7, zl8, zl9, zl10, zl20, zl28, zl31, zl32, zl33, zl48, zl57, zl64, zl100, zl127, zl200, zl201, zl202, zl402, zl1200, zl2412, zl16884, zI_add, zI_sub, zI_mul, zI_inc, zI_dec] at h; rw [zI_le (by omega) (by omega) (by omega) (by omega)] at h; omega)) (fun h55 => ?_)
    refine s_bipush (v := 32) dX12_word_58 (by decide) ?_
    refine s_iload_n (i := 3) dX12_word_60 rfl rfl ?_
    refine s_imul dX12_word_61 ?_
    refine s_iload dX12_word_62 rfl ?_
    refine s_iadd dX12_word_64 ?_
    refine s_topi (y := zI (P : Int)) (by first | with_reducible rfl | ((try simp only [z0, z1, zm1, zm2, zm3, zm4, zl2, zl3, zl4, zl5, zl6, zl7, zl8, zl9, zl10, zl20, zl28, zl31, zl32, zl33, zl48, zl57, zl64, zl100, zl127, zl200, zl201, zl202, zl402, zl1200, zl2412, zl16884, zI_add, zI_sub, zI_mul, zI_inc, zI_dec]) <;> (congr 1 <;> omega))) ?_
    refine s_istore dX12_word_65 (by decide) (by simp only [sl, sl2, rm, Value.category, reduceIte, Nat.reduceAdd, Nat.reduceEqDiff, reduceCtorEq]; rfl) ?_
    refine s_iconst (v := 1) dX12_word_67 (by decide) ?_
    refine s_iload dX12_word_68 rfl ?_
    refine s_iload dX12_word_70 rfl ?_
    refine s_idiv dX12_word_72 (by rw [z0, zI_eq (by omega) (by omega) (by omega) (by omega)]; omega) ?_
    refine s_iadd dX12_word_73 ?_
    refine s_topi (y := zI ((1 + D : Nat) : Int)) (by rw [zI_div (by omega) (by omega) (by omega) (by omega), ← Int.natCast_ediv, hD, z1, zI_add]; congr 1) ?_
    refine s_istore dX12_word_74 (by decide) (by simp only [sl, sl2, rm, Value.category, reduceIte, Nat.reduceAdd, Nat.reduceEqDiff, reduceCtorEq]; rfl) ?_
    refine s_iload dX12_word_76 rfl ?_
    refine s_aload_n (i := 0) dX12_word_78 rfl rfl ?_
    refine s_iload_n (i := 1) dX12_word_79 rfl rfl ?_
    refine s_iload_n (i := 2) dX12_word_80 rfl rfl ?_
    refine s_cV_II (My := mX12_length) dX12_word_81 wM_X12_81 cb_yX12_length ci_yX12_length (by assumption) (by assumption) (Nat.le_of_ble_eq_true rfl) (by decide) (s_d (by omega) (m_length (d := 0) hM hli (by omega) ?_))
    rw [hm.2.2.2 j hj]
    refine s_icmp_ge (tgt := 114) dX12_word_84 (by decide) (fun c84 => ?_) (fun c84 => ?_)
    · refine s_iinc dX12_word_114 rfl (zI_inc _) (by decide) (by simp only [sl, sl2, rm, Value.category, reduceIte, Nat.reduceAdd, Nat.reduceEqDiff, reduceCtorEq]; rfl) ?_
      refine s_goto (tgt := 51) dX12_word_117 (by decide) ?_
      rw [zI_le (by omega) (by omega) (by omega) (by omega)] at c84
      refine s_lv (lv' := [(0, .ref (x0 + 144)), (1, .int (zI li)), (2, .int (zI j)), (3, .int (zI kk)), (4, .int _), (5, .int _), (6, .long _), (8, .int _)]) ⟨rfl, rfl, rfl, rfl, rfl, rfl, rfl, rfl, trivial⟩ ?_
      refine ih (b + 1) _ (by omega) (fun i hi => ?_)
      rw [hv i hi]
      by_cases e : i = b
      · subst e
        rw [hwb]
        have e2 : ¬ 1 + D < bl L j := by omega
        simp [e2]
      · rcases Nat.lt_or_ge i b with h | h
        · have h2 : i < b + 1 := by omega
          simp [h, h2]
        · have h1 : ¬ i < b := by omega
          have h2 : ¬ i < b + 1 := by omega
          simp [h1, h2]
    · rw [zI_le (by omega) (by omega) (by omega) (by omega)] at c84
      have hgp := hL.gap (bf L j + (1 + D)) (by omega) (by omega)
      have hge : ((gp L.1 (bf L j + (1 + D)) : Nat) : Int) = L.1 (bf L j + (1 + D)) - L.1 (bf L j + (1 + D) - 1) - 1 := by unfold gp; omega
      refine s_lload dX12_word_87 rfl ?_
      refine s_aload_n (i := 0) dX12_word_89 rfl rfl ?_
      refine s_iload_n (i := 1) dX12_word_90 rfl rfl ?_
      refine s_iload dX12_word_91 rfl ?_
      refine s_iload dX12_word_93 rfl ?_
      refine s_iadd dX12_word_95 ?_
      refine s_topi (y := zI ((bf L j + (1 + D) : Nat) : Int)) (by first | with_reducible rfl | ((try simp only [z0, z1, zm1, zm2, zm3, zm4, zl2, zl3, zl4, zl5, zl6, zl7, zl8, zl9, zl10, zl20, zl28, zl31, zl32, zl33, zl48, zl57, zl64, zl100, zl127, zl200, zl201, zl202, zl402, zl1200, zl2412, zl16884, zI_add, zI_sub, zI_mul, zI_inc, zI_dec]) <;> (congr 1 <;> omega))) ?_
      refine s_cV_II (My := mX12_gap) dX12_word_96 wM_X12_106 cb_yX12_gap ci_yX12_gap (by assumption) (by assumption) (Nat.le_of_ble_eq_true rfl) (by decide) (s_d (by omega) (m_gap (d := 0) (i := bf L j + (1 + D)) hM hli hL hm (by omega) (by omega) ?_))
      refine s_iload dX12_word_99 rfl ?_
      refine s_iload dX12_word_101 rfl ?_
      refine s_irem dX12_word_103 (by rw [z0, zI_eq (by omega) (by omega) (by omega) (by omega)]; omega) ?_
      refine s_topi (y := zI (R : Int)) (by rw [zI_remN (by omega) (by omega) (by omega), hR]) ?_
      refine s_ishr dX12_word_104 ?_
      refine s_topi (y := zI ((gp L.1 (bf L j + (1 + D)) / 2 ^ R : Nat) : Int)) (by rw [zI_shr (by omega) (by omega) (by omega) (by omega)]; congr 1) ?_
      have hdl : gp L.1 (bf L j + (1 + D)) / 2 ^ R ≤ gp L.1 (bf L j + (1 + D)) := Nat.div_le_self _ _
      refine s_iconst (v := 1) dX12_word_105 (by decide) ?_
      refine s_iand dX12_word_106 ?_
      refine s_topi (y := zI ((gp L.1 (bf L j + (1 + D)) / 2 ^ R % 2 : Nat) : Int)) (by rw [zI_and1 (by omega)]) ?_
      refine s_i2l dX12_word_107 ?_
      refine s_iload dX12_word_108 rfl ?_
      refine s_lshl dX12_word_110 ?_
      refine s_lor dX12_word_111 ?_
      refine s_lstore dX12_word_112 (by decide) (by simp only [sl, sl2, rm, Value.category, reduceIte, Nat.reduceAdd, Nat.reduceEqDiff, reduceCtorEq]; rfl) ?_
      refine s_iinc dX12_word_114 rfl (zI_inc _) (by decide) (by simp only [sl, sl2, rm, Value.category, reduceIte, Nat.reduceAdd, Nat.reduceEqDiff, reduceCtorEq]; rfl) ?_
      refine s_goto (tgt := 51) dX12_word_117 (by decide) ?_
      refine s_lv (lv' := [(0, .ref (x0 + 144)), (1, .int (zI li)), (2, .int (zI j)), (3, .int (zI kk)), (4, .int _), (5, .int _), (6, .long _), (8, .int _)]) ⟨rfl, rfl, rfl, rfl, rfl, rfl, rfl, rfl, trivial⟩ ?_
      refine ih (b + 1) _ (by omega) (fun i hi => ?_)
      rw [tbit_or, hv i hi, bit_at (by omega) hi]
      by_cases e : i = b
      · subst e
        rw [hwb]
        have e2 : 1 + D < bl L j := by omega
        simp [e2]
      · rcases Nat.lt_or_ge i b with h | h
        · have h2 : i < b + 1 := by omega
          simp [h, h2, e]
        · have h1 : ¬ i < b := by omega
          have h2 : ¬ i < b + 1 := by omega
          simp [h1, h2, e]
set_option maxRecDepth 100000 in
set_option maxHeartbeats 1000000 in
theorem m_word {G : fG} {x0 : Nat} {l : Launch} {d k n : Nat} {T : fT} {I : fI} {J : fJ} {Q : Option Value → fT → fI → fJ → Prop} {x y z : Int32} {S : ASt} (hS : MIs T I S) (hk : SOk S) (hq : ∀ I', frS I I' → Q (some (.long (fWord S x.toInt y.toInt z.toInt))) T I' J) : PW G x0 l mX12_word (d + 5) (ZM G x0 Q) k n 0 [(0, .ref (x0 + 144)), (1, .int x), (2, .int y), (3, .int z)] [] T I J := by
  have hM := hS.1
  obtain ⟨o1, o2⟩ := hM.o
  have t0 : ((0 : Int32)).toInt = 0 := by decide
  unfold fWord at hq
  refine s_aload_n (i := 0) dX12_word_0 rfl rfl ?_
  refine s_iload_n (i := 1) dX12_word_1 rfl rfl ?_
  refine s_iload_n (i := 2) dX12_word_2 rfl rfl ?_
  refine s_cV_II (My := mX12_isBlock) dX12_word_3 wM_X12_216 cb_yX12_isBlock ci_yX12_isBlock (by assumption) (by assumption) (Nat.le_of_ble_eq_true rfl) (by decide) (s_d (by omega) (m_isBlock (d := 0) hS hk ?_ ?_))
  · rintro li j rfl rfl hli hj
    have hxt : (zI (li : Int)).toInt = li := zI_t (by omega) (by omega)
    have hxn : (zI (li : Int)).toInt.toNat = li := by rw [hxt]; simp
    have hL := hk.1 li hli
    have hm := hS.L hli
    have hnm := hL.nbm
    have hmm := hL.1
    have hyt : (zI (j : Int)).toInt = j := zI_t (by omega) (by omega)
    have hyn : (zI (j : Int)).toInt.toNat = j := by rw [hyt]; simp
    have hb := hL.blk hj
    have hB : isB S (zI (li : Int)).toInt (zI (j : Int)).toInt := ⟨by omega, by rw [hxn]; omega⟩
    simp only [hxn, hyn] at hq
    have hwl := wordsN_le (g := (S.1 li).1) (f := bf (S.1 li) j) hb.2.2.2.2.1
    have tw : (zI ((wordsN (S.1 li).1 (bf (S.1 li) j) (bl (S.1 li) j) : Int) - 1)).toInt = (wordsN (S.1 li).1 (bf (S.1 li) j) (bl (S.1 li) j) : Int) - 1 := zI_t (by omega) (by omega)
    refine s_if_eq (tgt := 25) dX12_word_6 (by decide) (fun h6 => absurd h6 (by decide)) (fun h6 => ?_)
    refine s_iload_n (i := 3) dX12_word_9 rfl rfl ?_
    refine s_iconst (v := 0) dX12_word_10 (by decide) ?_
    refine s_aload_n (i := 0) dX12_word_11 rfl rfl ?_
    refine s_iload_n (i := 1) dX12_word_12 rfl rfl ?_
    refine s_iload_n (i := 2) dX12_word_13 rfl rfl ?_
    refine s_cV_II (My := mX12_words) dX12_word_14 wM_X12_219 cb_yX12_words ci_yX12_words (by assumption) (by assumption) (Nat.le_of_ble_eq_true rfl) (by decide) (s_d (by omega) (m_words (d := 0) hM hli hL hm hj (fun I1 hf1 hN1 => ?_)))
    refine s_iconst (v := 1) dX12_word_17 (by decide) ?_
    refine s_isub dX12_word_18 ?_
    refine s_topi (y := zI ((wordsN (S.1 li).1 (bf (S.1 li) j) (bl (S.1 li) j) : Int) - 1)) (by first | with_reducible rfl | ((try simp only [z0, z1, zm1, zm2, zm3, zm4, zl2, zl3, zl4, zl5, zl6, zl7, zl8, zl9, zl10, zl20, zl28, zl31, zl32, zl33, zl48, zl57, zl64, zl100, zl127, zl200, zl201, zl202, zl402, zl1200, zl2412, zl16884, zI_add, zI_sub, zI_mul, zI_inc, zI_dec]) <;> (congr 1 <;> omega))) ?_
    refine s_cS_III (My := mX12_in) dX12_word_19 wM_X12_68 cb_yX12_in wT_yX12_in (Nat.le_of_ble_eq_true rfl) (by decide) (s_d (by omega) (m_in (d := 0) ?_ ?_))
    · intro hz
      rw [t0, tw] at hz
      rw [if_pos ⟨hB, by omega⟩] at hq
      have hm1 : ML (I1 145) (402 * li) (S.1 li) := by rw [hf1 145 (by decide)]; exact hm
      obtain ⟨kk, hkk⟩ : ∃ kk : Nat, z.toInt = kk := ⟨z.toInt.toNat, by omega⟩
      have hzz := t_zI hkk
      rw [hkk, Int.toNat_natCast] at hq
      subst hzz
      have hb0 : 0 < bw (S.1 li).1 (bf (S.1 li) j) (bl (S.1 li) j) := by
        rcases Nat.eq_zero_or_pos (bw (S.1 li).1 (bf (S.1 li) j) (bl (S.1 li) j)) with h | h
        · unfold wordsN at hz; rw [h, Nat.zero_mul] at hz; omega
        · exact h
      refine s_if_ne (tgt := 29) dX12_word_22 (by decide) (fun h22 => ?_) (fun h22 => absurd h22 (by decide))
      refine s_aload_n (i := 0) dX12_word_29 rfl rfl ?_
      refine s_iload_n (i := 1) dX12_word_30 rfl rfl ?_
      refine s_iload_n (i := 2) dX12_word_31 rfl rfl ?_
      refine s_cV_II (My := mX12_width) dX12_word_32 wM_X12_122 cb_yX12_width ci_yX12_width (by assumption) (by assumption) (Nat.le_of_ble_eq_true rfl) (by decide) (s_d (by omega) (m_width (d := 0) hM hli hL hm1 hj (fun I2 hf2 hN2 => ?_)))
      have hm2 : ML (I2 145) (402 * li) (S.1 li) := by rw [hf2 145 (by decide)]; exact hm1
      refine s_istore dX12_word_35 (by decide) (by simp only [sl, sl2, rm, Value.category, reduceIte, Nat.reduceAdd, Nat.reduceEqDiff, reduceCtorEq]; rfl) ?_
      refine s_aload_n (i := 0) dX12_word_37 rfl rfl ?_
      refine s_iload_n (i := 1) dX12_word_38 rfl rfl ?_
      refine s_iload_n (i := 2) dX12_word_39 rfl rfl ?_
      refine s_cV_II (My := mX12_begin) dX12_word_40 wM_X12_85 cb_yX12_begin ci_yX12_begin (by assumption) (by assumption) (Nat.le_of_ble_eq_true rfl) (by decide) (s_d (by omega) (m_begin (d := 0) hM hli hL hm2 hj ?_))
      refine s_istore dX12_word_43 (by decide) (by simp only [sl, sl2, rm, Value.category, reduceIte, Nat.reduceAdd, Nat.reduceEqDiff, reduceCtorEq]; rfl) ?_
      refine s_lconst (v := 0) dX12_word_45 (by decide) ?_
      refine s_lstore dX12_word_46 (by decide) (by simp only [sl, sl2, rm, Value.category, reduceIte, Nat.reduceAdd, Nat.reduceEqDiff, reduceCtorEq]; rfl) ?_
      refine s_iconst (v := 0) dX12_word_48 (by decide) ?_
      refine s_istore dX12_word_49 (by decide) (by simp only [sl, sl2, rm, Value.category, reduceIte, Nat.reduceAdd, Nat.reduceEqDiff, reduceCtorEq]; rfl) ?_
      refine ml_word hM hli hL hm2 hj hb0 (by omega) (hq I2 ((frS150 hf1).trans (frS150 hf2))) 32 0 0 (by omega) (fun i hi => ?_)
      rw [show decide (i < 0) = false from decide_eq_false (Nat.not_lt_zero i), Bool.false_and]
      exact (by decide : ∀ i, i < 64 → tbit 0 i = false) i hi
    · intro hz
      rw [t0, tw] at hz
      refine s_if_ne (tgt := 29) dX12_word_22 (by decide) (fun h22 => absurd h22 (fun h => h rfl)) (fun h22 => ?_)
      refine s_ldc2 dX12_word_25 wK_X12_222 ?_
      refine s_lret dX12_word_28 rfl ?_
      rw [if_neg (fun h => by omega)] at hq
      exact hq I1 (frS150 hf1)
  · intro hx
    refine s_if_eq (tgt := 25) dX12_word_6 (by decide) (fun h6 => ?_) (fun h6 => absurd (rfl) h6)
    refine s_ldc2 dX12_word_25 wK_X12_222 ?_
    refine s_lret dX12_word_28 rfl ?_
    rw [if_neg (fun h => hx h.1)] at hq
    exact hq I (frS.refl I)
set_option maxRecDepth 100000 in
set_option maxHeartbeats 1000000 in
theorem ml_exc {G : fG} {x0 : Nat} {l : Launch} {d k n : Nat} {T : fT} {I : fI} {J : fJ} {Q : Option Value → fT → fI → fJ → Prop} {li j : Nat} {z u : Int32} {L : LSt} (hM : MObj T) (hli : li < 6) (hL : LOk L) (hm : ML (I 145) (402 * li) L) (hj : j < L.2.2.2) (hu : 0 ≤ u.toInt ∧ u.toInt ≤ 1) : ∀ (t i lf : Nat), i + t = bl L j → 1 ≤ i → lf < 2147483648 → (hq : Q (some (.int (zI (excV L.1 (bf L j) (bl L j) u.toInt (nthE (isE L.1 (bf L j) (bl L j)) t i lf))))) T I J) → PW G x0 l mX12_exception (d + 4) (ZM G x0 Q) k n 48 [(0, .ref (x0 + 144)), (1, .int (zI li)), (2, .int (zI j)), (3, .int z), (4, .int u), (5, .int (zI (bw L.1 (bf L j) (bl L j)))), (6, .int (zI (bf L j))), (7, .int (zI lf)), (8, .int (zI i))] [] T I J := by
  obtain ⟨o1, o2⟩ := hM.o
  have hnm := hL.nbm
  have hmm := hL.1
  have hb := hL.blk hj
  have hbw := bw_le L.1 (bf L j) (bl L j)
  intro t
  induction t with
  | zero =>
    intro i lf ht hi hlf hq
    refine s_iload dX12_exception_48 rfl ?_
    refine s_aload_n (i := 0) dX12_exception_50 rfl rfl ?_
    refine s_iload_n (i := 1) dX12_exception_51 rfl rfl ?_
    refine s_iload_n (i := 2) dX12_exception_52 rfl rfl ?_
    refine s_cV_II (My := mX12_length) dX12_exception_53 wM_X12_81 cb_yX12_length ci_yX12_length (by assumption) (by assumption) (Nat.le_of_ble_eq_true rfl) (by decide) (s_d (by omega) (m_length (d := 0) hM hli (by omega) ?_))
    rw [hm.2.2.2 j hj]
    refine s_icmp_ge (tgt := 115) dX12_exception_56 (by decide) (fun h56 => ?_) (fun h56 => absurd ((zI_le (by omega) (by omega) (by omega) (by omega)).mpr (by omega)) h56)
    refine s_bipush (v := -2) dX12_exception_115 (by decide) ?_
    refine s_iret dX12_exception_117 rfl ?_
    rw [zm2]
    exact hq
  | succ t ih =>
    intro i lf ht hi hlf hq
    have hgp := hL.gap (bf L j + i) (by omega) (by omega)
    have hge : ((gp L.1 (bf L j + i) : Nat) : Int) = L.1 (bf L j + i) - L.1 (bf L j + i - 1) - 1 := by unfold gp; omega
    have hbz := bz_le hL.gap (i := bf L j + i) (by omega) (by omega)
    have hE : isE L.1 (bf L j) (bl L j) i = decide (bw L.1 (bf L j) (bl L j) < bz L.1 (bf L j + i)) := rfl
    simp only [nthE] at hq
    rw [hE] at hq
    refine s_iload dX12_exception_48 rfl ?_
    refine s_aload_n (i := 0) dX12_exception_50 rfl rfl ?_
    refine s_iload_n (i := 1) dX12_exception_51 rfl rfl ?_
    refine s_iload_n (i := 2) dX12_exception_52 rfl rfl ?_
    refine s_cV_II (My := mX12_length) dX12_exception_53 wM_X12_81 cb_yX12_length ci_yX12_length (by assumption) (by assumption) (Nat.le_of_ble_eq_true rfl) (by decide) (s_d (by omega) (m_length (d := 0) hM hli (by omega) ?_))
    rw [hm.2.2.2 j hj]
    refine s_icmp_ge (tgt := 115) dX12_exception_56 (by decide) (fun h56 => absurd h56 (fun h => by rw [zI_le (by omega) (by omega) (by omega) (by omega)] at h; omega)) (fun h56 => ?_)
    refine s_aload_n (i := 0) dX12_exception_59 rfl rfl ?_
    refine s_iload_n (i := 1) dX12_exception_60 rfl rfl ?_
    refine s_iload dX12_exception_61 rfl ?_
    refine s_iload dX12_exception_63 rfl ?_
    refine s_iadd dX12_exception_65 ?_
    refine s_topi (y := zI ((bf L j + i : Nat) : Int)) (by first | with_reducible rfl | ((try simp only [z0, z1, zm1, zm2, zm3, zm4, zl2, zl3, zl4, zl5, zl6, zl7, zl8, zl9, zl10, zl20, zl28, zl31, zl32, zl33, zl48, zl57, zl64, zl100, zl127, zl200, zl201, zl202, zl402, zl1200, zl2412, zl16884, zI_add, zI_sub, zI_mul, zI_inc, zI_dec]) <;> (congr 1 <;> omega))) ?_
    refine s_cV_II (My := mX12_gap) dX12_exception_66 wM_X12_106 cb_yX12_gap ci_yX12_gap (by assumption) (by assumption) (Nat.le_of_ble_eq_true rfl) (by decide) (s_d (by omega) (m_gap (d := 0) (i := bf L j + i) hM hli hL hm (by omega) (by omega) ?_))
    refine s_cS_I (My := mX12_bitsOf) dX12_exception_69 wM_X12_109 cb_yX12_bitsOf wT_yX12_bitsOf (Nat.le_of_ble_eq_true rfl) (by decide) (s_d (by omega) (m_bits (d := 0) (x := ((gp L.1 (bf L j + i) : Nat) : Int)) (by omega) (by omega) ?_))
    rw [Int.toNat_natCast]
    refine s_topi (y := zI (bz L.1 (bf L j + i))) rfl ?_
    refine s_iload dX12_exception_72 rfl ?_
    refine s_icmp_le (tgt := 109) dX12_exception_74 (by decide) (fun c74 => ?_) (fun c74 => ?_)
    · refine s_iinc dX12_exception_109 rfl (zI_inc _) (by decide) (by simp only [sl, sl2, rm, Value.category, reduceIte, Nat.reduceAdd, Nat.reduceEqDiff, reduceCtorEq]; rfl) ?_
      refine s_goto (tgt := 48) dX12_exception_112 (by decide) ?_
      rw [zI_le (by omega) (by omega) (by omega) (by omega)] at c74
      rw [if_neg (by simp only [decide_eq_true_eq]; omega)] at hq
      exact ih (i + 1) lf (by omega) (by omega) hlf hq
    · rw [zI_le (by omega) (by omega) (by omega) (by omega)] at c74
      rw [if_pos (decide_eq_true (by omega))] at hq
      refine s_iload dX12_exception_77 rfl ?_
      refine s_if_ne (tgt := 106) dX12_exception_79 (by decide) (fun c79 => ?_) (fun c79 => ?_)
      · rw [z0, zI_eq (by omega) (by omega) (by omega) (by omega)] at c79
        rw [if_neg (by omega)] at hq
        refine s_iinc dX12_exception_106 rfl (show zI (lf : Int) + Int32.ofInt (-1) = zI ((lf - 1 : Nat) : Int) from by rw [zI_dec]; congr 1; omega) (by decide) (by simp only [sl, sl2, rm, Value.category, reduceIte, Nat.reduceAdd, Nat.reduceEqDiff, reduceCtorEq]; rfl) ?_
        refine s_iinc dX12_exception_109 rfl (zI_inc _) (by decide) (by simp only [sl, sl2, rm, Value.category, reduceIte, Nat.reduceAdd, Nat.reduceEqDiff, reduceCtorEq]; rfl) ?_
        refine s_goto (tgt := 48) dX12_exception_112 (by decide) ?_
        exact ih (i + 1) (lf - 1) (by omega) (by omega) (by omega) hq
      · rw [z0, zI_eq (by omega) (by omega) (by omega) (by omega)] at c79
        rw [if_pos (by omega)] at hq
        dsimp only [excV] at hq
        refine s_iload dX12_exception_82 rfl ?_
        refine s_if_ne (tgt := 92) dX12_exception_84 (by decide) (fun c84 => ?_) (fun c84 => ?_)
        · have c84' : u.toInt ≠ 0 := fun h => c84 (by rw [t_zI h]; rfl)
          rw [if_neg c84'] at hq
          refine s_aload_n (i := 0) dX12_exception_92 rfl rfl ?_
          refine s_iload_n (i := 1) dX12_exception_93 rfl rfl ?_
          refine s_iload dX12_exception_94 rfl ?_
          refine s_iload dX12_exception_96 rfl ?_
          refine s_iadd dX12_exception_98 ?_
          refine s_topi (y := zI ((bf L j + i : Nat) : Int)) (by first | with_reducible rfl | ((try simp only [z0, z1, zm1, zm2, zm3, zm4, zl2, zl3, zl4, zl5, zl6, zl7, zl8, zl9, zl10, zl20, zl28, zl31, zl32, zl33, zl48, zl57, zl64, zl100, zl127, zl200, zl201, zl202, zl402, zl1200, zl2412, zl16884, zI_add, zI_sub, zI_mul, zI_inc, zI_dec]) <;> (congr 1 <;> omega))) ?_
          refine s_cV_II (My := mX12_gap) dX12_exception_99 wM_X12_106 cb_yX12_gap ci_yX12_gap (by assumption) (by assumption) (Nat.le_of_ble_eq_true rfl) (by decide) (s_d (by omega) (m_gap (d := 0) (i := bf L j + i) hM hli hL hm (by omega) (by omega) ?_))
          refine s_iload dX12_exception_102 rfl ?_
          refine s_ishr dX12_exception_104 ?_
          try refine s_topi (y := zI ((gp L.1 (bf L j + i) / 2 ^ bw L.1 (bf L j) (bl L j) : Nat) : Int)) (by rw [zI_shr (by omega) (by omega) (by omega) (by omega)]; congr 1) ?_
          refine s_iret dX12_exception_105 rfl ?_
          exact hq
        · have c84' : u.toInt = 0 := by rw [c84]; rfl
          rw [if_pos c84'] at hq
          refine s_iload dX12_exception_87 rfl ?_
          refine s_goto (tgt := 105) dX12_exception_89 (by decide) ?_
          try refine s_topi (y := zI ((gp L.1 (bf L j + i) / 2 ^ bw L.1 (bf L j) (bl L j) : Nat) : Int)) (by rw [zI_shr (by omega) (by omega) (by omega) (by omega)]; congr 1) ?_
          refine s_iret dX12_exception_105 rfl ?_
          exact hq
set_option maxRecDepth 100000 in
set_option maxHeartbeats 1000000 in
theorem m_exc {G : fG} {x0 : Nat} {l : Launch} {d k n : Nat} {T : fT} {I : fI} {J : fJ} {Q : Option Value → fT → fI → fJ → Prop} {x y z u : Int32} {S : ASt} (hS : MIs T I S) (hk : SOk S) (hq : ∀ I', frS I I' → Q (some (.int (zI (fExc S x.toInt y.toInt z.toInt u.toInt)))) T I' J) : PW G x0 l mX12_exception (d + 4) (ZM G x0 Q) k n 0 [(0, .ref (x0 + 144)), (1, .int x), (2, .int y), (3, .int z), (4, .int u)] [] T I J := by
  have hM := hS.1
  obtain ⟨o1, o2⟩ := hM.o
  have t0 : ((0 : Int32)).toInt = 0 := by decide
  have t1 : ((1 : Int32)).toInt = 1 := by decide
  unfold fExc at hq
  refine s_aload_n (i := 0) dX12_exception_0 rfl rfl ?_
  refine s_iload_n (i := 1) dX12_exception_1 rfl rfl ?_
  refine s_iload_n (i := 2) dX12_exception_2 rfl rfl ?_
  refine s_cV_II (My := mX12_isBlock) dX12_exception_3 wM_X12_216 cb_yX12_isBlock ci_yX12_isBlock (by assumption) (by assumption) (Nat.le_of_ble_eq_true rfl) (by decide) (s_d (by omega) (m_isBlock (d := 0) hS hk ?_ ?_))
  · rintro li j rfl rfl hli hj
    have hxt : (zI (li : Int)).toInt = li := zI_t (by omega) (by omega)
    have hxn : (zI (li : Int)).toInt.toNat = li := by rw [hxt]; simp
    have hL := hk.1 li hli
    have hm := hS.L hli
    have hnm := hL.nbm
    have hmm := hL.1
    have hyt : (zI (j : Int)).toInt = j := zI_t (by omega) (by omega)
    have hyn : (zI (j : Int)).toInt.toNat = j := by rw [hyt]; simp
    have hb := hL.blk hj
    have hB : isB S (zI (li : Int)).toInt (zI (j : Int)).toInt := ⟨by omega, by rw [hxn]; omega⟩
    simp only [hxn, hyn] at hq
    refine s_if_eq (tgt := 23) dX12_exception_6 (by decide) (fun h6 => absurd h6 (by decide)) (fun h6 => ?_)
    refine s_iload_n (i := 3) dX12_exception_9 rfl rfl ?_
    refine s_if_lt (tgt := 23) dX12_exception_10 (by decide) (fun c10 => ?_) (fun c10 => ?_)
    · refine s_bipush (v := -2) dX12_exception_23 (by decide) ?_
      refine s_iret dX12_exception_25 rfl ?_
      rw [t_lt0] at c10
      rw [if_neg (fun h => by omega)] at hq
      rw [zm2]
      exact hq I (frS.refl I)
    · refine s_iload dX12_exception_13 rfl ?_
      refine s_iconst (v := 0) dX12_exception_15 (by decide) ?_
      refine s_iconst (v := 1) dX12_exception_16 (by decide) ?_
      refine s_cS_III (My := mX12_in) dX12_exception_17 wM_X12_68 cb_yX12_in wT_yX12_in (Nat.le_of_ble_eq_true rfl) (by decide) (s_d (by omega) (m_in (d := 0) ?_ ?_))
      · intro hu
        rw [t0, t1] at hu
        rw [t_lt0] at c10
        rw [if_pos ⟨hB, by omega⟩] at hq
        obtain ⟨kk, hkk⟩ : ∃ kk : Nat, z.toInt = kk := ⟨z.toInt.toNat, by omega⟩
        have hzz := t_zI hkk
        have hzl := t_lt z
        rw [hkk, Int.toNat_natCast] at hq
        refine s_if_ne (tgt := 26) dX12_exception_20 (by decide) (fun h20 => ?_) (fun h20 => absurd h20 (by decide))
        refine s_aload_n (i := 0) dX12_exception_26 rfl rfl ?_
        refine s_iload_n (i := 1) dX12_exception_27 rfl rfl ?_
        refine s_iload_n (i := 2) dX12_exception_28 rfl rfl ?_
        refine s_cV_II (My := mX12_width) dX12_exception_29 wM_X12_122 cb_yX12_width ci_yX12_width (by assumption) (by assumption) (Nat.le_of_ble_eq_true rfl) (by decide) (s_d (by omega) (m_width (d := 0) hM hli hL hm hj (fun I2 hf2 hN2 => ?_)))
        have hm2 : ML (I2 145) (402 * li) (S.1 li) := by rw [hf2 145 (by decide)]; exact hm
        refine s_istore dX12_exception_32 (by decide) (by simp only [sl, sl2, rm, Value.category, reduceIte, Nat.reduceAdd, Nat.reduceEqDiff, reduceCtorEq]; rfl) ?_
        refine s_aload_n (i := 0) dX12_exception_34 rfl rfl ?_
        refine s_iload_n (i := 1) dX12_exception_35 rfl rfl ?_
        refine s_iload_n (i := 2) dX12_exception_36 rfl rfl ?_
        refine s_cV_II (My := mX12_begin) dX12_exception_37 wM_X12_85 cb_yX12_begin ci_yX12_begin (by assumption) (by assumption) (Nat.le_of_ble_eq_true rfl) (by decide) (s_d (by omega) (m_begin (d := 0) hM hli hL hm2 hj ?_))
        refine s_istore dX12_exception_40 (by decide) (by simp only [sl, sl2, rm, Value.category, reduceIte, Nat.reduceAdd, Nat.reduceEqDiff, reduceCtorEq]; rfl) ?_
        refine s_iload_n (i := 3) dX12_exception_42 rfl rfl ?_
        refine s_topi (y := zI (kk : Int)) hzz ?_
        refine s_istore dX12_exception_43 (by decide) (by simp only [sl, sl2, rm, Value.category, reduceIte, Nat.reduceAdd, Nat.reduceEqDiff, reduceCtorEq]; rfl) ?_
        refine s_iconst (v := 1) dX12_exception_45 (by decide) ?_
        refine s_istore dX12_exception_46 (by decide) (by simp only [sl, sl2, rm, Value.category, reduceIte, Nat.reduceAdd, Nat.reduceEqDiff, reduceCtorEq]; rfl) ?_
        exact ml_exc hM hli hL hm2 hj hu (bl (S.1 li) j - 1) 1 kk (by omega) (by omega) (by omega) (hq I2 (frS150 hf2))
      · intro hu
        rw [t0, t1] at hu
        refine s_if_ne (tgt := 26) dX12_exception_20 (by decide) (fun h20 => absurd h20 (fun h => h rfl)) (fun h20 => ?_)
        refine s_bipush (v := -2) dX12_exception_23 (by decide) ?_
        refine s_iret dX12_exception_25 rfl ?_
        rw [if_neg (fun h => by omega)] at hq
        rw [zm2]
        exact hq I (frS.refl I)
  · intro hx
    refine s_if_eq (tgt := 23) dX12_exception_6 (by decide) (fun h6 => ?_) (fun h6 => absurd (rfl) h6)
    refine s_bipush (v := -2) dX12_exception_23 (by decide) ?_
    refine s_iret dX12_exception_25 rfl ?_
    rw [if_neg (fun h => hx h.1)] at hq
    rw [zm2]
    exact hq I (frS.refl I)
