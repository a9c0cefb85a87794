def NeedIs (I : fI) (g : Nat → Int) (f len : Nat) : Prop := ∀ v, v ≤ 20 → I 150 v = zI (need g f len v)
theorem LOk.bz20 {L : LSt} (h : LOk L) {f len : Nat} (hfl : f + len ≤ L.2.1) : ∀ q, q < len - 1 → bz L.1 (f + 1 + q) ≤ 20 := fun q hq => bz_le h.gap (by omega) (by omega)
theorem need_le (g : Nat → Int) (f len v : Nat) : need g f len v ≤ len - 1 := cnt_le _ _
set_option maxRecDepth 100000 in
set_option maxHeartbeats 1000000 in
theorem ml_counts2 {G : fG} {x0 : Nat} {l : Launch} {d k n : Nat} {T : fT} {J : fJ} {Q : Option Value → fT → fI → fJ → Prop} {li : Nat} {L : LSt} (hM : MObj T) (hli : li < 6) (hL : LOk L) {f len : Nat} (hfl : f + len ≤ L.2.1) : ∀ (t c : Nat) (I : fI), 1 ≤ c → (c + t = len ∨ (t = 0 ∧ len ≤ c ∧ c = 1)) → ML (I 145) (402 * li) L → NeedIs I L.1 f c → (∀ I', fr I I' [150] → NeedIs I' L.1 f len → Q none T I' J) → PW G x0 l mX12_counts (d + 2) (ZM G x0 Q) k n 29 [(0, .ref (x0 + 144)), (1, .int (zI li)), (2, .int (zI f)), (3, .int (zI ((f : Int) + len - 1))), (4, .int (zI ((f + c : Nat) : Int)))] [] T I J := by
  obtain ⟨o1, o2⟩ := hM.o
  obtain ⟨r150, b150, k150, n150⟩ := hM.a150
  have hmm := hL.1
  intro t
  induction t with
  | zero =>
    intro c I hc ht hm hN hq
    have hn2 : NeedIs I L.1 f len := fun v hv => by rw [hN v hv]; unfold need; rw [show c - 1 = len - 1 by omega]
    refine s_iload dX12_counts_29 rfl ?_
    refine s_iload_n (i := 3) dX12_counts_31 rfl rfl ?_
    refine s_icmp_gt (tgt := 60) dX12_counts_32 (by decide) (fun h32 => ?_) (fun h32 => absurd ((zI_lt (by omega) (by omega) (by omega) (by omega)).mpr (by omega)) h32)
    refine s_ret dX12_counts_60 rfl ?_
    exact hq I (fr_refl I _) hn2
  | succ t ih =>
    intro c I hc ht hm hN hq
    have hbz : bz L.1 (f + c) ≤ 20 := bz_le hL.gap (by omega) (by omega)
    have hgp := hL.gap (f + c) (by omega) (by omega)
    have hge : ((gp L.1 (f + c) : Nat) : Int) = L.1 (f + c) - L.1 (f + c - 1) - 1 := by unfold gp; omega
    have hnl := need_le L.1 f c (bz L.1 (f + c))
    refine s_iload dX12_counts_29 rfl ?_
    refine s_iload_n (i := 3) dX12_counts_31 rfl rfl ?_
    refine s_icmp_gt (tgt := 60) dX12_counts_32 (by decide) (fun h32 => absurd h32 (fun h => by rw [zI_lt (by omega) (by omega) (by omega) (by omega)] at h; omega)) (fun h32 => ?_)
    refine s_aload_n (i := 0) dX12_counts_35 rfl rfl ?_
    refine s_getR dX12_counts_36 fl_X12_32 (by assumption) (by assumption) (by assumption) ?_
    refine s_aload_n (i := 0) dX12_counts_39 rfl rfl ?_
    refine s_iload_n (i := 1) dX12_counts_40 rfl rfl ?_
    refine s_iload dX12_counts_41 rfl ?_
    refine s_cV_II (My := mX12_gap) dX12_counts_43 wM_X12_106 cb_yX12_gap ci_yX12_gap (by assumption) (by assumption) (Nat.le_of_ble_eq_true rfl) (by decide) (s_d (by omega) (m_gap (d := 0) (i := f + c) hM hli hL hm (by omega) (by omega) ?_))
    refine s_cS_I (My := mX12_bitsOf) dX12_counts_46 wM_X12_109 cb_yX12_bitsOf wT_yX12_bitsOf (Nat.le_of_ble_eq_true rfl) (by decide) (s_d (by omega) (m_bits (d := 0) (x := ((gp L.1 (f + c) : Nat) : Int)) (by omega) (by omega) ?_))
    rw [Int.toNat_natCast]
    refine s_dup2 dX12_counts_49 rfl rfl ?_
    refine s_ildn (j := bz L.1 (f + c)) dX12_counts_50 (by assumption) (by assumption) (by assumption) (rfl) (by omega) (by decide) ?_
    refine s_iconst (v := 1) dX12_counts_51 (by decide) ?_
    refine s_iadd dX12_counts_52 ?_
    refine s_istn (j := bz L.1 (f + c)) dX12_counts_53 (by assumption) (by assumption) (by assumption) (rfl) (by omega) (by decide) ?_
    refine s_iinc dX12_counts_54 rfl (zI_inc _) (by decide) (by simp only [sl, sl2, rm, Value.category, reduceIte, Nat.reduceAdd, Nat.reduceEqDiff, reduceCtorEq]; rfl) ?_
    refine s_goto (tgt := 29) dX12_counts_57 (by decide) ?_
    refine ih (c + 1) _ (by omega) (by omega) (by rw [iu_ne (by omega)]; exact hm) (fun v hv => ?_) (fun I' hf hN' => hq I' (fr_trans (fr_iu (by simp)) hf) hN')
    rw [need_succ L.1 f c v hc]
    by_cases e : bz L.1 (f + c) = v
    · subst e
      rw [iu_at, if_pos rfl, hN _ hbz, z1, zI_add]
      congr 1
    · rw [iu_j (fun h => e h.symm), if_neg e, hN v hv]
      congr 1
set_option maxRecDepth 100000 in
set_option maxHeartbeats 1000000 in
theorem ml_counts1 {G : fG} {x0 : Nat} {l : Launch} {d k n : Nat} {T : fT} {J : fJ} {Q : Option Value → fT → fI → fJ → Prop} {li : Nat} {L : LSt} (hM : MObj T) (hli : li < 6) (hL : LOk L) {f len : Nat} (hfl : f + len ≤ L.2.1) : ∀ (t i : Nat) (I : fI), i + t = 21 → ML (I 145) (402 * li) L → (∀ q, q < i → I 150 q = 0) → (∀ I', fr I I' [150] → NeedIs I' L.1 f len → Q none T I' J) → PW G x0 l mX12_counts (d + 2) (ZM G x0 Q) k n 3 [(0, .ref (x0 + 144)), (1, .int (zI li)), (2, .int (zI f)), (3, .int (zI ((f : Int) + len - 1))), (4, .int (zI (i : Int)))] [] T I J := by
  obtain ⟨o1, o2⟩ := hM.o
  obtain ⟨r150, b150, k150, n150⟩ := hM.a150
  have hmm := hL.1
  intro t
  induction t with
  | zero =>
    intro i I ht hm hN hq
    have hi : i = 21 := by omega
    subst hi
    refine s_iload dX12_counts_3 rfl ?_
    refine s_bipush (v := 20) dX12_counts_5 (by decide) ?_
    refine s_icmp_gt (tgt := 24) dX12_counts_7 (by decide) (fun h7 => ?_) (fun h7 => absurd (by decide) h7)
    refine s_iload_n (i := 2) dX12_counts_24 rfl rfl ?_
    refine s_iconst (v := 1) dX12_counts_25 (by decide) ?_
    refine s_iadd dX12_counts_26 ?_
    refine s_topi (y := zI ((f + 1 : Nat) : Int)) (by first | with_reducible rfl | ((try simp only [z0, z1, zm1, zm2, zm3, zm4, zl2, zl3, zl4, zl5, zl6, zl7, zl8, zl9, zl10, zl20, zl28, zl31, zl32, zl33, zl48, zl57, zl64, zl100, zl127, zl200, zl201, zl202, zl402, zl1200, zl2412, zl16884, zI_add, zI_sub, zI_mul, zI_inc, zI_dec]) <;> (congr 1 <;> omega))) ?_
    refine s_istore dX12_counts_27 (by decide) (by simp only [sl, sl2, rm, Value.category, reduceIte, Nat.reduceAdd, Nat.reduceEqDiff, reduceCtorEq]; rfl) ?_
    refine ml_counts2 hM hli hL hfl (len - 1) 1 I (Nat.le_refl 1) (by omega) hm (fun v hv => ?_) hq
    rw [hN v (by omega)]
    rfl
  | succ t ih =>
    intro i I ht hm hN hq
    refine s_iload dX12_counts_3 rfl ?_
    refine s_bipush (v := 20) dX12_counts_5 (by decide) ?_
    refine s_icmp_gt (tgt := 24) dX12_counts_7 (by decide) (fun h7 => absurd h7 (fun h => by simp only [z0, z1, zm1, zm2, zm3, zm4, zl2, zl3, zl4, zl5, zl6, zl7, zl8, zl9, zl10, zl20, zl28, zl31, zl32, zl33, zl48, zl57, zl64, zl100, zl127, zl200, zl201, zl202, zl402, zl1200, zl2412, zl16884, zI_add, zI_sub, zI_mul, zI_inc, zI_dec] at h; rw [zI_lt (by omega) (by omega) (by omega) (by omega)] at h; omega)) (fun h7 => ?_)
    refine s_aload_n (i := 0) dX12_counts_10 rfl rfl ?_
    refine s_getR dX12_counts_11 fl_X12_32 (by assumption) (by assumption) (by assumption) ?_
    refine s_iload dX12_counts_14 rfl ?_
    refine s_iconst (v := 0) dX12_counts_16 (by decide) ?_
    refine s_istn (j := i) dX12_counts_17 (by assumption) (by assumption) (by assumption) (by first | with_reducible rfl | ((try simp only [z0, z1, zm1, zm2, zm3, zm4, zl2, zl3, zl4, zl5, zl6, zl7, zl8, zl9, zl10, zl20, zl28, zl31, zl32, zl33, zl48, zl57, zl64, zl100, zl127, zl200, zl201, zl202, zl402, zl1200, zl2412, zl16884, zI_add, zI_sub, zI_mul, zI_inc, zI_dec]) <;> (congr 1 <;> omega))) (by omega) (by decide) ?_
    refine s_iinc dX12_counts_18 rfl (zI_inc _) (by decide) (by simp only [sl, sl2, rm, Value.category, reduceIte, Nat.reduceAdd, Nat.reduceEqDiff, reduceCtorEq]; rfl) ?_
    refine s_goto (tgt := 3) dX12_counts_21 (by decide) ?_
    refine ih (i + 1) _ (by omega) (by rw [iu_ne (by omega)]; exact hm) (fun q hq2 => ?_) (fun I' hf hN' => hq I' (fr_trans (fr_iu (by simp)) hf) hN')
    by_cases e : q = i
    · subst e; exact iu_at
    · rw [iu_j e]; exact hN q (by omega)
set_option maxRecDepth 100000 in
set_option maxHeartbeats 1000000 in
theorem m_counts {G : fG} {x0 : Nat} {l : Launch} {d k n : Nat} {T : fT} {I : fI} {J : fJ} {Q : Option Value → fT → fI → fJ → Prop} {li : Nat} {L : LSt} (hM : MObj T) (hli : li < 6) (hL : LOk L) {f len : Nat} (hm : ML (I 145) (402 * li) L) (hfl : f + len ≤ L.2.1) (hq : ∀ I', fr I I' [150] → NeedIs I' L.1 f len → Q none T I' J) : PW G x0 l mX12_counts (d + 2) (ZM G x0 Q) k n 0 [(0, .ref (x0 + 144)), (1, .int (zI li)), (2, .int (zI f)), (3, .int (zI ((f : Int) + len - 1)))] [] T I J := by
  refine s_iconst (v := 0) dX12_counts_0 (by decide) ?_
  refine s_istore dX12_counts_1 (by decide) (by simp only [sl, sl2, rm, Value.category, reduceIte, Nat.reduceAdd, Nat.reduceEqDiff, reduceCtorEq]; rfl) ?_
  exact ml_counts1 hM hli hL hfl 21 0 I (by omega) hm (fun q h => absurd h (Nat.not_lt_zero q)) hq
set_option maxRecDepth 100000 in
set_option maxHeartbeats 1000000 in
theorem ml_above {G : fG} {x0 : Nat} {l : Launch} {d k n : Nat} {T : fT} {I : fI} {J : fJ} {Q : Option Value → fT → fI → fJ → Prop} {g : Nat → Int} {f len v : Nat} (hM : MObj T) (hN : NeedIs I g f len) (hb : ∀ q, q < len - 1 → bz g (f + 1 + q) ≤ 20) (hv : v ≤ 20) (hq : Q (some (.int (zI (abv g f len v)))) T I J) : ∀ (t i : Nat), v + i + t = 20 → PW G x0 l mX12_above d (ZM G x0 Q) k n 6 [(0, .ref (x0 + 144)), (1, .int (zI v)), (2, .int (zI ((abv g f len v : Int) - abv g f len (v + i)))), (3, .int (zI ((v + i + 1 : Nat) : Int)))] [] T I J := by
  obtain ⟨o1, o2⟩ := hM.o
  obtain ⟨r150, b150, k150, n150⟩ := hM.a150
  intro t
  induction t with
  | zero =>
    intro i ht
    have e0 : abv g f len (v + i) = 0 := cnt_zero (fun q h => by have := hb q h; simp only [decide_eq_false_iff_not]; omega)
    rw [e0]
    refine s_iload_n (i := 3) dX12_above_6 rfl rfl ?_
    refine s_bipush (v := 20) dX12_above_7 (by decide) ?_
    refine s_icmp_gt (tgt := 27) dX12_above_9 (by decide) (fun h9 => ?_) (fun h9 => absurd (by simp only [z0, z1, zm1, zm2, zm3, zm4, zl2, zl3, zl4, zl5, zl6, zl7, zl8, zl9, zl10, zl20, zl28, zl31, zl32, zl33, zl48, zl57, zl64, zl100, zl127, zl200, zl201, zl202, zl402, zl1200, zl2412, zl16884, zI_add, zI_sub, zI_mul, zI_inc, zI_dec]; exact (zI_lt (by omega) (by omega) (by omega) (by omega)).mpr (by omega)) h9)
    refine s_iload_n (i := 2) dX12_above_27 rfl rfl ?_
    refine s_topi (y := zI (abv g f len v)) (by first | with_reducible rfl | ((try simp only [z0, z1, zm1, zm2, zm3, zm4, zl2, zl3, zl4, zl5, zl6, zl7, zl8, zl9, zl10, zl20, zl28, zl31, zl32, zl33, zl48, zl57, zl64, zl100, zl127, zl200, zl201, zl202, zl402, zl1200, zl2412, zl16884, zI_add, zI_sub, zI_mul, zI_inc, zI_dec]) <;> (congr 1 <;> omega))) ?_
    refine s_iret dX12_above_28 rfl ?_
    exact hq
  | succ t ih =>
    intro i ht
    have e := abv_succ g f len (v + i)
    refine s_iload_n (i := 3) dX12_above_6 rfl rfl ?_
    refine s_bipush (v := 20) dX12_above_7 (by decide) ?_
    refine s_icmp_gt (tgt := 27) dX12_above_9 (by decide) (fun h9 => absurd h9 (fun h => by simp only [z0, z1, zm1, zm2, zm3, zm4, zl2, zl3, zl4, zl5, zl6, zl7, zl8, zl9, zl10, zl20, zl28, zl31, zl32, zl33, zl48, zl57, zl64, zl100, zl127, zl200, zl201, zl202, zl402, zl1200, zl2412, zl16884, zI_add, zI_sub, zI_mul, zI_inc, zI_dec] at h; rw [zI_lt (by omega) (by omega) (by omega) (by omega)] at h; omega)) (fun h9 => ?_)
    refine s_iload_n (i := 2) dX12_above_12 rfl rfl ?_
    refine s_aload_n (i := 0) dX12_above_13 rfl rfl ?_
    refine s_getR dX12_above_14 fl_X12_32 (by assumption) (by assumption) (by assumption) ?_
    refine s_iload_n (i := 3) dX12_above_17 rfl rfl ?_
    refine s_ildn (j := v + i + 1) dX12_above_18 (by assumption) (by assumption) (by assumption) (by first | with_reducible rfl | ((try simp only [z0, z1, zm1, zm2, zm3, zm4, zl2, zl3, zl4, zl5, zl6, zl7, zl8, zl9, zl10, zl20, zl28, zl31, zl32, zl33, zl48, zl57, zl64, zl100, zl127, zl200, zl201, zl202, zl402, zl1200, zl2412, zl16884, zI_add, zI_sub, zI_mul, zI_inc, zI_dec]) <;> (congr 1 <;> omega))) (by omega) (by decide) ?_
    rw [hN (v + i + 1) (by omega)]
    refine s_iadd dX12_above_19 ?_
    refine s_topi (y := zI ((abv g f len v : Int) - abv g f len (v + (i + 1)))) (by rw [zI_add, e]; congr 1; rw [show v + (i + 1) = v + i + 1 by omega]; omega) ?_
    refine s_istore_n (i := 2) dX12_above_20 rfl (by decide) (by simp only [sl, sl2, rm, Value.category, reduceIte, Nat.reduceAdd, Nat.reduceEqDiff, reduceCtorEq]; rfl) ?_
    refine s_iinc dX12_above_21 rfl (zI_inc _) (by decide) (by simp only [sl, sl2, rm, Value.category, reduceIte, Nat.reduceAdd, Nat.reduceEqDiff, reduceCtorEq]; rfl) ?_
    refine s_goto (tgt := 6) dX12_above_24 (by decide) ?_
    exact ih (i + 1) (by omega)
set_option maxRecDepth 100000 in
set_option maxHeartbeats 1000000 in
theorem m_above {G : fG} {x0 : Nat} {l : Launch} {d k n : Nat} {T : fT} {I : fI} {J : fJ} {Q : Option Value → fT → fI → fJ → Prop} {g : Nat → Int} {f len v : Nat} (hM : MObj T) (hN : NeedIs I g f len) (hb : ∀ q, q < len - 1 → bz g (f + 1 + q) ≤ 20) (hv : v ≤ 20) (hq : Q (some (.int (zI (abv g f len v)))) T I J) : PW G x0 l mX12_above d (ZM G x0 Q) k n 0 [(0, .ref (x0 + 144)), (1, .int (zI v))] [] T I J := by
  have h := ml_above (G := G) (x0 := x0) (l := l) (d := d) (k := k) (n := n) hM hN hb hv hq (20 - v) 0 (by omega)
  have e0 : ((abv g f len v : Nat) : Int) - abv g f len (v + 0) = 0 := by rw [Nat.add_zero]; omega
  rw [e0] at h
  refine s_iconst (v := 0) dX12_above_0 (by decide) ?_
  refine s_istore_n (i := 2) dX12_above_1 rfl (by decide) (by simp only [sl, sl2, rm, Value.category, reduceIte, Nat.reduceAdd, Nat.reduceEqDiff, reduceCtorEq]; rfl) ?_
  refine s_iload_n (i := 1) dX12_above_2 rfl rfl ?_
  refine s_iconst (v := 1) dX12_above_3 (by decide) ?_
  refine s_iadd dX12_above_4 ?_
  refine s_topi (y := zI ((v + 1 : Nat) : Int)) (by first | with_reducible rfl | ((try simp only [z0, z1, zm1, zm2, zm3, zm4, zl2, zl3, zl4, zl5, zl6, zl7, zl8, zl9, zl10, zl20, zl28, zl31, zl32, zl33, zl48, zl57, zl64, zl100, zl127, zl200, zl201, zl202, zl402, zl1200, zl2412, zl16884, zI_add, zI_sub, zI_mul, zI_inc, zI_dec]) <;> (congr 1 <;> omega))) ?_
  refine s_istore_n (i := 3) dX12_above_5 rfl (by decide) (by simp only [sl, sl2, rm, Value.category, reduceIte, Nat.reduceAdd, Nat.reduceEqDiff, reduceCtorEq]; rfl) ?_
  exact h
set_option maxRecDepth 100000 in
set_option maxHeartbeats 1000000 in
theorem m_costOf {G : fG} {x0 : Nat} {l : Launch} {d k n : Nat} {T : fT} {I : fI} {J : fJ} {Q : Option Value → fT → fI → fJ → Prop} {g : Nat → Int} {f len : Nat} (hM : MObj T) (hN : NeedIs I g f len) (hb : ∀ q, q < len - 1 → bz g (f + 1 + q) ≤ 20) {v : Nat} (hv : v ≤ 20) (hq : Q (some (.int (zI (csw g f len v)))) T I J) : PW G x0 l mX12_costOf (d + 1) (ZM G x0 Q) k n 0 [(0, .ref (x0 + 144)), (1, .int (zI len)), (2, .int (zI v))] [] T I J := by
  obtain ⟨o1, o2⟩ := hM.o
  refine s_bipush (v := 32) dX12_costOf_0 (by decide) ?_
  refine s_iload_n (i := 2) dX12_costOf_2 rfl rfl ?_
  refine s_iload_n (i := 1) dX12_costOf_3 rfl rfl ?_
  refine s_iconst (v := 1) dX12_costOf_4 (by decide) ?_
  refine s_isub dX12_costOf_5 ?_
  refine s_imul dX12_costOf_6 ?_
  refine s_iadd dX12_costOf_7 ?_
  refine s_bipush (v := 28) dX12_costOf_8 (by decide) ?_
  refine s_aload_n (i := 0) dX12_costOf_10 rfl rfl ?_
  refine s_iload_n (i := 2) dX12_costOf_11 rfl rfl ?_
  refine s_cV_I (My := mX12_above) dX12_costOf_12 wM_X12_112 cb_yX12_above ci_yX12_above (by assumption) (by assumption) (Nat.le_of_ble_eq_true rfl) (by decide) (s_d (by omega) (m_above (d := 0) hM hN hb hv ?_))
  refine s_imul dX12_costOf_15 ?_
  refine s_iadd dX12_costOf_16 ?_
  refine s_topi (y := zI (csw g f len v)) (by unfold csw; simp only [z0, z1, zm1, zm2, zm3, zm4, zl2, zl3, zl4, zl5, zl6, zl7, zl8, zl9, zl10, zl20, zl28, zl31, zl32, zl33, zl48, zl57, zl64, zl100, zl127, zl200, zl201, zl202, zl402, zl1200, zl2412, zl16884, zI_add, zI_sub, zI_mul, zI_inc, zI_dec]) ?_
  refine s_iret dX12_costOf_17 rfl ?_
  exact hq
set_option maxRecDepth 100000 in
set_option maxHeartbeats 1000000 in
theorem ml_best {G : fG} {x0 : Nat} {l : Launch} {d k n : Nat} {T : fT} {I : fI} {J : fJ} {Q : Option Value → fT → fI → fJ → Prop} {g : Nat → Int} {f len : Nat} (hM : MObj T) (hN : NeedIs I g f len) (hb : ∀ q, q < len - 1 → bz g (f + 1 + q) ≤ 20) (hl : 1 ≤ len) (hl2 : len ≤ 1000) (hq : Q (some (.int (zI (bw g f len)))) T I J) : ∀ (t i : Nat), i + t = 20 → PW G x0 l mX12_best (d + 1) (ZM G x0 Q) k n 7 [(0, .ref (x0 + 144)), (1, .int (zI len)), (2, .int (zI (bwr g f len i))), (3, .int (zI (csw g f len (bwr g f len i) - 32))), (4, .int (zI ((i + 1 : Nat) : Int)))] [] T I J := by
  obtain ⟨o1, o2⟩ := hM.o
  intro t
  induction t with
  | zero =>
    intro i ht
    have hi : i = 20 := by omega
    subst hi
    refine s_iload dX12_best_7 rfl ?_
    refine s_bipush (v := 20) dX12_best_9 (by decide) ?_
    refine s_icmp_gt (tgt := 80) dX12_best_11 (by decide) (fun h11 => ?_) (fun h11 => absurd (by decide) h11)
    refine s_iload_n (i := 2) dX12_best_80 rfl rfl ?_
    refine s_iret dX12_best_81 rfl ?_
    exact hq
  | succ t ih =>
    intro i ht
    have hc1 := csw_bd (g := g) (f := f) hl hl2 (w := i + 1) (by omega)
    have hc2 := csw_bd (g := g) (f := f) hl hl2 (w := bwr g f len i) (by have := bwr_le g f len i; omega)
    have hih := ih (i + 1) (by omega)
    simp only [bwr] at hih
    refine s_iload dX12_best_7 rfl ?_
    refine s_bipush (v := 20) dX12_best_9 (by decide) ?_
    refine s_icmp_gt (tgt := 80) dX12_best_11 (by decide) (fun h11 => absurd h11 (fun h => by simp only [z0, z1, zm1, zm2, zm3, zm4, zl2, zl3, zl4, zl5, zl6, zl7, zl8, zl9, zl10, zl20, zl28, zl31, zl32, zl33, zl48, zl57, zl64, zl100, zl127, zl200, zl201, zl202, zl402, zl1200, zl2412, zl16884, zI_add, zI_sub, zI_mul, zI_inc, zI_dec] at h; rw [zI_lt (by omega) (by omega) (by omega) (by omega)] at h; omega)) (fun h11 => ?_)
    refine s_iload dX12_best_14 rfl ?_
    refine s_iload_n (i := 1) dX12_best_16 rfl rfl ?_
    refine s_iconst (v := 1) dX12_best_17 (by decide) ?_
    refine s_isub dX12_best_18 ?_
    refine s_imul dX12_best_19 ?_
    refine s_bipush (v := 28) dX12_best_20 (by decide) ?_
    refine s_aload_n (i := 0) dX12_best_22 rfl rfl ?_
    refine s_iload dX12_best_23 rfl ?_
    refine s_cV_I (My := mX12_above) dX12_best_25 wM_X12_112 cb_yX12_above ci_yX12_above (by assumption) (by assumption) (Nat.le_of_ble_eq_true rfl) (by decide) (s_d (by omega) (m_above (d := 0) (v := i + 1) hM hN hb (by omega) ?_))
    refine s_imul dX12_best_28 ?_
    refine s_iadd dX12_best_29 ?_
    refine s_topi (y := zI (csw g f len (i + 1) - 32)) (by unfold csw; simp only [z0, z1, zm1, zm2, zm3, zm4, zl2, zl3, zl4, zl5, zl6, zl7, zl8, zl9, zl10, zl20, zl28, zl31, zl32, zl33, zl48, zl57, zl64, zl100, zl127, zl200, zl201, zl202, zl402, zl1200, zl2412, zl16884, zI_add, zI_sub, zI_mul, zI_inc, zI_dec]; congr 1; omega) ?_
    refine s_istore dX12_best_30 (by decide) (by simp only [sl, sl2, rm, Value.category, reduceIte, Nat.reduceAdd, Nat.reduceEqDiff, reduceCtorEq]; rfl) ?_
    refine s_iload dX12_best_32 rfl ?_
    refine s_if_eq (tgt := 43) dX12_best_34 (by decide) (fun h34 => absurd h34 (fun h => by rw [z0, zI_eq (by omega) (by omega) (by omega) (by omega)] at h; omega)) (fun h34 => ?_)
    refine s_iload dX12_best_37 rfl ?_
    refine s_iload_n (i := 3) dX12_best_39 rfl rfl ?_
    refine s_icmp_ge (tgt := 47) dX12_best_40 (by decide) (fun c40 => ?_) (fun c40 => ?_)
    · refine s_iconst (v := 0) dX12_best_47 (by decide) ?_
      refine s_istore dX12_best_48 (by decide) (by simp only [sl, sl2, rm, Value.category, reduceIte, Nat.reduceAdd, Nat.reduceEqDiff, reduceCtorEq]; rfl) ?_
      rw [zI_le (by omega) (by omega) (by omega) (by omega)] at c40
      rw [if_neg (by omega)] at hih
      refine s_iload dX12_best_50 rfl ?_
      refine s_if_eq (tgt := 60) dX12_best_52 (by decide) (fun h52 => ?_) (fun h52 => absurd (rfl) h52)
      refine s_iload_n (i := 2) dX12_best_60 rfl rfl ?_
      refine s_istore_n (i := 2) dX12_best_61 rfl (by decide) (by simp only [sl, sl2, rm, Value.category, reduceIte, Nat.reduceAdd, Nat.reduceEqDiff, reduceCtorEq]; rfl) ?_
      refine s_iload dX12_best_62 rfl ?_
      refine s_if_eq (tgt := 72) dX12_best_64 (by decide) (fun h64 => ?_) (fun h64 => absurd (rfl) h64)
      refine s_iload_n (i := 3) dX12_best_72 rfl rfl ?_
      refine s_istore_n (i := 3) dX12_best_73 rfl (by decide) (by simp only [sl, sl2, rm, Value.category, reduceIte, Nat.reduceAdd, Nat.reduceEqDiff, reduceCtorEq]; rfl) ?_
      refine s_iinc dX12_best_74 rfl (zI_inc _) (by decide) (by simp only [sl, sl2, rm, Value.category, reduceIte, Nat.reduceAdd, Nat.reduceEqDiff, reduceCtorEq]; rfl) ?_
      refine s_goto (tgt := 7) dX12_best_77 (by decide) ?_
      refine s_lv (lv' := [(0, .ref (x0 + 144)), (1, .int (zI len)), (2, .int _), (3, .int _), (4, .int _)]) ⟨rfl, rfl, rfl, rfl, rfl, trivial⟩ ?_
      exact hih
    · refine s_iconst (v := 1) dX12_best_43 (by decide) ?_
      refine s_goto (tgt := 48) dX12_best_44 (by decide) ?_
      refine s_istore dX12_best_48 (by decide) (by simp only [sl, sl2, rm, Value.category, reduceIte, Nat.reduceAdd, Nat.reduceEqDiff, reduceCtorEq]; rfl) ?_
      rw [zI_le (by omega) (by omega) (by omega) (by omega)] at c40
      rw [if_pos (by omega)] at hih
      refine s_iload dX12_best_50 rfl ?_
      refine s_if_eq (tgt := 60) dX12_best_52 (by decide) (fun h52 => absurd h52 (by decide)) (fun h52 => ?_)
      refine s_iload dX12_best_55 rfl ?_
      refine s_goto (tgt := 61) dX12_best_57 (by decide) ?_
      refine s_istore_n (i := 2) dX12_best_61 rfl (by decide) (by simp only [sl, sl2, rm, Value.category, reduceIte, Nat.reduceAdd, Nat.reduceEqDiff, reduceCtorEq]; rfl) ?_
      refine s_iload dX12_best_62 rfl ?_
      refine s_if_eq (tgt := 72) dX12_best_64 (by decide) (fun h64 => absurd h64 (by decide)) (fun h64 => ?_)
      refine s_iload dX12_best_67 rfl ?_
      refine s_goto (tgt := 73) dX12_best_69 (by decide) ?_
      refine s_istore_n (i := 3) dX12_best_73 rfl (by decide) (by simp only [sl, sl2, rm, Value.category, reduceIte, Nat.reduceAdd, Nat.reduceEqDiff, reduceCtorEq]; rfl) ?_
      refine s_iinc dX12_best_74 rfl (zI_inc _) (by decide) (by simp only [sl, sl2, rm, Value.category, reduceIte, Nat.reduceAdd, Nat.reduceEqDiff, reduceCtorEq]; rfl) ?_
      refine s_goto (tgt := 7) dX12_best_77 (by decide) ?_
      refine s_lv (lv' := [(0, .ref (x0 + 144)), (1, .int (zI len)), (2, .int _), (3, .int _), (4, .int _)]) ⟨rfl, rfl, rfl, rfl, rfl, trivial⟩ ?_
      exact hih
set_option maxRecDepth 100000 in
set_option maxHeartbeats 1000000 in
theorem m_best {G : fG} {x0 : Nat} {l : Launch} {d k n : Nat} {T : fT} {I : fI} {J : fJ} {Q : Option Value → fT → fI → fJ → Prop} {g : Nat → Int} {f len : Nat} (hM : MObj T) (hN : NeedIs I g f len) (hb : ∀ q, q < len - 1 → bz g (f + 1 + q) ≤ 20) (hl : 1 ≤ len) (hl2 : len ≤ 1000) (hq : Q (some (.int (zI (bw g f len)))) T I J) : PW G x0 l mX12_best (d + 1) (ZM G x0 Q) k n 0 [(0, .ref (x0 + 144)), (1, .int (zI len))] [] T I J := by
  obtain ⟨o1, o2⟩ := hM.o
  refine s_iconst (v := 0) dX12_best_0 (by decide) ?_
  refine s_istore_n (i := 2) dX12_best_1 rfl (by decide) (by simp only [sl, sl2, rm, Value.category, reduceIte, Nat.reduceAdd, Nat.reduceEqDiff, reduceCtorEq]; rfl) ?_
  refine s_iconst (v := 0) dX12_best_2 (by decide) ?_
  refine s_istore_n (i := 3) dX12_best_3 rfl (by decide) (by simp only [sl, sl2, rm, Value.category, reduceIte, Nat.reduceAdd, Nat.reduceEqDiff, reduceCtorEq]; rfl) ?_
  refine s_iconst (v := 0) dX12_best_4 (by decide) ?_
  refine s_istore dX12_best_5 (by decide) (by simp only [sl, sl2, rm, Value.category, reduceIte, Nat.reduceAdd, Nat.reduceEqDiff, reduceCtorEq]; rfl) ?_
  refine s_iload dX12_best_7 rfl ?_
  refine s_bipush (v := 20) dX12_best_9 (by decide) ?_
  refine s_icmp_gt (tgt := 80) dX12_best_11 (by decide) (fun h11 => absurd h11 (by decide)) (fun h11 => ?_)
  refine s_iload dX12_best_14 rfl ?_
  refine s_iload_n (i := 1) dX12_best_16 rfl rfl ?_
  refine s_iconst (v := 1) dX12_best_17 (by decide) ?_
  refine s_isub dX12_best_18 ?_
  refine s_imul dX12_best_19 ?_
  refine s_bipush (v := 28) dX12_best_20 (by decide) ?_
  refine s_aload_n (i := 0) dX12_best_22 rfl rfl ?_
  refine s_iload dX12_best_23 rfl ?_
  refine s_cV_I (My := mX12_above) dX12_best_25 wM_X12_112 cb_yX12_above ci_yX12_above (by assumption) (by assumption) (Nat.le_of_ble_eq_true rfl) (by decide) (s_d (by omega) (m_above (d := 0) (v := 0) hM hN hb (by omega) ?_))
  refine s_imul dX12_best_28 ?_
  refine s_iadd dX12_best_29 ?_
  refine s_topi (y := zI (csw g f len 0 - 32)) (by unfold csw; simp only [z0, z1, zm1, zm2, zm3, zm4, zl2, zl3, zl4, zl5, zl6, zl7, zl8, zl9, zl10, zl20, zl28, zl31, zl32, zl33, zl48, zl57, zl64, zl100, zl127, zl200, zl201, zl202, zl402, zl1200, zl2412, zl16884, zI_add, zI_sub, zI_mul, zI_inc, zI_dec]; congr 1; omega) ?_
  refine s_istore dX12_best_30 (by decide) (by simp only [sl, sl2, rm, Value.category, reduceIte, Nat.reduceAdd, Nat.reduceEqDiff, reduceCtorEq]; rfl) ?_
  refine s_iload dX12_best_32 rfl ?_
  refine s_if_eq (tgt := 43) dX12_best_34 (by decide) (fun h34 => ?_) (fun h34 => absurd (rfl) h34)
  refine s_iconst (v := 1) dX12_best_43 (by decide) ?_
  refine s_goto (tgt := 48) dX12_best_44 (by decide) ?_
  refine s_istore dX12_best_48 (by decide) (by simp only [sl, sl2, rm, Value.category, reduceIte, Nat.reduceAdd, Nat.reduceEqDiff, reduceCtorEq]; rfl) ?_
  refine s_iload dX12_best_50 rfl ?_
  refine s_if_eq (tgt := 60) dX12_best_52 (by decide) (fun h52 => absurd h52 (by decide)) (fun h52 => ?_)
  refine s_iload dX12_best_55 rfl ?_
  refine s_goto (tgt := 61) dX12_best_57 (by decide) ?_
  refine s_istore_n (i := 2) dX12_best_61 rfl (by decide) (by simp only [sl, sl2, rm, Value.category, reduceIte, Nat.reduceAdd, Nat.reduceEqDiff, reduceCtorEq]; rfl) ?_
  refine s_iload dX12_best_62 rfl ?_
  refine s_if_eq (tgt := 72) dX12_best_64 (by decide) (fun h64 => absurd h64 (by decide)) (fun h64 => ?_)
  refine s_iload dX12_best_67 rfl ?_
  refine s_goto (tgt := 73) dX12_best_69 (by decide) ?_
  refine s_istore_n (i := 3) dX12_best_73 rfl (by decide) (by simp only [sl, sl2, rm, Value.category, reduceIte, Nat.reduceAdd, Nat.reduceEqDiff, reduceCtorEq]; rfl) ?_
  refine s_iinc dX12_best_74 rfl (rfl) (by decide) (by simp only [sl, sl2, rm, Value.category, reduceIte, Nat.reduceAdd, Nat.reduceEqDiff, reduceCtorEq]; rfl) ?_
  refine s_goto (tgt := 7) dX12_best_77 (by decide) ?_
  refine s_lv (lv' := [(0, .ref (x0 + 144)), (1, .int (zI len)), (2, .int _), (3, .int _), (4, .int _)]) ⟨rfl, rfl, rfl, rfl, rfl, trivial⟩ ?_
  exact ml_best hM hN hb hl hl2 hq 20 0 (by omega)
set_option maxRecDepth 100000 in
set_option maxHeartbeats 1000000 in
theorem m_width {G : fG} {x0 : Nat} {l : Launch} {d k n : Nat} {T : fT} {I : fI} {J : fJ} {Q : Option Value → fT → fI → fJ → Prop} {li : Nat} {L : LSt} (hM : MObj T) (hli : li < 6) (hL : LOk L) (hm : ML (I 145) (402 * li) L) {j : Nat} (hj : j < L.2.2.2) (hq : ∀ I', fr I I' [150] → NeedIs I' L.1 (bf L j) (bl L j) → Q (some (.int (zI (bw L.1 (bf L j) (bl L j))))) T I' J) : PW G x0 l mX12_width (d + 3) (ZM G x0 Q) k n 0 [(0, .ref (x0 + 144)), (1, .int (zI li)), (2, .int (zI j))] [] T I J := by
  obtain ⟨o1, o2⟩ := hM.o
  have hnm := hL.nbm
  have hmm := hL.1
  have hb := hL.blk hj
  have h20 := hL.bz20 (f := bf L j) (len := bl L j) hb.2.2.2.2.2
  refine s_aload_n (i := 0) dX12_width_0 rfl rfl ?_
  refine s_iload_n (i := 1) dX12_width_1 rfl rfl ?_
  refine s_iload_n (i := 2) dX12_width_2 rfl rfl ?_
  refine s_cV_II (My := mX12_begin) dX12_width_3 wM_X12_85 cb_yX12_begin ci_yX12_begin (by assumption) (by assumption) (Nat.le_of_ble_eq_true rfl) (by decide) (s_d (by omega) (m_begin (d := 0) hM hli hL hm hj ?_))
  refine s_istore_n (i := 3) dX12_width_6 rfl (by decide) (by simp only [sl, sl2, rm, Value.category, reduceIte, Nat.reduceAdd, Nat.reduceEqDiff, reduceCtorEq]; rfl) ?_
  refine s_aload_n (i := 0) dX12_width_7 rfl rfl ?_
  refine s_iload_n (i := 1) dX12_width_8 rfl rfl ?_
  refine s_iload_n (i := 3) dX12_width_9 rfl rfl ?_
  refine s_iload_n (i := 3) dX12_width_10 rfl rfl ?_
  refine s_aload_n (i := 0) dX12_width_11 rfl rfl ?_
  refine s_iload_n (i := 1) dX12_width_12 rfl rfl ?_
  refine s_iload_n (i := 2) dX12_width_13 rfl rfl ?_
  refine s_cV_II (My := mX12_length) dX12_width_14 wM_X12_81 cb_yX12_length ci_yX12_length (by assumption) (by assumption) (Nat.le_of_ble_eq_true rfl) (by decide) (s_d (by omega) (m_length (d := 0) hM hli (by omega) ?_))
  rw [hm.2.2.2 j hj]
  refine s_iadd dX12_width_17 ?_
  refine s_iconst (v := 1) dX12_width_18 (by decide) ?_
  refine s_isub dX12_width_19 ?_
  refine s_topi (y := zI ((bf L j : Int) + bl L j - 1)) (by first | with_reducible rfl | ((try simp only [z0, z1, zm1, zm2, zm3, zm4, zl2, zl3, zl4, zl5, zl6, zl7, zl8, zl9, zl10, zl20, zl28, zl31, zl32, zl33, zl48, zl57, zl64, zl100, zl127, zl200, zl201, zl202, zl402, zl1200, zl2412, zl16884, zI_add, zI_sub, zI_mul, zI_inc, zI_dec]) <;> (congr 1 <;> omega))) ?_
  refine s_cV_III (My := mX12_counts) dX12_width_20 wM_X12_115 cb_yX12_counts ci_yX12_counts (by assumption) (by assumption) (Nat.le_of_ble_eq_true rfl) (by decide) (s_d (by omega) (m_counts (d := 0) hM hli hL hm hb.2.2.2.2.2 (fun I1 hf1 hN1 => ?_)))
  have hm1 : ML (I1 145) (402 * li) L := by rw [hf1 145 (by decide)]; exact hm
  refine s_aload_n (i := 0) dX12_width_23 rfl rfl ?_
  refine s_aload_n (i := 0) dX12_width_24 rfl rfl ?_
  refine s_iload_n (i := 1) dX12_width_25 rfl rfl ?_
  refine s_iload_n (i := 2) dX12_width_26 rfl rfl ?_
  refine s_cV_II (My := mX12_length) dX12_width_27 wM_X12_81 cb_yX12_length ci_yX12_length (by assumption) (by assumption) (Nat.le_of_ble_eq_true rfl) (by decide) (s_d (by omega) (m_length (d := 0) hM hli (by omega) ?_))
  rw [hm1.2.2.2 j hj]
  refine s_cV_I (My := mX12_best) dX12_width_30 wM_X12_119 cb_yX12_best ci_yX12_best (by assumption) (by assumption) (Nat.le_of_ble_eq_true rfl) (by decide) (s_d (by omega) (m_best (d := 0) hM hN1 h20 hb.2.2.2.1 (by omega) ?_))
  refine s_iret dX12_width_33 rfl ?_
  exact hq I1 hf1 hN1
set_option maxRecDepth 100000 in
set_option maxHeartbeats 1000000 in
theorem m_cost {G : fG} {x0 : Nat} {l : Launch} {d k n : Nat} {T : fT} {I : fI} {J : fJ} {Q : Option Value → fT → fI → fJ → Prop} {li : Nat} {L : LSt} (hM : MObj T) (hli : li < 6) (hL : LOk L) (hm : ML (I 145) (402 * li) L) {j : Nat} (hj : j < L.2.2.2) (hq : ∀ I', fr I I' [150] → NeedIs I' L.1 (bf L j) (bl L j) → Q (some (.int (zI (bcost L.1 (bf L j) (bl L j))))) T I' J) : PW G x0 l mX12_cost (d + 4) (ZM G x0 Q) k n 0 [(0, .ref (x0 + 144)), (1, .int (zI li)), (2, .int (zI j))] [] T I J := by
  obtain ⟨o1, o2⟩ := hM.o
  have hnm := hL.nbm
  have hmm := hL.1
  have hb := hL.blk hj
  have h20 := hL.bz20 (f := bf L j) (len := bl L j) hb.2.2.2.2.2
  refine s_aload_n (i := 0) dX12_cost_0 rfl rfl ?_
  refine s_iload_n (i := 1) dX12_cost_1 rfl rfl ?_
  refine s_iload_n (i := 2) dX12_cost_2 rfl rfl ?_
  refine s_cV_II (My := mX12_width) dX12_cost_3 wM_X12_122 cb_yX12_width ci_yX12_width (by assumption) (by assumption) (Nat.le_of_ble_eq_true rfl) (by decide) (s_d (by omega) (m_width (d := 0) hM hli hL hm hj (fun I1 hf1 hN1 => ?_)))
  have hm1 : ML (I1 145) (402 * li) L := by rw [hf1 145 (by decide)]; exact hm
  refine s_istore_n (i := 3) dX12_cost_6 rfl (by decide) (by simp only [sl, sl2, rm, Value.category, reduceIte, Nat.reduceAdd, Nat.reduceEqDiff, reduceCtorEq]; rfl) ?_
  refine s_aload_n (i := 0) dX12_cost_7 rfl rfl ?_
  refine s_aload_n (i := 0) dX12_cost_8 rfl rfl ?_
  refine s_iload_n (i := 1) dX12_cost_9 rfl rfl ?_
  refine s_iload_n (i := 2) dX12_cost_10 rfl rfl ?_
  refine s_cV_II (My := mX12_length) dX12_cost_11 wM_X12_81 cb_yX12_length ci_yX12_length (by assumption) (by assumption) (Nat.le_of_ble_eq_true rfl) (by decide) (s_d (by omega) (m_length (d := 0) hM hli (by omega) ?_))
  rw [hm1.2.2.2 j hj]
  refine s_iload_n (i := 3) dX12_cost_14 rfl rfl ?_
  refine s_cV_II (My := mX12_costOf) dX12_cost_15 wM_X12_125 cb_yX12_costOf ci_yX12_costOf (by assumption) (by assumption) (Nat.le_of_ble_eq_true rfl) (by decide) (s_d (by omega) (m_costOf (d := 0) hM hN1 h20 (bw_le _ _ _) ?_))
  refine s_iret dX12_cost_18 rfl ?_
  exact hq I1 hf1 hN1
set_option maxRecDepth 100000 in
set_option maxHeartbeats 1000000 in
theorem m_exceptions {G : fG} {x0 : Nat} {l : Launch} {d k n : Nat} {T : fT} {I : fI} {J : fJ} {Q : Option Value → fT → fI → fJ → Prop} {li : Nat} {L : LSt} (hM : MObj T) (hli : li < 6) (hL : LOk L) (hm : ML (I 145) (402 * li) L) {j : Nat} (hj : j < L.2.2.2) (hq : ∀ I', fr I I' [150] → NeedIs I' L.1 (bf L j) (bl L j) → Q (some (.int (zI (bexc L.1 (bf L j) (bl L j))))) T I' J) : PW G x0 l mX12_exceptions (d + 4) (ZM G x0 Q) k n 0 [(0, .ref (x0 + 144)), (1, .int (zI li)), (2, .int (zI j))] [] T I J := by
  obtain ⟨o1, o2⟩ := hM.o
  have hnm := hL.nbm
  have hmm := hL.1
  have hb := hL.blk hj
  have h20 := hL.bz20 (f := bf L j) (len := bl L j) hb.2.2.2.2.2
  refine s_aload_n (i := 0) dX12_exceptions_0 rfl rfl ?_
  refine s_iload_n (i := 1) dX12_exceptions_1 rfl rfl ?_
  refine s_iload_n (i := 2) dX12_exceptions_2 rfl rfl ?_
  refine s_cV_II (My := mX12_width) dX12_exceptions_3 wM_X12_122 cb_yX12_width ci_yX12_width (by assumption) (by assumption) (Nat.le_of_ble_eq_true rfl) (by decide) (s_d (by omega) (m_width (d := 0) hM hli hL hm hj (fun I1 hf1 hN1 => ?_)))
  have hm1 : ML (I1 145) (402 * li) L := by rw [hf1 145 (by decide)]; exact hm
  refine s_istore_n (i := 3) dX12_exceptions_6 rfl (by decide) (by simp only [sl, sl2, rm, Value.category, reduceIte, Nat.reduceAdd, Nat.reduceEqDiff, reduceCtorEq]; rfl) ?_
  refine s_aload_n (i := 0) dX12_exceptions_7 rfl rfl ?_
  refine s_iload_n (i := 3) dX12_exceptions_8 rfl rfl ?_
  refine s_cV_I (My := mX12_above) dX12_exceptions_9 wM_X12_112 cb_yX12_above ci_yX12_above (by assumption) (by assumption) (Nat.le_of_ble_eq_true rfl) (by decide) (s_d (by omega) (m_above (d := 0) hM hN1 h20 (bw_le _ _ _) ?_))
  refine s_iret dX12_exceptions_12 rfl ?_
  exact hq I1 hf1 hN1
set_option maxRecDepth 100000 in
set_option maxHeartbeats 1000000 in
theorem m_words {G : fG} {x0 : Nat} {l : Launch} {d k n : Nat} {T : fT} {I : fI} {J : fJ} {Q : Option Value → fT → fI → fJ → Prop} {li : Nat} {L : LSt} (hM : MObj T) (hli : li < 6) (hL : LOk L) (hm : ML (I 145) (402 * li) L) {j : Nat} (hj : j < L.2.2.2) (hq : ∀ I', fr I I' [150] → NeedIs I' L.1 (bf L j) (bl L j) → Q (some (.int (zI (wordsN L.1 (bf L j) (bl L j))))) T I' J) : PW G x0 l mX12_words (d + 4) (ZM G x0 Q) k n 0 [(0, .ref (x0 + 144)), (1, .int (zI li)), (2, .int (zI j))] [] T I J := by
  obtain ⟨o1, o2⟩ := hM.o
  have hnm := hL.nbm
  have hmm := hL.1
  have hb := hL.blk hj
  have h20 := hL.bz20 (f := bf L j) (len := bl L j) hb.2.2.2.2.2
  have hbw := bw_le L.1 (bf L j) (bl L j)
  have hmul : bw L.1 (bf L j) (bl L j) * (bl L j - 1) ≤ 20 * 64 := Nat.mul_le_mul hbw (by omega)
  refine s_aload_n (i := 0) dX12_words_0 rfl rfl ?_
  refine s_iload_n (i := 1) dX12_words_1 rfl rfl ?_
  refine s_iload_n (i := 2) dX12_words_2 rfl rfl ?_
  refine s_cV_II (My := mX12_width) dX12_words_3 wM_X12_122 cb_yX12_width ci_yX12_width (by assumption) (by assumption) (Nat.le_of_ble_eq_true rfl) (by decide) (s_d (by omega) (m_width (d := 0) hM hli hL hm hj (fun I1 hf1 hN1 => ?_)))
  have hm1 : ML (I1 145) (402 * li) L := by rw [hf1 145 (by decide)]; exact hm
  refine s_aload_n (i := 0) dX12_words_6 rfl rfl ?_
  refine s_iload_n (i := 1) dX12_words_7 rfl rfl ?_
  refine s_iload_n (i := 2) dX12_words_8 rfl rfl ?_
  refine s_cV_II (My := mX12_length) dX12_words_9 wM_X12_81 cb_yX12_length ci_yX12_length (by assumption) (by assumption) (Nat.le_of_ble_eq_true rfl) (by decide) (s_d (by omega) (m_length (d := 0) hM hli (by omega) ?_))
  rw [hm1.2.2.2 j hj]
  refine s_iconst (v := 1) dX12_words_12 (by decide) ?_
  refine s_isub dX12_words_13 ?_
  refine s_imul dX12_words_14 ?_
  refine s_bipush (v := 31) dX12_words_15 (by decide) ?_
  refine s_iadd dX12_words_17 ?_
  refine s_topi (y := zI ((bw L.1 (bf L j) (bl L j) * (bl L j - 1) + 31 : Nat) : Int)) (by simp only [z0, z1, zm1, zm2, zm3, zm4, zl2, zl3, zl4, zl5, zl6, zl7, zl8, zl9, zl10, zl20, zl28, zl31, zl32, zl33, zl48, zl57, zl64, zl100, zl127, zl200, zl201, zl202, zl402, zl1200, zl2412, zl16884, zI_add, zI_sub, zI_mul, zI_inc, zI_dec]; rw [Int.natCast_add, Int.natCast_mul]; congr 3; omega) ?_
  refine s_bipush (v := 32) dX12_words_18 (by decide) ?_
  refine s_idiv dX12_words_20 (by decide) ?_
  refine s_topi (y := zI (wordsN L.1 (bf L j) (bl L j))) (by unfold wordsN; generalize bw L.1 (bf L j) (bl L j) * (bl L j - 1) = P at hmul ⊢; rw [zl32, zI_div (by omega) (by omega) (by omega) (by omega)]; congr 1) ?_
  refine s_iret dX12_words_21 rfl ?_
  exact hq I1 hf1 hN1
set_option maxRecDepth 100000 in
set_option maxHeartbeats 1000000 in
theorem ml_costOfList {G : fG} {x0 : Nat} {l : Launch} {d k n : Nat} {T : fT} {J : fJ} {Q : Option Value → fT → fI → fJ → Prop} {li : Nat} {L : LSt} (hM : MObj T) (hli : li < 6) (hL : LOk L) : ∀ (t i : Nat) (I : fI), i + t = L.2.2.2 → ML (I 145) (402 * li) L → (∀ I', fr I I' [150] → Q (some (.int (zI (sumB L 5 L.2.2.2)))) T I' J) → PW G x0 l mX12_costOfList (d + 5) (ZM G x0 Q) k n 4 [(0, .ref (x0 + 144)), (1, .int (zI li)), (2, .int (zI (sumB L 5 i))), (3, .int (zI i))] [] T I J := by
  obtain ⟨o1, o2⟩ := hM.o
  have hnm := hL.nbm
  have hmm := hL.1
  intro t
  induction t with
  | zero =>
    intro i I ht hm hq
    have hi : i = L.2.2.2 := by omega
    subst hi
    refine s_iload_n (i := 3) dX12_costOfList_4 rfl rfl ?_
    refine s_aload_n (i := 0) dX12_costOfList_5 rfl rfl ?_
    refine s_iload_n (i := 1) dX12_costOfList_6 rfl rfl ?_
    refine s_cV_I (My := mX12_blocks) dX12_costOfList_7 wM_X12_77 cb_yX12_blocks ci_yX12_blocks (by assumption) (by assumption) (Nat.le_of_ble_eq_true rfl) (by decide) (s_d (by omega) (m_blocks (d := 0) hM hli ?_))
    rw [hm.2.2.1]
    refine s_icmp_ge (tgt := 28) dX12_costOfList_10 (by decide) (fun h10 => ?_) (fun h10 => absurd ((zI_le (by omega) (by omega) (by omega) (by omega)).mpr (by omega)) h10)
    refine s_iload_n (i := 2) dX12_costOfList_28 rfl rfl ?_
    refine s_iret dX12_costOfList_29 rfl ?_
    exact hq I (fr_refl I _)
  | succ t ih =>
    intro i I ht hm hq
    refine s_iload_n (i := 3) dX12_costOfList_4 rfl rfl ?_
    refine s_aload_n (i := 0) dX12_costOfList_5 rfl rfl ?_
    refine s_iload_n (i := 1) dX12_costOfList_6 rfl rfl ?_
    refine s_cV_I (My := mX12_blocks) dX12_costOfList_7 wM_X12_77 cb_yX12_blocks ci_yX12_blocks (by assumption) (by assumption) (Nat.le_of_ble_eq_true rfl) (by decide) (s_d (by omega) (m_blocks (d := 0) hM hli ?_))
    rw [hm.2.2.1]
    refine s_icmp_ge (tgt := 28) dX12_costOfList_10 (by decide) (fun h10 => absurd h10 (fun h => by rw [zI_le (by omega) (by omega) (by omega) (by omega)] at h; omega)) (fun h10 => ?_)
    refine s_iload_n (i := 2) dX12_costOfList_13 rfl rfl ?_
    refine s_aload_n (i := 0) dX12_costOfList_14 rfl rfl ?_
    refine s_iload_n (i := 1) dX12_costOfList_15 rfl rfl ?_
    refine s_iload_n (i := 3) dX12_costOfList_16 rfl rfl ?_
    refine s_cV_II (My := mX12_cost) dX12_costOfList_17 wM_X12_128 cb_yX12_cost ci_yX12_cost (by assumption) (by assumption) (Nat.le_of_ble_eq_true rfl) (by decide) (s_d (by omega) (m_cost (d := 0) hM hli hL hm (j := i) (by omega) (fun I1 hf1 hN1 => ?_)))
    refine s_iadd dX12_costOfList_20 ?_
    refine s_topi (y := zI (sumB L 5 (i + 1))) (by rw [zI_add]; rfl) ?_
    refine s_istore_n (i := 2) dX12_costOfList_21 rfl (by decide) (by simp only [sl, sl2, rm, Value.category, reduceIte, Nat.reduceAdd, Nat.reduceEqDiff, reduceCtorEq]; rfl) ?_
    refine s_iinc dX12_costOfList_22 rfl (zI_inc _) (by decide) (by simp only [sl, sl2, rm, Value.category, reduceIte, Nat.reduceAdd, Nat.reduceEqDiff, reduceCtorEq]; rfl) ?_
    refine s_goto (tgt := 4) dX12_costOfList_25 (by decide) ?_
    exact ih (i + 1) I1 (by omega) (by rw [hf1 145 (by decide)]; exact hm) (fun I2 hf2 => hq I2 (fr_trans hf1 hf2))
set_option maxRecDepth 100000 in
set_option maxHeartbeats 1000000 in
theorem m_costOfList {G : fG} {x0 : Nat} {l : Launch} {d k n : Nat} {T : fT} {I : fI} {J : fJ} {Q : Option Value → fT → fI → fJ → Prop} {li : Nat} {L : LSt} (hM : MObj T) (hli : li < 6) (hL : LOk L) (hm : ML (I 145) (402 * li) L) (hq : ∀ I', fr I I' [150] → Q (some (.int (zI (sumB L 5 L.2.2.2)))) T I' J) : PW G x0 l mX12_costOfList (d + 5) (ZM G x0 Q) k n 0 [(0, .ref (x0 + 144)), (1, .int (zI li))] [] T I J := by
  refine s_iconst (v := 0) dX12_costOfList_0 (by decide) ?_
  refine s_istore_n (i := 2) dX12_costOfList_1 rfl (by decide) (by simp only [sl, sl2, rm, Value.category, reduceIte, Nat.reduceAdd, Nat.reduceEqDiff, reduceCtorEq]; rfl) ?_
  refine s_iconst (v := 0) dX12_costOfList_2 (by decide) ?_
  refine s_istore_n (i := 3) dX12_costOfList_3 rfl (by decide) (by simp only [sl, sl2, rm, Value.category, reduceIte, Nat.reduceAdd, Nat.reduceEqDiff, reduceCtorEq]; rfl) ?_
  exact ml_costOfList hM hli hL L.2.2.2 0 I (by omega) hm hq
set_option maxRecDepth 100000 in
set_option maxHeartbeats 1000000 in
theorem ml_exceptionsOf {G : fG} {x0 : Nat} {l : Launch} {d k n : Nat} {T : fT} {J : fJ} {Q : Option Value → fT → fI → fJ → Prop} {li : Nat} {L : LSt} (hM : MObj T) (hli : li < 6) (hL : LOk L) : ∀ (t i : Nat) (I : fI), i + t = L.2.2.2 → ML (I 145) (402 * li) L → (∀ I', fr I I' [150] → Q (some (.int (zI (sumB L 4 L.2.2.2)))) T I' J) → PW G x0 l mX12_exceptionsOf (d + 5) (ZM G x0 Q) k n 4 [(0, .ref (x0 + 144)), (1, .int (zI li)), (2, .int (zI (sumB L 4 i))), (3, .int (zI i))] [] T I J := by
  obtain ⟨o1, o2⟩ := hM.o
  have hnm := hL.nbm
  have hmm := hL.1
  intro t
  induction t with
  | zero =>
    intro i I ht hm hq
    have hi : i = L.2.2.2 := by omega
    subst hi
    refine s_iload_n (i := 3) dX12_exceptionsOf_4 rfl rfl ?_
    refine s_aload_n (i := 0) dX12_exceptionsOf_5 rfl rfl ?_
    refine s_iload_n (i := 1) dX12_exceptionsOf_6 rfl rfl ?_
    refine s_cV_I (My := mX12_blocks) dX12_exceptionsOf_7 wM_X12_77 cb_yX12_blocks ci_yX12_blocks (by assumption) (by assumption) (Nat.le_of_ble_eq_true rfl) (by decide) (s_d (by omega) (m_blocks (d := 0) hM hli ?_))
    rw [hm.2.2.1]
    refine s_icmp_ge (tgt := 28) dX12_exceptionsOf_10 (by decide) (fun h10 => ?_) (fun h10 => absurd ((zI_le (by omega) (by omega) (by omega) (by omega)).mpr (by omega)) h10)
    refine s_iload_n (i := 2) dX12_exceptionsOf_28 rfl rfl ?_
    refine s_iret dX12_exceptionsOf_29 rfl ?_
    exact hq I (fr_refl I _)
  | succ t ih =>
    intro i I ht hm hq
    refine s_iload_n (i := 3) dX12_exceptionsOf_4 rfl rfl ?_
    refine s_aload_n (i := 0) dX12_exceptionsOf_5 rfl rfl ?_
    refine s_iload_n (i := 1) dX12_exceptionsOf_6 rfl rfl ?_
    refine s_cV_I (My := mX12_blocks) dX12_exceptionsOf_7 wM_X12_77 cb_yX12_blocks ci_yX12_blocks (by assumption) (by assumption) (Nat.le_of_ble_eq_true rfl) (by decide) (s_d (by omega) (m_blocks (d := 0) hM hli ?_))
    rw [hm.2.2.1]
    refine s_icmp_ge (tgt := 28) dX12_exceptionsOf_10 (by decide) (fun h10 => absurd h10 (fun h => by rw [zI_le (by omega) (by omega) (by omega) (by omega)] at h; omega)) (fun h10 => ?_)
    refine s_iload_n (i := 2) dX12_exceptionsOf_13 rfl rfl ?_
    refine s_aload_n (i := 0) dX12_exceptionsOf_14 rfl rfl ?_
    refine s_iload_n (i := 1) dX12_exceptionsOf_15 rfl rfl ?_
    refine s_iload_n (i := 3) dX12_exceptionsOf_16 rfl rfl ?_
    refine s_cV_II (My := mX12_exceptions) dX12_exceptionsOf_17 wM_X12_204 cb_yX12_exceptions ci_yX12_exceptions (by assumption) (by assumption) (Nat.le_of_ble_eq_true rfl) (by decide) (s_d (by omega) (m_exceptions (d := 0) hM hli hL hm (j := i) (by omega) (fun I1 hf1 hN1 => ?_)))
    refine s_iadd dX12_exceptionsOf_20 ?_
    refine s_topi (y := zI (sumB L 4 (i + 1))) (by rw [zI_add]; rfl) ?_
    refine s_istore_n (i := 2) dX12_exceptionsOf_21 rfl (by decide) (by simp only [sl, sl2, rm, Value.category, reduceIte, Nat.reduceAdd, Nat.reduceEqDiff, reduceCtorEq]; rfl) ?_
    refine s_iinc dX12_exceptionsOf_22 rfl (zI_inc _) (by decide) (by simp only [sl, sl2, rm, Value.category, reduceIte, Nat.reduceAdd, Nat.reduceEqDiff, reduceCtorEq]; rfl) ?_
    refine s_goto (tgt := 4) dX12_exceptionsOf_25 (by decide) ?_
    exact ih (i + 1) I1 (by omega) (by rw [hf1 145 (by decide)]; exact hm) (fun I2 hf2 => hq I2 (fr_trans hf1 hf2))
set_option maxRecDepth 100000 in
set_option maxHeartbeats 1000000 in
theorem m_exceptionsOf {G : fG} {x0 : Nat} {l : Launch} {d k n : Nat} {T : fT} {I : fI} {J : fJ} {Q : Option Value → fT → fI → fJ → Prop} {li : Nat} {L : LSt} (hM : MObj T) (hli : li < 6) (hL : LOk L) (hm : ML (I 145) (402 * li) L) (hq : ∀ I', fr I I' [150] → Q (some (.int (zI (sumB L 4 L.2.2.2)))) T I' J) : PW G x0 l mX12_exceptionsOf (d + 5) (ZM G x0 Q) k n 0 [(0, .ref (x0 + 144)), (1, .int (zI li))] [] T I J := by
  refine s_iconst (v := 0) dX12_exceptionsOf_0 (by decide) ?_
  refine s_istore_n (i := 2) dX12_exceptionsOf_1 rfl (by decide) (by simp only [sl, sl2, rm, Value.category, reduceIte, Nat.reduceAdd, Nat.reduceEqDiff, reduceCtorEq]; rfl) ?_
  refine s_iconst (v := 0) dX12_exceptionsOf_2 (by decide) ?_
  refine s_istore_n (i := 3) dX12_exceptionsOf_3 rfl (by decide) (by simp only [sl, sl2, rm, Value.category, reduceIte, Nat.reduceAdd, Nat.reduceEqDiff, reduceCtorEq]; rfl) ?_
  exact ml_exceptionsOf hM hli hL L.2.2.2 0 I (by omega) hm hq
set_option maxRecDepth 100000 in
set_option maxHeartbeats 1000000 in
theorem m_listPart {G : fG} {x0 : Nat} {l : Launch} {d k n : Nat} {T : fT} {I : fI} {J : fJ} {Q : Option Value → fT → fI → fJ → Prop} {li : Nat} {L : LSt} (hM : MObj T) (hli : li < 6) (hL : LOk L) (hm : ML (I 145) (402 * li) L) {y : Int32} (hy : 0 ≤ y.toInt ∧ y.toInt ≤ 5) (hq : ∀ I', fr I I' [150] → Q (some (.int (zI (listP L y.toInt)))) T I' J) : PW G x0 l mX12_listPart (d + 6) (ZM G x0 Q) k n 0 [(0, .ref (x0 + 144)), (1, .int (zI li)), (2, .int y)] [] T I J := by
  obtain ⟨o1, o2⟩ := hM.o
  have hnm := hL.nbm
  have hmm := hL.1
  unfold listP at hq
  refine s_iload_n (i := 2) dX12_listPart_0 rfl rfl ?_
  rcases (show (y.toInt < 0 ∨ 4 < y.toInt) ∨ y.toInt = 0 ∨ y.toInt = 1 ∨ y.toInt = 2 ∨ y.toInt = 3 ∨ y.toInt = 4 by omega) with hw | hw | hw | hw | hw | hw
  · refine s_tabOut (tgt := 79) dX12_listPart_1 hw (by decide) ?_
    refine s_aload_n (i := 0) dX12_listPart_79 rfl rfl ?_
    refine s_iload_n (i := 1) dX12_listPart_80 rfl rfl ?_
    refine s_cV_I (My := mX12_many) dX12_listPart_81 wM_X12_131 cb_yX12_many ci_yX12_many (by assumption) (by assumption) (Nat.le_of_ble_eq_true rfl) (by decide) (s_d (by omega) (m_many (d := 0) hM hli ?_))
    rw [hm.1]
    refine s_if_ne (tgt := 91) dX12_listPart_84 (by decide) (fun c84 => ?_) (fun c84 => ?_)
    · rw [z0, zI_eq (by omega) (by omega) (by omega) (by omega)] at c84
      refine s_aload_n (i := 0) dX12_listPart_91 rfl rfl ?_
      refine s_iload_n (i := 1) dX12_listPart_92 rfl rfl ?_
      refine s_aload_n (i := 0) dX12_listPart_93 rfl rfl ?_
      refine s_iload_n (i := 1) dX12_listPart_94 rfl rfl ?_
      refine s_cV_I (My := mX12_many) dX12_listPart_95 wM_X12_131 cb_yX12_many ci_yX12_many (by assumption) (by assumption) (Nat.le_of_ble_eq_true rfl) (by decide) (s_d (by omega) (m_many (d := 0) hM hli ?_))
      rw [hm.1]
      refine s_iconst (v := 1) dX12_listPart_98 (by decide) ?_
      refine s_isub dX12_listPart_99 ?_
      refine s_topi (y := zI ((L.2.1 - 1 : Nat) : Int)) (by first | with_reducible rfl | ((try simp only [z0, z1, zm1, zm2, zm3, zm4, zl2, zl3, zl4, zl5, zl6, zl7, zl8, zl9, zl10, zl20, zl28, zl31, zl32, zl33, zl48, zl57, zl64, zl100, zl127, zl200, zl201, zl202, zl402, zl1200, zl2412, zl16884, zI_add, zI_sub, zI_mul, zI_inc, zI_dec]) <;> (congr 1 <;> omega))) ?_
      refine s_cV_II (My := mX12_number) dX12_listPart_100 wM_X12_103 cb_yX12_number ci_yX12_number (by assumption) (by assumption) (Nat.le_of_ble_eq_true rfl) (by decide) (s_d (by omega) (m_number (d := 0) (i := L.2.1 - 1) hM hli (by omega) ?_))
      refine s_iret dX12_listPart_103 rfl ?_
      rw [if_neg (by omega), if_neg (by omega), if_neg (by omega), if_neg (by omega), if_neg (by omega), if_pos (by omega)] at hq
      first
      | (rw [if_neg (by omega)] at hq
         rw [hm.2.1 (L.2.1 - 1) (by omega)]
         exact hq I (fr_refl I _))
      | (rw [if_pos (by omega)] at hq
         rw [zm1]
         exact hq I (fr_refl I _))
    · rw [z0, zI_eq (by omega) (by omega) (by omega) (by omega)] at c84
      refine s_iconst (v := -1) dX12_listPart_87 (by decide) ?_
      refine s_goto (tgt := 103) dX12_listPart_88 (by decide) ?_
      refine s_iret dX12_listPart_103 rfl ?_
      rw [if_neg (by omega), if_neg (by omega), if_neg (by omega), if_neg (by omega), if_neg (by omega), if_pos (by omega)] at hq
      first
      | (rw [if_neg (by omega)] at hq
         rw [hm.2.1 (L.2.1 - 1) (by omega)]
         exact hq I (fr_refl I _))
      | (rw [if_pos (by omega)] at hq
         rw [zm1]
         exact hq I (fr_refl I _))
  · refine s_tabIn (off := 35) (tgt := 36) dX12_listPart_1 (by omega) (by omega) (by rw [hw]; rfl) (by decide) ?_
    refine s_aload_n (i := 0) dX12_listPart_36 rfl rfl ?_
    refine s_iload_n (i := 1) dX12_listPart_37 rfl rfl ?_
    refine s_cV_I (My := mX12_many) dX12_listPart_38 wM_X12_131 cb_yX12_many ci_yX12_many (by assumption) (by assumption) (Nat.le_of_ble_eq_true rfl) (by decide) (s_d (by omega) (m_many (d := 0) hM hli ?_))
    refine s_iret dX12_listPart_41 rfl ?_
    rw [if_pos hw] at hq
    rw [hm.1]
    exact hq I (fr_refl I _)
  · refine s_tabIn (off := 41) (tgt := 42) dX12_listPart_1 (by omega) (by omega) (by rw [hw]; rfl) (by decide) ?_
    refine s_aload_n (i := 0) dX12_listPart_42 rfl rfl ?_
    refine s_iload_n (i := 1) dX12_listPart_43 rfl rfl ?_
    refine s_cV_I (My := mX12_blocks) dX12_listPart_44 wM_X12_77 cb_yX12_blocks ci_yX12_blocks (by assumption) (by assumption) (Nat.le_of_ble_eq_true rfl) (by decide) (s_d (by omega) (m_blocks (d := 0) hM hli ?_))
    refine s_iret dX12_listPart_47 rfl ?_
    rw [if_neg (by omega), if_pos hw] at hq
    rw [hm.2.2.1]
    exact hq I (fr_refl I _)
  · refine s_tabIn (off := 47) (tgt := 48) dX12_listPart_1 (by omega) (by omega) (by rw [hw]; rfl) (by decide) ?_
    refine s_aload_n (i := 0) dX12_listPart_48 rfl rfl ?_
    refine s_iload_n (i := 1) dX12_listPart_49 rfl rfl ?_
    refine s_cV_I (My := mX12_costOfList) dX12_listPart_50 wM_X12_207 cb_yX12_costOfList ci_yX12_costOfList (by assumption) (by assumption) (Nat.le_of_ble_eq_true rfl) (by decide) (s_d (by omega) (m_costOfList (d := 0) hM hli hL hm (fun I1 hf1 => ?_)))
    refine s_iret dX12_listPart_53 rfl ?_
    rw [if_neg (by omega), if_neg (by omega), if_pos hw] at hq
    exact hq I1 hf1
  · refine s_tabIn (off := 53) (tgt := 54) dX12_listPart_1 (by omega) (by omega) (by rw [hw]; rfl) (by decide) ?_
    refine s_aload_n (i := 0) dX12_listPart_54 rfl rfl ?_
    refine s_iload_n (i := 1) dX12_listPart_55 rfl rfl ?_
    refine s_cV_I (My := mX12_exceptionsOf) dX12_listPart_56 wM_X12_210 cb_yX12_exceptionsOf ci_yX12_exceptionsOf (by assumption) (by assumption) (Nat.le_of_ble_eq_true rfl) (by decide) (s_d (by omega) (m_exceptionsOf (d := 0) hM hli hL hm (fun I1 hf1 => ?_)))
    refine s_iret dX12_listPart_59 rfl ?_
    rw [if_neg (by omega), if_neg (by omega), if_neg (by omega), if_pos hw] at hq
    exact hq I1 hf1
  · refine s_tabIn (off := 59) (tgt := 60) dX12_listPart_1 (by omega) (by omega) (by rw [hw]; rfl) (by decide) ?_
    refine s_aload_n (i := 0) dX12_listPart_60 rfl rfl ?_
    refine s_iload_n (i := 1) dX12_listPart_61 rfl rfl ?_
    refine s_cV_I (My := mX12_many) dX12_listPart_62 wM_X12_131 cb_yX12_many ci_yX12_many (by assumption) (by assumption) (Nat.le_of_ble_eq_true rfl) (by decide) (s_d (by omega) (m_many (d := 0) hM hli ?_))
    rw [hm.1]
    refine s_if_ne (tgt := 72) dX12_listPart_65 (by decide) (fun c65 => ?_) (fun c65 => ?_)
    · rw [z0, zI_eq (by omega) (by omega) (by omega) (by omega)] at c65
      refine s_aload_n (i := 0) dX12_listPart_72 rfl rfl ?_
      refine s_iload_n (i := 1) dX12_listPart_73 rfl rfl ?_
      refine s_iconst (v := 0) dX12_listPart_74 (by decide) ?_
      refine s_cV_II (My := mX12_number) dX12_listPart_75 wM_X12_103 cb_yX12_number ci_yX12_number (by assumption) (by assumption) (Nat.le_of_ble_eq_true rfl) (by decide) (s_d (by omega) (m_number (d := 0) (i := 0) hM hli (by omega) ?_))
      refine s_iret dX12_listPart_78 rfl ?_
      rw [if_neg (by omega), if_neg (by omega), if_neg (by omega), if_neg (by omega), if_pos hw] at hq
      first
      | (rw [if_neg (by omega)] at hq
         rw [hm.2.1 0 (by omega)]
         exact hq I (fr_refl I _))
      | (rw [if_pos (by omega)] at hq
         rw [zm1]
         exact hq I (fr_refl I _))
    · rw [z0, zI_eq (by omega) (by omega) (by omega) (by omega)] at c65
      refine s_iconst (v := -1) dX12_listPart_68 (by decide) ?_
      refine s_goto (tgt := 78) dX12_listPart_69 (by decide) ?_
      refine s_iret dX12_listPart_78 rfl ?_
      rw [if_neg (by omega), if_neg (by omega), if_neg (by omega), if_neg (by omega), if_pos hw] at hq
      first
      | (rw [if_neg (by omega)] at hq
         rw [hm.2.1 0 (by omega)]
         exact hq I (fr_refl I _))
      | (rw [if_pos (by omega)] at hq
         rw [zm1]
         exact hq I (fr_refl I _))
