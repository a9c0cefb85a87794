/-! the model's digest -/
def frL (J J' : fJ) : Prop := ∀ b, b ≠ 144 → J' b = J b
theorem frL.refl (J : fJ) : frL J J := fun _ _ => rfl
theorem frL.trans {J J1 J2 : fJ} (h : frL J J1) (h2 : frL J1 J2) : frL J J2 := fun b a => (h2 b a).trans (h b a)
def mixT (ev0 ev1 : Option Nat → Int) (p : Nat → Bool) (z i : Nat) : Nat → Int64 → Int64
  | 0, h => h
  | k + 1, h => mixV (mixV (mixT ev0 ev1 p z i k h) (zL (ev0 (nthE p z i k)))) (zL (ev1 (nthE p z i k)))
def cntE (p : Nat → Bool) : Nat → Nat → Nat
  | 0, _ => 0
  | z + 1, i => if p i then cntE p z (i + 1) + 1 else cntE p z (i + 1)
theorem mixT_skip {ev0 ev1 : Option Nat → Int} {p : Nat → Bool} {z i : Nat} (hp : ¬ p i = true) : ∀ (k : Nat) (h : Int64), mixT ev0 ev1 p (z + 1) i k h = mixT ev0 ev1 p z (i + 1) k h := by
  intro k
  induction k with
  | zero => intro h; rfl
  | succ k ih =>
    intro h
    simp only [mixT]
    rw [ih h]
    have e : nthE p (z + 1) i k = nthE p z (i + 1) k := by simp only [nthE]; rw [if_neg hp]
    rw [e]
theorem mixT_take {ev0 ev1 : Option Nat → Int} {p : Nat → Bool} {z i : Nat} (hp : p i = true) : ∀ (k : Nat) (h : Int64), mixT ev0 ev1 p (z + 1) i (k + 1) h = mixT ev0 ev1 p z (i + 1) k (mixV (mixV h (zL (ev0 (some i)))) (zL (ev1 (some i)))) := by
  intro k
  induction k with
  | zero =>
    intro h
    have e : nthE p (z + 1) i 0 = some i := by simp [nthE, hp]
    simp only [mixT]
    rw [e]
  | succ k ih =>
    intro h
    have e : nthE p (z + 1) i (k + 1) = nthE p z (i + 1) k := by simp only [nthE]; rw [if_pos hp, if_neg (by omega)]; rfl
    have h1 : mixT ev0 ev1 p (z + 1) i (k + 1 + 1) h = mixV (mixV (mixT ev0 ev1 p (z + 1) i (k + 1) h) (zL (ev0 (nthE p (z + 1) i (k + 1))))) (zL (ev1 (nthE p (z + 1) i (k + 1)))) := rfl
    rw [h1, ih h, e]
    rfl
theorem mixE_T {ev0 ev1 : Option Nat → Int} {p : Nat → Bool} {hv : Nat → Int} (h0 : ∀ i : Nat, ev0 (some i) = i) (h1 : ∀ i, ev1 (some i) = hv i) : ∀ (z i : Nat) (h : Int64), mixE p hv z i h = mixT ev0 ev1 p z i (cntE p z i) h := by
  intro z
  induction z with
  | zero => intro i h; rfl
  | succ z ih =>
    intro i h
    simp only [mixE, cntE]
    by_cases c : p i = true
    · rw [if_pos c, if_pos c, mixT_take c, h0, h1]; exact ih (i + 1) _
    · rw [if_neg c, if_neg c, mixT_skip c]; exact ih (i + 1) h
theorem cntE_snoc (p : Nat → Bool) : ∀ (z i : Nat), cntE p (z + 1) i = cntE p z i + if p (i + z) then 1 else 0 := by
  intro z
  induction z with
  | zero => intro i; simp only [cntE, Nat.add_zero]; split <;> simp
  | succ z ih =>
    intro i
    have e : cntE p (z + 1 + 1) i = if p i then cntE p (z + 1) (i + 1) + 1 else cntE p (z + 1) (i + 1) := rfl
    have e2 : cntE p (z + 1) i = if p i then cntE p z (i + 1) + 1 else cntE p z (i + 1) := rfl
    rw [e, e2, ih (i + 1), show i + 1 + z = i + (z + 1) by omega]
    split <;> split <;> omega
theorem cntE_cnt (p q : Nat → Bool) : ∀ z, (∀ t, t < z → q t = p (1 + t)) → cntE p z 1 = cnt q z := by
  intro z
  induction z with
  | zero => intro _; rfl
  | succ z ih =>
    intro h
    rw [cntE_snoc, ih (fun t ht => h t (by omega))]
    simp only [cnt]
    rw [h z (by omega)]
theorem exc_cnt (g : Nat → Int) (f len : Nat) : cntE (isE g f len) (len - 1) 1 = bexc g f len := by
  unfold bexc abv
  refine cntE_cnt _ _ _ (fun t ht => ?_)
  unfold isE
  rw [show f + 1 + t = f + (1 + t) by omega]
set_option maxRecDepth 100000 in
set_option maxHeartbeats 1000000 in
theorem m_mixes {G : fG} {x0 : Nat} {l : Launch} {d k n : Nat} {T : fT} {Q : Option Value → fT → fI → fJ → Prop} {I : fI} {J : fJ} {h v : Int64} (hM : MObj T) (hJ : J 144 34 = h) (hq : ∀ J', frL J J' → J' 144 34 = mixV h v → Q none T I J') : PW G x0 l mX12_mixes d (ZM G x0 Q) k n 0 [(0, .ref (x0 + 144)), (1, .long v)] [] T I J := by
  obtain ⟨o1, o2⟩ := hM.o
  refine s_aload_n (i := 0) dX12_mixes_0 rfl rfl ?_
  refine s_ldc2 dX12_mixes_1 wK_X12_282 ?_
  refine s_aload_n (i := 0) dX12_mixes_4 rfl rfl ?_
  refine s_getJ dX12_mixes_5 fl_X12_284 (by assumption) (by assumption) ?_
  rw [hJ]
  refine s_lmul dX12_mixes_8 ?_
  refine s_lload_n (i := 1) dX12_mixes_9 rfl rfl ?_
  refine s_ladd dX12_mixes_10 ?_
  refine s_putJ dX12_mixes_11 fp_X12_284 (by assumption) (by assumption) ?_
  refine s_ret dX12_mixes_14 rfl ?_
  refine hq _ (fun b hb => ju_ne hb) ?_
  simp [ju, mixV]
set_option maxRecDepth 100000 in
set_option maxHeartbeats 1000000 in
theorem ml_mb3 {G : fG} {x0 : Nat} {l : Launch} {d k n : Nat} {T : fT} {Q : Option Value → fT → fI → fJ → Prop} {li j : Nat} {S : ASt} {h : Int64} (hk : SOk S) (hli : li < 6) (hj : j < (S.1 li).2.2.2) : ∀ (t i : Nat) (e3 : Int32) (I : fI) (J : fJ), i + t = bexc (S.1 li).1 (bf (S.1 li) j) (bl (S.1 li) j) → MIs T I S → J 144 34 = mixT (excV (S.1 li).1 (bf (S.1 li) j) (bl (S.1 li) j) 0) (excV (S.1 li).1 (bf (S.1 li) j) (bl (S.1 li) j) 1) (isE (S.1 li).1 (bf (S.1 li) j) (bl (S.1 li) j)) (bl (S.1 li) j - 1) 1 i h → (∀ (I' : fI) (J' : fJ), frS I I' → frL J J' → J' 144 34 = mixV (mixE (isE (S.1 li).1 (bf (S.1 li) j) (bl (S.1 li) j)) (hiV (S.1 li).1 (bf (S.1 li) j) (bl (S.1 li) j)) (bl (S.1 li) j - 1) 1 h) (zL (fCached S li j)) → Q none T I' J') → PW G x0 l mX12_mixesBlock (d + 6) (ZM G x0 Q) k n 71 [(0, .ref (x0 + 144)), (1, .int (zI li)), (2, .int (zI j)), (3, .int e3), (4, .int (zI (bexc (S.1 li).1 (bf (S.1 li) j) (bl (S.1 li) j) : Nat))), (5, .int (zI i))] [] T I J := by
  have hxt : (zI (li : Int)).toInt = li := zI_t (by omega) (by omega)
  have hL := hk.1 li hli
  have hnm := hL.nbm
  have hmm := hL.1
  have hyt : (zI (j : Int)).toInt = j := zI_t (by omega) (by omega)
  have hB : isB S (li : Int) (j : Int) := ⟨by omega, by rw [Int.toNat_natCast]; omega⟩
  have hbx : bexc (S.1 li).1 (bf (S.1 li) j) (bl (S.1 li) j) ≤ 200 := by
    have hb := hL.blk hj
    have : bexc (S.1 li).1 (bf (S.1 li) j) (bl (S.1 li) j) ≤ bl (S.1 li) j - 1 := cnt_le _ _
    omega
  have hE := mixE_T (ev0 := excV (S.1 li).1 (bf (S.1 li) j) (bl (S.1 li) j) 0) (ev1 := excV (S.1 li).1 (bf (S.1 li) j) (bl (S.1 li) j) 1) (p := isE (S.1 li).1 (bf (S.1 li) j) (bl (S.1 li) j)) (hv := hiV (S.1 li).1 (bf (S.1 li) j) (bl (S.1 li) j)) (fun i => rfl) (fun i => rfl) (bl (S.1 li) j - 1) 1 h
  rw [exc_cnt] at hE
  have fx : ∀ (i : Nat) (u : Int), 0 ≤ u ∧ u ≤ 1 → fExc S li j i u = excV (S.1 li).1 (bf (S.1 li) j) (bl (S.1 li) j) u (nthE (isE (S.1 li).1 (bf (S.1 li) j) (bl (S.1 li) j)) (bl (S.1 li) j - 1) 1 i) := fun i u hu => by
    unfold fExc
    rw [if_pos ⟨hB, by omega, hu⟩, Int.toNat_natCast, Int.toNat_natCast, Int.toNat_natCast]
  intro t
  induction t with
  | zero =>
    intro i e3 I J ht hS hJ hq
    have hM := hS.1
    obtain ⟨o1, o2⟩ := hM.o
    have hi : i = bexc (S.1 li).1 (bf (S.1 li) j) (bl (S.1 li) j) := by omega
    rw [hi] at hJ ⊢
    rw [hE] at hq
    refine s_iload dX12_mixesBlock_71 rfl ?_
    refine s_iload dX12_mixesBlock_73 rfl ?_
    refine s_icmp_ge (tgt := 112) dX12_mixesBlock_75 (by decide) (fun h75 => ?_) (fun h75 => absurd ((zI_le (by omega) (by omega) (by omega) (by omega)).mpr (by omega)) h75)
    refine s_aload_n (i := 0) dX12_mixesBlock_112 rfl rfl ?_
    refine s_aload_n (i := 0) dX12_mixesBlock_113 rfl rfl ?_
    refine s_iload_n (i := 1) dX12_mixesBlock_114 rfl rfl ?_
    refine s_iload_n (i := 2) dX12_mixesBlock_115 rfl rfl ?_
    refine s_cV_II (My := mX12_cached) dX12_mixesBlock_116 wM_X12_303 cb_yX12_cached ci_yX12_cached (by assumption) (by assumption) (Nat.le_of_ble_eq_true rfl) (by decide) (s_d (by omega) (m_cached (d := 0) hS hk (fun I1 hf1 => ?_)))
    rw [hxt, hyt]
    refine s_i2l dX12_mixesBlock_119 ?_
    refine s_cV_J (My := mX12_mixes) dX12_mixesBlock_120 wM_X12_291 cb_yX12_mixes ci_yX12_mixes (by assumption) (by assumption) (Nat.le_of_ble_eq_true rfl) (by decide) (s_d (by omega) (m_mixes (d := 0) hM hJ (fun J1 hj1 hJ1 => ?_)))
    refine s_ret dX12_mixesBlock_123 rfl ?_
    exact hq I1 J1 hf1 hj1 hJ1
  | succ t ih =>
    intro i e3 I J ht hS hJ hq
    have hM := hS.1
    obtain ⟨o1, o2⟩ := hM.o
    have hit : (zI (i : Int)).toInt = i := zI_t (by omega) (by omega)
    have t0 : ((0 : Int32)).toInt = 0 := by decide
    have t1 : ((1 : Int32)).toInt = 1 := by decide
    refine s_iload dX12_mixesBlock_71 rfl ?_
    refine s_iload dX12_mixesBlock_73 rfl ?_
    refine s_icmp_ge (tgt := 112) dX12_mixesBlock_75 (by decide) (fun h75 => absurd h75 (fun h => by rw [zI_le (by omega) (by omega) (by omega) (by omega)] at h; omega)) (fun h75 => ?_)
    refine s_aload_n (i := 0) dX12_mixesBlock_78 rfl rfl ?_
    refine s_aload_n (i := 0) dX12_mixesBlock_79 rfl rfl ?_
    refine s_iload_n (i := 1) dX12_mixesBlock_80 rfl rfl ?_
    refine s_iload_n (i := 2) dX12_mixesBlock_81 rfl rfl ?_
    refine s_iload dX12_mixesBlock_82 rfl ?_
    refine s_iconst (v := 0) dX12_mixesBlock_84 (by decide) ?_
    refine s_cV_IIII (My := mX12_exception) dX12_mixesBlock_85 wM_X12_299 cb_yX12_exception ci_yX12_exception (by assumption) (by assumption) (Nat.le_of_ble_eq_true rfl) (by decide) (s_d (by omega) (m_exc (d := 0) hS hk (fun I1 hf1 => ?_)))
    rw [hxt, hyt, hit, t0, fx i 0 (by omega)]
    refine s_i2l dX12_mixesBlock_88 ?_
    refine s_cV_J (My := mX12_mixes) dX12_mixesBlock_89 wM_X12_291 cb_yX12_mixes ci_yX12_mixes (by assumption) (by assumption) (Nat.le_of_ble_eq_true rfl) (by decide) (s_d (by omega) (m_mixes (d := 0) hM hJ (fun J1 hj1 hJ1 => ?_)))
    refine s_aload_n (i := 0) dX12_mixesBlock_92 rfl rfl ?_
    refine s_aload_n (i := 0) dX12_mixesBlock_93 rfl rfl ?_
    refine s_iload_n (i := 1) dX12_mixesBlock_94 rfl rfl ?_
    refine s_iload_n (i := 2) dX12_mixesBlock_95 rfl rfl ?_
    refine s_iload dX12_mixesBlock_96 rfl ?_
    refine s_iconst (v := 1) dX12_mixesBlock_98 (by decide) ?_
    refine s_cV_IIII (My := mX12_exception) dX12_mixesBlock_99 wM_X12_299 cb_yX12_exception ci_yX12_exception (by assumption) (by assumption) (Nat.le_of_ble_eq_true rfl) (by decide) (s_d (by omega) (m_exc (d := 0) (hS.fr hf1) hk (fun I2 hf2 => ?_)))
    rw [hxt, hyt, hit, t1, fx i 1 (by omega)]
    refine s_i2l dX12_mixesBlock_102 ?_
    refine s_cV_J (My := mX12_mixes) dX12_mixesBlock_103 wM_X12_291 cb_yX12_mixes ci_yX12_mixes (by assumption) (by assumption) (Nat.le_of_ble_eq_true rfl) (by decide) (s_d (by omega) (m_mixes (d := 0) hM hJ1 (fun J2 hj2 hJ2 => ?_)))
    refine s_iinc dX12_mixesBlock_106 rfl (zI_inc _) (by decide) (by simp only [sl, sl2, rm, Value.category, reduceIte, Nat.reduceAdd, Nat.reduceEqDiff, reduceCtorEq]; rfl) ?_
    refine s_goto (tgt := 71) dX12_mixesBlock_109 (by decide) ?_
    exact ih (i + 1) e3 I2 J2 (by omega) (hS.fr (hf1.trans hf2)) hJ2 (fun I' J' hf hj2' hJ' => hq I' J' ((hf1.trans hf2).trans hf) ((hj1.trans hj2).trans hj2') hJ')
set_option maxRecDepth 100000 in
set_option maxHeartbeats 1000000 in
theorem ml_mb2 {G : fG} {x0 : Nat} {l : Launch} {d k n : Nat} {T : fT} {Q : Option Value → fT → fI → fJ → Prop} {li j : Nat} {S : ASt} {h : Int64} (hk : SOk S) (hli : li < 6) (hj : j < (S.1 li).2.2.2) : ∀ (t i : Nat) (I : fI) (J : fJ), i + t = wordsN (S.1 li).1 (bf (S.1 li) j) (bl (S.1 li) j) → MIs T I S → J 144 34 = mixN (wordV (S.1 li).1 (bf (S.1 li) j) (bl (S.1 li) j)) i h → (∀ (I' : fI) (J' : fJ), frS I I' → frL J J' → J' 144 34 = mixV (mixE (isE (S.1 li).1 (bf (S.1 li) j) (bl (S.1 li) j)) (hiV (S.1 li).1 (bf (S.1 li) j) (bl (S.1 li) j)) (bl (S.1 li) j - 1) 1 (mixN (wordV (S.1 li).1 (bf (S.1 li) j) (bl (S.1 li) j)) (wordsN (S.1 li).1 (bf (S.1 li) j) (bl (S.1 li) j)) h)) (zL (fCached S li j)) → Q none T I' J') → PW G x0 l mX12_mixesBlock (d + 6) (ZM G x0 Q) k n 36 [(0, .ref (x0 + 144)), (1, .int (zI li)), (2, .int (zI j)), (3, .int (zI (wordsN (S.1 li).1 (bf (S.1 li) j) (bl (S.1 li) j) : Nat))), (4, .int (zI i))] [] T I J := by
  have hxt : (zI (li : Int)).toInt = li := zI_t (by omega) (by omega)
  have hL := hk.1 li hli
  have hnm := hL.nbm
  have hmm := hL.1
  have hyt : (zI (j : Int)).toInt = j := zI_t (by omega) (by omega)
  have hB : isB S (li : Int) (j : Int) := ⟨by omega, by rw [Int.toNat_natCast]; omega⟩
  have hwn : wordsN (S.1 li).1 (bf (S.1 li) j) (bl (S.1 li) j) ≤ 1000 := wordsN_le (hL.blk hj).2.2.2.2.1
  have hm0 : ∀ I, MIs T I S → ML (I 145) (402 * li) (S.1 li) := fun I hS => hS.L hli
  have fw : ∀ i : Nat, i < wordsN (S.1 li).1 (bf (S.1 li) j) (bl (S.1 li) j) → fWord S li j i = wordV (S.1 li).1 (bf (S.1 li) j) (bl (S.1 li) j) i := fun i hi => by
    unfold fWord
    rw [if_pos ⟨hB, by omega, by rw [Int.toNat_natCast, Int.toNat_natCast]; omega⟩, Int.toNat_natCast, Int.toNat_natCast, Int.toNat_natCast]
  intro t
  induction t with
  | zero =>
    intro i I J ht hS hJ hq
    have hM := hS.1
    obtain ⟨o1, o2⟩ := hM.o
    have hi : i = wordsN (S.1 li).1 (bf (S.1 li) j) (bl (S.1 li) j) := by omega
    rw [hi] at hJ ⊢
    refine s_iload dX12_mixesBlock_36 rfl ?_
    refine s_iload_n (i := 3) dX12_mixesBlock_38 rfl rfl ?_
    refine s_icmp_ge (tgt := 60) dX12_mixesBlock_39 (by decide) (fun h39 => ?_) (fun h39 => absurd ((zI_le (by omega) (by omega) (by omega) (by omega)).mpr (by omega)) h39)
    refine s_aload_n (i := 0) dX12_mixesBlock_60 rfl rfl ?_
    refine s_iload_n (i := 1) dX12_mixesBlock_61 rfl rfl ?_
    refine s_iload_n (i := 2) dX12_mixesBlock_62 rfl rfl ?_
    refine s_cV_II (My := mX12_exceptions) dX12_mixesBlock_63 wM_X12_204 cb_yX12_exceptions ci_yX12_exceptions (by assumption) (by assumption) (Nat.le_of_ble_eq_true rfl) (by decide) (s_d (by omega) (m_exceptions (d := 0) hM hli hL (hm0 I hS) hj (fun I1 hf1 _ => ?_)))
    refine s_istore dX12_mixesBlock_66 (by decide) (by simp only [sl, sl2, rm, Value.category, reduceIte, Nat.reduceAdd, Nat.reduceEqDiff, reduceCtorEq]; rfl) ?_
    refine s_iconst (v := 0) dX12_mixesBlock_68 (by decide) ?_
    refine s_istore dX12_mixesBlock_69 (by decide) (by simp only [sl, sl2, rm, Value.category, reduceIte, Nat.reduceAdd, Nat.reduceEqDiff, reduceCtorEq]; rfl) ?_
    refine s_lv (lv' := [(0, .ref (x0 + 144)), (1, .int (zI li)), (2, .int (zI j)), (3, .int (zI (wordsN (S.1 li).1 (bf (S.1 li) j) (bl (S.1 li) j) : Nat))), (4, .int (zI (bexc (S.1 li).1 (bf (S.1 li) j) (bl (S.1 li) j) : Nat))), (5, .int (zI ((0 : Nat) : Int)))]) ⟨rfl, rfl, rfl, rfl, rfl, rfl, trivial⟩ ?_
    exact ml_mb3 hk hli hj (bexc (S.1 li).1 (bf (S.1 li) j) (bl (S.1 li) j)) 0 _ I1 J (by omega) (hS.fr (frS150 hf1)) hJ (fun I' J' hf hj hJ' => hq I' J' ((frS150 hf1).trans hf) hj hJ')
  | succ t ih =>
    intro i I J ht hS hJ hq
    have hM := hS.1
    obtain ⟨o1, o2⟩ := hM.o
    have hit : (zI (i : Int)).toInt = i := zI_t (by omega) (by omega)
    refine s_iload dX12_mixesBlock_36 rfl ?_
    refine s_iload_n (i := 3) dX12_mixesBlock_38 rfl rfl ?_
    refine s_icmp_ge (tgt := 60) dX12_mixesBlock_39 (by decide) (fun h39 => absurd h39 (fun h => by rw [zI_le (by omega) (by omega) (by omega) (by omega)] at h; omega)) (fun h39 => ?_)
    refine s_aload_n (i := 0) dX12_mixesBlock_42 rfl rfl ?_
    refine s_aload_n (i := 0) dX12_mixesBlock_43 rfl rfl ?_
    refine s_iload_n (i := 1) dX12_mixesBlock_44 rfl rfl ?_
    refine s_iload_n (i := 2) dX12_mixesBlock_45 rfl rfl ?_
    refine s_iload dX12_mixesBlock_46 rfl ?_
    refine s_cV_III (My := mX12_word) dX12_mixesBlock_48 wM_X12_295 cb_yX12_word ci_yX12_word (by assumption) (by assumption) (Nat.le_of_ble_eq_true rfl) (by decide) (s_d (by omega) (m_word (d := 0) hS hk (fun I1 hf1 => ?_)))
    rw [hxt, hyt, hit, fw i (by omega)]
    refine s_cV_J (My := mX12_mixes) dX12_mixesBlock_51 wM_X12_291 cb_yX12_mixes ci_yX12_mixes (by assumption) (by assumption) (Nat.le_of_ble_eq_true rfl) (by decide) (s_d (by omega) (m_mixes (d := 0) hM hJ (fun J1 hj1 hJ1 => ?_)))
    refine s_iinc dX12_mixesBlock_54 rfl (zI_inc _) (by decide) (by simp only [sl, sl2, rm, Value.category, reduceIte, Nat.reduceAdd, Nat.reduceEqDiff, reduceCtorEq]; rfl) ?_
    refine s_goto (tgt := 36) dX12_mixesBlock_57 (by decide) ?_
    exact ih (i + 1) I1 J1 (by omega) (hS.fr hf1) hJ1 (fun I' J' hf hj2' hJ' => hq I' J' (hf1.trans hf) (hj1.trans hj2') hJ')
set_option maxRecDepth 100000 in
set_option maxHeartbeats 1000000 in
theorem ml_mb1 {G : fG} {x0 : Nat} {l : Launch} {d k n : Nat} {T : fT} {Q : Option Value → fT → fI → fJ → Prop} {li j : Nat} {S : ASt} {h : Int64} (hk : SOk S) (hli : li < 6) (hj : j < (S.1 li).2.2.2) : ∀ (t i : Nat) (I : fI) (J : fJ), i + t = 7 → MIs T I S → J 144 34 = mixN (fun q => zL (bprop (S.1 li).1 (bf (S.1 li) j) (bl (S.1 li) j) q)) i h → (∀ (I' : fI) (J' : fJ), frS I I' → frL J J' → J' 144 34 = mixV (dgB (S.1 li).1 (bf (S.1 li) j) (bl (S.1 li) j) h) (zL (fCached S li j)) → Q none T I' J') → PW G x0 l mX12_mixesBlock (d + 6) (ZM G x0 Q) k n 2 [(0, .ref (x0 + 144)), (1, .int (zI li)), (2, .int (zI j)), (3, .int (zI i))] [] T I J := by
  have hxt : (zI (li : Int)).toInt = li := zI_t (by omega) (by omega)
  have hL := hk.1 li hli
  have hnm := hL.nbm
  have hmm := hL.1
  have hyt : (zI (j : Int)).toInt = j := zI_t (by omega) (by omega)
  have hB : isB S (li : Int) (j : Int) := ⟨by omega, by rw [Int.toNat_natCast]; omega⟩
  have fb : ∀ i : Nat, fBlock S li j i = bprop (S.1 li).1 (bf (S.1 li) j) (bl (S.1 li) j) i := fun i => by
    unfold fBlock
    rw [if_pos hB, Int.toNat_natCast, Int.toNat_natCast]
  have hm0 : ∀ I, MIs T I S → ML (I 145) (402 * li) (S.1 li) := fun I hS => hS.L hli
  intro t
  induction t with
  | zero =>
    intro i I J ht hS hJ hq
    have hM := hS.1
    obtain ⟨o1, o2⟩ := hM.o
    have hi : i = 7 := by omega
    subst hi
    refine s_iload_n (i := 3) dX12_mixesBlock_2 rfl rfl ?_
    refine s_bipush (v := 7) dX12_mixesBlock_3 (by decide) ?_
    refine s_icmp_ge (tgt := 26) dX12_mixesBlock_5 (by decide) (fun h5 => ?_) (fun h5 => absurd (by decide) h5)
    refine s_aload_n (i := 0) dX12_mixesBlock_26 rfl rfl ?_
    refine s_iload_n (i := 1) dX12_mixesBlock_27 rfl rfl ?_
    refine s_iload_n (i := 2) dX12_mixesBlock_28 rfl rfl ?_
    refine s_cV_II (My := mX12_words) dX12_mixesBlock_29 wM_X12_219 cb_yX12_words ci_yX12_words (by assumption) (by assumption) (Nat.le_of_ble_eq_true rfl) (by decide) (s_d (by omega) (m_words (d := 0) hM hli hL (hm0 I hS) hj (fun I1 hf1 _ => ?_)))
    refine s_istore_n (i := 3) dX12_mixesBlock_32 rfl (by decide) (by simp only [sl, sl2, rm, Value.category, reduceIte, Nat.reduceAdd, Nat.reduceEqDiff, reduceCtorEq]; rfl) ?_
    refine s_iconst (v := 0) dX12_mixesBlock_33 (by decide) ?_
    refine s_istore dX12_mixesBlock_34 (by decide) (by simp only [sl, sl2, rm, Value.category, reduceIte, Nat.reduceAdd, Nat.reduceEqDiff, reduceCtorEq]; rfl) ?_
    refine s_lv (lv' := [(0, .ref (x0 + 144)), (1, .int (zI li)), (2, .int (zI j)), (3, .int (zI (wordsN (S.1 li).1 (bf (S.1 li) j) (bl (S.1 li) j) : Nat))), (4, .int (zI ((0 : Nat) : Int)))]) ⟨rfl, rfl, rfl, rfl, rfl, trivial⟩ ?_
    exact ml_mb2 hk hli hj (wordsN (S.1 li).1 (bf (S.1 li) j) (bl (S.1 li) j)) 0 I1 J (by omega) (hS.fr (frS150 hf1)) hJ (fun I' J' hf hj hJ' => hq I' J' ((frS150 hf1).trans hf) hj hJ')
  | succ t ih =>
    intro i I J ht hS hJ hq
    have hM := hS.1
    obtain ⟨o1, o2⟩ := hM.o
    have hit : (zI (i : Int)).toInt = i := zI_t (by omega) (by omega)
    refine s_iload_n (i := 3) dX12_mixesBlock_2 rfl rfl ?_
    refine s_bipush (v := 7) dX12_mixesBlock_3 (by decide) ?_
    refine s_icmp_ge (tgt := 26) dX12_mixesBlock_5 (by decide) (fun h5 => absurd h5 (fun h => by rw [zl7] at h; rw [zI_le (by omega) (by omega) (by omega) (by omega)] at h; omega)) (fun h5 => ?_)
    refine s_aload_n (i := 0) dX12_mixesBlock_8 rfl rfl ?_
    refine s_aload_n (i := 0) dX12_mixesBlock_9 rfl rfl ?_
    refine s_iload_n (i := 1) dX12_mixesBlock_10 rfl rfl ?_
    refine s_iload_n (i := 2) dX12_mixesBlock_11 rfl rfl ?_
    refine s_iload_n (i := 3) dX12_mixesBlock_12 rfl rfl ?_
    refine s_cV_III (My := mX12_block) dX12_mixesBlock_13 wM_X12_288 cb_yX12_block ci_yX12_block (by assumption) (by assumption) (Nat.le_of_ble_eq_true rfl) (by decide) (s_d (by omega) (m_block (d := 0) hS hk (fun I1 hf1 => ?_)))
    rw [hxt, hyt, hit, fb i]
    refine s_i2l dX12_mixesBlock_16 ?_
    refine s_cV_J (My := mX12_mixes) dX12_mixesBlock_17 wM_X12_291 cb_yX12_mixes ci_yX12_mixes (by assumption) (by assumption) (Nat.le_of_ble_eq_true rfl) (by decide) (s_d (by omega) (m_mixes (d := 0) hM hJ (fun J1 hj1 hJ1 => ?_)))
    refine s_iinc dX12_mixesBlock_20 rfl (zI_inc _) (by decide) (by simp only [sl, sl2, rm, Value.category, reduceIte, Nat.reduceAdd, Nat.reduceEqDiff, reduceCtorEq]; rfl) ?_
    refine s_goto (tgt := 2) dX12_mixesBlock_23 (by decide) ?_
    exact ih (i + 1) I1 J1 (by omega) (hS.fr hf1) hJ1 (fun I' J' hf hj2' hJ' => hq I' J' (hf1.trans hf) (hj1.trans hj2') hJ')
set_option maxRecDepth 100000 in
set_option maxHeartbeats 1000000 in
theorem m_mixesBlock {G : fG} {x0 : Nat} {l : Launch} {d k n : Nat} {T : fT} {Q : Option Value → fT → fI → fJ → Prop} {I : fI} {J : fJ} {li j : Nat} {S : ASt} {h : Int64} (hk : SOk S) (hli : li < 6) (hj : j < (S.1 li).2.2.2) (hS : MIs T I S) (hJ : J 144 34 = h) (hq : ∀ (I' : fI) (J' : fJ), frS I I' → frL J J' → J' 144 34 = mixV (dgB (S.1 li).1 (bf (S.1 li) j) (bl (S.1 li) j) h) (zL (fCached S li j)) → Q none T I' J') : PW G x0 l mX12_mixesBlock (d + 6) (ZM G x0 Q) k n 0 [(0, .ref (x0 + 144)), (1, .int (zI li)), (2, .int (zI j))] [] T I J := by
  refine s_iconst (v := 0) dX12_mixesBlock_0 (by decide) ?_
  refine s_istore_n (i := 3) dX12_mixesBlock_1 rfl (by decide) (by simp only [sl, sl2, rm, Value.category, reduceIte, Nat.reduceAdd, Nat.reduceEqDiff, reduceCtorEq]; rfl) ?_
  exact ml_mb1 hk hli hj 7 0 I J (by omega) hS hJ hq
set_option maxRecDepth 100000 in
set_option maxHeartbeats 1000000 in
theorem ml_dg5 {G : fG} {x0 : Nat} {l : Launch} {d k n : Nat} {T : fT} {Q : Option Value → fT → fI → fJ → Prop} {S : ASt} {h : Int64} (hk : SOk S) : ∀ (t i : Nat) (I : fI) (J : fJ), i + t = S.2.2.2.1.2 → MIs T I S → J 144 34 = mixN (fun q => zL (S.2.2.2.1.1 q)) i h → (∀ (I' : fI) (J' : fJ), frS I I' → frL J J' → Q (some (.long (mixN (fun q => zL (S.2.2.2.1.1 q)) S.2.2.2.1.2 h))) T I' J') → PW G x0 l mX12_digest (d + 9) (ZM G x0 Q) k n 164 [(0, .ref (x0 + 144)), (1, .int (zI i))] [] T I J := by
  have htl := hk.2.2.2.2.1
  intro t
  induction t with
  | zero =>
    intro i I J ht hS hJ hq
    have hM := hS.1
    obtain ⟨o1, o2⟩ := hM.o
    obtain ⟨r149, b149, k149, n149⟩ := hM.a149
    obtain ⟨r155, b155, k155, n155⟩ := hM.a155
    obtain ⟨h18, h155⟩ := hS.2.2.2.2.1
    have hi : i = S.2.2.2.1.2 := by omega
    rw [hi] at hJ ⊢
    refine s_iload_n (i := 1) dX12_digest_164 rfl rfl ?_
    refine s_aload_n (i := 0) dX12_digest_165 rfl rfl ?_
    refine s_getI dX12_digest_166 fl_X12_170 (by assumption) (by assumption) ?_
    rw [h18]
    refine s_icmp_ge (tgt := 189) dX12_digest_169 (by decide) (fun h169 => ?_) (fun h169 => absurd ((zI_le (by omega) (by omega) (by omega) (by omega)).mpr (by omega)) h169)
    refine s_aload_n (i := 0) dX12_digest_189 rfl rfl ?_
    refine s_getJ dX12_digest_190 fl_X12_284 (by assumption) (by assumption) ?_
    rw [hJ]
    refine s_lret dX12_digest_193 rfl ?_
    exact hq I J (frS.refl I) (frL.refl J)
  | succ t ih =>
    intro i I J ht hS hJ hq
    have hM := hS.1
    obtain ⟨o1, o2⟩ := hM.o
    obtain ⟨r149, b149, k149, n149⟩ := hM.a149
    obtain ⟨r155, b155, k155, n155⟩ := hM.a155
    obtain ⟨h18, h155⟩ := hS.2.2.2.2.1
    refine s_iload_n (i := 1) dX12_digest_164 rfl rfl ?_
    refine s_aload_n (i := 0) dX12_digest_165 rfl rfl ?_
    refine s_getI dX12_digest_166 fl_X12_170 (by assumption) (by assumption) ?_
    rw [h18]
    refine s_icmp_ge (tgt := 189) dX12_digest_169 (by decide) (fun h169 => absurd h169 (fun h => by rw [zI_le (by omega) (by omega) (by omega) (by omega)] at h; omega)) (fun h169 => ?_)
    refine s_aload_n (i := 0) dX12_digest_172 rfl rfl ?_
    refine s_aload_n (i := 0) dX12_digest_173 rfl rfl ?_
    refine s_getR dX12_digest_174 fl_X12_47 (by assumption) (by assumption) (by assumption) ?_
    refine s_iload_n (i := 1) dX12_digest_177 rfl rfl ?_
    refine s_ildn (j := i) dX12_digest_178 (by assumption) (by assumption) (by assumption) (by first | with_reducible rfl | ((try simp only [z0, z1, zm1, zm2, zm3, zm4, zl2, zl3, zl4, zl5, zl6, zl7, zl8, zl9, zl10, zl20, zl28, zl31, zl32, zl33, zl48, zl57, zl64, zl100, zl127, zl200, zl201, zl202, zl402, zl1200, zl2412, zl16884, zI_add, zI_sub, zI_mul, zI_inc, zI_dec]) <;> (congr 1 <;> omega))) (by omega) (by decide) ?_
    rw [h155 i (by omega)]
    refine s_i2l dX12_digest_179 ?_
    refine s_cV_J (My := mX12_mixes) dX12_digest_180 wM_X12_291 cb_yX12_mixes ci_yX12_mixes (by assumption) (by assumption) (Nat.le_of_ble_eq_true rfl) (by decide) (s_d (by omega) (m_mixes (d := 0) hM hJ (fun J1 hj1 hJ1 => ?_)))
    refine s_iinc dX12_digest_183 rfl (zI_inc _) (by decide) (by simp only [sl, sl2, rm, Value.category, reduceIte, Nat.reduceAdd, Nat.reduceEqDiff, reduceCtorEq]; rfl) ?_
    refine s_goto (tgt := 164) dX12_digest_186 (by decide) ?_
    exact ih (i + 1) I J1 (by omega) hS hJ1 (fun I' J' hf hj => hq I' J' hf (hj1.trans hj))
set_option maxRecDepth 100000 in
set_option maxHeartbeats 1000000 in
theorem ml_dg4s {G : fG} {x0 : Nat} {l : Launch} {d k n : Nat} {T : fT} {Q : Option Value → fT → fI → fJ → Prop} {S : ASt} {h : Int64} {r : List Int × Int} (hk : SOk S) (hr : S.2.2.2.2 = some r) : ∀ (t i : Nat) (I : fI) (J : fJ), i + t = r.1.length → MIs T I S → J 144 34 = mixN (fun q => zL (lfn r.1 q)) i h → (∀ (I' : fI) (J' : fJ), frS I I' → frL J J' → Q (some (.long (mixN (fun q => zL (S.2.2.2.1.1 q)) S.2.2.2.1.2 (mixN (fun q => zL (lfn r.1 q)) r.1.length h)))) T I' J') → PW G x0 l mX12_digest (d + 9) (ZM G x0 Q) k n 137 [(0, .ref (x0 + 144)), (1, .int (zI i))] [] T I J := by
  have hl := (hk.2.2.2.2.2 r hr).2.2
  intro t
  induction t with
  | zero =>
    intro i I J ht hS hJ hq
    have hM := hS.1
    obtain ⟨o1, o2⟩ := hM.o
    obtain ⟨r149, b149, k149, n149⟩ := hM.a149
    obtain ⟨r155, b155, k155, n155⟩ := hM.a155
    have hR := hS.2.2.2.2.2
    rw [hr] at hR
    obtain ⟨r1, r2, r3⟩ := hR
    have hi : i = r.1.length := by omega
    rw [hi] at hJ ⊢
    refine s_iload_n (i := 1) dX12_digest_137 rfl rfl ?_
    refine s_aload_n (i := 0) dX12_digest_138 rfl rfl ?_
    refine s_getI dX12_digest_139 fl_X12_25 (by assumption) (by assumption) ?_
    rw [r1]
    refine s_icmp_ge (tgt := 162) dX12_digest_142 (by decide) (fun h142 => ?_) (fun h142 => absurd ((zI_le (by omega) (by omega) (by omega) (by omega)).mpr (by omega)) h142)
    refine s_iconst (v := 0) dX12_digest_162 (by decide) ?_
    refine s_istore_n (i := 1) dX12_digest_163 rfl (by decide) (by simp only [sl, sl2, rm, Value.category, reduceIte, Nat.reduceAdd, Nat.reduceEqDiff, reduceCtorEq]; rfl) ?_
    exact ml_dg5 hk S.2.2.2.1.2 0 I J (by omega) hS hJ hq
  | succ t ih =>
    intro i I J ht hS hJ hq
    have hM := hS.1
    obtain ⟨o1, o2⟩ := hM.o
    obtain ⟨r149, b149, k149, n149⟩ := hM.a149
    obtain ⟨r155, b155, k155, n155⟩ := hM.a155
    have hR := hS.2.2.2.2.2
    rw [hr] at hR
    obtain ⟨r1, r2, r3⟩ := hR
    refine s_iload_n (i := 1) dX12_digest_137 rfl rfl ?_
    refine s_aload_n (i := 0) dX12_digest_138 rfl rfl ?_
    refine s_getI dX12_digest_139 fl_X12_25 (by assumption) (by assumption) ?_
    rw [r1]
    refine s_icmp_ge (tgt := 162) dX12_digest_142 (by decide) (fun h142 => absurd h142 (fun h => by rw [zI_le (by omega) (by omega) (by omega) (by omega)] at h; omega)) (fun h142 => ?_)
    refine s_aload_n (i := 0) dX12_digest_145 rfl rfl ?_
    refine s_aload_n (i := 0) dX12_digest_146 rfl rfl ?_
    refine s_getR dX12_digest_147 fl_X12_22 (by assumption) (by assumption) (by assumption) ?_
    refine s_iload_n (i := 1) dX12_digest_150 rfl rfl ?_
    refine s_ildn (j := i) dX12_digest_151 (by assumption) (by assumption) (by assumption) (by first | with_reducible rfl | ((try simp only [z0, z1, zm1, zm2, zm3, zm4, zl2, zl3, zl4, zl5, zl6, zl7, zl8, zl9, zl10, zl20, zl28, zl31, zl32, zl33, zl48, zl57, zl64, zl100, zl127, zl200, zl201, zl202, zl402, zl1200, zl2412, zl16884, zI_add, zI_sub, zI_mul, zI_inc, zI_dec]) <;> (congr 1 <;> omega))) (by omega) (by decide) ?_
    rw [r3 i (by omega)]
    refine s_i2l dX12_digest_152 ?_
    refine s_cV_J (My := mX12_mixes) dX12_digest_153 wM_X12_291 cb_yX12_mixes ci_yX12_mixes (by assumption) (by assumption) (Nat.le_of_ble_eq_true rfl) (by decide) (s_d (by omega) (m_mixes (d := 0) hM hJ (fun J1 hj1 hJ1 => ?_)))
    refine s_iinc dX12_digest_156 rfl (zI_inc _) (by decide) (by simp only [sl, sl2, rm, Value.category, reduceIte, Nat.reduceAdd, Nat.reduceEqDiff, reduceCtorEq]; rfl) ?_
    refine s_goto (tgt := 137) dX12_digest_159 (by decide) ?_
    exact ih (i + 1) I J1 (by omega) hS hJ1 (fun I' J' hf hj => hq I' J' hf (hj1.trans hj))
set_option maxRecDepth 100000 in
set_option maxHeartbeats 1000000 in
theorem ml_dg4 {G : fG} {x0 : Nat} {l : Launch} {d k n : Nat} {T : fT} {Q : Option Value → fT → fI → fJ → Prop} {I : fI} {J : fJ} {S : ASt} {h : Int64} (hk : SOk S) (hS : MIs T I S) (hJ : J 144 34 = h) (hq : (∀ (I' : fI) (J' : fJ), frS I I' → frL J J' → Q (some (.long (mixN (fun q => zL (S.2.2.2.1.1 q)) S.2.2.2.1.2 (dgR S.2.2.2.2 h)))) T I' J')) : PW G x0 l mX12_digest (d + 9) (ZM G x0 Q) k n 135 [(0, .ref (x0 + 144))] [] T I J := by
  have hM := hS.1
  obtain ⟨o1, o2⟩ := hM.o
  obtain ⟨r149, b149, k149, n149⟩ := hM.a149
  obtain ⟨r155, b155, k155, n155⟩ := hM.a155
  cases hr : S.2.2.2.2 with
  | none =>
    rw [hr] at hq
    have hR := hS.2.2.2.2.2
    rw [hr] at hR
    obtain ⟨r1, r2⟩ := hR
    refine s_iconst (v := 0) dX12_digest_135 (by decide) ?_
    refine s_istore_n (i := 1) dX12_digest_136 rfl (by decide) (by simp only [sl, sl2, rm, Value.category, reduceIte, Nat.reduceAdd, Nat.reduceEqDiff, reduceCtorEq]; rfl) ?_
    refine s_iload_n (i := 1) dX12_digest_137 rfl rfl ?_
    refine s_aload_n (i := 0) dX12_digest_138 rfl rfl ?_
    refine s_getI dX12_digest_139 fl_X12_25 (by assumption) (by assumption) ?_
    rw [r1]
    refine s_icmp_ge (tgt := 162) dX12_digest_142 (by decide) (fun h142 => ?_) (fun h142 => absurd (by decide) h142)
    refine s_iconst (v := 0) dX12_digest_162 (by decide) ?_
    refine s_istore_n (i := 1) dX12_digest_163 rfl (by decide) (by simp only [sl, sl2, rm, Value.category, reduceIte, Nat.reduceAdd, Nat.reduceEqDiff, reduceCtorEq]; rfl) ?_
    exact ml_dg5 hk S.2.2.2.1.2 0 I J (by omega) hS hJ hq
  | some r =>
    rw [hr] at hq
    refine s_iconst (v := 0) dX12_digest_135 (by decide) ?_
    refine s_istore_n (i := 1) dX12_digest_136 rfl (by decide) (by simp only [sl, sl2, rm, Value.category, reduceIte, Nat.reduceAdd, Nat.reduceEqDiff, reduceCtorEq]; rfl) ?_
    exact ml_dg4s hk hr r.1.length 0 I J (by omega) hS hJ hq
set_option maxRecDepth 100000 in
set_option maxHeartbeats 1000000 in
theorem ml_dg3i {G : fG} {x0 : Nat} {l : Launch} {d k n : Nat} {T : fT} {Q : Option Value → fT → fI → fJ → Prop} {S : ASt} {li : Nat} {h : Int64} (hk : SOk S) (hli : li < 6) : ∀ (t i : Nat) (I : fI) (J : fJ), i + t = (S.1 li).2.1 → MIs T I S → J 144 34 = mixN (fun q => zL ((S.1 li).1 q)) i h → (∀ (I' : fI) (J' : fJ), frS I I' → frL J J' → J' 144 34 = mixN (fun q => zL ((S.1 li).1 q)) (S.1 li).2.1 h → PW G x0 l mX12_digest (d + 9) (ZM G x0 Q) k n 129 [(0, .ref (x0 + 144)), (1, .int (zI li))] [] T I' J') → PW G x0 l mX12_digest (d + 9) (ZM G x0 Q) k n 103 [(0, .ref (x0 + 144)), (1, .int (zI li)), (2, .int (zI i))] [] T I J := by
  have hmm := (hk.1 li hli).1
  intro t
  induction t with
  | zero =>
    intro i I J ht hS hJ kk
    have hM := hS.1
    obtain ⟨o1, o2⟩ := hM.o
    obtain ⟨r149, b149, k149, n149⟩ := hM.a149
    obtain ⟨r155, b155, k155, n155⟩ := hM.a155
    have hm := hS.L hli
    have hi : i = (S.1 li).2.1 := by omega
    rw [hi] at hJ ⊢
    refine s_iload_n (i := 2) dX12_digest_103 rfl rfl ?_
    refine s_aload_n (i := 0) dX12_digest_104 rfl rfl ?_
    refine s_iload_n (i := 1) dX12_digest_105 rfl rfl ?_
    refine s_cV_I (My := mX12_many) dX12_digest_106 wM_X12_131 cb_yX12_many ci_yX12_many (by assumption) (by assumption) (Nat.le_of_ble_eq_true rfl) (by decide) (s_d (by omega) (m_many (d := 0) hM hli ?_))
    rw [hm.1]
    refine s_icmp_ge (tgt := 129) dX12_digest_109 (by decide) (fun h109 => ?_) (fun h109 => absurd ((zI_le (by omega) (by omega) (by omega) (by omega)).mpr (by omega)) h109)
    refine s_lv (lv' := [(0, .ref (x0 + 144)), (1, .int (zI li))]) ⟨rfl, rfl, trivial⟩ ?_
    exact kk I J (frS.refl I) (frL.refl J) hJ
  | succ t ih =>
    intro i I J ht hS hJ kk
    have hM := hS.1
    obtain ⟨o1, o2⟩ := hM.o
    obtain ⟨r149, b149, k149, n149⟩ := hM.a149
    obtain ⟨r155, b155, k155, n155⟩ := hM.a155
    have hm := hS.L hli
    refine s_iload_n (i := 2) dX12_digest_103 rfl rfl ?_
    refine s_aload_n (i := 0) dX12_digest_104 rfl rfl ?_
    refine s_iload_n (i := 1) dX12_digest_105 rfl rfl ?_
    refine s_cV_I (My := mX12_many) dX12_digest_106 wM_X12_131 cb_yX12_many ci_yX12_many (by assumption) (by assumption) (Nat.le_of_ble_eq_true rfl) (by decide) (s_d (by omega) (m_many (d := 0) hM hli ?_))
    rw [hm.1]
    refine s_icmp_ge (tgt := 129) dX12_digest_109 (by decide) (fun h109 => absurd h109 (fun h => by rw [zI_le (by omega) (by omega) (by omega) (by omega)] at h; omega)) (fun h109 => ?_)
    refine s_aload_n (i := 0) dX12_digest_112 rfl rfl ?_
    refine s_aload_n (i := 0) dX12_digest_113 rfl rfl ?_
    refine s_iload_n (i := 1) dX12_digest_114 rfl rfl ?_
    refine s_iload_n (i := 2) dX12_digest_115 rfl rfl ?_
    refine s_cV_II (My := mX12_number) dX12_digest_116 wM_X12_103 cb_yX12_number ci_yX12_number (by assumption) (by assumption) (Nat.le_of_ble_eq_true rfl) (by decide) (s_d (by omega) (m_number (d := 0) hM hli (by omega) ?_))
    rw [hm.2.1 i (by omega)]
    refine s_i2l dX12_digest_119 ?_
    refine s_cV_J (My := mX12_mixes) dX12_digest_120 wM_X12_291 cb_yX12_mixes ci_yX12_mixes (by assumption) (by assumption) (Nat.le_of_ble_eq_true rfl) (by decide) (s_d (by omega) (m_mixes (d := 0) hM hJ (fun J1 hj1 hJ1 => ?_)))
    refine s_iinc dX12_digest_123 rfl (zI_inc _) (by decide) (by simp only [sl, sl2, rm, Value.category, reduceIte, Nat.reduceAdd, Nat.reduceEqDiff, reduceCtorEq]; rfl) ?_
    refine s_goto (tgt := 103) dX12_digest_126 (by decide) ?_
    exact ih (i + 1) I J1 (by omega) hS hJ1 (fun I' J' hf hj hJ' => kk I' J' hf (hj1.trans hj) hJ')
set_option maxRecDepth 100000 in
set_option maxHeartbeats 1000000 in
theorem ml_dg3 {G : fG} {x0 : Nat} {l : Launch} {d k n : Nat} {T : fT} {Q : Option Value → fT → fI → fJ → Prop} {S : ASt} {h : Int64} (hk : SOk S) : ∀ (t i : Nat) (I : fI) (J : fJ), i + t = 6 → MIs T I S → J 144 34 = dgRs S i h → (∀ (I' : fI) (J' : fJ), frS I I' → frL J J' → Q (some (.long (mixN (fun q => zL (S.2.2.2.1.1 q)) S.2.2.2.1.2 (dgR S.2.2.2.2 (dgRs S 6 h))))) T I' J') → PW G x0 l mX12_digest (d + 9) (ZM G x0 Q) k n 95 [(0, .ref (x0 + 144)), (1, .int (zI i))] [] T I J := by
  intro t
  induction t with
  | zero =>
    intro i I J ht hS hJ hq
    have hM := hS.1
    obtain ⟨o1, o2⟩ := hM.o
    obtain ⟨r149, b149, k149, n149⟩ := hM.a149
    obtain ⟨r155, b155, k155, n155⟩ := hM.a155
    have hi : i = 6 := by omega
    subst hi
    refine s_iload_n (i := 1) dX12_digest_95 rfl rfl ?_
    refine s_bipush (v := 6) dX12_digest_96 (by decide) ?_
    refine s_icmp_ge (tgt := 135) dX12_digest_98 (by decide) (fun h98 => ?_) (fun h98 => absurd (by decide) h98)
    refine s_lv (lv' := [(0, .ref (x0 + 144))]) ⟨rfl, trivial⟩ ?_
    exact ml_dg4 hk hS hJ hq
  | succ t ih =>
    intro i I J ht hS hJ hq
    have hM := hS.1
    obtain ⟨o1, o2⟩ := hM.o
    obtain ⟨r149, b149, k149, n149⟩ := hM.a149
    obtain ⟨r155, b155, k155, n155⟩ := hM.a155
    refine s_iload_n (i := 1) dX12_digest_95 rfl rfl ?_
    refine s_bipush (v := 6) dX12_digest_96 (by decide) ?_
    refine s_icmp_ge (tgt := 135) dX12_digest_98 (by decide) (fun h98 => absurd h98 (fun h => by rw [zl6] at h; rw [zI_le (by omega) (by omega) (by omega) (by omega)] at h; omega)) (fun h98 => ?_)
    refine s_iconst (v := 0) dX12_digest_101 (by decide) ?_
    refine s_istore_n (i := 2) dX12_digest_102 rfl (by decide) (by simp only [sl, sl2, rm, Value.category, reduceIte, Nat.reduceAdd, Nat.reduceEqDiff, reduceCtorEq]; rfl) ?_
    refine ml_dg3i (li := i) (h := dgRs S i h) hk (by omega) (S.1 i).2.1 0 I J (by omega) hS hJ (fun I1 J1 hf1 hj1 hJ1 => ?_)
    refine s_iinc dX12_digest_129 rfl (zI_inc _) (by decide) (by simp only [sl, sl2, rm, Value.category, reduceIte, Nat.reduceAdd, Nat.reduceEqDiff, reduceCtorEq]; rfl) ?_
    refine s_goto (tgt := 95) dX12_digest_132 (by decide) ?_
    exact ih (i + 1) I1 J1 (by omega) (hS.fr hf1) hJ1 (fun I' J' hf hj => hq I' J' (hf1.trans hf) (hj1.trans hj))
set_option maxRecDepth 100000 in
set_option maxHeartbeats 1000000 in
theorem ml_dg2b {G : fG} {x0 : Nat} {l : Launch} {d k n : Nat} {T : fT} {Q : Option Value → fT → fI → fJ → Prop} {S : ASt} {li : Nat} {h : Int64} (hk : SOk S) (hli : li < 6) : ∀ (t i : Nat) (I : fI) (J : fJ), i + t = (S.1 li).2.2.2 → MIs T I S → J 144 34 = dgBs S li i h → (∀ (I' : fI) (J' : fJ), frS I I' → frL J J' → J' 144 34 = dgBs S li (S.1 li).2.2.2 h → PW G x0 l mX12_digest (d + 9) (ZM G x0 Q) k n 87 [(0, .ref (x0 + 144)), (1, .int (zI li))] [] T I' J') → PW G x0 l mX12_digest (d + 9) (ZM G x0 Q) k n 66 [(0, .ref (x0 + 144)), (1, .int (zI li)), (2, .int (zI i))] [] T I J := by
  have hmm := (hk.1 li hli).1
  have hnm := (hk.1 li hli).nbm
  intro t
  induction t with
  | zero =>
    intro i I J ht hS hJ kk
    have hM := hS.1
    obtain ⟨o1, o2⟩ := hM.o
    obtain ⟨r149, b149, k149, n149⟩ := hM.a149
    obtain ⟨r155, b155, k155, n155⟩ := hM.a155
    have hm := hS.L hli
    have hi : i = (S.1 li).2.2.2 := by omega
    rw [hi] at hJ ⊢
    refine s_iload_n (i := 2) dX12_digest_66 rfl rfl ?_
    refine s_aload_n (i := 0) dX12_digest_67 rfl rfl ?_
    refine s_iload_n (i := 1) dX12_digest_68 rfl rfl ?_
    refine s_cV_I (My := mX12_blocks) dX12_digest_69 wM_X12_77 cb_yX12_blocks ci_yX12_blocks (by assumption) (by assumption) (Nat.le_of_ble_eq_true rfl) (by decide) (s_d (by omega) (m_blocks (d := 0) hM hli ?_))
    rw [hm.2.2.1]
    refine s_icmp_ge (tgt := 87) dX12_digest_72 (by decide) (fun h72 => ?_) (fun h72 => absurd ((zI_le (by omega) (by omega) (by omega) (by omega)).mpr (by omega)) h72)
    refine s_lv (lv' := [(0, .ref (x0 + 144)), (1, .int (zI li))]) ⟨rfl, rfl, trivial⟩ ?_
    exact kk I J (frS.refl I) (frL.refl J) hJ
  | succ t ih =>
    intro i I J ht hS hJ kk
    have hM := hS.1
    obtain ⟨o1, o2⟩ := hM.o
    obtain ⟨r149, b149, k149, n149⟩ := hM.a149
    obtain ⟨r155, b155, k155, n155⟩ := hM.a155
    have hm := hS.L hli
    refine s_iload_n (i := 2) dX12_digest_66 rfl rfl ?_
    refine s_aload_n (i := 0) dX12_digest_67 rfl rfl ?_
    refine s_iload_n (i := 1) dX12_digest_68 rfl rfl ?_
    refine s_cV_I (My := mX12_blocks) dX12_digest_69 wM_X12_77 cb_yX12_blocks ci_yX12_blocks (by assumption) (by assumption) (Nat.le_of_ble_eq_true rfl) (by decide) (s_d (by omega) (m_blocks (d := 0) hM hli ?_))
    rw [hm.2.2.1]
    refine s_icmp_ge (tgt := 87) dX12_digest_72 (by decide) (fun h72 => absurd h72 (fun h => by rw [zI_le (by omega) (by omega) (by omega) (by omega)] at h; omega)) (fun h72 => ?_)
    refine s_aload_n (i := 0) dX12_digest_75 rfl rfl ?_
    refine s_iload_n (i := 1) dX12_digest_76 rfl rfl ?_
    refine s_iload_n (i := 2) dX12_digest_77 rfl rfl ?_
    refine s_cV_II (My := mX12_mixesBlock) dX12_digest_78 wM_X12_311 cb_yX12_mixesBlock ci_yX12_mixesBlock (by assumption) (by assumption) (Nat.le_of_ble_eq_true rfl) (by decide) (s_d (by omega) (m_mixesBlock (d := 0) hk hli (by omega) hS hJ (fun I1 J1 hf1 hj1 hJ1 => ?_)))
    refine s_iinc dX12_digest_81 rfl (zI_inc _) (by decide) (by simp only [sl, sl2, rm, Value.category, reduceIte, Nat.reduceAdd, Nat.reduceEqDiff, reduceCtorEq]; rfl) ?_
    refine s_goto (tgt := 66) dX12_digest_84 (by decide) ?_
    exact ih (i + 1) I1 J1 (by omega) (hS.fr hf1) hJ1 (fun I' J' hf hj hJ' => kk I' J' (hf1.trans hf) (hj1.trans hj) hJ')
set_option maxRecDepth 100000 in
set_option maxHeartbeats 1000000 in
theorem ml_dg2a {G : fG} {x0 : Nat} {l : Launch} {d k n : Nat} {T : fT} {Q : Option Value → fT → fI → fJ → Prop} {S : ASt} {li : Nat} {h : Int64} (hk : SOk S) (hli : li < 6) : ∀ (t i : Nat) (I : fI) (J : fJ), i + t = 6 → MIs T I S → J 144 34 = mixN (fun q => zL (fList S li q)) i h → (∀ (I' : fI) (J' : fJ), frS I I' → frL J J' → J' 144 34 = mixN (fun q => zL (fList S li q)) 6 h → PW G x0 l mX12_digest (d + 9) (ZM G x0 Q) k n 64 [(0, .ref (x0 + 144)), (1, .int (zI li))] [] T I' J') → PW G x0 l mX12_digest (d + 9) (ZM G x0 Q) k n 41 [(0, .ref (x0 + 144)), (1, .int (zI li)), (2, .int (zI i))] [] T I J := by
  have fl : ∀ i : Nat, fList S li i = listP (S.1 li) i := fun i => by
    unfold fList
    rw [if_pos (by omega), Int.toNat_natCast]
  intro t
  induction t with
  | zero =>
    intro i I J ht hS hJ kk
    have hM := hS.1
    obtain ⟨o1, o2⟩ := hM.o
    obtain ⟨r149, b149, k149, n149⟩ := hM.a149
    obtain ⟨r155, b155, k155, n155⟩ := hM.a155
    have hi : i = 6 := by omega
    subst hi
    refine s_iload_n (i := 2) dX12_digest_41 rfl rfl ?_
    refine s_bipush (v := 6) dX12_digest_42 (by decide) ?_
    refine s_icmp_ge (tgt := 64) dX12_digest_44 (by decide) (fun h44 => ?_) (fun h44 => absurd (by decide) h44)
    refine s_lv (lv' := [(0, .ref (x0 + 144)), (1, .int (zI li))]) ⟨rfl, rfl, trivial⟩ ?_
    exact kk I J (frS.refl I) (frL.refl J) hJ
  | succ t ih =>
    intro i I J ht hS hJ kk
    have hM := hS.1
    obtain ⟨o1, o2⟩ := hM.o
    obtain ⟨r149, b149, k149, n149⟩ := hM.a149
    obtain ⟨r155, b155, k155, n155⟩ := hM.a155
    have hit : (zI (i : Int)).toInt = i := zI_t (by omega) (by omega)
    refine s_iload_n (i := 2) dX12_digest_41 rfl rfl ?_
    refine s_bipush (v := 6) dX12_digest_42 (by decide) ?_
    refine s_icmp_ge (tgt := 64) dX12_digest_44 (by decide) (fun h44 => absurd h44 (fun h => by rw [zl6] at h; rw [zI_le (by omega) (by omega) (by omega) (by omega)] at h; omega)) (fun h44 => ?_)
    refine s_aload_n (i := 0) dX12_digest_47 rfl rfl ?_
    refine s_aload_n (i := 0) dX12_digest_48 rfl rfl ?_
    refine s_iload_n (i := 1) dX12_digest_49 rfl rfl ?_
    refine s_iload_n (i := 2) dX12_digest_50 rfl rfl ?_
    refine s_cV_II (My := mX12_listPart) dX12_digest_51 wM_X12_213 cb_yX12_listPart ci_yX12_listPart (by assumption) (by assumption) (Nat.le_of_ble_eq_true rfl) (by decide) (s_d (by omega) (m_listPart (d := 0) hM hli (hk.1 li hli) (hS.L hli) (by rw [hit]; omega) (fun I1 hf1 => ?_)))
    rw [hit, ← fl i]
    refine s_i2l dX12_digest_54 ?_
    refine s_cV_J (My := mX12_mixes) dX12_digest_55 wM_X12_291 cb_yX12_mixes ci_yX12_mixes (by assumption) (by assumption) (Nat.le_of_ble_eq_true rfl) (by decide) (s_d (by omega) (m_mixes (d := 0) hM hJ (fun J1 hj1 hJ1 => ?_)))
    refine s_iinc dX12_digest_58 rfl (zI_inc _) (by decide) (by simp only [sl, sl2, rm, Value.category, reduceIte, Nat.reduceAdd, Nat.reduceEqDiff, reduceCtorEq]; rfl) ?_
    refine s_goto (tgt := 41) dX12_digest_61 (by decide) ?_
    exact ih (i + 1) I1 J1 (by omega) (hS.fr (frS150 hf1)) hJ1 (fun I' J' hf hj hJ' => kk I' J' ((frS150 hf1).trans hf) (hj1.trans hj) hJ')
set_option maxRecDepth 100000 in
set_option maxHeartbeats 1000000 in
theorem ml_dg2 {G : fG} {x0 : Nat} {l : Launch} {d k n : Nat} {T : fT} {Q : Option Value → fT → fI → fJ → Prop} {S : ASt} {h : Int64} (hk : SOk S) : ∀ (t i : Nat) (I : fI) (J : fJ), i + t = 6 → MIs T I S → J 144 34 = dgLs S i h → (∀ (I' : fI) (J' : fJ), frS I I' → frL J J' → Q (some (.long (mixN (fun q => zL (S.2.2.2.1.1 q)) S.2.2.2.1.2 (dgR S.2.2.2.2 (dgRs S 6 (dgLs S 6 h)))))) T I' J') → PW G x0 l mX12_digest (d + 9) (ZM G x0 Q) k n 33 [(0, .ref (x0 + 144)), (1, .int (zI i))] [] T I J := by
  intro t
  induction t with
  | zero =>
    intro i I J ht hS hJ hq
    have hM := hS.1
    obtain ⟨o1, o2⟩ := hM.o
    obtain ⟨r149, b149, k149, n149⟩ := hM.a149
    obtain ⟨r155, b155, k155, n155⟩ := hM.a155
    have hi : i = 6 := by omega
    subst hi
    refine s_iload_n (i := 1) dX12_digest_33 rfl rfl ?_
    refine s_bipush (v := 6) dX12_digest_34 (by decide) ?_
    refine s_icmp_ge (tgt := 93) dX12_digest_36 (by decide) (fun h36 => ?_) (fun h36 => absurd (by decide) h36)
    refine s_iconst (v := 0) dX12_digest_93 (by decide) ?_
    refine s_istore_n (i := 1) dX12_digest_94 rfl (by decide) (by simp only [sl, sl2, rm, Value.category, reduceIte, Nat.reduceAdd, Nat.reduceEqDiff, reduceCtorEq]; rfl) ?_
    exact ml_dg3 hk 6 0 I J (by omega) hS hJ hq
  | succ t ih =>
    intro i I J ht hS hJ hq
    have hM := hS.1
    obtain ⟨o1, o2⟩ := hM.o
    obtain ⟨r149, b149, k149, n149⟩ := hM.a149
    obtain ⟨r155, b155, k155, n155⟩ := hM.a155
    refine s_iload_n (i := 1) dX12_digest_33 rfl rfl ?_
    refine s_bipush (v := 6) dX12_digest_34 (by decide) ?_
    refine s_icmp_ge (tgt := 93) dX12_digest_36 (by decide) (fun h36 => absurd h36 (fun h => by rw [zl6] at h; rw [zI_le (by omega) (by omega) (by omega) (by omega)] at h; omega)) (fun h36 => ?_)
    refine s_iconst (v := 0) dX12_digest_39 (by decide) ?_
    refine s_istore_n (i := 2) dX12_digest_40 rfl (by decide) (by simp only [sl, sl2, rm, Value.category, reduceIte, Nat.reduceAdd, Nat.reduceEqDiff, reduceCtorEq]; rfl) ?_
    refine ml_dg2a (li := i) (h := dgLs S i h) hk (by omega) 6 0 I J (by omega) hS hJ (fun I1 J1 hf1 hj1 hJ1 => ?_)
    refine s_iconst (v := 0) dX12_digest_64 (by decide) ?_
    refine s_istore_n (i := 2) dX12_digest_65 rfl (by decide) (by simp only [sl, sl2, rm, Value.category, reduceIte, Nat.reduceAdd, Nat.reduceEqDiff, reduceCtorEq]; rfl) ?_
    refine ml_dg2b (li := i) (h := mixN (fun q => zL (fList S i q)) 6 (dgLs S i h)) hk (by omega) (S.1 i).2.2.2 0 I1 J1 (by omega) (hS.fr hf1) hJ1 (fun I2 J2 hf2 hj2 hJ2 => ?_)
    refine s_iinc dX12_digest_87 rfl (zI_inc _) (by decide) (by simp only [sl, sl2, rm, Value.category, reduceIte, Nat.reduceAdd, Nat.reduceEqDiff, reduceCtorEq]; rfl) ?_
    refine s_goto (tgt := 33) dX12_digest_90 (by decide) ?_
    exact ih (i + 1) I2 J2 (by omega) (hS.fr (hf1.trans hf2)) hJ2 (fun I' J' hf hj => hq I' J' ((hf1.trans hf2).trans hf) ((hj1.trans hj2).trans hj))
set_option maxRecDepth 100000 in
set_option maxHeartbeats 1000000 in
theorem ml_dg1 {G : fG} {x0 : Nat} {l : Launch} {d k n : Nat} {T : fT} {Q : Option Value → fT → fI → fJ → Prop} {S : ASt} (hk : SOk S) : ∀ (t i : Nat) (I : fI) (J : fJ), i + t = 10 → MIs T I S → J 144 34 = mixN (fun q => zL (fCount S q)) i 619 → (∀ (I' : fI) (J' : fJ), frS I I' → frL J J' → Q (some (.long (fDig S))) T I' J') → PW G x0 l mX12_digest (d + 9) (ZM G x0 Q) k n 9 [(0, .ref (x0 + 144)), (1, .int (zI i))] [] T I J := by
  intro t
  induction t with
  | zero =>
    intro i I J ht hS hJ hq
    have hM := hS.1
    obtain ⟨o1, o2⟩ := hM.o
    obtain ⟨r149, b149, k149, n149⟩ := hM.a149
    obtain ⟨r155, b155, k155, n155⟩ := hM.a155
    have hi : i = 10 := by omega
    subst hi
    refine s_iload_n (i := 1) dX12_digest_9 rfl rfl ?_
    refine s_bipush (v := 10) dX12_digest_10 (by decide) ?_
    refine s_icmp_ge (tgt := 31) dX12_digest_12 (by decide) (fun h12 => ?_) (fun h12 => absurd (by decide) h12)
    refine s_iconst (v := 0) dX12_digest_31 (by decide) ?_
    refine s_istore_n (i := 1) dX12_digest_32 rfl (by decide) (by simp only [sl, sl2, rm, Value.category, reduceIte, Nat.reduceAdd, Nat.reduceEqDiff, reduceCtorEq]; rfl) ?_
    exact ml_dg2 hk 6 0 I J (by omega) hS hJ hq
  | succ t ih =>
    intro i I J ht hS hJ hq
    have hM := hS.1
    obtain ⟨o1, o2⟩ := hM.o
    obtain ⟨r149, b149, k149, n149⟩ := hM.a149
    obtain ⟨r155, b155, k155, n155⟩ := hM.a155
    have hit : (zI (i : Int)).toInt = i := zI_t (by omega) (by omega)
    refine s_iload_n (i := 1) dX12_digest_9 rfl rfl ?_
    refine s_bipush (v := 10) dX12_digest_10 (by decide) ?_
    refine s_icmp_ge (tgt := 31) dX12_digest_12 (by decide) (fun h12 => absurd h12 (fun h => by rw [zl10] at h; rw [zI_le (by omega) (by omega) (by omega) (by omega)] at h; omega)) (fun h12 => ?_)
    refine s_aload_n (i := 0) dX12_digest_15 rfl rfl ?_
    refine s_aload_n (i := 0) dX12_digest_16 rfl rfl ?_
    refine s_iload_n (i := 1) dX12_digest_17 rfl rfl ?_
    refine s_cV_I (My := mX12_count) dX12_digest_18 wM_X12_308 cb_yX12_count ci_yX12_count (by assumption) (by assumption) (Nat.le_of_ble_eq_true rfl) (by decide) (s_d (by omega) (m_count (d := 0) hS hk (fun I1 hf1 => ?_)))
    rw [hit]
    refine s_i2l dX12_digest_21 ?_
    refine s_cV_J (My := mX12_mixes) dX12_digest_22 wM_X12_291 cb_yX12_mixes ci_yX12_mixes (by assumption) (by assumption) (Nat.le_of_ble_eq_true rfl) (by decide) (s_d (by omega) (m_mixes (d := 0) hM hJ (fun J1 hj1 hJ1 => ?_)))
    refine s_iinc dX12_digest_25 rfl (zI_inc _) (by decide) (by simp only [sl, sl2, rm, Value.category, reduceIte, Nat.reduceAdd, Nat.reduceEqDiff, reduceCtorEq]; rfl) ?_
    refine s_goto (tgt := 9) dX12_digest_28 (by decide) ?_
    exact ih (i + 1) I1 J1 (by omega) (hS.fr hf1) hJ1 (fun I' J' hf hj => hq I' J' (hf1.trans hf) (hj1.trans hj))
set_option maxRecDepth 100000 in
set_option maxHeartbeats 1000000 in
theorem m_digest {G : fG} {x0 : Nat} {l : Launch} {d k n : Nat} {T : fT} {Q : Option Value → fT → fI → fJ → Prop} {I : fI} {J : fJ} {S : ASt} (hS : MIs T I S) (hk : SOk S) (hq : (∀ (I' : fI) (J' : fJ), frS I I' → frL J J' → Q (some (.long (fDig S))) T I' J')) : PW G x0 l mX12_digest (d + 9) (ZM G x0 Q) k n 0 [(0, .ref (x0 + 144))] [] T I J := by
  have hM := hS.1
  obtain ⟨o1, o2⟩ := hM.o
  obtain ⟨r149, b149, k149, n149⟩ := hM.a149
  obtain ⟨r155, b155, k155, n155⟩ := hM.a155
  refine s_aload_n (i := 0) dX12_digest_0 rfl rfl ?_
  refine s_ldc2 dX12_digest_1 wK_X12_306 ?_
  refine s_putJ dX12_digest_4 fp_X12_284 (by assumption) (by assumption) ?_
  refine s_iconst (v := 0) dX12_digest_7 (by decide) ?_
  refine s_istore_n (i := 1) dX12_digest_8 rfl (by decide) (by simp only [sl, sl2, rm, Value.category, reduceIte, Nat.reduceAdd, Nat.reduceEqDiff, reduceCtorEq]; rfl) ?_
  exact ml_dg1 hk 10 0 I _ (by omega) hS (by simp [ju, mixN]) (fun I' J' hf hj => hq I' J' hf (frL.trans (fun b hb => ju_ne hb) hj))
