/-! packing in the model -/
def MN (f : Nat → Int32) (b : Nat) (g : Nat → Int) (m : Nat) : Prop := f b = zI m ∧ ∀ q, q < m → f (b + 1 + q) = zI (g q)
theorem ML.n {f : Nat → Int32} {b : Nat} {L : LSt} (h : ML f b L) : MN f b L.1 L.2.1 := ⟨h.1, h.2.1⟩
theorem bz20 {g : Nat → Int} {m : Nat} (h : GapOk g m) {f len : Nat} (hfl : f + len ≤ m) : ∀ q, q < len - 1 → bz g (f + 1 + q) ≤ 20 := fun q hq => bz_le h (by omega) (by omega)
set_option maxRecDepth 100000 in
set_option maxHeartbeats 1000000 in
theorem m_gapN {G : fG} {x0 : Nat} {l : Launch} {d k n : Nat} {T : fT} {I : fI} {J : fJ} {Q : Option Value → fT → fI → fJ → Prop} {li m : Nat} {g : Nat → Int} (hM : MObj T) (hli : li < 6) (hmm : m ≤ 200) (hg : GapOk g m) (hm : MN (I 145) (402 * li) g m) {i : Nat} (h1 : 1 ≤ i) (h2 : i < m) (hq : Q (some (.int (zI (gp g i)))) T I J) : PW G x0 l mX12_gap (d + 1) (ZM G x0 Q) k n 0 [(0, .ref (x0 + 144)), (1, .int (zI li)), (2, .int (zI i))] [] T I J := by
  obtain ⟨o1, o2⟩ := hM.o
  have hg' := hg i h1 h2
  have e : ((gp g i : Nat) : Int) = g i - g (i - 1) - 1 := by unfold gp; omega
  refine s_aload_n (i := 0) dX12_gap_0 rfl rfl ?_
  refine s_iload_n (i := 1) dX12_gap_1 rfl rfl ?_
  refine s_iload_n (i := 2) dX12_gap_2 rfl rfl ?_
  refine s_cV_II (My := mX12_number) dX12_gap_3 wM_X12_103 cb_yX12_number ci_yX12_number (by assumption) (by assumption) (Nat.le_of_ble_eq_true rfl) (by decide) (s_d (by omega) (m_number (d := 0) hM hli (by omega) ?_))
  rw [hm.2 i h2]
  refine s_aload_n (i := 0) dX12_gap_6 rfl rfl ?_
  refine s_iload_n (i := 1) dX12_gap_7 rfl rfl ?_
  refine s_iload_n (i := 2) dX12_gap_8 rfl rfl ?_
  refine s_iconst (v := 1) dX12_gap_9 (by decide) ?_
  refine s_isub dX12_gap_10 ?_
  refine s_topi (y := zI ((i - 1 : Nat) : Int)) (by first | with_reducible rfl | ((try simp only [z0, z1, zm1, zm2, zm3, zm4, zl2, zl3, zl4, zl5, zl6, zl7, zl8, zl9, zl10, zl20, zl28, zl31, zl32, zl33, zl48, zl57, zl64, zl100, zl127, zl200, zl201, zl202, zl402, zl1200, zl2412, zl16884, zI_add, zI_sub, zI_mul, zI_inc, zI_dec]) <;> (congr 1 <;> omega))) ?_
  refine s_cV_II (My := mX12_number) dX12_gap_11 wM_X12_103 cb_yX12_number ci_yX12_number (by assumption) (by assumption) (Nat.le_of_ble_eq_true rfl) (by decide) (s_d (by omega) (m_number (d := 0) (i := i - 1) hM hli (by omega) ?_))
  rw [hm.2 (i - 1) (by omega)]
  refine s_isub dX12_gap_14 ?_
  refine s_iconst (v := 1) dX12_gap_15 (by decide) ?_
  refine s_isub dX12_gap_16 ?_
  refine s_topi (y := zI (gp g i)) (by first | with_reducible rfl | ((try simp only [z0, z1, zm1, zm2, zm3, zm4, zl2, zl3, zl4, zl5, zl6, zl7, zl8, zl9, zl10, zl20, zl28, zl31, zl32, zl33, zl48, zl57, zl64, zl100, zl127, zl200, zl201, zl202, zl402, zl1200, zl2412, zl16884, zI_add, zI_sub, zI_mul, zI_inc, zI_dec]) <;> (congr 1 <;> omega))) ?_
  refine s_iret dX12_gap_17 rfl ?_
  exact hq
set_option maxRecDepth 100000 in
set_option maxHeartbeats 1000000 in
theorem ml_countsN2 {G : fG} {x0 : Nat} {l : Launch} {d k n : Nat} {T : fT} {J : fJ} {Q : Option Value → fT → fI → fJ → Prop} {li m : Nat} {g : Nat → Int} (hM : MObj T) (hli : li < 6) (hmm : m ≤ 200) (hg : GapOk g m) {f len : Nat} (hfl : f + len ≤ m) : ∀ (t c : Nat) (I : fI), 1 ≤ c → (c + t = len ∨ (t = 0 ∧ len ≤ c ∧ c = 1)) → MN (I 145) (402 * li) g m → NeedIs I g f c → (∀ I', fr I I' [150] → NeedIs I' g f len → Q none T I' J) → PW G x0 l mX12_counts (d + 2) (ZM G x0 Q) k n 29 [(0, .ref (x0 + 144)), (1, .int (zI li)), (2, .int (zI f)), (3, .int (zI ((f : Int) + len - 1))), (4, .int (zI ((f + c : Nat) : Int)))] [] T I J := by
  obtain ⟨o1, o2⟩ := hM.o
  obtain ⟨r150, b150, k150, n150⟩ := hM.a150
  intro t
  induction t with
  | zero =>
    intro c I hc ht hm hN hq
    have hn2 : NeedIs I g f len := fun v hv => by rw [hN v hv]; unfold need; rw [show c - 1 = len - 1 by omega]
    refine s_iload dX12_counts_29 rfl ?_
    refine s_iload_n (i := 3) dX12_counts_31 rfl rfl ?_
    refine s_icmp_gt (tgt := 60) dX12_counts_32 (by decide) (fun h32 => ?_) (fun h32 => absurd ((zI_lt (by omega) (by omega) (by omega) (by omega)).mpr (by omega)) h32)
    refine s_ret dX12_counts_60 rfl ?_
    exact hq I (fr_refl I _) hn2
  | succ t ih =>
    intro c I hc ht hm hN hq
    have hbz : bz g (f + c) ≤ 20 := bz_le hg (by omega) (by omega)
    have hgp := hg (f + c) (by omega) (by omega)
    have hge : ((gp g (f + c) : Nat) : Int) = g (f + c) - g (f + c - 1) - 1 := by unfold gp; omega
    have hnl := need_le g f c (bz g (f + c))
    refine s_iload dX12_counts_29 rfl ?_
    refine s_iload_n (i := 3) dX12_counts_31 rfl rfl ?_
    refine s_icmp_gt (tgt := 60) dX12_counts_32 (by decide) (fun h32 => absurd h32 (fun h => by rw [zI_lt (by omega) (by omega) (by omega) (by omega)] at h; omega)) (fun h32 => ?_)
    refine s_aload_n (i := 0) dX12_counts_35 rfl rfl ?_
    refine s_getR dX12_counts_36 fl_X12_32 (by assumption) (by assumption) (by assumption) ?_
    refine s_aload_n (i := 0) dX12_counts_39 rfl rfl ?_
    refine s_iload_n (i := 1) dX12_counts_40 rfl rfl ?_
    refine s_iload dX12_counts_41 rfl ?_
    refine s_cV_II (My := mX12_gap) dX12_counts_43 wM_X12_106 cb_yX12_gap ci_yX12_gap (by assumption) (by assumption) (Nat.le_of_ble_eq_true rfl) (by decide) (s_d (by omega) (m_gapN (d := 0) (i := f + c) hM hli hmm hg hm (by omega) (by omega) ?_))
    refine s_cS_I (My := mX12_bitsOf) dX12_counts_46 wM_X12_109 cb_yX12_bitsOf wT_yX12_bitsOf (Nat.le_of_ble_eq_true rfl) (by decide) (s_d (by omega) (m_bits (d := 0) (x := ((gp g (f + c) : Nat) : Int)) (by omega) (by omega) ?_))
    rw [Int.toNat_natCast]
    refine s_dup2 dX12_counts_49 rfl rfl ?_
    refine s_ildn (j := bz g (f + c)) dX12_counts_50 (by assumption) (by assumption) (by assumption) (rfl) (by omega) (by decide) ?_
    refine s_iconst (v := 1) dX12_counts_51 (by decide) ?_
    refine s_iadd dX12_counts_52 ?_
    refine s_istn (j := bz g (f + c)) dX12_counts_53 (by assumption) (by assumption) (by assumption) (rfl) (by omega) (by decide) ?_
    refine s_iinc dX12_counts_54 rfl (zI_inc _) (by decide) (by simp only [sl, sl2, rm, Value.category, reduceIte, Nat.reduceAdd, Nat.reduceEqDiff, reduceCtorEq]; rfl) ?_
    refine s_goto (tgt := 29) dX12_counts_57 (by decide) ?_
    refine ih (c + 1) _ (by omega) (by omega) (by rw [iu_ne (by omega)]; exact hm) (fun v hv => ?_) (fun I' hf hN' => hq I' (fr_trans (fr_iu (by simp)) hf) hN')
    rw [need_succ g f c v hc]
    by_cases e : bz g (f + c) = v
    · subst e
      rw [iu_at, if_pos rfl, hN _ hbz, z1, zI_add]
      congr 1
    · rw [iu_j (fun h => e h.symm), if_neg e, hN v hv]
      congr 1
set_option maxRecDepth 100000 in
set_option maxHeartbeats 1000000 in
theorem ml_countsN1 {G : fG} {x0 : Nat} {l : Launch} {d k n : Nat} {T : fT} {J : fJ} {Q : Option Value → fT → fI → fJ → Prop} {li m : Nat} {g : Nat → Int} (hM : MObj T) (hli : li < 6) (hmm : m ≤ 200) (hg : GapOk g m) {f len : Nat} (hfl : f + len ≤ m) : ∀ (t i : Nat) (I : fI), i + t = 21 → MN (I 145) (402 * li) g m → (∀ q, q < i → I 150 q = 0) → (∀ I', fr I I' [150] → NeedIs I' g f len → Q none T I' J) → PW G x0 l mX12_counts (d + 2) (ZM G x0 Q) k n 3 [(0, .ref (x0 + 144)), (1, .int (zI li)), (2, .int (zI f)), (3, .int (zI ((f : Int) + len - 1))), (4, .int (zI (i : Int)))] [] T I J := by
  obtain ⟨o1, o2⟩ := hM.o
  obtain ⟨r150, b150, k150, n150⟩ := hM.a150
  intro t
  induction t with
  | zero =>
    intro i I ht hm hN hq
    have hi : i = 21 := by omega
    subst hi
    refine s_iload dX12_counts_3 rfl ?_
    refine s_bipush (v := 20) dX12_counts_5 (by decide) ?_
    refine s_icmp_gt (tgt := 24) dX12_counts_7 (by decide) (fun h7 => ?_) (fun h7 => absurd (by decide) h7)
    refine s_iload_n (i := 2) dX12_counts_24 rfl rfl ?_
    refine s_iconst (v := 1) dX12_counts_25 (by decide) ?_
    refine s_iadd dX12_counts_26 ?_
    refine s_topi (y := zI ((f + 1 : Nat) : Int)) (by first | with_reducible rfl | ((try simp only [z0, z1, zm1, zm2, zm3, zm4, zl2, zl3, zl4, zl5, zl6, zl7, zl8, zl9, zl10, zl20, zl28, zl31, zl32, zl33, zl48, zl57, zl64, zl100, zl127, zl200, zl201, zl202, zl402, zl1200, zl2412, zl16884, zI_add, zI_sub, zI_mul, zI_inc, zI_dec]) <;> (congr 1 <;> omega))) ?_
    refine s_istore dX12_counts_27 (by decide) (by simp only [sl, sl2, rm, Value.category, reduceIte, Nat.reduceAdd, Nat.reduceEqDiff, reduceCtorEq]; rfl) ?_
    refine ml_countsN2 hM hli hmm hg hfl (len - 1) 1 I (Nat.le_refl 1) (by omega) hm (fun v hv => ?_) hq
    rw [hN v (by omega)]
    rfl
  | succ t ih =>
    intro i I ht hm hN hq
    refine s_iload dX12_counts_3 rfl ?_
    refine s_bipush (v := 20) dX12_counts_5 (by decide) ?_
    refine s_icmp_gt (tgt := 24) dX12_counts_7 (by decide) (fun h7 => absurd h7 (fun h => by simp only [z0, z1, zm1, zm2, zm3, zm4, zl2, zl3, zl4, zl5, zl6, zl7, zl8, zl9, zl10, zl20, zl28, zl31, zl32, zl33, zl48, zl57, zl64, zl100, zl127, zl200, zl201, zl202, zl402, zl1200, zl2412, zl16884, zI_add, zI_sub, zI_mul, zI_inc, zI_dec] at h; rw [zI_lt (by omega) (by omega) (by omega) (by omega)] at h; omega)) (fun h7 => ?_)
    refine s_aload_n (i := 0) dX12_counts_10 rfl rfl ?_
    refine s_getR dX12_counts_11 fl_X12_32 (by assumption) (by assumption) (by assumption) ?_
    refine s_iload dX12_counts_14 rfl ?_
    refine s_iconst (v := 0) dX12_counts_16 (by decide) ?_
    refine s_istn (j := i) dX12_counts_17 (by assumption) (by assumption) (by assumption) (by first | with_reducible rfl | ((try simp only [z0, z1, zm1, zm2, zm3, zm4, zl2, zl3, zl4, zl5, zl6, zl7, zl8, zl9, zl10, zl20, zl28, zl31, zl32, zl33, zl48, zl57, zl64, zl100, zl127, zl200, zl201, zl202, zl402, zl1200, zl2412, zl16884, zI_add, zI_sub, zI_mul, zI_inc, zI_dec]) <;> (congr 1 <;> omega))) (by omega) (by decide) ?_
    refine s_iinc dX12_counts_18 rfl (zI_inc _) (by decide) (by simp only [sl, sl2, rm, Value.category, reduceIte, Nat.reduceAdd, Nat.reduceEqDiff, reduceCtorEq]; rfl) ?_
    refine s_goto (tgt := 3) dX12_counts_21 (by decide) ?_
    refine ih (i + 1) _ (by omega) (by rw [iu_ne (by omega)]; exact hm) (fun q hq2 => ?_) (fun I' hf hN' => hq I' (fr_trans (fr_iu (by simp)) hf) hN')
    by_cases e : q = i
    · subst e; exact iu_at
    · rw [iu_j e]; exact hN q (by omega)
set_option maxRecDepth 100000 in
set_option maxHeartbeats 1000000 in
theorem m_countsN {G : fG} {x0 : Nat} {l : Launch} {d k n : Nat} {T : fT} {I : fI} {J : fJ} {Q : Option Value → fT → fI → fJ → Prop} {li m : Nat} {g : Nat → Int} (hM : MObj T) (hli : li < 6) (hmm : m ≤ 200) (hg : GapOk g m) {f len : Nat} (hm : MN (I 145) (402 * li) g m) (hfl : f + len ≤ m) (hq : ∀ I', fr I I' [150] → NeedIs I' g f len → Q none T I' J) : PW G x0 l mX12_counts (d + 2) (ZM G x0 Q) k n 0 [(0, .ref (x0 + 144)), (1, .int (zI li)), (2, .int (zI f)), (3, .int (zI ((f : Int) + len - 1)))] [] T I J := by
  refine s_iconst (v := 0) dX12_counts_0 (by decide) ?_
  refine s_istore dX12_counts_1 (by decide) (by simp only [sl, sl2, rm, Value.category, reduceIte, Nat.reduceAdd, Nat.reduceEqDiff, reduceCtorEq]; rfl) ?_
  exact ml_countsN1 hM hli hmm hg hfl 21 0 I (by omega) hm (fun q h => absurd h (Nat.not_lt_zero q)) hq
/-- the costs, blocks and first lengths from i on -/
def PlIs (I : fI) (m : Nat) (R : Nat → Int) (E : Nat → Nat) (i : Nat) : Prop := ∀ e, i ≤ e → e ≤ m → (∃ C B : Int, I 152 e = zI C ∧ I 153 e = zI B ∧ R e = 256 * C + B ∧ 0 ≤ B ∧ B ≤ (m : Int) - e ∧ 0 ≤ C ∧ C ≤ 100000 * ((m : Int) - e)) ∧ (e < m → I 154 e = zI ((E e : Int) - e))
/-- the best of the first b lengths -/
def BestB (I : fI) (g : Nat → Int) (R : Nat → Int) (m i b : Nat) (C B : Int) (lb : Nat) : Prop := I 152 i = zI C ∧ I 153 i = zI B ∧ I 154 i = zI lb ∧ 1 ≤ lb ∧ lb ≤ b ∧ 256 * C + B = pval g R i (i + lb) ∧ 0 ≤ B ∧ B ≤ (m : Int) - i ∧ 0 ≤ C ∧ C ≤ 100000 * ((m : Int) - i) ∧ ∀ l', 1 ≤ l' → l' ≤ b → pval g R i (i + lb) ≤ pval g R i (i + l') ∧ (pval g R i (i + lb) = pval g R i (i + l') → lb ≤ l')
theorem BestB.fin {I : fI} {g : Nat → Int} {R : Nat → Int} {E : Nat → Nat} {m i b lb : Nat} {C B : Int} (h : BestB I g R m i b C B lb) (hP : Plan g m R E) (hi : i < m) (hb : b ≤ 64) (hb2 : i + b ≤ m) (hb3 : b = 64 ∨ i + b = m) (hp : PlIs I m R E (i + 1)) : PlIs I m R E i := by
  obtain ⟨h1, h2, h3, h4, h5, h6, h7, h8, h9, h10, h11⟩ := h
  obtain ⟨p1, p2, p3, p4, p5⟩ := hP.2 i hi
  have q1 := p5 (i + lb) (by omega) (by omega) (by omega)
  have q2 := h11 (E i - i) (by omega) (by omega)
  rw [show i + (E i - i) = E i by omega, ← p4] at q2
  have hR : R i = pval g R i (i + lb) := by omega
  have hE := q1.2 hR
  have hE2 := q2.2 hR.symm
  intro e he1 he2
  rcases Nat.lt_or_ge i e with c | c
  · exact hp e (by omega) he2
  · have : e = i := by omega
    subst this
    refine ⟨⟨C, B, h1, h2, by omega, h7, h8, h9, h10⟩, fun _ => ?_⟩
    rw [h3]
    congr 1
    omega
theorem BestB.one {I : fI} {g : Nat → Int} {R : Nat → Int} {m i : Nat} {C B : Int} (h1 : I 152 i = zI C) (h2 : I 153 i = zI B) (h3 : I 154 i = zI ((1 : Nat) : Int)) (h4 : 256 * C + B = pval g R i (i + 1)) (h5 : 0 ≤ B ∧ B ≤ (m : Int) - i) (h6 : 0 ≤ C ∧ C ≤ 100000 * ((m : Int) - i)) : BestB I g R m i 1 C B 1 := by
  refine ⟨h1, h2, h3, Nat.le_refl 1, Nat.le_refl 1, h4, h5.1, h5.2, h6.1, h6.2, fun l' a b => ?_⟩
  have : l' = 1 := by omega
  subst this
  exact ⟨Int.le_refl _, fun _ => Nat.le_refl _⟩
theorem BestB.new {I I' : fI} {g : Nat → Int} {R : Nat → Int} {m i b lb : Nat} {C B C' B' : Int} (h : BestB I g R m i b C B lb) (h1 : I' 152 i = zI C') (h2 : I' 153 i = zI B') (h3 : I' 154 i = zI ((b + 1 : Nat) : Int)) (h4 : 256 * C' + B' = pval g R i (i + (b + 1))) (h5 : 0 ≤ B' ∧ B' ≤ (m : Int) - i) (h6 : 0 ≤ C' ∧ C' ≤ 100000 * ((m : Int) - i)) (h7 : 256 * C' + B' < 256 * C + B) : BestB I' g R m i (b + 1) C' B' (b + 1) := by
  obtain ⟨-, -, -, a4, a5, a6, -, -, -, -, a11⟩ := h
  refine ⟨h1, h2, h3, by omega, Nat.le_refl _, h4, h5.1, h5.2, h6.1, h6.2, fun l' x y => ?_⟩
  rcases Nat.lt_or_ge b l' with c | c
  · have : l' = b + 1 := by omega
    subst this
    exact ⟨Int.le_refl _, fun _ => Nat.le_refl _⟩
  · have := (a11 l' x c).1
    omega
theorem BestB.old {I I' : fI} {g : Nat → Int} {R : Nat → Int} {m i b lb : Nat} {C B V : Int} (h : BestB I g R m i b C B lb) (h1 : I' 152 i = zI C) (h2 : I' 153 i = zI B) (h3 : I' 154 i = zI lb) (h4 : V = pval g R i (i + (b + 1))) (h7 : 256 * C + B ≤ V) : BestB I' g R m i (b + 1) C B lb := by
  obtain ⟨-, -, -, a4, a5, a6, b1, b2, b3, b4, a11⟩ := h
  refine ⟨h1, h2, h3, a4, by omega, a6, b1, b2, b3, b4, fun l' x y => ?_⟩
  rcases Nat.lt_or_ge b l' with c | c
  · have : l' = b + 1 := by omega
    subst this
    exact ⟨by omega, fun _ => by omega⟩
  · exact a11 l' x c
theorem PlIs.keep {I I' : fI} {m i : Nat} {R : Nat → Int} {E : Nat → Nat} (h : PlIs I m R E (i + 1)) (h1 : ∀ q, q ≠ i → I' 152 q = I 152 q ∧ I' 153 q = I 153 q ∧ I' 154 q = I 154 q) : PlIs I' m R E (i + 1) := fun e a b => by
  obtain ⟨g1, g2, g3⟩ := h1 e (by omega)
  have := h e a b
  rw [g1, g2, g3]
  exact this
set_option maxRecDepth 100000 in
set_option maxHeartbeats 1000000 in
theorem ml_solves {G : fG} {x0 : Nat} {l : Launch} {d k n : Nat} {T : fT} {J : fJ} {Q : Option Value → fT → fI → fJ → Prop} {li m : Nat} {g : Nat → Int} (hM : MObj T) (hli : li < 6) (hmm : m ≤ 200) (hg : GapOk g m) {R : Nat → Int} {E : Nat → Nat} {i : Nat} (hPl : Plan g m R E) (hi : i < m) : ∀ (t b : Nat) (Cb Bb : Int) (lb : Nat) (I : fI), b + t = 64 → 1 ≤ b → b ≤ 64 → i + b ≤ m → MN (I 145) (402 * li) g m → NeedIs I g i b → PlIs I m R E (i + 1) → BestB I g R m i b Cb Bb lb → (∀ I', fr I I' [150, 152, 153, 154] → PlIs I' m R E i → Q none T I' J) → PW G x0 l mX12_solves (d + 2) (ZM G x0 Q) k n 30 [(0, .ref (x0 + 144)), (1, .int (zI li)), (2, .int (zI i)), (3, .int (zI m)), (4, .int (zI ((b : Int) + 1)))] [] T I J := by
  obtain ⟨o1, o2⟩ := hM.o
  obtain ⟨r150, b150, k150, n150⟩ := hM.a150
  obtain ⟨r152, b152, k152, n152⟩ := hM.a152
  obtain ⟨r153, b153, k153, n153⟩ := hM.a153
  obtain ⟨r154, b154, k154, n154⟩ := hM.a154
  intro t
  induction t with
  | zero =>
    intro b Cb Bb lb I ht hb1 hb2 hb3 hm hN hp hB hq
    have hb : b = 64 := by omega
    subst hb
    refine s_iload dX12_solves_30 rfl ?_
    refine s_bipush (v := 64) dX12_solves_32 (by decide) ?_
    refine s_icmp_gt (tgt := 229) dX12_solves_34 (by decide) (fun h34 => ?_) (fun h34 => absurd (by decide) h34)
    refine s_ret dX12_solves_229 rfl ?_
    exact hq I (fr_refl I _) (hB.fin hPl hi (by omega) hb3 (Or.inl rfl) hp)
  | succ t ih =>
    intro b Cb Bb lb I ht hb1 hb2 hb3 hm hN hp hB hq
    refine s_iload dX12_solves_30 rfl ?_
    refine s_bipush (v := 64) dX12_solves_32 (by decide) ?_
    refine s_icmp_gt (tgt := 229) dX12_solves_34 (by decide) (fun h34 => absurd h34 (fun h => by simp only [z0, z1, zm1, zm2, zm3, zm4, zl2, zl3, zl4, zl5, zl6, zl7, zl8, zl9, zl10, zl20, zl28, zl31, zl32, zl33, zl48, zl57, zl64, zl100, zl127, zl200, zl201, zl202, zl402, zl1200, zl2412, zl16884, zI_add, zI_sub, zI_mul, zI_inc, zI_dec] at h; rw [zI_lt (by omega) (by omega) (by omega) (by omega)] at h; omega)) (fun h34 => ?_)
    refine s_iload_n (i := 2) dX12_solves_37 rfl rfl ?_
    refine s_iload dX12_solves_38 rfl ?_
    refine s_iadd dX12_solves_40 ?_
    refine s_topi (y := zI ((i + (b + 1) : Nat) : Int)) (by first | with_reducible rfl | ((try simp only [z0, z1, zm1, zm2, zm3, zm4, zl2, zl3, zl4, zl5, zl6, zl7, zl8, zl9, zl10, zl20, zl28, zl31, zl32, zl33, zl48, zl57, zl64, zl100, zl127, zl200, zl201, zl202, zl402, zl1200, zl2412, zl16884, zI_add, zI_sub, zI_mul, zI_inc, zI_dec]) <;> (congr 1 <;> omega))) ?_
    refine s_iload_n (i := 3) dX12_solves_41 rfl rfl ?_
    refine s_icmp_gt (tgt := 229) dX12_solves_42 (by decide) (fun c42 => ?_) (fun c42 => ?_)
    · refine s_ret dX12_solves_229 rfl ?_
      rw [zI_lt (by omega) (by omega) (by omega) (by omega)] at c42
      exact hq I (fr_refl I _) (hB.fin hPl hi hb2 hb3 (Or.inr (by omega)) hp)
    · rw [zI_lt (by omega) (by omega) (by omega) (by omega)] at c42
      have hbz : bz g (i + b) ≤ 20 := bz_le hg (by omega) (by omega)
      have hgp := hg (i + b) (by omega) (by omega)
      have hge : ((gp g (i + b) : Nat) : Int) = g (i + b) - g (i + b - 1) - 1 := by unfold gp; omega
      refine s_iload dX12_solves_45 rfl ?_
      refine s_iconst (v := 1) dX12_solves_47 (by decide) ?_
      refine s_icmp_le (tgt := 74) dX12_solves_48 (by decide) (fun h48 => absurd h48 (fun h => by simp only [z0, z1, zm1, zm2, zm3, zm4, zl2, zl3, zl4, zl5, zl6, zl7, zl8, zl9, zl10, zl20, zl28, zl31, zl32, zl33, zl48, zl57, zl64, zl100, zl127, zl200, zl201, zl202, zl402, zl1200, zl2412, zl16884, zI_add, zI_sub, zI_mul, zI_inc, zI_dec] at h; rw [zI_le (by omega) (by omega) (by omega) (by omega)] at h; omega)) (fun h48 => ?_)
      refine s_aload_n (i := 0) dX12_solves_51 rfl rfl ?_
      refine s_getR dX12_solves_52 fl_X12_32 (by assumption) (by assumption) (by assumption) ?_
      refine s_aload_n (i := 0) dX12_solves_55 rfl rfl ?_
      refine s_iload_n (i := 1) dX12_solves_56 rfl rfl ?_
      refine s_iload_n (i := 2) dX12_solves_57 rfl rfl ?_
      refine s_iload dX12_solves_58 rfl ?_
      refine s_iadd dX12_solves_60 ?_
      refine s_iconst (v := 1) dX12_solves_61 (by decide) ?_
      refine s_isub dX12_solves_62 ?_
      refine s_topi (y := zI ((i + b : Nat) : Int)) (by first | with_reducible rfl | ((try simp only [z0, z1, zm1, zm2, zm3, zm4, zl2, zl3, zl4, zl5, zl6, zl7, zl8, zl9, zl10, zl20, zl28, zl31, zl32, zl33, zl48, zl57, zl64, zl100, zl127, zl200, zl201, zl202, zl402, zl1200, zl2412, zl16884, zI_add, zI_sub, zI_mul, zI_inc, zI_dec]) <;> (congr 1 <;> omega))) ?_
      refine s_cV_II (My := mX12_gap) dX12_solves_63 wM_X12_106 cb_yX12_gap ci_yX12_gap (by assumption) (by assumption) (Nat.le_of_ble_eq_true rfl) (by decide) (s_d (by omega) (m_gapN (d := 0) (i := i + b) hM hli hmm hg hm (by omega) (by omega) ?_))
      refine s_cS_I (My := mX12_bitsOf) dX12_solves_66 wM_X12_109 cb_yX12_bitsOf wT_yX12_bitsOf (Nat.le_of_ble_eq_true rfl) (by decide) (s_d (by omega) (m_bits (d := 0) (x := ((gp g (i + b) : Nat) : Int)) (by omega) (by omega) ?_))
      rw [Int.toNat_natCast]
      refine s_dup2 dX12_solves_69 rfl rfl ?_
      refine s_ildn (j := bz g (i + b)) dX12_solves_70 (by assumption) (by assumption) (by assumption) (rfl) (by omega) (by decide) ?_
      refine s_iconst (v := 1) dX12_solves_71 (by decide) ?_
      refine s_iadd dX12_solves_72 ?_
      refine s_istn (j := bz g (i + b)) dX12_solves_73 (by assumption) (by assumption) (by assumption) (rfl) (by omega) (by decide) ?_
      obtain ⟨I1, hI1⟩ : ∃ I1, I1 = iu I 150 (bz g (i + b)) (I 150 (bz g (i + b)) + 1) := ⟨_, rfl⟩
      rw [← hI1]
      have hfr1 : fr I I1 [150, 152, 153, 154] := by rw [hI1]; exact fr_iu (by simp)
      have hN1 : NeedIs I1 g i (b + 1) := fun v hv => by
        rw [hI1, need_succ g i b v hb1]
        by_cases e : bz g (i + b) = v
        · subst e
          rw [iu_at, if_pos rfl, hN _ hbz, z1, zI_add]
          congr 1
        · rw [iu_j (fun h => e h.symm), if_neg e, hN v hv]
          congr 1
      have hx : ∀ q, q ≠ 150 → I1 q = I q := fun q h => by rw [hI1]; exact iu_ne h
      have hm1 : MN (I1 145) (402 * li) g m := by rw [hx 145 (by omega)]; exact hm
      have hp1 : PlIs I1 m R E (i + 1) := hp.keep (fun q _ => by rw [hx 152 (by omega), hx 153 (by omega), hx 154 (by omega)]; exact ⟨rfl, rfl, rfl⟩)
      have hb152 : I1 152 i = zI Cb := by rw [hx 152 (by omega)]; exact hB.1
      have hb153 : I1 153 i = zI Bb := by rw [hx 153 (by omega)]; exact hB.2.1
      have hb154 : I1 154 i = zI lb := by rw [hx 154 (by omega)]; exact hB.2.2.1
      obtain ⟨-, -, -, w4, w5, w6, w7, w8, w9, w10, -⟩ := id hB
      have h20 := bz20 hg (f := i) (len := b + 1) (by omega)
      obtain ⟨⟨C, B, q1, q2, q3, q4, q5, q6, q7⟩, -⟩ := hp1 (i + (b + 1)) (by omega) (by omega)
      have hcb := csw_bd (g := g) (f := i) (len := (b + 1)) (by omega) (by omega) (w := bw g i ((b + 1))) (bw_le _ _ _)
      have hcb : 32 ≤ bcost g i ((b + 1)) ∧ bcost g i ((b + 1)) ≤ 100000 := hcb
      have hpv : 256 * (bcost g i ((b + 1)) + C) + (1 + B) = pval g R i (i + (b + 1)) := by
        unfold pval
        rw [show i + (b + 1) - i = (b + 1) by omega]
        omega
      refine s_aload_n (i := 0) dX12_solves_74 rfl rfl ?_
      refine s_iload dX12_solves_75 rfl ?_
      refine s_aload_n (i := 0) dX12_solves_77 rfl rfl ?_
      refine s_iload dX12_solves_78 rfl ?_
      refine s_topi (y := zI ((b + 1 : Nat) : Int)) (by first | with_reducible rfl | ((try simp only [z0, z1, zm1, zm2, zm3, zm4, zl2, zl3, zl4, zl5, zl6, zl7, zl8, zl9, zl10, zl20, zl28, zl31, zl32, zl33, zl48, zl57, zl64, zl100, zl127, zl200, zl201, zl202, zl402, zl1200, zl2412, zl16884, zI_add, zI_sub, zI_mul, zI_inc, zI_dec]) <;> (congr 1 <;> omega))) ?_
      refine s_cV_I (My := mX12_best) dX12_solves_80 wM_X12_119 cb_yX12_best ci_yX12_best (by assumption) (by assumption) (Nat.le_of_ble_eq_true rfl) (by decide) (s_d (by omega) (m_best (d := 0) (len := b + 1) hM hN1 h20 (by omega) (by omega) ?_))
      refine s_st (st2 := [.int (zI (bw g i (b + 1))), .int (zI ((b + 1 : Nat) : Int)), .ref (x0 + 144)]) (by congr 2) ?_
      refine s_cV_II (My := mX12_costOf) dX12_solves_83 wM_X12_125 cb_yX12_costOf ci_yX12_costOf (by assumption) (by assumption) (Nat.le_of_ble_eq_true rfl) (by decide) (s_d (by omega) (m_costOf (d := 0) (len := b + 1) hM hN1 h20 (bw_le _ _ _) ?_))
      refine s_aload_n (i := 0) dX12_solves_86 rfl rfl ?_
      refine s_getR dX12_solves_87 fl_X12_38 (by assumption) (by assumption) (by assumption) ?_
      refine s_iload_n (i := 2) dX12_solves_90 rfl rfl ?_
      refine s_iload dX12_solves_91 rfl ?_
      refine s_iadd dX12_solves_93 ?_
      refine s_ildn (j := i + (b + 1)) dX12_solves_94 (by assumption) (by assumption) (by assumption) (by first | with_reducible rfl | ((try simp only [z0, z1, zm1, zm2, zm3, zm4, zl2, zl3, zl4, zl5, zl6, zl7, zl8, zl9, zl10, zl20, zl28, zl31, zl32, zl33, zl48, zl57, zl64, zl100, zl127, zl200, zl201, zl202, zl402, zl1200, zl2412, zl16884, zI_add, zI_sub, zI_mul, zI_inc, zI_dec]) <;> (congr 1 <;> omega))) (by omega) (by decide) ?_
      rw [q1]
      refine s_iadd dX12_solves_95 ?_
      refine s_topi (y := zI (bcost g i (b + 1) + C)) (by rw [zI_add]; rfl) ?_
      refine s_istore dX12_solves_96 (by decide) (by simp only [sl, sl2, rm, Value.category, reduceIte, Nat.reduceAdd, Nat.reduceEqDiff, reduceCtorEq]; rfl) ?_
      refine s_iconst (v := 1) dX12_solves_98 (by decide) ?_
      refine s_aload_n (i := 0) dX12_solves_99 rfl rfl ?_
      refine s_getR dX12_solves_100 fl_X12_41 (by assumption) (by assumption) (by assumption) ?_
      refine s_iload_n (i := 2) dX12_solves_103 rfl rfl ?_
      refine s_iload dX12_solves_104 rfl ?_
      refine s_iadd dX12_solves_106 ?_
      refine s_ildn (j := i + (b + 1)) dX12_solves_107 (by assumption) (by assumption) (by assumption) (by first | with_reducible rfl | ((try simp only [z0, z1, zm1, zm2, zm3, zm4, zl2, zl3, zl4, zl5, zl6, zl7, zl8, zl9, zl10, zl20, zl28, zl31, zl32, zl33, zl48, zl57, zl64, zl100, zl127, zl200, zl201, zl202, zl402, zl1200, zl2412, zl16884, zI_add, zI_sub, zI_mul, zI_inc, zI_dec]) <;> (congr 1 <;> omega))) (by omega) (by decide) ?_
      rw [q2]
      refine s_iadd dX12_solves_108 ?_
      refine s_topi (y := zI (1 + B)) (by first | with_reducible rfl | ((try simp only [z0, z1, zm1, zm2, zm3, zm4, zl2, zl3, zl4, zl5, zl6, zl7, zl8, zl9, zl10, zl20, zl28, zl31, zl32, zl33, zl48, zl57, zl64, zl100, zl127, zl200, zl201, zl202, zl402, zl1200, zl2412, zl16884, zI_add, zI_sub, zI_mul, zI_inc, zI_dec]) <;> (congr 1 <;> omega))) ?_
      refine s_istore dX12_solves_109 (by decide) (by simp only [sl, sl2, rm, Value.category, reduceIte, Nat.reduceAdd, Nat.reduceEqDiff, reduceCtorEq]; rfl) ?_
      refine s_iload dX12_solves_111 rfl ?_
      refine s_iconst (v := 1) dX12_solves_113 (by decide) ?_
      refine s_icmp_eq (tgt := 150) dX12_solves_114 (by decide) (fun h114 => absurd h114 (fun h => by simp only [z0, z1, zm1, zm2, zm3, zm4, zl2, zl3, zl4, zl5, zl6, zl7, zl8, zl9, zl10, zl20, zl28, zl31, zl32, zl33, zl48, zl57, zl64, zl100, zl127, zl200, zl201, zl202, zl402, zl1200, zl2412, zl16884, zI_add, zI_sub, zI_mul, zI_inc, zI_dec] at h; rw [zI_eq (by omega) (by omega) (by omega) (by omega)] at h; omega)) (fun h114 => ?_)
      refine s_iload dX12_solves_117 rfl ?_
      refine s_aload_n (i := 0) dX12_solves_119 rfl rfl ?_
      refine s_getR dX12_solves_120 fl_X12_38 (by assumption) (by assumption) (by assumption) ?_
      refine s_iload_n (i := 2) dX12_solves_123 rfl rfl ?_
      refine s_ildn (j := i) dX12_solves_124 (by assumption) (by assumption) (by assumption) (by first | with_reducible rfl | ((try simp only [z0, z1, zm1, zm2, zm3, zm4, zl2, zl3, zl4, zl5, zl6, zl7, zl8, zl9, zl10, zl20, zl28, zl31, zl32, zl33, zl48, zl57, zl64, zl100, zl127, zl200, zl201, zl202, zl402, zl1200, zl2412, zl16884, zI_add, zI_sub, zI_mul, zI_inc, zI_dec]) <;> (congr 1 <;> omega))) (by omega) (by decide) ?_
      rw [hb152]
      refine s_icmp_lt (tgt := 150) dX12_solves_125 (by decide) (fun c125 => ?_) (fun c125 => ?_)
      · refine s_iconst (v := 1) dX12_solves_150 (by decide) ?_
        refine s_goto (tgt := 155) dX12_solves_151 (by decide) ?_
        rw [zI_lt (by omega) (by omega) (by omega) (by omega)] at c125
        refine s_istore dX12_solves_155 (by decide) (by simp only [sl, sl2, rm, Value.category, reduceIte, Nat.reduceAdd, Nat.reduceEqDiff, reduceCtorEq]; rfl) ?_
        refine s_aload_n (i := 0) dX12_solves_157 rfl rfl ?_
        refine s_getR dX12_solves_158 fl_X12_38 (by assumption) (by assumption) (by assumption) ?_
        refine s_iload_n (i := 2) dX12_solves_161 rfl rfl ?_
        refine s_iload dX12_solves_162 rfl ?_
        refine s_if_eq (tgt := 172) dX12_solves_164 (by decide) (fun h164 => absurd h164 (by decide)) (fun h164 => ?_)
        refine s_iload dX12_solves_167 rfl ?_
        refine s_goto (tgt := 178) dX12_solves_169 (by decide) ?_
        refine s_istn (j := i) dX12_solves_178 (by assumption) (by assumption) (by assumption) (by first | with_reducible rfl | ((try simp only [z0, z1, zm1, zm2, zm3, zm4, zl2, zl3, zl4, zl5, zl6, zl7, zl8, zl9, zl10, zl20, zl28, zl31, zl32, zl33, zl48, zl57, zl64, zl100, zl127, zl200, zl201, zl202, zl402, zl1200, zl2412, zl16884, zI_add, zI_sub, zI_mul, zI_inc, zI_dec]) <;> (congr 1 <;> omega))) (by omega) (by decide) ?_
        refine s_aload_n (i := 0) dX12_solves_179 rfl rfl ?_
        refine s_getR dX12_solves_180 fl_X12_41 (by assumption) (by assumption) (by assumption) ?_
        refine s_iload_n (i := 2) dX12_solves_183 rfl rfl ?_
        refine s_iload dX12_solves_184 rfl ?_
        refine s_if_eq (tgt := 194) dX12_solves_186 (by decide) (fun h186 => absurd h186 (by decide)) (fun h186 => ?_)
        refine s_iload dX12_solves_189 rfl ?_
        refine s_goto (tgt := 200) dX12_solves_191 (by decide) ?_
        refine s_istn (j := i) dX12_solves_200 (by assumption) (by assumption) (by assumption) (by first | with_reducible rfl | ((try simp only [z0, z1, zm1, zm2, zm3, zm4, zl2, zl3, zl4, zl5, zl6, zl7, zl8, zl9, zl10, zl20, zl28, zl31, zl32, zl33, zl48, zl57, zl64, zl100, zl127, zl200, zl201, zl202, zl402, zl1200, zl2412, zl16884, zI_add, zI_sub, zI_mul, zI_inc, zI_dec]) <;> (congr 1 <;> omega))) (by omega) (by decide) ?_
        refine s_aload_n (i := 0) dX12_solves_201 rfl rfl ?_
        refine s_getR dX12_solves_202 fl_X12_44 (by assumption) (by assumption) (by assumption) ?_
        refine s_iload_n (i := 2) dX12_solves_205 rfl rfl ?_
        refine s_iload dX12_solves_206 rfl ?_
        refine s_if_eq (tgt := 216) dX12_solves_208 (by decide) (fun h208 => absurd h208 (by decide)) (fun h208 => ?_)
        refine s_iload dX12_solves_211 rfl ?_
        refine s_goto (tgt := 222) dX12_solves_213 (by decide) ?_
        refine s_istn (j := i) dX12_solves_222 (by assumption) (by assumption) (by assumption) (by first | with_reducible rfl | ((try simp only [z0, z1, zm1, zm2, zm3, zm4, zl2, zl3, zl4, zl5, zl6, zl7, zl8, zl9, zl10, zl20, zl28, zl31, zl32, zl33, zl48, zl57, zl64, zl100, zl127, zl200, zl201, zl202, zl402, zl1200, zl2412, zl16884, zI_add, zI_sub, zI_mul, zI_inc, zI_dec]) <;> (congr 1 <;> omega))) (by omega) (by decide) ?_
        refine s_iinc dX12_solves_223 rfl (zI_inc _) (by decide) (by simp only [sl, sl2, rm, Value.category, reduceIte, Nat.reduceAdd, Nat.reduceEqDiff, reduceCtorEq]; rfl) ?_
        refine s_goto (tgt := 30) dX12_solves_226 (by decide) ?_
        refine s_lv (lv' := [(0, .ref (x0 + 144)), (1, .int (zI li)), (2, .int (zI i)), (3, .int (zI m)), (4, .int _)]) ⟨rfl, rfl, rfl, rfl, rfl, trivial⟩ ?_
        refine ih (b + 1) (bcost g i (b + 1) + C) (1 + B) (b + 1) _ (by omega) (by omega) (by omega) (by omega) (by rw [iu_ne (by omega), iu_ne (by omega), iu_ne (by omega)]; exact hm1) (fun v hv => by rw [iu_ne (by omega), iu_ne (by omega), iu_ne (by omega)]; exact hN1 v hv) (hp1.keep (fun q hq => by simp only [iu, Nat.reduceEqDiff, reduceIte, eq_self]; rw [if_neg hq, if_neg hq, if_neg hq]; exact ⟨rfl, rfl, rfl⟩)) (hB.new (by simp only [iu, Nat.reduceEqDiff, reduceIte, eq_self]) (by simp only [iu, Nat.reduceEqDiff, reduceIte, eq_self]) (by simp only [iu, Nat.reduceEqDiff, reduceIte, eq_self]; rfl) hpv (by omega) (by omega) (by omega)) (fun I' hf hP' => hq I' (fun b2 hb => ?_) hP')
        rw [hf b2 hb]
        simp at hb
        rw [iu_ne (by omega), iu_ne (by omega), iu_ne (by omega), hfr1 b2 (by simp; omega)]
      · refine s_iload dX12_solves_128 rfl ?_
        refine s_aload_n (i := 0) dX12_solves_130 rfl rfl ?_
        refine s_getR dX12_solves_131 fl_X12_38 (by assumption) (by assumption) (by assumption) ?_
        refine s_iload_n (i := 2) dX12_solves_134 rfl rfl ?_
        refine s_ildn (j := i) dX12_solves_135 (by assumption) (by assumption) (by assumption) (by first | with_reducible rfl | ((try simp only [z0, z1, zm1, zm2, zm3, zm4, zl2, zl3, zl4, zl5, zl6, zl7, zl8, zl9, zl10, zl20, zl28, zl31, zl32, zl33, zl48, zl57, zl64, zl100, zl127, zl200, zl201, zl202, zl402, zl1200, zl2412, zl16884, zI_add, zI_sub, zI_mul, zI_inc, zI_dec]) <;> (congr 1 <;> omega))) (by omega) (by decide) ?_
        rw [hb152]
        refine s_icmp_ne (tgt := 154) dX12_solves_136 (by decide) (fun c136 => ?_) (fun c136 => ?_)
        · refine s_iconst (v := 0) dX12_solves_154 (by decide) ?_
          rw [zI_lt (by omega) (by omega) (by omega) (by omega)] at c125
          rw [zI_eq (by omega) (by omega) (by omega) (by omega)] at c136
          refine s_istore dX12_solves_155 (by decide) (by simp only [sl, sl2, rm, Value.category, reduceIte, Nat.reduceAdd, Nat.reduceEqDiff, reduceCtorEq]; rfl) ?_
          refine s_aload_n (i := 0) dX12_solves_157 rfl rfl ?_
          refine s_getR dX12_solves_158 fl_X12_38 (by assumption) (by assumption) (by assumption) ?_
          refine s_iload_n (i := 2) dX12_solves_161 rfl rfl ?_
          refine s_iload dX12_solves_162 rfl ?_
          refine s_if_eq (tgt := 172) dX12_solves_164 (by decide) (fun h164 => ?_) (fun h164 => absurd (rfl) h164)
          refine s_aload_n (i := 0) dX12_solves_172 rfl rfl ?_
          refine s_getR dX12_solves_173 fl_X12_38 (by assumption) (by assumption) (by assumption) ?_
          refine s_iload_n (i := 2) dX12_solves_176 rfl rfl ?_
          refine s_ildn (j := i) dX12_solves_177 (by assumption) (by assumption) (by assumption) (by first | with_reducible rfl | ((try simp only [z0, z1, zm1, zm2, zm3, zm4, zl2, zl3, zl4, zl5, zl6, zl7, zl8, zl9, zl10, zl20, zl28, zl31, zl32, zl33, zl48, zl57, zl64, zl100, zl127, zl200, zl201, zl202, zl402, zl1200, zl2412, zl16884, zI_add, zI_sub, zI_mul, zI_inc, zI_dec]) <;> (congr 1 <;> omega))) (by omega) (by decide) ?_
          refine s_istn (j := i) dX12_solves_178 (by assumption) (by assumption) (by assumption) (by first | with_reducible rfl | ((try simp only [z0, z1, zm1, zm2, zm3, zm4, zl2, zl3, zl4, zl5, zl6, zl7, zl8, zl9, zl10, zl20, zl28, zl31, zl32, zl33, zl48, zl57, zl64, zl100, zl127, zl200, zl201, zl202, zl402, zl1200, zl2412, zl16884, zI_add, zI_sub, zI_mul, zI_inc, zI_dec]) <;> (congr 1 <;> omega))) (by omega) (by decide) ?_
          refine s_aload_n (i := 0) dX12_solves_179 rfl rfl ?_
          refine s_getR dX12_solves_180 fl_X12_41 (by assumption) (by assumption) (by assumption) ?_
          refine s_iload_n (i := 2) dX12_solves_183 rfl rfl ?_
          refine s_iload dX12_solves_184 rfl ?_
          refine s_if_eq (tgt := 194) dX12_solves_186 (by decide) (fun h186 => ?_) (fun h186 => absurd (rfl) h186)
          refine s_aload_n (i := 0) dX12_solves_194 rfl rfl ?_
          refine s_getR dX12_solves_195 fl_X12_41 (by assumption) (by assumption) (by assumption) ?_
          refine s_iload_n (i := 2) dX12_solves_198 rfl rfl ?_
          refine s_ildn (j := i) dX12_solves_199 (by assumption) (by assumption) (by assumption) (by first | with_reducible rfl | ((try simp only [z0, z1, zm1, zm2, zm3, zm4, zl2, zl3, zl4, zl5, zl6, zl7, zl8, zl9, zl10, zl20, zl28, zl31, zl32, zl33, zl48, zl57, zl64, zl100, zl127, zl200, zl201, zl202, zl402, zl1200, zl2412, zl16884, zI_add, zI_sub, zI_mul, zI_inc, zI_dec]) <;> (congr 1 <;> omega))) (by omega) (by decide) ?_
          refine s_istn (j := i) dX12_solves_200 (by assumption) (by assumption) (by assumption) (by first | with_reducible rfl | ((try simp only [z0, z1, zm1, zm2, zm3, zm4, zl2, zl3, zl4, zl5, zl6, zl7, zl8, zl9, zl10, zl20, zl28, zl31, zl32, zl33, zl48, zl57, zl64, zl100, zl127, zl200, zl201, zl202, zl402, zl1200, zl2412, zl16884, zI_add, zI_sub, zI_mul, zI_inc, zI_dec]) <;> (congr 1 <;> omega))) (by omega) (by decide) ?_
          refine s_aload_n (i := 0) dX12_solves_201 rfl rfl ?_
          refine s_getR dX12_solves_202 fl_X12_44 (by assumption) (by assumption) (by assumption) ?_
          refine s_iload_n (i := 2) dX12_solves_205 rfl rfl ?_
          refine s_iload dX12_solves_206 rfl ?_
          refine s_if_eq (tgt := 216) dX12_solves_208 (by decide) (fun h208 => ?_) (fun h208 => absurd (rfl) h208)
          refine s_aload_n (i := 0) dX12_solves_216 rfl rfl ?_
          refine s_getR dX12_solves_217 fl_X12_44 (by assumption) (by assumption) (by assumption) ?_
          refine s_iload_n (i := 2) dX12_solves_220 rfl rfl ?_
          refine s_ildn (j := i) dX12_solves_221 (by assumption) (by assumption) (by assumption) (by first | with_reducible rfl | ((try simp only [z0, z1, zm1, zm2, zm3, zm4, zl2, zl3, zl4, zl5, zl6, zl7, zl8, zl9, zl10, zl20, zl28, zl31, zl32, zl33, zl48, zl57, zl64, zl100, zl127, zl200, zl201, zl202, zl402, zl1200, zl2412, zl16884, zI_add, zI_sub, zI_mul, zI_inc, zI_dec]) <;> (congr 1 <;> omega))) (by omega) (by decide) ?_
          refine s_istn (j := i) dX12_solves_222 (by assumption) (by assumption) (by assumption) (by first | with_reducible rfl | ((try simp only [z0, z1, zm1, zm2, zm3, zm4, zl2, zl3, zl4, zl5, zl6, zl7, zl8, zl9, zl10, zl20, zl28, zl31, zl32, zl33, zl48, zl57, zl64, zl100, zl127, zl200, zl201, zl202, zl402, zl1200, zl2412, zl16884, zI_add, zI_sub, zI_mul, zI_inc, zI_dec]) <;> (congr 1 <;> omega))) (by omega) (by decide) ?_
          refine s_iinc dX12_solves_223 rfl (zI_inc _) (by decide) (by simp only [sl, sl2, rm, Value.category, reduceIte, Nat.reduceAdd, Nat.reduceEqDiff, reduceCtorEq]; rfl) ?_
          refine s_goto (tgt := 30) dX12_solves_226 (by decide) ?_
          refine s_lv (lv' := [(0, .ref (x0 + 144)), (1, .int (zI li)), (2, .int (zI i)), (3, .int (zI m)), (4, .int _)]) ⟨rfl, rfl, rfl, rfl, rfl, trivial⟩ ?_
          refine ih (b + 1) Cb Bb lb _ (by omega) (by omega) (by omega) (by omega) (by rw [iu_ne (by omega), iu_ne (by omega), iu_ne (by omega)]; exact hm1) (fun v hv => by rw [iu_ne (by omega), iu_ne (by omega), iu_ne (by omega)]; exact hN1 v hv) (hp1.keep (fun q hq => by simp only [iu, Nat.reduceEqDiff, reduceIte, eq_self]; rw [if_neg hq, if_neg hq, if_neg hq]; exact ⟨rfl, rfl, rfl⟩)) (hB.old (V := 256 * (bcost g i (b + 1) + C) + (1 + B)) (by simp only [iu, Nat.reduceEqDiff, reduceIte, eq_self]; exact hb152) (by simp only [iu, Nat.reduceEqDiff, reduceIte, eq_self]; exact hb153) (by simp only [iu, Nat.reduceEqDiff, reduceIte, eq_self]; exact hb154) hpv (by omega)) (fun I' hf hP' => hq I' (fun b2 hb => ?_) hP')
          rw [hf b2 hb]
          simp at hb
          rw [iu_ne (by omega), iu_ne (by omega), iu_ne (by omega), hfr1 b2 (by simp; omega)]
        · refine s_iload dX12_solves_139 rfl ?_
          refine s_aload_n (i := 0) dX12_solves_141 rfl rfl ?_
          refine s_getR dX12_solves_142 fl_X12_41 (by assumption) (by assumption) (by assumption) ?_
          refine s_iload_n (i := 2) dX12_solves_145 rfl rfl ?_
          refine s_ildn (j := i) dX12_solves_146 (by assumption) (by assumption) (by assumption) (by first | with_reducible rfl | ((try simp only [z0, z1, zm1, zm2, zm3, zm4, zl2, zl3, zl4, zl5, zl6, zl7, zl8, zl9, zl10, zl20, zl28, zl31, zl32, zl33, zl48, zl57, zl64, zl100, zl127, zl200, zl201, zl202, zl402, zl1200, zl2412, zl16884, zI_add, zI_sub, zI_mul, zI_inc, zI_dec]) <;> (congr 1 <;> omega))) (by omega) (by decide) ?_
          rw [hb153]
          refine s_icmp_ge (tgt := 154) dX12_solves_147 (by decide) (fun c147 => ?_) (fun c147 => ?_)
          · refine s_iconst (v := 0) dX12_solves_154 (by decide) ?_
            rw [zI_lt (by omega) (by omega) (by omega) (by omega)] at c125
            rw [zI_eq (by omega) (by omega) (by omega) (by omega)] at c136
            rw [zI_le (by omega) (by omega) (by omega) (by omega)] at c147
            refine s_istore dX12_solves_155 (by decide) (by simp only [sl, sl2, rm, Value.category, reduceIte, Nat.reduceAdd, Nat.reduceEqDiff, reduceCtorEq]; rfl) ?_
            refine s_aload_n (i := 0) dX12_solves_157 rfl rfl ?_
            refine s_getR dX12_solves_158 fl_X12_38 (by assumption) (by assumption) (by assumption) ?_
            refine s_iload_n (i := 2) dX12_solves_161 rfl rfl ?_
            refine s_iload dX12_solves_162 rfl ?_
            refine s_if_eq (tgt := 172) dX12_solves_164 (by decide) (fun h164 => ?_) (fun h164 => absurd (rfl) h164)
            refine s_aload_n (i := 0) dX12_solves_172 rfl rfl ?_
            refine s_getR dX12_solves_173 fl_X12_38 (by assumption) (by assumption) (by assumption) ?_
            refine s_iload_n (i := 2) dX12_solves_176 rfl rfl ?_
            refine s_ildn (j := i) dX12_solves_177 (by assumption) (by assumption) (by assumption) (by first | with_reducible rfl | ((try simp only [z0, z1, zm1, zm2, zm3, zm4, zl2, zl3, zl4, zl5, zl6, zl7, zl8, zl9, zl10, zl20, zl28, zl31, zl32, zl33, zl48, zl57, zl64, zl100, zl127, zl200, zl201, zl202, zl402, zl1200, zl2412, zl16884, zI_add, zI_sub, zI_mul, zI_inc, zI_dec]) <;> (congr 1 <;> omega))) (by omega) (by decide) ?_
            refine s_istn (j := i) dX12_solves_178 (by assumption) (by assumption) (by assumption) (by first | with_reducible rfl | ((try simp only [z0, z1, zm1, zm2, zm3, zm4, zl2, zl3, zl4, zl5, zl6, zl7, zl8, zl9, zl10, zl20, zl28, zl31, zl32, zl33, zl48, zl57, zl64, zl100, zl127, zl200, zl201, zl202, zl402, zl1200, zl2412, zl16884, zI_add, zI_sub, zI_mul, zI_inc, zI_dec]) <;> (congr 1 <;> omega))) (by omega) (by decide) ?_
            refine s_aload_n (i := 0) dX12_solves_179 rfl rfl ?_
            refine s_getR dX12_solves_180 fl_X12_41 (by assumption) (by assumption) (by assumption) ?_
            refine s_iload_n (i := 2) dX12_solves_183 rfl rfl ?_
            refine s_iload dX12_solves_184 rfl ?_
            refine s_if_eq (tgt := 194) dX12_solves_186 (by decide) (fun h186 => ?_) (fun h186 => absurd (rfl) h186)
            refine s_aload_n (i := 0) dX12_solves_194 rfl rfl ?_
            refine s_getR dX12_solves_195 fl_X12_41 (by assumption) (by assumption) (by assumption) ?_
            refine s_iload_n (i := 2) dX12_solves_198 rfl rfl ?_
            refine s_ildn (j := i) dX12_solves_199 (by assumption) (by assumption) (by assumption) (by first | with_reducible rfl | ((try simp only [z0, z1, zm1, zm2, zm3, zm4, zl2, zl3, zl4, zl5, zl6, zl7, zl8, zl9, zl10, zl20, zl28, zl31, zl32, zl33, zl48, zl57, zl64, zl100, zl127, zl200, zl201, zl202, zl402, zl1200, zl2412, zl16884, zI_add, zI_sub, zI_mul, zI_inc, zI_dec]) <;> (congr 1 <;> omega))) (by omega) (by decide) ?_
            refine s_istn (j := i) dX12_solves_200 (by assumption) (by assumption) (by assumption) (by first | with_reducible rfl | ((try simp only [z0, z1, zm1, zm2, zm3, zm4, zl2, zl3, zl4, zl5, zl6, zl7, zl8, zl9, zl10, zl20, zl28, zl31, zl32, zl33, zl48, zl57, zl64, zl100, zl127, zl200, zl201, zl202, zl402, zl1200, zl2412, zl16884, zI_add, zI_sub, zI_mul, zI_inc, zI_dec]) <;> (congr 1 <;> omega))) (by omega) (by decide) ?_
            refine s_aload_n (i := 0) dX12_solves_201 rfl rfl ?_
            refine s_getR dX12_solves_202 fl_X12_44 (by assumption) (by assumption) (by assumption) ?_
            refine s_iload_n (i := 2) dX12_solves_205 rfl rfl ?_
            refine s_iload dX12_solves_206 rfl ?_
            refine s_if_eq (tgt := 216) dX12_solves_208 (by decide) (fun h208 => ?_) (fun h208 => absurd (rfl) h208)
            refine s_aload_n (i := 0) dX12_solves_216 rfl rfl ?_
            refine s_getR dX12_solves_217 fl_X12_44 (by assumption) (by assumption) (by assumption) ?_
            refine s_iload_n (i := 2) dX12_solves_220 rfl rfl ?_
            refine s_ildn (j := i) dX12_solves_221 (by assumption) (by assumption) (by assumption) (by first | with_reducible rfl | ((try simp only [z0, z1, zm1, zm2, zm3, zm4, zl2, zl3, zl4, zl5, zl6, zl7, zl8, zl9, zl10, zl20, zl28, zl31, zl32, zl33, zl48, zl57, zl64, zl100, zl127, zl200, zl201, zl202, zl402, zl1200, zl2412, zl16884, zI_add, zI_sub, zI_mul, zI_inc, zI_dec]) <;> (congr 1 <;> omega))) (by omega) (by decide) ?_
            refine s_istn (j := i) dX12_solves_222 (by assumption) (by assumption) (by assumption) (by first | with_reducible rfl | ((try simp only [z0, z1, zm1, zm2, zm3, zm4, zl2, zl3, zl4, zl5, zl6, zl7, zl8, zl9, zl10, zl20, zl28, zl31, zl32, zl33, zl48, zl57, zl64, zl100, zl127, zl200, zl201, zl202, zl402, zl1200, zl2412, zl16884, zI_add, zI_sub, zI_mul, zI_inc, zI_dec]) <;> (congr 1 <;> omega))) (by omega) (by decide) ?_
            refine s_iinc dX12_solves_223 rfl (zI_inc _) (by decide) (by simp only [sl, sl2, rm, Value.category, reduceIte, Nat.reduceAdd, Nat.reduceEqDiff, reduceCtorEq]; rfl) ?_
            refine s_goto (tgt := 30) dX12_solves_226 (by decide) ?_
            refine s_lv (lv' := [(0, .ref (x0 + 144)), (1, .int (zI li)), (2, .int (zI i)), (3, .int (zI m)), (4, .int _)]) ⟨rfl, rfl, rfl, rfl, rfl, trivial⟩ ?_
            refine ih (b + 1) Cb Bb lb _ (by omega) (by omega) (by omega) (by omega) (by rw [iu_ne (by omega), iu_ne (by omega), iu_ne (by omega)]; exact hm1) (fun v hv => by rw [iu_ne (by omega), iu_ne (by omega), iu_ne (by omega)]; exact hN1 v hv) (hp1.keep (fun q hq => by simp only [iu, Nat.reduceEqDiff, reduceIte, eq_self]; rw [if_neg hq, if_neg hq, if_neg hq]; exact ⟨rfl, rfl, rfl⟩)) (hB.old (V := 256 * (bcost g i (b + 1) + C) + (1 + B)) (by simp only [iu, Nat.reduceEqDiff, reduceIte, eq_self]; exact hb152) (by simp only [iu, Nat.reduceEqDiff, reduceIte, eq_self]; exact hb153) (by simp only [iu, Nat.reduceEqDiff, reduceIte, eq_self]; exact hb154) hpv (by omega)) (fun I' hf hP' => hq I' (fun b2 hb => ?_) hP')
            rw [hf b2 hb]
            simp at hb
            rw [iu_ne (by omega), iu_ne (by omega), iu_ne (by omega), hfr1 b2 (by simp; omega)]
          · refine s_iconst (v := 1) dX12_solves_150 (by decide) ?_
            refine s_goto (tgt := 155) dX12_solves_151 (by decide) ?_
            rw [zI_lt (by omega) (by omega) (by omega) (by omega)] at c125
            rw [zI_eq (by omega) (by omega) (by omega) (by omega)] at c136
            rw [zI_le (by omega) (by omega) (by omega) (by omega)] at c147
            refine s_istore dX12_solves_155 (by decide) (by simp only [sl, sl2, rm, Value.category, reduceIte, Nat.reduceAdd, Nat.reduceEqDiff, reduceCtorEq]; rfl) ?_
            refine s_aload_n (i := 0) dX12_solves_157 rfl rfl ?_
            refine s_getR dX12_solves_158 fl_X12_38 (by assumption) (by assumption) (by assumption) ?_
            refine s_iload_n (i := 2) dX12_solves_161 rfl rfl ?_
            refine s_iload dX12_solves_162 rfl ?_
            refine s_if_eq (tgt := 172) dX12_solves_164 (by decide) (fun h164 => absurd h164 (by decide)) (fun h164 => ?_)
            refine s_iload dX12_solves_167 rfl ?_
            refine s_goto (tgt := 178) dX12_solves_169 (by decide) ?_
            refine s_istn (j := i) dX12_solves_178 (by assumption) (by assumption) (by assumption) (by first | with_reducible rfl | ((try simp only [z0, z1, zm1, zm2, zm3, zm4, zl2, zl3, zl4, zl5, zl6, zl7, zl8, zl9, zl10, zl20, zl28, zl31, zl32, zl33, zl48, zl57, zl64, zl100, zl127, zl200, zl201, zl202, zl402, zl1200, zl2412, zl16884, zI_add, zI_sub, zI_mul, zI_inc, zI_dec]) <;> (congr 1 <;> omega))) (by omega) (by decide) ?_
            refine s_aload_n (i := 0) dX12_solves_179 rfl rfl ?_
            refine s_getR dX12_solves_180 fl_X12_41 (by assumption) (by assumption) (by assumption) ?_
            refine s_iload_n (i := 2) dX12_solves_183 rfl rfl ?_
            refine s_iload dX12_solves_184 rfl ?_
            refine s_if_eq (tgt := 194) dX12_solves_186 (by decide) (fun h186 => absurd h186 (by decide)) (fun h186 => ?_)
            refine s_iload dX12_solves_189 rfl ?_
            refine s_goto (tgt := 200) dX12_solves_191 (by decide) ?_
            refine s_istn (j := i) dX12_solves_200 (by assumption) (by assumption) (by assumption) (by first | with_reducible rfl | ((try simp only [z0, z1, zm1, zm2, zm3, zm4, zl2, zl3, zl4, zl5, zl6, zl7, zl8, zl9, zl10, zl20, zl28, zl31, zl32, zl33, zl48, zl57, zl64, zl100, zl127, zl200, zl201, zl202, zl402, zl1200, zl2412, zl16884, zI_add, zI_sub, zI_mul, zI_inc, zI_dec]) <;> (congr 1 <;> omega))) (by omega) (by decide) ?_
            refine s_aload_n (i := 0) dX12_solves_201 rfl rfl ?_
            refine s_getR dX12_solves_202 fl_X12_44 (by assumption) (by assumption) (by assumption) ?_
            refine s_iload_n (i := 2) dX12_solves_205 rfl rfl ?_
            refine s_iload dX12_solves_206 rfl ?_
            refine s_if_eq (tgt := 216) dX12_solves_208 (by decide) (fun h208 => absurd h208 (by decide)) (fun h208 => ?_)
            refine s_iload dX12_solves_211 rfl ?_
            refine s_goto (tgt := 222) dX12_solves_213 (by decide) ?_
            refine s_istn (j := i) dX12_solves_222 (by assumption) (by assumption) (by assumption) (by first | with_reducible rfl | ((try simp only [z0, z1, zm1, zm2, zm3, zm4, zl2, zl3, zl4, zl5, zl6, zl7, zl8, zl9, zl10, zl20, zl28, zl31, zl32, zl33, zl48, zl57, zl64, zl100, zl127, zl200, zl201, zl202, zl402, zl1200, zl2412, zl16884, zI_add, zI_sub, zI_mul, zI_inc, zI_dec]) <;> (congr 1 <;> omega))) (by omega) (by decide) ?_
            refine s_iinc dX12_solves_223 rfl (zI_inc _) (by decide) (by simp only [sl, sl2, rm, Value.category, reduceIte, Nat.reduceAdd, Nat.reduceEqDiff, reduceCtorEq]; rfl) ?_
            refine s_goto (tgt := 30) dX12_solves_226 (by decide) ?_
            refine s_lv (lv' := [(0, .ref (x0 + 144)), (1, .int (zI li)), (2, .int (zI i)), (3, .int (zI m)), (4, .int _)]) ⟨rfl, rfl, rfl, rfl, rfl, trivial⟩ ?_
            refine ih (b + 1) (bcost g i (b + 1) + C) (1 + B) (b + 1) _ (by omega) (by omega) (by omega) (by omega) (by rw [iu_ne (by omega), iu_ne (by omega), iu_ne (by omega)]; exact hm1) (fun v hv => by rw [iu_ne (by omega), iu_ne (by omega), iu_ne (by omega)]; exact hN1 v hv) (hp1.keep (fun q hq => by simp only [iu, Nat.reduceEqDiff, reduceIte, eq_self]; rw [if_neg hq, if_neg hq, if_neg hq]; exact ⟨rfl, rfl, rfl⟩)) (hB.new (by simp only [iu, Nat.reduceEqDiff, reduceIte, eq_self]) (by simp only [iu, Nat.reduceEqDiff, reduceIte, eq_self]) (by simp only [iu, Nat.reduceEqDiff, reduceIte, eq_self]; rfl) hpv (by omega) (by omega) (by omega)) (fun I' hf hP' => hq I' (fun b2 hb => ?_) hP')
            rw [hf b2 hb]
            simp at hb
            rw [iu_ne (by omega), iu_ne (by omega), iu_ne (by omega), hfr1 b2 (by simp; omega)]
set_option maxRecDepth 100000 in
set_option maxHeartbeats 1000000 in
theorem ml_solves0 {G : fG} {x0 : Nat} {l : Launch} {d k n : Nat} {T : fT} {J : fJ} {Q : Option Value → fT → fI → fJ → Prop} {li m : Nat} {g : Nat → Int} (hM : MObj T) (hli : li < 6) (hmm : m ≤ 200) (hg : GapOk g m) {R : Nat → Int} {E : Nat → Nat} {i : Nat} (hPl : Plan g m R E) (hi : i < m) : ∀ (t q : Nat) (I : fI), q + t = 21 → MN (I 145) (402 * li) g m → (∀ v, v < q → I 150 v = 0) → PlIs I m R E (i + 1) → (∀ I', fr I I' [150, 152, 153, 154] → PlIs I' m R E i → Q none T I' J) → PW G x0 l mX12_solves (d + 2) (ZM G x0 Q) k n 2 [(0, .ref (x0 + 144)), (1, .int (zI li)), (2, .int (zI i)), (3, .int (zI q))] [] T I J := by
  obtain ⟨o1, o2⟩ := hM.o
  obtain ⟨r150, b150, k150, n150⟩ := hM.a150
  obtain ⟨r152, b152, k152, n152⟩ := hM.a152
  obtain ⟨r153, b153, k153, n153⟩ := hM.a153
  obtain ⟨r154, b154, k154, n154⟩ := hM.a154
  intro t
  induction t with
  | zero =>
    intro q I ht hm1 hz hp1 hq
    have hqq : q = 21 := by omega
    subst hqq
    have hN1 : NeedIs I g i 1 := fun v hv => by rw [hz v (by omega)]; rfl
    have h20 := bz20 hg (f := i) (len := 1) (by omega)
    obtain ⟨⟨C, B, q1, q2, q3, q4, q5, q6, q7⟩, -⟩ := hp1 (i + 1) (by omega) (by omega)
    have hcb := csw_bd (g := g) (f := i) (len := 1) (by omega) (by omega) (w := bw g i (1)) (bw_le _ _ _)
    have hcb : 32 ≤ bcost g i (1) ∧ bcost g i (1) ≤ 100000 := hcb
    have hpv : 256 * (bcost g i (1) + C) + (1 + B) = pval g R i (i + 1) := by
      unfold pval
      rw [show i + 1 - i = 1 by omega]
      omega
    refine s_iload_n (i := 3) dX12_solves_2 rfl rfl ?_
    refine s_bipush (v := 20) dX12_solves_3 (by decide) ?_
    refine s_icmp_gt (tgt := 21) dX12_solves_5 (by decide) (fun h5 => ?_) (fun h5 => absurd (by decide) h5)
    refine s_aload_n (i := 0) dX12_solves_21 rfl rfl ?_
    refine s_iload_n (i := 1) dX12_solves_22 rfl rfl ?_
    refine s_cV_I (My := mX12_many) dX12_solves_23 wM_X12_131 cb_yX12_many ci_yX12_many (by assumption) (by assumption) (Nat.le_of_ble_eq_true rfl) (by decide) (s_d (by omega) (m_many (d := 0) hM hli ?_))
    rw [hm1.1]
    refine s_istore_n (i := 3) dX12_solves_26 rfl (by decide) (by simp only [sl, sl2, rm, Value.category, reduceIte, Nat.reduceAdd, Nat.reduceEqDiff, reduceCtorEq]; rfl) ?_
    refine s_iconst (v := 1) dX12_solves_27 (by decide) ?_
    refine s_istore dX12_solves_28 (by decide) (by simp only [sl, sl2, rm, Value.category, reduceIte, Nat.reduceAdd, Nat.reduceEqDiff, reduceCtorEq]; rfl) ?_
    refine s_iload dX12_solves_30 rfl ?_
    refine s_bipush (v := 64) dX12_solves_32 (by decide) ?_
    refine s_icmp_gt (tgt := 229) dX12_solves_34 (by decide) (fun h34 => absurd h34 (by decide)) (fun h34 => ?_)
    refine s_iload_n (i := 2) dX12_solves_37 rfl rfl ?_
    refine s_iload dX12_solves_38 rfl ?_
    refine s_iadd dX12_solves_40 ?_
    refine s_topi (y := zI ((i + 1 : Nat) : Int)) (by first | with_reducible rfl | ((try simp only [z0, z1, zm1, zm2, zm3, zm4, zl2, zl3, zl4, zl5, zl6, zl7, zl8, zl9, zl10, zl20, zl28, zl31, zl32, zl33, zl48, zl57, zl64, zl100, zl127, zl200, zl201, zl202, zl402, zl1200, zl2412, zl16884, zI_add, zI_sub, zI_mul, zI_inc, zI_dec]) <;> (congr 1 <;> omega))) ?_
    refine s_iload_n (i := 3) dX12_solves_41 rfl rfl ?_
    refine s_icmp_gt (tgt := 229) dX12_solves_42 (by decide) (fun h42 => absurd h42 (fun h => by rw [zI_lt (by omega) (by omega) (by omega) (by omega)] at h; omega)) (fun h42 => ?_)
    refine s_iload dX12_solves_45 rfl ?_
    refine s_iconst (v := 1) dX12_solves_47 (by decide) ?_
    refine s_icmp_le (tgt := 74) dX12_solves_48 (by decide) (fun h48 => ?_) (fun h48 => absurd (by decide) h48)
    refine s_aload_n (i := 0) dX12_solves_74 rfl rfl ?_
    refine s_iload dX12_solves_75 rfl ?_
    refine s_aload_n (i := 0) dX12_solves_77 rfl rfl ?_
    refine s_iload dX12_solves_78 rfl ?_
    refine s_cV_I (My := mX12_best) dX12_solves_80 wM_X12_119 cb_yX12_best ci_yX12_best (by assumption) (by assumption) (Nat.le_of_ble_eq_true rfl) (by decide) (s_d (by omega) (m_best (d := 0) (len := 1) hM hN1 h20 (by omega) (by omega) ?_))
    refine s_cV_II (My := mX12_costOf) dX12_solves_83 wM_X12_125 cb_yX12_costOf ci_yX12_costOf (by assumption) (by assumption) (Nat.le_of_ble_eq_true rfl) (by decide) (s_d (by omega) (m_costOf (d := 0) (len := 1) hM hN1 h20 (bw_le _ _ _) ?_))
    refine s_aload_n (i := 0) dX12_solves_86 rfl rfl ?_
    refine s_getR dX12_solves_87 fl_X12_38 (by assumption) (by assumption) (by assumption) ?_
    refine s_iload_n (i := 2) dX12_solves_90 rfl rfl ?_
    refine s_iload dX12_solves_91 rfl ?_
    refine s_iadd dX12_solves_93 ?_
    refine s_ildn (j := i + 1) dX12_solves_94 (by assumption) (by assumption) (by assumption) (by first | with_reducible rfl | ((try simp only [z0, z1, zm1, zm2, zm3, zm4, zl2, zl3, zl4, zl5, zl6, zl7, zl8, zl9, zl10, zl20, zl28, zl31, zl32, zl33, zl48, zl57, zl64, zl100, zl127, zl200, zl201, zl202, zl402, zl1200, zl2412, zl16884, zI_add, zI_sub, zI_mul, zI_inc, zI_dec]) <;> (congr 1 <;> omega))) (by omega) (by decide) ?_
    rw [q1]
    refine s_iadd dX12_solves_95 ?_
    refine s_topi (y := zI (bcost g i 1 + C)) (by rw [zI_add]; rfl) ?_
    refine s_istore dX12_solves_96 (by decide) (by simp only [sl, sl2, rm, Value.category, reduceIte, Nat.reduceAdd, Nat.reduceEqDiff, reduceCtorEq]; rfl) ?_
    refine s_iconst (v := 1) dX12_solves_98 (by decide) ?_
    refine s_aload_n (i := 0) dX12_solves_99 rfl rfl ?_
    refine s_getR dX12_solves_100 fl_X12_41 (by assumption) (by assumption) (by assumption) ?_
    refine s_iload_n (i := 2) dX12_solves_103 rfl rfl ?_
    refine s_iload dX12_solves_104 rfl ?_
    refine s_iadd dX12_solves_106 ?_
    refine s_ildn (j := i + 1) dX12_solves_107 (by assumption) (by assumption) (by assumption) (by first | with_reducible rfl | ((try simp only [z0, z1, zm1, zm2, zm3, zm4, zl2, zl3, zl4, zl5, zl6, zl7, zl8, zl9, zl10, zl20, zl28, zl31, zl32, zl33, zl48, zl57, zl64, zl100, zl127, zl200, zl201, zl202, zl402, zl1200, zl2412, zl16884, zI_add, zI_sub, zI_mul, zI_inc, zI_dec]) <;> (congr 1 <;> omega))) (by omega) (by decide) ?_
    rw [q2]
    refine s_iadd dX12_solves_108 ?_
    refine s_topi (y := zI (1 + B)) (by first | with_reducible rfl | ((try simp only [z0, z1, zm1, zm2, zm3, zm4, zl2, zl3, zl4, zl5, zl6, zl7, zl8, zl9, zl10, zl20, zl28, zl31, zl32, zl33, zl48, zl57, zl64, zl100, zl127, zl200, zl201, zl202, zl402, zl1200, zl2412, zl16884, zI_add, zI_sub, zI_mul, zI_inc, zI_dec]) <;> (congr 1 <;> omega))) ?_
    refine s_istore dX12_solves_109 (by decide) (by simp only [sl, sl2, rm, Value.category, reduceIte, Nat.reduceAdd, Nat.reduceEqDiff, reduceCtorEq]; rfl) ?_
    refine s_iload dX12_solves_111 rfl ?_
    refine s_iconst (v := 1) dX12_solves_113 (by decide) ?_
    refine s_icmp_eq (tgt := 150) dX12_solves_114 (by decide) (fun h114 => ?_) (fun h114 => absurd (rfl) h114)
    refine s_iconst (v := 1) dX12_solves_150 (by decide) ?_
    refine s_goto (tgt := 155) dX12_solves_151 (by decide) ?_
    refine s_istore dX12_solves_155 (by decide) (by simp only [sl, sl2, rm, Value.category, reduceIte, Nat.reduceAdd, Nat.reduceEqDiff, reduceCtorEq]; rfl) ?_
    refine s_aload_n (i := 0) dX12_solves_157 rfl rfl ?_
    refine s_getR dX12_solves_158 fl_X12_38 (by assumption) (by assumption) (by assumption) ?_
    refine s_iload_n (i := 2) dX12_solves_161 rfl rfl ?_
    refine s_iload dX12_solves_162 rfl ?_
    refine s_if_eq (tgt := 172) dX12_solves_164 (by decide) (fun h164 => absurd h164 (by decide)) (fun h164 => ?_)
    refine s_iload dX12_solves_167 rfl ?_
    refine s_goto (tgt := 178) dX12_solves_169 (by decide) ?_
    refine s_istn (j := i) dX12_solves_178 (by assumption) (by assumption) (by assumption) (by first | with_reducible rfl | ((try simp only [z0, z1, zm1, zm2, zm3, zm4, zl2, zl3, zl4, zl5, zl6, zl7, zl8, zl9, zl10, zl20, zl28, zl31, zl32, zl33, zl48, zl57, zl64, zl100, zl127, zl200, zl201, zl202, zl402, zl1200, zl2412, zl16884, zI_add, zI_sub, zI_mul, zI_inc, zI_dec]) <;> (congr 1 <;> omega))) (by omega) (by decide) ?_
    refine s_aload_n (i := 0) dX12_solves_179 rfl rfl ?_
    refine s_getR dX12_solves_180 fl_X12_41 (by assumption) (by assumption) (by assumption) ?_
    refine s_iload_n (i := 2) dX12_solves_183 rfl rfl ?_
    refine s_iload dX12_solves_184 rfl ?_
    refine s_if_eq (tgt := 194) dX12_solves_186 (by decide) (fun h186 => absurd h186 (by decide)) (fun h186 => ?_)
    refine s_iload dX12_solves_189 rfl ?_
    refine s_goto (tgt := 200) dX12_solves_191 (by decide) ?_
    refine s_istn (j := i) dX12_solves_200 (by assumption) (by assumption) (by assumption) (by first | with_reducible rfl | ((try simp only [z0, z1, zm1, zm2, zm3, zm4, zl2, zl3, zl4, zl5, zl6, zl7, zl8, zl9, zl10, zl20, zl28, zl31, zl32, zl33, zl48, zl57, zl64, zl100, zl127, zl200, zl201, zl202, zl402, zl1200, zl2412, zl16884, zI_add, zI_sub, zI_mul, zI_inc, zI_dec]) <;> (congr 1 <;> omega))) (by omega) (by decide) ?_
    refine s_aload_n (i := 0) dX12_solves_201 rfl rfl ?_
    refine s_getR dX12_solves_202 fl_X12_44 (by assumption) (by assumption) (by assumption) ?_
    refine s_iload_n (i := 2) dX12_solves_205 rfl rfl ?_
    refine s_iload dX12_solves_206 rfl ?_
    refine s_if_eq (tgt := 216) dX12_solves_208 (by decide) (fun h208 => absurd h208 (by decide)) (fun h208 => ?_)
    refine s_iload dX12_solves_211 rfl ?_
    refine s_goto (tgt := 222) dX12_solves_213 (by decide) ?_
    refine s_istn (j := i) dX12_solves_222 (by assumption) (by assumption) (by assumption) (by first | with_reducible rfl | ((try simp only [z0, z1, zm1, zm2, zm3, zm4, zl2, zl3, zl4, zl5, zl6, zl7, zl8, zl9, zl10, zl20, zl28, zl31, zl32, zl33, zl48, zl57, zl64, zl100, zl127, zl200, zl201, zl202, zl402, zl1200, zl2412, zl16884, zI_add, zI_sub, zI_mul, zI_inc, zI_dec]) <;> (congr 1 <;> omega))) (by omega) (by decide) ?_
    refine s_iinc dX12_solves_223 rfl (rfl) (by decide) (by simp only [sl, sl2, rm, Value.category, reduceIte, Nat.reduceAdd, Nat.reduceEqDiff, reduceCtorEq]; rfl) ?_
    refine s_goto (tgt := 30) dX12_solves_226 (by decide) ?_
    refine s_lv (lv' := [(0, .ref (x0 + 144)), (1, .int (zI li)), (2, .int (zI i)), (3, .int (zI m)), (4, .int _)]) ⟨rfl, rfl, rfl, rfl, rfl, trivial⟩ ?_
    refine ml_solves hM hli hmm hg hPl hi 63 1 (bcost g i 1 + C) (1 + B) 1 _ (by omega) (by omega) (by omega) (by omega) (by rw [iu_ne (by omega), iu_ne (by omega), iu_ne (by omega)]; exact hm1) (fun v hv => by rw [iu_ne (by omega), iu_ne (by omega), iu_ne (by omega)]; exact hN1 v hv) (hp1.keep (fun q hq => by simp only [iu, Nat.reduceEqDiff, reduceIte, eq_self]; rw [if_neg hq, if_neg hq, if_neg hq]; exact ⟨rfl, rfl, rfl⟩)) (BestB.one (by simp only [iu, Nat.reduceEqDiff, reduceIte, eq_self]) (by simp only [iu, Nat.reduceEqDiff, reduceIte, eq_self]) (by simp only [iu, Nat.reduceEqDiff, reduceIte, eq_self]; rfl) hpv (by omega) (by omega)) (fun I' hf hP' => hq I' (fun b2 hb => ?_) hP')
    rw [hf b2 hb]
    simp at hb
    rw [iu_ne (by omega), iu_ne (by omega), iu_ne (by omega)]
  | succ t ih =>
    intro q I ht hm1 hz hp1 hq
    refine s_iload_n (i := 3) dX12_solves_2 rfl rfl ?_
    refine s_bipush (v := 20) dX12_solves_3 (by decide) ?_
    refine s_icmp_gt (tgt := 21) dX12_solves_5 (by decide) (fun h5 => absurd h5 (fun h => by simp only [z0, z1, zm1, zm2, zm3, zm4, zl2, zl3, zl4, zl5, zl6, zl7, zl8, zl9, zl10, zl20, zl28, zl31, zl32, zl33, zl48, zl57, zl64, zl100, zl127, zl200, zl201, zl202, zl402, zl1200, zl2412, zl16884, zI_add, zI_sub, zI_mul, zI_inc, zI_dec] at h; rw [zI_lt (by omega) (by omega) (by omega) (by omega)] at h; omega)) (fun h5 => ?_)
    refine s_aload_n (i := 0) dX12_solves_8 rfl rfl ?_
    refine s_getR dX12_solves_9 fl_X12_32 (by assumption) (by assumption) (by assumption) ?_
    refine s_iload_n (i := 3) dX12_solves_12 rfl rfl ?_
    refine s_iconst (v := 0) dX12_solves_13 (by decide) ?_
    refine s_istn (j := q) dX12_solves_14 (by assumption) (by assumption) (by assumption) (by first | with_reducible rfl | ((try simp only [z0, z1, zm1, zm2, zm3, zm4, zl2, zl3, zl4, zl5, zl6, zl7, zl8, zl9, zl10, zl20, zl28, zl31, zl32, zl33, zl48, zl57, zl64, zl100, zl127, zl200, zl201, zl202, zl402, zl1200, zl2412, zl16884, zI_add, zI_sub, zI_mul, zI_inc, zI_dec]) <;> (congr 1 <;> omega))) (by omega) (by decide) ?_
    refine s_iinc dX12_solves_15 rfl (zI_inc _) (by decide) (by simp only [sl, sl2, rm, Value.category, reduceIte, Nat.reduceAdd, Nat.reduceEqDiff, reduceCtorEq]; rfl) ?_
    refine s_goto (tgt := 2) dX12_solves_18 (by decide) ?_
    refine ih (q + 1) _ (by omega) (by rw [iu_ne (by omega)]; exact hm1) (fun v hv => ?_) (hp1.keep (fun q _ => by rw [iu_ne (by omega), iu_ne (by omega), iu_ne (by omega)]; exact ⟨rfl, rfl, rfl⟩)) (fun I' hf hP' => hq I' (fr_trans (fr_iu (by simp)) hf) hP')
    by_cases e : v = q
    · subst e; exact iu_at
    · rw [iu_j e]; exact hz v (by omega)
set_option maxRecDepth 100000 in
set_option maxHeartbeats 1000000 in
theorem m_solves {G : fG} {x0 : Nat} {l : Launch} {d k n : Nat} {T : fT} {I : fI} {J : fJ} {Q : Option Value → fT → fI → fJ → Prop} {li m : Nat} {g : Nat → Int} (hM : MObj T) (hli : li < 6) (hmm : m ≤ 200) (hg : GapOk g m) {R : Nat → Int} {E : Nat → Nat} {i : Nat} (hPl : Plan g m R E) (hi : i < m) (hm : MN (I 145) (402 * li) g m) (hp : PlIs I m R E (i + 1)) (hq : ∀ I', fr I I' [150, 152, 153, 154] → PlIs I' m R E i → Q none T I' J) : PW G x0 l mX12_solves (d + 2) (ZM G x0 Q) k n 0 [(0, .ref (x0 + 144)), (1, .int (zI li)), (2, .int (zI i))] [] T I J := by
  refine s_iconst (v := 0) dX12_solves_0 (by decide) ?_
  refine s_istore_n (i := 3) dX12_solves_1 rfl (by decide) (by simp only [sl, sl2, rm, Value.category, reduceIte, Nat.reduceAdd, Nat.reduceEqDiff, reduceCtorEq]; rfl) ?_
  exact ml_solves0 hM hli hmm hg hPl hi 21 0 I (by omega) hm (fun q h => absurd h (Nat.not_lt_zero q)) hp hq
