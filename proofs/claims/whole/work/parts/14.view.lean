theorem zI_and31 {b : Int} (h0 : 0 ≤ b) (h1 : b < 32) : zI b &&& 31 = zI b := by
  obtain ⟨c, rfl⟩ : ∃ c : Nat, b = c := ⟨b.toNat, by omega⟩
  have hc : c < 32 := by omega
  clear h0 h1
  revert hc
  revert c
  decide
theorem zI_shr {x b : Int} (h0 : 0 ≤ x) (h1 : x < 2147483648) (hb0 : 0 ≤ b) (hb : b < 32) : zI x >>> (zI b &&& 31) = zI (x / 2 ^ b.toNat) := by
  rw [zI_and31 hb0 hb]
  have hp : (0 : Int) < 2 ^ b.toNat := Int.pow_pos (by omega)
  have hle : x / 2 ^ b.toNat ≤ x := Int.ediv_le_self _ h0
  have hn : 0 ≤ x / 2 ^ b.toNat := Int.ediv_nonneg h0 (by omega)
  rw [← Int32.toInt_inj, zI_t (by omega) (by omega)]
  show (BitVec.sshiftRight' (zI x).toBitVec ((zI b).toBitVec.smod 32)).toInt = _
  have hb2 : (((zI b).toBitVec.smod 32)).toNat = b.toNat := by
    obtain ⟨c, rfl⟩ : ∃ c : Nat, b = c := ⟨b.toNat, by omega⟩
    have hc : c < 32 := by omega
    clear hp hle hn hb0 hb
    revert hc
    revert c
    decide
  rw [BitVec.sshiftRight', hb2, BitVec.toInt_sshiftRight]
  have hx : (zI x).toBitVec.toInt = x := zI_t (by omega) h1
  rw [hx, Int.shiftRight_eq_div_pow]
  norm_cast
set_option maxRecDepth 100000 in
set_option maxHeartbeats 4000000 in
theorem l_bits {G : fG} {x0 : Nat} {l : Launch} {d k n : Nat} {T : fT} {I : fI} {J : fJ} {Q : Option Value → fT → fI → fJ → Prop} {x : Int} (h0 : 0 ≤ x) (h1 : x < 1048576) (hq : Q (some (.int (zI (nbt x.toNat)))) T I J) : ∀ (z i : Nat), 20 - i ≤ z → i ≤ nbt x.toNat → PW G x0 l mX11_bitsOf d (ZM G x0 Q) k n 2 [(0, .int (zI x)), (1, .int (zI i))] [] T I J := by
  have hb : nbt x.toNat ≤ 20 := nbt_le.mpr (by omega)
  intro z
  induction z with
  | zero =>
    intro i hz hi
    refine s_iload_n (i := 1) dX11_bitsOf_2 rfl rfl ?_
    refine s_bipush (v := 20) dX11_bitsOf_3 (by decide) ?_
    refine s_icmp_ge (tgt := 20) dX11_bitsOf_5 (by decide) (fun h5 => ?_) (fun h5 => absurd (by show zI 20 ≤ zI i; rw [zI_le (by omega) (by omega) (by omega) (by omega)]; omega) h5)
    refine s_iload_n (i := 1) dX11_bitsOf_20 rfl rfl ?_
    refine s_iret dX11_bitsOf_21 rfl ?_
    rw [show (i : Int) = nbt x.toNat by omega]; exact hq
  | succ z ih =>
    intro i hz hi
    refine s_iload_n (i := 1) dX11_bitsOf_2 rfl rfl ?_
    refine s_bipush (v := 20) dX11_bitsOf_3 (by decide) ?_
    refine s_icmp_ge (tgt := 20) dX11_bitsOf_5 (by decide) (fun c5 => ?_) (fun c5 => ?_)
    · refine s_iload_n (i := 1) dX11_bitsOf_20 rfl rfl ?_
      refine s_iret dX11_bitsOf_21 rfl ?_
      have e : i = nbt x.toNat := by
        refine Nat.le_antisymm hi ?_
        first
        | (have c5 : zI 20 ≤ zI i := c5
           rw [zI_le (by omega) (by omega) (by omega) (by omega)] at c5
           omega)
        | (rw [nbt_le]
           rw [z0, zI_le (by omega) (by omega) (by omega) (by omega)] at c11
           have h3 : x < 2 ^ (i : Int).toNat := by
             rcases Int.lt_or_le x (2 ^ (i : Int).toNat) with h | h
             · exact h
             · have : 1 ≤ x / 2 ^ (i : Int).toNat := (Int.le_ediv_iff_mul_le hp).mpr (by omega)
               omega
           have h4 : (x.toNat : Int) < ((2 ^ i : Nat) : Int) := by
             rw [Int.toNat_of_nonneg h0]
             simpa using h3
           omega)
      rw [e]
      exact hq
    · have c5 : ¬ zI 20 ≤ zI i := c5
      rw [zI_le (by omega) (by omega) (by omega) (by omega)] at c5
      refine s_iload_n (i := 0) dX11_bitsOf_8 rfl rfl ?_
      refine s_iload_n (i := 1) dX11_bitsOf_9 rfl rfl ?_
      refine s_ishr dX11_bitsOf_10 ?_
      refine s_topi (zI_shr h0 (by omega) (by omega) (by omega)) ?_
      have hp : (0 : Int) < 2 ^ (i : Int).toNat := Int.pow_pos (by omega)
      have hle : x / 2 ^ (i : Int).toNat ≤ x := Int.ediv_le_self _ h0
      have hnn : 0 ≤ x / 2 ^ (i : Int).toNat := Int.ediv_nonneg h0 (by omega)
      refine s_if_le (tgt := 20) dX11_bitsOf_11 (by decide) (fun c11 => ?_) (fun c11 => ?_)
      · refine s_iload_n (i := 1) dX11_bitsOf_20 rfl rfl ?_
        refine s_iret dX11_bitsOf_21 rfl ?_
        have e : i = nbt x.toNat := by
          refine Nat.le_antisymm hi ?_
          first
          | (have c5 : zI 20 ≤ zI i := c5
             rw [zI_le (by omega) (by omega) (by omega) (by omega)] at c5
             omega)
          | (rw [nbt_le]
             rw [z0, zI_le (by omega) (by omega) (by omega) (by omega)] at c11
             have h3 : x < 2 ^ (i : Int).toNat := by
               rcases Int.lt_or_le x (2 ^ (i : Int).toNat) with h | h
               · exact h
               · have : 1 ≤ x / 2 ^ (i : Int).toNat := (Int.le_ediv_iff_mul_le hp).mpr (by omega)
                 omega
             have h4 : (x.toNat : Int) < ((2 ^ i : Nat) : Int) := by
               rw [Int.toNat_of_nonneg h0]
               simpa using h3
             omega)
        rw [e]
        exact hq
      · refine s_iinc dX11_bitsOf_14 rfl (zI_inc _) (by decide) (by simp only [sl, sl2, rm, Value.category, reduceIte, Nat.reduceAdd, Nat.reduceEqDiff, reduceCtorEq]; rfl) ?_
        refine s_goto (tgt := 2) dX11_bitsOf_17 (by decide) ?_
        refine ih (i + 1) (by omega) ?_
        have h2 : i < nbt x.toNat := by
          rw [lt_nbt]
          rw [z0, zI_le (by omega) (by omega) (by omega) (by omega)] at c11
          have h3 : (2 : Int) ^ (i : Int).toNat ≤ x := by
            have := (Int.le_ediv_iff_mul_le hp).mp (show 1 ≤ x / 2 ^ (i : Int).toNat by omega)
            omega
          have h4 : ((2 ^ i : Nat) : Int) ≤ (x.toNat : Int) := by
            rw [Int.toNat_of_nonneg h0]
            simpa using h3
          omega
        omega
set_option maxRecDepth 100000 in
set_option maxHeartbeats 4000000 in
theorem c_bits {G : fG} {x0 : Nat} {l : Launch} {d k n : Nat} {T : fT} {I : fI} {J : fJ} {Q : Option Value → fT → fI → fJ → Prop} {x : Int} (h0 : 0 ≤ x) (h1 : x < 1048576) (hq : Q (some (.int (zI (nbt x.toNat)))) T I J) : PW G x0 l mX11_bitsOf d (ZM G x0 Q) k n 0 [(0, .int (zI x))] [] T I J := by
  refine s_iconst (v := 0) dX11_bitsOf_0 (by decide) ?_
  refine s_istore_n (i := 1) dX11_bitsOf_1 rfl (by decide) (by simp only [sl, sl2, rm, Value.category, reduceIte, Nat.reduceAdd, Nat.reduceEqDiff, reduceCtorEq]; rfl) ?_
  exact l_bits h0 h1 hq 20 0 (by omega) (Nat.zero_le _)
set_option maxRecDepth 100000 in
set_option maxHeartbeats 4000000 in
theorem l_fill {G : fG} {x0 : Nat} {l : Launch} {d k n : Nat} {T : fT} {J : fJ} {Q : Option Value → fT → fI → fJ → Prop} {a N : Nat} {v : Int32} (ha : a < T.1) (hk : T.2.1 a = 13) (hN : T.2.2.1 a = N) (hN2 : N < 100000) : ∀ (z i : Nat) (I : fI), N - i ≤ z → i ≤ N → (hq : ∀ I', fr I I' [a] → (∀ q, q < i → I' a q = I a q) → (∀ q, i ≤ q → q < N → I' a q = v) → Q none T I' J) → PW G x0 l mJ7_fill_53178 d (ZM G x0 Q) k n 5 [(0, .ref (x0 + a)), (1, .int v), (2, .int (zI i)), (3, .int (zI N))] [] T I J := by
  intro z
  induction z with
  | zero =>
    intro i I hz hi hq
    refine s_iload_n (i := 2) dJ7_fill_53178_5 rfl rfl ?_
    refine s_iload_n (i := 3) dJ7_fill_53178_6 rfl rfl ?_
    refine s_icmp_ge (tgt := 20) dJ7_fill_53178_7 (by decide) (fun h7 => ?_) (fun h7 => absurd (by rw [zI_le (by omega) (by omega) (by omega) (by omega)]; omega) h7)
    refine s_ret dJ7_fill_53178_20 rfl ?_
    exact hq I (fr_refl I _) (fun _ _ => rfl) (fun q h1 h2 => absurd h2 (by omega))
  | succ z ih =>
    intro i I hz hi hq
    refine s_iload_n (i := 2) dJ7_fill_53178_5 rfl rfl ?_
    refine s_iload_n (i := 3) dJ7_fill_53178_6 rfl rfl ?_
    refine s_icmp_ge (tgt := 20) dJ7_fill_53178_7 (by decide) (fun c7 => ?_) (fun c7 => ?_)
    · refine s_ret dJ7_fill_53178_20 rfl ?_
      rw [zI_le (by omega) (by omega) (by omega) (by omega)] at c7
      exact hq I (fr_refl I _) (fun _ _ => rfl) (fun q h1 h2 => absurd h2 (by omega))
    · rw [zI_le (by omega) (by omega) (by omega) (by omega)] at c7
      refine s_aload_n (i := 0) dJ7_fill_53178_10 rfl rfl ?_
      refine s_iload_n (i := 2) dJ7_fill_53178_11 rfl rfl ?_
      refine s_iload_n (i := 1) dJ7_fill_53178_12 rfl rfl ?_
      refine s_iast dJ7_fill_53178_13 (by assumption) (by assumption) (by rw [hN]; exact z_in (by omega) (by omega) (by omega)) ?_
      refine s_iinc dJ7_fill_53178_14 rfl (zI_inc _) (by decide) (by simp only [sl, sl2, rm, Value.category, reduceIte, Nat.reduceAdd, Nat.reduceEqDiff, reduceCtorEq]; rfl) ?_
      refine s_goto (tgt := 5) dJ7_fill_53178_17 (by decide) ?_
      refine ih (i + 1) _ (by omega) (by omega) (fun I' hf h1 h2 => hq I' (fr_trans (fr_iu (by simp)) hf) (fun q hq => ?_) (fun q hq1 hq2 => ?_))
      · rw [h1 q (by omega), zI_n (by omega) (by omega), iu_j (by omega)]
      · by_cases h : q = i
        · rw [h1 q (by omega), zI_n (by omega) (by omega), h]
          simp only [Int.toNat_natCast, iu_at]
        · exact h2 q (by omega) hq2
set_option maxRecDepth 100000 in
set_option maxHeartbeats 4000000 in
theorem c_fill {G : fG} {x0 : Nat} {l : Launch} {d k n : Nat} {T : fT} {I : fI} {J : fJ} {Q : Option Value → fT → fI → fJ → Prop} {a N : Nat} {v : Int32} (ha : a < T.1) (hk : T.2.1 a = 13) (hN : T.2.2.1 a = N) (hN2 : N < 100000) (hq : ∀ I', fr I I' [a] → (∀ q, q < N → I' a q = v) → Q none T I' J) : PW G x0 l mJ7_fill_53178 d (ZM G x0 Q) k n 0 [(0, .ref (x0 + a)), (1, .int v)] [] T I J := by
  refine s_iconst (v := 0) dJ7_fill_53178_0 (by decide) ?_
  refine s_istore_n (i := 2) dJ7_fill_53178_1 rfl (by decide) (by simp only [sl, sl2, rm, Value.category, reduceIte, Nat.reduceAdd, Nat.reduceEqDiff, reduceCtorEq]; rfl) ?_
  refine s_aload_n (i := 0) dJ7_fill_53178_2 rfl rfl ?_
  refine s_alen dJ7_fill_53178_3 (by assumption) (by omega) (rfl) ?_
  refine s_topi (y := zI N) (by rw [hN]; rfl) ?_
  refine s_istore_n (i := 3) dJ7_fill_53178_4 rfl (by decide) (by simp only [sl, sl2, rm, Value.category, reduceIte, Nat.reduceAdd, Nat.reduceEqDiff, reduceCtorEq]; rfl) ?_
  exact l_fill ha hk hN hN2 N 0 I (by omega) (by omega) (fun I' h1 _ h3 => hq I' h1 (fun q hq => h3 q (Nat.zero_le q) hq))
def ViewAt (T : fT) (v : Nat) : Prop := v < T.1 ∧ T.2.1 v = 0 ∧ T.2.2.2 v 0 = some (v + 1) ∧ v + 1 < T.1 ∧ T.2.1 (v + 1) = 13 ∧ T.2.2.1 (v + 1) = 21
def ViewIs (T : fT) (I : fI) (v r : Nat) (g : Nat → Int) (f len : Nat) : Prop := ViewAt T v ∧ T.2.2.2 v 1 = some r ∧ (I v 2).toInt = f ∧ (I v 3).toInt = len ∧ (I v 4).toInt = bw g f len ∧ (I v 5).toInt = bexc g f len ∧ (I v 6).toInt = bcost g f len
/-- gaps that fit in 20 bits -/
def GapOk (g : Nat → Int) (m : Nat) : Prop := ∀ i, 1 ≤ i → i < m → 0 ≤ g i - g (i - 1) - 1 ∧ g i - g (i - 1) - 1 < 1048576
theorem bz_le {g : Nat → Int} {m i : Nat} (h : GapOk g m) (h1 : 1 ≤ i) (h2 : i < m) : bz g i ≤ 20 := nbt_le.mpr (by have := h i h1 h2; unfold gp; omega)
theorem csw_bd {g : Nat → Int} {f len w : Nat} (hl : 1 ≤ len) (hl2 : len ≤ 1000) (hw : w ≤ 20) : 32 ≤ csw g f len w ∧ csw g f len w ≤ 100000 := by
  have h1 := abv_le g f len w
  have h2 : (w : Int) * ((len : Int) - 1) ≤ 20 * ((len : Int) - 1) := Int.mul_le_mul_of_nonneg_right (by omega) (by omega)
  have h3 : 0 ≤ (w : Int) * ((len : Int) - 1) := Int.mul_nonneg (by omega) (by omega)
  unfold csw
  omega
set_option maxRecDepth 100000 in
set_option maxHeartbeats 4000000 in
theorem c_costWith {G : fG} {x0 : Nat} {l : Launch} {d k n : Nat} {T : fT} {I : fI} {J : fJ} {Q : Option Value → fT → fI → fJ → Prop} {v : Nat} {a b c : Int} (hV : ViewAt T v) (hl : I v 3 = zI c) (hq : Q (some (.int (zI (32 + a * (c - 1) + 28 * b)))) T I J) : PW G x0 l mX0_costWith d (ZM G x0 Q) k n 0 [(0, .ref (x0 + v)), (1, .int (zI a)), (2, .int (zI b))] [] T I J := by
  obtain ⟨a1, a2, a3, a4, a5, a6⟩ := id hV
  refine s_bipush (v := 32) dX0_costWith_0 (by decide) ?_
  refine s_iload_n (i := 1) dX0_costWith_2 rfl rfl ?_
  refine s_aload_n (i := 0) dX0_costWith_3 rfl rfl ?_
  refine s_getI dX0_costWith_4 fl_X0_23 (by assumption) (by assumption) ?_
  refine s_iconst (v := 1) dX0_costWith_7 (by decide) ?_
  refine s_isub dX0_costWith_8 ?_
  refine s_imul dX0_costWith_9 ?_
  refine s_iadd dX0_costWith_10 ?_
  refine s_bipush (v := 28) dX0_costWith_11 (by decide) ?_
  refine s_iload_n (i := 2) dX0_costWith_13 rfl rfl ?_
  refine s_imul dX0_costWith_14 ?_
  refine s_iadd dX0_costWith_15 ?_
  refine s_iret dX0_costWith_16 rfl ?_
  rw [hl]
  have e : zI 32 + zI a * (zI c - zI 1) + zI 28 * zI b = zI (32 + a * (c - 1) + 28 * b) := by rw [zI_sub, zI_mul, zI_add, zI_mul, zI_add]
  rw [← e] at hq
  exact hq
set_option maxRecDepth 100000 in
set_option maxHeartbeats 4000000 in
theorem l_cw {G : fG} {x0 : Nat} {l : Launch} {d k n : Nat} {T : fT} {J : fJ} {Q : Option Value → fT → fI → fJ → Prop} {v f len W : Nat} {g : Nat → Int} (hV : ViewAt T v) (hl : 1 ≤ len) (hl2 : len ≤ 1000) (hW : W ≤ 20) : ∀ (z i : Nat) (I : fI), W + 1 - i ≤ z → 1 ≤ i → i ≤ W + 1 → (I v 3).toInt = len → (∀ q, q ≤ 20 → (I (v + 1) q).toInt = need g f len q) → (I v 4).toInt = bwr g f len (i - 1) → (I v 5).toInt = abv g f len (bwr g f len (i - 1)) → (I v 6).toInt = csw g f len (bwr g f len (i - 1)) →
    (hq : ∀ I', fr I I' [v] → I' v 2 = I v 2 → I' v 3 = I v 3 → (I' v 4).toInt = bwr g f len W → (I' v 5).toInt = abv g f len (bwr g f len W) → (I' v 6).toInt = csw g f len (bwr g f len W) → Q none T I' J) → PW G x0 l mX0_chooseWidth (d + 1) (ZM G x0 Q) k n 42 [(0, .ref (x0 + v)), (1, .int (zI W)), (2, .int (zI (abv g f len (i - 1)))), (3, .int (zI i))] [] T I J := by
  obtain ⟨a1, a2, a3, a4, a5, a6⟩ := id hV
  intro z
  induction z with
  | zero =>
    intro i I hz hi1 hi h3 hn h4 h5 h6 hq
    refine s_iload_n (i := 3) dX0_chooseWidth_42 rfl rfl ?_
    refine s_iload_n (i := 1) dX0_chooseWidth_43 rfl rfl ?_
    refine s_icmp_gt (tgt := 95) dX0_chooseWidth_44 (by decide) (fun h44 => ?_) (fun h44 => absurd (by rw [zI_lt (by omega) (by omega) (by omega) (by omega)]; omega) h44)
    refine s_ret dX0_chooseWidth_95 rfl ?_
    exact hq I (fr_refl I _) rfl rfl (by rw [show W = i - 1 by omega]; exact h4) (by rw [show W = i - 1 by omega]; exact h5) (by rw [show W = i - 1 by omega]; exact h6)
  | succ z ih =>
    intro i I hz hi1 hi h3 hn h4 h5 h6 hq
    refine s_iload_n (i := 3) dX0_chooseWidth_42 rfl rfl ?_
    refine s_iload_n (i := 1) dX0_chooseWidth_43 rfl rfl ?_
    refine s_icmp_gt (tgt := 95) dX0_chooseWidth_44 (by decide) (fun c44 => ?_) (fun c44 => ?_)
    · refine s_ret dX0_chooseWidth_95 rfl ?_
      rw [zI_lt (by omega) (by omega) (by omega) (by omega)] at c44
      exact hq I (fr_refl I _) rfl rfl (by rw [show W = i - 1 by omega]; exact h4) (by rw [show W = i - 1 by omega]; exact h5) (by rw [show W = i - 1 by omega]; exact h6)
    · rw [zI_lt (by omega) (by omega) (by omega) (by omega)] at c44
      obtain ⟨q, rfl⟩ : ∃ q, i = q + 1 := ⟨i - 1, by omega⟩
      rw [Nat.add_sub_cancel] at h4 h5 h6
      have hab := abv_succ g f len q
      have hal := abv_le g f len (q + 1)
      have hbl := bwr_le g f len q
      have hcs := csw_bd (g := g) (f := f) (w := q + 1) hl hl2 (by omega)
      have hcs2 := csw_bd (g := g) (f := f) (w := bwr g f len q) hl hl2 (by omega)
      refine s_iload_n (i := 2) dX0_chooseWidth_47 rfl rfl ?_
      refine s_aload_n (i := 0) dX0_chooseWidth_48 rfl rfl ?_
      refine s_getR dX0_chooseWidth_49 fl_X0_9 (by assumption) (by assumption) (by assumption) ?_
      refine s_iload_n (i := 3) dX0_chooseWidth_52 rfl rfl ?_
      refine s_iald dX0_chooseWidth_53 (by assumption) (by assumption) (by rw [a6]; exact z_in (by omega) (by omega) (by omega)) ?_
      refine s_isub dX0_chooseWidth_54 ?_
      refine s_topi (y := zI (abv g f len (q + 1))) (by rw [zI_n (by omega) (by omega), t_zI (hn _ (by omega)), zI_sub]; congr 1; simp only [Nat.add_sub_cancel, Int.toNat_natCast]; omega) ?_
      refine s_istore_n (i := 2) dX0_chooseWidth_55 rfl (by decide) (by simp only [sl, sl2, rm, Value.category, reduceIte, Nat.reduceAdd, Nat.reduceEqDiff, reduceCtorEq]; rfl) ?_
      refine s_aload_n (i := 0) dX0_chooseWidth_56 rfl rfl ?_
      refine s_iload_n (i := 3) dX0_chooseWidth_57 rfl rfl ?_
      refine s_iload_n (i := 2) dX0_chooseWidth_58 rfl rfl ?_
      refine s_cV_II (My := mX0_costWith) dX0_chooseWidth_59 wM_X0_57 cb_yX0_costWith ci_yX0_costWith (by assumption) (by assumption) (Nat.le_of_ble_eq_true rfl) (by decide) (c_costWith (c := (len : Int)) hV (t_zI h3) ?_)
      refine s_topi (y := zI (csw g f len (q + 1))) rfl ?_
      refine s_istore dX0_chooseWidth_62 (by decide) (by simp only [sl, sl2, rm, Value.category, reduceIte, Nat.reduceAdd, Nat.reduceEqDiff, reduceCtorEq]; rfl) ?_
      refine s_iload dX0_chooseWidth_64 rfl ?_
      refine s_aload_n (i := 0) dX0_chooseWidth_66 rfl rfl ?_
      refine s_getI dX0_chooseWidth_67 fl_X0_60 (by assumption) (by assumption) ?_
      refine s_icmp_ge (tgt := 89) dX0_chooseWidth_70 (by decide) (fun c70 => ?_) (fun c70 => ?_)
      · refine s_iinc dX0_chooseWidth_89 rfl (zI_inc _) (by decide) (by simp only [sl, sl2, rm, Value.category, reduceIte, Nat.reduceAdd, Nat.reduceEqDiff, reduceCtorEq]; rfl) ?_
        refine s_goto (tgt := 42) dX0_chooseWidth_92 (by decide) ?_
        refine s_lv (lv' := [(0, .ref (x0 + v)), (1, .int (zI W)), (2, .int (zI (abv g f len (q + 1)))), (3, .int (zI ((q + 2 : Nat) : Int)))]) ⟨rfl, rfl, rfl, rfl, trivial⟩ ?_
        have c70' : I v 6 ≤ zI (csw g f len (q + 1)) ↔ csw g f len (bwr g f len q) ≤ csw g f len (q + 1) := by rw [t_le', h6, zI_t (by omega) (by omega)]
        first
        | (have hb : bwr g f len (q + 1) = bwr g f len q := by
             simp only [bwr]
             rw [if_neg (Int.not_lt.mpr (c70'.mp c70))]
           exact ih (q + 2) I (by omega) (by omega) (by omega) h3 hn (by rw [show q + 2 - 1 = q + 1 by omega, hb]; exact h4) (by rw [show q + 2 - 1 = q + 1 by omega, hb]; exact h5) (by rw [show q + 2 - 1 = q + 1 by omega, hb]; exact h6) hq)
        | (have hb : bwr g f len (q + 1) = q + 1 := by
             simp only [bwr]
             rw [if_pos (Int.not_le.mp (fun h => c70 (c70'.mpr h)))]
           refine ih (q + 2) _ (by omega) (by omega) (by omega) ?_ (fun u hu => ?_) ?_ ?_ ?_ (fun I' hf e2 e3 e4 e5 e6 => hq I' (fr_trans (fr_trans (fr_trans (fr_iu (by simp)) (fr_iu (by simp))) (fr_iu (by simp))) hf) ?_ ?_ e4 e5 e6)
           · rw [iu_j (by omega), iu_j (by omega), iu_j (by omega)]; exact h3
           · rw [iu_b (by omega), iu_b (by omega), iu_b (by omega)]; exact hn u hu
           · rw [iu_j (by omega), iu_j (by omega), iu_at, show q + 2 - 1 = q + 1 by omega, hb]; exact zI_t (by omega) (by omega)
           · rw [iu_j (by omega), iu_at, show q + 2 - 1 = q + 1 by omega, hb]; exact zI_t (by omega) (by omega)
           · rw [iu_at, show q + 2 - 1 = q + 1 by omega, hb]; exact zI_t (by omega) (by omega)
           · rw [e2, iu_j (by omega), iu_j (by omega), iu_j (by omega)]
           · rw [e3, iu_j (by omega), iu_j (by omega), iu_j (by omega)])
      · refine s_aload_n (i := 0) dX0_chooseWidth_73 rfl rfl ?_
        refine s_iload_n (i := 3) dX0_chooseWidth_74 rfl rfl ?_
        refine s_putI dX0_chooseWidth_75 fp_X0_51 (by assumption) (by assumption) ?_
        refine s_aload_n (i := 0) dX0_chooseWidth_78 rfl rfl ?_
        refine s_iload_n (i := 2) dX0_chooseWidth_79 rfl rfl ?_
        refine s_putI dX0_chooseWidth_80 fp_X0_54 (by assumption) (by assumption) ?_
        refine s_aload_n (i := 0) dX0_chooseWidth_83 rfl rfl ?_
        refine s_iload dX0_chooseWidth_84 rfl ?_
        refine s_putI dX0_chooseWidth_86 fp_X0_60 (by assumption) (by assumption) ?_
        refine s_iinc dX0_chooseWidth_89 rfl (zI_inc _) (by decide) (by simp only [sl, sl2, rm, Value.category, reduceIte, Nat.reduceAdd, Nat.reduceEqDiff, reduceCtorEq]; rfl) ?_
        refine s_goto (tgt := 42) dX0_chooseWidth_92 (by decide) ?_
        refine s_lv (lv' := [(0, .ref (x0 + v)), (1, .int (zI W)), (2, .int (zI (abv g f len (q + 1)))), (3, .int (zI ((q + 2 : Nat) : Int)))]) ⟨rfl, rfl, rfl, rfl, trivial⟩ ?_
        have c70' : I v 6 ≤ zI (csw g f len (q + 1)) ↔ csw g f len (bwr g f len q) ≤ csw g f len (q + 1) := by rw [t_le', h6, zI_t (by omega) (by omega)]
        first
        | (have hb : bwr g f len (q + 1) = bwr g f len q := by
             simp only [bwr]
             rw [if_neg (Int.not_lt.mpr (c70'.mp c70))]
           exact ih (q + 2) I (by omega) (by omega) (by omega) h3 hn (by rw [show q + 2 - 1 = q + 1 by omega, hb]; exact h4) (by rw [show q + 2 - 1 = q + 1 by omega, hb]; exact h5) (by rw [show q + 2 - 1 = q + 1 by omega, hb]; exact h6) hq)
        | (have hb : bwr g f len (q + 1) = q + 1 := by
             simp only [bwr]
             rw [if_pos (Int.not_le.mp (fun h => c70 (c70'.mpr h)))]
           refine ih (q + 2) _ (by omega) (by omega) (by omega) ?_ (fun u hu => ?_) ?_ ?_ ?_ (fun I' hf e2 e3 e4 e5 e6 => hq I' (fr_trans (fr_trans (fr_trans (fr_iu (by simp)) (fr_iu (by simp))) (fr_iu (by simp))) hf) ?_ ?_ e4 e5 e6)
           · rw [iu_j (by omega), iu_j (by omega), iu_j (by omega)]; exact h3
           · rw [iu_b (by omega), iu_b (by omega), iu_b (by omega)]; exact hn u hu
           · rw [iu_j (by omega), iu_j (by omega), iu_at, show q + 2 - 1 = q + 1 by omega, hb]; exact zI_t (by omega) (by omega)
           · rw [iu_j (by omega), iu_at, show q + 2 - 1 = q + 1 by omega, hb]; exact zI_t (by omega) (by omega)
           · rw [iu_at, show q + 2 - 1 = q + 1 by omega, hb]; exact zI_t (by omega) (by omega)
           · rw [e2, iu_j (by omega), iu_j (by omega), iu_j (by omega)]
           · rw [e3, iu_j (by omega), iu_j (by omega), iu_j (by omega)])
set_option maxRecDepth 100000 in
set_option maxHeartbeats 4000000 in
theorem c_chooseWidth {G : fG} {x0 : Nat} {l : Launch} {d k n : Nat} {T : fT} {I : fI} {J : fJ} {Q : Option Value → fT → fI → fJ → Prop} {v f len W : Nat} {g : Nat → Int} (hV : ViewAt T v) (hl : 1 ≤ len) (hl2 : len ≤ 1000) (hW : W ≤ 20) (h3 : (I v 3).toInt = len) (hn : ∀ q, q ≤ 20 → (I (v + 1) q).toInt = need g f len q) (hq : ∀ I', fr I I' [v] → I' v 2 = I v 2 → I' v 3 = I v 3 → (I' v 4).toInt = bwr g f len W → (I' v 5).toInt = abv g f len (bwr g f len W) → (I' v 6).toInt = csw g f len (bwr g f len W) → Q none T I' J) : PW G x0 l mX0_chooseWidth (d + 1) (ZM G x0 Q) k n 0 [(0, .ref (x0 + v)), (1, .int (zI W))] [] T I J := by
  obtain ⟨a1, a2, a3, a4, a5, a6⟩ := id hV
  have hab := abv_zero g f len
  have hcs := csw_bd (g := g) (f := f) (w := 0) hl hl2 (by omega)
  refine s_aload_n (i := 0) dX0_chooseWidth_0 rfl rfl ?_
  refine s_iconst (v := 0) dX0_chooseWidth_1 (by decide) ?_
  refine s_putI dX0_chooseWidth_2 fp_X0_51 (by assumption) (by assumption) ?_
  refine s_aload_n (i := 0) dX0_chooseWidth_5 rfl rfl ?_
  refine s_aload_n (i := 0) dX0_chooseWidth_6 rfl rfl ?_
  refine s_getI dX0_chooseWidth_7 fl_X0_23 (by assumption) (by assumption) ?_
  refine s_iconst (v := 1) dX0_chooseWidth_10 (by decide) ?_
  refine s_isub dX0_chooseWidth_11 ?_
  refine s_aload_n (i := 0) dX0_chooseWidth_12 rfl rfl ?_
  refine s_getR dX0_chooseWidth_13 fl_X0_9 (by assumption) (by assumption) (by assumption) ?_
  refine s_iconst (v := 0) dX0_chooseWidth_16 (by decide) ?_
  refine s_iald dX0_chooseWidth_17 (by assumption) (by assumption) (by rw [a6]; exact z_in (z := 0) (by omega) (by omega) (by omega)) ?_
  refine s_isub dX0_chooseWidth_18 ?_
  refine s_topi (y := zI (abv g f len 0)) (by rw [iu_j (by omega), iu_b (by omega), t_zI h3]; show zI _ - zI 1 - (I (v + 1) 0) = _; rw [t_zI (hn 0 (by omega)), zI_sub, zI_sub]; congr 1; omega) ?_
  refine s_putI dX0_chooseWidth_19 fp_X0_54 (by assumption) (by assumption) ?_
  refine s_aload_n (i := 0) dX0_chooseWidth_22 rfl rfl ?_
  refine s_aload_n (i := 0) dX0_chooseWidth_23 rfl rfl ?_
  refine s_iconst (v := 0) dX0_chooseWidth_24 (by decide) ?_
  refine s_aload_n (i := 0) dX0_chooseWidth_25 rfl rfl ?_
  refine s_getI dX0_chooseWidth_26 fl_X0_54 (by assumption) (by assumption) ?_
  refine s_topi (y := zI (abv g f len 0)) iu_at ?_
  have hl3 : iu (iu I v 4 0) v 5 (zI (abv g f len 0)) v 3 = zI len := by rw [iu_j (by omega), iu_j (by omega)]; exact t_zI h3
  refine s_cV_II (My := mX0_costWith) dX0_chooseWidth_29 wM_X0_57 cb_yX0_costWith ci_yX0_costWith (by assumption) (by assumption) (Nat.le_of_ble_eq_true rfl) (by decide) (c_costWith (a := 0) hV hl3 ?_)
  refine s_topi (y := zI (csw g f len 0)) rfl ?_
  refine s_putI dX0_chooseWidth_32 fp_X0_60 (by assumption) (by assumption) ?_
  refine s_aload_n (i := 0) dX0_chooseWidth_35 rfl rfl ?_
  refine s_getI dX0_chooseWidth_36 fl_X0_54 (by assumption) (by assumption) ?_
  refine s_topi (y := zI (abv g f len 0)) (by rw [iu_j (by omega), iu_at]) ?_
  refine s_istore_n (i := 2) dX0_chooseWidth_39 rfl (by decide) (by simp only [sl, sl2, rm, Value.category, reduceIte, Nat.reduceAdd, Nat.reduceEqDiff, reduceCtorEq]; rfl) ?_
  refine s_iconst (v := 1) dX0_chooseWidth_40 (by decide) ?_
  refine s_istore_n (i := 3) dX0_chooseWidth_41 rfl (by decide) (by simp only [sl, sl2, rm, Value.category, reduceIte, Nat.reduceAdd, Nat.reduceEqDiff, reduceCtorEq]; rfl) ?_
  refine l_cw hV hl hl2 hW W 1 _ (by omega) (by omega) (by omega) ?_ (fun u hu => ?_) ?_ ?_ ?_ (fun I' hf e2 e3 e4 e5 e6 => hq I' (fr_trans (fr_trans (fr_trans (fr_iu (by simp)) (fr_iu (by simp))) (fr_iu (by simp))) hf) ?_ ?_ e4 e5 e6)
  · rw [iu_j (by omega), iu_j (by omega), iu_j (by omega)]; exact h3
  · rw [iu_b (by omega), iu_b (by omega), iu_b (by omega)]; exact hn u hu
  · rw [iu_j (by omega), iu_j (by omega), iu_at]; rfl
  · rw [iu_j (by omega), iu_at]; exact zI_t (by omega) (by omega)
  · rw [iu_at]; exact zI_t (by omega) (by omega)
  · rw [e2, iu_j (by omega), iu_j (by omega), iu_j (by omega)]
  · rw [e3, iu_j (by omega), iu_j (by omega), iu_j (by omega)]
