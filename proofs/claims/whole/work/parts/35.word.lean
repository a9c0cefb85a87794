/-! words -/
theorem tb_ext {x y : Int64} (h : ∀ j, j < 64 → tbit x j = tbit y j) : x = y := Int64.toBitVec.inj (BitVec.eq_of_getLsbD_eq (fun j hj => h j hj))
theorem sh_amtL : ∀ s, s < 64 → (((zI ((s : Nat) : Int)).toInt64 &&& 63).toBitVec.smod 64).toNat = s := by decide
theorem tb_shl (x : Int64) {s j : Nat} (hs : s < 64) (hj : j < 64) : tbit (x <<< ((zI ((s : Nat) : Int)).toInt64 &&& 63)) j = (decide (s ≤ j) && tbit x (j - s)) := by
  unfold tbit
  rw [Int64.toBitVec_shiftLeft, BitVec.shiftLeft_eq', sh_amtL s hs, BitVec.getLsbD_shiftLeft]
  by_cases h : s ≤ j
  · simp [h, hj]
  · simp [h]
theorem tb_shr (x : Int64) {s j : Nat} (hs : s < 64) (hj : s + j < 64) : tbit (x >>> ((zI ((s : Nat) : Int)).toInt64 &&& 63)) j = tbit x (s + j) := by
  unfold tbit
  rw [Int64.toBitVec_shiftRight]
  show (BitVec.sshiftRight _ _).getLsbD j = _
  rw [sh_amtL s hs, BitVec.getLsbD_sshiftRight, if_pos hj]
  have : ¬ 64 ≤ j := by omega
  simp [this]
theorem zL_of {a : Int} (h1 : -2147483648 ≤ a) (h2 : a < 2147483648) : (zI a).toInt64 = Int64.ofInt a := by
  rw [← Int64.toInt_inj, Int32.toInt_toInt64, zI_t h1 h2, Int64.toInt_ofInt_of_le (by omega) (by omega)]
theorem tb_nat {a j : Nat} (h : a < 2147483648) (hj : j < 64) : tbit (zI (a : Int)).toInt64 j = a.testBit j := by
  rw [zL_of (by omega) (by omega)]
  unfold tbit
  show (BitVec.ofInt 64 (a : Int)).getLsbD j = _
  rw [BitVec.ofInt_natCast, BitVec.getLsbD_ofNat]
  simp [hj]
theorem msk : ∀ w, w < 21 → (1 : Int32) <<< (zI ((w : Nat) : Int) &&& 31) - 1 = zI (((2 ^ w - 1 : Nat)) : Int) := by decide
theorem zI_and {a b : Nat} (ha : a < 2147483648) (hb : b < 2147483648) : zI (a : Int) &&& zI (b : Int) = zI ((a &&& b : Nat) : Int) := by
  apply Int32.toBitVec.inj
  rw [Int32.toBitVec_and]
  show BitVec.ofInt 32 (a : Int) &&& BitVec.ofInt 32 (b : Int) = BitVec.ofInt 32 _
  rw [BitVec.ofInt_natCast, BitVec.ofInt_natCast, BitVec.ofInt_natCast, BitVec.ofNat_and]
theorem low_of {x w : Nat} (hx : x < 1048576) (hw : w ≤ 20) : zI (x : Int) &&& ((1 : Int32) <<< (zI (w : Int) &&& 31) - 1) = zI ((x % 2 ^ w : Nat) : Int) := by
  rw [msk w (by omega)]
  have : 2 ^ w ≤ 2 ^ 20 := Nat.pow_le_pow_right (by omega) hw
  rw [zI_and (by omega) (by have : (2:Nat) ^ 20 = 1048576 := by decide
                            omega), Nat.and_two_pow_sub_one_eq_mod]
/-- the bit of a word -/
def wbit (g : Nat → Int) (f len k j : Nat) : Bool := decide (1 + (32 * k + j) / bw g f len < len) && (gp g (f + (1 + (32 * k + j) / bw g f len))).testBit ((32 * k + j) % bw g f len)
def wvB (p : Nat → Bool) : Nat → BitVec 64
  | 0 => 0
  | b + 1 => if p b then wvB p b ||| BitVec.twoPow 64 b else wvB p b
def wordV (g : Nat → Int) (f len k : Nat) : Int64 := Int64.ofBitVec (wvB (wbit g f len k) 32)
theorem wvB_bit (p : Nat → Bool) {j : Nat} (hj : j < 64) : ∀ b, b ≤ 64 → (wvB p b).getLsbD j = (decide (j < b) && p j) := by
  intro b
  induction b with
  | zero => intro _; simp [wvB]
  | succ b ih =>
    intro hb
    have h := ih (by omega)
    simp only [wvB]
    by_cases hp : p b = true
    · rw [if_pos hp, BitVec.getLsbD_or, h, BitVec.getLsbD_twoPow]
      rcases Nat.lt_trichotomy j b with e | e | e
      · have e2 : ¬ b = j := by omega
        have e3 : j < b + 1 := by omega
        simp [e, e2, e3]
      · subst e
        simp [hp]; omega
      · have e1 : ¬ j < b := by omega
        have e2 : ¬ b = j := by omega
        have e3 : ¬ j < b + 1 := by omega
        simp [e1, e2, e3]
    · rw [if_neg hp, h]
      rcases Nat.lt_trichotomy j b with e | e | e
      · have e3 : j < b + 1 := by omega
        simp [e, e3]
      · subst e
        simp [hp]
      · have e1 : ¬ j < b := by omega
        have e3 : ¬ j < b + 1 := by omega
        simp [e1, e3]
theorem wordV_bit (g : Nat → Int) (f len k : Nat) {j : Nat} (hj : j < 64) : tbit (wordV g f len k) j = (decide (j < 32) && wbit g f len k j) := wvB_bit _ hj 32 (by omega)
theorem divq {w p t : Nat} (hw : 0 < w) (h1 : w * t ≤ p) (h2 : p < w * t + w) : p / w = t ∧ p % w = p - w * t := by
  have h3 : p / w = t := by
    apply Nat.div_eq_of_lt_le
    · rw [Nat.mul_comm]; exact h1
    · rw [Nat.mul_comm, Nat.mul_succ]; exact h2
  have h4 := Nat.div_add_mod p w
  rw [h3] at h4
  omega
theorem w_step {x y : Int64} {g : Nat → Int} {f k w i : Nat} (hw : 0 < w) (hi : 1 ≤ i) (hx : ∀ j, j < 32 → tbit x j = (decide (1 + (32 * k + j) / w < i) && (gp g (f + (1 + (32 * k + j) / w))).testBit ((32 * k + j) % w))) (hy : ∀ j, j < 32 → tbit y j = (decide (w * (i - 1) ≤ 32 * k + j) && (decide (32 * k + j - w * (i - 1) < w) && (gp g (f + i)).testBit (32 * k + j - w * (i - 1))))) : ∀ j, j < 32 → tbit (x ||| y) j = (decide (1 + (32 * k + j) / w < i + 1) && (gp g (f + (1 + (32 * k + j) / w))).testBit ((32 * k + j) % w)) := by
  intro j hj
  rw [tbit_or, hx j hj, hy j hj]
  generalize 32 * k + j = p
  rcases Nat.lt_trichotomy (p / w) (i - 1) with e | e | e
  · have h1 : p < w * (i - 1) := by rw [Nat.mul_comm]; exact (Nat.div_lt_iff_lt_mul hw).mp e
    have h2 : ¬ w * (i - 1) ≤ p := by omega
    have h3 : 1 + p / w < i := by omega
    have h4 : 1 + p / w < i + 1 := by omega
    simp [h2, h3, h4]
  · have h1 := Nat.div_add_mod p w
    have h2 := Nat.mod_lt p hw
    rw [e] at h1
    have h3 : ¬ 1 + p / w < i := by omega
    have h4 : 1 + p / w < i + 1 := by omega
    have h5 : 1 + p / w = i := by omega
    have h6 : w * (i - 1) ≤ p := by omega
    have h7 : p % w = p - w * (i - 1) := by omega
    have h8 : p - w * (i - 1) < w := by omega
    rw [h5, h7]
    simp [h6, h8]
  · have h1 := Nat.div_mul_le_self p w
    have h0 : w * (i - 1 + 1) ≤ p := by
      refine Nat.le_trans ?_ h1
      rw [Nat.mul_comm]
      exact Nat.mul_le_mul_right w e
    rw [Nat.mul_succ] at h0
    have h3 : ¬ 1 + p / w < i := by omega
    have h4 : ¬ 1 + p / w < i + 1 := by omega
    have h8 : ¬ p - w * (i - 1) < w := by omega
    simp [h3, h4, h8]
set_option maxRecDepth 100000 in
set_option maxHeartbeats 1000000 in
theorem l_word {G : fG} {x0 : Nat} {l : Launch} {d k n : Nat} {T : fT} {I : fI} {J : fJ} {Q : Option Value → fT → fI → fJ → Prop} {v r cap m f len kk : Nat} {g : Nat → Int} (hV : ViewIs T I v r g f len) (hR : RowIs T I r cap g m) (hg : GapOk g m) (hm : m ≤ 100000) (hfl : f + len ≤ m) (hl2 : len ≤ 1000) (hkk : kk ≤ 1000) (hb0 : 0 < bw g f len) (hq : Q (some (.long (wordV g f len kk))) T I J) : ∀ (z i : Nat) (x : Int64), len - i ≤ z → 1 ≤ i → i ≤ len → 1 + 32 * kk / bw g f len ≤ i → (∀ j, j < 32 → tbit x j = (decide (1 + (32 * kk + j) / bw g f len < i) && (gp g (f + (1 + (32 * kk + j) / bw g f len))).testBit ((32 * kk + j) % bw g f len))) →
    PW G x0 l mX0_wordAt (d + 1) (ZM G x0 Q) k n 26 [(0, .ref (x0 + v)), (1, .int (zI kk)), (2, .int (zI ((32 * kk : Nat) : Int))), (3, .long x), (5, .int (zI i))] [] T I J := by
  obtain ⟨hA, hVr, v2, v3, v4, v5, v6⟩ := id hV
  obtain ⟨a1, a2, a3, a4, a5, a6⟩ := id hA
  obtain ⟨k1, k2, k3, k4, k5, k6, k7⟩ := id hR.1
  have hb := bw_le g f len
  have fin : ∀ (x : Int64), (∀ j, j < 32 → tbit x j = (decide (1 + (32 * kk + j) / bw g f len < len) && (gp g (f + (1 + (32 * kk + j) / bw g f len))).testBit ((32 * kk + j) % bw g f len))) → x &&& 4294967295 = wordV g f len kk := by
    intro x hx
    apply tb_ext
    intro j hj
    rw [tbit_and, wordV_bit _ _ _ _ hj, show tbit 4294967295 j = decide (j < 32) from (by decide : ∀ j, j < 64 → tbit 4294967295 j = decide (j < 32)) j hj]
    by_cases h : j < 32
    · rw [hx j h]
      simp only [h, decide_true, Bool.and_true, Bool.true_and]
      rfl
    · simp [h]
  intro z
  induction z with
  | zero =>
    intro i x hz hi1 hi hi0 hx
    have hil : i = len := by omega
    subst hil
    refine s_iload dX0_wordAt_26 rfl ?_
    refine s_aload_n (i := 0) dX0_wordAt_28 rfl rfl ?_
    refine s_getI dX0_wordAt_29 fl_X0_23 (by assumption) (by assumption) ?_
    refine s_icmp_ge (tgt := 112) dX0_wordAt_32 (by decide) (fun h32 => ?_) (fun h32 => absurd (by rw [t_zI v3, zI_le (by omega) (by omega) (by omega) (by omega)]; omega) h32)
    refine s_lload_n (i := 3) dX0_wordAt_112 rfl rfl ?_
    refine s_ldc2 dX0_wordAt_113 wK_X0_70 ?_
    refine s_land dX0_wordAt_116 ?_
    refine s_lret dX0_wordAt_117 rfl ?_
    rw [fin x hx]
    exact hq
  | succ z ih =>
    intro i x hz hi1 hi hi0 hx
    have hi0' : 32 * kk / bw g f len < i := by generalize 32 * kk / bw g f len = D at hi0; omega
    have hi0p := (Nat.div_lt_iff_lt_mul hb0).mp hi0'
    have hi0n : 1 + 32 * kk / bw g f len ≤ i + 1 := Nat.le_succ_of_le hi0
    have hii : i * bw g f len = bw g f len * (i - 1) + bw g f len := by
      obtain ⟨q, rfl⟩ : ∃ q, i = q + 1 := ⟨i - 1, by omega⟩
      rw [Nat.add_sub_cancel, Nat.mul_comm, Nat.mul_succ]
    rw [hii] at hi0p
    obtain ⟨P, hP⟩ : ∃ P, bw g f len * (i - 1) = P := ⟨_, rfl⟩
    rw [hP] at hi0p
    have hP2 : (i - 1) * bw g f len = P := by rw [Nat.mul_comm]; exact hP
    have hmul : P ≤ 20 * 1000 := by rw [← hP]; exact Nat.mul_le_mul hb (by omega)
    have hc : (bw g f len : Int) * ((i : Int) - 1) = (P : Int) := by rw [← hP, Int.natCast_mul]; congr 1; omega
    refine s_iload dX0_wordAt_26 rfl ?_
    refine s_aload_n (i := 0) dX0_wordAt_28 rfl rfl ?_
    refine s_getI dX0_wordAt_29 fl_X0_23 (by assumption) (by assumption) ?_
    refine s_icmp_ge (tgt := 112) dX0_wordAt_32 (by decide) (fun c32 => ?_) (fun c32 => ?_)
    · try rw [t_zI v3, zI_le (by omega) (by omega) (by omega) (by omega)] at c32
      try rw [show (32 : Int32) = zI 32 from rfl, zI_lt (by omega) (by omega) (by omega) (by omega)] at c52
      refine s_lload_n (i := 3) dX0_wordAt_112 rfl rfl ?_
      refine s_ldc2 dX0_wordAt_113 wK_X0_70 ?_
      refine s_land dX0_wordAt_116 ?_
      refine s_lret dX0_wordAt_117 rfl ?_
      rw [fin x (fun j hj => ?_)]
      · exact hq
      first
      | (rw [show i = len by omega] at hx; exact hx j hj)
      | (rw [hx j hj]
         have e : (32 * kk + j) / bw g f len < i - 1 := (Nat.div_lt_iff_lt_mul hb0).mpr (by rw [hP2]; omega)
         have e1 : 1 + (32 * kk + j) / bw g f len < i := by omega
         have e2 : 1 + (32 * kk + j) / bw g f len < len := by omega
         simp only [e1, e2])
    · rw [t_zI v3, zI_le (by omega) (by omega) (by omega) (by omega)] at c32
      have hgz := gapz_in hg (i := f + i) (by omega) (by omega)
      refine s_aload_n (i := 0) dX0_wordAt_35 rfl rfl ?_
      refine s_getI dX0_wordAt_36 fl_X0_51 (by assumption) (by assumption) ?_
      refine s_iload dX0_wordAt_39 rfl ?_
      refine s_iconst (v := 1) dX0_wordAt_41 (by decide) ?_
      refine s_isub dX0_wordAt_42 ?_
      refine s_imul dX0_wordAt_43 ?_
      refine s_iload_n (i := 2) dX0_wordAt_44 rfl rfl ?_
      refine s_isub dX0_wordAt_45 ?_
      refine s_topi (y := zI ((P : Int) - ((32 * kk : Nat) : Int))) (by rw [t_zI v4, z1, zI_sub, zI_mul, hc, zI_sub]) ?_
      refine s_istore dX0_wordAt_46 (by decide) (by simp only [sl, sl2, rm, Value.category, reduceIte, Nat.reduceAdd, Nat.reduceEqDiff, reduceCtorEq]; rfl) ?_
      refine s_iload dX0_wordAt_48 rfl ?_
      refine s_bipush (v := 32) dX0_wordAt_50 (by decide) ?_
      refine s_icmp_lt (tgt := 58) dX0_wordAt_52 (by decide) (fun c52 => ?_) (fun c52 => ?_)
      · rw [show (32 : Int32) = zI 32 from rfl, zI_lt (by omega) (by omega) (by omega) (by omega)] at c52
        have hlow : gp g (f + i) % 2 ^ bw g f len < 2147483648 := Nat.lt_of_le_of_lt (Nat.mod_le _ _) (by omega)
        refine s_aload_n (i := 0) dX0_wordAt_58 rfl rfl ?_
        refine s_getR dX0_wordAt_59 fl_X0_15 (by assumption) (by assumption) (by assumption) ?_
        refine s_aload_n (i := 0) dX0_wordAt_62 rfl rfl ?_
        refine s_getI dX0_wordAt_63 fl_X0_19 (by assumption) (by assumption) ?_
        refine s_iload dX0_wordAt_66 rfl ?_
        refine s_iadd dX0_wordAt_68 ?_
        refine s_topi (y := zI (((f + i : Nat) : Int))) (by rw [t_zI v2, zI_add]; congr 1) ?_
        refine s_cV_I (My := mX9_gapBefore) dX0_wordAt_69 wM_X0_32 cb_yX9_gapBefore ci_yX9_gapBefore (by assumption) (by assumption) (Nat.le_of_ble_eq_true rfl) (by decide) (s_d (by omega) (c_gap (d := 0) hR (by omega) (by omega) ?_))
        refine s_iconst (v := 1) dX0_wordAt_72 (by decide) ?_
        refine s_aload_n (i := 0) dX0_wordAt_73 rfl rfl ?_
        refine s_getI dX0_wordAt_74 fl_X0_51 (by assumption) (by assumption) ?_
        refine s_ishl dX0_wordAt_77 ?_
        refine s_iconst (v := 1) dX0_wordAt_78 (by decide) ?_
        refine s_isub dX0_wordAt_79 ?_
        refine s_iand dX0_wordAt_80 ?_
        refine s_topi (y := zI ((gp g (f + i) % 2 ^ bw g f len : Nat) : Int)) (by rw [hgz.1, t_zI v4]; exact low_of (by omega) hb) ?_
        refine s_i2l dX0_wordAt_81 ?_
        refine s_lstore dX0_wordAt_82 (by decide) (by simp only [sl, sl2, rm, Value.category, reduceIte, Nat.reduceAdd, Nat.reduceEqDiff, reduceCtorEq]; rfl) ?_
        refine s_lload_n (i := 3) dX0_wordAt_84 rfl rfl ?_
        refine s_iload dX0_wordAt_85 rfl ?_
        refine s_if_lt (tgt := 98) dX0_wordAt_87 (by decide) (fun c87 => ?_) (fun c87 => ?_)
        · rw [z0, zI_lt (by omega) (by omega) (by omega) (by omega)] at c87
          obtain ⟨s, hs⟩ : ∃ s : Nat, -((P : Int) - ((32 * kk : Nat) : Int)) = s := ⟨(-((P : Int) - ((32 * kk : Nat) : Int))).toNat, by omega⟩
          refine s_lload dX0_wordAt_98 rfl ?_
          refine s_iload dX0_wordAt_100 rfl ?_
          refine s_ineg dX0_wordAt_102 ?_
          refine s_topi (y := zI (s : Int)) (by rw [zI_neg, hs]) ?_
          refine s_lshr dX0_wordAt_103 ?_
          refine s_lor dX0_wordAt_104 ?_
          refine s_lstore_n (i := 3) dX0_wordAt_105 rfl (by decide) (by simp only [sl, sl2, rm, Value.category, reduceIte, Nat.reduceAdd, Nat.reduceEqDiff, reduceCtorEq]; rfl) ?_
          refine s_iinc dX0_wordAt_106 rfl (zI_inc _) (by decide) (by simp only [sl, sl2, rm, Value.category, reduceIte, Nat.reduceAdd, Nat.reduceEqDiff, reduceCtorEq]; rfl) ?_
          refine s_goto (tgt := 26) dX0_wordAt_109 (by decide) ?_
          refine s_lv (lv' := [(0, .ref (x0 + v)), (1, .int (zI kk)), (2, .int (zI ((32 * kk : Nat) : Int))), (3, .long _), (5, .int (zI ((i + 1 : Nat) : Int)))]) ⟨rfl, rfl, rfl, rfl, rfl, trivial⟩ ?_
          refine ih (i + 1) _ (by omega) (by omega) (by omega) hi0n (w_step hb0 hi1 hx (fun j hj => ?_))
          rw [hP]
          rw [tb_shr (s := s) (j := j) _ (by omega) (by omega), tb_nat hlow (by omega), Nat.testBit_mod_two_pow, show s + j = 32 * kk + j - P by omega]
          have e : P ≤ 32 * kk + j := by omega
          simp only [e, decide_true, Bool.true_and]
        · rw [z0, zI_lt (by omega) (by omega) (by omega) (by omega)] at c87
          obtain ⟨s, hs⟩ : ∃ s : Nat, (P : Int) - ((32 * kk : Nat) : Int) = s := ⟨((P : Int) - ((32 * kk : Nat) : Int)).toNat, by omega⟩
          rw [hs]
          refine s_lload dX0_wordAt_90 rfl ?_
          refine s_iload dX0_wordAt_92 rfl ?_
          refine s_lshl dX0_wordAt_94 ?_
          refine s_goto (tgt := 104) dX0_wordAt_95 (by decide) ?_
          refine s_lor dX0_wordAt_104 ?_
          refine s_lstore_n (i := 3) dX0_wordAt_105 rfl (by decide) (by simp only [sl, sl2, rm, Value.category, reduceIte, Nat.reduceAdd, Nat.reduceEqDiff, reduceCtorEq]; rfl) ?_
          refine s_iinc dX0_wordAt_106 rfl (zI_inc _) (by decide) (by simp only [sl, sl2, rm, Value.category, reduceIte, Nat.reduceAdd, Nat.reduceEqDiff, reduceCtorEq]; rfl) ?_
          refine s_goto (tgt := 26) dX0_wordAt_109 (by decide) ?_
          refine s_lv (lv' := [(0, .ref (x0 + v)), (1, .int (zI kk)), (2, .int (zI ((32 * kk : Nat) : Int))), (3, .long _), (5, .int (zI ((i + 1 : Nat) : Int)))]) ⟨rfl, rfl, rfl, rfl, rfl, trivial⟩ ?_
          refine ih (i + 1) _ (by omega) (by omega) (by omega) hi0n (w_step hb0 hi1 hx (fun j hj => ?_))
          rw [hP]
          rw [tb_shl (s := s) (j := j) _ (by omega) (by omega)]
          by_cases e : s ≤ j
          · rw [tb_nat hlow (by omega), Nat.testBit_mod_two_pow, show j - s = 32 * kk + j - P by omega]
            have e2 : P ≤ 32 * kk + j := by omega
            simp only [e, e2, decide_true, Bool.true_and]
          · have e2 : ¬ P ≤ 32 * kk + j := by omega
            simp only [e, e2, decide_false, Bool.false_and]
      · refine s_goto (tgt := 112) dX0_wordAt_55 (by decide) ?_
        try rw [t_zI v3, zI_le (by omega) (by omega) (by omega) (by omega)] at c32
        try rw [show (32 : Int32) = zI 32 from rfl, zI_lt (by omega) (by omega) (by omega) (by omega)] at c52
        refine s_lload_n (i := 3) dX0_wordAt_112 rfl rfl ?_
        refine s_ldc2 dX0_wordAt_113 wK_X0_70 ?_
        refine s_land dX0_wordAt_116 ?_
        refine s_lret dX0_wordAt_117 rfl ?_
        rw [fin x (fun j hj => ?_)]
        · exact hq
        first
        | (rw [show i = len by omega] at hx; exact hx j hj)
        | (rw [hx j hj]
           have e : (32 * kk + j) / bw g f len < i - 1 := (Nat.div_lt_iff_lt_mul hb0).mpr (by rw [hP2]; omega)
           have e1 : 1 + (32 * kk + j) / bw g f len < i := by omega
           have e2 : 1 + (32 * kk + j) / bw g f len < len := by omega
           simp only [e1, e2])
set_option maxRecDepth 100000 in
set_option maxHeartbeats 1000000 in
theorem c_word {G : fG} {x0 : Nat} {l : Launch} {d k n : Nat} {T : fT} {I : fI} {J : fJ} {Q : Option Value → fT → fI → fJ → Prop} {v r cap m f len kk : Nat} {g : Nat → Int} (hV : ViewIs T I v r g f len) (hR : RowIs T I r cap g m) (hg : GapOk g m) (hm : m ≤ 100000) (hfl : f + len ≤ m) (hl : 1 ≤ len) (hl2 : len ≤ 1000) (hkk : kk < wordsN g f len) (hq : Q (some (.long (wordV g f len kk))) T I J) : PW G x0 l mX0_wordAt (d + 1) (ZM G x0 Q) k n 0 [(0, .ref (x0 + v)), (1, .int (zI kk))] [] T I J := by
  obtain ⟨hA, hVr, v2, v3, v4, v5, v6⟩ := id hV
  obtain ⟨a1, a2, a3, a4, a5, a6⟩ := id hA
  have hb := bw_le g f len
  unfold wordsN at hkk
  have hmul : bw g f len * (len - 1) ≤ 20 * 1000 := Nat.mul_le_mul hb (by omega)
  have hb0 : 0 < bw g f len := by
    rcases Nat.eq_zero_or_pos (bw g f len) with h | h
    · rw [h, Nat.zero_mul] at hkk; omega
    · exact h
  have hkk2 : 32 * kk + 1 ≤ bw g f len * (len - 1) := by generalize bw g f len * (len - 1) = P at hkk; omega
  have hk1000 : kk ≤ 1000 := by omega
  have hdl : 32 * kk / bw g f len < len - 1 := (Nat.div_lt_iff_lt_mul hb0).mpr (by rw [Nat.mul_comm (len - 1)]; omega)
  have hdl1 : 1 ≤ 1 + 32 * kk / bw g f len := Nat.le_add_right 1 _
  have hdl2 : 1 + 32 * kk / bw g f len ≤ len := by generalize 32 * kk / bw g f len = D at hdl; omega
  refine s_aload_n (i := 0) dX0_wordAt_0 rfl rfl ?_
  refine s_getI dX0_wordAt_1 fl_X0_51 (by assumption) (by assumption) ?_
  refine s_if_ne (tgt := 9) dX0_wordAt_4 (by decide) (fun c4 => ?_) (fun c4 => absurd c4 (fun h => by rw [t_zI v4, z0, zI_eq (by omega) (by omega) (by omega) (by omega)] at h; omega))
  refine s_bipush (v := 32) dX0_wordAt_9 (by decide) ?_
  refine s_iload_n (i := 1) dX0_wordAt_11 rfl rfl ?_
  refine s_imul dX0_wordAt_12 ?_
  refine s_topi (y := zI ((32 * kk : Nat) : Int)) (by show zI 32 * zI kk = _; rw [zI_mul]; congr 1) ?_
  refine s_istore_n (i := 2) dX0_wordAt_13 rfl (by decide) (by simp only [sl, sl2, rm, Value.category, reduceIte, Nat.reduceAdd, Nat.reduceEqDiff, reduceCtorEq]; rfl) ?_
  refine s_lconst (v := 0) dX0_wordAt_14 (by decide) ?_
  refine s_lstore_n (i := 3) dX0_wordAt_15 rfl (by decide) (by simp only [sl, sl2, rm, Value.category, reduceIte, Nat.reduceAdd, Nat.reduceEqDiff, reduceCtorEq]; rfl) ?_
  refine s_iconst (v := 1) dX0_wordAt_16 (by decide) ?_
  refine s_iload_n (i := 2) dX0_wordAt_17 rfl rfl ?_
  refine s_aload_n (i := 0) dX0_wordAt_18 rfl rfl ?_
  refine s_getI dX0_wordAt_19 fl_X0_51 (by assumption) (by assumption) ?_
  rw [t_zI v4]
  refine s_idiv dX0_wordAt_22 (by rw [z0, zI_eq (by omega) (by omega) (by omega) (by omega)]; omega) ?_
  refine s_iadd dX0_wordAt_23 ?_
  refine s_topi (y := zI ((1 + 32 * kk / bw g f len : Nat) : Int)) (by rw [zI_div (by omega) (by omega) (by omega) (by omega), z1, zI_add]; congr 1) ?_
  refine s_istore dX0_wordAt_24 (by decide) (by simp only [sl, sl2, rm, Value.category, reduceIte, Nat.reduceAdd, Nat.reduceEqDiff, reduceCtorEq]; rfl) ?_
  refine l_word hV hR hg hm hfl hl2 hk1000 hb0 hq len _ 0 (Nat.sub_le _ _) hdl1 hdl2 (Nat.le_refl _) (fun j hj => ?_)
  have e : ¬ 1 + (32 * kk + j) / bw g f len < 1 + 32 * kk / bw g f len := by
    have := Nat.div_le_div_right (c := bw g f len) (show 32 * kk ≤ 32 * kk + j by omega)
    omega
  simp only [e, decide_false, Bool.false_and]
  exact (by decide : ∀ j, j < 32 → tbit 0 j = false) j hj
