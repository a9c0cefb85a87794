theorem sumB5_bd {L : LSt} (h : LOk L) : ∀ j, j ≤ L.2.2.2 → 0 ≤ sumB L 5 j ∧ sumB L 5 j ≤ 100000 * (j : Int) := by
  intro j
  induction j with
  | zero => intro _; simp [sumB]
  | succ j ih =>
    intro hj
    have h1 := ih (by omega)
    have hb := h.blk (j := j) (by omega)
    have h2 := csw_bd (g := L.1) (f := bf L j) (len := bl L j) hb.2.2.2.1 (by omega) (w := bw L.1 (bf L j) (bl L j)) (bw_le _ _ _)
    have h3 : 32 ≤ bcost L.1 (bf L j) (bl L j) ∧ bcost L.1 (bf L j) (bl L j) ≤ 100000 := h2
    simp only [sumB]
    rw [bprop5]
    omega
theorem rCut.same {L L' : LSt} {y : Int} (h : rCut L y L') : L'.1 = L.1 ∧ L'.2.1 = L.2.1 := by
  rcases h with ⟨-, R, E, nb, h1, h2, h3, rfl⟩ | ⟨len, nb, -, h1, h2, h3, rfl⟩
  · exact ⟨rfl, rfl⟩
  · exact ⟨rfl, rfl⟩
def atf (L : LSt) (j : Nat) : Nat := if j < L.2.2.2 then bf L j else L.2.1
theorem atf_in {L : LSt} {j : Nat} (h : j < L.2.2.2) : atf L j = bf L j := if_pos h
theorem atf_out {L : LSt} {j : Nat} (h : ¬ j < L.2.2.2) : atf L j = L.2.1 := if_neg h
theorem LOk.atfs {L : LSt} (h : LOk L) {j : Nat} (hj : j < L.2.2.2) : atf L (j + 1) = bf L j + bl L j := by
  by_cases e : j + 1 < L.2.2.2
  · rw [atf_in e]; exact h.bfs e
  · rw [atf_out e]; exact (h.bfl (by omega)).symm
theorem LOk.atf0 {L : LSt} (h : LOk L) : atf L 0 = 0 := by
  by_cases e : 0 < L.2.2.2
  · rw [atf_in e]; exact h.bf0
  · rw [atf_out e]
    have := h.2.2.2.2.2.2
    omega
theorem cby_bl {L : LSt} {len nb : Nat} (hL : LOk (cbyL L len nb)) (h1 : L.2.1 ≤ nb * len) {j : Nat} (hj : j < nb) : bf (cbyL L len nb) j = j * len ∧ bl (cbyL L len nb) j = if j * len + len > L.2.1 then L.2.1 - j * len else len := by
  have e1 : bf (cbyL L len nb) j = j * len := by
    unfold bf
    show ((j : Int) * (len : Int)).toNat = _
    rw [← Int.natCast_mul, Int.toNat_natCast]
  refine ⟨e1, ?_⟩
  by_cases e : j + 1 < nb
  · have h3 := hL.bfs (j := j) e
    have e2 : bf (cbyL L len nb) (j + 1) = (j + 1) * len := by
      unfold bf
      show (((j + 1 : Nat) : Int) * (len : Int)).toNat = _
      rw [← Int.natCast_mul, Int.toNat_natCast]
    rw [e1, e2, Nat.succ_mul] at h3
    have hb := (hL.blk (j := j + 1) e)
    rw [e2] at hb
    have hb6 : (j + 1) * len + bl (cbyL L len nb) (j + 1) ≤ L.2.1 := hb.2.2.2.2.2
    rw [Nat.succ_mul] at hb6
    rw [if_neg (by omega)]
    omega
  · have h3 := hL.bfl (j := j) (show j + 1 = nb by omega)
    rw [e1] at h3
    have h3 : j * len + bl (cbyL L len nb) j = L.2.1 := h3
    rw [show nb = j + 1 by omega, Nat.succ_mul] at h1
    by_cases e3 : j * len + len > L.2.1
    · rw [if_pos e3]; omega
    · rw [if_neg e3]; omega
set_option maxRecDepth 100000 in
set_option maxHeartbeats 1000000 in
theorem ml_plans94 {G : fG} {x0 : Nat} {l : Launch} {d k n : Nat} {T : fT} {I : fI} {J : fJ} {Q : Option Value → fT → fI → fJ → Prop} {li : Nat} {L L' : LSt} (hM : MObj T) (hli : li < 6) (hmm : L'.2.1 ≤ 200) (hg : GapOk L'.1 L'.2.1) (hL : LOk L') {y : Int32} {j : Nat} {lv : List (Nat × Value)} (hj : j < L'.2.2.2) (hm : MN (I 145) (402 * li) L'.1 L'.2.1) (h13 : I 144 13 = zI j) (hc : ∀ q, q < j → I 151 q = zI (bl L' q)) (hv : lvs lv [(0, .ref (x0 + 144)), (1, .int (zI li)), (2, .int y), (3, .int (zI L'.2.1)), (4, .int (zI (sumB L' 5 j))), (5, .int (zI (bf L' j : Nat)))]) (kk : ∀ I1, fr I I1 [144, 150, 151] → (∀ q, q ≠ 13 → I1 144 q = I 144 q) → I1 144 13 = zI ((j + 1 : Nat) : Int) → (∀ q, q < j + 1 → I1 151 q = zI (bl L' q)) → PW G x0 l mX12_plans (d + 3) (ZM G x0 Q) k n 58 [(0, .ref (x0 + 144)), (1, .int (zI li)), (2, .int y), (3, .int (zI L'.2.1)), (4, .int (zI (sumB L' 5 (j + 1)))), (5, .int (zI (atf L' (j + 1) : Nat)))] [] T I1 J) : PW G x0 l mX12_plans (d + 3) (ZM G x0 Q) k n 94 lv [.int (zI (bl L' j))] T I J := by
  obtain ⟨o1, o2⟩ := hM.o
  obtain ⟨r152, b152, k152, n152⟩ := hM.a152
  obtain ⟨r153, b153, k153, n153⟩ := hM.a153
  obtain ⟨r154, b154, k154, n154⟩ := hM.a154
  obtain ⟨r151, b151, k151, n151⟩ := hM.a151
  have hnm := hL.nbm
  have hb := hL.blk hj
  have h20 := bz20 hg (f := bf L' j) (len := bl L' j) hb.2.2.2.2.2
  have hcb := csw_bd (g := L'.1) (f := bf L' j) (len := bl L' j) hb.2.2.2.1 (by omega) (w := bw L'.1 (bf L' j) (bl L' j)) (bw_le _ _ _)
  rw [hL.atfs hj] at kk
  refine s_lv hv ?_
  refine s_istore dX12_plans_94 (by decide) (by simp only [sl, sl2, rm, Value.category, reduceIte, Nat.reduceAdd, Nat.reduceEqDiff, reduceCtorEq]; rfl) ?_
  refine s_aload_n (i := 0) dX12_plans_96 rfl rfl ?_
  refine s_getR dX12_plans_97 fl_X12_35 (by assumption) (by assumption) (by assumption) ?_
  refine s_aload_n (i := 0) dX12_plans_100 rfl rfl ?_
  refine s_getI dX12_plans_101 fl_X12_134 (by assumption) (by assumption) ?_
  rw [h13]
  refine s_iload dX12_plans_104 rfl ?_
  refine s_istn (j := j) dX12_plans_106 (by assumption) (by assumption) (by assumption) (by first | with_reducible rfl | ((try simp only [z0, z1, zm1, zm2, zm3, zm4, zl2, zl3, zl4, zl5, zl6, zl7, zl8, zl9, zl10, zl20, zl28, zl31, zl32, zl33, zl48, zl57, zl64, zl100, zl127, zl200, zl201, zl202, zl402, zl1200, zl2412, zl16884, zI_add, zI_sub, zI_mul, zI_inc, zI_dec]) <;> (congr 1 <;> omega))) (by omega) (by decide) ?_
  refine s_aload_n (i := 0) dX12_plans_107 rfl rfl ?_
  refine s_dup dX12_plans_108 rfl ?_
  refine s_getI dX12_plans_109 fl_X12_134 (by assumption) (by assumption) ?_
  rw [iu_ne (by omega), h13]
  refine s_iconst (v := 1) dX12_plans_112 (by decide) ?_
  refine s_iadd dX12_plans_113 ?_
  refine s_topi (y := zI ((j + 1 : Nat) : Int)) (by first | with_reducible rfl | ((try simp only [z0, z1, zm1, zm2, zm3, zm4, zl2, zl3, zl4, zl5, zl6, zl7, zl8, zl9, zl10, zl20, zl28, zl31, zl32, zl33, zl48, zl57, zl64, zl100, zl127, zl200, zl201, zl202, zl402, zl1200, zl2412, zl16884, zI_add, zI_sub, zI_mul, zI_inc, zI_dec]) <;> (congr 1 <;> omega))) ?_
  refine s_putI dX12_plans_114 fp_X12_134 (by assumption) (by assumption) ?_
  refine s_aload_n (i := 0) dX12_plans_117 rfl rfl ?_
  refine s_iload_n (i := 1) dX12_plans_118 rfl rfl ?_
  refine s_iload dX12_plans_119 rfl ?_
  refine s_iload dX12_plans_121 rfl ?_
  refine s_iload dX12_plans_123 rfl ?_
  refine s_iadd dX12_plans_125 ?_
  refine s_iconst (v := 1) dX12_plans_126 (by decide) ?_
  refine s_isub dX12_plans_127 ?_
  refine s_topi (y := zI ((bf L' j : Int) + bl L' j - 1)) (by first | with_reducible rfl | ((try simp only [z0, z1, zm1, zm2, zm3, zm4, zl2, zl3, zl4, zl5, zl6, zl7, zl8, zl9, zl10, zl20, zl28, zl31, zl32, zl33, zl48, zl57, zl64, zl100, zl127, zl200, zl201, zl202, zl402, zl1200, zl2412, zl16884, zI_add, zI_sub, zI_mul, zI_inc, zI_dec]) <;> (congr 1 <;> omega))) ?_
  refine s_cV_III (My := mX12_counts) dX12_plans_128 wM_X12_115 cb_yX12_counts ci_yX12_counts (by assumption) (by assumption) (Nat.le_of_ble_eq_true rfl) (by decide) (s_d (by omega) (m_countsN (d := 0) hM hli hmm hg (by rw [iu_ne (by omega), iu_ne (by omega)]; exact hm) hb.2.2.2.2.2 (fun I1 hf1 hN1 => ?_)))
  refine s_iload dX12_plans_131 rfl ?_
  refine s_aload_n (i := 0) dX12_plans_133 rfl rfl ?_
  refine s_iload dX12_plans_134 rfl ?_
  refine s_aload_n (i := 0) dX12_plans_136 rfl rfl ?_
  refine s_iload dX12_plans_137 rfl ?_
  refine s_cV_I (My := mX12_best) dX12_plans_139 wM_X12_119 cb_yX12_best ci_yX12_best (by assumption) (by assumption) (Nat.le_of_ble_eq_true rfl) (by decide) (s_d (by omega) (m_best (d := 0) hM hN1 h20 hb.2.2.2.1 (by omega) ?_))
  refine s_cV_II (My := mX12_costOf) dX12_plans_142 wM_X12_125 cb_yX12_costOf ci_yX12_costOf (by assumption) (by assumption) (Nat.le_of_ble_eq_true rfl) (by decide) (s_d (by omega) (m_costOf (d := 0) hM hN1 h20 (bw_le _ _ _) ?_))
  refine s_iadd dX12_plans_145 ?_
  refine s_topi (y := zI (sumB L' 5 (j + 1))) (by rw [zI_add]; simp only [sumB]; rw [bprop5]; rfl) ?_
  refine s_istore dX12_plans_146 (by decide) (by simp only [sl, sl2, rm, Value.category, reduceIte, Nat.reduceAdd, Nat.reduceEqDiff, reduceCtorEq]; rfl) ?_
  refine s_iload dX12_plans_148 rfl ?_
  refine s_iload dX12_plans_150 rfl ?_
  refine s_iadd dX12_plans_152 ?_
  refine s_topi (y := zI ((bf L' j + bl L' j : Nat) : Int)) (by first | with_reducible rfl | ((try simp only [z0, z1, zm1, zm2, zm3, zm4, zl2, zl3, zl4, zl5, zl6, zl7, zl8, zl9, zl10, zl20, zl28, zl31, zl32, zl33, zl48, zl57, zl64, zl100, zl127, zl200, zl201, zl202, zl402, zl1200, zl2412, zl16884, zI_add, zI_sub, zI_mul, zI_inc, zI_dec]) <;> (congr 1 <;> omega))) ?_
  refine s_istore dX12_plans_153 (by decide) (by simp only [sl, sl2, rm, Value.category, reduceIte, Nat.reduceAdd, Nat.reduceEqDiff, reduceCtorEq]; rfl) ?_
  refine s_goto (tgt := 58) dX12_plans_155 (by decide) ?_
  refine s_lv (lv' := [(0, .ref (x0 + 144)), (1, .int (zI li)), (2, .int y), (3, .int (zI L'.2.1)), (4, .int (zI (sumB L' 5 (j + 1)))), (5, .int (zI (bf L' j + bl L' j : Nat)))]) ⟨rfl, rfl, rfl, rfl, rfl, rfl, trivial⟩ ?_
  refine kk I1 (fun b hb => ?_) (fun q hq => ?_) ?_ (fun q hq => ?_)
  · simp at hb
    rw [hf1 b (by simp; omega), iu_ne (by omega), iu_ne (by omega)]
  · rw [hf1 144 (by decide), iu_j hq, iu_ne (by omega)]
  · rw [hf1 144 (by decide), iu_at]
  · rw [hf1 151 (by decide), iu_ne (by omega)]
    by_cases e : q = j
    · subst e; rw [iu_at]
    · rw [iu_j e]; exact hc q (by omega)
set_option maxRecDepth 100000 in
set_option maxHeartbeats 1000000 in
theorem ml_plans {G : fG} {x0 : Nat} {l : Launch} {d k n : Nat} {T : fT} {J : fJ} {Q : Option Value → fT → fI → fJ → Prop} {li : Nat} {L L' : LSt} (hM : MObj T) (hli : li < 6) (hmm : L'.2.1 ≤ 200) (hg : GapOk L'.1 L'.2.1) (hL : LOk L') {y : Int32} {F : Nat → Int32} (hy : (y = 0 ∧ ∀ j, j < L'.2.2.2 → F (bf L' j) = zI (bl L' j)) ∨ (∃ len : Nat, y = zI len ∧ (1 ≤ len ∧ len ≤ 64) ∧ ∀ j, j < L'.2.2.2 → bl L' j = if bf L' j + len > L'.2.1 then L'.2.1 - bf L' j else len)) : ∀ (t j : Nat) (I : fI), j + t = L'.2.2.2 → MN (I 145) (402 * li) L'.1 L'.2.1 → I 144 13 = zI j → I 154 = F → (∀ q, q < j → I 151 q = zI (bl L' q)) → (∀ I', fr I I' [144, 150, 151] → (∀ q, q ≠ 13 → I' 144 q = I 144 q) → I' 144 13 = zI L'.2.2.2 → (∀ q, q < L'.2.2.2 → I' 151 q = zI (bl L' q)) → Q (some (.int (zI (sumB L' 5 L'.2.2.2)))) T I' J) → PW G x0 l mX12_plans (d + 3) (ZM G x0 Q) k n 58 [(0, .ref (x0 + 144)), (1, .int (zI li)), (2, .int y), (3, .int (zI L'.2.1)), (4, .int (zI (sumB L' 5 j))), (5, .int (zI (atf L' j : Nat)))] [] T I J := by
  obtain ⟨o1, o2⟩ := hM.o
  obtain ⟨r152, b152, k152, n152⟩ := hM.a152
  obtain ⟨r153, b153, k153, n153⟩ := hM.a153
  obtain ⟨r154, b154, k154, n154⟩ := hM.a154
  obtain ⟨r151, b151, k151, n151⟩ := hM.a151
  have hnm := hL.nbm
  intro t
  induction t with
  | zero =>
    intro j I ht hm h13 hF hc hq
    have hj : j = L'.2.2.2 := by omega
    subst hj
    rw [atf_out (Nat.lt_irrefl _)]
    refine s_iload dX12_plans_58 rfl ?_
    refine s_iload_n (i := 3) dX12_plans_60 rfl rfl ?_
    refine s_icmp_ge (tgt := 158) dX12_plans_61 (by decide) (fun h61 => ?_) (fun h61 => absurd ((zI_le (by omega) (by omega) (by omega) (by omega)).mpr (by omega)) h61)
    refine s_iload dX12_plans_158 rfl ?_
    refine s_iret dX12_plans_160 rfl ?_
    exact hq I (fr_refl I _) (fun _ _ => rfl) h13 hc
  | succ t ih =>
    intro j I ht hm h13 hF hc hq
    have hj : j < L'.2.2.2 := by omega
    rw [atf_in hj]
    have hb := hL.blk hj
    have cont : ∀ I1, fr I I1 [144, 150, 151] → (∀ q, q ≠ 13 → I1 144 q = I 144 q) → I1 144 13 = zI ((j + 1 : Nat) : Int) → (∀ q, q < j + 1 → I1 151 q = zI (bl L' q)) → PW G x0 l mX12_plans (d + 3) (ZM G x0 Q) k n 58 [(0, .ref (x0 + 144)), (1, .int (zI li)), (2, .int y), (3, .int (zI L'.2.1)), (4, .int (zI (sumB L' 5 (j + 1)))), (5, .int (zI (atf L' (j + 1) : Nat)))] [] T I1 J := fun I1 hf1 hj1 h131 hc1 =>
      ih (j + 1) I1 (by omega) (by rw [hf1 145 (by decide)]; exact hm) h131 (by rw [hf1 154 (by decide)]; exact hF) hc1 (fun I' hf hj2 a b => hq I' (fr_trans hf1 hf) (fun q h => (hj2 q h).trans (hj1 q h)) a b)
    obtain ⟨rfl, hF2⟩ | ⟨len, rfl, hlen, hF2⟩ := hy
    · have hF3 := hF2 j hj
      refine s_iload dX12_plans_58 rfl ?_
      refine s_iload_n (i := 3) dX12_plans_60 rfl rfl ?_
      refine s_icmp_ge (tgt := 158) dX12_plans_61 (by decide) (fun h61 => absurd h61 (fun h => by rw [zI_le (by omega) (by omega) (by omega) (by omega)] at h; omega)) (fun h61 => ?_)
      refine s_iload_n (i := 2) dX12_plans_64 rfl rfl ?_
      refine s_if_ne (tgt := 78) dX12_plans_65 (by decide) (fun h65 => absurd h65 (fun h => h rfl)) (fun h65 => ?_)
      refine s_aload_n (i := 0) dX12_plans_68 rfl rfl ?_
      refine s_getR dX12_plans_69 fl_X12_44 (by assumption) (by assumption) (by assumption) ?_
      refine s_iload dX12_plans_72 rfl ?_
      refine s_ildn (j := bf L' j) dX12_plans_74 (by assumption) (by assumption) (by assumption) (by first | with_reducible rfl | ((try simp only [z0, z1, zm1, zm2, zm3, zm4, zl2, zl3, zl4, zl5, zl6, zl7, zl8, zl9, zl10, zl20, zl28, zl31, zl32, zl33, zl48, zl57, zl64, zl100, zl127, zl200, zl201, zl202, zl402, zl1200, zl2412, zl16884, zI_add, zI_sub, zI_mul, zI_inc, zI_dec]) <;> (congr 1 <;> omega))) (by omega) (by decide) ?_
      rw [hF, hF3]
      refine s_goto (tgt := 94) dX12_plans_75 (by decide) ?_
      exact ml_plans94 (L := L) hM hli hmm hg hL hj hm h13 hc ⟨rfl, rfl, rfl, rfl, rfl, rfl, trivial⟩ cont
    · have hF3 := hF2 j hj
      refine s_iload dX12_plans_58 rfl ?_
      refine s_iload_n (i := 3) dX12_plans_60 rfl rfl ?_
      refine s_icmp_ge (tgt := 158) dX12_plans_61 (by decide) (fun h61 => absurd h61 (fun h => by rw [zI_le (by omega) (by omega) (by omega) (by omega)] at h; omega)) (fun h61 => ?_)
      refine s_iload_n (i := 2) dX12_plans_64 rfl rfl ?_
      refine s_if_ne (tgt := 78) dX12_plans_65 (by decide) (fun h65 => ?_) (fun h65 => absurd h65 (fun h => by rw [z0, zI_eq (by omega) (by omega) (by omega) (by omega)] at h; omega))
      refine s_iload dX12_plans_78 rfl ?_
      refine s_iload_n (i := 2) dX12_plans_80 rfl rfl ?_
      refine s_iadd dX12_plans_81 ?_
      refine s_topi (y := zI ((bf L' j + len : Nat) : Int)) (by first | with_reducible rfl | ((try simp only [z0, z1, zm1, zm2, zm3, zm4, zl2, zl3, zl4, zl5, zl6, zl7, zl8, zl9, zl10, zl20, zl28, zl31, zl32, zl33, zl48, zl57, zl64, zl100, zl127, zl200, zl201, zl202, zl402, zl1200, zl2412, zl16884, zI_add, zI_sub, zI_mul, zI_inc, zI_dec]) <;> (congr 1 <;> omega))) ?_
      refine s_iload_n (i := 3) dX12_plans_82 rfl rfl ?_
      refine s_icmp_le (tgt := 93) dX12_plans_83 (by decide) (fun c83 => ?_) (fun c83 => ?_)
      · rw [zI_le (by omega) (by omega) (by omega) (by omega)] at c83
        rw [if_neg (by omega)] at hF3
        refine s_iload_n (i := 2) dX12_plans_93 rfl rfl ?_
        refine s_topi (y := zI ((bl L' j : Nat) : Int)) (by rw [hF3]) ?_
        exact ml_plans94 (L := L) hM hli hmm hg hL hj hm h13 hc ⟨rfl, rfl, rfl, rfl, rfl, rfl, trivial⟩ cont
      · rw [zI_le (by omega) (by omega) (by omega) (by omega)] at c83
        rw [if_pos (by omega)] at hF3
        refine s_iload_n (i := 3) dX12_plans_86 rfl rfl ?_
        refine s_iload dX12_plans_87 rfl ?_
        refine s_isub dX12_plans_89 ?_
        refine s_topi (y := zI ((bl L' j : Nat) : Int)) (by first | with_reducible rfl | ((try simp only [z0, z1, zm1, zm2, zm3, zm4, zl2, zl3, zl4, zl5, zl6, zl7, zl8, zl9, zl10, zl20, zl28, zl31, zl32, zl33, zl48, zl57, zl64, zl100, zl127, zl200, zl201, zl202, zl402, zl1200, zl2412, zl16884, zI_add, zI_sub, zI_mul, zI_inc, zI_dec]) <;> (congr 1 <;> omega))) ?_
        refine s_goto (tgt := 94) dX12_plans_90 (by decide) ?_
        exact ml_plans94 (L := L) hM hli hmm hg hL hj hm h13 hc ⟨rfl, rfl, rfl, rfl, rfl, rfl, trivial⟩ cont
set_option maxRecDepth 100000 in
set_option maxHeartbeats 1000000 in
theorem ml_plans0 {G : fG} {x0 : Nat} {l : Launch} {d k n : Nat} {T : fT} {J : fJ} {Q : Option Value → fT → fI → fJ → Prop} {li m : Nat} {g : Nat → Int} (hM : MObj T) (hli : li < 6) (hmm : m ≤ 200) (hg : GapOk g m) {R : Nat → Int} {E : Nat → Nat} (hPl : Plan g m R E) : ∀ (i : Nat) (I : fI), i ≤ m → MN (I 145) (402 * li) g m → PlIs I m R E i → (∀ I', fr I I' [150, 152, 153, 154] → PlIs I' m R E 0 → PW G x0 l mX12_plans (d + 3) (ZM G x0 Q) k n 55 [(0, .ref (x0 + 144)), (1, .int (zI li)), (2, .int 0), (3, .int (zI m)), (4, .int 0)] [] T I' J) → PW G x0 l mX12_plans (d + 3) (ZM G x0 Q) k n 33 [(0, .ref (x0 + 144)), (1, .int (zI li)), (2, .int 0), (3, .int (zI m)), (4, .int 0), (5, .int (zI ((i : Int) - 1)))] [] T I J := by
  obtain ⟨o1, o2⟩ := hM.o
  obtain ⟨r152, b152, k152, n152⟩ := hM.a152
  obtain ⟨r153, b153, k153, n153⟩ := hM.a153
  obtain ⟨r154, b154, k154, n154⟩ := hM.a154
  obtain ⟨r151, b151, k151, n151⟩ := hM.a151
  intro i
  induction i with
  | zero =>
    intro I hi hm hp kk
    refine s_iload dX12_plans_33 rfl ?_
    refine s_if_lt (tgt := 55) dX12_plans_35 (by decide) (fun h35 => ?_) (fun h35 => absurd (by decide) h35)
    refine s_lv (lv' := [(0, .ref (x0 + 144)), (1, .int (zI li)), (2, .int 0), (3, .int (zI m)), (4, .int 0)]) ⟨rfl, rfl, rfl, rfl, rfl, trivial⟩ ?_
    exact kk I (fr_refl I _) hp
  | succ i ih =>
    intro I hi hm hp kk
    have e1 : ((i + 1 : Nat) : Int) - 1 = (i : Int) := by omega
    rw [e1]
    refine s_iload dX12_plans_33 rfl ?_
    refine s_if_lt (tgt := 55) dX12_plans_35 (by decide) (fun h35 => absurd h35 (fun h => by rw [z0, zI_lt (by omega) (by omega) (by omega) (by omega)] at h; omega)) (fun h35 => ?_)
    refine s_iload_n (i := 2) dX12_plans_38 rfl rfl ?_
    refine s_if_ne (tgt := 55) dX12_plans_39 (by decide) (fun h39 => absurd h39 (fun h => h rfl)) (fun h39 => ?_)
    refine s_aload_n (i := 0) dX12_plans_42 rfl rfl ?_
    refine s_iload_n (i := 1) dX12_plans_43 rfl rfl ?_
    refine s_iload dX12_plans_44 rfl ?_
    refine s_cV_II (My := mX12_solves) dX12_plans_46 wM_X12_137 cb_yX12_solves ci_yX12_solves (by assumption) (by assumption) (Nat.le_of_ble_eq_true rfl) (by decide) (s_d (by omega) (m_solves (d := 0) (i := i) hM hli hmm hg hPl (by omega) hm hp (fun I1 hf1 hp1 => ?_)))
    refine s_iinc dX12_plans_49 rfl (zI_dec _) (by decide) (by simp only [sl, sl2, rm, Value.category, reduceIte, Nat.reduceAdd, Nat.reduceEqDiff, reduceCtorEq]; rfl) ?_
    refine s_goto (tgt := 33) dX12_plans_52 (by decide) ?_
    exact ih I1 (by omega) (by rw [hf1 145 (by decide)]; exact hm) hp1 (fun I2 hf2 hp2 => kk I2 (fr_trans hf1 hf2) hp2)
set_option maxRecDepth 100000 in
set_option maxHeartbeats 1000000 in
theorem m_plans {G : fG} {x0 : Nat} {l : Launch} {d k n : Nat} {T : fT} {I : fI} {J : fJ} {Q : Option Value → fT → fI → fJ → Prop} {li : Nat} {L L' : LSt} (hM : MObj T) (hli : li < 6) (hmm : L'.2.1 ≤ 200) (hg : GapOk L'.1 L'.2.1) (hL : LOk L') {y : Int32} (hm : MN (I 145) (402 * li) L.1 L.2.1) (hc : rCut L y.toInt L') (hq : ∀ I', fr I I' [144, 150, 151, 152, 153, 154] → (∀ q, q ≠ 13 → I' 144 q = I 144 q) → I' 144 13 = zI L'.2.2.2 → (∀ q, q < L'.2.2.2 → I' 151 q = zI (bl L' q)) → Q (some (.int (zI (sumB L' 5 L'.2.2.2)))) T I' J) : PW G x0 l mX12_plans (d + 3) (ZM G x0 Q) k n 0 [(0, .ref (x0 + 144)), (1, .int (zI li)), (2, .int y)] [] T I J := by
  obtain ⟨o1, o2⟩ := hM.o
  obtain ⟨r152, b152, k152, n152⟩ := hM.a152
  obtain ⟨r153, b153, k153, n153⟩ := hM.a153
  obtain ⟨r154, b154, k154, n154⟩ := hM.a154
  obtain ⟨r151, b151, k151, n151⟩ := hM.a151
  obtain ⟨s1, s2⟩ := hc.same
  have hm' : MN (I 145) (402 * li) L'.1 L'.2.1 := by rw [s1, s2]; exact hm
  have e152 : ∀ q, (iu (iu (iu I 144 13 0) 152 L.2.1 0) 153 L.2.1 0) 144 q = iu I 144 13 0 144 q := fun q => by rw [iu_ne (by omega), iu_ne (by omega)]
  have e145 : (iu (iu (iu I 144 13 0) 152 L.2.1 0) 153 L.2.1 0) 145 = I 145 := by rw [iu_ne (by omega), iu_ne (by omega), iu_ne (by omega)]
  have base : fr I (iu (iu (iu I 144 13 0) 152 L.2.1 0) 153 L.2.1 0) [144, 150, 151, 152, 153, 154] := fun b hb => by simp at hb; rw [iu_ne (by omega), iu_ne (by omega), iu_ne (by omega)]
  have h0 := hL.atf0
  rcases id hc with ⟨hy0, R, E, nb, hPl, he, hn, rfl⟩ | ⟨len, nb, hyl, hlen, hn1, hn2, rfl⟩
  · have hyz : y = 0 := by rw [t_zI hy0]; rfl
    subst hyz
    have hpl0 : PlIs (iu (iu (iu I 144 13 0) 152 L.2.1 0) 153 L.2.1 0) L.2.1 R E L.2.1 := fun e a b => by
      have : e = L.2.1 := by omega
      subst this
      refine ⟨⟨0, 0, ?_, ?_, ?_, by omega, by omega, by omega, by omega⟩, fun h => absurd h (Nat.lt_irrefl _)⟩
      · rw [iu_ne (by omega), iu_at]; rfl
      · rw [iu_at]; rfl
      · rw [hPl.1]; rfl
    have hmm : L.2.1 ≤ 200 := hmm
    have hg : GapOk L.1 L.2.1 := hg
    refine s_aload_n (i := 0) dX12_plans_0 rfl rfl ?_
    refine s_iload_n (i := 1) dX12_plans_1 rfl rfl ?_
    refine s_cV_I (My := mX12_many) dX12_plans_2 wM_X12_131 cb_yX12_many ci_yX12_many (by assumption) (by assumption) (Nat.le_of_ble_eq_true rfl) (by decide) (s_d (by omega) (m_many (d := 0) hM hli ?_))
    rw [hm.1]
    refine s_istore_n (i := 3) dX12_plans_5 rfl (by decide) (by simp only [sl, sl2, rm, Value.category, reduceIte, Nat.reduceAdd, Nat.reduceEqDiff, reduceCtorEq]; rfl) ?_
    refine s_aload_n (i := 0) dX12_plans_6 rfl rfl ?_
    refine s_iconst (v := 0) dX12_plans_7 (by decide) ?_
    refine s_putI dX12_plans_8 fp_X12_134 (by assumption) (by assumption) ?_
    refine s_iconst (v := 0) dX12_plans_11 (by decide) ?_
    refine s_istore dX12_plans_12 (by decide) (by simp only [sl, sl2, rm, Value.category, reduceIte, Nat.reduceAdd, Nat.reduceEqDiff, reduceCtorEq]; rfl) ?_
    refine s_aload_n (i := 0) dX12_plans_14 rfl rfl ?_
    refine s_getR dX12_plans_15 fl_X12_38 (by assumption) (by assumption) (by assumption) ?_
    refine s_iload_n (i := 3) dX12_plans_18 rfl rfl ?_
    refine s_iconst (v := 0) dX12_plans_19 (by decide) ?_
    refine s_istn (j := L.2.1) dX12_plans_20 (by assumption) (by assumption) (by assumption) (by first | with_reducible rfl | ((try simp only [z0, z1, zm1, zm2, zm3, zm4, zl2, zl3, zl4, zl5, zl6, zl7, zl8, zl9, zl10, zl20, zl28, zl31, zl32, zl33, zl48, zl57, zl64, zl100, zl127, zl200, zl201, zl202, zl402, zl1200, zl2412, zl16884, zI_add, zI_sub, zI_mul, zI_inc, zI_dec]) <;> (congr 1 <;> omega))) (by omega) (by decide) ?_
    refine s_aload_n (i := 0) dX12_plans_21 rfl rfl ?_
    refine s_getR dX12_plans_22 fl_X12_41 (by assumption) (by assumption) (by assumption) ?_
    refine s_iload_n (i := 3) dX12_plans_25 rfl rfl ?_
    refine s_iconst (v := 0) dX12_plans_26 (by decide) ?_
    refine s_istn (j := L.2.1) dX12_plans_27 (by assumption) (by assumption) (by assumption) (by first | with_reducible rfl | ((try simp only [z0, z1, zm1, zm2, zm3, zm4, zl2, zl3, zl4, zl5, zl6, zl7, zl8, zl9, zl10, zl20, zl28, zl31, zl32, zl33, zl48, zl57, zl64, zl100, zl127, zl200, zl201, zl202, zl402, zl1200, zl2412, zl16884, zI_add, zI_sub, zI_mul, zI_inc, zI_dec]) <;> (congr 1 <;> omega))) (by omega) (by decide) ?_
    refine s_iload_n (i := 3) dX12_plans_28 rfl rfl ?_
    refine s_iconst (v := 1) dX12_plans_29 (by decide) ?_
    refine s_isub dX12_plans_30 ?_
    refine s_topi (y := zI ((L.2.1 : Int) - 1)) (by rw [z1, zI_sub]) ?_
    refine s_istore dX12_plans_31 (by decide) (by simp only [sl, sl2, rm, Value.category, reduceIte, Nat.reduceAdd, Nat.reduceEqDiff, reduceCtorEq]; rfl) ?_
    refine ml_plans0 hM hli hmm hg hPl L.2.1 _ (Nat.le_refl _) (by rw [e145]; exact hm) hpl0 (fun I1 hf1 hp1 => ?_)
    refine s_iconst (v := 0) dX12_plans_55 (by decide) ?_
    refine s_istore dX12_plans_56 (by decide) (by simp only [sl, sl2, rm, Value.category, reduceIte, Nat.reduceAdd, Nat.reduceEqDiff, reduceCtorEq]; rfl) ?_
    have hF : ∀ j, j < nb → I1 154 (bf (planL L.1 L.2.1 E nb) j) = zI (bl (planL L.1 L.2.1 E nb) j) := fun j hj => by
      rw [planL_bf, planL_bl hPl he hn hj, (hp1 (pst E j) (Nat.zero_le _) (Nat.le_of_lt (hn j hj))).2 (hn j hj)]
      have := (pst_lt hPl hn hj).1
      have e : pst E (j + 1) = E (pst E j) := rfl
      congr 1
      omega
    have h := ml_plans (G := G) (x0 := x0) (l := l) (d := d) (k := k) (n := n) (Q := Q) (J := J) (L := L) (L' := planL L.1 L.2.1 E nb) hM hli hmm hg hL (y := 0) (F := I1 154) (Or.inl ⟨rfl, hF⟩) nb 0 I1 (by show 0 + nb = nb; omega) (by rw [hf1 145 (by decide), e145]; exact hm') (by rw [hf1 144 (by decide), e152, iu_at]; rfl) rfl (fun q h => absurd h (Nat.not_lt_zero q)) (fun I' hf hj a b => hq I' (fun b hb => ?_) (fun q hq => ?_) a b)
    · rw [h0] at h
      exact h
    · simp at hb
      rw [hf b (by simp; omega), hf1 b (by simp; omega), base b (by simp; omega)]
    · rw [hj q hq, hf1 144 (by decide), e152, iu_j hq]
  · have hyz := t_zI hyl
    subst hyz
    have hmm : L.2.1 ≤ 200 := hmm
    have hF : ∀ j, j < nb → bl (cbyL L len nb) j = if bf (cbyL L len nb) j + len > L.2.1 then L.2.1 - bf (cbyL L len nb) j else len := fun j hj => by
      obtain ⟨a1, a2⟩ := cby_bl hL hn1 hj
      rw [a1, a2]
    have go : ∀ lv, lvs lv [(0, .ref (x0 + 144)), (1, .int (zI li)), (2, .int (zI len)), (3, .int (zI L.2.1)), (4, .int 0)] → PW G x0 l mX12_plans (d + 3) (ZM G x0 Q) k n 55 lv [] T (iu (iu (iu I 144 13 0) 152 L.2.1 0) 153 L.2.1 0) J := fun lv hv => by
      refine s_lv hv ?_
      refine s_iconst (v := 0) dX12_plans_55 (by decide) ?_
      refine s_istore dX12_plans_56 (by decide) (by simp only [sl, sl2, rm, Value.category, reduceIte, Nat.reduceAdd, Nat.reduceEqDiff, reduceCtorEq]; rfl) ?_
      have h := ml_plans (G := G) (x0 := x0) (l := l) (d := d) (k := k) (n := n) (Q := Q) (J := J) (L := L) (L' := cbyL L len nb) hM hli hmm hg hL (y := zI len) (F := (iu (iu (iu I 144 13 0) 152 L.2.1 0) 153 L.2.1 0) 154) (Or.inr ⟨len, rfl, hlen, hF⟩) nb 0 _ (by show 0 + nb = nb; omega) (by rw [e145]; exact hm') (by rw [e152, iu_at]; rfl) rfl (fun q h => absurd h (Nat.not_lt_zero q)) (fun I' hf hj a b => hq I' (fun b hb => ?_) (fun q hq => ?_) a b)
      · rw [h0] at h
        exact h
      · simp at hb
        rw [hf b (by simp; omega)]
        exact base b (by simp; omega)
      · rw [hj q hq]
        exact (e152 q).trans (iu_j hq)
    refine s_aload_n (i := 0) dX12_plans_0 rfl rfl ?_
    refine s_iload_n (i := 1) dX12_plans_1 rfl rfl ?_
    refine s_cV_I (My := mX12_many) dX12_plans_2 wM_X12_131 cb_yX12_many ci_yX12_many (by assumption) (by assumption) (Nat.le_of_ble_eq_true rfl) (by decide) (s_d (by omega) (m_many (d := 0) hM hli ?_))
    rw [hm.1]
    refine s_istore_n (i := 3) dX12_plans_5 rfl (by decide) (by simp only [sl, sl2, rm, Value.category, reduceIte, Nat.reduceAdd, Nat.reduceEqDiff, reduceCtorEq]; rfl) ?_
    refine s_aload_n (i := 0) dX12_plans_6 rfl rfl ?_
    refine s_iconst (v := 0) dX12_plans_7 (by decide) ?_
    refine s_putI dX12_plans_8 fp_X12_134 (by assumption) (by assumption) ?_
    refine s_iconst (v := 0) dX12_plans_11 (by decide) ?_
    refine s_istore dX12_plans_12 (by decide) (by simp only [sl, sl2, rm, Value.category, reduceIte, Nat.reduceAdd, Nat.reduceEqDiff, reduceCtorEq]; rfl) ?_
    refine s_aload_n (i := 0) dX12_plans_14 rfl rfl ?_
    refine s_getR dX12_plans_15 fl_X12_38 (by assumption) (by assumption) (by assumption) ?_
    refine s_iload_n (i := 3) dX12_plans_18 rfl rfl ?_
    refine s_iconst (v := 0) dX12_plans_19 (by decide) ?_
    refine s_istn (j := L.2.1) dX12_plans_20 (by assumption) (by assumption) (by assumption) (by first | with_reducible rfl | ((try simp only [z0, z1, zm1, zm2, zm3, zm4, zl2, zl3, zl4, zl5, zl6, zl7, zl8, zl9, zl10, zl20, zl28, zl31, zl32, zl33, zl48, zl57, zl64, zl100, zl127, zl200, zl201, zl202, zl402, zl1200, zl2412, zl16884, zI_add, zI_sub, zI_mul, zI_inc, zI_dec]) <;> (congr 1 <;> omega))) (by omega) (by decide) ?_
    refine s_aload_n (i := 0) dX12_plans_21 rfl rfl ?_
    refine s_getR dX12_plans_22 fl_X12_41 (by assumption) (by assumption) (by assumption) ?_
    refine s_iload_n (i := 3) dX12_plans_25 rfl rfl ?_
    refine s_iconst (v := 0) dX12_plans_26 (by decide) ?_
    refine s_istn (j := L.2.1) dX12_plans_27 (by assumption) (by assumption) (by assumption) (by first | with_reducible rfl | ((try simp only [z0, z1, zm1, zm2, zm3, zm4, zl2, zl3, zl4, zl5, zl6, zl7, zl8, zl9, zl10, zl20, zl28, zl31, zl32, zl33, zl48, zl57, zl64, zl100, zl127, zl200, zl201, zl202, zl402, zl1200, zl2412, zl16884, zI_add, zI_sub, zI_mul, zI_inc, zI_dec]) <;> (congr 1 <;> omega))) (by omega) (by decide) ?_
    refine s_iload_n (i := 3) dX12_plans_28 rfl rfl ?_
    refine s_iconst (v := 1) dX12_plans_29 (by decide) ?_
    refine s_isub dX12_plans_30 ?_
    refine s_istore dX12_plans_31 (by decide) (by simp only [sl, sl2, rm, Value.category, reduceIte, Nat.reduceAdd, Nat.reduceEqDiff, reduceCtorEq]; rfl) ?_
    refine s_iload dX12_plans_33 rfl ?_
    refine s_if_lt (tgt := 55) dX12_plans_35 (by decide) (fun c35 => ?_) (fun c35 => ?_)
    · exact go _ ⟨rfl, rfl, rfl, rfl, rfl, trivial⟩
    · refine s_iload_n (i := 2) dX12_plans_38 rfl rfl ?_
      refine s_if_ne (tgt := 55) dX12_plans_39 (by decide) (fun h39 => ?_) (fun h39 => absurd h39 (fun h => by rw [z0, zI_eq (by omega) (by omega) (by omega) (by omega)] at h; omega))
      exact go _ ⟨rfl, rfl, rfl, rfl, rfl, trivial⟩
