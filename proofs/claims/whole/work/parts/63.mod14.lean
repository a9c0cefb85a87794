/-! galloping in the model -/
def frP (I I' : fI) : Prop := fr I I' [144] ∧ ∀ j, j ≠ 28 → I' 144 j = I 144 j
theorem frP.refl (I : fI) : frP I I := ⟨fr_refl I _, fun _ _ => rfl⟩
theorem frP.trans {I I1 I2 : fI} (h : frP I I1) (h2 : frP I1 I2) : frP I I2 := ⟨fr_trans h.1 h2.1, fun j a => (h2.2 j a).trans (h.2 j a)⟩
def frJ (I I' : fI) : Prop := fr I I' [144, 159] ∧ ∀ j, j ≠ 27 → j ≠ 28 → I' 144 j = I 144 j
theorem frJ.refl (I : fI) : frJ I I := ⟨fr_refl I _, fun _ _ _ => rfl⟩
theorem frJ.trans {I I1 I2 : fI} (h : frJ I I1) (h2 : frJ I1 I2) : frJ I I2 := ⟨fr_trans h.1 h2.1, fun j a b => (h2.2 j a b).trans (h.2 j a b)⟩
theorem frP.j {I I' : fI} (h : frP I I') : frJ I I' := ⟨fr_sub h.1 (fun b hb => by simp at hb ⊢; omega), fun j _ a => h.2 j a⟩
def MRow (I : fI) (r : Nat) (g : Nat → Int) (m : Nat) : Prop := I 158 r = zI m ∧ ∀ q, q < m → I 157 (1200 * r + q) = zI (g q)
theorem MRow.p {I I' : fI} {r m : Nat} {g : Nat → Int} (h : MRow I r g m) (hf : frP I I') : MRow I' r g m := ⟨by rw [hf.1 158 (by decide)]; exact h.1, by rw [hf.1 157 (by decide)]; exact h.2⟩
theorem MRow.j {I I' : fI} {r m : Nat} {g : Nat → Int} (h : MRow I r g m) (hf : frJ I I') : MRow I' r g m := ⟨by rw [hf.1 158 (by decide)]; exact h.1, by rw [hf.1 157 (by decide)]; exact h.2⟩
def Vok (g : Nat → Int) (m : Nat) : Prop := ∀ q, q < m → 0 ≤ g q ∧ g q ≤ 999999
def OutM (I : fI) (A : List Int) : Prop := I 144 27 = zI A.length ∧ ∀ q, q < A.length → I 159 q = zI (lfn A q)
theorem OutM.p {I I' : fI} {A : List Int} (h : OutM I A) (hf : frP I I') : OutM I' A := ⟨by rw [hf.2 27 (by omega)]; exact h.1, by rw [hf.1 159 (by decide)]; exact h.2⟩
def gintL (g1 : Nat → Int) (m1 : Nat) (g2 : Nat → Int) (m2 : Nat) : Nat → Nat → Nat → List Int
  | 0, _, _ => []
  | z + 1, i, j => if i < m1 ∧ j < m2 then (if g1 i = g2 j then g1 i :: gintL g1 m1 g2 m2 z (i + 1) (j + 1) else if g1 i < g2 j then gintL g1 m1 g2 m2 z (gal g1 m1 i (g2 j)).1 j else gintL g1 m1 g2 m2 z i (gal g2 m2 j (g1 i)).1) else []
theorem gintL_len (g1 : Nat → Int) (m1 : Nat) (g2 : Nat → Int) (m2 : Nat) : ∀ z i j, (gintL g1 m1 g2 m2 z i j).length = (gint g1 m1 g2 m2 z i j).1 := by
  intro z
  induction z with
  | zero => intro i j; rfl
  | succ z ih =>
    intro i j
    simp only [gintL, gint]
    split
    · split
      · rw [List.length_cons, ih]
      · split
        · exact ih _ _
        · exact ih _ _
    · rfl
set_option maxRecDepth 100000 in
set_option maxHeartbeats 1000000 in
theorem m_probe {G : fG} {x0 : Nat} {l : Launch} {d k n : Nat} {T : fT} {I : fI} {J : fJ} {Q : Option Value → fT → fI → fJ → Prop} {r m : Nat} {g : Nat → Int} {t : Int} (hM : MObj T) (hr : r < 24) (hm : m ≤ 1200) (hV : Vok g m) (ht : 0 ≤ t ∧ t ≤ 999999) {i : Nat} {pr : Int} (hR : MRow I r g m) (hi : i < m) (hp : I 144 28 = zI pr) (hq : ∀ I', frP I I' → I' 144 28 = zI (pr + 1) → Q (some (.int (if t ≤ g i then 1 else 0))) T I' J) : PW G x0 l mX12_probe d (ZM G x0 Q) k n 0 [(0, .ref (x0 + 144)), (1, .int (zI r)), (2, .int (zI i)), (3, .int (zI t))] [] T I J := by
  obtain ⟨o1, o2⟩ := hM.o
  obtain ⟨r157, b157, k157, n157⟩ := hM.a157
  have hv := hV i hi
  have hfp : frP I (iu I 144 28 (zI (pr + 1))) := ⟨fr_iu (by simp), fun j h => iu_j h⟩
  by_cases hc : t ≤ g i
  · rw [if_pos hc] at hq
    refine s_aload_n (i := 0) dX12_probe_0 rfl rfl ?_
    refine s_dup dX12_probe_1 rfl ?_
    refine s_getI dX12_probe_2 fl_X12_227 (by assumption) (by assumption) ?_
    rw [hp]
    refine s_iconst (v := 1) dX12_probe_5 (by decide) ?_
    refine s_iadd dX12_probe_6 ?_
    refine s_topi (y := zI (pr + 1)) (by first | with_reducible rfl | ((try simp only [z0, z1, zm1, zm2, zm3, zm4, zl2, zl3, zl4, zl5, zl6, zl7, zl8, zl9, zl10, zl20, zl28, zl31, zl32, zl33, zl48, zl57, zl64, zl100, zl127, zl200, zl201, zl202, zl402, zl1200, zl2412, zl16884, zI_add, zI_sub, zI_mul, zI_inc, zI_dec]) <;> (congr 1 <;> omega))) ?_
    refine s_putI dX12_probe_7 fp_X12_227 (by assumption) (by assumption) ?_
    refine s_aload_n (i := 0) dX12_probe_10 rfl rfl ?_
    refine s_getR dX12_probe_11 fl_X12_53 (by assumption) (by assumption) (by assumption) ?_
    refine s_sipush (v := 1200) dX12_probe_14 (by decide) ?_
    refine s_iload_n (i := 1) dX12_probe_17 rfl rfl ?_
    refine s_imul dX12_probe_18 ?_
    refine s_iload_n (i := 2) dX12_probe_19 rfl rfl ?_
    refine s_iadd dX12_probe_20 ?_
    refine s_ildn (j := 1200 * r + i) dX12_probe_21 (by assumption) (by assumption) (by assumption) (by first | with_reducible rfl | ((try simp only [z0, z1, zm1, zm2, zm3, zm4, zl2, zl3, zl4, zl5, zl6, zl7, zl8, zl9, zl10, zl20, zl28, zl31, zl32, zl33, zl48, zl57, zl64, zl100, zl127, zl200, zl201, zl202, zl402, zl1200, zl2412, zl16884, zI_add, zI_sub, zI_mul, zI_inc, zI_dec]) <;> (congr 1 <;> omega))) (by omega) (by decide) ?_
    rw [iu_ne (by omega), hR.2 i hi]
    refine s_iload_n (i := 3) dX12_probe_22 rfl rfl ?_
    refine s_icmp_lt (tgt := 30) dX12_probe_23 (by decide) (fun h23 => absurd h23 (fun h => by rw [zI_lt (by omega) (by omega) (by omega) (by omega)] at h; omega)) (fun h23 => ?_)
    refine s_iconst (v := 1) dX12_probe_26 (by decide) ?_
    refine s_goto (tgt := 31) dX12_probe_27 (by decide) ?_
    refine s_zret dX12_probe_31 rfl (by first | exact Or.inl rfl | exact Or.inr rfl) ?_
    exact hq _ hfp iu_at
  · rw [if_neg hc] at hq
    refine s_aload_n (i := 0) dX12_probe_0 rfl rfl ?_
    refine s_dup dX12_probe_1 rfl ?_
    refine s_getI dX12_probe_2 fl_X12_227 (by assumption) (by assumption) ?_
    rw [hp]
    refine s_iconst (v := 1) dX12_probe_5 (by decide) ?_
    refine s_iadd dX12_probe_6 ?_
    refine s_topi (y := zI (pr + 1)) (by first | with_reducible rfl | ((try simp only [z0, z1, zm1, zm2, zm3, zm4, zl2, zl3, zl4, zl5, zl6, zl7, zl8, zl9, zl10, zl20, zl28, zl31, zl32, zl33, zl48, zl57, zl64, zl100, zl127, zl200, zl201, zl202, zl402, zl1200, zl2412, zl16884, zI_add, zI_sub, zI_mul, zI_inc, zI_dec]) <;> (congr 1 <;> omega))) ?_
    refine s_putI dX12_probe_7 fp_X12_227 (by assumption) (by assumption) ?_
    refine s_aload_n (i := 0) dX12_probe_10 rfl rfl ?_
    refine s_getR dX12_probe_11 fl_X12_53 (by assumption) (by assumption) (by assumption) ?_
    refine s_sipush (v := 1200) dX12_probe_14 (by decide) ?_
    refine s_iload_n (i := 1) dX12_probe_17 rfl rfl ?_
    refine s_imul dX12_probe_18 ?_
    refine s_iload_n (i := 2) dX12_probe_19 rfl rfl ?_
    refine s_iadd dX12_probe_20 ?_
    refine s_ildn (j := 1200 * r + i) dX12_probe_21 (by assumption) (by assumption) (by assumption) (by first | with_reducible rfl | ((try simp only [z0, z1, zm1, zm2, zm3, zm4, zl2, zl3, zl4, zl5, zl6, zl7, zl8, zl9, zl10, zl20, zl28, zl31, zl32, zl33, zl48, zl57, zl64, zl100, zl127, zl200, zl201, zl202, zl402, zl1200, zl2412, zl16884, zI_add, zI_sub, zI_mul, zI_inc, zI_dec]) <;> (congr 1 <;> omega))) (by omega) (by decide) ?_
    rw [iu_ne (by omega), hR.2 i hi]
    refine s_iload_n (i := 3) dX12_probe_22 rfl rfl ?_
    refine s_icmp_lt (tgt := 30) dX12_probe_23 (by decide) (fun h23 => ?_) (fun h23 => absurd ((zI_lt (by omega) (by omega) (by omega) (by omega)).mpr (by omega)) h23)
    refine s_iconst (v := 0) dX12_probe_30 (by decide) ?_
    refine s_zret dX12_probe_31 rfl (by first | exact Or.inl rfl | exact Or.inr rfl) ?_
    exact hq _ hfp iu_at
set_option maxRecDepth 100000 in
set_option maxHeartbeats 1000000 in
theorem ml_gbin {G : fG} {x0 : Nat} {l : Launch} {d k n : Nat} {T : fT} {J : fJ} {Q : Option Value → fT → fI → fJ → Prop} {r m : Nat} {g : Nat → Int} {t : Int} (hM : MObj T) (hr : r < 24) (hm : m ≤ 1200) (hV : Vok g m) (ht : 0 ≤ t ∧ t ≤ 999999) {p : Nat} : ∀ (z lo hi : Nat) (pr : Int) (I : fI), hi - lo ≤ z + 1 → lo < hi → hi ≤ m → MRow I r g m → I 144 28 = zI pr → (∀ I', frP I I' → I' 144 28 = zI (pr + (gbin g t z lo hi).2) → Q (some (.int (zI (gbin g t z lo hi).1))) T I' J) → PW G x0 l mX12_gallops (d + 1) (ZM G x0 Q) k n 139 [(0, .ref (x0 + 144)), (1, .int (zI r)), (2, .int (zI p)), (3, .int (zI t)), (4, .int (zI lo)), (6, .int (zI hi))] [] T I J := by
  obtain ⟨o1, o2⟩ := hM.o
  obtain ⟨r158, b158, k158, n158⟩ := hM.a158
  intro z
  induction z with
  | zero =>
    intro lo hi pr I hz h1 h2 hR hp hq
    refine s_iload dX12_gallops_139 rfl ?_
    refine s_iconst (v := 1) dX12_gallops_141 (by decide) ?_
    refine s_iadd dX12_gallops_142 ?_
    refine s_topi (y := zI ((lo + 1 : Nat) : Int)) (by first | with_reducible rfl | ((try simp only [z0, z1, zm1, zm2, zm3, zm4, zl2, zl3, zl4, zl5, zl6, zl7, zl8, zl9, zl10, zl20, zl28, zl31, zl32, zl33, zl48, zl57, zl64, zl100, zl127, zl200, zl201, zl202, zl402, zl1200, zl2412, zl16884, zI_add, zI_sub, zI_mul, zI_inc, zI_dec]) <;> (congr 1 <;> omega))) ?_
    refine s_iload dX12_gallops_143 rfl ?_
    refine s_icmp_ge (tgt := 198) dX12_gallops_145 (by decide) (fun h145 => ?_) (fun h145 => absurd ((zI_le (by omega) (by omega) (by omega) (by omega)).mpr (by omega)) h145)
    refine s_iload dX12_gallops_198 rfl ?_
    refine s_iret dX12_gallops_200 rfl ?_
    exact hq I (frP.refl I) (by rw [hp]; simp [gbin])
  | succ z ih =>
    intro lo hi pr I hz h1 h2 hR hp hq
    simp only [gbin] at hq
    by_cases hc : lo + 1 < hi
    · rw [if_pos hc] at hq
      have hmid : zI (lo : Int) + zI (hi : Int) = zI ((lo + hi : Nat) : Int) := by rw [zI_add]; congr 1
      refine s_iload dX12_gallops_139 rfl ?_
      refine s_iconst (v := 1) dX12_gallops_141 (by decide) ?_
      refine s_iadd dX12_gallops_142 ?_
      refine s_topi (y := zI ((lo + 1 : Nat) : Int)) (by first | with_reducible rfl | ((try simp only [z0, z1, zm1, zm2, zm3, zm4, zl2, zl3, zl4, zl5, zl6, zl7, zl8, zl9, zl10, zl20, zl28, zl31, zl32, zl33, zl48, zl57, zl64, zl100, zl127, zl200, zl201, zl202, zl402, zl1200, zl2412, zl16884, zI_add, zI_sub, zI_mul, zI_inc, zI_dec]) <;> (congr 1 <;> omega))) ?_
      refine s_iload dX12_gallops_143 rfl ?_
      refine s_icmp_ge (tgt := 198) dX12_gallops_145 (by decide) (fun h145 => absurd h145 (fun h => by rw [zI_le (by omega) (by omega) (by omega) (by omega)] at h; omega)) (fun h145 => ?_)
      refine s_iload dX12_gallops_148 rfl ?_
      refine s_iload dX12_gallops_150 rfl ?_
      refine s_iadd dX12_gallops_152 ?_
      refine s_iconst (v := 2) dX12_gallops_153 (by decide) ?_
      refine s_idiv dX12_gallops_154 (by decide) ?_
      refine s_topi (y := zI (((lo + hi) / 2 : Nat) : Int)) (by rw [hmid]; show zI _ / zI 2 = _; rw [zI_div (by omega) (by omega) (by omega) (by omega)]; congr 1) ?_
      refine s_istore dX12_gallops_155 (by decide) (by simp only [sl, sl2, rm, Value.category, reduceIte, Nat.reduceAdd, Nat.reduceEqDiff, reduceCtorEq]; rfl) ?_
      refine s_aload_n (i := 0) dX12_gallops_157 rfl rfl ?_
      refine s_iload_n (i := 1) dX12_gallops_158 rfl rfl ?_
      refine s_iload dX12_gallops_159 rfl ?_
      refine s_iload_n (i := 3) dX12_gallops_161 rfl rfl ?_
      refine s_cV_III (My := mX12_probe) dX12_gallops_162 wM_X12_230 cb_yX12_probe ci_yX12_probe (by assumption) (by assumption) (Nat.le_of_ble_eq_true rfl) (by decide) (s_d (by omega) (m_probe (d := 0) (i := (lo + hi) / 2) hM hr hm hV ht hR (by omega) hp (fun I1 hf1 hp1 => ?_)))
      by_cases hc2 : t ≤ g ((lo + hi) / 2)
      · rw [if_pos hc2]
        rw [if_pos hc2] at hq
        refine s_istore dX12_gallops_165 (by decide) (by simp only [sl, sl2, rm, Value.category, reduceIte, Nat.reduceAdd, Nat.reduceEqDiff, reduceCtorEq]; rfl) ?_
        refine s_iload dX12_gallops_167 rfl ?_
        refine s_if_eq (tgt := 177) dX12_gallops_169 (by decide) (fun h169 => absurd h169 (by decide)) (fun h169 => ?_)
        refine s_iload dX12_gallops_172 rfl ?_
        refine s_goto (tgt := 179) dX12_gallops_174 (by decide) ?_
        refine s_istore dX12_gallops_179 (by decide) (by simp only [sl, sl2, rm, Value.category, reduceIte, Nat.reduceAdd, Nat.reduceEqDiff, reduceCtorEq]; rfl) ?_
        refine s_iload dX12_gallops_181 rfl ?_
        refine s_if_eq (tgt := 191) dX12_gallops_183 (by decide) (fun h183 => absurd h183 (by decide)) (fun h183 => ?_)
        refine s_iload dX12_gallops_186 rfl ?_
        refine s_goto (tgt := 193) dX12_gallops_188 (by decide) ?_
        refine s_istore dX12_gallops_193 (by decide) (by simp only [sl, sl2, rm, Value.category, reduceIte, Nat.reduceAdd, Nat.reduceEqDiff, reduceCtorEq]; rfl) ?_
        refine s_goto (tgt := 139) dX12_gallops_195 (by decide) ?_
        refine s_lv (lv' := [(0, .ref (x0 + 144)), (1, .int (zI r)), (2, .int (zI p)), (3, .int (zI t)), (4, .int (zI lo)), (6, .int (zI (((lo + hi) / 2 : Nat) : Int)))]) ⟨rfl, rfl, rfl, rfl, rfl, rfl, trivial⟩ ?_
        refine ih lo ((lo + hi) / 2) (pr + 1) I1 (by omega) (by omega) (by omega) (hR.p hf1) hp1 (fun I' hf h => hq I' (hf1.trans hf) (by rw [h]; unfold gadd; dsimp only; congr 1; omega))
      · rw [if_neg hc2]
        rw [if_neg hc2] at hq
        refine s_istore dX12_gallops_165 (by decide) (by simp only [sl, sl2, rm, Value.category, reduceIte, Nat.reduceAdd, Nat.reduceEqDiff, reduceCtorEq]; rfl) ?_
        refine s_iload dX12_gallops_167 rfl ?_
        refine s_if_eq (tgt := 177) dX12_gallops_169 (by decide) (fun h169 => ?_) (fun h169 => absurd (rfl) h169)
        refine s_iload dX12_gallops_177 rfl ?_
        refine s_istore dX12_gallops_179 (by decide) (by simp only [sl, sl2, rm, Value.category, reduceIte, Nat.reduceAdd, Nat.reduceEqDiff, reduceCtorEq]; rfl) ?_
        refine s_iload dX12_gallops_181 rfl ?_
        refine s_if_eq (tgt := 191) dX12_gallops_183 (by decide) (fun h183 => ?_) (fun h183 => absurd (rfl) h183)
        refine s_iload dX12_gallops_191 rfl ?_
        refine s_istore dX12_gallops_193 (by decide) (by simp only [sl, sl2, rm, Value.category, reduceIte, Nat.reduceAdd, Nat.reduceEqDiff, reduceCtorEq]; rfl) ?_
        refine s_goto (tgt := 139) dX12_gallops_195 (by decide) ?_
        refine s_lv (lv' := [(0, .ref (x0 + 144)), (1, .int (zI r)), (2, .int (zI p)), (3, .int (zI t)), (4, .int (zI (((lo + hi) / 2 : Nat) : Int))), (6, .int (zI hi))]) ⟨rfl, rfl, rfl, rfl, rfl, rfl, trivial⟩ ?_
        refine ih ((lo + hi) / 2) hi (pr + 1) I1 (by omega) (by omega) (by omega) (hR.p hf1) hp1 (fun I' hf h => hq I' (hf1.trans hf) (by rw [h]; unfold gadd; dsimp only; congr 1; omega))
    · rw [if_neg hc] at hq
      refine s_iload dX12_gallops_139 rfl ?_
      refine s_iconst (v := 1) dX12_gallops_141 (by decide) ?_
      refine s_iadd dX12_gallops_142 ?_
      refine s_topi (y := zI ((lo + 1 : Nat) : Int)) (by first | with_reducible rfl | ((try simp only [z0, z1, zm1, zm2, zm3, zm4, zl2, zl3, zl4, zl5, zl6, zl7, zl8, zl9, zl10, zl20, zl28, zl31, zl32, zl33, zl48, zl57, zl64, zl100, zl127, zl200, zl201, zl202, zl402, zl1200, zl2412, zl16884, zI_add, zI_sub, zI_mul, zI_inc, zI_dec]) <;> (congr 1 <;> omega))) ?_
      refine s_iload dX12_gallops_143 rfl ?_
      refine s_icmp_ge (tgt := 198) dX12_gallops_145 (by decide) (fun h145 => ?_) (fun h145 => absurd ((zI_le (by omega) (by omega) (by omega) (by omega)).mpr (by omega)) h145)
      refine s_iload dX12_gallops_198 rfl ?_
      refine s_iret dX12_gallops_200 rfl ?_
      exact hq I (frP.refl I) (by rw [hp]; simp)
set_option maxRecDepth 100000 in
set_option maxHeartbeats 1000000 in
theorem ml_gexp {G : fG} {x0 : Nat} {l : Launch} {d k n : Nat} {T : fT} {J : fJ} {Q : Option Value → fT → fI → fJ → Prop} {r m : Nat} {g : Nat → Int} {t : Int} (hM : MObj T) (hr : r < 24) (hm : m ≤ 1200) (hV : Vok g m) (ht : 0 ≤ t ∧ t ≤ 999999) {p : Nat} : ∀ (z s lo : Nat) (pr : Int) (I : fI), m - (p + s) ≤ z → 1 ≤ s → s ≤ 200000 → lo < m → p ≤ lo → lo < p + s → MRow I r g m → I 144 28 = zI pr → (∀ I', frP I I' → I' 144 28 = zI (pr + (gexp g m t p z s lo).2) → Q (some (.int (zI (gexp g m t p z s lo).1))) T I' J) → PW G x0 l mX12_gallops (d + 1) (ZM G x0 Q) k n 46 [(0, .ref (x0 + 144)), (1, .int (zI r)), (2, .int (zI p)), (3, .int (zI t)), (4, .int (zI lo)), (5, .int (zI s)), (6, .int (zI m)), (7, .int (if p + s < m then 1 else 0))] [] T I J := by
  obtain ⟨o1, o2⟩ := hM.o
  obtain ⟨r158, b158, k158, n158⟩ := hM.a158
  have none : ∀ (s lo : Nat) (pr : Int) (I : fI), ¬ p + s < m → lo < m → MRow I r g m → I 144 28 = zI pr → (∀ I', frP I I' → I' 144 28 = zI (pr + (gbin g t m lo m).2) → Q (some (.int (zI (gbin g t m lo m).1))) T I' J) → PW G x0 l mX12_gallops (d + 1) (ZM G x0 Q) k n 46 [(0, .ref (x0 + 144)), (1, .int (zI r)), (2, .int (zI p)), (3, .int (zI t)), (4, .int (zI lo)), (5, .int (zI s)), (6, .int (zI m)), (7, .int (if p + s < m then 1 else 0))] [] T I J := by
    intro s lo pr I hn h1 hR hp hq
    rw [if_neg hn]
    refine s_iload dX12_gallops_46 rfl ?_
    refine s_if_eq (tgt := 139) dX12_gallops_48 (by decide) (fun h48 => ?_) (fun h48 => absurd (rfl) h48)
    refine s_lv (lv' := [(0, .ref (x0 + 144)), (1, .int (zI r)), (2, .int (zI p)), (3, .int (zI t)), (4, .int (zI lo)), (6, .int (zI m))]) ⟨rfl, rfl, rfl, rfl, rfl, rfl, trivial⟩ ?_
    exact ml_gbin hM hr hm hV ht m lo m pr I (by omega) h1 (Nat.le_refl _) hR hp hq
  intro z
  induction z with
  | zero =>
    intro s lo pr I hz h1 h2 h3 h4 h5 hR hp hq
    exact none s lo pr I (by omega) h3 hR hp hq
  | succ z ih =>
    intro s lo pr I hz h1 h2 h3 h4 h5 hR hp hq
    simp only [gexp] at hq
    by_cases hc : p + s < m
    · rw [if_pos hc] at hq ⊢
      refine s_iload dX12_gallops_46 rfl ?_
      refine s_if_eq (tgt := 139) dX12_gallops_48 (by decide) (fun h48 => absurd h48 (by decide)) (fun h48 => ?_)
      refine s_iload_n (i := 2) dX12_gallops_51 rfl rfl ?_
      refine s_iload dX12_gallops_52 rfl ?_
      refine s_iadd dX12_gallops_54 ?_
      refine s_topi (y := zI ((p + s : Nat) : Int)) (by first | with_reducible rfl | ((try simp only [z0, z1, zm1, zm2, zm3, zm4, zl2, zl3, zl4, zl5, zl6, zl7, zl8, zl9, zl10, zl20, zl28, zl31, zl32, zl33, zl48, zl57, zl64, zl100, zl127, zl200, zl201, zl202, zl402, zl1200, zl2412, zl16884, zI_add, zI_sub, zI_mul, zI_inc, zI_dec]) <;> (congr 1 <;> omega))) ?_
      refine s_istore dX12_gallops_55 (by decide) (by simp only [sl, sl2, rm, Value.category, reduceIte, Nat.reduceAdd, Nat.reduceEqDiff, reduceCtorEq]; rfl) ?_
      refine s_aload_n (i := 0) dX12_gallops_57 rfl rfl ?_
      refine s_iload_n (i := 1) dX12_gallops_58 rfl rfl ?_
      refine s_iload dX12_gallops_59 rfl ?_
      refine s_iload_n (i := 3) dX12_gallops_61 rfl rfl ?_
      refine s_cV_III (My := mX12_probe) dX12_gallops_62 wM_X12_230 cb_yX12_probe ci_yX12_probe (by assumption) (by assumption) (Nat.le_of_ble_eq_true rfl) (by decide) (s_d (by omega) (m_probe (d := 0) (i := p + s) hM hr hm hV ht hR hc hp (fun I1 hf1 hp1 => ?_)))
      have hR1 := hR.p hf1
      by_cases hc2 : t ≤ g (p + s)
      · rw [if_pos hc2]
        rw [if_pos hc2] at hq
        refine s_istore dX12_gallops_65 (by decide) (by simp only [sl, sl2, rm, Value.category, reduceIte, Nat.reduceAdd, Nat.reduceEqDiff, reduceCtorEq]; rfl) ?_
        refine s_iload dX12_gallops_67 rfl ?_
        refine s_if_eq (tgt := 77) dX12_gallops_69 (by decide) (fun h69 => absurd h69 (by decide)) (fun h69 => ?_)
        refine s_iload dX12_gallops_72 rfl ?_
        refine s_goto (tgt := 79) dX12_gallops_74 (by decide) ?_
        refine s_istore dX12_gallops_79 (by decide) (by simp only [sl, sl2, rm, Value.category, reduceIte, Nat.reduceAdd, Nat.reduceEqDiff, reduceCtorEq]; rfl) ?_
        refine s_iload dX12_gallops_81 rfl ?_
        refine s_if_eq (tgt := 91) dX12_gallops_83 (by decide) (fun h83 => absurd h83 (by decide)) (fun h83 => ?_)
        refine s_iload dX12_gallops_86 rfl ?_
        refine s_goto (tgt := 93) dX12_gallops_88 (by decide) ?_
        refine s_istore dX12_gallops_93 (by decide) (by simp only [sl, sl2, rm, Value.category, reduceIte, Nat.reduceAdd, Nat.reduceEqDiff, reduceCtorEq]; rfl) ?_
        refine s_iload dX12_gallops_95 rfl ?_
        refine s_if_eq (tgt := 105) dX12_gallops_97 (by decide) (fun h97 => absurd h97 (by decide)) (fun h97 => ?_)
        refine s_iload dX12_gallops_100 rfl ?_
        refine s_goto (tgt := 109) dX12_gallops_102 (by decide) ?_
        refine s_istore dX12_gallops_109 (by decide) (by simp only [sl, sl2, rm, Value.category, reduceIte, Nat.reduceAdd, Nat.reduceEqDiff, reduceCtorEq]; rfl) ?_
        refine s_iload dX12_gallops_111 rfl ?_
        refine s_if_ne (tgt := 133) dX12_gallops_113 (by decide) (fun h113 => ?_) (fun h113 => absurd h113 (by decide))
        refine s_iconst (v := 0) dX12_gallops_133 (by decide) ?_
        refine s_istore dX12_gallops_134 (by decide) (by simp only [sl, sl2, rm, Value.category, reduceIte, Nat.reduceAdd, Nat.reduceEqDiff, reduceCtorEq]; rfl) ?_
        refine s_goto (tgt := 46) dX12_gallops_136 (by decide) ?_
        refine s_iload dX12_gallops_46 rfl ?_
        refine s_if_eq (tgt := 139) dX12_gallops_48 (by decide) (fun h48 => ?_) (fun h48 => absurd (rfl) h48)
        refine s_lv (lv' := [(0, .ref (x0 + 144)), (1, .int (zI r)), (2, .int (zI p)), (3, .int (zI t)), (4, .int (zI lo)), (6, .int (zI ((p + s : Nat) : Int)))]) ⟨rfl, rfl, rfl, rfl, rfl, rfl, trivial⟩ ?_
        exact ml_gbin hM hr hm hV ht m lo (p + s) (pr + 1) I1 (by omega) (by omega) (by omega) hR1 hp1 (fun I' hf h => hq I' (hf1.trans hf) (by rw [h]; unfold gadd; dsimp only; congr 1; omega))
      · rw [if_neg hc2]
        rw [if_neg hc2] at hq
        have hq' : ∀ I', frP I1 I' → I' 144 28 = zI (pr + 1 + (gexp g m t p z (2 * s) (p + s)).2) → Q (some (.int (zI (gexp g m t p z (2 * s) (p + s)).1))) T I' J := fun I' hf h => hq I' (hf1.trans hf) (by rw [h]; unfold gadd; dsimp only; congr 1; omega)
        have hih := ih (2 * s) (p + s) (pr + 1) I1 (by omega) (by omega) (by omega) hc (by omega) (by omega) hR1 hp1 hq'
        by_cases hc3 : p + 2 * s < m
        · rw [if_pos hc3] at hih
          refine s_istore dX12_gallops_65 (by decide) (by simp only [sl, sl2, rm, Value.category, reduceIte, Nat.reduceAdd, Nat.reduceEqDiff, reduceCtorEq]; rfl) ?_
          refine s_iload dX12_gallops_67 rfl ?_
          refine s_if_eq (tgt := 77) dX12_gallops_69 (by decide) (fun h69 => ?_) (fun h69 => absurd (rfl) h69)
          refine s_iload dX12_gallops_77 rfl ?_
          refine s_istore dX12_gallops_79 (by decide) (by simp only [sl, sl2, rm, Value.category, reduceIte, Nat.reduceAdd, Nat.reduceEqDiff, reduceCtorEq]; rfl) ?_
          refine s_iload dX12_gallops_81 rfl ?_
          refine s_if_eq (tgt := 91) dX12_gallops_83 (by decide) (fun h83 => ?_) (fun h83 => absurd (rfl) h83)
          refine s_iload dX12_gallops_91 rfl ?_
          refine s_istore dX12_gallops_93 (by decide) (by simp only [sl, sl2, rm, Value.category, reduceIte, Nat.reduceAdd, Nat.reduceEqDiff, reduceCtorEq]; rfl) ?_
          refine s_iload dX12_gallops_95 rfl ?_
          refine s_if_eq (tgt := 105) dX12_gallops_97 (by decide) (fun h97 => ?_) (fun h97 => absurd (rfl) h97)
          refine s_iconst (v := 2) dX12_gallops_105 (by decide) ?_
          refine s_iload dX12_gallops_106 rfl ?_
          refine s_imul dX12_gallops_108 ?_
          refine s_topi (y := zI ((2 * s : Nat) : Int)) (by first | with_reducible rfl | ((try simp only [z0, z1, zm1, zm2, zm3, zm4, zl2, zl3, zl4, zl5, zl6, zl7, zl8, zl9, zl10, zl20, zl28, zl31, zl32, zl33, zl48, zl57, zl64, zl100, zl127, zl200, zl201, zl202, zl402, zl1200, zl2412, zl16884, zI_add, zI_sub, zI_mul, zI_inc, zI_dec]) <;> (congr 1 <;> omega))) ?_
          refine s_istore dX12_gallops_109 (by decide) (by simp only [sl, sl2, rm, Value.category, reduceIte, Nat.reduceAdd, Nat.reduceEqDiff, reduceCtorEq]; rfl) ?_
          refine s_iload dX12_gallops_111 rfl ?_
          refine s_if_ne (tgt := 133) dX12_gallops_113 (by decide) (fun h113 => absurd h113 (fun h => h rfl)) (fun h113 => ?_)
          refine s_iload_n (i := 2) dX12_gallops_116 rfl rfl ?_
          refine s_iload dX12_gallops_117 rfl ?_
          skip
          refine s_iadd dX12_gallops_119 ?_
          refine s_topi (y := zI ((p + 2 * s : Nat) : Int)) (by first | with_reducible rfl | ((try simp only [z0, z1, zm1, zm2, zm3, zm4, zl2, zl3, zl4, zl5, zl6, zl7, zl8, zl9, zl10, zl20, zl28, zl31, zl32, zl33, zl48, zl57, zl64, zl100, zl127, zl200, zl201, zl202, zl402, zl1200, zl2412, zl16884, zI_add, zI_sub, zI_mul, zI_inc, zI_dec]) <;> (congr 1 <;> omega))) ?_
          refine s_aload_n (i := 0) dX12_gallops_120 rfl rfl ?_
          refine s_getR dX12_gallops_121 fl_X12_56 (by assumption) (by assumption) (by assumption) ?_
          refine s_iload_n (i := 1) dX12_gallops_124 rfl rfl ?_
          refine s_ildn (j := r) dX12_gallops_125 (by assumption) (by assumption) (by assumption) (by first | with_reducible rfl | ((try simp only [z0, z1, zm1, zm2, zm3, zm4, zl2, zl3, zl4, zl5, zl6, zl7, zl8, zl9, zl10, zl20, zl28, zl31, zl32, zl33, zl48, zl57, zl64, zl100, zl127, zl200, zl201, zl202, zl402, zl1200, zl2412, zl16884, zI_add, zI_sub, zI_mul, zI_inc, zI_dec]) <;> (congr 1 <;> omega))) (by omega) (by decide) ?_
          rw [hR1.1]
          refine s_icmp_ge (tgt := 133) dX12_gallops_126 (by decide) (fun h126 => absurd h126 (fun h => by rw [zI_le (by omega) (by omega) (by omega) (by omega)] at h; omega)) (fun h126 => ?_)
          refine s_iconst (v := 1) dX12_gallops_129 (by decide) ?_
          refine s_goto (tgt := 134) dX12_gallops_130 (by decide) ?_
          refine s_istore dX12_gallops_134 (by decide) (by simp only [sl, sl2, rm, Value.category, reduceIte, Nat.reduceAdd, Nat.reduceEqDiff, reduceCtorEq]; rfl) ?_
          refine s_goto (tgt := 46) dX12_gallops_136 (by decide) ?_
          refine s_lv (lv' := [(0, .ref (x0 + 144)), (1, .int (zI r)), (2, .int (zI p)), (3, .int (zI t)), (4, .int (zI ((p + s : Nat) : Int))), (5, .int (zI ((2 * s : Nat) : Int))), (6, .int (zI m)), (7, .int 1)]) ⟨rfl, rfl, rfl, rfl, rfl, rfl, rfl, rfl, trivial⟩ ?_
          exact hih
        · rw [if_neg hc3] at hih
          refine s_istore dX12_gallops_65 (by decide) (by simp only [sl, sl2, rm, Value.category, reduceIte, Nat.reduceAdd, Nat.reduceEqDiff, reduceCtorEq]; rfl) ?_
          refine s_iload dX12_gallops_67 rfl ?_
          refine s_if_eq (tgt := 77) dX12_gallops_69 (by decide) (fun h69 => ?_) (fun h69 => absurd (rfl) h69)
          refine s_iload dX12_gallops_77 rfl ?_
          refine s_istore dX12_gallops_79 (by decide) (by simp only [sl, sl2, rm, Value.category, reduceIte, Nat.reduceAdd, Nat.reduceEqDiff, reduceCtorEq]; rfl) ?_
          refine s_iload dX12_gallops_81 rfl ?_
          refine s_if_eq (tgt := 91) dX12_gallops_83 (by decide) (fun h83 => ?_) (fun h83 => absurd (rfl) h83)
          refine s_iload dX12_gallops_91 rfl ?_
          refine s_istore dX12_gallops_93 (by decide) (by simp only [sl, sl2, rm, Value.category, reduceIte, Nat.reduceAdd, Nat.reduceEqDiff, reduceCtorEq]; rfl) ?_
          refine s_iload dX12_gallops_95 rfl ?_
          refine s_if_eq (tgt := 105) dX12_gallops_97 (by decide) (fun h97 => ?_) (fun h97 => absurd (rfl) h97)
          refine s_iconst (v := 2) dX12_gallops_105 (by decide) ?_
          refine s_iload dX12_gallops_106 rfl ?_
          refine s_imul dX12_gallops_108 ?_
          refine s_topi (y := zI ((2 * s : Nat) : Int)) (by first | with_reducible rfl | ((try simp only [z0, z1, zm1, zm2, zm3, zm4, zl2, zl3, zl4, zl5, zl6, zl7, zl8, zl9, zl10, zl20, zl28, zl31, zl32, zl33, zl48, zl57, zl64, zl100, zl127, zl200, zl201, zl202, zl402, zl1200, zl2412, zl16884, zI_add, zI_sub, zI_mul, zI_inc, zI_dec]) <;> (congr 1 <;> omega))) ?_
          refine s_istore dX12_gallops_109 (by decide) (by simp only [sl, sl2, rm, Value.category, reduceIte, Nat.reduceAdd, Nat.reduceEqDiff, reduceCtorEq]; rfl) ?_
          refine s_iload dX12_gallops_111 rfl ?_
          refine s_if_ne (tgt := 133) dX12_gallops_113 (by decide) (fun h113 => absurd h113 (fun h => h rfl)) (fun h113 => ?_)
          refine s_iload_n (i := 2) dX12_gallops_116 rfl rfl ?_
          refine s_iload dX12_gallops_117 rfl ?_
          skip
          refine s_iadd dX12_gallops_119 ?_
          refine s_topi (y := zI ((p + 2 * s : Nat) : Int)) (by first | with_reducible rfl | ((try simp only [z0, z1, zm1, zm2, zm3, zm4, zl2, zl3, zl4, zl5, zl6, zl7, zl8, zl9, zl10, zl20, zl28, zl31, zl32, zl33, zl48, zl57, zl64, zl100, zl127, zl200, zl201, zl202, zl402, zl1200, zl2412, zl16884, zI_add, zI_sub, zI_mul, zI_inc, zI_dec]) <;> (congr 1 <;> omega))) ?_
          refine s_aload_n (i := 0) dX12_gallops_120 rfl rfl ?_
          refine s_getR dX12_gallops_121 fl_X12_56 (by assumption) (by assumption) (by assumption) ?_
          refine s_iload_n (i := 1) dX12_gallops_124 rfl rfl ?_
          refine s_ildn (j := r) dX12_gallops_125 (by assumption) (by assumption) (by assumption) (by first | with_reducible rfl | ((try simp only [z0, z1, zm1, zm2, zm3, zm4, zl2, zl3, zl4, zl5, zl6, zl7, zl8, zl9, zl10, zl20, zl28, zl31, zl32, zl33, zl48, zl57, zl64, zl100, zl127, zl200, zl201, zl202, zl402, zl1200, zl2412, zl16884, zI_add, zI_sub, zI_mul, zI_inc, zI_dec]) <;> (congr 1 <;> omega))) (by omega) (by decide) ?_
          rw [hR1.1]
          refine s_icmp_ge (tgt := 133) dX12_gallops_126 (by decide) (fun h126 => ?_) (fun h126 => absurd ((zI_le (by omega) (by omega) (by omega) (by omega)).mpr (by omega)) h126)
          refine s_iconst (v := 0) dX12_gallops_133 (by decide) ?_
          refine s_istore dX12_gallops_134 (by decide) (by simp only [sl, sl2, rm, Value.category, reduceIte, Nat.reduceAdd, Nat.reduceEqDiff, reduceCtorEq]; rfl) ?_
          refine s_goto (tgt := 46) dX12_gallops_136 (by decide) ?_
          refine s_lv (lv' := [(0, .ref (x0 + 144)), (1, .int (zI r)), (2, .int (zI p)), (3, .int (zI t)), (4, .int (zI ((p + s : Nat) : Int))), (5, .int (zI ((2 * s : Nat) : Int))), (6, .int (zI m)), (7, .int 0)]) ⟨rfl, rfl, rfl, rfl, rfl, rfl, rfl, rfl, trivial⟩ ?_
          exact hih
    · rw [if_neg hc] at hq
      exact none s lo pr I hc h3 hR hp hq
set_option maxRecDepth 100000 in
set_option maxHeartbeats 1000000 in
theorem m_gallops {G : fG} {x0 : Nat} {l : Launch} {d k n : Nat} {T : fT} {I : fI} {J : fJ} {Q : Option Value → fT → fI → fJ → Prop} {r m : Nat} {g : Nat → Int} {t : Int} (hM : MObj T) (hr : r < 24) (hm : m ≤ 1200) (hV : Vok g m) (ht : 0 ≤ t ∧ t ≤ 999999) {p : Nat} {pr : Int} (hR : MRow I r g m) (hpm : p < m) (hp : I 144 28 = zI pr) (hq : ∀ I', frP I I' → I' 144 28 = zI (pr + (gal g m p t).2) → Q (some (.int (zI (gal g m p t).1))) T I' J) : PW G x0 l mX12_gallops (d + 1) (ZM G x0 Q) k n 0 [(0, .ref (x0 + 144)), (1, .int (zI r)), (2, .int (zI p)), (3, .int (zI t))] [] T I J := by
  obtain ⟨o1, o2⟩ := hM.o
  obtain ⟨r158, b158, k158, n158⟩ := hM.a158
  unfold gal at hq
  refine s_aload_n (i := 0) dX12_gallops_0 rfl rfl ?_
  refine s_iload_n (i := 1) dX12_gallops_1 rfl rfl ?_
  refine s_iload_n (i := 2) dX12_gallops_2 rfl rfl ?_
  refine s_iload_n (i := 3) dX12_gallops_3 rfl rfl ?_
  refine s_cV_III (My := mX12_probe) dX12_gallops_4 wM_X12_230 cb_yX12_probe ci_yX12_probe (by assumption) (by assumption) (Nat.le_of_ble_eq_true rfl) (by decide) (s_d (by omega) (m_probe (d := 0) (i := p) hM hr hm hV ht hR hpm hp (fun I1 hf1 hp1 => ?_)))
  have hR1 := hR.p hf1
  by_cases hc : t ≤ g p
  · rw [if_pos hc]
    rw [if_pos hc] at hq
    refine s_if_eq (tgt := 12) dX12_gallops_7 (by decide) (fun h7 => absurd h7 (by decide)) (fun h7 => ?_)
    refine s_iload_n (i := 2) dX12_gallops_10 rfl rfl ?_
    refine s_iret dX12_gallops_11 rfl ?_
    exact hq I1 hf1 hp1
  · rw [if_neg hc]
    rw [if_neg hc] at hq
    have hq' : ∀ I', frP I1 I' → I' 144 28 = zI (pr + 1 + (gexp g m t p m 1 p).2) → Q (some (.int (zI (gexp g m t p m 1 p).1))) T I' J := fun I' hf h => hq I' (hf1.trans hf) (by rw [h]; unfold gadd; dsimp only; congr 1; omega)
    have hih := ml_gexp (G := G) (x0 := x0) (l := l) (d := d) (k := k) (n := n) (J := J) hM hr hm hV ht (p := p) m 1 p (pr + 1) I1 (by omega) (by omega) (by omega) hpm (by omega) (by omega) hR1 hp1 hq'
    by_cases hc3 : p + 1 < m
    · rw [if_pos hc3] at hih
      refine s_if_eq (tgt := 12) dX12_gallops_7 (by decide) (fun h7 => ?_) (fun h7 => absurd (rfl) h7)
      refine s_iload_n (i := 2) dX12_gallops_12 rfl rfl ?_
      refine s_istore dX12_gallops_13 (by decide) (by simp only [sl, sl2, rm, Value.category, reduceIte, Nat.reduceAdd, Nat.reduceEqDiff, reduceCtorEq]; rfl) ?_
      refine s_iconst (v := 1) dX12_gallops_15 (by decide) ?_
      refine s_istore dX12_gallops_16 (by decide) (by simp only [sl, sl2, rm, Value.category, reduceIte, Nat.reduceAdd, Nat.reduceEqDiff, reduceCtorEq]; rfl) ?_
      refine s_aload_n (i := 0) dX12_gallops_18 rfl rfl ?_
      refine s_getR dX12_gallops_19 fl_X12_56 (by assumption) (by assumption) (by assumption) ?_
      refine s_iload_n (i := 1) dX12_gallops_22 rfl rfl ?_
      refine s_ildn (j := r) dX12_gallops_23 (by assumption) (by assumption) (by assumption) (by first | with_reducible rfl | ((try simp only [z0, z1, zm1, zm2, zm3, zm4, zl2, zl3, zl4, zl5, zl6, zl7, zl8, zl9, zl10, zl20, zl28, zl31, zl32, zl33, zl48, zl57, zl64, zl100, zl127, zl200, zl201, zl202, zl402, zl1200, zl2412, zl16884, zI_add, zI_sub, zI_mul, zI_inc, zI_dec]) <;> (congr 1 <;> omega))) (by omega) (by decide) ?_
      rw [hR1.1]
      refine s_istore dX12_gallops_24 (by decide) (by simp only [sl, sl2, rm, Value.category, reduceIte, Nat.reduceAdd, Nat.reduceEqDiff, reduceCtorEq]; rfl) ?_
      refine s_iload_n (i := 2) dX12_gallops_26 rfl rfl ?_
      refine s_iload dX12_gallops_27 rfl ?_
      refine s_iadd dX12_gallops_29 ?_
      refine s_topi (y := zI ((p + 1 : Nat) : Int)) (by first | with_reducible rfl | ((try simp only [z0, z1, zm1, zm2, zm3, zm4, zl2, zl3, zl4, zl5, zl6, zl7, zl8, zl9, zl10, zl20, zl28, zl31, zl32, zl33, zl48, zl57, zl64, zl100, zl127, zl200, zl201, zl202, zl402, zl1200, zl2412, zl16884, zI_add, zI_sub, zI_mul, zI_inc, zI_dec]) <;> (congr 1 <;> omega))) ?_
      refine s_aload_n (i := 0) dX12_gallops_30 rfl rfl ?_
      refine s_getR dX12_gallops_31 fl_X12_56 (by assumption) (by assumption) (by assumption) ?_
      refine s_iload_n (i := 1) dX12_gallops_34 rfl rfl ?_
      refine s_ildn (j := r) dX12_gallops_35 (by assumption) (by assumption) (by assumption) (by first | with_reducible rfl | ((try simp only [z0, z1, zm1, zm2, zm3, zm4, zl2, zl3, zl4, zl5, zl6, zl7, zl8, zl9, zl10, zl20, zl28, zl31, zl32, zl33, zl48, zl57, zl64, zl100, zl127, zl200, zl201, zl202, zl402, zl1200, zl2412, zl16884, zI_add, zI_sub, zI_mul, zI_inc, zI_dec]) <;> (congr 1 <;> omega))) (by omega) (by decide) ?_
      rw [hR1.1]
      refine s_icmp_ge (tgt := 43) dX12_gallops_36 (by decide) (fun h36 => absurd h36 (fun h => by rw [zI_le (by omega) (by omega) (by omega) (by omega)] at h; omega)) (fun h36 => ?_)
      refine s_iconst (v := 1) dX12_gallops_39 (by decide) ?_
      refine s_goto (tgt := 44) dX12_gallops_40 (by decide) ?_
      refine s_istore dX12_gallops_44 (by decide) (by simp only [sl, sl2, rm, Value.category, reduceIte, Nat.reduceAdd, Nat.reduceEqDiff, reduceCtorEq]; rfl) ?_
      exact hih
    · rw [if_neg hc3] at hih
      refine s_if_eq (tgt := 12) dX12_gallops_7 (by decide) (fun h7 => ?_) (fun h7 => absurd (rfl) h7)
      refine s_iload_n (i := 2) dX12_gallops_12 rfl rfl ?_
      refine s_istore dX12_gallops_13 (by decide) (by simp only [sl, sl2, rm, Value.category, reduceIte, Nat.reduceAdd, Nat.reduceEqDiff, reduceCtorEq]; rfl) ?_
      refine s_iconst (v := 1) dX12_gallops_15 (by decide) ?_
      refine s_istore dX12_gallops_16 (by decide) (by simp only [sl, sl2, rm, Value.category, reduceIte, Nat.reduceAdd, Nat.reduceEqDiff, reduceCtorEq]; rfl) ?_
      refine s_aload_n (i := 0) dX12_gallops_18 rfl rfl ?_
      refine s_getR dX12_gallops_19 fl_X12_56 (by assumption) (by assumption) (by assumption) ?_
      refine s_iload_n (i := 1) dX12_gallops_22 rfl rfl ?_
      refine s_ildn (j := r) dX12_gallops_23 (by assumption) (by assumption) (by assumption) (by first | with_reducible rfl | ((try simp only [z0, z1, zm1, zm2, zm3, zm4, zl2, zl3, zl4, zl5, zl6, zl7, zl8, zl9, zl10, zl20, zl28, zl31, zl32, zl33, zl48, zl57, zl64, zl100, zl127, zl200, zl201, zl202, zl402, zl1200, zl2412, zl16884, zI_add, zI_sub, zI_mul, zI_inc, zI_dec]) <;> (congr 1 <;> omega))) (by omega) (by decide) ?_
      rw [hR1.1]
      refine s_istore dX12_gallops_24 (by decide) (by simp only [sl, sl2, rm, Value.category, reduceIte, Nat.reduceAdd, Nat.reduceEqDiff, reduceCtorEq]; rfl) ?_
      refine s_iload_n (i := 2) dX12_gallops_26 rfl rfl ?_
      refine s_iload dX12_gallops_27 rfl ?_
      refine s_iadd dX12_gallops_29 ?_
      refine s_topi (y := zI ((p + 1 : Nat) : Int)) (by first | with_reducible rfl | ((try simp only [z0, z1, zm1, zm2, zm3, zm4, zl2, zl3, zl4, zl5, zl6, zl7, zl8, zl9, zl10, zl20, zl28, zl31, zl32, zl33, zl48, zl57, zl64, zl100, zl127, zl200, zl201, zl202, zl402, zl1200, zl2412, zl16884, zI_add, zI_sub, zI_mul, zI_inc, zI_dec]) <;> (congr 1 <;> omega))) ?_
      refine s_aload_n (i := 0) dX12_gallops_30 rfl rfl ?_
      refine s_getR dX12_gallops_31 fl_X12_56 (by assumption) (by assumption) (by assumption) ?_
      refine s_iload_n (i := 1) dX12_gallops_34 rfl rfl ?_
      refine s_ildn (j := r) dX12_gallops_35 (by assumption) (by assumption) (by assumption) (by first | with_reducible rfl | ((try simp only [z0, z1, zm1, zm2, zm3, zm4, zl2, zl3, zl4, zl5, zl6, zl7, zl8, zl9, zl10, zl20, zl28, zl31, zl32, zl33, zl48, zl57, zl64, zl100, zl127, zl200, zl201, zl202, zl402, zl1200, zl2412, zl16884, zI_add, zI_sub, zI_mul, zI_inc, zI_dec]) <;> (congr 1 <;> omega))) (by omega) (by decide) ?_
      rw [hR1.1]
      refine s_icmp_ge (tgt := 43) dX12_gallops_36 (by decide) (fun h36 => ?_) (fun h36 => absurd ((zI_le (by omega) (by omega) (by omega) (by omega)).mpr (by omega)) h36)
      refine s_iconst (v := 0) dX12_gallops_43 (by decide) ?_
      refine s_istore dX12_gallops_44 (by decide) (by simp only [sl, sl2, rm, Value.category, reduceIte, Nat.reduceAdd, Nat.reduceEqDiff, reduceCtorEq]; rfl) ?_
      exact hih
set_option maxRecDepth 100000 in
set_option maxHeartbeats 1000000 in
theorem m_puts {G : fG} {x0 : Nat} {l : Launch} {d k n : Nat} {T : fT} {I : fI} {J : fJ} {Q : Option Value → fT → fI → fJ → Prop} {A : List Int} {v : Int} (hM : MObj T) (hA : OutM I A) (hl : A.length < 1200) (hq : ∀ I', frJ I I' → I' 144 28 = I 144 28 → OutM I' (A ++ [v]) → Q none T I' J) : PW G x0 l mX12_puts d (ZM G x0 Q) k n 0 [(0, .ref (x0 + 144)), (1, .int (zI v))] [] T I J := by
  obtain ⟨o1, o2⟩ := hM.o
  obtain ⟨r159, b159, k159, n159⟩ := hM.a159
  refine s_aload_n (i := 0) dX12_puts_0 rfl rfl ?_
  refine s_getR dX12_puts_1 fl_X12_59 (by assumption) (by assumption) (by assumption) ?_
  refine s_aload_n (i := 0) dX12_puts_4 rfl rfl ?_
  refine s_getI dX12_puts_5 fl_X12_233 (by assumption) (by assumption) ?_
  rw [hA.1]
  refine s_iload_n (i := 1) dX12_puts_8 rfl rfl ?_
  refine s_istn (j := A.length) dX12_puts_9 (by assumption) (by assumption) (by assumption) (by first | with_reducible rfl | ((try simp only [z0, z1, zm1, zm2, zm3, zm4, zl2, zl3, zl4, zl5, zl6, zl7, zl8, zl9, zl10, zl20, zl28, zl31, zl32, zl33, zl48, zl57, zl64, zl100, zl127, zl200, zl201, zl202, zl402, zl1200, zl2412, zl16884, zI_add, zI_sub, zI_mul, zI_inc, zI_dec]) <;> (congr 1 <;> omega))) (by omega) (by decide) ?_
  refine s_aload_n (i := 0) dX12_puts_10 rfl rfl ?_
  refine s_dup dX12_puts_11 rfl ?_
  refine s_getI dX12_puts_12 fl_X12_233 (by assumption) (by assumption) ?_
  rw [iu_ne (by omega), hA.1]
  refine s_iconst (v := 1) dX12_puts_15 (by decide) ?_
  refine s_iadd dX12_puts_16 ?_
  refine s_topi (y := zI ((A.length + 1 : Nat) : Int)) (by first | with_reducible rfl | ((try simp only [z0, z1, zm1, zm2, zm3, zm4, zl2, zl3, zl4, zl5, zl6, zl7, zl8, zl9, zl10, zl20, zl28, zl31, zl32, zl33, zl48, zl57, zl64, zl100, zl127, zl200, zl201, zl202, zl402, zl1200, zl2412, zl16884, zI_add, zI_sub, zI_mul, zI_inc, zI_dec]) <;> (congr 1 <;> omega))) ?_
  refine s_putI dX12_puts_17 fp_X12_233 (by assumption) (by assumption) ?_
  refine s_ret dX12_puts_20 rfl ?_
  refine hq _ ⟨fun b hb => by simp at hb; rw [iu_ne (by omega), iu_ne (by omega)], fun j h1 h2 => by rw [iu_j h1, iu_ne (by omega)]⟩ (by rw [iu_j (by omega), iu_ne (by omega)]) ⟨by rw [iu_at, List.length_append, List.length_singleton], fun q h => ?_⟩
  rw [List.length_append, List.length_singleton] at h
  rw [iu_ne (by omega)]
  unfold lfn
  by_cases e : q = A.length
  · subst e; rw [iu_at, getD_snoc_eq]
  · rw [iu_j e, getD_snoc_lt (by omega)]; exact hA.2 q (by omega)
set_option maxRecDepth 100000 in
set_option maxHeartbeats 1000000 in
theorem ml_inter {G : fG} {x0 : Nat} {l : Launch} {d k n : Nat} {T : fT} {J : fJ} {Q : Option Value → fT → fI → fJ → Prop} {a b m1 m2 : Nat} {g1 g2 : Nat → Int} (hM : MObj T) (ha : a < 24) (hb : b < 24) (hm1 : m1 ≤ 1200) (hm2 : m2 ≤ 1200) (hV1 : Vok g1 m1) (hV2 : Vok g2 m2) : ∀ (z i j : Nat) (A : List Int) (pr : Int) (I : fI), (m1 - i) + (m2 - j) ≤ z → i ≤ m1 → j ≤ m2 → MRow I a g1 m1 → MRow I b g2 m2 → OutM I A → A.length ≤ i → I 144 28 = zI pr → (∀ I', frJ I I' → OutM I' (A ++ gintL g1 m1 g2 m2 z i j) → I' 144 28 = zI (pr + (gint g1 m1 g2 m2 z i j).2) → Q none T I' J) → PW G x0 l mX12_intersects (d + 2) (ZM G x0 Q) k n 10 [(0, .ref (x0 + 144)), (1, .int (zI a)), (2, .int (zI b)), (3, .int (zI i)), (4, .int (zI j))] [] T I J := by
  obtain ⟨o1, o2⟩ := hM.o
  obtain ⟨r158, b158, k158, n158⟩ := hM.a158
  obtain ⟨r157, b157, k157, n157⟩ := hM.a157
  have done : ∀ (i j : Nat) (A : List Int) (pr : Int) (I : fI), ¬ (i < m1 ∧ j < m2) → i ≤ m1 → j ≤ m2 → MRow I a g1 m1 → MRow I b g2 m2 → Q none T I J → PW G x0 l mX12_intersects (d + 2) (ZM G x0 Q) k n 10 [(0, .ref (x0 + 144)), (1, .int (zI a)), (2, .int (zI b)), (3, .int (zI i)), (4, .int (zI j))] [] T I J := by
    intro i j A pr I hn hi hj hR1 hR2 hQ
    by_cases hc : i < m1
    · refine s_iload_n (i := 3) dX12_intersects_10 rfl rfl ?_
      refine s_aload_n (i := 0) dX12_intersects_11 rfl rfl ?_
      refine s_getR dX12_intersects_12 fl_X12_56 (by assumption) (by assumption) (by assumption) ?_
      refine s_iload_n (i := 1) dX12_intersects_15 rfl rfl ?_
      refine s_ildn (j := a) dX12_intersects_16 (by assumption) (by assumption) (by assumption) (by first | with_reducible rfl | ((try simp only [z0, z1, zm1, zm2, zm3, zm4, zl2, zl3, zl4, zl5, zl6, zl7, zl8, zl9, zl10, zl20, zl28, zl31, zl32, zl33, zl48, zl57, zl64, zl100, zl127, zl200, zl201, zl202, zl402, zl1200, zl2412, zl16884, zI_add, zI_sub, zI_mul, zI_inc, zI_dec]) <;> (congr 1 <;> omega))) (by omega) (by decide) ?_
      rw [hR1.1]
      refine s_icmp_ge (tgt := 115) dX12_intersects_17 (by decide) (fun h17 => absurd h17 (fun h => by rw [zI_le (by omega) (by omega) (by omega) (by omega)] at h; omega)) (fun h17 => ?_)
      refine s_iload dX12_intersects_20 rfl ?_
      refine s_aload_n (i := 0) dX12_intersects_22 rfl rfl ?_
      refine s_getR dX12_intersects_23 fl_X12_56 (by assumption) (by assumption) (by assumption) ?_
      refine s_iload_n (i := 2) dX12_intersects_26 rfl rfl ?_
      refine s_ildn (j := b) dX12_intersects_27 (by assumption) (by assumption) (by assumption) (by first | with_reducible rfl | ((try simp only [z0, z1, zm1, zm2, zm3, zm4, zl2, zl3, zl4, zl5, zl6, zl7, zl8, zl9, zl10, zl20, zl28, zl31, zl32, zl33, zl48, zl57, zl64, zl100, zl127, zl200, zl201, zl202, zl402, zl1200, zl2412, zl16884, zI_add, zI_sub, zI_mul, zI_inc, zI_dec]) <;> (congr 1 <;> omega))) (by omega) (by decide) ?_
      rw [hR2.1]
      refine s_icmp_ge (tgt := 115) dX12_intersects_28 (by decide) (fun h28 => ?_) (fun h28 => absurd ((zI_le (by omega) (by omega) (by omega) (by omega)).mpr (by omega)) h28)
      refine s_ret dX12_intersects_115 rfl ?_
      exact hQ
    · refine s_iload_n (i := 3) dX12_intersects_10 rfl rfl ?_
      refine s_aload_n (i := 0) dX12_intersects_11 rfl rfl ?_
      refine s_getR dX12_intersects_12 fl_X12_56 (by assumption) (by assumption) (by assumption) ?_
      refine s_iload_n (i := 1) dX12_intersects_15 rfl rfl ?_
      refine s_ildn (j := a) dX12_intersects_16 (by assumption) (by assumption) (by assumption) (by first | with_reducible rfl | ((try simp only [z0, z1, zm1, zm2, zm3, zm4, zl2, zl3, zl4, zl5, zl6, zl7, zl8, zl9, zl10, zl20, zl28, zl31, zl32, zl33, zl48, zl57, zl64, zl100, zl127, zl200, zl201, zl202, zl402, zl1200, zl2412, zl16884, zI_add, zI_sub, zI_mul, zI_inc, zI_dec]) <;> (congr 1 <;> omega))) (by omega) (by decide) ?_
      rw [hR1.1]
      refine s_icmp_ge (tgt := 115) dX12_intersects_17 (by decide) (fun h17 => ?_) (fun h17 => absurd ((zI_le (by omega) (by omega) (by omega) (by omega)).mpr (by omega)) h17)
      refine s_ret dX12_intersects_115 rfl ?_
      exact hQ
  intro z
  induction z with
  | zero =>
    intro i j A pr I hz hi hj hR1 hR2 hA hl hp hq
    refine done i j A pr I (by omega) hi hj hR1 hR2 (hq I (frJ.refl I) ?_ ?_)
    · simp only [gintL]; rw [List.append_nil]; exact hA
    · simp only [gint]; rw [hp]; simp
  | succ z ih =>
    intro i j A pr I hz hi hj hR1 hR2 hA hl hp hq
    simp only [gintL, gint] at hq
    by_cases hc : i < m1 ∧ j < m2
    · simp only [if_pos hc] at hq
      obtain ⟨c1, c2⟩ := hc
      have v1 := hV1 i c1
      have v2 := hV2 j c2
      refine s_iload_n (i := 3) dX12_intersects_10 rfl rfl ?_
      refine s_aload_n (i := 0) dX12_intersects_11 rfl rfl ?_
      refine s_getR dX12_intersects_12 fl_X12_56 (by assumption) (by assumption) (by assumption) ?_
      refine s_iload_n (i := 1) dX12_intersects_15 rfl rfl ?_
      refine s_ildn (j := a) dX12_intersects_16 (by assumption) (by assumption) (by assumption) (by first | with_reducible rfl | ((try simp only [z0, z1, zm1, zm2, zm3, zm4, zl2, zl3, zl4, zl5, zl6, zl7, zl8, zl9, zl10, zl20, zl28, zl31, zl32, zl33, zl48, zl57, zl64, zl100, zl127, zl200, zl201, zl202, zl402, zl1200, zl2412, zl16884, zI_add, zI_sub, zI_mul, zI_inc, zI_dec]) <;> (congr 1 <;> omega))) (by omega) (by decide) ?_
      rw [hR1.1]
      refine s_icmp_ge (tgt := 115) dX12_intersects_17 (by decide) (fun h17 => absurd h17 (fun h => by rw [zI_le (by omega) (by omega) (by omega) (by omega)] at h; omega)) (fun h17 => ?_)
      refine s_iload dX12_intersects_20 rfl ?_
      refine s_aload_n (i := 0) dX12_intersects_22 rfl rfl ?_
      refine s_getR dX12_intersects_23 fl_X12_56 (by assumption) (by assumption) (by assumption) ?_
      refine s_iload_n (i := 2) dX12_intersects_26 rfl rfl ?_
      refine s_ildn (j := b) dX12_intersects_27 (by assumption) (by assumption) (by assumption) (by first | with_reducible rfl | ((try simp only [z0, z1, zm1, zm2, zm3, zm4, zl2, zl3, zl4, zl5, zl6, zl7, zl8, zl9, zl10, zl20, zl28, zl31, zl32, zl33, zl48, zl57, zl64, zl100, zl127, zl200, zl201, zl202, zl402, zl1200, zl2412, zl16884, zI_add, zI_sub, zI_mul, zI_inc, zI_dec]) <;> (congr 1 <;> omega))) (by omega) (by decide) ?_
      rw [hR2.1]
      refine s_icmp_ge (tgt := 115) dX12_intersects_28 (by decide) (fun h28 => absurd h28 (fun h => by rw [zI_le (by omega) (by omega) (by omega) (by omega)] at h; omega)) (fun h28 => ?_)
      refine s_aload_n (i := 0) dX12_intersects_31 rfl rfl ?_
      refine s_getR dX12_intersects_32 fl_X12_53 (by assumption) (by assumption) (by assumption) ?_
      refine s_sipush (v := 1200) dX12_intersects_35 (by decide) ?_
      refine s_iload_n (i := 1) dX12_intersects_38 rfl rfl ?_
      refine s_imul dX12_intersects_39 ?_
      refine s_iload_n (i := 3) dX12_intersects_40 rfl rfl ?_
      refine s_iadd dX12_intersects_41 ?_
      refine s_ildn (j := 1200 * a + i) dX12_intersects_42 (by assumption) (by assumption) (by assumption) (by first | with_reducible rfl | ((try simp only [z0, z1, zm1, zm2, zm3, zm4, zl2, zl3, zl4, zl5, zl6, zl7, zl8, zl9, zl10, zl20, zl28, zl31, zl32, zl33, zl48, zl57, zl64, zl100, zl127, zl200, zl201, zl202, zl402, zl1200, zl2412, zl16884, zI_add, zI_sub, zI_mul, zI_inc, zI_dec]) <;> (congr 1 <;> omega))) (by omega) (by decide) ?_
      rw [hR1.2 i c1]
      refine s_istore dX12_intersects_43 (by decide) (by simp only [sl, sl2, rm, Value.category, reduceIte, Nat.reduceAdd, Nat.reduceEqDiff, reduceCtorEq]; rfl) ?_
      refine s_aload_n (i := 0) dX12_intersects_45 rfl rfl ?_
      refine s_getR dX12_intersects_46 fl_X12_53 (by assumption) (by assumption) (by assumption) ?_
      refine s_sipush (v := 1200) dX12_intersects_49 (by decide) ?_
      refine s_iload_n (i := 2) dX12_intersects_52 rfl rfl ?_
      refine s_imul dX12_intersects_53 ?_
      refine s_iload dX12_intersects_54 rfl ?_
      refine s_iadd dX12_intersects_56 ?_
      refine s_ildn (j := 1200 * b + j) dX12_intersects_57 (by assumption) (by assumption) (by assumption) (by first | with_reducible rfl | ((try simp only [z0, z1, zm1, zm2, zm3, zm4, zl2, zl3, zl4, zl5, zl6, zl7, zl8, zl9, zl10, zl20, zl28, zl31, zl32, zl33, zl48, zl57, zl64, zl100, zl127, zl200, zl201, zl202, zl402, zl1200, zl2412, zl16884, zI_add, zI_sub, zI_mul, zI_inc, zI_dec]) <;> (congr 1 <;> omega))) (by omega) (by decide) ?_
      rw [hR2.2 j c2]
      refine s_istore dX12_intersects_58 (by decide) (by simp only [sl, sl2, rm, Value.category, reduceIte, Nat.reduceAdd, Nat.reduceEqDiff, reduceCtorEq]; rfl) ?_
      by_cases e1 : g1 i = g2 j
      · simp only [if_pos e1] at hq
        refine s_iload dX12_intersects_60 rfl ?_
        refine s_iload dX12_intersects_62 rfl ?_
        refine s_icmp_ne (tgt := 82) dX12_intersects_64 (by decide) (fun h64 => absurd h64 (fun h => h (by rw [e1]))) (fun h64 => ?_)
        refine s_aload_n (i := 0) dX12_intersects_67 rfl rfl ?_
        refine s_iload dX12_intersects_68 rfl ?_
        refine s_cV_I (My := mX12_puts) dX12_intersects_70 wM_X12_236 cb_yX12_puts ci_yX12_puts (by assumption) (by assumption) (Nat.le_of_ble_eq_true rfl) (by decide) (s_d (by omega) (m_puts (d := 0) hM hA (by omega) (fun I1 hf1 hp1 hA1 => ?_)))
        refine s_iinc dX12_intersects_73 rfl (zI_inc _) (by decide) (by simp only [sl, sl2, rm, Value.category, reduceIte, Nat.reduceAdd, Nat.reduceEqDiff, reduceCtorEq]; rfl) ?_
        refine s_iinc dX12_intersects_76 rfl (zI_inc _) (by decide) (by simp only [sl, sl2, rm, Value.category, reduceIte, Nat.reduceAdd, Nat.reduceEqDiff, reduceCtorEq]; rfl) ?_
        refine s_goto (tgt := 112) dX12_intersects_79 (by decide) ?_
        refine s_goto (tgt := 10) dX12_intersects_112 (by decide) ?_
        refine s_lv (lv' := [(0, .ref (x0 + 144)), (1, .int (zI a)), (2, .int (zI b)), (3, .int (zI ((i + 1 : Nat) : Int))), (4, .int (zI ((j + 1 : Nat) : Int)))]) ⟨rfl, rfl, rfl, rfl, rfl, trivial⟩ ?_
        refine ih (i + 1) (j + 1) (A ++ [g1 i]) pr I1 (by omega) (by omega) (by omega) (hR1.j hf1) (hR2.j hf1) hA1 (by rw [List.length_append, List.length_singleton]; omega) (by rw [hp1]; exact hp) (fun I' hf hA' h => hq I' (hf1.trans hf) (by rw [List.append_assoc] at hA'; exact hA') h)
      · simp only [if_neg e1] at hq
        by_cases e2 : g1 i < g2 j
        · simp only [if_pos e2] at hq
          have hgt := gal_gt c1 e2
          refine s_iload dX12_intersects_60 rfl ?_
          refine s_iload dX12_intersects_62 rfl ?_
          refine s_icmp_ne (tgt := 82) dX12_intersects_64 (by decide) (fun h64 => ?_) (fun h64 => absurd h64 (fun h => by rw [zI_eq (by omega) (by omega) (by omega) (by omega)] at h; omega))
          refine s_iload dX12_intersects_82 rfl ?_
          refine s_iload dX12_intersects_84 rfl ?_
          refine s_icmp_ge (tgt := 101) dX12_intersects_86 (by decide) (fun h86 => absurd h86 (fun h => by rw [zI_le (by omega) (by omega) (by omega) (by omega)] at h; omega)) (fun h86 => ?_)
          refine s_aload_n (i := 0) dX12_intersects_89 rfl rfl ?_
          refine s_iload_n (i := 1) dX12_intersects_90 rfl rfl ?_
          refine s_iload_n (i := 3) dX12_intersects_91 rfl rfl ?_
          refine s_iload dX12_intersects_92 rfl ?_
          refine s_cV_III (My := mX12_gallops) dX12_intersects_94 wM_X12_239 cb_yX12_gallops ci_yX12_gallops (by assumption) (by assumption) (Nat.le_of_ble_eq_true rfl) (by decide) (s_d (by omega) (m_gallops (d := 0) (p := i) hM ha hm1 hV1 v2 hR1 c1 hp (fun I1 hf1 hp1 => ?_)))
          refine s_istore_n (i := 3) dX12_intersects_97 rfl (by decide) (by simp only [sl, sl2, rm, Value.category, reduceIte, Nat.reduceAdd, Nat.reduceEqDiff, reduceCtorEq]; rfl) ?_
          refine s_goto (tgt := 112) dX12_intersects_98 (by decide) ?_
          refine s_goto (tgt := 10) dX12_intersects_112 (by decide) ?_
          refine s_lv (lv' := [(0, .ref (x0 + 144)), (1, .int (zI a)), (2, .int (zI b)), (3, .int (zI (gal g1 m1 i (g2 j)).1)), (4, .int (zI j))]) ⟨rfl, rfl, rfl, rfl, rfl, trivial⟩ ?_
          refine ih (gal g1 m1 i (g2 j)).1 j A _ I1 (by omega) (by omega) (by omega) (hR1.p hf1) (hR2.p hf1) (hA.p hf1) (by omega) hp1 (fun I' hf hA' h => hq I' (hf1.j.trans hf) hA' (by rw [h]; congr 1; omega))
        · simp only [if_neg e2] at hq
          have hgt := gal_gt c2 (show g2 j < g1 i by omega)
          refine s_iload dX12_intersects_60 rfl ?_
          refine s_iload dX12_intersects_62 rfl ?_
          refine s_icmp_ne (tgt := 82) dX12_intersects_64 (by decide) (fun h64 => ?_) (fun h64 => absurd h64 (fun h => by rw [zI_eq (by omega) (by omega) (by omega) (by omega)] at h; omega))
          refine s_iload dX12_intersects_82 rfl ?_
          refine s_iload dX12_intersects_84 rfl ?_
          refine s_icmp_ge (tgt := 101) dX12_intersects_86 (by decide) (fun h86 => ?_) (fun h86 => absurd ((zI_le (by omega) (by omega) (by omega) (by omega)).mpr (by omega)) h86)
          refine s_aload_n (i := 0) dX12_intersects_101 rfl rfl ?_
          refine s_iload_n (i := 2) dX12_intersects_102 rfl rfl ?_
          refine s_iload dX12_intersects_103 rfl ?_
          refine s_iload dX12_intersects_105 rfl ?_
          refine s_cV_III (My := mX12_gallops) dX12_intersects_107 wM_X12_239 cb_yX12_gallops ci_yX12_gallops (by assumption) (by assumption) (Nat.le_of_ble_eq_true rfl) (by decide) (s_d (by omega) (m_gallops (d := 0) (p := j) hM hb hm2 hV2 v1 hR2 c2 hp (fun I1 hf1 hp1 => ?_)))
          refine s_istore dX12_intersects_110 (by decide) (by simp only [sl, sl2, rm, Value.category, reduceIte, Nat.reduceAdd, Nat.reduceEqDiff, reduceCtorEq]; rfl) ?_
          refine s_goto (tgt := 10) dX12_intersects_112 (by decide) ?_
          refine s_lv (lv' := [(0, .ref (x0 + 144)), (1, .int (zI a)), (2, .int (zI b)), (3, .int (zI i)), (4, .int (zI (gal g2 m2 j (g1 i)).1))]) ⟨rfl, rfl, rfl, rfl, rfl, trivial⟩ ?_
          refine ih i (gal g2 m2 j (g1 i)).1 A _ I1 (by omega) (by omega) (by omega) (hR1.p hf1) (hR2.p hf1) (hA.p hf1) (by omega) hp1 (fun I' hf hA' h => hq I' (hf1.j.trans hf) hA' (by rw [h]; congr 1; omega))
    · simp only [if_neg hc] at hq
      refine done i j A pr I hc hi hj hR1 hR2 (hq I (frJ.refl I) (by rw [List.append_nil]; exact hA) (by rw [hp]; simp))
set_option maxRecDepth 100000 in
set_option maxHeartbeats 1000000 in
theorem m_inter {G : fG} {x0 : Nat} {l : Launch} {d k n : Nat} {T : fT} {I : fI} {J : fJ} {Q : Option Value → fT → fI → fJ → Prop} {a b m1 m2 : Nat} {g1 g2 : Nat → Int} {pr : Int} (hM : MObj T) (ha : a < 24) (hb : b < 24) (hm1 : m1 ≤ 1200) (hm2 : m2 ≤ 1200) (hV1 : Vok g1 m1) (hV2 : Vok g2 m2) (hR1 : MRow I a g1 m1) (hR2 : MRow I b g2 m2) (hp : I 144 28 = zI pr) (hq : ∀ I', frJ I I' → OutM I' (gintL g1 m1 g2 m2 (m1 + m2) 0 0) → I' 144 28 = zI (pr + (gint g1 m1 g2 m2 (m1 + m2) 0 0).2) → Q none T I' J) : PW G x0 l mX12_intersects (d + 2) (ZM G x0 Q) k n 0 [(0, .ref (x0 + 144)), (1, .int (zI a)), (2, .int (zI b))] [] T I J := by
  obtain ⟨o1, o2⟩ := hM.o
  obtain ⟨r158, b158, k158, n158⟩ := hM.a158
  obtain ⟨r157, b157, k157, n157⟩ := hM.a157
  have hf0 : frJ I (iu I 144 27 0) := ⟨fr_iu (by simp), fun j h _ => iu_j h⟩
  refine s_aload_n (i := 0) dX12_intersects_0 rfl rfl ?_
  refine s_iconst (v := 0) dX12_intersects_1 (by decide) ?_
  refine s_putI dX12_intersects_2 fp_X12_233 (by assumption) (by assumption) ?_
  refine s_iconst (v := 0) dX12_intersects_5 (by decide) ?_
  refine s_istore_n (i := 3) dX12_intersects_6 rfl (by decide) (by simp only [sl, sl2, rm, Value.category, reduceIte, Nat.reduceAdd, Nat.reduceEqDiff, reduceCtorEq]; rfl) ?_
  refine s_iconst (v := 0) dX12_intersects_7 (by decide) ?_
  refine s_istore dX12_intersects_8 (by decide) (by simp only [sl, sl2, rm, Value.category, reduceIte, Nat.reduceAdd, Nat.reduceEqDiff, reduceCtorEq]; rfl) ?_
  exact ml_inter hM ha hb hm1 hm2 hV1 hV2 (m1 + m2) 0 0 [] pr _ (by omega) (Nat.zero_le _) (Nat.zero_le _) (hR1.j hf0) (hR2.j hf0) ⟨iu_at, fun q h => absurd h (Nat.not_lt_zero q)⟩ (Nat.le_refl _) (by rw [iu_j (by omega)]; exact hp) (fun I' hf hA h => hq I' (hf0.trans hf) hA h)
set_option maxRecDepth 100000 in
set_option maxHeartbeats 1000000 in
theorem ml_copies {G : fG} {x0 : Nat} {l : Launch} {d k n : Nat} {T : fT} {J : fJ} {Q : Option Value → fT → fI → fJ → Prop} {li r m : Nat} {g : Nat → Int} (hM : MObj T) (hli : li < 6) (hr : r < 24) (hmm : m ≤ 200) : ∀ (t i : Nat) (I : fI), i + t = m → MN (I 145) (402 * li) g m → (∀ q, q < i → I 157 (1200 * r + q) = zI (g q)) → (∀ I', fr I I' [157] → (∀ q, ¬ (1200 * r ≤ q ∧ q < 1200 * r + 1200) → I' 157 q = I 157 q) → (∀ q, q < m → I' 157 (1200 * r + q) = zI (g q)) → Q none T I' J) → PW G x0 l mX12_copies (d + 1) (ZM G x0 Q) k n 13 [(0, .ref (x0 + 144)), (1, .int (zI li)), (2, .int (zI r)), (3, .int (zI i))] [] T I J := by
  obtain ⟨o1, o2⟩ := hM.o
  obtain ⟨r158, b158, k158, n158⟩ := hM.a158
  obtain ⟨r157, b157, k157, n157⟩ := hM.a157
  intro t
  induction t with
  | zero =>
    intro i I ht hm hd hq
    have hi : i = m := by omega
    subst hi
    refine s_iload_n (i := 3) dX12_copies_13 rfl rfl ?_
    refine s_aload_n (i := 0) dX12_copies_14 rfl rfl ?_
    refine s_iload_n (i := 1) dX12_copies_15 rfl rfl ?_
    refine s_cV_I (My := mX12_many) dX12_copies_16 wM_X12_131 cb_yX12_many ci_yX12_many (by assumption) (by assumption) (Nat.le_of_ble_eq_true rfl) (by decide) (s_d (by omega) (m_many (d := 0) hM hli ?_))
    rw [hm.1]
    refine s_icmp_ge (tgt := 46) dX12_copies_19 (by decide) (fun h19 => ?_) (fun h19 => absurd ((zI_le (by omega) (by omega) (by omega) (by omega)).mpr (by omega)) h19)
    refine s_ret dX12_copies_46 rfl ?_
    exact hq I (fr_refl I _) (fun _ _ => rfl) hd
  | succ t ih =>
    intro i I ht hm hd hq
    refine s_iload_n (i := 3) dX12_copies_13 rfl rfl ?_
    refine s_aload_n (i := 0) dX12_copies_14 rfl rfl ?_
    refine s_iload_n (i := 1) dX12_copies_15 rfl rfl ?_
    refine s_cV_I (My := mX12_many) dX12_copies_16 wM_X12_131 cb_yX12_many ci_yX12_many (by assumption) (by assumption) (Nat.le_of_ble_eq_true rfl) (by decide) (s_d (by omega) (m_many (d := 0) hM hli ?_))
    rw [hm.1]
    refine s_icmp_ge (tgt := 46) dX12_copies_19 (by decide) (fun h19 => absurd h19 (fun h => by rw [zI_le (by omega) (by omega) (by omega) (by omega)] at h; omega)) (fun h19 => ?_)
    refine s_aload_n (i := 0) dX12_copies_22 rfl rfl ?_
    refine s_getR dX12_copies_23 fl_X12_53 (by assumption) (by assumption) (by assumption) ?_
    refine s_sipush (v := 1200) dX12_copies_26 (by decide) ?_
    refine s_iload_n (i := 2) dX12_copies_29 rfl rfl ?_
    refine s_imul dX12_copies_30 ?_
    refine s_iload_n (i := 3) dX12_copies_31 rfl rfl ?_
    refine s_iadd dX12_copies_32 ?_
    refine s_aload_n (i := 0) dX12_copies_33 rfl rfl ?_
    refine s_iload_n (i := 1) dX12_copies_34 rfl rfl ?_
    refine s_iload_n (i := 3) dX12_copies_35 rfl rfl ?_
    refine s_cV_II (My := mX12_number) dX12_copies_36 wM_X12_103 cb_yX12_number ci_yX12_number (by assumption) (by assumption) (Nat.le_of_ble_eq_true rfl) (by decide) (s_d (by omega) (m_number (d := 0) hM hli (by omega) ?_))
    rw [hm.2 i (by omega)]
    refine s_istn (j := 1200 * r + i) dX12_copies_39 (by assumption) (by assumption) (by assumption) (by first | with_reducible rfl | ((try simp only [z0, z1, zm1, zm2, zm3, zm4, zl2, zl3, zl4, zl5, zl6, zl7, zl8, zl9, zl10, zl20, zl28, zl31, zl32, zl33, zl48, zl57, zl64, zl100, zl127, zl200, zl201, zl202, zl402, zl1200, zl2412, zl16884, zI_add, zI_sub, zI_mul, zI_inc, zI_dec]) <;> (congr 1 <;> omega))) (by omega) (by decide) ?_
    refine s_iinc dX12_copies_40 rfl (zI_inc _) (by decide) (by simp only [sl, sl2, rm, Value.category, reduceIte, Nat.reduceAdd, Nat.reduceEqDiff, reduceCtorEq]; rfl) ?_
    refine s_goto (tgt := 13) dX12_copies_43 (by decide) ?_
    refine ih (i + 1) _ (by omega) (by rw [iu_ne (by omega)]; exact hm) (fun q h => ?_) (fun I' hf ho hd' => hq I' (fr_trans (fr_iu (by simp)) hf) (fun q h => by rw [ho q h, iu_j (by omega)]) hd')
    by_cases e : q = i
    · subst e; exact iu_at
    · rw [iu_j (by omega)]; exact hd q (by omega)
set_option maxRecDepth 100000 in
set_option maxHeartbeats 1000000 in
theorem m_copies {G : fG} {x0 : Nat} {l : Launch} {d k n : Nat} {T : fT} {I : fI} {J : fJ} {Q : Option Value → fT → fI → fJ → Prop} {li r m : Nat} {g : Nat → Int} (hM : MObj T) (hli : li < 6) (hr : r < 24) (hmm : m ≤ 200) (hm : MN (I 145) (402 * li) g m) (hq : ∀ I', fr I I' [157, 158] → (∀ q, q ≠ r → I' 158 q = I 158 q) → (∀ q, ¬ (1200 * r ≤ q ∧ q < 1200 * r + 1200) → I' 157 q = I 157 q) → MRow I' r g m → Q none T I' J) : PW G x0 l mX12_copies (d + 1) (ZM G x0 Q) k n 0 [(0, .ref (x0 + 144)), (1, .int (zI li)), (2, .int (zI r))] [] T I J := by
  obtain ⟨o1, o2⟩ := hM.o
  obtain ⟨r158, b158, k158, n158⟩ := hM.a158
  obtain ⟨r157, b157, k157, n157⟩ := hM.a157
  refine s_aload_n (i := 0) dX12_copies_0 rfl rfl ?_
  refine s_getR dX12_copies_1 fl_X12_56 (by assumption) (by assumption) (by assumption) ?_
  refine s_iload_n (i := 2) dX12_copies_4 rfl rfl ?_
  refine s_aload_n (i := 0) dX12_copies_5 rfl rfl ?_
  refine s_iload_n (i := 1) dX12_copies_6 rfl rfl ?_
  refine s_cV_I (My := mX12_many) dX12_copies_7 wM_X12_131 cb_yX12_many ci_yX12_many (by assumption) (by assumption) (Nat.le_of_ble_eq_true rfl) (by decide) (s_d (by omega) (m_many (d := 0) hM hli ?_))
  rw [hm.1]
  refine s_istn (j := r) dX12_copies_10 (by assumption) (by assumption) (by assumption) (by first | with_reducible rfl | ((try simp only [z0, z1, zm1, zm2, zm3, zm4, zl2, zl3, zl4, zl5, zl6, zl7, zl8, zl9, zl10, zl20, zl28, zl31, zl32, zl33, zl48, zl57, zl64, zl100, zl127, zl200, zl201, zl202, zl402, zl1200, zl2412, zl16884, zI_add, zI_sub, zI_mul, zI_inc, zI_dec]) <;> (congr 1 <;> omega))) (by omega) (by decide) ?_
  refine s_iconst (v := 0) dX12_copies_11 (by decide) ?_
  refine s_istore_n (i := 3) dX12_copies_12 rfl (by decide) (by simp only [sl, sl2, rm, Value.category, reduceIte, Nat.reduceAdd, Nat.reduceEqDiff, reduceCtorEq]; rfl) ?_
  exact ml_copies hM hli hr hmm m 0 _ (by omega) (by rw [iu_ne (by omega)]; exact hm) (fun q h => absurd h (Nat.not_lt_zero q)) (fun I' hf ho hd => hq I' (fun b hb => by simp at hb; rw [hf b (by simp; omega), iu_ne (by omega)]) (fun q h => by rw [hf 158 (by decide), iu_j h]) (fun q h => by rw [ho q h, iu_ne (by omega)]) ⟨by rw [hf 158 (by decide), iu_at], hd⟩)
set_option maxRecDepth 100000 in
set_option maxHeartbeats 1000000 in
theorem m_common {G : fG} {x0 : Nat} {l : Launch} {d k n : Nat} {T : fT} {I : fI} {J : fJ} {Q : Option Value → fT → fI → fJ → Prop} {x y z : Int32} {S : ASt} (hS : MIs T I S) (hk : SOk S) (hq : ∀ I', frS I I' → Q (some (.int (zI (fCommon S x.toInt y.toInt z.toInt)))) T I' J) : PW G x0 l mX12_common (d + 3) (ZM G x0 Q) k n 0 [(0, .ref (x0 + 144)), (1, .int x), (2, .int y), (3, .int z)] [] T I J := by
  have hM := hS.1
  unfold fCommon at hq
  obtain ⟨o1, o2⟩ := hM.o
  have t0 : ((0 : Int32)).toInt = 0 := by decide
  have t1 : ((1 : Int32)).toInt = 1 := by decide
  refine s_iload_n (i := 1) dX12_common_0 rfl rfl ?_
  refine s_cS_I (My := mX12_isList) dX12_common_1 wM_X12_73 cb_yX12_isList wT_yX12_isList (Nat.le_of_ble_eq_true rfl) (by decide) (s_d (by omega) (m_isList (d := 0) ?_ ?_))
  · intro hx
    refine s_if_eq (tgt := 23) dX12_common_4 (by decide) (fun h4 => absurd h4 (by decide)) (fun h4 => ?_)
    refine s_iload_n (i := 2) dX12_common_7 rfl rfl ?_
    refine s_cS_I (My := mX12_isList) dX12_common_8 wM_X12_73 cb_yX12_isList wT_yX12_isList (Nat.le_of_ble_eq_true rfl) (by decide) (s_d (by omega) (m_isList (d := 0) ?_ ?_))
    · intro hy
      refine s_if_eq (tgt := 23) dX12_common_11 (by decide) (fun h11 => absurd h11 (by decide)) (fun h11 => ?_)
      refine s_iload_n (i := 3) dX12_common_14 rfl rfl ?_
      refine s_iconst (v := 0) dX12_common_15 (by decide) ?_
      refine s_iconst (v := 1) dX12_common_16 (by decide) ?_
      refine s_cS_III (My := mX12_in) dX12_common_17 wM_X12_68 cb_yX12_in wT_yX12_in (Nat.le_of_ble_eq_true rfl) (by decide) (s_d (by omega) (m_in (d := 0) ?_ ?_))
      · intro hz
        rw [t0, t1] at hz
        rw [if_pos (show isL x.toInt ∧ isL y.toInt ∧ 0 ≤ z.toInt ∧ z.toInt ≤ 1 from ⟨hx, hy, hz⟩)] at hq
        obtain ⟨la, hla, rfl⟩ := lidx hx
        obtain ⟨lb, hlb, rfl⟩ := lidx hy
        rw [zI_t (by omega) (by omega), zI_t (by omega) (by omega), Int.toNat_natCast, Int.toNat_natCast] at hq
        have hLa := hk.1 la hla
        have hLb := hk.1 lb hlb
        unfold gpair at hq
        refine s_if_ne (tgt := 26) dX12_common_20 (by decide) (fun h20 => ?_) (fun h20 => absurd h20 (by decide))
        refine s_aload_n (i := 0) dX12_common_26 rfl rfl ?_
        refine s_iload_n (i := 1) dX12_common_27 rfl rfl ?_
        refine s_iconst (v := 0) dX12_common_28 (by decide) ?_
        refine s_cV_II (My := mX12_copies) dX12_common_29 wM_X12_267 cb_yX12_copies ci_yX12_copies (by assumption) (by assumption) (Nat.le_of_ble_eq_true rfl) (by decide) (s_d (by omega) (m_copies (d := 0) (r := 0) hM hla (by omega) hLa.1 (hS.L hla).n (fun I1 hf1 ho1 hp1 hR1 => ?_)))
        refine s_aload_n (i := 0) dX12_common_32 rfl rfl ?_
        refine s_iload_n (i := 2) dX12_common_33 rfl rfl ?_
        refine s_iconst (v := 1) dX12_common_34 (by decide) ?_
        refine s_cV_II (My := mX12_copies) dX12_common_35 wM_X12_267 cb_yX12_copies ci_yX12_copies (by assumption) (by assumption) (Nat.le_of_ble_eq_true rfl) (by decide) (s_d (by omega) (m_copies (d := 0) (r := 1) hM hlb (by omega) hLb.1 (by rw [hf1 145 (by decide)]; exact (hS.L hlb).n) (fun I2 hf2 ho2 hp2 hR2 => ?_)))
        refine s_aload_n (i := 0) dX12_common_38 rfl rfl ?_
        refine s_iconst (v := 0) dX12_common_39 (by decide) ?_
        refine s_putI dX12_common_40 fp_X12_227 (by assumption) (by assumption) ?_
        refine s_aload_n (i := 0) dX12_common_43 rfl rfl ?_
        refine s_iconst (v := 0) dX12_common_44 (by decide) ?_
        refine s_iconst (v := 1) dX12_common_45 (by decide) ?_
        refine s_cV_II (My := mX12_intersects) dX12_common_46 wM_X12_273 cb_yX12_intersects ci_yX12_intersects (by assumption) (by assumption) (Nat.le_of_ble_eq_true rfl) (by decide) (s_d (by omega) (m_inter (d := 0) (a := 0) (b := 1) (pr := 0) hM (by omega) (by omega) (by have := hLa.1; omega) (by have := hLb.1; omega) hLa.2.2.1 hLb.2.2.1 ⟨by rw [iu_ne (by omega), ho2 0 (by omega)]; exact hR1.1, fun q h => by rw [iu_ne (by omega), hp2 _ (by have := hLa.1; omega)]; exact hR1.2 q h⟩ ⟨by rw [iu_ne (by omega)]; exact hR2.1, fun q h => by rw [iu_ne (by omega)]; exact hR2.2 q h⟩ iu_at (fun I3 hf3 hA3 hp3 => ?_)))
        have hfs : frS I I3 := ⟨fun b hb => by rw [hf3.1 b (by simp; omega), iu_ne (by omega), hf2 b (by simp; omega), hf1 b (by simp; omega)], fun j hj => by rw [hf3.2 j (by omega) (by omega), iu_j (by omega), hf2 144 (by decide), hf1 144 (by decide)]⟩
        by_cases e : z.toInt = 0
        · rw [if_pos e] at hq
          have hz0 : z = 0 := by rw [t_zI e]; rfl
          subst hz0
          refine s_iload_n (i := 3) dX12_common_49 rfl rfl ?_
          refine s_if_ne (tgt := 60) dX12_common_50 (by decide) (fun h50 => absurd h50 (fun h => h rfl)) (fun h50 => ?_)
          refine s_aload_n (i := 0) dX12_common_53 rfl rfl ?_
          refine s_getI dX12_common_54 fl_X12_233 (by assumption) (by assumption) ?_
          refine s_goto (tgt := 64) dX12_common_57 (by decide) ?_
          refine s_iret dX12_common_64 rfl ?_
          rw [hA3.1, gintL_len]
          exact hq I3 hfs
        · rw [if_neg e] at hq
          refine s_iload_n (i := 3) dX12_common_49 rfl rfl ?_
          refine s_if_ne (tgt := 60) dX12_common_50 (by decide) (fun h50 => ?_) (fun h50 => absurd h50 (fun h => e (by rw [h]; rfl)))
          refine s_aload_n (i := 0) dX12_common_60 rfl rfl ?_
          refine s_getI dX12_common_61 fl_X12_227 (by assumption) (by assumption) ?_
          refine s_iret dX12_common_64 rfl ?_
          rw [hp3, Int.zero_add]
          exact hq I3 hfs
      · intro hz
        rw [t0, t1] at hz
        rw [if_neg (fun h => hz h.2.2)] at hq
        refine s_if_ne (tgt := 26) dX12_common_20 (by decide) (fun h20 => absurd h20 (fun h => h rfl)) (fun h20 => ?_)
        refine s_bipush (v := -2) dX12_common_23 (by decide) ?_
        refine s_iret dX12_common_25 rfl ?_
        rw [zm2]
        exact hq I (frS.refl I)
    · intro hy
      rw [if_neg (fun h => hy h.2.1)] at hq
      refine s_if_eq (tgt := 23) dX12_common_11 (by decide) (fun h11 => ?_) (fun h11 => absurd (rfl) h11)
      refine s_bipush (v := -2) dX12_common_23 (by decide) ?_
      refine s_iret dX12_common_25 rfl ?_
      rw [zm2]
      exact hq I (frS.refl I)
  · intro hx
    rw [if_neg (fun h => hx h.1)] at hq
    refine s_if_eq (tgt := 23) dX12_common_4 (by decide) (fun h4 => ?_) (fun h4 => absurd (rfl) h4)
    refine s_bipush (v := -2) dX12_common_23 (by decide) ?_
    refine s_iret dX12_common_25 rfl ?_
    rw [zm2]
    exact hq I (frS.refl I)
