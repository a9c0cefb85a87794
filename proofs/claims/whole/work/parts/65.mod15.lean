theorem zl124 : (124 : Int32) = zI 124 := rfl
theorem zl38 : (38 : Int32) = zI 38 := rfl
set_option maxRecDepth 100000 in
set_option maxHeartbeats 1000000 in
theorem ml_mrg10 {G : fG} {x0 : Nat} {l : Launch} {d k n : Nat} {T : fT} {I : fI} {J : fJ} {Q : Option Value → fT → fI → fJ → Prop} {a b i j : Nat} {s v : Int} {A : List Int} (hM : MObj T) (hs : 0 ≤ s ∧ s ≤ 127) (hi : i ≤ 1200) (hj : j ≤ 1200) (hA : OutM I A) (hl : True → A.length < 1200) (ky : True → ∀ I', frJ I I' → I' 144 28 = I 144 28 → OutM I' (A ++ [v]) → PW G x0 l mX12_merges (d + 1) (ZM G x0 Q) k n 11 [(0, .ref (x0 + 144)), (1, .int (zI a)), (2, .int (zI b)), (3, .int (zI s)), (4, .int (zI ((i + 1 : Nat) : Int))), (5, .int (zI j))] [] T I' J) : PW G x0 l mX12_merges (d + 1) (ZM G x0 Q) k n 185 [(0, .ref (x0 + 144)), (1, .int (zI a)), (2, .int (zI b)), (3, .int (zI s)), (4, .int (zI i)), (5, .int (zI j)), (6, .int 1), (7, .int 0), (8, .int (zI v))] [] T I J := by
  obtain ⟨o1, o2⟩ := hM.o
  obtain ⟨r158, b158, k158, n158⟩ := hM.a158
  obtain ⟨r157, b157, k157, n157⟩ := hM.a157
  by_cases e1 : s = 124
  · refine s_iload_n (i := 3) dX12_merges_185 rfl rfl ?_
    refine s_bipush (v := 124) dX12_merges_186 (by decide) ?_
    refine s_icmp_eq (tgt := 217) dX12_merges_188 (by decide) (fun h188 => ?_) (fun h188 => absurd (by rw [e1]; rfl) h188)
    refine s_iconst (v := 1) dX12_merges_217 (by decide) ?_
    refine s_goto (tgt := 222) dX12_merges_218 (by decide) ?_
    refine s_istore dX12_merges_222 (by decide) (by simp only [sl, sl2, rm, Value.category, reduceIte, Nat.reduceAdd, Nat.reduceEqDiff, reduceCtorEq]; rfl) ?_
    refine s_iload dX12_merges_224 rfl ?_
    refine s_if_eq (tgt := 235) dX12_merges_226 (by decide) (fun h226 => absurd h226 (by decide)) (fun h226 => ?_)
    refine s_aload_n (i := 0) dX12_merges_229 rfl rfl ?_
    refine s_iload dX12_merges_230 rfl ?_
    refine s_cV_I (My := mX12_puts) dX12_merges_232 wM_X12_236 cb_yX12_puts ci_yX12_puts (by assumption) (by assumption) (Nat.le_of_ble_eq_true rfl) (by decide) (s_d (by omega) (m_puts (d := 0) hM hA (hl trivial) (fun I1 hf1 hp1 hA1 => ?_)))
    refine s_iload dX12_merges_235 rfl ?_
    refine s_iload dX12_merges_237 rfl ?_
    refine s_if_eq (tgt := 246) dX12_merges_239 (by decide) (fun h239 => absurd h239 (by decide)) (fun h239 => ?_)
    refine s_iconst (v := 1) dX12_merges_242 (by decide) ?_
    refine s_goto (tgt := 247) dX12_merges_243 (by decide) ?_
    refine s_iadd dX12_merges_247 ?_
    refine s_topi (y := zI ((i + 1 : Nat) : Int)) (by first | with_reducible rfl | ((try simp only [z0, z1, zm1, zm2, zm3, zm4, zl2, zl3, zl4, zl5, zl6, zl7, zl8, zl9, zl10, zl20, zl28, zl31, zl32, zl33, zl48, zl57, zl64, zl100, zl127, zl200, zl201, zl202, zl402, zl1200, zl2412, zl16884, zI_add, zI_sub, zI_mul, zI_inc, zI_dec]) <;> (congr 1 <;> omega))) ?_
    refine s_istore dX12_merges_248 (by decide) (by simp only [sl, sl2, rm, Value.category, reduceIte, Nat.reduceAdd, Nat.reduceEqDiff, reduceCtorEq]; rfl) ?_
    refine s_iload dX12_merges_250 rfl ?_
    refine s_iload dX12_merges_252 rfl ?_
    refine s_if_eq (tgt := 261) dX12_merges_254 (by decide) (fun h254 => ?_) (fun h254 => absurd (rfl) h254)
    refine s_iconst (v := 0) dX12_merges_261 (by decide) ?_
    refine s_iadd dX12_merges_262 ?_
    refine s_topi (y := zI (j : Int)) (by first | with_reducible rfl | ((try simp only [z0, z1, zm1, zm2, zm3, zm4, zl2, zl3, zl4, zl5, zl6, zl7, zl8, zl9, zl10, zl20, zl28, zl31, zl32, zl33, zl48, zl57, zl64, zl100, zl127, zl200, zl201, zl202, zl402, zl1200, zl2412, zl16884, zI_add, zI_sub, zI_mul, zI_inc, zI_dec]) <;> (congr 1 <;> omega))) ?_
    refine s_istore dX12_merges_263 (by decide) (by simp only [sl, sl2, rm, Value.category, reduceIte, Nat.reduceAdd, Nat.reduceEqDiff, reduceCtorEq]; rfl) ?_
    refine s_goto (tgt := 11) dX12_merges_265 (by decide) ?_
    refine s_lv (lv' := [(0, .ref (x0 + 144)), (1, .int (zI a)), (2, .int (zI b)), (3, .int (zI s)), (4, .int (zI ((i + 1 : Nat) : Int))), (5, .int (zI j))]) ⟨rfl, rfl, rfl, rfl, rfl, rfl, trivial⟩ ?_
    exact ky trivial I1 hf1 hp1 hA1
  · by_cases e2 : s = 45
    · refine s_iload_n (i := 3) dX12_merges_185 rfl rfl ?_
      refine s_bipush (v := 124) dX12_merges_186 (by decide) ?_
      refine s_icmp_eq (tgt := 217) dX12_merges_188 (by decide) (fun h188 => absurd h188 (fun h => e1 (by rw [zl124, zI_eq (by omega) (by omega) (by omega) (by omega)] at h; exact h))) (fun h188 => ?_)
      refine s_iload_n (i := 3) dX12_merges_191 rfl rfl ?_
      refine s_bipush (v := 45) dX12_merges_192 (by decide) ?_
      refine s_icmp_ne (tgt := 210) dX12_merges_194 (by decide) (fun h194 => absurd h194 (fun h => h (by rw [e2]; rfl))) (fun h194 => ?_)
      refine s_iload dX12_merges_197 rfl ?_
      refine s_if_eq (tgt := 221) dX12_merges_199 (by decide) (fun h199 => absurd h199 (by decide)) (fun h199 => ?_)
      refine s_iload dX12_merges_202 rfl ?_
      refine s_if_ne (tgt := 221) dX12_merges_204 (by decide) (fun h204 => absurd h204 (fun h => h rfl)) (fun h204 => ?_)
      refine s_goto (tgt := 217) dX12_merges_207 (by decide) ?_
      refine s_iconst (v := 1) dX12_merges_217 (by decide) ?_
      refine s_goto (tgt := 222) dX12_merges_218 (by decide) ?_
      refine s_istore dX12_merges_222 (by decide) (by simp only [sl, sl2, rm, Value.category, reduceIte, Nat.reduceAdd, Nat.reduceEqDiff, reduceCtorEq]; rfl) ?_
      refine s_iload dX12_merges_224 rfl ?_
      refine s_if_eq (tgt := 235) dX12_merges_226 (by decide) (fun h226 => absurd h226 (by decide)) (fun h226 => ?_)
      refine s_aload_n (i := 0) dX12_merges_229 rfl rfl ?_
      refine s_iload dX12_merges_230 rfl ?_
      refine s_cV_I (My := mX12_puts) dX12_merges_232 wM_X12_236 cb_yX12_puts ci_yX12_puts (by assumption) (by assumption) (Nat.le_of_ble_eq_true rfl) (by decide) (s_d (by omega) (m_puts (d := 0) hM hA (hl trivial) (fun I1 hf1 hp1 hA1 => ?_)))
      refine s_iload dX12_merges_235 rfl ?_
      refine s_iload dX12_merges_237 rfl ?_
      refine s_if_eq (tgt := 246) dX12_merges_239 (by decide) (fun h239 => absurd h239 (by decide)) (fun h239 => ?_)
      refine s_iconst (v := 1) dX12_merges_242 (by decide) ?_
      refine s_goto (tgt := 247) dX12_merges_243 (by decide) ?_
      refine s_iadd dX12_merges_247 ?_
      refine s_topi (y := zI ((i + 1 : Nat) : Int)) (by first | with_reducible rfl | ((try simp only [z0, z1, zm1, zm2, zm3, zm4, zl2, zl3, zl4, zl5, zl6, zl7, zl8, zl9, zl10, zl20, zl28, zl31, zl32, zl33, zl48, zl57, zl64, zl100, zl127, zl200, zl201, zl202, zl402, zl1200, zl2412, zl16884, zI_add, zI_sub, zI_mul, zI_inc, zI_dec]) <;> (congr 1 <;> omega))) ?_
      refine s_istore dX12_merges_248 (by decide) (by simp only [sl, sl2, rm, Value.category, reduceIte, Nat.reduceAdd, Nat.reduceEqDiff, reduceCtorEq]; rfl) ?_
      refine s_iload dX12_merges_250 rfl ?_
      refine s_iload dX12_merges_252 rfl ?_
      refine s_if_eq (tgt := 261) dX12_merges_254 (by decide) (fun h254 => ?_) (fun h254 => absurd (rfl) h254)
      refine s_iconst (v := 0) dX12_merges_261 (by decide) ?_
      refine s_iadd dX12_merges_262 ?_
      refine s_topi (y := zI (j : Int)) (by first | with_reducible rfl | ((try simp only [z0, z1, zm1, zm2, zm3, zm4, zl2, zl3, zl4, zl5, zl6, zl7, zl8, zl9, zl10, zl20, zl28, zl31, zl32, zl33, zl48, zl57, zl64, zl100, zl127, zl200, zl201, zl202, zl402, zl1200, zl2412, zl16884, zI_add, zI_sub, zI_mul, zI_inc, zI_dec]) <;> (congr 1 <;> omega))) ?_
      refine s_istore dX12_merges_263 (by decide) (by simp only [sl, sl2, rm, Value.category, reduceIte, Nat.reduceAdd, Nat.reduceEqDiff, reduceCtorEq]; rfl) ?_
      refine s_goto (tgt := 11) dX12_merges_265 (by decide) ?_
      refine s_lv (lv' := [(0, .ref (x0 + 144)), (1, .int (zI a)), (2, .int (zI b)), (3, .int (zI s)), (4, .int (zI ((i + 1 : Nat) : Int))), (5, .int (zI j))]) ⟨rfl, rfl, rfl, rfl, rfl, rfl, trivial⟩ ?_
      exact ky trivial I1 hf1 hp1 hA1
    · refine s_iload_n (i := 3) dX12_merges_185 rfl rfl ?_
      refine s_bipush (v := 124) dX12_merges_186 (by decide) ?_
      refine s_icmp_eq (tgt := 217) dX12_merges_188 (by decide) (fun h188 => absurd h188 (fun h => e1 (by rw [zl124, zI_eq (by omega) (by omega) (by omega) (by omega)] at h; exact h))) (fun h188 => ?_)
      refine s_iload_n (i := 3) dX12_merges_191 rfl rfl ?_
      refine s_bipush (v := 45) dX12_merges_192 (by decide) ?_
      refine s_icmp_ne (tgt := 210) dX12_merges_194 (by decide) (fun h194 => ?_) (fun h194 => absurd h194 (fun h => e2 (by rw [zl45, zI_eq (by omega) (by omega) (by omega) (by omega)] at h; exact h)))
      refine s_iload dX12_merges_210 rfl ?_
      refine s_iload dX12_merges_212 rfl ?_
      refine s_icmp_eq (tgt := 221) dX12_merges_214 (by decide) (fun h214 => absurd h214 (by decide)) (fun h214 => ?_)
      refine s_iconst (v := 1) dX12_merges_217 (by decide) ?_
      refine s_goto (tgt := 222) dX12_merges_218 (by decide) ?_
      refine s_istore dX12_merges_222 (by decide) (by simp only [sl, sl2, rm, Value.category, reduceIte, Nat.reduceAdd, Nat.reduceEqDiff, reduceCtorEq]; rfl) ?_
      refine s_iload dX12_merges_224 rfl ?_
      refine s_if_eq (tgt := 235) dX12_merges_226 (by decide) (fun h226 => absurd h226 (by decide)) (fun h226 => ?_)
      refine s_aload_n (i := 0) dX12_merges_229 rfl rfl ?_
      refine s_iload dX12_merges_230 rfl ?_
      refine s_cV_I (My := mX12_puts) dX12_merges_232 wM_X12_236 cb_yX12_puts ci_yX12_puts (by assumption) (by assumption) (Nat.le_of_ble_eq_true rfl) (by decide) (s_d (by omega) (m_puts (d := 0) hM hA (hl trivial) (fun I1 hf1 hp1 hA1 => ?_)))
      refine s_iload dX12_merges_235 rfl ?_
      refine s_iload dX12_merges_237 rfl ?_
      refine s_if_eq (tgt := 246) dX12_merges_239 (by decide) (fun h239 => absurd h239 (by decide)) (fun h239 => ?_)
      refine s_iconst (v := 1) dX12_merges_242 (by decide) ?_
      refine s_goto (tgt := 247) dX12_merges_243 (by decide) ?_
      refine s_iadd dX12_merges_247 ?_
      refine s_topi (y := zI ((i + 1 : Nat) : Int)) (by first | with_reducible rfl | ((try simp only [z0, z1, zm1, zm2, zm3, zm4, zl2, zl3, zl4, zl5, zl6, zl7, zl8, zl9, zl10, zl20, zl28, zl31, zl32, zl33, zl48, zl57, zl64, zl100, zl127, zl200, zl201, zl202, zl402, zl1200, zl2412, zl16884, zI_add, zI_sub, zI_mul, zI_inc, zI_dec]) <;> (congr 1 <;> omega))) ?_
      refine s_istore dX12_merges_248 (by decide) (by simp only [sl, sl2, rm, Value.category, reduceIte, Nat.reduceAdd, Nat.reduceEqDiff, reduceCtorEq]; rfl) ?_
      refine s_iload dX12_merges_250 rfl ?_
      refine s_iload dX12_merges_252 rfl ?_
      refine s_if_eq (tgt := 261) dX12_merges_254 (by decide) (fun h254 => ?_) (fun h254 => absurd (rfl) h254)
      refine s_iconst (v := 0) dX12_merges_261 (by decide) ?_
      refine s_iadd dX12_merges_262 ?_
      refine s_topi (y := zI (j : Int)) (by first | with_reducible rfl | ((try simp only [z0, z1, zm1, zm2, zm3, zm4, zl2, zl3, zl4, zl5, zl6, zl7, zl8, zl9, zl10, zl20, zl28, zl31, zl32, zl33, zl48, zl57, zl64, zl100, zl127, zl200, zl201, zl202, zl402, zl1200, zl2412, zl16884, zI_add, zI_sub, zI_mul, zI_inc, zI_dec]) <;> (congr 1 <;> omega))) ?_
      refine s_istore dX12_merges_263 (by decide) (by simp only [sl, sl2, rm, Value.category, reduceIte, Nat.reduceAdd, Nat.reduceEqDiff, reduceCtorEq]; rfl) ?_
      refine s_goto (tgt := 11) dX12_merges_265 (by decide) ?_
      refine s_lv (lv' := [(0, .ref (x0 + 144)), (1, .int (zI a)), (2, .int (zI b)), (3, .int (zI s)), (4, .int (zI ((i + 1 : Nat) : Int))), (5, .int (zI j))]) ⟨rfl, rfl, rfl, rfl, rfl, rfl, trivial⟩ ?_
      exact ky trivial I1 hf1 hp1 hA1
set_option maxRecDepth 100000 in
set_option maxHeartbeats 1000000 in
theorem ml_mrg01 {G : fG} {x0 : Nat} {l : Launch} {d k n : Nat} {T : fT} {I : fI} {J : fJ} {Q : Option Value → fT → fI → fJ → Prop} {a b i j : Nat} {s v : Int} {A : List Int} (hM : MObj T) (hs : 0 ≤ s ∧ s ≤ 127) (hi : i ≤ 1200) (hj : j ≤ 1200) (hA : OutM I A) (hl : s ≠ 45 → A.length < 1200) (ky : s ≠ 45 → ∀ I', frJ I I' → I' 144 28 = I 144 28 → OutM I' (A ++ [v]) → PW G x0 l mX12_merges (d + 1) (ZM G x0 Q) k n 11 [(0, .ref (x0 + 144)), (1, .int (zI a)), (2, .int (zI b)), (3, .int (zI s)), (4, .int (zI i)), (5, .int (zI ((j + 1 : Nat) : Int)))] [] T I' J) (kn : ¬ (s ≠ 45) → PW G x0 l mX12_merges (d + 1) (ZM G x0 Q) k n 11 [(0, .ref (x0 + 144)), (1, .int (zI a)), (2, .int (zI b)), (3, .int (zI s)), (4, .int (zI i)), (5, .int (zI ((j + 1 : Nat) : Int)))] [] T I J) : PW G x0 l mX12_merges (d + 1) (ZM G x0 Q) k n 185 [(0, .ref (x0 + 144)), (1, .int (zI a)), (2, .int (zI b)), (3, .int (zI s)), (4, .int (zI i)), (5, .int (zI j)), (6, .int 0), (7, .int 1), (8, .int (zI v))] [] T I J := by
  obtain ⟨o1, o2⟩ := hM.o
  obtain ⟨r158, b158, k158, n158⟩ := hM.a158
  obtain ⟨r157, b157, k157, n157⟩ := hM.a157
  by_cases e1 : s = 124
  · refine s_iload_n (i := 3) dX12_merges_185 rfl rfl ?_
    refine s_bipush (v := 124) dX12_merges_186 (by decide) ?_
    refine s_icmp_eq (tgt := 217) dX12_merges_188 (by decide) (fun h188 => ?_) (fun h188 => absurd (by rw [e1]; rfl) h188)
    refine s_iconst (v := 1) dX12_merges_217 (by decide) ?_
    refine s_goto (tgt := 222) dX12_merges_218 (by decide) ?_
    refine s_istore dX12_merges_222 (by decide) (by simp only [sl, sl2, rm, Value.category, reduceIte, Nat.reduceAdd, Nat.reduceEqDiff, reduceCtorEq]; rfl) ?_
    refine s_iload dX12_merges_224 rfl ?_
    refine s_if_eq (tgt := 235) dX12_merges_226 (by decide) (fun h226 => absurd h226 (by decide)) (fun h226 => ?_)
    refine s_aload_n (i := 0) dX12_merges_229 rfl rfl ?_
    refine s_iload dX12_merges_230 rfl ?_
    refine s_cV_I (My := mX12_puts) dX12_merges_232 wM_X12_236 cb_yX12_puts ci_yX12_puts (by assumption) (by assumption) (Nat.le_of_ble_eq_true rfl) (by decide) (s_d (by omega) (m_puts (d := 0) hM hA (hl (by omega)) (fun I1 hf1 hp1 hA1 => ?_)))
    refine s_iload dX12_merges_235 rfl ?_
    refine s_iload dX12_merges_237 rfl ?_
    refine s_if_eq (tgt := 246) dX12_merges_239 (by decide) (fun h239 => ?_) (fun h239 => absurd (rfl) h239)
    refine s_iconst (v := 0) dX12_merges_246 (by decide) ?_
    refine s_iadd dX12_merges_247 ?_
    refine s_topi (y := zI (i : Int)) (by first | with_reducible rfl | ((try simp only [z0, z1, zm1, zm2, zm3, zm4, zl2, zl3, zl4, zl5, zl6, zl7, zl8, zl9, zl10, zl20, zl28, zl31, zl32, zl33, zl48, zl57, zl64, zl100, zl127, zl200, zl201, zl202, zl402, zl1200, zl2412, zl16884, zI_add, zI_sub, zI_mul, zI_inc, zI_dec]) <;> (congr 1 <;> omega))) ?_
    refine s_istore dX12_merges_248 (by decide) (by simp only [sl, sl2, rm, Value.category, reduceIte, Nat.reduceAdd, Nat.reduceEqDiff, reduceCtorEq]; rfl) ?_
    refine s_iload dX12_merges_250 rfl ?_
    refine s_iload dX12_merges_252 rfl ?_
    refine s_if_eq (tgt := 261) dX12_merges_254 (by decide) (fun h254 => absurd h254 (by decide)) (fun h254 => ?_)
    refine s_iconst (v := 1) dX12_merges_257 (by decide) ?_
    refine s_goto (tgt := 262) dX12_merges_258 (by decide) ?_
    refine s_iadd dX12_merges_262 ?_
    refine s_topi (y := zI ((j + 1 : Nat) : Int)) (by first | with_reducible rfl | ((try simp only [z0, z1, zm1, zm2, zm3, zm4, zl2, zl3, zl4, zl5, zl6, zl7, zl8, zl9, zl10, zl20, zl28, zl31, zl32, zl33, zl48, zl57, zl64, zl100, zl127, zl200, zl201, zl202, zl402, zl1200, zl2412, zl16884, zI_add, zI_sub, zI_mul, zI_inc, zI_dec]) <;> (congr 1 <;> omega))) ?_
    refine s_istore dX12_merges_263 (by decide) (by simp only [sl, sl2, rm, Value.category, reduceIte, Nat.reduceAdd, Nat.reduceEqDiff, reduceCtorEq]; rfl) ?_
    refine s_goto (tgt := 11) dX12_merges_265 (by decide) ?_
    refine s_lv (lv' := [(0, .ref (x0 + 144)), (1, .int (zI a)), (2, .int (zI b)), (3, .int (zI s)), (4, .int (zI i)), (5, .int (zI ((j + 1 : Nat) : Int)))]) ⟨rfl, rfl, rfl, rfl, rfl, rfl, trivial⟩ ?_
    exact ky (by omega) I1 hf1 hp1 hA1
  · by_cases e2 : s = 45
    · refine s_iload_n (i := 3) dX12_merges_185 rfl rfl ?_
      refine s_bipush (v := 124) dX12_merges_186 (by decide) ?_
      refine s_icmp_eq (tgt := 217) dX12_merges_188 (by decide) (fun h188 => absurd h188 (fun h => e1 (by rw [zl124, zI_eq (by omega) (by omega) (by omega) (by omega)] at h; exact h))) (fun h188 => ?_)
      refine s_iload_n (i := 3) dX12_merges_191 rfl rfl ?_
      refine s_bipush (v := 45) dX12_merges_192 (by decide) ?_
      refine s_icmp_ne (tgt := 210) dX12_merges_194 (by decide) (fun h194 => absurd h194 (fun h => h (by rw [e2]; rfl))) (fun h194 => ?_)
      refine s_iload dX12_merges_197 rfl ?_
      refine s_if_eq (tgt := 221) dX12_merges_199 (by decide) (fun h199 => ?_) (fun h199 => absurd (rfl) h199)
      refine s_iconst (v := 0) dX12_merges_221 (by decide) ?_
      refine s_istore dX12_merges_222 (by decide) (by simp only [sl, sl2, rm, Value.category, reduceIte, Nat.reduceAdd, Nat.reduceEqDiff, reduceCtorEq]; rfl) ?_
      refine s_iload dX12_merges_224 rfl ?_
      refine s_if_eq (tgt := 235) dX12_merges_226 (by decide) (fun h226 => ?_) (fun h226 => absurd (rfl) h226)
      refine s_iload dX12_merges_235 rfl ?_
      refine s_iload dX12_merges_237 rfl ?_
      refine s_if_eq (tgt := 246) dX12_merges_239 (by decide) (fun h239 => ?_) (fun h239 => absurd (rfl) h239)
      refine s_iconst (v := 0) dX12_merges_246 (by decide) ?_
      refine s_iadd dX12_merges_247 ?_
      refine s_topi (y := zI (i : Int)) (by first | with_reducible rfl | ((try simp only [z0, z1, zm1, zm2, zm3, zm4, zl2, zl3, zl4, zl5, zl6, zl7, zl8, zl9, zl10, zl20, zl28, zl31, zl32, zl33, zl48, zl57, zl64, zl100, zl127, zl200, zl201, zl202, zl402, zl1200, zl2412, zl16884, zI_add, zI_sub, zI_mul, zI_inc, zI_dec]) <;> (congr 1 <;> omega))) ?_
      refine s_istore dX12_merges_248 (by decide) (by simp only [sl, sl2, rm, Value.category, reduceIte, Nat.reduceAdd, Nat.reduceEqDiff, reduceCtorEq]; rfl) ?_
      refine s_iload dX12_merges_250 rfl ?_
      refine s_iload dX12_merges_252 rfl ?_
      refine s_if_eq (tgt := 261) dX12_merges_254 (by decide) (fun h254 => absurd h254 (by decide)) (fun h254 => ?_)
      refine s_iconst (v := 1) dX12_merges_257 (by decide) ?_
      refine s_goto (tgt := 262) dX12_merges_258 (by decide) ?_
      refine s_iadd dX12_merges_262 ?_
      refine s_topi (y := zI ((j + 1 : Nat) : Int)) (by first | with_reducible rfl | ((try simp only [z0, z1, zm1, zm2, zm3, zm4, zl2, zl3, zl4, zl5, zl6, zl7, zl8, zl9, zl10, zl20, zl28, zl31, zl32, zl33, zl48, zl57, zl64, zl100, zl127, zl200, zl201, zl202, zl402, zl1200, zl2412, zl16884, zI_add, zI_sub, zI_mul, zI_inc, zI_dec]) <;> (congr 1 <;> omega))) ?_
      refine s_istore dX12_merges_263 (by decide) (by simp only [sl, sl2, rm, Value.category, reduceIte, Nat.reduceAdd, Nat.reduceEqDiff, reduceCtorEq]; rfl) ?_
      refine s_goto (tgt := 11) dX12_merges_265 (by decide) ?_
      refine s_lv (lv' := [(0, .ref (x0 + 144)), (1, .int (zI a)), (2, .int (zI b)), (3, .int (zI s)), (4, .int (zI i)), (5, .int (zI ((j + 1 : Nat) : Int)))]) ⟨rfl, rfl, rfl, rfl, rfl, rfl, trivial⟩ ?_
      exact kn (by omega)
    · refine s_iload_n (i := 3) dX12_merges_185 rfl rfl ?_
      refine s_bipush (v := 124) dX12_merges_186 (by decide) ?_
      refine s_icmp_eq (tgt := 217) dX12_merges_188 (by decide) (fun h188 => absurd h188 (fun h => e1 (by rw [zl124, zI_eq (by omega) (by omega) (by omega) (by omega)] at h; exact h))) (fun h188 => ?_)
      refine s_iload_n (i := 3) dX12_merges_191 rfl rfl ?_
      refine s_bipush (v := 45) dX12_merges_192 (by decide) ?_
      refine s_icmp_ne (tgt := 210) dX12_merges_194 (by decide) (fun h194 => ?_) (fun h194 => absurd h194 (fun h => e2 (by rw [zl45, zI_eq (by omega) (by omega) (by omega) (by omega)] at h; exact h)))
      refine s_iload dX12_merges_210 rfl ?_
      refine s_iload dX12_merges_212 rfl ?_
      refine s_icmp_eq (tgt := 221) dX12_merges_214 (by decide) (fun h214 => absurd h214 (by decide)) (fun h214 => ?_)
      refine s_iconst (v := 1) dX12_merges_217 (by decide) ?_
      refine s_goto (tgt := 222) dX12_merges_218 (by decide) ?_
      refine s_istore dX12_merges_222 (by decide) (by simp only [sl, sl2, rm, Value.category, reduceIte, Nat.reduceAdd, Nat.reduceEqDiff, reduceCtorEq]; rfl) ?_
      refine s_iload dX12_merges_224 rfl ?_
      refine s_if_eq (tgt := 235) dX12_merges_226 (by decide) (fun h226 => absurd h226 (by decide)) (fun h226 => ?_)
      refine s_aload_n (i := 0) dX12_merges_229 rfl rfl ?_
      refine s_iload dX12_merges_230 rfl ?_
      refine s_cV_I (My := mX12_puts) dX12_merges_232 wM_X12_236 cb_yX12_puts ci_yX12_puts (by assumption) (by assumption) (Nat.le_of_ble_eq_true rfl) (by decide) (s_d (by omega) (m_puts (d := 0) hM hA (hl (by omega)) (fun I1 hf1 hp1 hA1 => ?_)))
      refine s_iload dX12_merges_235 rfl ?_
      refine s_iload dX12_merges_237 rfl ?_
      refine s_if_eq (tgt := 246) dX12_merges_239 (by decide) (fun h239 => ?_) (fun h239 => absurd (rfl) h239)
      refine s_iconst (v := 0) dX12_merges_246 (by decide) ?_
      refine s_iadd dX12_merges_247 ?_
      refine s_topi (y := zI (i : Int)) (by first | with_reducible rfl | ((try simp only [z0, z1, zm1, zm2, zm3, zm4, zl2, zl3, zl4, zl5, zl6, zl7, zl8, zl9, zl10, zl20, zl28, zl31, zl32, zl33, zl48, zl57, zl64, zl100, zl127, zl200, zl201, zl202, zl402, zl1200, zl2412, zl16884, zI_add, zI_sub, zI_mul, zI_inc, zI_dec]) <;> (congr 1 <;> omega))) ?_
      refine s_istore dX12_merges_248 (by decide) (by simp only [sl, sl2, rm, Value.category, reduceIte, Nat.reduceAdd, Nat.reduceEqDiff, reduceCtorEq]; rfl) ?_
      refine s_iload dX12_merges_250 rfl ?_
      refine s_iload dX12_merges_252 rfl ?_
      refine s_if_eq (tgt := 261) dX12_merges_254 (by decide) (fun h254 => absurd h254 (by decide)) (fun h254 => ?_)
      refine s_iconst (v := 1) dX12_merges_257 (by decide) ?_
      refine s_goto (tgt := 262) dX12_merges_258 (by decide) ?_
      refine s_iadd dX12_merges_262 ?_
      refine s_topi (y := zI ((j + 1 : Nat) : Int)) (by first | with_reducible rfl | ((try simp only [z0, z1, zm1, zm2, zm3, zm4, zl2, zl3, zl4, zl5, zl6, zl7, zl8, zl9, zl10, zl20, zl28, zl31, zl32, zl33, zl48, zl57, zl64, zl100, zl127, zl200, zl201, zl202, zl402, zl1200, zl2412, zl16884, zI_add, zI_sub, zI_mul, zI_inc, zI_dec]) <;> (congr 1 <;> omega))) ?_
      refine s_istore dX12_merges_263 (by decide) (by simp only [sl, sl2, rm, Value.category, reduceIte, Nat.reduceAdd, Nat.reduceEqDiff, reduceCtorEq]; rfl) ?_
      refine s_goto (tgt := 11) dX12_merges_265 (by decide) ?_
      refine s_lv (lv' := [(0, .ref (x0 + 144)), (1, .int (zI a)), (2, .int (zI b)), (3, .int (zI s)), (4, .int (zI i)), (5, .int (zI ((j + 1 : Nat) : Int)))]) ⟨rfl, rfl, rfl, rfl, rfl, rfl, trivial⟩ ?_
      exact ky (by omega) I1 hf1 hp1 hA1
set_option maxRecDepth 100000 in
set_option maxHeartbeats 1000000 in
theorem ml_mrg11 {G : fG} {x0 : Nat} {l : Launch} {d k n : Nat} {T : fT} {I : fI} {J : fJ} {Q : Option Value → fT → fI → fJ → Prop} {a b i j : Nat} {s v : Int} {A : List Int} (hM : MObj T) (hs : 0 ≤ s ∧ s ≤ 127) (hi : i ≤ 1200) (hj : j ≤ 1200) (hA : OutM I A) (hl : s = 124 → A.length < 1200) (ky : s = 124 → ∀ I', frJ I I' → I' 144 28 = I 144 28 → OutM I' (A ++ [v]) → PW G x0 l mX12_merges (d + 1) (ZM G x0 Q) k n 11 [(0, .ref (x0 + 144)), (1, .int (zI a)), (2, .int (zI b)), (3, .int (zI s)), (4, .int (zI ((i + 1 : Nat) : Int))), (5, .int (zI ((j + 1 : Nat) : Int)))] [] T I' J) (kn : ¬ (s = 124) → PW G x0 l mX12_merges (d + 1) (ZM G x0 Q) k n 11 [(0, .ref (x0 + 144)), (1, .int (zI a)), (2, .int (zI b)), (3, .int (zI s)), (4, .int (zI ((i + 1 : Nat) : Int))), (5, .int (zI ((j + 1 : Nat) : Int)))] [] T I J) : PW G x0 l mX12_merges (d + 1) (ZM G x0 Q) k n 185 [(0, .ref (x0 + 144)), (1, .int (zI a)), (2, .int (zI b)), (3, .int (zI s)), (4, .int (zI i)), (5, .int (zI j)), (6, .int 1), (7, .int 1), (8, .int (zI v))] [] T I J := by
  obtain ⟨o1, o2⟩ := hM.o
  obtain ⟨r158, b158, k158, n158⟩ := hM.a158
  obtain ⟨r157, b157, k157, n157⟩ := hM.a157
  by_cases e1 : s = 124
  · refine s_iload_n (i := 3) dX12_merges_185 rfl rfl ?_
    refine s_bipush (v := 124) dX12_merges_186 (by decide) ?_
    refine s_icmp_eq (tgt := 217) dX12_merges_188 (by decide) (fun h188 => ?_) (fun h188 => absurd (by rw [e1]; rfl) h188)
    refine s_iconst (v := 1) dX12_merges_217 (by decide) ?_
    refine s_goto (tgt := 222) dX12_merges_218 (by decide) ?_
    refine s_istore dX12_merges_222 (by decide) (by simp only [sl, sl2, rm, Value.category, reduceIte, Nat.reduceAdd, Nat.reduceEqDiff, reduceCtorEq]; rfl) ?_
    refine s_iload dX12_merges_224 rfl ?_
    refine s_if_eq (tgt := 235) dX12_merges_226 (by decide) (fun h226 => absurd h226 (by decide)) (fun h226 => ?_)
    refine s_aload_n (i := 0) dX12_merges_229 rfl rfl ?_
    refine s_iload dX12_merges_230 rfl ?_
    refine s_cV_I (My := mX12_puts) dX12_merges_232 wM_X12_236 cb_yX12_puts ci_yX12_puts (by assumption) (by assumption) (Nat.le_of_ble_eq_true rfl) (by decide) (s_d (by omega) (m_puts (d := 0) hM hA (hl e1) (fun I1 hf1 hp1 hA1 => ?_)))
    refine s_iload dX12_merges_235 rfl ?_
    refine s_iload dX12_merges_237 rfl ?_
    refine s_if_eq (tgt := 246) dX12_merges_239 (by decide) (fun h239 => absurd h239 (by decide)) (fun h239 => ?_)
    refine s_iconst (v := 1) dX12_merges_242 (by decide) ?_
    refine s_goto (tgt := 247) dX12_merges_243 (by decide) ?_
    refine s_iadd dX12_merges_247 ?_
    refine s_topi (y := zI ((i + 1 : Nat) : Int)) (by first | with_reducible rfl | ((try simp only [z0, z1, zm1, zm2, zm3, zm4, zl2, zl3, zl4, zl5, zl6, zl7, zl8, zl9, zl10, zl20, zl28, zl31, zl32, zl33, zl48, zl57, zl64, zl100, zl127, zl200, zl201, zl202, zl402, zl1200, zl2412, zl16884, zI_add, zI_sub, zI_mul, zI_inc, zI_dec]) <;> (congr 1 <;> omega))) ?_
    refine s_istore dX12_merges_248 (by decide) (by simp only [sl, sl2, rm, Value.category, reduceIte, Nat.reduceAdd, Nat.reduceEqDiff, reduceCtorEq]; rfl) ?_
    refine s_iload dX12_merges_250 rfl ?_
    refine s_iload dX12_merges_252 rfl ?_
    refine s_if_eq (tgt := 261) dX12_merges_254 (by decide) (fun h254 => absurd h254 (by decide)) (fun h254 => ?_)
    refine s_iconst (v := 1) dX12_merges_257 (by decide) ?_
    refine s_goto (tgt := 262) dX12_merges_258 (by decide) ?_
    refine s_iadd dX12_merges_262 ?_
    refine s_topi (y := zI ((j + 1 : Nat) : Int)) (by first | with_reducible rfl | ((try simp only [z0, z1, zm1, zm2, zm3, zm4, zl2, zl3, zl4, zl5, zl6, zl7, zl8, zl9, zl10, zl20, zl28, zl31, zl32, zl33, zl48, zl57, zl64, zl100, zl127, zl200, zl201, zl202, zl402, zl1200, zl2412, zl16884, zI_add, zI_sub, zI_mul, zI_inc, zI_dec]) <;> (congr 1 <;> omega))) ?_
    refine s_istore dX12_merges_263 (by decide) (by simp only [sl, sl2, rm, Value.category, reduceIte, Nat.reduceAdd, Nat.reduceEqDiff, reduceCtorEq]; rfl) ?_
    refine s_goto (tgt := 11) dX12_merges_265 (by decide) ?_
    refine s_lv (lv' := [(0, .ref (x0 + 144)), (1, .int (zI a)), (2, .int (zI b)), (3, .int (zI s)), (4, .int (zI ((i + 1 : Nat) : Int))), (5, .int (zI ((j + 1 : Nat) : Int)))]) ⟨rfl, rfl, rfl, rfl, rfl, rfl, trivial⟩ ?_
    exact ky e1 I1 hf1 hp1 hA1
  · by_cases e2 : s = 45
    · refine s_iload_n (i := 3) dX12_merges_185 rfl rfl ?_
      refine s_bipush (v := 124) dX12_merges_186 (by decide) ?_
      refine s_icmp_eq (tgt := 217) dX12_merges_188 (by decide) (fun h188 => absurd h188 (fun h => e1 (by rw [zl124, zI_eq (by omega) (by omega) (by omega) (by omega)] at h; exact h))) (fun h188 => ?_)
      refine s_iload_n (i := 3) dX12_merges_191 rfl rfl ?_
      refine s_bipush (v := 45) dX12_merges_192 (by decide) ?_
      refine s_icmp_ne (tgt := 210) dX12_merges_194 (by decide) (fun h194 => absurd h194 (fun h => h (by rw [e2]; rfl))) (fun h194 => ?_)
      refine s_iload dX12_merges_197 rfl ?_
      refine s_if_eq (tgt := 221) dX12_merges_199 (by decide) (fun h199 => absurd h199 (by decide)) (fun h199 => ?_)
      refine s_iload dX12_merges_202 rfl ?_
      refine s_if_ne (tgt := 221) dX12_merges_204 (by decide) (fun h204 => ?_) (fun h204 => absurd h204 (by decide))
      refine s_iconst (v := 0) dX12_merges_221 (by decide) ?_
      refine s_istore dX12_merges_222 (by decide) (by simp only [sl, sl2, rm, Value.category, reduceIte, Nat.reduceAdd, Nat.reduceEqDiff, reduceCtorEq]; rfl) ?_
      refine s_iload dX12_merges_224 rfl ?_
      refine s_if_eq (tgt := 235) dX12_merges_226 (by decide) (fun h226 => ?_) (fun h226 => absurd (rfl) h226)
      refine s_iload dX12_merges_235 rfl ?_
      refine s_iload dX12_merges_237 rfl ?_
      refine s_if_eq (tgt := 246) dX12_merges_239 (by decide) (fun h239 => absurd h239 (by decide)) (fun h239 => ?_)
      refine s_iconst (v := 1) dX12_merges_242 (by decide) ?_
      refine s_goto (tgt := 247) dX12_merges_243 (by decide) ?_
      refine s_iadd dX12_merges_247 ?_
      refine s_topi (y := zI ((i + 1 : Nat) : Int)) (by first | with_reducible rfl | ((try simp only [z0, z1, zm1, zm2, zm3, zm4, zl2, zl3, zl4, zl5, zl6, zl7, zl8, zl9, zl10, zl20, zl28, zl31, zl32, zl33, zl48, zl57, zl64, zl100, zl127, zl200, zl201, zl202, zl402, zl1200, zl2412, zl16884, zI_add, zI_sub, zI_mul, zI_inc, zI_dec]) <;> (congr 1 <;> omega))) ?_
      refine s_istore dX12_merges_248 (by decide) (by simp only [sl, sl2, rm, Value.category, reduceIte, Nat.reduceAdd, Nat.reduceEqDiff, reduceCtorEq]; rfl) ?_
      refine s_iload dX12_merges_250 rfl ?_
      refine s_iload dX12_merges_252 rfl ?_
      refine s_if_eq (tgt := 261) dX12_merges_254 (by decide) (fun h254 => absurd h254 (by decide)) (fun h254 => ?_)
      refine s_iconst (v := 1) dX12_merges_257 (by decide) ?_
      refine s_goto (tgt := 262) dX12_merges_258 (by decide) ?_
      refine s_iadd dX12_merges_262 ?_
      refine s_topi (y := zI ((j + 1 : Nat) : Int)) (by first | with_reducible rfl | ((try simp only [z0, z1, zm1, zm2, zm3, zm4, zl2, zl3, zl4, zl5, zl6, zl7, zl8, zl9, zl10, zl20, zl28, zl31, zl32, zl33, zl48, zl57, zl64, zl100, zl127, zl200, zl201, zl202, zl402, zl1200, zl2412, zl16884, zI_add, zI_sub, zI_mul, zI_inc, zI_dec]) <;> (congr 1 <;> omega))) ?_
      refine s_istore dX12_merges_263 (by decide) (by simp only [sl, sl2, rm, Value.category, reduceIte, Nat.reduceAdd, Nat.reduceEqDiff, reduceCtorEq]; rfl) ?_
      refine s_goto (tgt := 11) dX12_merges_265 (by decide) ?_
      refine s_lv (lv' := [(0, .ref (x0 + 144)), (1, .int (zI a)), (2, .int (zI b)), (3, .int (zI s)), (4, .int (zI ((i + 1 : Nat) : Int))), (5, .int (zI ((j + 1 : Nat) : Int)))]) ⟨rfl, rfl, rfl, rfl, rfl, rfl, trivial⟩ ?_
      exact kn (by omega)
    · refine s_iload_n (i := 3) dX12_merges_185 rfl rfl ?_
      refine s_bipush (v := 124) dX12_merges_186 (by decide) ?_
      refine s_icmp_eq (tgt := 217) dX12_merges_188 (by decide) (fun h188 => absurd h188 (fun h => e1 (by rw [zl124, zI_eq (by omega) (by omega) (by omega) (by omega)] at h; exact h))) (fun h188 => ?_)
      refine s_iload_n (i := 3) dX12_merges_191 rfl rfl ?_
      refine s_bipush (v := 45) dX12_merges_192 (by decide) ?_
      refine s_icmp_ne (tgt := 210) dX12_merges_194 (by decide) (fun h194 => ?_) (fun h194 => absurd h194 (fun h => e2 (by rw [zl45, zI_eq (by omega) (by omega) (by omega) (by omega)] at h; exact h)))
      refine s_iload dX12_merges_210 rfl ?_
      refine s_iload dX12_merges_212 rfl ?_
      refine s_icmp_eq (tgt := 221) dX12_merges_214 (by decide) (fun h214 => ?_) (fun h214 => absurd (rfl) h214)
      refine s_iconst (v := 0) dX12_merges_221 (by decide) ?_
      refine s_istore dX12_merges_222 (by decide) (by simp only [sl, sl2, rm, Value.category, reduceIte, Nat.reduceAdd, Nat.reduceEqDiff, reduceCtorEq]; rfl) ?_
      refine s_iload dX12_merges_224 rfl ?_
      refine s_if_eq (tgt := 235) dX12_merges_226 (by decide) (fun h226 => ?_) (fun h226 => absurd (rfl) h226)
      refine s_iload dX12_merges_235 rfl ?_
      refine s_iload dX12_merges_237 rfl ?_
      refine s_if_eq (tgt := 246) dX12_merges_239 (by decide) (fun h239 => absurd h239 (by decide)) (fun h239 => ?_)
      refine s_iconst (v := 1) dX12_merges_242 (by decide) ?_
      refine s_goto (tgt := 247) dX12_merges_243 (by decide) ?_
      refine s_iadd dX12_merges_247 ?_
      refine s_topi (y := zI ((i + 1 : Nat) : Int)) (by first | with_reducible rfl | ((try simp only [z0, z1, zm1, zm2, zm3, zm4, zl2, zl3, zl4, zl5, zl6, zl7, zl8, zl9, zl10, zl20, zl28, zl31, zl32, zl33, zl48, zl57, zl64, zl100, zl127, zl200, zl201, zl202, zl402, zl1200, zl2412, zl16884, zI_add, zI_sub, zI_mul, zI_inc, zI_dec]) <;> (congr 1 <;> omega))) ?_
      refine s_istore dX12_merges_248 (by decide) (by simp only [sl, sl2, rm, Value.category, reduceIte, Nat.reduceAdd, Nat.reduceEqDiff, reduceCtorEq]; rfl) ?_
      refine s_iload dX12_merges_250 rfl ?_
      refine s_iload dX12_merges_252 rfl ?_
      refine s_if_eq (tgt := 261) dX12_merges_254 (by decide) (fun h254 => absurd h254 (by decide)) (fun h254 => ?_)
      refine s_iconst (v := 1) dX12_merges_257 (by decide) ?_
      refine s_goto (tgt := 262) dX12_merges_258 (by decide) ?_
      refine s_iadd dX12_merges_262 ?_
      refine s_topi (y := zI ((j + 1 : Nat) : Int)) (by first | with_reducible rfl | ((try simp only [z0, z1, zm1, zm2, zm3, zm4, zl2, zl3, zl4, zl5, zl6, zl7, zl8, zl9, zl10, zl20, zl28, zl31, zl32, zl33, zl48, zl57, zl64, zl100, zl127, zl200, zl201, zl202, zl402, zl1200, zl2412, zl16884, zI_add, zI_sub, zI_mul, zI_inc, zI_dec]) <;> (congr 1 <;> omega))) ?_
      refine s_istore dX12_merges_263 (by decide) (by simp only [sl, sl2, rm, Value.category, reduceIte, Nat.reduceAdd, Nat.reduceEqDiff, reduceCtorEq]; rfl) ?_
      refine s_goto (tgt := 11) dX12_merges_265 (by decide) ?_
      refine s_lv (lv' := [(0, .ref (x0 + 144)), (1, .int (zI a)), (2, .int (zI b)), (3, .int (zI s)), (4, .int (zI ((i + 1 : Nat) : Int))), (5, .int (zI ((j + 1 : Nat) : Int)))]) ⟨rfl, rfl, rfl, rfl, rfl, rfl, trivial⟩ ?_
      exact kn (by omega)
set_option maxRecDepth 100000 in
set_option maxHeartbeats 1000000 in
theorem ml_merges {G : fG} {x0 : Nat} {l : Launch} {d k n : Nat} {T : fT} {J : fJ} {Q : Option Value → fT → fI → fJ → Prop} {a b m1 m2 : Nat} {g1 g2 : Nat → Int} {s : Int} (hM : MObj T) (ha : a < 24) (hb : b < 24) (hm1 : m1 ≤ 1200) (hm2 : m2 ≤ 1200) (hV1 : Vok g1 m1) (hV2 : Vok g2 m2) (hs : 0 ≤ s ∧ s ≤ 127) : ∀ (z i j : Nat) (A : List Int) (pr : Int) (I : fI), (m1 - i) + (m2 - j) ≤ z → i ≤ m1 → j ≤ m2 → MRow I a g1 m1 → MRow I b g2 m2 → OutM I A → (A ++ mrgL s g1 m1 g2 m2 z i j).length ≤ 1200 → I 144 28 = zI pr → (∀ I', frJ I I' → OutM I' (A ++ mrgL s g1 m1 g2 m2 z i j) → I' 144 28 = zI pr → Q none T I' J) → PW G x0 l mX12_merges (d + 1) (ZM G x0 Q) k n 11 [(0, .ref (x0 + 144)), (1, .int (zI a)), (2, .int (zI b)), (3, .int (zI s)), (4, .int (zI i)), (5, .int (zI j))] [] T I J := by
  obtain ⟨o1, o2⟩ := hM.o
  obtain ⟨r158, b158, k158, n158⟩ := hM.a158
  obtain ⟨r157, b157, k157, n157⟩ := hM.a157
  intro z
  induction z with
  | zero =>
    intro i j A pr I hz hi hj hR1 hR2 hA hlen hp hq
    simp only [mrgL, List.append_nil] at hq
    refine s_iload dX12_merges_11 rfl ?_
    refine s_aload_n (i := 0) dX12_merges_13 rfl rfl ?_
    refine s_getR dX12_merges_14 fl_X12_56 (by assumption) (by assumption) (by assumption) ?_
    refine s_iload_n (i := 1) dX12_merges_17 rfl rfl ?_
    refine s_ildn (j := a) dX12_merges_18 (by assumption) (by assumption) (by assumption) (by first | with_reducible rfl | ((try simp only [z0, z1, zm1, zm2, zm3, zm4, zl2, zl3, zl4, zl5, zl6, zl7, zl8, zl9, zl10, zl20, zl28, zl31, zl32, zl33, zl48, zl57, zl64, zl100, zl127, zl200, zl201, zl202, zl402, zl1200, zl2412, zl16884, zI_add, zI_sub, zI_mul, zI_inc, zI_dec]) <;> (congr 1 <;> omega))) (by omega) (by decide) ?_
    rw [hR1.1]
    refine s_icmp_lt (tgt := 33) dX12_merges_19 (by decide) (fun h19 => absurd h19 (fun h => by rw [zI_lt (by omega) (by omega) (by omega) (by omega)] at h; omega)) (fun h19 => ?_)
    refine s_iload dX12_merges_22 rfl ?_
    refine s_aload_n (i := 0) dX12_merges_24 rfl rfl ?_
    refine s_getR dX12_merges_25 fl_X12_56 (by assumption) (by assumption) (by assumption) ?_
    refine s_iload_n (i := 2) dX12_merges_28 rfl rfl ?_
    refine s_ildn (j := b) dX12_merges_29 (by assumption) (by assumption) (by assumption) (by first | with_reducible rfl | ((try simp only [z0, z1, zm1, zm2, zm3, zm4, zl2, zl3, zl4, zl5, zl6, zl7, zl8, zl9, zl10, zl20, zl28, zl31, zl32, zl33, zl48, zl57, zl64, zl100, zl127, zl200, zl201, zl202, zl402, zl1200, zl2412, zl16884, zI_add, zI_sub, zI_mul, zI_inc, zI_dec]) <;> (congr 1 <;> omega))) (by omega) (by decide) ?_
    rw [hR2.1]
    refine s_icmp_ge (tgt := 268) dX12_merges_30 (by decide) (fun h30 => ?_) (fun h30 => absurd ((zI_le (by omega) (by omega) (by omega) (by omega)).mpr (by omega)) h30)
    refine s_ret dX12_merges_268 rfl ?_
    exact hq I (frJ.refl I) hA hp
  | succ z ih =>
    intro i j A pr I hz hi hj hR1 hR2 hA hlen hp hq
    simp only [mrgL] at hq hlen
    by_cases c : i < m1 ∧ (j = m2 ∨ g1 i < g2 j)
    · rw [if_pos c] at hq hlen
      obtain ⟨c1, c2⟩ := c
      have v1 := hV1 i c1
      by_cases c3 : j = m2
      · refine s_iload dX12_merges_11 rfl ?_
        refine s_aload_n (i := 0) dX12_merges_13 rfl rfl ?_
        refine s_getR dX12_merges_14 fl_X12_56 (by assumption) (by assumption) (by assumption) ?_
        refine s_iload_n (i := 1) dX12_merges_17 rfl rfl ?_
        refine s_ildn (j := a) dX12_merges_18 (by assumption) (by assumption) (by assumption) (by first | with_reducible rfl | ((try simp only [z0, z1, zm1, zm2, zm3, zm4, zl2, zl3, zl4, zl5, zl6, zl7, zl8, zl9, zl10, zl20, zl28, zl31, zl32, zl33, zl48, zl57, zl64, zl100, zl127, zl200, zl201, zl202, zl402, zl1200, zl2412, zl16884, zI_add, zI_sub, zI_mul, zI_inc, zI_dec]) <;> (congr 1 <;> omega))) (by omega) (by decide) ?_
        rw [hR1.1]
        refine s_icmp_lt (tgt := 33) dX12_merges_19 (by decide) (fun h19 => ?_) (fun h19 => absurd ((zI_lt (by omega) (by omega) (by omega) (by omega)).mpr (by omega)) h19)
        refine s_iload dX12_merges_33 rfl ?_
        refine s_aload_n (i := 0) dX12_merges_35 rfl rfl ?_
        refine s_getR dX12_merges_36 fl_X12_56 (by assumption) (by assumption) (by assumption) ?_
        refine s_iload_n (i := 1) dX12_merges_39 rfl rfl ?_
        refine s_ildn (j := a) dX12_merges_40 (by assumption) (by assumption) (by assumption) (by first | with_reducible rfl | ((try simp only [z0, z1, zm1, zm2, zm3, zm4, zl2, zl3, zl4, zl5, zl6, zl7, zl8, zl9, zl10, zl20, zl28, zl31, zl32, zl33, zl48, zl57, zl64, zl100, zl127, zl200, zl201, zl202, zl402, zl1200, zl2412, zl16884, zI_add, zI_sub, zI_mul, zI_inc, zI_dec]) <;> (congr 1 <;> omega))) (by omega) (by decide) ?_
        rw [hR1.1]
        refine s_icmp_ge (tgt := 88) dX12_merges_41 (by decide) (fun h41 => absurd h41 (fun h => by rw [zI_le (by omega) (by omega) (by omega) (by omega)] at h; omega)) (fun h41 => ?_)
        refine s_iload dX12_merges_44 rfl ?_
        refine s_aload_n (i := 0) dX12_merges_46 rfl rfl ?_
        refine s_getR dX12_merges_47 fl_X12_56 (by assumption) (by assumption) (by assumption) ?_
        refine s_iload_n (i := 2) dX12_merges_50 rfl rfl ?_
        refine s_ildn (j := b) dX12_merges_51 (by assumption) (by assumption) (by assumption) (by first | with_reducible rfl | ((try simp only [z0, z1, zm1, zm2, zm3, zm4, zl2, zl3, zl4, zl5, zl6, zl7, zl8, zl9, zl10, zl20, zl28, zl31, zl32, zl33, zl48, zl57, zl64, zl100, zl127, zl200, zl201, zl202, zl402, zl1200, zl2412, zl16884, zI_add, zI_sub, zI_mul, zI_inc, zI_dec]) <;> (congr 1 <;> omega))) (by omega) (by decide) ?_
        rw [hR2.1]
        refine s_icmp_eq (tgt := 84) dX12_merges_52 (by decide) (fun h52 => ?_) (fun h52 => absurd ((zI_eq (by omega) (by omega) (by omega) (by omega)).mpr (by omega)) h52)
        refine s_iconst (v := 1) dX12_merges_84 (by decide) ?_
        refine s_goto (tgt := 89) dX12_merges_85 (by decide) ?_
        refine s_istore dX12_merges_89 (by decide) (by simp only [sl, sl2, rm, Value.category, reduceIte, Nat.reduceAdd, Nat.reduceEqDiff, reduceCtorEq]; rfl) ?_
        refine s_iload dX12_merges_91 rfl ?_
        refine s_aload_n (i := 0) dX12_merges_93 rfl rfl ?_
        refine s_getR dX12_merges_94 fl_X12_56 (by assumption) (by assumption) (by assumption) ?_
        refine s_iload_n (i := 2) dX12_merges_97 rfl rfl ?_
        refine s_ildn (j := b) dX12_merges_98 (by assumption) (by assumption) (by assumption) (by first | with_reducible rfl | ((try simp only [z0, z1, zm1, zm2, zm3, zm4, zl2, zl3, zl4, zl5, zl6, zl7, zl8, zl9, zl10, zl20, zl28, zl31, zl32, zl33, zl48, zl57, zl64, zl100, zl127, zl200, zl201, zl202, zl402, zl1200, zl2412, zl16884, zI_add, zI_sub, zI_mul, zI_inc, zI_dec]) <;> (congr 1 <;> omega))) (by omega) (by decide) ?_
        rw [hR2.1]
        refine s_icmp_ge (tgt := 146) dX12_merges_99 (by decide) (fun h99 => ?_) (fun h99 => absurd ((zI_le (by omega) (by omega) (by omega) (by omega)).mpr (by omega)) h99)
        refine s_iconst (v := 0) dX12_merges_146 (by decide) ?_
        refine s_istore dX12_merges_147 (by decide) (by simp only [sl, sl2, rm, Value.category, reduceIte, Nat.reduceAdd, Nat.reduceEqDiff, reduceCtorEq]; rfl) ?_
        refine s_iload dX12_merges_149 rfl ?_
        refine s_if_eq (tgt := 170) dX12_merges_151 (by decide) (fun h151 => absurd h151 (by decide)) (fun h151 => ?_)
        refine s_aload_n (i := 0) dX12_merges_154 rfl rfl ?_
        refine s_getR dX12_merges_155 fl_X12_53 (by assumption) (by assumption) (by assumption) ?_
        refine s_sipush (v := 1200) dX12_merges_158 (by decide) ?_
        refine s_iload_n (i := 1) dX12_merges_161 rfl rfl ?_
        refine s_imul dX12_merges_162 ?_
        refine s_iload dX12_merges_163 rfl ?_
        refine s_iadd dX12_merges_165 ?_
        refine s_ildn (j := 1200 * a + i) dX12_merges_166 (by assumption) (by assumption) (by assumption) (by first | with_reducible rfl | ((try simp only [z0, z1, zm1, zm2, zm3, zm4, zl2, zl3, zl4, zl5, zl6, zl7, zl8, zl9, zl10, zl20, zl28, zl31, zl32, zl33, zl48, zl57, zl64, zl100, zl127, zl200, zl201, zl202, zl402, zl1200, zl2412, zl16884, zI_add, zI_sub, zI_mul, zI_inc, zI_dec]) <;> (congr 1 <;> omega))) (by omega) (by decide) ?_
        rw [hR1.2 i (by omega)]
        refine s_goto (tgt := 183) dX12_merges_167 (by decide) ?_
        refine s_istore dX12_merges_183 (by decide) (by simp only [sl, sl2, rm, Value.category, reduceIte, Nat.reduceAdd, Nat.reduceEqDiff, reduceCtorEq]; rfl) ?_
        refine ml_mrg10 hM hs (by omega) (by omega) hA (fun hy => by skip; rw [List.length_append, List.length_cons] at hlen; omega) (fun hy I1 hf1 hp1 hA1 => ih (i + 1) j (A ++ [g1 i]) pr I1 (by omega) (by omega) (by omega) (hR1.j hf1) (hR2.j hf1) hA1 (by skip; rw [List.append_assoc]; exact hlen) (by rw [hp1]; exact hp) (fun I' hf hA' h => hq I' (hf1.trans hf) (by skip; rw [List.append_assoc] at hA'; exact hA') h))
      · have v2 := hV2 j (by omega)
        refine s_iload dX12_merges_11 rfl ?_
        refine s_aload_n (i := 0) dX12_merges_13 rfl rfl ?_
        refine s_getR dX12_merges_14 fl_X12_56 (by assumption) (by assumption) (by assumption) ?_
        refine s_iload_n (i := 1) dX12_merges_17 rfl rfl ?_
        refine s_ildn (j := a) dX12_merges_18 (by assumption) (by assumption) (by assumption) (by first | with_reducible rfl | ((try simp only [z0, z1, zm1, zm2, zm3, zm4, zl2, zl3, zl4, zl5, zl6, zl7, zl8, zl9, zl10, zl20, zl28, zl31, zl32, zl33, zl48, zl57, zl64, zl100, zl127, zl200, zl201, zl202, zl402, zl1200, zl2412, zl16884, zI_add, zI_sub, zI_mul, zI_inc, zI_dec]) <;> (congr 1 <;> omega))) (by omega) (by decide) ?_
        rw [hR1.1]
        refine s_icmp_lt (tgt := 33) dX12_merges_19 (by decide) (fun h19 => ?_) (fun h19 => absurd ((zI_lt (by omega) (by omega) (by omega) (by omega)).mpr (by omega)) h19)
        refine s_iload dX12_merges_33 rfl ?_
        refine s_aload_n (i := 0) dX12_merges_35 rfl rfl ?_
        refine s_getR dX12_merges_36 fl_X12_56 (by assumption) (by assumption) (by assumption) ?_
        refine s_iload_n (i := 1) dX12_merges_39 rfl rfl ?_
        refine s_ildn (j := a) dX12_merges_40 (by assumption) (by assumption) (by assumption) (by first | with_reducible rfl | ((try simp only [z0, z1, zm1, zm2, zm3, zm4, zl2, zl3, zl4, zl5, zl6, zl7, zl8, zl9, zl10, zl20, zl28, zl31, zl32, zl33, zl48, zl57, zl64, zl100, zl127, zl200, zl201, zl202, zl402, zl1200, zl2412, zl16884, zI_add, zI_sub, zI_mul, zI_inc, zI_dec]) <;> (congr 1 <;> omega))) (by omega) (by decide) ?_
        rw [hR1.1]
        refine s_icmp_ge (tgt := 88) dX12_merges_41 (by decide) (fun h41 => absurd h41 (fun h => by rw [zI_le (by omega) (by omega) (by omega) (by omega)] at h; omega)) (fun h41 => ?_)
        refine s_iload dX12_merges_44 rfl ?_
        refine s_aload_n (i := 0) dX12_merges_46 rfl rfl ?_
        refine s_getR dX12_merges_47 fl_X12_56 (by assumption) (by assumption) (by assumption) ?_
        refine s_iload_n (i := 2) dX12_merges_50 rfl rfl ?_
        refine s_ildn (j := b) dX12_merges_51 (by assumption) (by assumption) (by assumption) (by first | with_reducible rfl | ((try simp only [z0, z1, zm1, zm2, zm3, zm4, zl2, zl3, zl4, zl5, zl6, zl7, zl8, zl9, zl10, zl20, zl28, zl31, zl32, zl33, zl48, zl57, zl64, zl100, zl127, zl200, zl201, zl202, zl402, zl1200, zl2412, zl16884, zI_add, zI_sub, zI_mul, zI_inc, zI_dec]) <;> (congr 1 <;> omega))) (by omega) (by decide) ?_
        rw [hR2.1]
        refine s_icmp_eq (tgt := 84) dX12_merges_52 (by decide) (fun h52 => absurd h52 (fun h => by rw [zI_eq (by omega) (by omega) (by omega) (by omega)] at h; omega)) (fun h52 => ?_)
        refine s_aload_n (i := 0) dX12_merges_55 rfl rfl ?_
        refine s_getR dX12_merges_56 fl_X12_53 (by assumption) (by assumption) (by assumption) ?_
        refine s_sipush (v := 1200) dX12_merges_59 (by decide) ?_
        refine s_iload_n (i := 1) dX12_merges_62 rfl rfl ?_
        refine s_imul dX12_merges_63 ?_
        refine s_iload dX12_merges_64 rfl ?_
        refine s_iadd dX12_merges_66 ?_
        refine s_ildn (j := 1200 * a + i) dX12_merges_67 (by assumption) (by assumption) (by assumption) (by first | with_reducible rfl | ((try simp only [z0, z1, zm1, zm2, zm3, zm4, zl2, zl3, zl4, zl5, zl6, zl7, zl8, zl9, zl10, zl20, zl28, zl31, zl32, zl33, zl48, zl57, zl64, zl100, zl127, zl200, zl201, zl202, zl402, zl1200, zl2412, zl16884, zI_add, zI_sub, zI_mul, zI_inc, zI_dec]) <;> (congr 1 <;> omega))) (by omega) (by decide) ?_
        rw [hR1.2 i (by omega)]
        refine s_aload_n (i := 0) dX12_merges_68 rfl rfl ?_
        refine s_getR dX12_merges_69 fl_X12_53 (by assumption) (by assumption) (by assumption) ?_
        refine s_sipush (v := 1200) dX12_merges_72 (by decide) ?_
        refine s_iload_n (i := 2) dX12_merges_75 rfl rfl ?_
        refine s_imul dX12_merges_76 ?_
        refine s_iload dX12_merges_77 rfl ?_
        refine s_iadd dX12_merges_79 ?_
        refine s_ildn (j := 1200 * b + j) dX12_merges_80 (by assumption) (by assumption) (by assumption) (by first | with_reducible rfl | ((try simp only [z0, z1, zm1, zm2, zm3, zm4, zl2, zl3, zl4, zl5, zl6, zl7, zl8, zl9, zl10, zl20, zl28, zl31, zl32, zl33, zl48, zl57, zl64, zl100, zl127, zl200, zl201, zl202, zl402, zl1200, zl2412, zl16884, zI_add, zI_sub, zI_mul, zI_inc, zI_dec]) <;> (congr 1 <;> omega))) (by omega) (by decide) ?_
        rw [hR2.2 j (by omega)]
        refine s_icmp_gt (tgt := 88) dX12_merges_81 (by decide) (fun h81 => absurd h81 (fun h => by rw [zI_lt (by omega) (by omega) (by omega) (by omega)] at h; omega)) (fun h81 => ?_)
        refine s_iconst (v := 1) dX12_merges_84 (by decide) ?_
        refine s_goto (tgt := 89) dX12_merges_85 (by decide) ?_
        refine s_istore dX12_merges_89 (by decide) (by simp only [sl, sl2, rm, Value.category, reduceIte, Nat.reduceAdd, Nat.reduceEqDiff, reduceCtorEq]; rfl) ?_
        refine s_iload dX12_merges_91 rfl ?_
        refine s_aload_n (i := 0) dX12_merges_93 rfl rfl ?_
        refine s_getR dX12_merges_94 fl_X12_56 (by assumption) (by assumption) (by assumption) ?_
        refine s_iload_n (i := 2) dX12_merges_97 rfl rfl ?_
        refine s_ildn (j := b) dX12_merges_98 (by assumption) (by assumption) (by assumption) (by first | with_reducible rfl | ((try simp only [z0, z1, zm1, zm2, zm3, zm4, zl2, zl3, zl4, zl5, zl6, zl7, zl8, zl9, zl10, zl20, zl28, zl31, zl32, zl33, zl48, zl57, zl64, zl100, zl127, zl200, zl201, zl202, zl402, zl1200, zl2412, zl16884, zI_add, zI_sub, zI_mul, zI_inc, zI_dec]) <;> (congr 1 <;> omega))) (by omega) (by decide) ?_
        rw [hR2.1]
        refine s_icmp_ge (tgt := 146) dX12_merges_99 (by decide) (fun h99 => absurd h99 (fun h => by rw [zI_le (by omega) (by omega) (by omega) (by omega)] at h; omega)) (fun h99 => ?_)
        refine s_iload dX12_merges_102 rfl ?_
        refine s_aload_n (i := 0) dX12_merges_104 rfl rfl ?_
        refine s_getR dX12_merges_105 fl_X12_56 (by assumption) (by assumption) (by assumption) ?_
        refine s_iload_n (i := 1) dX12_merges_108 rfl rfl ?_
        refine s_ildn (j := a) dX12_merges_109 (by assumption) (by assumption) (by assumption) (by first | with_reducible rfl | ((try simp only [z0, z1, zm1, zm2, zm3, zm4, zl2, zl3, zl4, zl5, zl6, zl7, zl8, zl9, zl10, zl20, zl28, zl31, zl32, zl33, zl48, zl57, zl64, zl100, zl127, zl200, zl201, zl202, zl402, zl1200, zl2412, zl16884, zI_add, zI_sub, zI_mul, zI_inc, zI_dec]) <;> (congr 1 <;> omega))) (by omega) (by decide) ?_
        rw [hR1.1]
        refine s_icmp_eq (tgt := 142) dX12_merges_110 (by decide) (fun h110 => absurd h110 (fun h => by rw [zI_eq (by omega) (by omega) (by omega) (by omega)] at h; omega)) (fun h110 => ?_)
        refine s_aload_n (i := 0) dX12_merges_113 rfl rfl ?_
        refine s_getR dX12_merges_114 fl_X12_53 (by assumption) (by assumption) (by assumption) ?_
        refine s_sipush (v := 1200) dX12_merges_117 (by decide) ?_
        refine s_iload_n (i := 2) dX12_merges_120 rfl rfl ?_
        refine s_imul dX12_merges_121 ?_
        refine s_iload dX12_merges_122 rfl ?_
        refine s_iadd dX12_merges_124 ?_
        refine s_ildn (j := 1200 * b + j) dX12_merges_125 (by assumption) (by assumption) (by assumption) (by first | with_reducible rfl | ((try simp only [z0, z1, zm1, zm2, zm3, zm4, zl2, zl3, zl4, zl5, zl6, zl7, zl8, zl9, zl10, zl20, zl28, zl31, zl32, zl33, zl48, zl57, zl64, zl100, zl127, zl200, zl201, zl202, zl402, zl1200, zl2412, zl16884, zI_add, zI_sub, zI_mul, zI_inc, zI_dec]) <;> (congr 1 <;> omega))) (by omega) (by decide) ?_
        rw [hR2.2 j (by omega)]
        refine s_aload_n (i := 0) dX12_merges_126 rfl rfl ?_
        refine s_getR dX12_merges_127 fl_X12_53 (by assumption) (by assumption) (by assumption) ?_
        refine s_sipush (v := 1200) dX12_merges_130 (by decide) ?_
        refine s_iload_n (i := 1) dX12_merges_133 rfl rfl ?_
        refine s_imul dX12_merges_134 ?_
        refine s_iload dX12_merges_135 rfl ?_
        refine s_iadd dX12_merges_137 ?_
        refine s_ildn (j := 1200 * a + i) dX12_merges_138 (by assumption) (by assumption) (by assumption) (by first | with_reducible rfl | ((try simp only [z0, z1, zm1, zm2, zm3, zm4, zl2, zl3, zl4, zl5, zl6, zl7, zl8, zl9, zl10, zl20, zl28, zl31, zl32, zl33, zl48, zl57, zl64, zl100, zl127, zl200, zl201, zl202, zl402, zl1200, zl2412, zl16884, zI_add, zI_sub, zI_mul, zI_inc, zI_dec]) <;> (congr 1 <;> omega))) (by omega) (by decide) ?_
        rw [hR1.2 i (by omega)]
        refine s_icmp_gt (tgt := 146) dX12_merges_139 (by decide) (fun h139 => ?_) (fun h139 => absurd ((zI_lt (by omega) (by omega) (by omega) (by omega)).mpr (by omega)) h139)
        refine s_iconst (v := 0) dX12_merges_146 (by decide) ?_
        refine s_istore dX12_merges_147 (by decide) (by simp only [sl, sl2, rm, Value.category, reduceIte, Nat.reduceAdd, Nat.reduceEqDiff, reduceCtorEq]; rfl) ?_
        refine s_iload dX12_merges_149 rfl ?_
        refine s_if_eq (tgt := 170) dX12_merges_151 (by decide) (fun h151 => absurd h151 (by decide)) (fun h151 => ?_)
        refine s_aload_n (i := 0) dX12_merges_154 rfl rfl ?_
        refine s_getR dX12_merges_155 fl_X12_53 (by assumption) (by assumption) (by assumption) ?_
        refine s_sipush (v := 1200) dX12_merges_158 (by decide) ?_
        refine s_iload_n (i := 1) dX12_merges_161 rfl rfl ?_
        refine s_imul dX12_merges_162 ?_
        refine s_iload dX12_merges_163 rfl ?_
        refine s_iadd dX12_merges_165 ?_
        refine s_ildn (j := 1200 * a + i) dX12_merges_166 (by assumption) (by assumption) (by assumption) (by first | with_reducible rfl | ((try simp only [z0, z1, zm1, zm2, zm3, zm4, zl2, zl3, zl4, zl5, zl6, zl7, zl8, zl9, zl10, zl20, zl28, zl31, zl32, zl33, zl48, zl57, zl64, zl100, zl127, zl200, zl201, zl202, zl402, zl1200, zl2412, zl16884, zI_add, zI_sub, zI_mul, zI_inc, zI_dec]) <;> (congr 1 <;> omega))) (by omega) (by decide) ?_
        rw [hR1.2 i (by omega)]
        refine s_goto (tgt := 183) dX12_merges_167 (by decide) ?_
        refine s_istore dX12_merges_183 (by decide) (by simp only [sl, sl2, rm, Value.category, reduceIte, Nat.reduceAdd, Nat.reduceEqDiff, reduceCtorEq]; rfl) ?_
        refine ml_mrg10 hM hs (by omega) (by omega) hA (fun hy => by skip; rw [List.length_append, List.length_cons] at hlen; omega) (fun hy I1 hf1 hp1 hA1 => ih (i + 1) j (A ++ [g1 i]) pr I1 (by omega) (by omega) (by omega) (hR1.j hf1) (hR2.j hf1) hA1 (by skip; rw [List.append_assoc]; exact hlen) (by rw [hp1]; exact hp) (fun I' hf hA' h => hq I' (hf1.trans hf) (by skip; rw [List.append_assoc] at hA'; exact hA') h))
    rw [if_neg c] at hq hlen
    by_cases e : j < m2 ∧ (i = m1 ∨ g2 j < g1 i)
    · rw [if_pos e] at hq hlen
      obtain ⟨c1, c2⟩ := e
      have v2 := hV2 j c1
      by_cases c3 : i = m1
      · refine s_iload dX12_merges_11 rfl ?_
        refine s_aload_n (i := 0) dX12_merges_13 rfl rfl ?_
        refine s_getR dX12_merges_14 fl_X12_56 (by assumption) (by assumption) (by assumption) ?_
        refine s_iload_n (i := 1) dX12_merges_17 rfl rfl ?_
        refine s_ildn (j := a) dX12_merges_18 (by assumption) (by assumption) (by assumption) (by first | with_reducible rfl | ((try simp only [z0, z1, zm1, zm2, zm3, zm4, zl2, zl3, zl4, zl5, zl6, zl7, zl8, zl9, zl10, zl20, zl28, zl31, zl32, zl33, zl48, zl57, zl64, zl100, zl127, zl200, zl201, zl202, zl402, zl1200, zl2412, zl16884, zI_add, zI_sub, zI_mul, zI_inc, zI_dec]) <;> (congr 1 <;> omega))) (by omega) (by decide) ?_
        rw [hR1.1]
        refine s_icmp_lt (tgt := 33) dX12_merges_19 (by decide) (fun h19 => absurd h19 (fun h => by rw [zI_lt (by omega) (by omega) (by omega) (by omega)] at h; omega)) (fun h19 => ?_)
        refine s_iload dX12_merges_22 rfl ?_
        refine s_aload_n (i := 0) dX12_merges_24 rfl rfl ?_
        refine s_getR dX12_merges_25 fl_X12_56 (by assumption) (by assumption) (by assumption) ?_
        refine s_iload_n (i := 2) dX12_merges_28 rfl rfl ?_
        refine s_ildn (j := b) dX12_merges_29 (by assumption) (by assumption) (by assumption) (by first | with_reducible rfl | ((try simp only [z0, z1, zm1, zm2, zm3, zm4, zl2, zl3, zl4, zl5, zl6, zl7, zl8, zl9, zl10, zl20, zl28, zl31, zl32, zl33, zl48, zl57, zl64, zl100, zl127, zl200, zl201, zl202, zl402, zl1200, zl2412, zl16884, zI_add, zI_sub, zI_mul, zI_inc, zI_dec]) <;> (congr 1 <;> omega))) (by omega) (by decide) ?_
        rw [hR2.1]
        refine s_icmp_ge (tgt := 268) dX12_merges_30 (by decide) (fun h30 => absurd h30 (fun h => by rw [zI_le (by omega) (by omega) (by omega) (by omega)] at h; omega)) (fun h30 => ?_)
        refine s_iload dX12_merges_33 rfl ?_
        refine s_aload_n (i := 0) dX12_merges_35 rfl rfl ?_
        refine s_getR dX12_merges_36 fl_X12_56 (by assumption) (by assumption) (by assumption) ?_
        refine s_iload_n (i := 1) dX12_merges_39 rfl rfl ?_
        refine s_ildn (j := a) dX12_merges_40 (by assumption) (by assumption) (by assumption) (by first | with_reducible rfl | ((try simp only [z0, z1, zm1, zm2, zm3, zm4, zl2, zl3, zl4, zl5, zl6, zl7, zl8, zl9, zl10, zl20, zl28, zl31, zl32, zl33, zl48, zl57, zl64, zl100, zl127, zl200, zl201, zl202, zl402, zl1200, zl2412, zl16884, zI_add, zI_sub, zI_mul, zI_inc, zI_dec]) <;> (congr 1 <;> omega))) (by omega) (by decide) ?_
        rw [hR1.1]
        refine s_icmp_ge (tgt := 88) dX12_merges_41 (by decide) (fun h41 => ?_) (fun h41 => absurd ((zI_le (by omega) (by omega) (by omega) (by omega)).mpr (by omega)) h41)
        refine s_iconst (v := 0) dX12_merges_88 (by decide) ?_
        refine s_istore dX12_merges_89 (by decide) (by simp only [sl, sl2, rm, Value.category, reduceIte, Nat.reduceAdd, Nat.reduceEqDiff, reduceCtorEq]; rfl) ?_
        refine s_iload dX12_merges_91 rfl ?_
        refine s_aload_n (i := 0) dX12_merges_93 rfl rfl ?_
        refine s_getR dX12_merges_94 fl_X12_56 (by assumption) (by assumption) (by assumption) ?_
        refine s_iload_n (i := 2) dX12_merges_97 rfl rfl ?_
        refine s_ildn (j := b) dX12_merges_98 (by assumption) (by assumption) (by assumption) (by first | with_reducible rfl | ((try simp only [z0, z1, zm1, zm2, zm3, zm4, zl2, zl3, zl4, zl5, zl6, zl7, zl8, zl9, zl10, zl20, zl28, zl31, zl32, zl33, zl48, zl57, zl64, zl100, zl127, zl200, zl201, zl202, zl402, zl1200, zl2412, zl16884, zI_add, zI_sub, zI_mul, zI_inc, zI_dec]) <;> (congr 1 <;> omega))) (by omega) (by decide) ?_
        rw [hR2.1]
        refine s_icmp_ge (tgt := 146) dX12_merges_99 (by decide) (fun h99 => absurd h99 (fun h => by rw [zI_le (by omega) (by omega) (by omega) (by omega)] at h; omega)) (fun h99 => ?_)
        refine s_iload dX12_merges_102 rfl ?_
        refine s_aload_n (i := 0) dX12_merges_104 rfl rfl ?_
        refine s_getR dX12_merges_105 fl_X12_56 (by assumption) (by assumption) (by assumption) ?_
        refine s_iload_n (i := 1) dX12_merges_108 rfl rfl ?_
        refine s_ildn (j := a) dX12_merges_109 (by assumption) (by assumption) (by assumption) (by first | with_reducible rfl | ((try simp only [z0, z1, zm1, zm2, zm3, zm4, zl2, zl3, zl4, zl5, zl6, zl7, zl8, zl9, zl10, zl20, zl28, zl31, zl32, zl33, zl48, zl57, zl64, zl100, zl127, zl200, zl201, zl202, zl402, zl1200, zl2412, zl16884, zI_add, zI_sub, zI_mul, zI_inc, zI_dec]) <;> (congr 1 <;> omega))) (by omega) (by decide) ?_
        rw [hR1.1]
        refine s_icmp_eq (tgt := 142) dX12_merges_110 (by decide) (fun h110 => ?_) (fun h110 => absurd ((zI_eq (by omega) (by omega) (by omega) (by omega)).mpr (by omega)) h110)
        refine s_iconst (v := 1) dX12_merges_142 (by decide) ?_
        refine s_goto (tgt := 147) dX12_merges_143 (by decide) ?_
        refine s_istore dX12_merges_147 (by decide) (by simp only [sl, sl2, rm, Value.category, reduceIte, Nat.reduceAdd, Nat.reduceEqDiff, reduceCtorEq]; rfl) ?_
        refine s_iload dX12_merges_149 rfl ?_
        refine s_if_eq (tgt := 170) dX12_merges_151 (by decide) (fun h151 => ?_) (fun h151 => absurd (rfl) h151)
        refine s_aload_n (i := 0) dX12_merges_170 rfl rfl ?_
        refine s_getR dX12_merges_171 fl_X12_53 (by assumption) (by assumption) (by assumption) ?_
        refine s_sipush (v := 1200) dX12_merges_174 (by decide) ?_
        refine s_iload_n (i := 2) dX12_merges_177 rfl rfl ?_
        refine s_imul dX12_merges_178 ?_
        refine s_iload dX12_merges_179 rfl ?_
        refine s_iadd dX12_merges_181 ?_
        refine s_ildn (j := 1200 * b + j) dX12_merges_182 (by assumption) (by assumption) (by assumption) (by first | with_reducible rfl | ((try simp only [z0, z1, zm1, zm2, zm3, zm4, zl2, zl3, zl4, zl5, zl6, zl7, zl8, zl9, zl10, zl20, zl28, zl31, zl32, zl33, zl48, zl57, zl64, zl100, zl127, zl200, zl201, zl202, zl402, zl1200, zl2412, zl16884, zI_add, zI_sub, zI_mul, zI_inc, zI_dec]) <;> (congr 1 <;> omega))) (by omega) (by decide) ?_
        rw [hR2.2 j (by omega)]
        refine s_istore dX12_merges_183 (by decide) (by simp only [sl, sl2, rm, Value.category, reduceIte, Nat.reduceAdd, Nat.reduceEqDiff, reduceCtorEq]; rfl) ?_
        refine ml_mrg01 hM hs (by omega) (by omega) hA (fun hy => by simp only [if_neg hy] at hlen; rw [List.length_append, List.length_cons] at hlen; omega) (fun hy I1 hf1 hp1 hA1 => ih i (j + 1) (A ++ [g2 j]) pr I1 (by omega) (by omega) (by omega) (hR1.j hf1) (hR2.j hf1) hA1 (by simp only [if_neg hy] at hlen; rw [List.append_assoc]; exact hlen) (by rw [hp1]; exact hp) (fun I' hf hA' h => hq I' (hf1.trans hf) (by simp only [if_neg hy]; rw [List.append_assoc] at hA'; exact hA') h)) (fun hn => ih i (j + 1) A pr I (by omega) (by omega) (by omega) hR1 hR2 hA (by simp only [if_pos (show s = 45 by omega)] at hlen; exact hlen) hp (fun I' hf hA' h => hq I' hf (by simp only [if_pos (show s = 45 by omega)]; exact hA') h))
      · have v1 := hV1 i (by omega)
        refine s_iload dX12_merges_11 rfl ?_
        refine s_aload_n (i := 0) dX12_merges_13 rfl rfl ?_
        refine s_getR dX12_merges_14 fl_X12_56 (by assumption) (by assumption) (by assumption) ?_
        refine s_iload_n (i := 1) dX12_merges_17 rfl rfl ?_
        refine s_ildn (j := a) dX12_merges_18 (by assumption) (by assumption) (by assumption) (by first | with_reducible rfl | ((try simp only [z0, z1, zm1, zm2, zm3, zm4, zl2, zl3, zl4, zl5, zl6, zl7, zl8, zl9, zl10, zl20, zl28, zl31, zl32, zl33, zl48, zl57, zl64, zl100, zl127, zl200, zl201, zl202, zl402, zl1200, zl2412, zl16884, zI_add, zI_sub, zI_mul, zI_inc, zI_dec]) <;> (congr 1 <;> omega))) (by omega) (by decide) ?_
        rw [hR1.1]
        refine s_icmp_lt (tgt := 33) dX12_merges_19 (by decide) (fun h19 => ?_) (fun h19 => absurd ((zI_lt (by omega) (by omega) (by omega) (by omega)).mpr (by omega)) h19)
        refine s_iload dX12_merges_33 rfl ?_
        refine s_aload_n (i := 0) dX12_merges_35 rfl rfl ?_
        refine s_getR dX12_merges_36 fl_X12_56 (by assumption) (by assumption) (by assumption) ?_
        refine s_iload_n (i := 1) dX12_merges_39 rfl rfl ?_
        refine s_ildn (j := a) dX12_merges_40 (by assumption) (by assumption) (by assumption) (by first | with_reducible rfl | ((try simp only [z0, z1, zm1, zm2, zm3, zm4, zl2, zl3, zl4, zl5, zl6, zl7, zl8, zl9, zl10, zl20, zl28, zl31, zl32, zl33, zl48, zl57, zl64, zl100, zl127, zl200, zl201, zl202, zl402, zl1200, zl2412, zl16884, zI_add, zI_sub, zI_mul, zI_inc, zI_dec]) <;> (congr 1 <;> omega))) (by omega) (by decide) ?_
        rw [hR1.1]
        refine s_icmp_ge (tgt := 88) dX12_merges_41 (by decide) (fun h41 => absurd h41 (fun h => by rw [zI_le (by omega) (by omega) (by omega) (by omega)] at h; omega)) (fun h41 => ?_)
        refine s_iload dX12_merges_44 rfl ?_
        refine s_aload_n (i := 0) dX12_merges_46 rfl rfl ?_
        refine s_getR dX12_merges_47 fl_X12_56 (by assumption) (by assumption) (by assumption) ?_
        refine s_iload_n (i := 2) dX12_merges_50 rfl rfl ?_
        refine s_ildn (j := b) dX12_merges_51 (by assumption) (by assumption) (by assumption) (by first | with_reducible rfl | ((try simp only [z0, z1, zm1, zm2, zm3, zm4, zl2, zl3, zl4, zl5, zl6, zl7, zl8, zl9, zl10, zl20, zl28, zl31, zl32, zl33, zl48, zl57, zl64, zl100, zl127, zl200, zl201, zl202, zl402, zl1200, zl2412, zl16884, zI_add, zI_sub, zI_mul, zI_inc, zI_dec]) <;> (congr 1 <;> omega))) (by omega) (by decide) ?_
        rw [hR2.1]
        refine s_icmp_eq (tgt := 84) dX12_merges_52 (by decide) (fun h52 => absurd h52 (fun h => by rw [zI_eq (by omega) (by omega) (by omega) (by omega)] at h; omega)) (fun h52 => ?_)
        refine s_aload_n (i := 0) dX12_merges_55 rfl rfl ?_
        refine s_getR dX12_merges_56 fl_X12_53 (by assumption) (by assumption) (by assumption) ?_
        refine s_sipush (v := 1200) dX12_merges_59 (by decide) ?_
        refine s_iload_n (i := 1) dX12_merges_62 rfl rfl ?_
        refine s_imul dX12_merges_63 ?_
        refine s_iload dX12_merges_64 rfl ?_
        refine s_iadd dX12_merges_66 ?_
        refine s_ildn (j := 1200 * a + i) dX12_merges_67 (by assumption) (by assumption) (by assumption) (by first | with_reducible rfl | ((try simp only [z0, z1, zm1, zm2, zm3, zm4, zl2, zl3, zl4, zl5, zl6, zl7, zl8, zl9, zl10, zl20, zl28, zl31, zl32, zl33, zl48, zl57, zl64, zl100, zl127, zl200, zl201, zl202, zl402, zl1200, zl2412, zl16884, zI_add, zI_sub, zI_mul, zI_inc, zI_dec]) <;> (congr 1 <;> omega))) (by omega) (by decide) ?_
        rw [hR1.2 i (by omega)]
        refine s_aload_n (i := 0) dX12_merges_68 rfl rfl ?_
        refine s_getR dX12_merges_69 fl_X12_53 (by assumption) (by assumption) (by assumption) ?_
        refine s_sipush (v := 1200) dX12_merges_72 (by decide) ?_
        refine s_iload_n (i := 2) dX12_merges_75 rfl rfl ?_
        refine s_imul dX12_merges_76 ?_
        refine s_iload dX12_merges_77 rfl ?_
        refine s_iadd dX12_merges_79 ?_
        refine s_ildn (j := 1200 * b + j) dX12_merges_80 (by assumption) (by assumption) (by assumption) (by first | with_reducible rfl | ((try simp only [z0, z1, zm1, zm2, zm3, zm4, zl2, zl3, zl4, zl5, zl6, zl7, zl8, zl9, zl10, zl20, zl28, zl31, zl32, zl33, zl48, zl57, zl64, zl100, zl127, zl200, zl201, zl202, zl402, zl1200, zl2412, zl16884, zI_add, zI_sub, zI_mul, zI_inc, zI_dec]) <;> (congr 1 <;> omega))) (by omega) (by decide) ?_
        rw [hR2.2 j (by omega)]
        refine s_icmp_gt (tgt := 88) dX12_merges_81 (by decide) (fun h81 => ?_) (fun h81 => absurd ((zI_lt (by omega) (by omega) (by omega) (by omega)).mpr (by omega)) h81)
        refine s_iconst (v := 0) dX12_merges_88 (by decide) ?_
        refine s_istore dX12_merges_89 (by decide) (by simp only [sl, sl2, rm, Value.category, reduceIte, Nat.reduceAdd, Nat.reduceEqDiff, reduceCtorEq]; rfl) ?_
        refine s_iload dX12_merges_91 rfl ?_
        refine s_aload_n (i := 0) dX12_merges_93 rfl rfl ?_
        refine s_getR dX12_merges_94 fl_X12_56 (by assumption) (by assumption) (by assumption) ?_
        refine s_iload_n (i := 2) dX12_merges_97 rfl rfl ?_
        refine s_ildn (j := b) dX12_merges_98 (by assumption) (by assumption) (by assumption) (by first | with_reducible rfl | ((try simp only [z0, z1, zm1, zm2, zm3, zm4, zl2, zl3, zl4, zl5, zl6, zl7, zl8, zl9, zl10, zl20, zl28, zl31, zl32, zl33, zl48, zl57, zl64, zl100, zl127, zl200, zl201, zl202, zl402, zl1200, zl2412, zl16884, zI_add, zI_sub, zI_mul, zI_inc, zI_dec]) <;> (congr 1 <;> omega))) (by omega) (by decide) ?_
        rw [hR2.1]
        refine s_icmp_ge (tgt := 146) dX12_merges_99 (by decide) (fun h99 => absurd h99 (fun h => by rw [zI_le (by omega) (by omega) (by omega) (by omega)] at h; omega)) (fun h99 => ?_)
        refine s_iload dX12_merges_102 rfl ?_
        refine s_aload_n (i := 0) dX12_merges_104 rfl rfl ?_
        refine s_getR dX12_merges_105 fl_X12_56 (by assumption) (by assumption) (by assumption) ?_
        refine s_iload_n (i := 1) dX12_merges_108 rfl rfl ?_
        refine s_ildn (j := a) dX12_merges_109 (by assumption) (by assumption) (by assumption) (by first | with_reducible rfl | ((try simp only [z0, z1, zm1, zm2, zm3, zm4, zl2, zl3, zl4, zl5, zl6, zl7, zl8, zl9, zl10, zl20, zl28, zl31, zl32, zl33, zl48, zl57, zl64, zl100, zl127, zl200, zl201, zl202, zl402, zl1200, zl2412, zl16884, zI_add, zI_sub, zI_mul, zI_inc, zI_dec]) <;> (congr 1 <;> omega))) (by omega) (by decide) ?_
        rw [hR1.1]
        refine s_icmp_eq (tgt := 142) dX12_merges_110 (by decide) (fun h110 => absurd h110 (fun h => by rw [zI_eq (by omega) (by omega) (by omega) (by omega)] at h; omega)) (fun h110 => ?_)
        refine s_aload_n (i := 0) dX12_merges_113 rfl rfl ?_
        refine s_getR dX12_merges_114 fl_X12_53 (by assumption) (by assumption) (by assumption) ?_
        refine s_sipush (v := 1200) dX12_merges_117 (by decide) ?_
        refine s_iload_n (i := 2) dX12_merges_120 rfl rfl ?_
        refine s_imul dX12_merges_121 ?_
        refine s_iload dX12_merges_122 rfl ?_
        refine s_iadd dX12_merges_124 ?_
        refine s_ildn (j := 1200 * b + j) dX12_merges_125 (by assumption) (by assumption) (by assumption) (by first | with_reducible rfl | ((try simp only [z0, z1, zm1, zm2, zm3, zm4, zl2, zl3, zl4, zl5, zl6, zl7, zl8, zl9, zl10, zl20, zl28, zl31, zl32, zl33, zl48, zl57, zl64, zl100, zl127, zl200, zl201, zl202, zl402, zl1200, zl2412, zl16884, zI_add, zI_sub, zI_mul, zI_inc, zI_dec]) <;> (congr 1 <;> omega))) (by omega) (by decide) ?_
        rw [hR2.2 j (by omega)]
        refine s_aload_n (i := 0) dX12_merges_126 rfl rfl ?_
        refine s_getR dX12_merges_127 fl_X12_53 (by assumption) (by assumption) (by assumption) ?_
        refine s_sipush (v := 1200) dX12_merges_130 (by decide) ?_
        refine s_iload_n (i := 1) dX12_merges_133 rfl rfl ?_
        refine s_imul dX12_merges_134 ?_
        refine s_iload dX12_merges_135 rfl ?_
        refine s_iadd dX12_merges_137 ?_
        refine s_ildn (j := 1200 * a + i) dX12_merges_138 (by assumption) (by assumption) (by assumption) (by first | with_reducible rfl | ((try simp only [z0, z1, zm1, zm2, zm3, zm4, zl2, zl3, zl4, zl5, zl6, zl7, zl8, zl9, zl10, zl20, zl28, zl31, zl32, zl33, zl48, zl57, zl64, zl100, zl127, zl200, zl201, zl202, zl402, zl1200, zl2412, zl16884, zI_add, zI_sub, zI_mul, zI_inc, zI_dec]) <;> (congr 1 <;> omega))) (by omega) (by decide) ?_
        rw [hR1.2 i (by omega)]
        refine s_icmp_gt (tgt := 146) dX12_merges_139 (by decide) (fun h139 => absurd h139 (fun h => by rw [zI_lt (by omega) (by omega) (by omega) (by omega)] at h; omega)) (fun h139 => ?_)
        refine s_iconst (v := 1) dX12_merges_142 (by decide) ?_
        refine s_goto (tgt := 147) dX12_merges_143 (by decide) ?_
        refine s_istore dX12_merges_147 (by decide) (by simp only [sl, sl2, rm, Value.category, reduceIte, Nat.reduceAdd, Nat.reduceEqDiff, reduceCtorEq]; rfl) ?_
        refine s_iload dX12_merges_149 rfl ?_
        refine s_if_eq (tgt := 170) dX12_merges_151 (by decide) (fun h151 => ?_) (fun h151 => absurd (rfl) h151)
        refine s_aload_n (i := 0) dX12_merges_170 rfl rfl ?_
        refine s_getR dX12_merges_171 fl_X12_53 (by assumption) (by assumption) (by assumption) ?_
        refine s_sipush (v := 1200) dX12_merges_174 (by decide) ?_
        refine s_iload_n (i := 2) dX12_merges_177 rfl rfl ?_
        refine s_imul dX12_merges_178 ?_
        refine s_iload dX12_merges_179 rfl ?_
        refine s_iadd dX12_merges_181 ?_
        refine s_ildn (j := 1200 * b + j) dX12_merges_182 (by assumption) (by assumption) (by assumption) (by first | with_reducible rfl | ((try simp only [z0, z1, zm1, zm2, zm3, zm4, zl2, zl3, zl4, zl5, zl6, zl7, zl8, zl9, zl10, zl20, zl28, zl31, zl32, zl33, zl48, zl57, zl64, zl100, zl127, zl200, zl201, zl202, zl402, zl1200, zl2412, zl16884, zI_add, zI_sub, zI_mul, zI_inc, zI_dec]) <;> (congr 1 <;> omega))) (by omega) (by decide) ?_
        rw [hR2.2 j (by omega)]
        refine s_istore dX12_merges_183 (by decide) (by simp only [sl, sl2, rm, Value.category, reduceIte, Nat.reduceAdd, Nat.reduceEqDiff, reduceCtorEq]; rfl) ?_
        refine ml_mrg01 hM hs (by omega) (by omega) hA (fun hy => by simp only [if_neg hy] at hlen; rw [List.length_append, List.length_cons] at hlen; omega) (fun hy I1 hf1 hp1 hA1 => ih i (j + 1) (A ++ [g2 j]) pr I1 (by omega) (by omega) (by omega) (hR1.j hf1) (hR2.j hf1) hA1 (by simp only [if_neg hy] at hlen; rw [List.append_assoc]; exact hlen) (by rw [hp1]; exact hp) (fun I' hf hA' h => hq I' (hf1.trans hf) (by simp only [if_neg hy]; rw [List.append_assoc] at hA'; exact hA') h)) (fun hn => ih i (j + 1) A pr I (by omega) (by omega) (by omega) hR1 hR2 hA (by simp only [if_pos (show s = 45 by omega)] at hlen; exact hlen) hp (fun I' hf hA' h => hq I' hf (by simp only [if_pos (show s = 45 by omega)]; exact hA') h))
    rw [if_neg e] at hq hlen
    by_cases f : i < m1 ∧ j < m2
    · rw [if_pos f] at hq hlen
      obtain ⟨c1, c2⟩ := f
      have v1 := hV1 i c1
      have v2 := hV2 j c2
      refine s_iload dX12_merges_11 rfl ?_
      refine s_aload_n (i := 0) dX12_merges_13 rfl rfl ?_
      refine s_getR dX12_merges_14 fl_X12_56 (by assumption) (by assumption) (by assumption) ?_
      refine s_iload_n (i := 1) dX12_merges_17 rfl rfl ?_
      refine s_ildn (j := a) dX12_merges_18 (by assumption) (by assumption) (by assumption) (by first | with_reducible rfl | ((try simp only [z0, z1, zm1, zm2, zm3, zm4, zl2, zl3, zl4, zl5, zl6, zl7, zl8, zl9, zl10, zl20, zl28, zl31, zl32, zl33, zl48, zl57, zl64, zl100, zl127, zl200, zl201, zl202, zl402, zl1200, zl2412, zl16884, zI_add, zI_sub, zI_mul, zI_inc, zI_dec]) <;> (congr 1 <;> omega))) (by omega) (by decide) ?_
      rw [hR1.1]
      refine s_icmp_lt (tgt := 33) dX12_merges_19 (by decide) (fun h19 => ?_) (fun h19 => absurd ((zI_lt (by omega) (by omega) (by omega) (by omega)).mpr (by omega)) h19)
      refine s_iload dX12_merges_33 rfl ?_
      refine s_aload_n (i := 0) dX12_merges_35 rfl rfl ?_
      refine s_getR dX12_merges_36 fl_X12_56 (by assumption) (by assumption) (by assumption) ?_
      refine s_iload_n (i := 1) dX12_merges_39 rfl rfl ?_
      refine s_ildn (j := a) dX12_merges_40 (by assumption) (by assumption) (by assumption) (by first | with_reducible rfl | ((try simp only [z0, z1, zm1, zm2, zm3, zm4, zl2, zl3, zl4, zl5, zl6, zl7, zl8, zl9, zl10, zl20, zl28, zl31, zl32, zl33, zl48, zl57, zl64, zl100, zl127, zl200, zl201, zl202, zl402, zl1200, zl2412, zl16884, zI_add, zI_sub, zI_mul, zI_inc, zI_dec]) <;> (congr 1 <;> omega))) (by omega) (by decide) ?_
      rw [hR1.1]
      refine s_icmp_ge (tgt := 88) dX12_merges_41 (by decide) (fun h41 => absurd h41 (fun h => by rw [zI_le (by omega) (by omega) (by omega) (by omega)] at h; omega)) (fun h41 => ?_)
      refine s_iload dX12_merges_44 rfl ?_
      refine s_aload_n (i := 0) dX12_merges_46 rfl rfl ?_
      refine s_getR dX12_merges_47 fl_X12_56 (by assumption) (by assumption) (by assumption) ?_
      refine s_iload_n (i := 2) dX12_merges_50 rfl rfl ?_
      refine s_ildn (j := b) dX12_merges_51 (by assumption) (by assumption) (by assumption) (by first | with_reducible rfl | ((try simp only [z0, z1, zm1, zm2, zm3, zm4, zl2, zl3, zl4, zl5, zl6, zl7, zl8, zl9, zl10, zl20, zl28, zl31, zl32, zl33, zl48, zl57, zl64, zl100, zl127, zl200, zl201, zl202, zl402, zl1200, zl2412, zl16884, zI_add, zI_sub, zI_mul, zI_inc, zI_dec]) <;> (congr 1 <;> omega))) (by omega) (by decide) ?_
      rw [hR2.1]
      refine s_icmp_eq (tgt := 84) dX12_merges_52 (by decide) (fun h52 => absurd h52 (fun h => by rw [zI_eq (by omega) (by omega) (by omega) (by omega)] at h; omega)) (fun h52 => ?_)
      refine s_aload_n (i := 0) dX12_merges_55 rfl rfl ?_
      refine s_getR dX12_merges_56 fl_X12_53 (by assumption) (by assumption) (by assumption) ?_
      refine s_sipush (v := 1200) dX12_merges_59 (by decide) ?_
      refine s_iload_n (i := 1) dX12_merges_62 rfl rfl ?_
      refine s_imul dX12_merges_63 ?_
      refine s_iload dX12_merges_64 rfl ?_
      refine s_iadd dX12_merges_66 ?_
      refine s_ildn (j := 1200 * a + i) dX12_merges_67 (by assumption) (by assumption) (by assumption) (by first | with_reducible rfl | ((try simp only [z0, z1, zm1, zm2, zm3, zm4, zl2, zl3, zl4, zl5, zl6, zl7, zl8, zl9, zl10, zl20, zl28, zl31, zl32, zl33, zl48, zl57, zl64, zl100, zl127, zl200, zl201, zl202, zl402, zl1200, zl2412, zl16884, zI_add, zI_sub, zI_mul, zI_inc, zI_dec]) <;> (congr 1 <;> omega))) (by omega) (by decide) ?_
      rw [hR1.2 i (by omega)]
      refine s_aload_n (i := 0) dX12_merges_68 rfl rfl ?_
      refine s_getR dX12_merges_69 fl_X12_53 (by assumption) (by assumption) (by assumption) ?_
      refine s_sipush (v := 1200) dX12_merges_72 (by decide) ?_
      refine s_iload_n (i := 2) dX12_merges_75 rfl rfl ?_
      refine s_imul dX12_merges_76 ?_
      refine s_iload dX12_merges_77 rfl ?_
      refine s_iadd dX12_merges_79 ?_
      refine s_ildn (j := 1200 * b + j) dX12_merges_80 (by assumption) (by assumption) (by assumption) (by first | with_reducible rfl | ((try simp only [z0, z1, zm1, zm2, zm3, zm4, zl2, zl3, zl4, zl5, zl6, zl7, zl8, zl9, zl10, zl20, zl28, zl31, zl32, zl33, zl48, zl57, zl64, zl100, zl127, zl200, zl201, zl202, zl402, zl1200, zl2412, zl16884, zI_add, zI_sub, zI_mul, zI_inc, zI_dec]) <;> (congr 1 <;> omega))) (by omega) (by decide) ?_
      rw [hR2.2 j (by omega)]
      refine s_icmp_gt (tgt := 88) dX12_merges_81 (by decide) (fun h81 => absurd h81 (fun h => by rw [zI_lt (by omega) (by omega) (by omega) (by omega)] at h; omega)) (fun h81 => ?_)
      refine s_iconst (v := 1) dX12_merges_84 (by decide) ?_
      refine s_goto (tgt := 89) dX12_merges_85 (by decide) ?_
      refine s_istore dX12_merges_89 (by decide) (by simp only [sl, sl2, rm, Value.category, reduceIte, Nat.reduceAdd, Nat.reduceEqDiff, reduceCtorEq]; rfl) ?_
      refine s_iload dX12_merges_91 rfl ?_
      refine s_aload_n (i := 0) dX12_merges_93 rfl rfl ?_
      refine s_getR dX12_merges_94 fl_X12_56 (by assumption) (by assumption) (by assumption) ?_
      refine s_iload_n (i := 2) dX12_merges_97 rfl rfl ?_
      refine s_ildn (j := b) dX12_merges_98 (by assumption) (by assumption) (by assumption) (by first | with_reducible rfl | ((try simp only [z0, z1, zm1, zm2, zm3, zm4, zl2, zl3, zl4, zl5, zl6, zl7, zl8, zl9, zl10, zl20, zl28, zl31, zl32, zl33, zl48, zl57, zl64, zl100, zl127, zl200, zl201, zl202, zl402, zl1200, zl2412, zl16884, zI_add, zI_sub, zI_mul, zI_inc, zI_dec]) <;> (congr 1 <;> omega))) (by omega) (by decide) ?_
      rw [hR2.1]
      refine s_icmp_ge (tgt := 146) dX12_merges_99 (by decide) (fun h99 => absurd h99 (fun h => by rw [zI_le (by omega) (by omega) (by omega) (by omega)] at h; omega)) (fun h99 => ?_)
      refine s_iload dX12_merges_102 rfl ?_
      refine s_aload_n (i := 0) dX12_merges_104 rfl rfl ?_
      refine s_getR dX12_merges_105 fl_X12_56 (by assumption) (by assumption) (by assumption) ?_
      refine s_iload_n (i := 1) dX12_merges_108 rfl rfl ?_
      refine s_ildn (j := a) dX12_merges_109 (by assumption) (by assumption) (by assumption) (by first | with_reducible rfl | ((try simp only [z0, z1, zm1, zm2, zm3, zm4, zl2, zl3, zl4, zl5, zl6, zl7, zl8, zl9, zl10, zl20, zl28, zl31, zl32, zl33, zl48, zl57, zl64, zl100, zl127, zl200, zl201, zl202, zl402, zl1200, zl2412, zl16884, zI_add, zI_sub, zI_mul, zI_inc, zI_dec]) <;> (congr 1 <;> omega))) (by omega) (by decide) ?_
      rw [hR1.1]
      refine s_icmp_eq (tgt := 142) dX12_merges_110 (by decide) (fun h110 => absurd h110 (fun h => by rw [zI_eq (by omega) (by omega) (by omega) (by omega)] at h; omega)) (fun h110 => ?_)
      refine s_aload_n (i := 0) dX12_merges_113 rfl rfl ?_
      refine s_getR dX12_merges_114 fl_X12_53 (by assumption) (by assumption) (by assumption) ?_
      refine s_sipush (v := 1200) dX12_merges_117 (by decide) ?_
      refine s_iload_n (i := 2) dX12_merges_120 rfl rfl ?_
      refine s_imul dX12_merges_121 ?_
      refine s_iload dX12_merges_122 rfl ?_
      refine s_iadd dX12_merges_124 ?_
      refine s_ildn (j := 1200 * b + j) dX12_merges_125 (by assumption) (by assumption) (by assumption) (by first | with_reducible rfl | ((try simp only [z0, z1, zm1, zm2, zm3, zm4, zl2, zl3, zl4, zl5, zl6, zl7, zl8, zl9, zl10, zl20, zl28, zl31, zl32, zl33, zl48, zl57, zl64, zl100, zl127, zl200, zl201, zl202, zl402, zl1200, zl2412, zl16884, zI_add, zI_sub, zI_mul, zI_inc, zI_dec]) <;> (congr 1 <;> omega))) (by omega) (by decide) ?_
      rw [hR2.2 j (by omega)]
      refine s_aload_n (i := 0) dX12_merges_126 rfl rfl ?_
      refine s_getR dX12_merges_127 fl_X12_53 (by assumption) (by assumption) (by assumption) ?_
      refine s_sipush (v := 1200) dX12_merges_130 (by decide) ?_
      refine s_iload_n (i := 1) dX12_merges_133 rfl rfl ?_
      refine s_imul dX12_merges_134 ?_
      refine s_iload dX12_merges_135 rfl ?_
      refine s_iadd dX12_merges_137 ?_
      refine s_ildn (j := 1200 * a + i) dX12_merges_138 (by assumption) (by assumption) (by assumption) (by first | with_reducible rfl | ((try simp only [z0, z1, zm1, zm2, zm3, zm4, zl2, zl3, zl4, zl5, zl6, zl7, zl8, zl9, zl10, zl20, zl28, zl31, zl32, zl33, zl48, zl57, zl64, zl100, zl127, zl200, zl201, zl202, zl402, zl1200, zl2412, zl16884, zI_add, zI_sub, zI_mul, zI_inc, zI_dec]) <;> (congr 1 <;> omega))) (by omega) (by decide) ?_
      rw [hR1.2 i (by omega)]
      refine s_icmp_gt (tgt := 146) dX12_merges_139 (by decide) (fun h139 => absurd h139 (fun h => by rw [zI_lt (by omega) (by omega) (by omega) (by omega)] at h; omega)) (fun h139 => ?_)
      refine s_iconst (v := 1) dX12_merges_142 (by decide) ?_
      refine s_goto (tgt := 147) dX12_merges_143 (by decide) ?_
      refine s_istore dX12_merges_147 (by decide) (by simp only [sl, sl2, rm, Value.category, reduceIte, Nat.reduceAdd, Nat.reduceEqDiff, reduceCtorEq]; rfl) ?_
      refine s_iload dX12_merges_149 rfl ?_
      refine s_if_eq (tgt := 170) dX12_merges_151 (by decide) (fun h151 => absurd h151 (by decide)) (fun h151 => ?_)
      refine s_aload_n (i := 0) dX12_merges_154 rfl rfl ?_
      refine s_getR dX12_merges_155 fl_X12_53 (by assumption) (by assumption) (by assumption) ?_
      refine s_sipush (v := 1200) dX12_merges_158 (by decide) ?_
      refine s_iload_n (i := 1) dX12_merges_161 rfl rfl ?_
      refine s_imul dX12_merges_162 ?_
      refine s_iload dX12_merges_163 rfl ?_
      refine s_iadd dX12_merges_165 ?_
      refine s_ildn (j := 1200 * a + i) dX12_merges_166 (by assumption) (by assumption) (by assumption) (by first | with_reducible rfl | ((try simp only [z0, z1, zm1, zm2, zm3, zm4, zl2, zl3, zl4, zl5, zl6, zl7, zl8, zl9, zl10, zl20, zl28, zl31, zl32, zl33, zl48, zl57, zl64, zl100, zl127, zl200, zl201, zl202, zl402, zl1200, zl2412, zl16884, zI_add, zI_sub, zI_mul, zI_inc, zI_dec]) <;> (congr 1 <;> omega))) (by omega) (by decide) ?_
      rw [hR1.2 i (by omega)]
      refine s_goto (tgt := 183) dX12_merges_167 (by decide) ?_
      refine s_istore dX12_merges_183 (by decide) (by simp only [sl, sl2, rm, Value.category, reduceIte, Nat.reduceAdd, Nat.reduceEqDiff, reduceCtorEq]; rfl) ?_
      refine ml_mrg11 hM hs (by omega) (by omega) hA (fun hy => by simp only [if_pos hy] at hlen; rw [List.length_append, List.length_cons] at hlen; omega) (fun hy I1 hf1 hp1 hA1 => ih (i + 1) (j + 1) (A ++ [g1 i]) pr I1 (by omega) (by omega) (by omega) (hR1.j hf1) (hR2.j hf1) hA1 (by simp only [if_pos hy] at hlen; rw [List.append_assoc]; exact hlen) (by rw [hp1]; exact hp) (fun I' hf hA' h => hq I' (hf1.trans hf) (by simp only [if_pos hy]; rw [List.append_assoc] at hA'; exact hA') h)) (fun hn => ih (i + 1) (j + 1) A pr I (by omega) (by omega) (by omega) hR1 hR2 hA (by simp only [if_neg hn] at hlen; exact hlen) hp (fun I' hf hA' h => hq I' hf (by simp only [if_neg hn]; exact hA') h))
    rw [if_neg f, List.append_nil] at hq
    refine s_iload dX12_merges_11 rfl ?_
    refine s_aload_n (i := 0) dX12_merges_13 rfl rfl ?_
    refine s_getR dX12_merges_14 fl_X12_56 (by assumption) (by assumption) (by assumption) ?_
    refine s_iload_n (i := 1) dX12_merges_17 rfl rfl ?_
    refine s_ildn (j := a) dX12_merges_18 (by assumption) (by assumption) (by assumption) (by first | with_reducible rfl | ((try simp only [z0, z1, zm1, zm2, zm3, zm4, zl2, zl3, zl4, zl5, zl6, zl7, zl8, zl9, zl10, zl20, zl28, zl31, zl32, zl33, zl48, zl57, zl64, zl100, zl127, zl200, zl201, zl202, zl402, zl1200, zl2412, zl16884, zI_add, zI_sub, zI_mul, zI_inc, zI_dec]) <;> (congr 1 <;> omega))) (by omega) (by decide) ?_
    rw [hR1.1]
    refine s_icmp_lt (tgt := 33) dX12_merges_19 (by decide) (fun h19 => absurd h19 (fun h => by rw [zI_lt (by omega) (by omega) (by omega) (by omega)] at h; omega)) (fun h19 => ?_)
    refine s_iload dX12_merges_22 rfl ?_
    refine s_aload_n (i := 0) dX12_merges_24 rfl rfl ?_
    refine s_getR dX12_merges_25 fl_X12_56 (by assumption) (by assumption) (by assumption) ?_
    refine s_iload_n (i := 2) dX12_merges_28 rfl rfl ?_
    refine s_ildn (j := b) dX12_merges_29 (by assumption) (by assumption) (by assumption) (by first | with_reducible rfl | ((try simp only [z0, z1, zm1, zm2, zm3, zm4, zl2, zl3, zl4, zl5, zl6, zl7, zl8, zl9, zl10, zl20, zl28, zl31, zl32, zl33, zl48, zl57, zl64, zl100, zl127, zl200, zl201, zl202, zl402, zl1200, zl2412, zl16884, zI_add, zI_sub, zI_mul, zI_inc, zI_dec]) <;> (congr 1 <;> omega))) (by omega) (by decide) ?_
    rw [hR2.1]
    refine s_icmp_ge (tgt := 268) dX12_merges_30 (by decide) (fun h30 => ?_) (fun h30 => absurd ((zI_le (by omega) (by omega) (by omega) (by omega)).mpr (by omega)) h30)
    refine s_ret dX12_merges_268 rfl ?_
    exact hq I (frJ.refl I) hA hp
set_option maxRecDepth 100000 in
set_option maxHeartbeats 1000000 in
theorem m_merges {G : fG} {x0 : Nat} {l : Launch} {d k n : Nat} {T : fT} {I : fI} {J : fJ} {Q : Option Value → fT → fI → fJ → Prop} {a b m1 m2 : Nat} {g1 g2 : Nat → Int} {s : Int} (hM : MObj T) (ha : a < 24) (hb : b < 24) (hm1 : m1 ≤ 1200) (hm2 : m2 ≤ 1200) (hV1 : Vok g1 m1) (hV2 : Vok g2 m2) (hs : 0 ≤ s ∧ s ≤ 127) {pr : Int} (hR1 : MRow I a g1 m1) (hR2 : MRow I b g2 m2) (hlen : (mrgL s g1 m1 g2 m2 (m1 + m2) 0 0).length ≤ 1200) (hp : I 144 28 = zI pr) (hq : ∀ I', frJ I I' → OutM I' (mrgL s g1 m1 g2 m2 (m1 + m2) 0 0) → I' 144 28 = zI pr → Q none T I' J) : PW G x0 l mX12_merges (d + 1) (ZM G x0 Q) k n 0 [(0, .ref (x0 + 144)), (1, .int (zI a)), (2, .int (zI b)), (3, .int (zI s))] [] T I J := by
  obtain ⟨o1, o2⟩ := hM.o
  obtain ⟨r158, b158, k158, n158⟩ := hM.a158
  obtain ⟨r157, b157, k157, n157⟩ := hM.a157
  have hf0 : frJ I (iu I 144 27 0) := ⟨fr_iu (by simp), fun j h _ => iu_j h⟩
  refine s_aload_n (i := 0) dX12_merges_0 rfl rfl ?_
  refine s_iconst (v := 0) dX12_merges_1 (by decide) ?_
  refine s_putI dX12_merges_2 fp_X12_233 (by assumption) (by assumption) ?_
  refine s_iconst (v := 0) dX12_merges_5 (by decide) ?_
  refine s_istore dX12_merges_6 (by decide) (by simp only [sl, sl2, rm, Value.category, reduceIte, Nat.reduceAdd, Nat.reduceEqDiff, reduceCtorEq]; rfl) ?_
  refine s_iconst (v := 0) dX12_merges_8 (by decide) ?_
  refine s_istore dX12_merges_9 (by decide) (by simp only [sl, sl2, rm, Value.category, reduceIte, Nat.reduceAdd, Nat.reduceEqDiff, reduceCtorEq]; rfl) ?_
  exact ml_merges hM ha hb hm1 hm2 hV1 hV2 hs (m1 + m2) 0 0 [] pr _ (by omega) (Nat.zero_le _) (Nat.zero_le _) (hR1.j hf0) (hR2.j hf0) ⟨iu_at, fun q h => absurd h (Nat.not_lt_zero q)⟩ hlen (by rw [iu_j (by omega)]; exact hp) (fun I' hf hA h => hq I' (hf0.trans hf) hA h)
set_option maxRecDepth 100000 in
set_option maxHeartbeats 1000000 in
theorem ml_joins {G : fG} {x0 : Nat} {l : Launch} {d k n : Nat} {T : fT} {J : fJ} {Q : Option Value → fT → fI → fJ → Prop} {a b : Nat} {s : Int} {A : List Int} (hM : MObj T) (ha : a < 24) (hl : A.length ≤ 1200) : ∀ (t i : Nat) (I : fI), i + t = A.length → OutM I A → (∀ q, q < i → I 157 (1200 * a + q) = zI (lfn A q)) → (∀ I', fr I I' [157] → (∀ q, ¬ (1200 * a ≤ q ∧ q < 1200 * a + 1200) → I' 157 q = I 157 q) → (∀ q, q < A.length → I' 157 (1200 * a + q) = zI (lfn A q)) → Q none T I' J) → PW G x0 l mX12_joins (d + 3) (ZM G x0 Q) k n 35 [(0, .ref (x0 + 144)), (1, .int (zI a)), (2, .int (zI b)), (3, .int (zI s)), (4, .int (zI i))] [] T I J := by
  obtain ⟨o1, o2⟩ := hM.o
  obtain ⟨r158, b158, k158, n158⟩ := hM.a158
  obtain ⟨r157, b157, k157, n157⟩ := hM.a157
  obtain ⟨r159, b159, k159, n159⟩ := hM.a159
  intro t
  induction t with
  | zero =>
    intro i I ht hA hd hq
    have hi : i = A.length := by omega
    subst hi
    refine s_iload dX12_joins_35 rfl ?_
    refine s_aload_n (i := 0) dX12_joins_37 rfl rfl ?_
    refine s_getI dX12_joins_38 fl_X12_233 (by assumption) (by assumption) ?_
    rw [hA.1]
    refine s_icmp_ge (tgt := 70) dX12_joins_41 (by decide) (fun h41 => ?_) (fun h41 => absurd ((zI_le (by omega) (by omega) (by omega) (by omega)).mpr (by omega)) h41)
    refine s_ret dX12_joins_70 rfl ?_
    exact hq I (fr_refl I _) (fun _ _ => rfl) hd
  | succ t ih =>
    intro i I ht hA hd hq
    refine s_iload dX12_joins_35 rfl ?_
    refine s_aload_n (i := 0) dX12_joins_37 rfl rfl ?_
    refine s_getI dX12_joins_38 fl_X12_233 (by assumption) (by assumption) ?_
    rw [hA.1]
    refine s_icmp_ge (tgt := 70) dX12_joins_41 (by decide) (fun h41 => absurd h41 (fun h => by rw [zI_le (by omega) (by omega) (by omega) (by omega)] at h; omega)) (fun h41 => ?_)
    refine s_aload_n (i := 0) dX12_joins_44 rfl rfl ?_
    refine s_getR dX12_joins_45 fl_X12_53 (by assumption) (by assumption) (by assumption) ?_
    refine s_sipush (v := 1200) dX12_joins_48 (by decide) ?_
    refine s_iload_n (i := 1) dX12_joins_51 rfl rfl ?_
    refine s_imul dX12_joins_52 ?_
    refine s_iload dX12_joins_53 rfl ?_
    refine s_iadd dX12_joins_55 ?_
    refine s_aload_n (i := 0) dX12_joins_56 rfl rfl ?_
    refine s_getR dX12_joins_57 fl_X12_59 (by assumption) (by assumption) (by assumption) ?_
    refine s_iload dX12_joins_60 rfl ?_
    refine s_ildn (j := i) dX12_joins_62 (by assumption) (by assumption) (by assumption) (by first | with_reducible rfl | ((try simp only [z0, z1, zm1, zm2, zm3, zm4, zl2, zl3, zl4, zl5, zl6, zl7, zl8, zl9, zl10, zl20, zl28, zl31, zl32, zl33, zl48, zl57, zl64, zl100, zl127, zl200, zl201, zl202, zl402, zl1200, zl2412, zl16884, zI_add, zI_sub, zI_mul, zI_inc, zI_dec]) <;> (congr 1 <;> omega))) (by omega) (by decide) ?_
    rw [hA.2 i (by omega)]
    refine s_istn (j := 1200 * a + i) dX12_joins_63 (by assumption) (by assumption) (by assumption) (by first | with_reducible rfl | ((try simp only [z0, z1, zm1, zm2, zm3, zm4, zl2, zl3, zl4, zl5, zl6, zl7, zl8, zl9, zl10, zl20, zl28, zl31, zl32, zl33, zl48, zl57, zl64, zl100, zl127, zl200, zl201, zl202, zl402, zl1200, zl2412, zl16884, zI_add, zI_sub, zI_mul, zI_inc, zI_dec]) <;> (congr 1 <;> omega))) (by omega) (by decide) ?_
    refine s_iinc dX12_joins_64 rfl (zI_inc _) (by decide) (by simp only [sl, sl2, rm, Value.category, reduceIte, Nat.reduceAdd, Nat.reduceEqDiff, reduceCtorEq]; rfl) ?_
    refine s_goto (tgt := 35) dX12_joins_67 (by decide) ?_
    refine ih (i + 1) _ (by omega) ⟨by rw [iu_ne (by omega)]; exact hA.1, by rw [iu_ne (by omega)]; exact hA.2⟩ (fun q h => ?_) (fun I' hf ho hd' => hq I' (fr_trans (fr_iu (by simp)) hf) (fun q h => by rw [ho q h, iu_j (by omega)]) hd')
    by_cases e : q = i
    · subst e; exact iu_at
    · rw [iu_j (by omega)]; exact hd q (by omega)
set_option maxRecDepth 100000 in
set_option maxHeartbeats 1000000 in
theorem m_joins {G : fG} {x0 : Nat} {l : Launch} {d k n : Nat} {T : fT} {I : fI} {J : fJ} {Q : Option Value → fT → fI → fJ → Prop} {g : Nat → Nat → Int} {m : Nat → Nat} {AL : List Int} {ta tb : Int64} {a b : Nat} {s pr : Int} (hM : MObj T) (ha : a < 24) (hb : b < 24) (hAs : srt AL) (hAl : AL.length ≤ 1200) (hAv : ∀ v, v ∈ AL → 0 ≤ v ∧ v ≤ 999999) (hs : s = 38 ∨ s = 124 ∨ s = 45 ∨ s = 94) (hR1 : MRow I a (lfn (rowT g m AL ta)) (rowT g m AL ta).length) (hR2 : MRow I b (lfn (rowT g m AL tb)) (rowT g m AL tb).length) (hp : I 144 28 = zI pr) (hq : ∀ I', fr I I' [144, 157, 158, 159] → (∀ j, j ≠ 27 → j ≠ 28 → I' 144 j = I 144 j) → (∀ q, q ≠ a → I' 158 q = I 158 q) → (∀ q, ¬ (1200 * a ≤ q ∧ q < 1200 * a + 1200) → I' 157 q = I 157 q) → MRow I' a (lfn (rowT g m AL (jop s ta tb))) (rowT g m AL (jop s ta tb)).length → I' 144 28 = zI (pr + jpr g m AL s ta tb) → Q none T I' J) : PW G x0 l mX12_joins (d + 3) (ZM G x0 Q) k n 0 [(0, .ref (x0 + 144)), (1, .int (zI a)), (2, .int (zI b)), (3, .int (zI s))] [] T I J := by
  obtain ⟨o1, o2⟩ := hM.o
  obtain ⟨r158, b158, k158, n158⟩ := hM.a158
  obtain ⟨r157, b157, k157, n157⟩ := hM.a157
  obtain ⟨r159, b159, k159, n159⟩ := hM.a159
  have hV : ∀ t, Vok (lfn (rowT g m AL t)) (rowT g m AL t).length := fun t q h => by rw [lfn_at h]; exact hAv _ (rowT_mem.mp (List.getElem_mem h)).1
  have hla : (rowT g m AL ta).length ≤ 1200 := Nat.le_trans rowT_len hAl
  have hlb : (rowT g m AL tb).length ≤ 1200 := Nat.le_trans rowT_len hAl
  by_cases es : s = 38
  · have hj : jop s ta tb = ta &&& tb := by unfold jop; rw [if_neg (by omega), if_neg (by omega), if_neg (by omega)]
    have hjp : jpr g m AL s ta tb = ((gint (lfn (rowT g m AL ta)) (rowT g m AL ta).length (lfn (rowT g m AL tb)) (rowT g m AL tb).length ((rowT g m AL ta).length + (rowT g m AL tb).length) 0 0).2 : Int) := by unfold jpr; rw [if_neg (by omega), if_neg (by omega), if_neg (by omega)]
    refine s_iload_n (i := 3) dX12_joins_0 rfl rfl ?_
    refine s_bipush (v := 38) dX12_joins_1 (by decide) ?_
    refine s_icmp_ne (tgt := 15) dX12_joins_3 (by decide) (fun h3 => absurd h3 (fun h => h (by rw [es]; rfl))) (fun h3 => ?_)
    refine s_aload_n (i := 0) dX12_joins_6 rfl rfl ?_
    refine s_iload_n (i := 1) dX12_joins_7 rfl rfl ?_
    refine s_iload_n (i := 2) dX12_joins_8 rfl rfl ?_
    refine s_cV_II (My := mX12_intersects) dX12_joins_9 wM_X12_273 cb_yX12_intersects ci_yX12_intersects (by assumption) (by assumption) (Nat.le_of_ble_eq_true rfl) (by decide) (s_d (by omega) (m_inter (d := 0) hM ha hb hla hlb (hV ta) (hV tb) hR1 hR2 hp (fun I1 hf1 hA1 hp1 => ?_)))
    refine s_goto (tgt := 22) dX12_joins_12 (by decide) ?_
    rw [rowT_and hAs, ← hj] at hA1
    rw [← hjp] at hp1
    refine s_aload_n (i := 0) dX12_joins_22 rfl rfl ?_
    refine s_getR dX12_joins_23 fl_X12_56 (by assumption) (by assumption) (by assumption) ?_
    refine s_iload_n (i := 1) dX12_joins_26 rfl rfl ?_
    refine s_aload_n (i := 0) dX12_joins_27 rfl rfl ?_
    refine s_getI dX12_joins_28 fl_X12_233 (by assumption) (by assumption) ?_
    rw [hA1.1]
    refine s_istn (j := a) dX12_joins_31 (by assumption) (by assumption) (by assumption) (by first | with_reducible rfl | ((try simp only [z0, z1, zm1, zm2, zm3, zm4, zl2, zl3, zl4, zl5, zl6, zl7, zl8, zl9, zl10, zl20, zl28, zl31, zl32, zl33, zl48, zl57, zl64, zl100, zl127, zl200, zl201, zl202, zl402, zl1200, zl2412, zl16884, zI_add, zI_sub, zI_mul, zI_inc, zI_dec]) <;> (congr 1 <;> omega))) (by omega) (by decide) ?_
    refine s_iconst (v := 0) dX12_joins_32 (by decide) ?_
    refine s_istore dX12_joins_33 (by decide) (by simp only [sl, sl2, rm, Value.category, reduceIte, Nat.reduceAdd, Nat.reduceEqDiff, reduceCtorEq]; rfl) ?_
    refine ml_joins (A := rowT g m AL (jop s ta tb)) hM ha (Nat.le_trans rowT_len hAl) (rowT g m AL (jop s ta tb)).length 0 _ (by omega) ⟨by rw [iu_ne (by omega)]; exact hA1.1, by rw [iu_ne (by omega)]; exact hA1.2⟩ (fun q h => absurd h (Nat.not_lt_zero q)) (fun I' hf ho hd => hq I' (fun c hc => ?_) (fun j h1 h2 => ?_) (fun q h => ?_) (fun q h => ?_) ⟨?_, hd⟩ ?_)
    · simp at hc
      rw [hf c (by simp; omega), iu_ne (by omega), hf1.1 c (by simp; omega)]
    · rw [hf 144 (by decide), iu_ne (by omega), hf1.2 j h1 h2]
    · rw [hf 158 (by decide), iu_j h, hf1.1 158 (by decide)]
    · rw [ho q h, iu_ne (by omega), hf1.1 157 (by decide)]
    · rw [hf 158 (by decide), iu_at]
    · rw [hf 144 (by decide), iu_ne (by omega), hp1]
  · have hjp : jpr g m AL s ta tb = 0 := by
      unfold jpr
      rcases (show s = 124 ∨ s = 45 ∨ s = 94 by omega) with h | h | h
      · rw [if_pos h]
      · rw [if_neg (by omega), if_pos h]
      · rw [if_neg (by omega), if_neg (by omega), if_pos h]
    have hmr := rowT_mrg (g := g) (m := m) (a := ta) (b := tb) hAs (show s = 124 ∨ s = 45 ∨ s = 94 by omega)
    refine s_iload_n (i := 3) dX12_joins_0 rfl rfl ?_
    refine s_bipush (v := 38) dX12_joins_1 (by decide) ?_
    refine s_icmp_ne (tgt := 15) dX12_joins_3 (by decide) (fun h3 => ?_) (fun h3 => absurd h3 (fun h => es (by rw [zl38, zI_eq (by omega) (by omega) (by omega) (by omega)] at h; exact h)))
    refine s_aload_n (i := 0) dX12_joins_15 rfl rfl ?_
    refine s_iload_n (i := 1) dX12_joins_16 rfl rfl ?_
    refine s_iload_n (i := 2) dX12_joins_17 rfl rfl ?_
    refine s_iload_n (i := 3) dX12_joins_18 rfl rfl ?_
    refine s_cV_III (My := mX12_merges) dX12_joins_19 wM_X12_276 cb_yX12_merges ci_yX12_merges (by assumption) (by assumption) (Nat.le_of_ble_eq_true rfl) (by decide) (s_d (by omega) (m_merges (d := 0) (s := s) hM ha hb hla hlb (hV ta) (hV tb) (by omega) hR1 hR2 (by rw [hmr]; exact Nat.le_trans rowT_len hAl) hp (fun I1 hf1 hA1 hp1 => ?_)))
    rw [hmr] at hA1
    rw [hjp, Int.add_zero] at hq
    refine s_aload_n (i := 0) dX12_joins_22 rfl rfl ?_
    refine s_getR dX12_joins_23 fl_X12_56 (by assumption) (by assumption) (by assumption) ?_
    refine s_iload_n (i := 1) dX12_joins_26 rfl rfl ?_
    refine s_aload_n (i := 0) dX12_joins_27 rfl rfl ?_
    refine s_getI dX12_joins_28 fl_X12_233 (by assumption) (by assumption) ?_
    rw [hA1.1]
    refine s_istn (j := a) dX12_joins_31 (by assumption) (by assumption) (by assumption) (by first | with_reducible rfl | ((try simp only [z0, z1, zm1, zm2, zm3, zm4, zl2, zl3, zl4, zl5, zl6, zl7, zl8, zl9, zl10, zl20, zl28, zl31, zl32, zl33, zl48, zl57, zl64, zl100, zl127, zl200, zl201, zl202, zl402, zl1200, zl2412, zl16884, zI_add, zI_sub, zI_mul, zI_inc, zI_dec]) <;> (congr 1 <;> omega))) (by omega) (by decide) ?_
    refine s_iconst (v := 0) dX12_joins_32 (by decide) ?_
    refine s_istore dX12_joins_33 (by decide) (by simp only [sl, sl2, rm, Value.category, reduceIte, Nat.reduceAdd, Nat.reduceEqDiff, reduceCtorEq]; rfl) ?_
    refine ml_joins (A := rowT g m AL (jop s ta tb)) hM ha (Nat.le_trans rowT_len hAl) (rowT g m AL (jop s ta tb)).length 0 _ (by omega) ⟨by rw [iu_ne (by omega)]; exact hA1.1, by rw [iu_ne (by omega)]; exact hA1.2⟩ (fun q h => absurd h (Nat.not_lt_zero q)) (fun I' hf ho hd => hq I' (fun c hc => ?_) (fun j h1 h2 => ?_) (fun q h => ?_) (fun q h => ?_) ⟨?_, hd⟩ ?_)
    · simp at hc
      rw [hf c (by simp; omega), iu_ne (by omega), hf1.1 c (by simp; omega)]
    · rw [hf 144 (by decide), iu_ne (by omega), hf1.2 j h1 h2]
    · rw [hf 158 (by decide), iu_j h, hf1.1 158 (by decide)]
    · rw [ho q h, iu_ne (by omega), hf1.1 157 (by decide)]
    · rw [hf 158 (by decide), iu_at]
    · rw [hf 144 (by decide), iu_ne (by omega), hp1]
