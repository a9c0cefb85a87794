set_option maxRecDepth 100000 in
set_option maxHeartbeats 1000000 in
theorem lc_add {G : fG} {x0 : Nat} {l : Launch} {k n : Nat} {nm : String} {b L : Nat} {xs : Nat → Int32} {T : fT} {I : fI} {J : fJ} {S : ASt} {i : Nat} (hL : L ≤ 2560) (hi : i + 5 ≤ L) (hLI : LI T I S i) (kk : ∀ (T' : fT) (I' : fI) (J' : fJ) (S' : ASt), LI T' I' S' (i + 5) → PW G x0 l (mLaw nm) 12 (ZL b L xs x0) k n 878 [(0, .ref b), (1, .ref (x0 + 0)), (2, .ref (x0 + 144)), (3, .int (zI i))] [] T' I' J') : PW G x0 l (mLaw nm) 12 (ZL b L xs x0) (k + 13) (n + 6124) 144 [(0, .ref b), (1, .ref (x0 + 0)), (2, .ref (x0 + 144)), (3, .int (zI i))] [] T I J := by
  obtain ⟨hC, hM, hk, hN, n1, n2⟩ := id hLI
  obtain ⟨⟨o1, o2, -⟩, -⟩ := id hC.1
  have e0 : (0 : Nat) < T.1 := by omega
  refine s_kn (k' := k) (n' := n) (by omega) (by omega) ?_
  refine s_aload_n (i := 1) dL_law_144 rfl rfl ?_
  refine s_aload_n (i := 0) dL_law_145 rfl rfl ?_
  refine s_iload_n (i := 3) dL_law_146 rfl rfl ?_
  refine s_iconst (v := 1) dL_law_147 (by decide) ?_
  refine s_iadd dL_law_148 ?_
  refine s_sld (j := i + 1) dL_law_149 (by first | with_reducible rfl | ((try simp only [z0, z1, zm1, zm2, zm3, zm4, zl2, zl3, zl4, zl5, zl6, zl7, zl8, zl9, zl10, zl20, zl28, zl31, zl32, zl33, zl48, zl57, zl64, zl100, zl127, zl200, zl201, zl202, zl402, zl1200, zl2412, zl16884, zI_add, zI_sub, zI_mul, zI_inc, zI_dec]) <;> (congr 1 <;> omega))) (by omega) hL ?_
  refine s_aload_n (i := 0) dL_law_150 rfl rfl ?_
  refine s_iload_n (i := 3) dL_law_151 rfl rfl ?_
  refine s_iconst (v := 2) dL_law_152 (by decide) ?_
  refine s_iadd dL_law_153 ?_
  refine s_sld (j := i + 2) dL_law_154 (by first | with_reducible rfl | ((try simp only [z0, z1, zm1, zm2, zm3, zm4, zl2, zl3, zl4, zl5, zl6, zl7, zl8, zl9, zl10, zl20, zl28, zl31, zl32, zl33, zl48, zl57, zl64, zl100, zl127, zl200, zl201, zl202, zl402, zl1200, zl2412, zl16884, zI_add, zI_sub, zI_mul, zI_inc, zI_dec]) <;> (congr 1 <;> omega))) (by omega) hL ?_
  refine s_cV_II (My := mX11_add) dL_law_155 wM_L_13 cb_yX11_add ci_yX11_add e0 o2 (Nat.le_of_ble_eq_true rfl) (by decide) (s_d (by omega) (c_add (d := 0) hC hk (fun T1 I1 a S1 hr hq1 hf1 hC1 => ?_)))
  have hM1 := hM.m hq1.m hf1
  have om := hM1.1.o
  refine s_aload_n (i := 2) dL_law_158 rfl rfl ?_
  refine s_aload_n (i := 0) dL_law_159 rfl rfl ?_
  refine s_iload_n (i := 3) dL_law_160 rfl rfl ?_
  refine s_iconst (v := 1) dL_law_161 (by decide) ?_
  refine s_iadd dL_law_162 ?_
  refine s_sld (j := i + 1) dL_law_163 (by first | with_reducible rfl | ((try simp only [z0, z1, zm1, zm2, zm3, zm4, zl2, zl3, zl4, zl5, zl6, zl7, zl8, zl9, zl10, zl20, zl28, zl31, zl32, zl33, zl48, zl57, zl64, zl100, zl127, zl200, zl201, zl202, zl402, zl1200, zl2412, zl16884, zI_add, zI_sub, zI_mul, zI_inc, zI_dec]) <;> (congr 1 <;> omega))) (by omega) hL ?_
  refine s_aload_n (i := 0) dL_law_164 rfl rfl ?_
  refine s_iload_n (i := 3) dL_law_165 rfl rfl ?_
  refine s_iconst (v := 2) dL_law_166 (by decide) ?_
  refine s_iadd dL_law_167 ?_
  refine s_sld (j := i + 2) dL_law_168 (by first | with_reducible rfl | ((try simp only [z0, z1, zm1, zm2, zm3, zm4, zl2, zl3, zl4, zl5, zl6, zl7, zl8, zl9, zl10, zl20, zl28, zl31, zl32, zl33, zl48, zl57, zl64, zl100, zl127, zl200, zl201, zl202, zl402, zl1200, zl2412, zl16884, zI_add, zI_sub, zI_mul, zI_inc, zI_dec]) <;> (congr 1 <;> omega))) (by omega) hL ?_
  refine s_cV_II (My := mX12_add) dL_law_169 wM_L_17 cb_yX12_add ci_yX12_add om.1 om.2 (Nat.le_of_ble_eq_true rfl) (by decide) (s_d (by omega) (m_add (d := 0) hM1 hk hr (fun I2 hf2 hM2 => ?_)))
  refine s_icmp_eq (tgt := 878) dL_law_172 (by decide) (fun _ => ?_) (fun h => absurd rfl h)
  exact kk T1 I2 J S1 (hLI.st (hr.st hk) (fun _ => hq1.1) hC1 hf2 hM2)
set_option maxRecDepth 100000 in
set_option maxHeartbeats 1000000 in
theorem lc_remove {G : fG} {x0 : Nat} {l : Launch} {k n : Nat} {nm : String} {b L : Nat} {xs : Nat → Int32} {T : fT} {I : fI} {J : fJ} {S : ASt} {i : Nat} (hL : L ≤ 2560) (hi : i + 5 ≤ L) (hLI : LI T I S i) (kk : ∀ (T' : fT) (I' : fI) (J' : fJ) (S' : ASt), LI T' I' S' (i + 5) → PW G x0 l (mLaw nm) 12 (ZL b L xs x0) k n 878 [(0, .ref b), (1, .ref (x0 + 0)), (2, .ref (x0 + 144)), (3, .int (zI i))] [] T' I' J') : PW G x0 l (mLaw nm) 12 (ZL b L xs x0) (k + 13) (n + 6124) 177 [(0, .ref b), (1, .ref (x0 + 0)), (2, .ref (x0 + 144)), (3, .int (zI i))] [] T I J := by
  obtain ⟨hC, hM, hk, hN, n1, n2⟩ := id hLI
  obtain ⟨⟨o1, o2, -⟩, -⟩ := id hC.1
  have e0 : (0 : Nat) < T.1 := by omega
  refine s_kn (k' := k) (n' := n) (by omega) (by omega) ?_
  refine s_aload_n (i := 1) dL_law_177 rfl rfl ?_
  refine s_aload_n (i := 0) dL_law_178 rfl rfl ?_
  refine s_iload_n (i := 3) dL_law_179 rfl rfl ?_
  refine s_iconst (v := 1) dL_law_180 (by decide) ?_
  refine s_iadd dL_law_181 ?_
  refine s_sld (j := i + 1) dL_law_182 (by first | with_reducible rfl | ((try simp only [z0, z1, zm1, zm2, zm3, zm4, zl2, zl3, zl4, zl5, zl6, zl7, zl8, zl9, zl10, zl20, zl28, zl31, zl32, zl33, zl48, zl57, zl64, zl100, zl127, zl200, zl201, zl202, zl402, zl1200, zl2412, zl16884, zI_add, zI_sub, zI_mul, zI_inc, zI_dec]) <;> (congr 1 <;> omega))) (by omega) hL ?_
  refine s_aload_n (i := 0) dL_law_183 rfl rfl ?_
  refine s_iload_n (i := 3) dL_law_184 rfl rfl ?_
  refine s_iconst (v := 2) dL_law_185 (by decide) ?_
  refine s_iadd dL_law_186 ?_
  refine s_sld (j := i + 2) dL_law_187 (by first | with_reducible rfl | ((try simp only [z0, z1, zm1, zm2, zm3, zm4, zl2, zl3, zl4, zl5, zl6, zl7, zl8, zl9, zl10, zl20, zl28, zl31, zl32, zl33, zl48, zl57, zl64, zl100, zl127, zl200, zl201, zl202, zl402, zl1200, zl2412, zl16884, zI_add, zI_sub, zI_mul, zI_inc, zI_dec]) <;> (congr 1 <;> omega))) (by omega) hL ?_
  refine s_cV_II (My := mX11_remove) dL_law_188 wM_L_18 cb_yX11_remove ci_yX11_remove e0 o2 (Nat.le_of_ble_eq_true rfl) (by decide) (s_d (by omega) (c_remove (d := 0) hC hk (fun T1 I1 a S1 hr hq1 hf1 hC1 => ?_)))
  have hM1 := hM.m hq1.m hf1
  have om := hM1.1.o
  refine s_aload_n (i := 2) dL_law_191 rfl rfl ?_
  refine s_aload_n (i := 0) dL_law_192 rfl rfl ?_
  refine s_iload_n (i := 3) dL_law_193 rfl rfl ?_
  refine s_iconst (v := 1) dL_law_194 (by decide) ?_
  refine s_iadd dL_law_195 ?_
  refine s_sld (j := i + 1) dL_law_196 (by first | with_reducible rfl | ((try simp only [z0, z1, zm1, zm2, zm3, zm4, zl2, zl3, zl4, zl5, zl6, zl7, zl8, zl9, zl10, zl20, zl28, zl31, zl32, zl33, zl48, zl57, zl64, zl100, zl127, zl200, zl201, zl202, zl402, zl1200, zl2412, zl16884, zI_add, zI_sub, zI_mul, zI_inc, zI_dec]) <;> (congr 1 <;> omega))) (by omega) hL ?_
  refine s_aload_n (i := 0) dL_law_197 rfl rfl ?_
  refine s_iload_n (i := 3) dL_law_198 rfl rfl ?_
  refine s_iconst (v := 2) dL_law_199 (by decide) ?_
  refine s_iadd dL_law_200 ?_
  refine s_sld (j := i + 2) dL_law_201 (by first | with_reducible rfl | ((try simp only [z0, z1, zm1, zm2, zm3, zm4, zl2, zl3, zl4, zl5, zl6, zl7, zl8, zl9, zl10, zl20, zl28, zl31, zl32, zl33, zl48, zl57, zl64, zl100, zl127, zl200, zl201, zl202, zl402, zl1200, zl2412, zl16884, zI_add, zI_sub, zI_mul, zI_inc, zI_dec]) <;> (congr 1 <;> omega))) (by omega) hL ?_
  refine s_cV_II (My := mX12_remove) dL_law_202 wM_L_21 cb_yX12_remove ci_yX12_remove om.1 om.2 (Nat.le_of_ble_eq_true rfl) (by decide) (s_d (by omega) (m_remove (d := 0) hM1 hk hr (fun I2 hf2 hM2 => ?_)))
  refine s_icmp_eq (tgt := 878) dL_law_205 (by decide) (fun _ => ?_) (fun h => absurd rfl h)
  exact kk T1 I2 J S1 (hLI.st (hr.st hk) (fun _ => hq1.1) hC1 hf2 hM2)
set_option maxRecDepth 100000 in
set_option maxHeartbeats 1000000 in
theorem lc_pack {G : fG} {x0 : Nat} {l : Launch} {k n : Nat} {nm : String} {b L : Nat} {xs : Nat → Int32} {T : fT} {I : fI} {J : fJ} {S : ASt} {i : Nat} (hL : L ≤ 2560) (hi : i + 5 ≤ L) (hLI : LI T I S i) (kk : ∀ (T' : fT) (I' : fI) (J' : fJ) (S' : ASt), LI T' I' S' (i + 5) → PW G x0 l (mLaw nm) 12 (ZL b L xs x0) k n 878 [(0, .ref b), (1, .ref (x0 + 0)), (2, .ref (x0 + 144)), (3, .int (zI i))] [] T' I' J') : PW G x0 l (mLaw nm) 12 (ZL b L xs x0) (k + 13) (n + 6124) 210 [(0, .ref b), (1, .ref (x0 + 0)), (2, .ref (x0 + 144)), (3, .int (zI i))] [] T I J := by
  obtain ⟨hC, hM, hk, hN, n1, n2⟩ := id hLI
  obtain ⟨⟨o1, o2, -⟩, -⟩ := id hC.1
  have e0 : (0 : Nat) < T.1 := by omega
  refine s_kn (k' := k) (n' := n) (by omega) (by omega) ?_
  refine s_aload_n (i := 1) dL_law_210 rfl rfl ?_
  refine s_aload_n (i := 0) dL_law_211 rfl rfl ?_
  refine s_iload_n (i := 3) dL_law_212 rfl rfl ?_
  refine s_iconst (v := 1) dL_law_213 (by decide) ?_
  refine s_iadd dL_law_214 ?_
  refine s_sld (j := i + 1) dL_law_215 (by first | with_reducible rfl | ((try simp only [z0, z1, zm1, zm2, zm3, zm4, zl2, zl3, zl4, zl5, zl6, zl7, zl8, zl9, zl10, zl20, zl28, zl31, zl32, zl33, zl48, zl57, zl64, zl100, zl127, zl200, zl201, zl202, zl402, zl1200, zl2412, zl16884, zI_add, zI_sub, zI_mul, zI_inc, zI_dec]) <;> (congr 1 <;> omega))) (by omega) hL ?_
  refine s_aload_n (i := 0) dL_law_216 rfl rfl ?_
  refine s_iload_n (i := 3) dL_law_217 rfl rfl ?_
  refine s_iconst (v := 2) dL_law_218 (by decide) ?_
  refine s_iadd dL_law_219 ?_
  refine s_sld (j := i + 2) dL_law_220 (by first | with_reducible rfl | ((try simp only [z0, z1, zm1, zm2, zm3, zm4, zl2, zl3, zl4, zl5, zl6, zl7, zl8, zl9, zl10, zl20, zl28, zl31, zl32, zl33, zl48, zl57, zl64, zl100, zl127, zl200, zl201, zl202, zl402, zl1200, zl2412, zl16884, zI_add, zI_sub, zI_mul, zI_inc, zI_dec]) <;> (congr 1 <;> omega))) (by omega) hL ?_
  refine s_cV_II (My := mX11_pack) dL_law_221 wM_L_22 cb_yX11_pack ci_yX11_pack e0 o2 (Nat.le_of_ble_eq_true rfl) (by decide) (s_d (by omega) (c_pack (d := 0) hC hk (fun T1 I1 a S1 hr hq1 hf1 hC1 => ?_)))
  have hM1 := hM.m hq1.m hf1
  have om := hM1.1.o
  refine s_aload_n (i := 2) dL_law_224 rfl rfl ?_
  refine s_aload_n (i := 0) dL_law_225 rfl rfl ?_
  refine s_iload_n (i := 3) dL_law_226 rfl rfl ?_
  refine s_iconst (v := 1) dL_law_227 (by decide) ?_
  refine s_iadd dL_law_228 ?_
  refine s_sld (j := i + 1) dL_law_229 (by first | with_reducible rfl | ((try simp only [z0, z1, zm1, zm2, zm3, zm4, zl2, zl3, zl4, zl5, zl6, zl7, zl8, zl9, zl10, zl20, zl28, zl31, zl32, zl33, zl48, zl57, zl64, zl100, zl127, zl200, zl201, zl202, zl402, zl1200, zl2412, zl16884, zI_add, zI_sub, zI_mul, zI_inc, zI_dec]) <;> (congr 1 <;> omega))) (by omega) hL ?_
  refine s_aload_n (i := 0) dL_law_230 rfl rfl ?_
  refine s_iload_n (i := 3) dL_law_231 rfl rfl ?_
  refine s_iconst (v := 2) dL_law_232 (by decide) ?_
  refine s_iadd dL_law_233 ?_
  refine s_sld (j := i + 2) dL_law_234 (by first | with_reducible rfl | ((try simp only [z0, z1, zm1, zm2, zm3, zm4, zl2, zl3, zl4, zl5, zl6, zl7, zl8, zl9, zl10, zl20, zl28, zl31, zl32, zl33, zl48, zl57, zl64, zl100, zl127, zl200, zl201, zl202, zl402, zl1200, zl2412, zl16884, zI_add, zI_sub, zI_mul, zI_inc, zI_dec]) <;> (congr 1 <;> omega))) (by omega) hL ?_
  refine s_cV_II (My := mX12_pack) dL_law_235 wM_L_25 cb_yX12_pack ci_yX12_pack om.1 om.2 (Nat.le_of_ble_eq_true rfl) (by decide) (s_d (by omega) (m_pack (d := 0) hM1 hk hr (fun I2 hf2 hM2 => ?_)))
  refine s_icmp_eq (tgt := 878) dL_law_238 (by decide) (fun _ => ?_) (fun h => absurd rfl h)
  exact kk T1 I2 J S1 (hLI.st (hr.st hk) (fun _ => hq1.1) hC1 hf2 hM2)
set_option maxRecDepth 100000 in
set_option maxHeartbeats 1000000 in
theorem lc_load {G : fG} {x0 : Nat} {l : Launch} {k n : Nat} {nm : String} {b L : Nat} {xs : Nat → Int32} {T : fT} {I : fI} {J : fJ} {S : ASt} {i : Nat} (hL : L ≤ 2560) (hi : i + 5 ≤ L) (hLI : LI T I S i) (kk : ∀ (T' : fT) (I' : fI) (J' : fJ) (S' : ASt), LI T' I' S' (i + 5) → PW G x0 l (mLaw nm) 12 (ZL b L xs x0) k n 878 [(0, .ref b), (1, .ref (x0 + 0)), (2, .ref (x0 + 144)), (3, .int (zI i))] [] T' I' J') : PW G x0 l (mLaw nm) 12 (ZL b L xs x0) (k + 13) (n + 6124) 243 [(0, .ref b), (1, .ref (x0 + 0)), (2, .ref (x0 + 144)), (3, .int (zI i))] [] T I J := by
  obtain ⟨hC, hM, hk, hN, n1, n2⟩ := id hLI
  obtain ⟨⟨o1, o2, -⟩, -⟩ := id hC.1
  have e0 : (0 : Nat) < T.1 := by omega
  refine s_kn (k' := k) (n' := n) (by omega) (by omega) ?_
  refine s_aload_n (i := 1) dL_law_243 rfl rfl ?_
  refine s_aload_n (i := 0) dL_law_244 rfl rfl ?_
  refine s_iload_n (i := 3) dL_law_245 rfl rfl ?_
  refine s_iconst (v := 1) dL_law_246 (by decide) ?_
  refine s_iadd dL_law_247 ?_
  refine s_sld (j := i + 1) dL_law_248 (by first | with_reducible rfl | ((try simp only [z0, z1, zm1, zm2, zm3, zm4, zl2, zl3, zl4, zl5, zl6, zl7, zl8, zl9, zl10, zl20, zl28, zl31, zl32, zl33, zl48, zl57, zl64, zl100, zl127, zl200, zl201, zl202, zl402, zl1200, zl2412, zl16884, zI_add, zI_sub, zI_mul, zI_inc, zI_dec]) <;> (congr 1 <;> omega))) (by omega) hL ?_
  refine s_cV_I (My := mX11_load) dL_law_249 wM_L_26 cb_yX11_load ci_yX11_load e0 o2 (Nat.le_of_ble_eq_true rfl) (by decide) (s_d (by omega) (c_load (d := 0) hC hk (fun T1 I1 a S1 hr hq1 hf1 hC1 => ?_)))
  have hM1 := hM.m hq1.m hf1
  have om := hM1.1.o
  refine s_aload_n (i := 2) dL_law_252 rfl rfl ?_
  refine s_aload_n (i := 0) dL_law_253 rfl rfl ?_
  refine s_iload_n (i := 3) dL_law_254 rfl rfl ?_
  refine s_iconst (v := 1) dL_law_255 (by decide) ?_
  refine s_iadd dL_law_256 ?_
  refine s_sld (j := i + 1) dL_law_257 (by first | with_reducible rfl | ((try simp only [z0, z1, zm1, zm2, zm3, zm4, zl2, zl3, zl4, zl5, zl6, zl7, zl8, zl9, zl10, zl20, zl28, zl31, zl32, zl33, zl48, zl57, zl64, zl100, zl127, zl200, zl201, zl202, zl402, zl1200, zl2412, zl16884, zI_add, zI_sub, zI_mul, zI_inc, zI_dec]) <;> (congr 1 <;> omega))) (by omega) hL ?_
  refine s_cV_I (My := mX12_load) dL_law_258 wM_L_30 cb_yX12_load ci_yX12_load om.1 om.2 (Nat.le_of_ble_eq_true rfl) (by decide) (s_d (by omega) (m_load (d := 0) hM1 hk hr (fun I2 hf2 hM2 => ?_)))
  refine s_icmp_eq (tgt := 878) dL_law_261 (by decide) (fun _ => ?_) (fun h => absurd rfl h)
  exact kk T1 I2 J S1 (hLI.st (hr.st hk) (fun _ => hq1.1) hC1 hf2 hM2)
set_option maxRecDepth 100000 in
set_option maxHeartbeats 1000000 in
theorem lc_store {G : fG} {x0 : Nat} {l : Launch} {k n : Nat} {nm : String} {b L : Nat} {xs : Nat → Int32} {T : fT} {I : fI} {J : fJ} {S : ASt} {i : Nat} (hL : L ≤ 2560) (hi : i + 5 ≤ L) (hLI : LI T I S i) (kk : ∀ (T' : fT) (I' : fI) (J' : fJ) (S' : ASt), LI T' I' S' (i + 5) → PW G x0 l (mLaw nm) 12 (ZL b L xs x0) k n 878 [(0, .ref b), (1, .ref (x0 + 0)), (2, .ref (x0 + 144)), (3, .int (zI i))] [] T' I' J') : PW G x0 l (mLaw nm) 12 (ZL b L xs x0) (k + 13) (n + 6124) 266 [(0, .ref b), (1, .ref (x0 + 0)), (2, .ref (x0 + 144)), (3, .int (zI i))] [] T I J := by
  obtain ⟨hC, hM, hk, hN, n1, n2⟩ := id hLI
  obtain ⟨⟨o1, o2, -⟩, -⟩ := id hC.1
  have e0 : (0 : Nat) < T.1 := by omega
  refine s_kn (k' := k) (n' := n) (by omega) (by omega) ?_
  refine s_aload_n (i := 1) dL_law_266 rfl rfl ?_
  refine s_aload_n (i := 0) dL_law_267 rfl rfl ?_
  refine s_iload_n (i := 3) dL_law_268 rfl rfl ?_
  refine s_iconst (v := 1) dL_law_269 (by decide) ?_
  refine s_iadd dL_law_270 ?_
  refine s_sld (j := i + 1) dL_law_271 (by first | with_reducible rfl | ((try simp only [z0, z1, zm1, zm2, zm3, zm4, zl2, zl3, zl4, zl5, zl6, zl7, zl8, zl9, zl10, zl20, zl28, zl31, zl32, zl33, zl48, zl57, zl64, zl100, zl127, zl200, zl201, zl202, zl402, zl1200, zl2412, zl16884, zI_add, zI_sub, zI_mul, zI_inc, zI_dec]) <;> (congr 1 <;> omega))) (by omega) hL ?_
  refine s_cV_I (My := mX11_store) dL_law_272 wM_L_31 cb_yX11_store ci_yX11_store e0 o2 (Nat.le_of_ble_eq_true rfl) (by decide) (s_d (by omega) (c_store (d := 0) hC hk (fun T1 I1 a S1 hr hq1 hf1 hC1 => ?_)))
  have hM1 := hM.m hq1.m hf1
  have om := hM1.1.o
  refine s_aload_n (i := 2) dL_law_275 rfl rfl ?_
  refine s_aload_n (i := 0) dL_law_276 rfl rfl ?_
  refine s_iload_n (i := 3) dL_law_277 rfl rfl ?_
  refine s_iconst (v := 1) dL_law_278 (by decide) ?_
  refine s_iadd dL_law_279 ?_
  refine s_sld (j := i + 1) dL_law_280 (by first | with_reducible rfl | ((try simp only [z0, z1, zm1, zm2, zm3, zm4, zl2, zl3, zl4, zl5, zl6, zl7, zl8, zl9, zl10, zl20, zl28, zl31, zl32, zl33, zl48, zl57, zl64, zl100, zl127, zl200, zl201, zl202, zl402, zl1200, zl2412, zl16884, zI_add, zI_sub, zI_mul, zI_inc, zI_dec]) <;> (congr 1 <;> omega))) (by omega) hL ?_
  refine s_cV_I (My := mX12_store) dL_law_281 wM_L_34 cb_yX12_store ci_yX12_store om.1 om.2 (Nat.le_of_ble_eq_true rfl) (by decide) (s_d (by omega) (m_store (d := 0) hM1 hk hr (fun I2 hf2 hM2 => ?_)))
  refine s_icmp_eq (tgt := 878) dL_law_284 (by decide) (fun _ => ?_) (fun h => absurd rfl h)
  exact kk T1 I2 J S1 (hLI.st (hr.st hk) (fun _ => hq1.1) hC1 hf2 hM2)
set_option maxRecDepth 100000 in
set_option maxHeartbeats 1000000 in
theorem lc_clear {G : fG} {x0 : Nat} {l : Launch} {k n : Nat} {nm : String} {b L : Nat} {xs : Nat → Int32} {T : fT} {I : fI} {J : fJ} {S : ASt} {i : Nat} (hL : L ≤ 2560) (hi : i + 5 ≤ L) (hLI : LI T I S i) (kk : ∀ (T' : fT) (I' : fI) (J' : fJ) (S' : ASt), LI T' I' S' (i + 5) → PW G x0 l (mLaw nm) 12 (ZL b L xs x0) k n 878 [(0, .ref b), (1, .ref (x0 + 0)), (2, .ref (x0 + 144)), (3, .int (zI i))] [] T' I' J') : PW G x0 l (mLaw nm) 12 (ZL b L xs x0) (k + 13) (n + 6124) 289 [(0, .ref b), (1, .ref (x0 + 0)), (2, .ref (x0 + 144)), (3, .int (zI i))] [] T I J := by
  obtain ⟨hC, hM, hk, hN, n1, n2⟩ := id hLI
  obtain ⟨⟨o1, o2, -⟩, -⟩ := id hC.1
  have e0 : (0 : Nat) < T.1 := by omega
  refine s_kn (k' := k) (n' := n) (by omega) (by omega) ?_
  refine s_aload_n (i := 1) dL_law_289 rfl rfl ?_
  refine s_aload_n (i := 0) dL_law_290 rfl rfl ?_
  refine s_iload_n (i := 3) dL_law_291 rfl rfl ?_
  refine s_iconst (v := 1) dL_law_292 (by decide) ?_
  refine s_iadd dL_law_293 ?_
  refine s_sld (j := i + 1) dL_law_294 (by first | with_reducible rfl | ((try simp only [z0, z1, zm1, zm2, zm3, zm4, zl2, zl3, zl4, zl5, zl6, zl7, zl8, zl9, zl10, zl20, zl28, zl31, zl32, zl33, zl48, zl57, zl64, zl100, zl127, zl200, zl201, zl202, zl402, zl1200, zl2412, zl16884, zI_add, zI_sub, zI_mul, zI_inc, zI_dec]) <;> (congr 1 <;> omega))) (by omega) hL ?_
  refine s_cV_I (My := mX11_clear) dL_law_295 wM_L_35 cb_yX11_clear ci_yX11_clear e0 o2 (Nat.le_of_ble_eq_true rfl) (by decide) (s_d (by omega) (c_clear (d := 0) hC hk (fun T1 I1 a S1 hr hq1 hf1 hC1 => ?_)))
  have hM1 := hM.m hq1.m hf1
  have om := hM1.1.o
  refine s_aload_n (i := 2) dL_law_298 rfl rfl ?_
  refine s_aload_n (i := 0) dL_law_299 rfl rfl ?_
  refine s_iload_n (i := 3) dL_law_300 rfl rfl ?_
  refine s_iconst (v := 1) dL_law_301 (by decide) ?_
  refine s_iadd dL_law_302 ?_
  refine s_sld (j := i + 1) dL_law_303 (by first | with_reducible rfl | ((try simp only [z0, z1, zm1, zm2, zm3, zm4, zl2, zl3, zl4, zl5, zl6, zl7, zl8, zl9, zl10, zl20, zl28, zl31, zl32, zl33, zl48, zl57, zl64, zl100, zl127, zl200, zl201, zl202, zl402, zl1200, zl2412, zl16884, zI_add, zI_sub, zI_mul, zI_inc, zI_dec]) <;> (congr 1 <;> omega))) (by omega) hL ?_
  refine s_cV_I (My := mX12_clear) dL_law_304 wM_L_38 cb_yX12_clear ci_yX12_clear om.1 om.2 (Nat.le_of_ble_eq_true rfl) (by decide) (s_d (by omega) (m_clear (d := 0) hM1 hk hr (fun I2 hf2 hM2 => ?_)))
  refine s_icmp_eq (tgt := 878) dL_law_307 (by decide) (fun _ => ?_) (fun h => absurd rfl h)
  exact kk T1 I2 J S1 (hLI.st (hr.st hk) (fun _ => hq1.1) hC1 hf2 hM2)
set_option maxRecDepth 100000 in
set_option maxHeartbeats 1000000 in
theorem lc_undo {G : fG} {x0 : Nat} {l : Launch} {k n : Nat} {nm : String} {b L : Nat} {xs : Nat → Int32} {T : fT} {I : fI} {J : fJ} {S : ASt} {i : Nat} (hL : L ≤ 2560) (hi : i + 5 ≤ L) (hLI : LI T I S i) (kk : ∀ (T' : fT) (I' : fI) (J' : fJ) (S' : ASt), LI T' I' S' (i + 5) → PW G x0 l (mLaw nm) 12 (ZL b L xs x0) k n 878 [(0, .ref b), (1, .ref (x0 + 0)), (2, .ref (x0 + 144)), (3, .int (zI i))] [] T' I' J') : PW G x0 l (mLaw nm) 12 (ZL b L xs x0) (k + 13) (n + 6124) 312 [(0, .ref b), (1, .ref (x0 + 0)), (2, .ref (x0 + 144)), (3, .int (zI i))] [] T I J := by
  obtain ⟨hC, hM, hk, hN, n1, n2⟩ := id hLI
  obtain ⟨⟨o1, o2, -⟩, -⟩ := id hC.1
  have e0 : (0 : Nat) < T.1 := by omega
  refine s_kn (k' := k) (n' := n) (by omega) (by omega) ?_
  refine s_aload_n (i := 1) dL_law_312 rfl rfl ?_
  refine s_cV_ (My := mX11_undo) dL_law_313 wM_L_39 cb_yX11_undo ci_yX11_undo e0 o2 (Nat.le_of_ble_eq_true rfl) (by decide) (s_d (by omega) (c_undo (d := 0) hC hk (fun T1 I1 a S1 hr hq1 hf1 hC1 => ?_)))
  have hM1 := hM.m hq1.m hf1
  have om := hM1.1.o
  refine s_aload_n (i := 2) dL_law_316 rfl rfl ?_
  refine s_cV_ (My := mX12_undo) dL_law_317 wM_L_43 cb_yX12_undo ci_yX12_undo om.1 om.2 (Nat.le_of_ble_eq_true rfl) (by decide) (s_d (by omega) (m_undo (d := 0) hM1 hk hr (fun I2 hf2 hM2 => ?_)))
  refine s_icmp_eq (tgt := 878) dL_law_320 (by decide) (fun _ => ?_) (fun h => absurd rfl h)
  exact kk T1 I2 J S1 (hLI.st (hr.st hk) (fun _ => hq1.1) hC1 hf2 hM2)
set_option maxRecDepth 100000 in
set_option maxHeartbeats 1000000 in
theorem lc_type {G : fG} {x0 : Nat} {l : Launch} {k n : Nat} {nm : String} {b L : Nat} {xs : Nat → Int32} {T : fT} {I : fI} {J : fJ} {S : ASt} {i : Nat} (hL : L ≤ 2560) (hi : i + 5 ≤ L) (hLI : LI T I S i) (kk : ∀ (T' : fT) (I' : fI) (J' : fJ) (S' : ASt), LI T' I' S' (i + 5) → PW G x0 l (mLaw nm) 12 (ZL b L xs x0) k n 878 [(0, .ref b), (1, .ref (x0 + 0)), (2, .ref (x0 + 144)), (3, .int (zI i))] [] T' I' J') : PW G x0 l (mLaw nm) 12 (ZL b L xs x0) (k + 13) (n + 6124) 325 [(0, .ref b), (1, .ref (x0 + 0)), (2, .ref (x0 + 144)), (3, .int (zI i))] [] T I J := by
  obtain ⟨hC, hM, hk, hN, n1, n2⟩ := id hLI
  obtain ⟨⟨o1, o2, -⟩, -⟩ := id hC.1
  have e0 : (0 : Nat) < T.1 := by omega
  refine s_kn (k' := k) (n' := n) (by omega) (by omega) ?_
  refine s_aload_n (i := 1) dL_law_325 rfl rfl ?_
  refine s_aload_n (i := 0) dL_law_326 rfl rfl ?_
  refine s_iload_n (i := 3) dL_law_327 rfl rfl ?_
  refine s_iconst (v := 1) dL_law_328 (by decide) ?_
  refine s_iadd dL_law_329 ?_
  refine s_sld (j := i + 1) dL_law_330 (by first | with_reducible rfl | ((try simp only [z0, z1, zm1, zm2, zm3, zm4, zl2, zl3, zl4, zl5, zl6, zl7, zl8, zl9, zl10, zl20, zl28, zl31, zl32, zl33, zl48, zl57, zl64, zl100, zl127, zl200, zl201, zl202, zl402, zl1200, zl2412, zl16884, zI_add, zI_sub, zI_mul, zI_inc, zI_dec]) <;> (congr 1 <;> omega))) (by omega) hL ?_
  refine s_cV_I (My := mX11_type) dL_law_331 wM_L_44 cb_yX11_type ci_yX11_type e0 o2 (Nat.le_of_ble_eq_true rfl) (by decide) (s_d (by omega) (c_type (d := 0) hC hk (fun T1 I1 a S1 hr hq1 hf1 hC1 => ?_)))
  have hM1 := hM.m hq1.m hf1
  have om := hM1.1.o
  refine s_aload_n (i := 2) dL_law_334 rfl rfl ?_
  refine s_aload_n (i := 0) dL_law_335 rfl rfl ?_
  refine s_iload_n (i := 3) dL_law_336 rfl rfl ?_
  refine s_iconst (v := 1) dL_law_337 (by decide) ?_
  refine s_iadd dL_law_338 ?_
  refine s_sld (j := i + 1) dL_law_339 (by first | with_reducible rfl | ((try simp only [z0, z1, zm1, zm2, zm3, zm4, zl2, zl3, zl4, zl5, zl6, zl7, zl8, zl9, zl10, zl20, zl28, zl31, zl32, zl33, zl48, zl57, zl64, zl100, zl127, zl200, zl201, zl202, zl402, zl1200, zl2412, zl16884, zI_add, zI_sub, zI_mul, zI_inc, zI_dec]) <;> (congr 1 <;> omega))) (by omega) hL ?_
  refine s_cV_I (My := mX12_type) dL_law_340 wM_L_47 cb_yX12_type ci_yX12_type om.1 om.2 (Nat.le_of_ble_eq_true rfl) (by decide) (s_d (by omega) (m_type (d := 0) hM1 hk hr (fun I2 hf2 hM2 => ?_)))
  refine s_icmp_eq (tgt := 878) dL_law_343 (by decide) (fun _ => ?_) (fun h => absurd rfl h)
  exact kk T1 I2 J S1 (hLI.st (hr.st hk) (fun _ => hq1.1) hC1 hf2 hM2)
set_option maxRecDepth 100000 in
set_option maxHeartbeats 1000000 in
theorem lc_erase {G : fG} {x0 : Nat} {l : Launch} {k n : Nat} {nm : String} {b L : Nat} {xs : Nat → Int32} {T : fT} {I : fI} {J : fJ} {S : ASt} {i : Nat} (hL : L ≤ 2560) (hi : i + 5 ≤ L) (hLI : LI T I S i) (kk : ∀ (T' : fT) (I' : fI) (J' : fJ) (S' : ASt), LI T' I' S' (i + 5) → PW G x0 l (mLaw nm) 12 (ZL b L xs x0) k n 878 [(0, .ref b), (1, .ref (x0 + 0)), (2, .ref (x0 + 144)), (3, .int (zI i))] [] T' I' J') : PW G x0 l (mLaw nm) 12 (ZL b L xs x0) (k + 13) (n + 6124) 348 [(0, .ref b), (1, .ref (x0 + 0)), (2, .ref (x0 + 144)), (3, .int (zI i))] [] T I J := by
  obtain ⟨hC, hM, hk, hN, n1, n2⟩ := id hLI
  obtain ⟨⟨o1, o2, -⟩, -⟩ := id hC.1
  have e0 : (0 : Nat) < T.1 := by omega
  refine s_kn (k' := k) (n' := n) (by omega) (by omega) ?_
  refine s_aload_n (i := 1) dL_law_348 rfl rfl ?_
  refine s_cV_ (My := mX11_erase) dL_law_349 wM_L_48 cb_yX11_erase ci_yX11_erase e0 o2 (Nat.le_of_ble_eq_true rfl) (by decide) (s_d (by omega) (c_erase (d := 0) hC hk (fun T1 I1 a S1 hr hq1 hf1 hC1 => ?_)))
  have hM1 := hM.m hq1.m hf1
  have om := hM1.1.o
  refine s_aload_n (i := 2) dL_law_352 rfl rfl ?_
  refine s_cV_ (My := mX12_erase) dL_law_353 wM_L_51 cb_yX12_erase ci_yX12_erase om.1 om.2 (Nat.le_of_ble_eq_true rfl) (by decide) (s_d (by omega) (m_erase (d := 0) hM1 hk hr (fun I2 hf2 hM2 => ?_)))
  refine s_icmp_eq (tgt := 878) dL_law_356 (by decide) (fun _ => ?_) (fun h => absurd rfl h)
  exact kk T1 I2 J S1 (hLI.st (hr.st hk) (fun _ => hq1.1) hC1 hf2 hM2)
set_option maxRecDepth 100000 in
set_option maxHeartbeats 1000000 in
theorem lc_list {G : fG} {x0 : Nat} {l : Launch} {k n : Nat} {nm : String} {b L : Nat} {xs : Nat → Int32} {T : fT} {I : fI} {J : fJ} {S : ASt} {i : Nat} (hL : L ≤ 2560) (hi : i + 5 ≤ L) (hLI : LI T I S i) (kk : ∀ (T' : fT) (I' : fI) (J' : fJ) (S' : ASt), LI T' I' S' (i + 5) → PW G x0 l (mLaw nm) 12 (ZL b L xs x0) k n 878 [(0, .ref b), (1, .ref (x0 + 0)), (2, .ref (x0 + 144)), (3, .int (zI i))] [] T' I' J') : PW G x0 l (mLaw nm) 12 (ZL b L xs x0) (k + 13) (n + 6124) 361 [(0, .ref b), (1, .ref (x0 + 0)), (2, .ref (x0 + 144)), (3, .int (zI i))] [] T I J := by
  obtain ⟨hC, hM, hk, hN, n1, n2⟩ := id hLI
  obtain ⟨⟨o1, o2, -⟩, -⟩ := id hC.1
  have e0 : (0 : Nat) < T.1 := by omega
  refine s_kn (k' := k) (n' := n) (by omega) (by omega) ?_
  refine s_aload_n (i := 1) dL_law_361 rfl rfl ?_
  refine s_aload_n (i := 0) dL_law_362 rfl rfl ?_
  refine s_iload_n (i := 3) dL_law_363 rfl rfl ?_
  refine s_iconst (v := 1) dL_law_364 (by decide) ?_
  refine s_iadd dL_law_365 ?_
  refine s_sld (j := i + 1) dL_law_366 (by first | with_reducible rfl | ((try simp only [z0, z1, zm1, zm2, zm3, zm4, zl2, zl3, zl4, zl5, zl6, zl7, zl8, zl9, zl10, zl20, zl28, zl31, zl32, zl33, zl48, zl57, zl64, zl100, zl127, zl200, zl201, zl202, zl402, zl1200, zl2412, zl16884, zI_add, zI_sub, zI_mul, zI_inc, zI_dec]) <;> (congr 1 <;> omega))) (by omega) hL ?_
  refine s_aload_n (i := 0) dL_law_367 rfl rfl ?_
  refine s_iload_n (i := 3) dL_law_368 rfl rfl ?_
  refine s_iconst (v := 2) dL_law_369 (by decide) ?_
  refine s_iadd dL_law_370 ?_
  refine s_sld (j := i + 2) dL_law_371 (by first | with_reducible rfl | ((try simp only [z0, z1, zm1, zm2, zm3, zm4, zl2, zl3, zl4, zl5, zl6, zl7, zl8, zl9, zl10, zl20, zl28, zl31, zl32, zl33, zl48, zl57, zl64, zl100, zl127, zl200, zl201, zl202, zl402, zl1200, zl2412, zl16884, zI_add, zI_sub, zI_mul, zI_inc, zI_dec]) <;> (congr 1 <;> omega))) (by omega) hL ?_
  refine s_cV_II (My := mX11_list) dL_law_372 wM_L_52 cb_yX11_list ci_yX11_list e0 o2 (Nat.le_of_ble_eq_true rfl) (by decide) (s_d (by omega) (c_list (d := 0) hC hk (fun T1 I1 hq1 hf1 => ?_)))
  have hM1 := hM.m hq1.m (frM.ro hf1)
  have om := hM1.1.o
  refine s_aload_n (i := 2) dL_law_375 rfl rfl ?_
  refine s_aload_n (i := 0) dL_law_376 rfl rfl ?_
  refine s_iload_n (i := 3) dL_law_377 rfl rfl ?_
  refine s_iconst (v := 1) dL_law_378 (by decide) ?_
  refine s_iadd dL_law_379 ?_
  refine s_sld (j := i + 1) dL_law_380 (by first | with_reducible rfl | ((try simp only [z0, z1, zm1, zm2, zm3, zm4, zl2, zl3, zl4, zl5, zl6, zl7, zl8, zl9, zl10, zl20, zl28, zl31, zl32, zl33, zl48, zl57, zl64, zl100, zl127, zl200, zl201, zl202, zl402, zl1200, zl2412, zl16884, zI_add, zI_sub, zI_mul, zI_inc, zI_dec]) <;> (congr 1 <;> omega))) (by omega) hL ?_
  refine s_aload_n (i := 0) dL_law_381 rfl rfl ?_
  refine s_iload_n (i := 3) dL_law_382 rfl rfl ?_
  refine s_iconst (v := 2) dL_law_383 (by decide) ?_
  refine s_iadd dL_law_384 ?_
  refine s_sld (j := i + 2) dL_law_385 (by first | with_reducible rfl | ((try simp only [z0, z1, zm1, zm2, zm3, zm4, zl2, zl3, zl4, zl5, zl6, zl7, zl8, zl9, zl10, zl20, zl28, zl31, zl32, zl33, zl48, zl57, zl64, zl100, zl127, zl200, zl201, zl202, zl402, zl1200, zl2412, zl16884, zI_add, zI_sub, zI_mul, zI_inc, zI_dec]) <;> (congr 1 <;> omega))) (by omega) hL ?_
  refine s_cV_II (My := mX12_list) dL_law_386 wM_L_55 cb_yX12_list ci_yX12_list om.1 om.2 (Nat.le_of_ble_eq_true rfl) (by decide) (s_d (by omega) (m_list (d := 0) hM1 hk (fun I2 hf2 => ?_)))
  refine s_icmp_eq (tgt := 878) dL_law_389 (by decide) (fun _ => ?_) (fun h => absurd rfl h)
  exact kk T1 I2 J S (hLI.ro hq1 hf1 hf2)
set_option maxRecDepth 100000 in
set_option maxHeartbeats 1000000 in
theorem lc_block {G : fG} {x0 : Nat} {l : Launch} {k n : Nat} {nm : String} {b L : Nat} {xs : Nat → Int32} {T : fT} {I : fI} {J : fJ} {S : ASt} {i : Nat} (hL : L ≤ 2560) (hi : i + 5 ≤ L) (hLI : LI T I S i) (kk : ∀ (T' : fT) (I' : fI) (J' : fJ) (S' : ASt), LI T' I' S' (i + 5) → PW G x0 l (mLaw nm) 12 (ZL b L xs x0) k n 878 [(0, .ref b), (1, .ref (x0 + 0)), (2, .ref (x0 + 144)), (3, .int (zI i))] [] T' I' J') : PW G x0 l (mLaw nm) 12 (ZL b L xs x0) (k + 13) (n + 6124) 394 [(0, .ref b), (1, .ref (x0 + 0)), (2, .ref (x0 + 144)), (3, .int (zI i))] [] T I J := by
  obtain ⟨hC, hM, hk, hN, n1, n2⟩ := id hLI
  obtain ⟨⟨o1, o2, -⟩, -⟩ := id hC.1
  have e0 : (0 : Nat) < T.1 := by omega
  refine s_kn (k' := k) (n' := n) (by omega) (by omega) ?_
  refine s_aload_n (i := 1) dL_law_394 rfl rfl ?_
  refine s_aload_n (i := 0) dL_law_395 rfl rfl ?_
  refine s_iload_n (i := 3) dL_law_396 rfl rfl ?_
  refine s_iconst (v := 1) dL_law_397 (by decide) ?_
  refine s_iadd dL_law_398 ?_
  refine s_sld (j := i + 1) dL_law_399 (by first | with_reducible rfl | ((try simp only [z0, z1, zm1, zm2, zm3, zm4, zl2, zl3, zl4, zl5, zl6, zl7, zl8, zl9, zl10, zl20, zl28, zl31, zl32, zl33, zl48, zl57, zl64, zl100, zl127, zl200, zl201, zl202, zl402, zl1200, zl2412, zl16884, zI_add, zI_sub, zI_mul, zI_inc, zI_dec]) <;> (congr 1 <;> omega))) (by omega) hL ?_
  refine s_aload_n (i := 0) dL_law_400 rfl rfl ?_
  refine s_iload_n (i := 3) dL_law_401 rfl rfl ?_
  refine s_iconst (v := 2) dL_law_402 (by decide) ?_
  refine s_iadd dL_law_403 ?_
  refine s_sld (j := i + 2) dL_law_404 (by first | with_reducible rfl | ((try simp only [z0, z1, zm1, zm2, zm3, zm4, zl2, zl3, zl4, zl5, zl6, zl7, zl8, zl9, zl10, zl20, zl28, zl31, zl32, zl33, zl48, zl57, zl64, zl100, zl127, zl200, zl201, zl202, zl402, zl1200, zl2412, zl16884, zI_add, zI_sub, zI_mul, zI_inc, zI_dec]) <;> (congr 1 <;> omega))) (by omega) hL ?_
  refine s_aload_n (i := 0) dL_law_405 rfl rfl ?_
  refine s_iload_n (i := 3) dL_law_406 rfl rfl ?_
  refine s_iconst (v := 3) dL_law_407 (by decide) ?_
  refine s_iadd dL_law_408 ?_
  refine s_sld (j := i + 3) dL_law_409 (by first | with_reducible rfl | ((try simp only [z0, z1, zm1, zm2, zm3, zm4, zl2, zl3, zl4, zl5, zl6, zl7, zl8, zl9, zl10, zl20, zl28, zl31, zl32, zl33, zl48, zl57, zl64, zl100, zl127, zl200, zl201, zl202, zl402, zl1200, zl2412, zl16884, zI_add, zI_sub, zI_mul, zI_inc, zI_dec]) <;> (congr 1 <;> omega))) (by omega) hL ?_
  refine s_cV_III (My := mX11_block) dL_law_410 wM_L_56 cb_yX11_block ci_yX11_block e0 o2 (Nat.le_of_ble_eq_true rfl) (by decide) (s_d (by omega) (c_block (d := 0) hC hk (fun T1 I1 hq1 hf1 => ?_)))
  have hM1 := hM.m hq1.m (frM.ro hf1)
  have om := hM1.1.o
  refine s_aload_n (i := 2) dL_law_413 rfl rfl ?_
  refine s_aload_n (i := 0) dL_law_414 rfl rfl ?_
  refine s_iload_n (i := 3) dL_law_415 rfl rfl ?_
  refine s_iconst (v := 1) dL_law_416 (by decide) ?_
  refine s_iadd dL_law_417 ?_
  refine s_sld (j := i + 1) dL_law_418 (by first | with_reducible rfl | ((try simp only [z0, z1, zm1, zm2, zm3, zm4, zl2, zl3, zl4, zl5, zl6, zl7, zl8, zl9, zl10, zl20, zl28, zl31, zl32, zl33, zl48, zl57, zl64, zl100, zl127, zl200, zl201, zl202, zl402, zl1200, zl2412, zl16884, zI_add, zI_sub, zI_mul, zI_inc, zI_dec]) <;> (congr 1 <;> omega))) (by omega) hL ?_
  refine s_aload_n (i := 0) dL_law_419 rfl rfl ?_
  refine s_iload_n (i := 3) dL_law_420 rfl rfl ?_
  refine s_iconst (v := 2) dL_law_421 (by decide) ?_
  refine s_iadd dL_law_422 ?_
  refine s_sld (j := i + 2) dL_law_423 (by first | with_reducible rfl | ((try simp only [z0, z1, zm1, zm2, zm3, zm4, zl2, zl3, zl4, zl5, zl6, zl7, zl8, zl9, zl10, zl20, zl28, zl31, zl32, zl33, zl48, zl57, zl64, zl100, zl127, zl200, zl201, zl202, zl402, zl1200, zl2412, zl16884, zI_add, zI_sub, zI_mul, zI_inc, zI_dec]) <;> (congr 1 <;> omega))) (by omega) hL ?_
  refine s_aload_n (i := 0) dL_law_424 rfl rfl ?_
  refine s_iload_n (i := 3) dL_law_425 rfl rfl ?_
  refine s_iconst (v := 3) dL_law_426 (by decide) ?_
  refine s_iadd dL_law_427 ?_
  refine s_sld (j := i + 3) dL_law_428 (by first | with_reducible rfl | ((try simp only [z0, z1, zm1, zm2, zm3, zm4, zl2, zl3, zl4, zl5, zl6, zl7, zl8, zl9, zl10, zl20, zl28, zl31, zl32, zl33, zl48, zl57, zl64, zl100, zl127, zl200, zl201, zl202, zl402, zl1200, zl2412, zl16884, zI_add, zI_sub, zI_mul, zI_inc, zI_dec]) <;> (congr 1 <;> omega))) (by omega) hL ?_
  refine s_cV_III (My := mX12_block) dL_law_429 wM_L_60 cb_yX12_block ci_yX12_block om.1 om.2 (Nat.le_of_ble_eq_true rfl) (by decide) (s_d (by omega) (m_block (d := 0) hM1 hk (fun I2 hf2 => ?_)))
  refine s_icmp_eq (tgt := 878) dL_law_432 (by decide) (fun _ => ?_) (fun h => absurd rfl h)
  exact kk T1 I2 J S (hLI.ro hq1 hf1 hf2)
set_option maxRecDepth 100000 in
set_option maxHeartbeats 1000000 in
theorem lc_word {G : fG} {x0 : Nat} {l : Launch} {k n : Nat} {nm : String} {b L : Nat} {xs : Nat → Int32} {T : fT} {I : fI} {J : fJ} {S : ASt} {i : Nat} (hL : L ≤ 2560) (hi : i + 5 ≤ L) (hLI : LI T I S i) (kk : ∀ (T' : fT) (I' : fI) (J' : fJ) (S' : ASt), LI T' I' S' (i + 5) → PW G x0 l (mLaw nm) 12 (ZL b L xs x0) k n 878 [(0, .ref b), (1, .ref (x0 + 0)), (2, .ref (x0 + 144)), (3, .int (zI i))] [] T' I' J') : PW G x0 l (mLaw nm) 12 (ZL b L xs x0) (k + 13) (n + 6124) 437 [(0, .ref b), (1, .ref (x0 + 0)), (2, .ref (x0 + 144)), (3, .int (zI i))] [] T I J := by
  obtain ⟨hC, hM, hk, hN, n1, n2⟩ := id hLI
  obtain ⟨⟨o1, o2, -⟩, -⟩ := id hC.1
  have e0 : (0 : Nat) < T.1 := by omega
  refine s_kn (k' := k) (n' := n) (by omega) (by omega) ?_
  refine s_aload_n (i := 1) dL_law_437 rfl rfl ?_
  refine s_aload_n (i := 0) dL_law_438 rfl rfl ?_
  refine s_iload_n (i := 3) dL_law_439 rfl rfl ?_
  refine s_iconst (v := 1) dL_law_440 (by decide) ?_
  refine s_iadd dL_law_441 ?_
  refine s_sld (j := i + 1) dL_law_442 (by first | with_reducible rfl | ((try simp only [z0, z1, zm1, zm2, zm3, zm4, zl2, zl3, zl4, zl5, zl6, zl7, zl8, zl9, zl10, zl20, zl28, zl31, zl32, zl33, zl48, zl57, zl64, zl100, zl127, zl200, zl201, zl202, zl402, zl1200, zl2412, zl16884, zI_add, zI_sub, zI_mul, zI_inc, zI_dec]) <;> (congr 1 <;> omega))) (by omega) hL ?_
  refine s_aload_n (i := 0) dL_law_443 rfl rfl ?_
  refine s_iload_n (i := 3) dL_law_444 rfl rfl ?_
  refine s_iconst (v := 2) dL_law_445 (by decide) ?_
  refine s_iadd dL_law_446 ?_
  refine s_sld (j := i + 2) dL_law_447 (by first | with_reducible rfl | ((try simp only [z0, z1, zm1, zm2, zm3, zm4, zl2, zl3, zl4, zl5, zl6, zl7, zl8, zl9, zl10, zl20, zl28, zl31, zl32, zl33, zl48, zl57, zl64, zl100, zl127, zl200, zl201, zl202, zl402, zl1200, zl2412, zl16884, zI_add, zI_sub, zI_mul, zI_inc, zI_dec]) <;> (congr 1 <;> omega))) (by omega) hL ?_
  refine s_aload_n (i := 0) dL_law_448 rfl rfl ?_
  refine s_iload_n (i := 3) dL_law_449 rfl rfl ?_
  refine s_iconst (v := 3) dL_law_450 (by decide) ?_
  refine s_iadd dL_law_451 ?_
  refine s_sld (j := i + 3) dL_law_452 (by first | with_reducible rfl | ((try simp only [z0, z1, zm1, zm2, zm3, zm4, zl2, zl3, zl4, zl5, zl6, zl7, zl8, zl9, zl10, zl20, zl28, zl31, zl32, zl33, zl48, zl57, zl64, zl100, zl127, zl200, zl201, zl202, zl402, zl1200, zl2412, zl16884, zI_add, zI_sub, zI_mul, zI_inc, zI_dec]) <;> (congr 1 <;> omega))) (by omega) hL ?_
  refine s_cV_III (My := mX11_word) dL_law_453 wM_L_61 cb_yX11_word ci_yX11_word e0 o2 (Nat.le_of_ble_eq_true rfl) (by decide) (s_d (by omega) (c_wordM (d := 0) hC hk (fun T1 I1 hq1 hf1 => ?_)))
  have hM1 := hM.m hq1.m (frM.ro hf1)
  have om := hM1.1.o
  refine s_aload_n (i := 2) dL_law_456 rfl rfl ?_
  refine s_aload_n (i := 0) dL_law_457 rfl rfl ?_
  refine s_iload_n (i := 3) dL_law_458 rfl rfl ?_
  refine s_iconst (v := 1) dL_law_459 (by decide) ?_
  refine s_iadd dL_law_460 ?_
  refine s_sld (j := i + 1) dL_law_461 (by first | with_reducible rfl | ((try simp only [z0, z1, zm1, zm2, zm3, zm4, zl2, zl3, zl4, zl5, zl6, zl7, zl8, zl9, zl10, zl20, zl28, zl31, zl32, zl33, zl48, zl57, zl64, zl100, zl127, zl200, zl201, zl202, zl402, zl1200, zl2412, zl16884, zI_add, zI_sub, zI_mul, zI_inc, zI_dec]) <;> (congr 1 <;> omega))) (by omega) hL ?_
  refine s_aload_n (i := 0) dL_law_462 rfl rfl ?_
  refine s_iload_n (i := 3) dL_law_463 rfl rfl ?_
  refine s_iconst (v := 2) dL_law_464 (by decide) ?_
  refine s_iadd dL_law_465 ?_
  refine s_sld (j := i + 2) dL_law_466 (by first | with_reducible rfl | ((try simp only [z0, z1, zm1, zm2, zm3, zm4, zl2, zl3, zl4, zl5, zl6, zl7, zl8, zl9, zl10, zl20, zl28, zl31, zl32, zl33, zl48, zl57, zl64, zl100, zl127, zl200, zl201, zl202, zl402, zl1200, zl2412, zl16884, zI_add, zI_sub, zI_mul, zI_inc, zI_dec]) <;> (congr 1 <;> omega))) (by omega) hL ?_
  refine s_aload_n (i := 0) dL_law_467 rfl rfl ?_
  refine s_iload_n (i := 3) dL_law_468 rfl rfl ?_
  refine s_iconst (v := 3) dL_law_469 (by decide) ?_
  refine s_iadd dL_law_470 ?_
  refine s_sld (j := i + 3) dL_law_471 (by first | with_reducible rfl | ((try simp only [z0, z1, zm1, zm2, zm3, zm4, zl2, zl3, zl4, zl5, zl6, zl7, zl8, zl9, zl10, zl20, zl28, zl31, zl32, zl33, zl48, zl57, zl64, zl100, zl127, zl200, zl201, zl202, zl402, zl1200, zl2412, zl16884, zI_add, zI_sub, zI_mul, zI_inc, zI_dec]) <;> (congr 1 <;> omega))) (by omega) hL ?_
  refine s_cV_III (My := mX12_word) dL_law_472 wM_L_65 cb_yX12_word ci_yX12_word om.1 om.2 (Nat.le_of_ble_eq_true rfl) (by decide) (s_d (by omega) (m_word (d := 0) hM1 hk (fun I2 hf2 => ?_)))
  refine s_lcmp dL_law_475 ?_
  refine s_if_eq (tgt := 878) dL_law_476 (by decide) (fun _ => ?_) (fun h => absurd (lg_self _) h)
  exact kk T1 I2 J S (hLI.ro hq1 hf1 hf2)
set_option maxRecDepth 100000 in
set_option maxHeartbeats 1000000 in
theorem lc_exception {G : fG} {x0 : Nat} {l : Launch} {k n : Nat} {nm : String} {b L : Nat} {xs : Nat → Int32} {T : fT} {I : fI} {J : fJ} {S : ASt} {i : Nat} (hL : L ≤ 2560) (hi : i + 5 ≤ L) (hLI : LI T I S i) (kk : ∀ (T' : fT) (I' : fI) (J' : fJ) (S' : ASt), LI T' I' S' (i + 5) → PW G x0 l (mLaw nm) 12 (ZL b L xs x0) k n 878 [(0, .ref b), (1, .ref (x0 + 0)), (2, .ref (x0 + 144)), (3, .int (zI i))] [] T' I' J') : PW G x0 l (mLaw nm) 12 (ZL b L xs x0) (k + 13) (n + 6124) 481 [(0, .ref b), (1, .ref (x0 + 0)), (2, .ref (x0 + 144)), (3, .int (zI i))] [] T I J := by
  obtain ⟨hC, hM, hk, hN, n1, n2⟩ := id hLI
  obtain ⟨⟨o1, o2, -⟩, -⟩ := id hC.1
  have e0 : (0 : Nat) < T.1 := by omega
  refine s_kn (k' := k) (n' := n) (by omega) (by omega) ?_
  refine s_aload_n (i := 1) dL_law_481 rfl rfl ?_
  refine s_aload_n (i := 0) dL_law_482 rfl rfl ?_
  refine s_iload_n (i := 3) dL_law_483 rfl rfl ?_
  refine s_iconst (v := 1) dL_law_484 (by decide) ?_
  refine s_iadd dL_law_485 ?_
  refine s_sld (j := i + 1) dL_law_486 (by first | with_reducible rfl | ((try simp only [z0, z1, zm1, zm2, zm3, zm4, zl2, zl3, zl4, zl5, zl6, zl7, zl8, zl9, zl10, zl20, zl28, zl31, zl32, zl33, zl48, zl57, zl64, zl100, zl127, zl200, zl201, zl202, zl402, zl1200, zl2412, zl16884, zI_add, zI_sub, zI_mul, zI_inc, zI_dec]) <;> (congr 1 <;> omega))) (by omega) hL ?_
  refine s_aload_n (i := 0) dL_law_487 rfl rfl ?_
  refine s_iload_n (i := 3) dL_law_488 rfl rfl ?_
  refine s_iconst (v := 2) dL_law_489 (by decide) ?_
  refine s_iadd dL_law_490 ?_
  refine s_sld (j := i + 2) dL_law_491 (by first | with_reducible rfl | ((try simp only [z0, z1, zm1, zm2, zm3, zm4, zl2, zl3, zl4, zl5, zl6, zl7, zl8, zl9, zl10, zl20, zl28, zl31, zl32, zl33, zl48, zl57, zl64, zl100, zl127, zl200, zl201, zl202, zl402, zl1200, zl2412, zl16884, zI_add, zI_sub, zI_mul, zI_inc, zI_dec]) <;> (congr 1 <;> omega))) (by omega) hL ?_
  refine s_aload_n (i := 0) dL_law_492 rfl rfl ?_
  refine s_iload_n (i := 3) dL_law_493 rfl rfl ?_
  refine s_iconst (v := 3) dL_law_494 (by decide) ?_
  refine s_iadd dL_law_495 ?_
  refine s_sld (j := i + 3) dL_law_496 (by first | with_reducible rfl | ((try simp only [z0, z1, zm1, zm2, zm3, zm4, zl2, zl3, zl4, zl5, zl6, zl7, zl8, zl9, zl10, zl20, zl28, zl31, zl32, zl33, zl48, zl57, zl64, zl100, zl127, zl200, zl201, zl202, zl402, zl1200, zl2412, zl16884, zI_add, zI_sub, zI_mul, zI_inc, zI_dec]) <;> (congr 1 <;> omega))) (by omega) hL ?_
  refine s_aload_n (i := 0) dL_law_497 rfl rfl ?_
  refine s_iload_n (i := 3) dL_law_498 rfl rfl ?_
  refine s_iconst (v := 4) dL_law_499 (by decide) ?_
  refine s_iadd dL_law_500 ?_
  refine s_sld (j := i + 4) dL_law_501 (by first | with_reducible rfl | ((try simp only [z0, z1, zm1, zm2, zm3, zm4, zl2, zl3, zl4, zl5, zl6, zl7, zl8, zl9, zl10, zl20, zl28, zl31, zl32, zl33, zl48, zl57, zl64, zl100, zl127, zl200, zl201, zl202, zl402, zl1200, zl2412, zl16884, zI_add, zI_sub, zI_mul, zI_inc, zI_dec]) <;> (congr 1 <;> omega))) (by omega) hL ?_
  refine s_cV_IIII (My := mX11_exception) dL_law_502 wM_L_66 cb_yX11_exception ci_yX11_exception e0 o2 (Nat.le_of_ble_eq_true rfl) (by decide) (s_d (by omega) (c_exc (d := 0) hC hk (fun T1 I1 hq1 hf1 => ?_)))
  have hM1 := hM.m hq1.m (frM.ro hf1)
  have om := hM1.1.o
  refine s_aload_n (i := 2) dL_law_505 rfl rfl ?_
  refine s_aload_n (i := 0) dL_law_506 rfl rfl ?_
  refine s_iload_n (i := 3) dL_law_507 rfl rfl ?_
  refine s_iconst (v := 1) dL_law_508 (by decide) ?_
  refine s_iadd dL_law_509 ?_
  refine s_sld (j := i + 1) dL_law_510 (by first | with_reducible rfl | ((try simp only [z0, z1, zm1, zm2, zm3, zm4, zl2, zl3, zl4, zl5, zl6, zl7, zl8, zl9, zl10, zl20, zl28, zl31, zl32, zl33, zl48, zl57, zl64, zl100, zl127, zl200, zl201, zl202, zl402, zl1200, zl2412, zl16884, zI_add, zI_sub, zI_mul, zI_inc, zI_dec]) <;> (congr 1 <;> omega))) (by omega) hL ?_
  refine s_aload_n (i := 0) dL_law_511 rfl rfl ?_
  refine s_iload_n (i := 3) dL_law_512 rfl rfl ?_
  refine s_iconst (v := 2) dL_law_513 (by decide) ?_
  refine s_iadd dL_law_514 ?_
  refine s_sld (j := i + 2) dL_law_515 (by first | with_reducible rfl | ((try simp only [z0, z1, zm1, zm2, zm3, zm4, zl2, zl3, zl4, zl5, zl6, zl7, zl8, zl9, zl10, zl20, zl28, zl31, zl32, zl33, zl48, zl57, zl64, zl100, zl127, zl200, zl201, zl202, zl402, zl1200, zl2412, zl16884, zI_add, zI_sub, zI_mul, zI_inc, zI_dec]) <;> (congr 1 <;> omega))) (by omega) hL ?_
  refine s_aload_n (i := 0) dL_law_516 rfl rfl ?_
  refine s_iload_n (i := 3) dL_law_517 rfl rfl ?_
  refine s_iconst (v := 3) dL_law_518 (by decide) ?_
  refine s_iadd dL_law_519 ?_
  refine s_sld (j := i + 3) dL_law_520 (by first | with_reducible rfl | ((try simp only [z0, z1, zm1, zm2, zm3, zm4, zl2, zl3, zl4, zl5, zl6, zl7, zl8, zl9, zl10, zl20, zl28, zl31, zl32, zl33, zl48, zl57, zl64, zl100, zl127, zl200, zl201, zl202, zl402, zl1200, zl2412, zl16884, zI_add, zI_sub, zI_mul, zI_inc, zI_dec]) <;> (congr 1 <;> omega))) (by omega) hL ?_
  refine s_aload_n (i := 0) dL_law_521 rfl rfl ?_
  refine s_iload_n (i := 3) dL_law_522 rfl rfl ?_
  refine s_iconst (v := 4) dL_law_523 (by decide) ?_
  refine s_iadd dL_law_524 ?_
  refine s_sld (j := i + 4) dL_law_525 (by first | with_reducible rfl | ((try simp only [z0, z1, zm1, zm2, zm3, zm4, zl2, zl3, zl4, zl5, zl6, zl7, zl8, zl9, zl10, zl20, zl28, zl31, zl32, zl33, zl48, zl57, zl64, zl100, zl127, zl200, zl201, zl202, zl402, zl1200, zl2412, zl16884, zI_add, zI_sub, zI_mul, zI_inc, zI_dec]) <;> (congr 1 <;> omega))) (by omega) hL ?_
  refine s_cV_IIII (My := mX12_exception) dL_law_526 wM_L_70 cb_yX12_exception ci_yX12_exception om.1 om.2 (Nat.le_of_ble_eq_true rfl) (by decide) (s_d (by omega) (m_exc (d := 0) hM1 hk (fun I2 hf2 => ?_)))
  refine s_icmp_eq (tgt := 878) dL_law_529 (by decide) (fun _ => ?_) (fun h => absurd rfl h)
  exact kk T1 I2 J S (hLI.ro hq1 hf1 hf2)
set_option maxRecDepth 100000 in
set_option maxHeartbeats 1000000 in
theorem lc_gaps {G : fG} {x0 : Nat} {l : Launch} {k n : Nat} {nm : String} {b L : Nat} {xs : Nat → Int32} {T : fT} {I : fI} {J : fJ} {S : ASt} {i : Nat} (hL : L ≤ 2560) (hi : i + 5 ≤ L) (hLI : LI T I S i) (kk : ∀ (T' : fT) (I' : fI) (J' : fJ) (S' : ASt), LI T' I' S' (i + 5) → PW G x0 l (mLaw nm) 12 (ZL b L xs x0) k n 878 [(0, .ref b), (1, .ref (x0 + 0)), (2, .ref (x0 + 144)), (3, .int (zI i))] [] T' I' J') : PW G x0 l (mLaw nm) 12 (ZL b L xs x0) (k + 13) (n + 6124) 534 [(0, .ref b), (1, .ref (x0 + 0)), (2, .ref (x0 + 144)), (3, .int (zI i))] [] T I J := by
  obtain ⟨hC, hM, hk, hN, n1, n2⟩ := id hLI
  obtain ⟨⟨o1, o2, -⟩, -⟩ := id hC.1
  have e0 : (0 : Nat) < T.1 := by omega
  refine s_kn (k' := k) (n' := n) (by omega) (by omega) ?_
  refine s_aload_n (i := 1) dL_law_534 rfl rfl ?_
  refine s_aload_n (i := 0) dL_law_535 rfl rfl ?_
  refine s_iload_n (i := 3) dL_law_536 rfl rfl ?_
  refine s_iconst (v := 1) dL_law_537 (by decide) ?_
  refine s_iadd dL_law_538 ?_
  refine s_sld (j := i + 1) dL_law_539 (by first | with_reducible rfl | ((try simp only [z0, z1, zm1, zm2, zm3, zm4, zl2, zl3, zl4, zl5, zl6, zl7, zl8, zl9, zl10, zl20, zl28, zl31, zl32, zl33, zl48, zl57, zl64, zl100, zl127, zl200, zl201, zl202, zl402, zl1200, zl2412, zl16884, zI_add, zI_sub, zI_mul, zI_inc, zI_dec]) <;> (congr 1 <;> omega))) (by omega) hL ?_
  refine s_aload_n (i := 0) dL_law_540 rfl rfl ?_
  refine s_iload_n (i := 3) dL_law_541 rfl rfl ?_
  refine s_iconst (v := 2) dL_law_542 (by decide) ?_
  refine s_iadd dL_law_543 ?_
  refine s_sld (j := i + 2) dL_law_544 (by first | with_reducible rfl | ((try simp only [z0, z1, zm1, zm2, zm3, zm4, zl2, zl3, zl4, zl5, zl6, zl7, zl8, zl9, zl10, zl20, zl28, zl31, zl32, zl33, zl48, zl57, zl64, zl100, zl127, zl200, zl201, zl202, zl402, zl1200, zl2412, zl16884, zI_add, zI_sub, zI_mul, zI_inc, zI_dec]) <;> (congr 1 <;> omega))) (by omega) hL ?_
  refine s_cV_II (My := mX11_gaps) dL_law_545 wM_L_71 cb_yX11_gaps ci_yX11_gaps e0 o2 (Nat.le_of_ble_eq_true rfl) (by decide) (s_d (by omega) (c_gaps (d := 0) hC hk (fun T1 I1 hq1 hf1 => ?_)))
  have hM1 := hM.m hq1.m (frM.ro hf1)
  have om := hM1.1.o
  refine s_aload_n (i := 2) dL_law_548 rfl rfl ?_
  refine s_aload_n (i := 0) dL_law_549 rfl rfl ?_
  refine s_iload_n (i := 3) dL_law_550 rfl rfl ?_
  refine s_iconst (v := 1) dL_law_551 (by decide) ?_
  refine s_iadd dL_law_552 ?_
  refine s_sld (j := i + 1) dL_law_553 (by first | with_reducible rfl | ((try simp only [z0, z1, zm1, zm2, zm3, zm4, zl2, zl3, zl4, zl5, zl6, zl7, zl8, zl9, zl10, zl20, zl28, zl31, zl32, zl33, zl48, zl57, zl64, zl100, zl127, zl200, zl201, zl202, zl402, zl1200, zl2412, zl16884, zI_add, zI_sub, zI_mul, zI_inc, zI_dec]) <;> (congr 1 <;> omega))) (by omega) hL ?_
  refine s_aload_n (i := 0) dL_law_554 rfl rfl ?_
  refine s_iload_n (i := 3) dL_law_555 rfl rfl ?_
  refine s_iconst (v := 2) dL_law_556 (by decide) ?_
  refine s_iadd dL_law_557 ?_
  refine s_sld (j := i + 2) dL_law_558 (by first | with_reducible rfl | ((try simp only [z0, z1, zm1, zm2, zm3, zm4, zl2, zl3, zl4, zl5, zl6, zl7, zl8, zl9, zl10, zl20, zl28, zl31, zl32, zl33, zl48, zl57, zl64, zl100, zl127, zl200, zl201, zl202, zl402, zl1200, zl2412, zl16884, zI_add, zI_sub, zI_mul, zI_inc, zI_dec]) <;> (congr 1 <;> omega))) (by omega) hL ?_
  refine s_cV_II (My := mX12_gaps) dL_law_559 wM_L_74 cb_yX12_gaps ci_yX12_gaps om.1 om.2 (Nat.le_of_ble_eq_true rfl) (by decide) (s_d (by omega) (m_gaps (d := 0) hM1 hk (fun I2 hf2 => ?_)))
  refine s_icmp_eq (tgt := 878) dL_law_562 (by decide) (fun _ => ?_) (fun h => absurd rfl h)
  exact kk T1 I2 J S (hLI.ro hq1 hf1 hf2)
set_option maxRecDepth 100000 in
set_option maxHeartbeats 1000000 in
theorem lc_costBy {G : fG} {x0 : Nat} {l : Launch} {k n : Nat} {nm : String} {b L : Nat} {xs : Nat → Int32} {T : fT} {I : fI} {J : fJ} {S : ASt} {i : Nat} (hL : L ≤ 2560) (hi : i + 5 ≤ L) (hLI : LI T I S i) (kk : ∀ (T' : fT) (I' : fI) (J' : fJ) (S' : ASt), LI T' I' S' (i + 5) → PW G x0 l (mLaw nm) 12 (ZL b L xs x0) k n 878 [(0, .ref b), (1, .ref (x0 + 0)), (2, .ref (x0 + 144)), (3, .int (zI i))] [] T' I' J') : PW G x0 l (mLaw nm) 12 (ZL b L xs x0) (k + 13) (n + 6124) 567 [(0, .ref b), (1, .ref (x0 + 0)), (2, .ref (x0 + 144)), (3, .int (zI i))] [] T I J := by
  obtain ⟨hC, hM, hk, hN, n1, n2⟩ := id hLI
  obtain ⟨⟨o1, o2, -⟩, -⟩ := id hC.1
  have e0 : (0 : Nat) < T.1 := by omega
  refine s_kn (k' := k) (n' := n) (by omega) (by omega) ?_
  refine s_aload_n (i := 1) dL_law_567 rfl rfl ?_
  refine s_aload_n (i := 0) dL_law_568 rfl rfl ?_
  refine s_iload_n (i := 3) dL_law_569 rfl rfl ?_
  refine s_iconst (v := 1) dL_law_570 (by decide) ?_
  refine s_iadd dL_law_571 ?_
  refine s_sld (j := i + 1) dL_law_572 (by first | with_reducible rfl | ((try simp only [z0, z1, zm1, zm2, zm3, zm4, zl2, zl3, zl4, zl5, zl6, zl7, zl8, zl9, zl10, zl20, zl28, zl31, zl32, zl33, zl48, zl57, zl64, zl100, zl127, zl200, zl201, zl202, zl402, zl1200, zl2412, zl16884, zI_add, zI_sub, zI_mul, zI_inc, zI_dec]) <;> (congr 1 <;> omega))) (by omega) hL ?_
  refine s_aload_n (i := 0) dL_law_573 rfl rfl ?_
  refine s_iload_n (i := 3) dL_law_574 rfl rfl ?_
  refine s_iconst (v := 2) dL_law_575 (by decide) ?_
  refine s_iadd dL_law_576 ?_
  refine s_sld (j := i + 2) dL_law_577 (by first | with_reducible rfl | ((try simp only [z0, z1, zm1, zm2, zm3, zm4, zl2, zl3, zl4, zl5, zl6, zl7, zl8, zl9, zl10, zl20, zl28, zl31, zl32, zl33, zl48, zl57, zl64, zl100, zl127, zl200, zl201, zl202, zl402, zl1200, zl2412, zl16884, zI_add, zI_sub, zI_mul, zI_inc, zI_dec]) <;> (congr 1 <;> omega))) (by omega) hL ?_
  refine s_cV_II (My := mX11_costBy) dL_law_578 wM_L_75 cb_yX11_costBy ci_yX11_costBy e0 o2 (Nat.le_of_ble_eq_true rfl) (by decide) (s_d (by omega) (c_costBy (d := 0) hC hk (fun T1 I1 a hr hq1 hf1 hC1 => ?_)))
  have hM1 := hM.m hq1.m hf1
  have om := hM1.1.o
  refine s_aload_n (i := 2) dL_law_581 rfl rfl ?_
  refine s_aload_n (i := 0) dL_law_582 rfl rfl ?_
  refine s_iload_n (i := 3) dL_law_583 rfl rfl ?_
  refine s_iconst (v := 1) dL_law_584 (by decide) ?_
  refine s_iadd dL_law_585 ?_
  refine s_sld (j := i + 1) dL_law_586 (by first | with_reducible rfl | ((try simp only [z0, z1, zm1, zm2, zm3, zm4, zl2, zl3, zl4, zl5, zl6, zl7, zl8, zl9, zl10, zl20, zl28, zl31, zl32, zl33, zl48, zl57, zl64, zl100, zl127, zl200, zl201, zl202, zl402, zl1200, zl2412, zl16884, zI_add, zI_sub, zI_mul, zI_inc, zI_dec]) <;> (congr 1 <;> omega))) (by omega) hL ?_
  refine s_aload_n (i := 0) dL_law_587 rfl rfl ?_
  refine s_iload_n (i := 3) dL_law_588 rfl rfl ?_
  refine s_iconst (v := 2) dL_law_589 (by decide) ?_
  refine s_iadd dL_law_590 ?_
  refine s_sld (j := i + 2) dL_law_591 (by first | with_reducible rfl | ((try simp only [z0, z1, zm1, zm2, zm3, zm4, zl2, zl3, zl4, zl5, zl6, zl7, zl8, zl9, zl10, zl20, zl28, zl31, zl32, zl33, zl48, zl57, zl64, zl100, zl127, zl200, zl201, zl202, zl402, zl1200, zl2412, zl16884, zI_add, zI_sub, zI_mul, zI_inc, zI_dec]) <;> (congr 1 <;> omega))) (by omega) hL ?_
  refine s_cV_II (My := mX12_costBy) dL_law_592 wM_L_78 cb_yX12_costBy ci_yX12_costBy om.1 om.2 (Nat.le_of_ble_eq_true rfl) (by decide) (s_d (by omega) (m_costBy (d := 0) hM1 hk hr (fun I2 hf2 => ?_)))
  refine s_icmp_eq (tgt := 878) dL_law_595 (by decide) (fun _ => ?_) (fun h => absurd rfl h)
  exact kk T1 I2 J S (hLI.st (Kpt.of hk rfl (fun h => h)) (fun _ => hq1.1) hC1 hf2.c (hM1.fr hf2))
set_option maxRecDepth 100000 in
set_option maxHeartbeats 1000000 in
theorem lc_part {G : fG} {x0 : Nat} {l : Launch} {k n : Nat} {nm : String} {b L : Nat} {xs : Nat → Int32} {T : fT} {I : fI} {J : fJ} {S : ASt} {i : Nat} (hL : L ≤ 2560) (hi : i + 5 ≤ L) (hLI : LI T I S i) (kk : ∀ (T' : fT) (I' : fI) (J' : fJ) (S' : ASt), LI T' I' S' (i + 5) → PW G x0 l (mLaw nm) 12 (ZL b L xs x0) k n 878 [(0, .ref b), (1, .ref (x0 + 0)), (2, .ref (x0 + 144)), (3, .int (zI i))] [] T' I' J') : PW G x0 l (mLaw nm) 12 (ZL b L xs x0) (k + 13) (n + 6124) 600 [(0, .ref b), (1, .ref (x0 + 0)), (2, .ref (x0 + 144)), (3, .int (zI i))] [] T I J := by
  obtain ⟨hC, hM, hk, hN, n1, n2⟩ := id hLI
  obtain ⟨⟨o1, o2, -⟩, -⟩ := id hC.1
  have e0 : (0 : Nat) < T.1 := by omega
  refine s_kn (k' := k) (n' := n) (by omega) (by omega) ?_
  refine s_aload_n (i := 1) dL_law_600 rfl rfl ?_
  refine s_aload_n (i := 0) dL_law_601 rfl rfl ?_
  refine s_iload_n (i := 3) dL_law_602 rfl rfl ?_
  refine s_iconst (v := 1) dL_law_603 (by decide) ?_
  refine s_iadd dL_law_604 ?_
  refine s_sld (j := i + 1) dL_law_605 (by first | with_reducible rfl | ((try simp only [z0, z1, zm1, zm2, zm3, zm4, zl2, zl3, zl4, zl5, zl6, zl7, zl8, zl9, zl10, zl20, zl28, zl31, zl32, zl33, zl48, zl57, zl64, zl100, zl127, zl200, zl201, zl202, zl402, zl1200, zl2412, zl16884, zI_add, zI_sub, zI_mul, zI_inc, zI_dec]) <;> (congr 1 <;> omega))) (by omega) hL ?_
  refine s_aload_n (i := 0) dL_law_606 rfl rfl ?_
  refine s_iload_n (i := 3) dL_law_607 rfl rfl ?_
  refine s_iconst (v := 2) dL_law_608 (by decide) ?_
  refine s_iadd dL_law_609 ?_
  refine s_sld (j := i + 2) dL_law_610 (by first | with_reducible rfl | ((try simp only [z0, z1, zm1, zm2, zm3, zm4, zl2, zl3, zl4, zl5, zl6, zl7, zl8, zl9, zl10, zl20, zl28, zl31, zl32, zl33, zl48, zl57, zl64, zl100, zl127, zl200, zl201, zl202, zl402, zl1200, zl2412, zl16884, zI_add, zI_sub, zI_mul, zI_inc, zI_dec]) <;> (congr 1 <;> omega))) (by omega) hL ?_
  refine s_aload_n (i := 0) dL_law_611 rfl rfl ?_
  refine s_iload_n (i := 3) dL_law_612 rfl rfl ?_
  refine s_iconst (v := 3) dL_law_613 (by decide) ?_
  refine s_iadd dL_law_614 ?_
  refine s_sld (j := i + 3) dL_law_615 (by first | with_reducible rfl | ((try simp only [z0, z1, zm1, zm2, zm3, zm4, zl2, zl3, zl4, zl5, zl6, zl7, zl8, zl9, zl10, zl20, zl28, zl31, zl32, zl33, zl48, zl57, zl64, zl100, zl127, zl200, zl201, zl202, zl402, zl1200, zl2412, zl16884, zI_add, zI_sub, zI_mul, zI_inc, zI_dec]) <;> (congr 1 <;> omega))) (by omega) hL ?_
  refine s_aload_n (i := 0) dL_law_616 rfl rfl ?_
  refine s_iload_n (i := 3) dL_law_617 rfl rfl ?_
  refine s_iconst (v := 4) dL_law_618 (by decide) ?_
  refine s_iadd dL_law_619 ?_
  refine s_sld (j := i + 4) dL_law_620 (by first | with_reducible rfl | ((try simp only [z0, z1, zm1, zm2, zm3, zm4, zl2, zl3, zl4, zl5, zl6, zl7, zl8, zl9, zl10, zl20, zl28, zl31, zl32, zl33, zl48, zl57, zl64, zl100, zl127, zl200, zl201, zl202, zl402, zl1200, zl2412, zl16884, zI_add, zI_sub, zI_mul, zI_inc, zI_dec]) <;> (congr 1 <;> omega))) (by omega) hL ?_
  refine s_cV_IIII (My := mX11_part) dL_law_621 wM_L_79 cb_yX11_part ci_yX11_part e0 o2 (Nat.le_of_ble_eq_true rfl) (by decide) (s_d (by omega) (c_part (d := 0) hC hk (fun T1 I1 hq1 hf1 => ?_)))
  have hM1 := hM.m hq1.m (frM.ro hf1)
  have om := hM1.1.o
  refine s_aload_n (i := 2) dL_law_624 rfl rfl ?_
  refine s_aload_n (i := 0) dL_law_625 rfl rfl ?_
  refine s_iload_n (i := 3) dL_law_626 rfl rfl ?_
  refine s_iconst (v := 1) dL_law_627 (by decide) ?_
  refine s_iadd dL_law_628 ?_
  refine s_sld (j := i + 1) dL_law_629 (by first | with_reducible rfl | ((try simp only [z0, z1, zm1, zm2, zm3, zm4, zl2, zl3, zl4, zl5, zl6, zl7, zl8, zl9, zl10, zl20, zl28, zl31, zl32, zl33, zl48, zl57, zl64, zl100, zl127, zl200, zl201, zl202, zl402, zl1200, zl2412, zl16884, zI_add, zI_sub, zI_mul, zI_inc, zI_dec]) <;> (congr 1 <;> omega))) (by omega) hL ?_
  refine s_aload_n (i := 0) dL_law_630 rfl rfl ?_
  refine s_iload_n (i := 3) dL_law_631 rfl rfl ?_
  refine s_iconst (v := 2) dL_law_632 (by decide) ?_
  refine s_iadd dL_law_633 ?_
  refine s_sld (j := i + 2) dL_law_634 (by first | with_reducible rfl | ((try simp only [z0, z1, zm1, zm2, zm3, zm4, zl2, zl3, zl4, zl5, zl6, zl7, zl8, zl9, zl10, zl20, zl28, zl31, zl32, zl33, zl48, zl57, zl64, zl100, zl127, zl200, zl201, zl202, zl402, zl1200, zl2412, zl16884, zI_add, zI_sub, zI_mul, zI_inc, zI_dec]) <;> (congr 1 <;> omega))) (by omega) hL ?_
  refine s_aload_n (i := 0) dL_law_635 rfl rfl ?_
  refine s_iload_n (i := 3) dL_law_636 rfl rfl ?_
  refine s_iconst (v := 3) dL_law_637 (by decide) ?_
  refine s_iadd dL_law_638 ?_
  refine s_sld (j := i + 3) dL_law_639 (by first | with_reducible rfl | ((try simp only [z0, z1, zm1, zm2, zm3, zm4, zl2, zl3, zl4, zl5, zl6, zl7, zl8, zl9, zl10, zl20, zl28, zl31, zl32, zl33, zl48, zl57, zl64, zl100, zl127, zl200, zl201, zl202, zl402, zl1200, zl2412, zl16884, zI_add, zI_sub, zI_mul, zI_inc, zI_dec]) <;> (congr 1 <;> omega))) (by omega) hL ?_
  refine s_aload_n (i := 0) dL_law_640 rfl rfl ?_
  refine s_iload_n (i := 3) dL_law_641 rfl rfl ?_
  refine s_iconst (v := 4) dL_law_642 (by decide) ?_
  refine s_iadd dL_law_643 ?_
  refine s_sld (j := i + 4) dL_law_644 (by first | with_reducible rfl | ((try simp only [z0, z1, zm1, zm2, zm3, zm4, zl2, zl3, zl4, zl5, zl6, zl7, zl8, zl9, zl10, zl20, zl28, zl31, zl32, zl33, zl48, zl57, zl64, zl100, zl127, zl200, zl201, zl202, zl402, zl1200, zl2412, zl16884, zI_add, zI_sub, zI_mul, zI_inc, zI_dec]) <;> (congr 1 <;> omega))) (by omega) hL ?_
  refine s_cV_IIII (My := mX12_part) dL_law_645 wM_L_82 cb_yX12_part ci_yX12_part om.1 om.2 (Nat.le_of_ble_eq_true rfl) (by decide) (s_d (by omega) (m_part (d := 0) hM1 hk (fun I2 hf2 => ?_)))
  refine s_icmp_eq (tgt := 878) dL_law_648 (by decide) (fun _ => ?_) (fun h => absurd rfl h)
  exact kk T1 I2 J S (hLI.ro hq1 hf1 hf2)
set_option maxRecDepth 100000 in
set_option maxHeartbeats 1000000 in
theorem lc_at {G : fG} {x0 : Nat} {l : Launch} {k n : Nat} {nm : String} {b L : Nat} {xs : Nat → Int32} {T : fT} {I : fI} {J : fJ} {S : ASt} {i : Nat} (hL : L ≤ 2560) (hi : i + 5 ≤ L) (hLI : LI T I S i) (kk : ∀ (T' : fT) (I' : fI) (J' : fJ) (S' : ASt), LI T' I' S' (i + 5) → PW G x0 l (mLaw nm) 12 (ZL b L xs x0) k n 878 [(0, .ref b), (1, .ref (x0 + 0)), (2, .ref (x0 + 144)), (3, .int (zI i))] [] T' I' J') : PW G x0 l (mLaw nm) 12 (ZL b L xs x0) (k + 13) (n + 6124) 653 [(0, .ref b), (1, .ref (x0 + 0)), (2, .ref (x0 + 144)), (3, .int (zI i))] [] T I J := by
  obtain ⟨hC, hM, hk, hN, n1, n2⟩ := id hLI
  obtain ⟨⟨o1, o2, -⟩, -⟩ := id hC.1
  have e0 : (0 : Nat) < T.1 := by omega
  refine s_kn (k' := k) (n' := n) (by omega) (by omega) ?_
  refine s_aload_n (i := 1) dL_law_653 rfl rfl ?_
  refine s_aload_n (i := 0) dL_law_654 rfl rfl ?_
  refine s_iload_n (i := 3) dL_law_655 rfl rfl ?_
  refine s_iconst (v := 1) dL_law_656 (by decide) ?_
  refine s_iadd dL_law_657 ?_
  refine s_sld (j := i + 1) dL_law_658 (by first | with_reducible rfl | ((try simp only [z0, z1, zm1, zm2, zm3, zm4, zl2, zl3, zl4, zl5, zl6, zl7, zl8, zl9, zl10, zl20, zl28, zl31, zl32, zl33, zl48, zl57, zl64, zl100, zl127, zl200, zl201, zl202, zl402, zl1200, zl2412, zl16884, zI_add, zI_sub, zI_mul, zI_inc, zI_dec]) <;> (congr 1 <;> omega))) (by omega) hL ?_
  refine s_aload_n (i := 0) dL_law_659 rfl rfl ?_
  refine s_iload_n (i := 3) dL_law_660 rfl rfl ?_
  refine s_iconst (v := 2) dL_law_661 (by decide) ?_
  refine s_iadd dL_law_662 ?_
  refine s_sld (j := i + 2) dL_law_663 (by first | with_reducible rfl | ((try simp only [z0, z1, zm1, zm2, zm3, zm4, zl2, zl3, zl4, zl5, zl6, zl7, zl8, zl9, zl10, zl20, zl28, zl31, zl32, zl33, zl48, zl57, zl64, zl100, zl127, zl200, zl201, zl202, zl402, zl1200, zl2412, zl16884, zI_add, zI_sub, zI_mul, zI_inc, zI_dec]) <;> (congr 1 <;> omega))) (by omega) hL ?_
  refine s_cV_II (My := mX11_at) dL_law_664 wM_L_83 cb_yX11_at ci_yX11_at e0 o2 (Nat.le_of_ble_eq_true rfl) (by decide) (s_d (by omega) (c_at (d := 0) hC hk (fun T1 I1 a S1 hr hq1 hf1 hC1 => ?_)))
  have hM1 := hM.m hq1.m hf1
  have om := hM1.1.o
  refine s_aload_n (i := 2) dL_law_667 rfl rfl ?_
  refine s_aload_n (i := 0) dL_law_668 rfl rfl ?_
  refine s_iload_n (i := 3) dL_law_669 rfl rfl ?_
  refine s_iconst (v := 1) dL_law_670 (by decide) ?_
  refine s_iadd dL_law_671 ?_
  refine s_sld (j := i + 1) dL_law_672 (by first | with_reducible rfl | ((try simp only [z0, z1, zm1, zm2, zm3, zm4, zl2, zl3, zl4, zl5, zl6, zl7, zl8, zl9, zl10, zl20, zl28, zl31, zl32, zl33, zl48, zl57, zl64, zl100, zl127, zl200, zl201, zl202, zl402, zl1200, zl2412, zl16884, zI_add, zI_sub, zI_mul, zI_inc, zI_dec]) <;> (congr 1 <;> omega))) (by omega) hL ?_
  refine s_aload_n (i := 0) dL_law_673 rfl rfl ?_
  refine s_iload_n (i := 3) dL_law_674 rfl rfl ?_
  refine s_iconst (v := 2) dL_law_675 (by decide) ?_
  refine s_iadd dL_law_676 ?_
  refine s_sld (j := i + 2) dL_law_677 (by first | with_reducible rfl | ((try simp only [z0, z1, zm1, zm2, zm3, zm4, zl2, zl3, zl4, zl5, zl6, zl7, zl8, zl9, zl10, zl20, zl28, zl31, zl32, zl33, zl48, zl57, zl64, zl100, zl127, zl200, zl201, zl202, zl402, zl1200, zl2412, zl16884, zI_add, zI_sub, zI_mul, zI_inc, zI_dec]) <;> (congr 1 <;> omega))) (by omega) hL ?_
  refine s_cV_II (My := mX12_at) dL_law_678 wM_L_86 cb_yX12_at ci_yX12_at om.1 om.2 (Nat.le_of_ble_eq_true rfl) (by decide) (s_d (by omega) (m_at (d := 0) hM1 hk hr (fun I2 hf2 hM2 => ?_)))
  refine s_icmp_eq (tgt := 878) dL_law_681 (by decide) (fun _ => ?_) (fun h => absurd rfl h)
  exact kk T1 I2 J S1 (hLI.st (hr.st hk (by omega) (by omega)) (fun _ => hq1.1) hC1 hf2 hM2)
set_option maxRecDepth 100000 in
set_option maxHeartbeats 1000000 in
theorem lc_find {G : fG} {x0 : Nat} {l : Launch} {k n : Nat} {nm : String} {b L : Nat} {xs : Nat → Int32} {T : fT} {I : fI} {J : fJ} {S : ASt} {i : Nat} (hL : L ≤ 2560) (hi : i + 5 ≤ L) (hLI : LI T I S i) (kk : ∀ (T' : fT) (I' : fI) (J' : fJ) (S' : ASt), LI T' I' S' (i + 5) → PW G x0 l (mLaw nm) 12 (ZL b L xs x0) k n 878 [(0, .ref b), (1, .ref (x0 + 0)), (2, .ref (x0 + 144)), (3, .int (zI i))] [] T' I' J') : PW G x0 l (mLaw nm) 12 (ZL b L xs x0) (k + 13) (n + 6124) 686 [(0, .ref b), (1, .ref (x0 + 0)), (2, .ref (x0 + 144)), (3, .int (zI i))] [] T I J := by
  obtain ⟨hC, hM, hk, hN, n1, n2⟩ := id hLI
  obtain ⟨⟨o1, o2, -⟩, -⟩ := id hC.1
  have e0 : (0 : Nat) < T.1 := by omega
  refine s_kn (k' := k) (n' := n) (by omega) (by omega) ?_
  refine s_aload_n (i := 1) dL_law_686 rfl rfl ?_
  refine s_aload_n (i := 0) dL_law_687 rfl rfl ?_
  refine s_iload_n (i := 3) dL_law_688 rfl rfl ?_
  refine s_iconst (v := 1) dL_law_689 (by decide) ?_
  refine s_iadd dL_law_690 ?_
  refine s_sld (j := i + 1) dL_law_691 (by first | with_reducible rfl | ((try simp only [z0, z1, zm1, zm2, zm3, zm4, zl2, zl3, zl4, zl5, zl6, zl7, zl8, zl9, zl10, zl20, zl28, zl31, zl32, zl33, zl48, zl57, zl64, zl100, zl127, zl200, zl201, zl202, zl402, zl1200, zl2412, zl16884, zI_add, zI_sub, zI_mul, zI_inc, zI_dec]) <;> (congr 1 <;> omega))) (by omega) hL ?_
  refine s_aload_n (i := 0) dL_law_692 rfl rfl ?_
  refine s_iload_n (i := 3) dL_law_693 rfl rfl ?_
  refine s_iconst (v := 2) dL_law_694 (by decide) ?_
  refine s_iadd dL_law_695 ?_
  refine s_sld (j := i + 2) dL_law_696 (by first | with_reducible rfl | ((try simp only [z0, z1, zm1, zm2, zm3, zm4, zl2, zl3, zl4, zl5, zl6, zl7, zl8, zl9, zl10, zl20, zl28, zl31, zl32, zl33, zl48, zl57, zl64, zl100, zl127, zl200, zl201, zl202, zl402, zl1200, zl2412, zl16884, zI_add, zI_sub, zI_mul, zI_inc, zI_dec]) <;> (congr 1 <;> omega))) (by omega) hL ?_
  refine s_aload_n (i := 0) dL_law_697 rfl rfl ?_
  refine s_iload_n (i := 3) dL_law_698 rfl rfl ?_
  refine s_iconst (v := 3) dL_law_699 (by decide) ?_
  refine s_iadd dL_law_700 ?_
  refine s_sld (j := i + 3) dL_law_701 (by first | with_reducible rfl | ((try simp only [z0, z1, zm1, zm2, zm3, zm4, zl2, zl3, zl4, zl5, zl6, zl7, zl8, zl9, zl10, zl20, zl28, zl31, zl32, zl33, zl48, zl57, zl64, zl100, zl127, zl200, zl201, zl202, zl402, zl1200, zl2412, zl16884, zI_add, zI_sub, zI_mul, zI_inc, zI_dec]) <;> (congr 1 <;> omega))) (by omega) hL ?_
  refine s_cV_III (My := mX11_find) dL_law_702 wM_L_87 cb_yX11_find ci_yX11_find e0 o2 (Nat.le_of_ble_eq_true rfl) (by decide) (s_d (by omega) (c_find (d := 0) hC hk (fun T1 I1 a S1 hr hq1 hf1 hC1 => ?_)))
  have hM1 := hM.m hq1.m hf1
  have om := hM1.1.o
  refine s_aload_n (i := 2) dL_law_705 rfl rfl ?_
  refine s_aload_n (i := 0) dL_law_706 rfl rfl ?_
  refine s_iload_n (i := 3) dL_law_707 rfl rfl ?_
  refine s_iconst (v := 1) dL_law_708 (by decide) ?_
  refine s_iadd dL_law_709 ?_
  refine s_sld (j := i + 1) dL_law_710 (by first | with_reducible rfl | ((try simp only [z0, z1, zm1, zm2, zm3, zm4, zl2, zl3, zl4, zl5, zl6, zl7, zl8, zl9, zl10, zl20, zl28, zl31, zl32, zl33, zl48, zl57, zl64, zl100, zl127, zl200, zl201, zl202, zl402, zl1200, zl2412, zl16884, zI_add, zI_sub, zI_mul, zI_inc, zI_dec]) <;> (congr 1 <;> omega))) (by omega) hL ?_
  refine s_aload_n (i := 0) dL_law_711 rfl rfl ?_
  refine s_iload_n (i := 3) dL_law_712 rfl rfl ?_
  refine s_iconst (v := 2) dL_law_713 (by decide) ?_
  refine s_iadd dL_law_714 ?_
  refine s_sld (j := i + 2) dL_law_715 (by first | with_reducible rfl | ((try simp only [z0, z1, zm1, zm2, zm3, zm4, zl2, zl3, zl4, zl5, zl6, zl7, zl8, zl9, zl10, zl20, zl28, zl31, zl32, zl33, zl48, zl57, zl64, zl100, zl127, zl200, zl201, zl202, zl402, zl1200, zl2412, zl16884, zI_add, zI_sub, zI_mul, zI_inc, zI_dec]) <;> (congr 1 <;> omega))) (by omega) hL ?_
  refine s_aload_n (i := 0) dL_law_716 rfl rfl ?_
  refine s_iload_n (i := 3) dL_law_717 rfl rfl ?_
  refine s_iconst (v := 3) dL_law_718 (by decide) ?_
  refine s_iadd dL_law_719 ?_
  refine s_sld (j := i + 3) dL_law_720 (by first | with_reducible rfl | ((try simp only [z0, z1, zm1, zm2, zm3, zm4, zl2, zl3, zl4, zl5, zl6, zl7, zl8, zl9, zl10, zl20, zl28, zl31, zl32, zl33, zl48, zl57, zl64, zl100, zl127, zl200, zl201, zl202, zl402, zl1200, zl2412, zl16884, zI_add, zI_sub, zI_mul, zI_inc, zI_dec]) <;> (congr 1 <;> omega))) (by omega) hL ?_
  refine s_cV_III (My := mX12_find) dL_law_721 wM_L_90 cb_yX12_find ci_yX12_find om.1 om.2 (Nat.le_of_ble_eq_true rfl) (by decide) (s_d (by omega) (m_find (d := 0) hM1 hk hr (fun I2 hf2 hM2 => ?_)))
  refine s_icmp_eq (tgt := 878) dL_law_724 (by decide) (fun _ => ?_) (fun h => absurd rfl h)
  exact kk T1 I2 J S1 (hLI.st (hr.st hk (by omega) (by omega)) (fun _ => hq1.1) hC1 hf2 hM2)
set_option maxRecDepth 100000 in
set_option maxHeartbeats 1000000 in
theorem lc_cached {G : fG} {x0 : Nat} {l : Launch} {k n : Nat} {nm : String} {b L : Nat} {xs : Nat → Int32} {T : fT} {I : fI} {J : fJ} {S : ASt} {i : Nat} (hL : L ≤ 2560) (hi : i + 5 ≤ L) (hLI : LI T I S i) (kk : ∀ (T' : fT) (I' : fI) (J' : fJ) (S' : ASt), LI T' I' S' (i + 5) → PW G x0 l (mLaw nm) 12 (ZL b L xs x0) k n 878 [(0, .ref b), (1, .ref (x0 + 0)), (2, .ref (x0 + 144)), (3, .int (zI i))] [] T' I' J') : PW G x0 l (mLaw nm) 12 (ZL b L xs x0) (k + 13) (n + 6124) 729 [(0, .ref b), (1, .ref (x0 + 0)), (2, .ref (x0 + 144)), (3, .int (zI i))] [] T I J := by
  obtain ⟨hC, hM, hk, hN, n1, n2⟩ := id hLI
  obtain ⟨⟨o1, o2, -⟩, -⟩ := id hC.1
  have e0 : (0 : Nat) < T.1 := by omega
  refine s_kn (k' := k) (n' := n) (by omega) (by omega) ?_
  refine s_aload_n (i := 1) dL_law_729 rfl rfl ?_
  refine s_aload_n (i := 0) dL_law_730 rfl rfl ?_
  refine s_iload_n (i := 3) dL_law_731 rfl rfl ?_
  refine s_iconst (v := 1) dL_law_732 (by decide) ?_
  refine s_iadd dL_law_733 ?_
  refine s_sld (j := i + 1) dL_law_734 (by first | with_reducible rfl | ((try simp only [z0, z1, zm1, zm2, zm3, zm4, zl2, zl3, zl4, zl5, zl6, zl7, zl8, zl9, zl10, zl20, zl28, zl31, zl32, zl33, zl48, zl57, zl64, zl100, zl127, zl200, zl201, zl202, zl402, zl1200, zl2412, zl16884, zI_add, zI_sub, zI_mul, zI_inc, zI_dec]) <;> (congr 1 <;> omega))) (by omega) hL ?_
  refine s_aload_n (i := 0) dL_law_735 rfl rfl ?_
  refine s_iload_n (i := 3) dL_law_736 rfl rfl ?_
  refine s_iconst (v := 2) dL_law_737 (by decide) ?_
  refine s_iadd dL_law_738 ?_
  refine s_sld (j := i + 2) dL_law_739 (by first | with_reducible rfl | ((try simp only [z0, z1, zm1, zm2, zm3, zm4, zl2, zl3, zl4, zl5, zl6, zl7, zl8, zl9, zl10, zl20, zl28, zl31, zl32, zl33, zl48, zl57, zl64, zl100, zl127, zl200, zl201, zl202, zl402, zl1200, zl2412, zl16884, zI_add, zI_sub, zI_mul, zI_inc, zI_dec]) <;> (congr 1 <;> omega))) (by omega) hL ?_
  refine s_cV_II (My := mX11_cached) dL_law_740 wM_L_91 cb_yX11_cached ci_yX11_cached e0 o2 (Nat.le_of_ble_eq_true rfl) (by decide) (s_d (by omega) (c_cached (d := 0) hC hk (fun T1 I1 hq1 hf1 => ?_)))
  have hM1 := hM.m hq1.m (frM.ro hf1)
  have om := hM1.1.o
  refine s_aload_n (i := 2) dL_law_743 rfl rfl ?_
  refine s_aload_n (i := 0) dL_law_744 rfl rfl ?_
  refine s_iload_n (i := 3) dL_law_745 rfl rfl ?_
  refine s_iconst (v := 1) dL_law_746 (by decide) ?_
  refine s_iadd dL_law_747 ?_
  refine s_sld (j := i + 1) dL_law_748 (by first | with_reducible rfl | ((try simp only [z0, z1, zm1, zm2, zm3, zm4, zl2, zl3, zl4, zl5, zl6, zl7, zl8, zl9, zl10, zl20, zl28, zl31, zl32, zl33, zl48, zl57, zl64, zl100, zl127, zl200, zl201, zl202, zl402, zl1200, zl2412, zl16884, zI_add, zI_sub, zI_mul, zI_inc, zI_dec]) <;> (congr 1 <;> omega))) (by omega) hL ?_
  refine s_aload_n (i := 0) dL_law_749 rfl rfl ?_
  refine s_iload_n (i := 3) dL_law_750 rfl rfl ?_
  refine s_iconst (v := 2) dL_law_751 (by decide) ?_
  refine s_iadd dL_law_752 ?_
  refine s_sld (j := i + 2) dL_law_753 (by first | with_reducible rfl | ((try simp only [z0, z1, zm1, zm2, zm3, zm4, zl2, zl3, zl4, zl5, zl6, zl7, zl8, zl9, zl10, zl20, zl28, zl31, zl32, zl33, zl48, zl57, zl64, zl100, zl127, zl200, zl201, zl202, zl402, zl1200, zl2412, zl16884, zI_add, zI_sub, zI_mul, zI_inc, zI_dec]) <;> (congr 1 <;> omega))) (by omega) hL ?_
  refine s_cV_II (My := mX12_cached) dL_law_754 wM_L_94 cb_yX12_cached ci_yX12_cached om.1 om.2 (Nat.le_of_ble_eq_true rfl) (by decide) (s_d (by omega) (m_cached (d := 0) hM1 hk (fun I2 hf2 => ?_)))
  refine s_icmp_eq (tgt := 878) dL_law_757 (by decide) (fun _ => ?_) (fun h => absurd rfl h)
  exact kk T1 I2 J S (hLI.ro hq1 hf1 hf2)
set_option maxRecDepth 100000 in
set_option maxHeartbeats 1000000 in
theorem lc_query {G : fG} {x0 : Nat} {l : Launch} {k n : Nat} {nm : String} {b L : Nat} {xs : Nat → Int32} {T : fT} {I : fI} {J : fJ} {S : ASt} {i : Nat} (hL : L ≤ 2560) (hi : i + 5 ≤ L) (hLI : LI T I S i) (kk : ∀ (T' : fT) (I' : fI) (J' : fJ) (S' : ASt), LI T' I' S' (i + 5) → PW G x0 l (mLaw nm) 12 (ZL b L xs x0) k n 878 [(0, .ref b), (1, .ref (x0 + 0)), (2, .ref (x0 + 144)), (3, .int (zI i))] [] T' I' J') : PW G x0 l (mLaw nm) 12 (ZL b L xs x0) (k + 13) (n + 6124) 762 [(0, .ref b), (1, .ref (x0 + 0)), (2, .ref (x0 + 144)), (3, .int (zI i))] [] T I J := by
  obtain ⟨hC, hM, hk, hN, n1, n2⟩ := id hLI
  obtain ⟨⟨o1, o2, -⟩, -⟩ := id hC.1
  have e0 : (0 : Nat) < T.1 := by omega
  refine s_aload_n (i := 1) dL_law_762 rfl rfl ?_
  refine s_callV (As := []) (k' := 0 + 13) (n' := 0 + 6124) (My := mX11_query) dL_law_763 wM_L_95 cb_yX11_query ci_yX11_query e0 o2 rfl (Nat.le_of_ble_eq_true rfl) (show 1 ≤ mX11_query.2.2.1 by decide) (s_d (by omega) (c_query (d := 0) (k := 0) (n := 0) hC hk hN (fun T1 I1 J1 a S1 hr hq1 hf1 hC1 hT1 => ?_)))
  have hM1 := hM.m hq1 hf1
  have om := hM1.1.o
  refine s_aload_n (i := 2) dL_law_766 rfl rfl ?_
  refine s_cV_ (My := mX12_query) dL_law_767 wM_L_98 cb_yX12_query ci_yX12_query om.1 om.2 (Nat.le_of_ble_eq_true rfl) (by decide) (s_d (by omega) (m_query (d := 0) hM1 hk hr (fun I2 hf2 hM2 => ?_)))
  refine s_icmp_eq (tgt := 878) dL_law_770 (by decide) (fun _ => ?_) (fun h => absurd rfl h)
  exact kk T1 I2 J1 S1 (hLI.st (hr.st hk) (fun h => by rw [hT1 h]) hC1 hf2 hM2)
set_option maxRecDepth 100000 in
set_option maxHeartbeats 1000000 in
theorem lc_result {G : fG} {x0 : Nat} {l : Launch} {k n : Nat} {nm : String} {b L : Nat} {xs : Nat → Int32} {T : fT} {I : fI} {J : fJ} {S : ASt} {i : Nat} (hL : L ≤ 2560) (hi : i + 5 ≤ L) (hLI : LI T I S i) (kk : ∀ (T' : fT) (I' : fI) (J' : fJ) (S' : ASt), LI T' I' S' (i + 5) → PW G x0 l (mLaw nm) 12 (ZL b L xs x0) k n 878 [(0, .ref b), (1, .ref (x0 + 0)), (2, .ref (x0 + 144)), (3, .int (zI i))] [] T' I' J') : PW G x0 l (mLaw nm) 12 (ZL b L xs x0) (k + 13) (n + 6124) 775 [(0, .ref b), (1, .ref (x0 + 0)), (2, .ref (x0 + 144)), (3, .int (zI i))] [] T I J := by
  obtain ⟨hC, hM, hk, hN, n1, n2⟩ := id hLI
  obtain ⟨⟨o1, o2, -⟩, -⟩ := id hC.1
  have e0 : (0 : Nat) < T.1 := by omega
  refine s_kn (k' := k) (n' := n) (by omega) (by omega) ?_
  refine s_aload_n (i := 1) dL_law_775 rfl rfl ?_
  refine s_aload_n (i := 0) dL_law_776 rfl rfl ?_
  refine s_iload_n (i := 3) dL_law_777 rfl rfl ?_
  refine s_iconst (v := 1) dL_law_778 (by decide) ?_
  refine s_iadd dL_law_779 ?_
  refine s_sld (j := i + 1) dL_law_780 (by first | with_reducible rfl | ((try simp only [z0, z1, zm1, zm2, zm3, zm4, zl2, zl3, zl4, zl5, zl6, zl7, zl8, zl9, zl10, zl20, zl28, zl31, zl32, zl33, zl48, zl57, zl64, zl100, zl127, zl200, zl201, zl202, zl402, zl1200, zl2412, zl16884, zI_add, zI_sub, zI_mul, zI_inc, zI_dec]) <;> (congr 1 <;> omega))) (by omega) hL ?_
  refine s_cV_I (My := mX11_result) dL_law_781 wM_L_99 cb_yX11_result ci_yX11_result e0 o2 (Nat.le_of_ble_eq_true rfl) (by decide) (s_d (by omega) (c_result (d := 0) hC hk (fun T1 I1 hq1 hf1 => ?_)))
  have hM1 := hM.m hq1.m (frM.ro hf1)
  have om := hM1.1.o
  refine s_aload_n (i := 2) dL_law_784 rfl rfl ?_
  refine s_aload_n (i := 0) dL_law_785 rfl rfl ?_
  refine s_iload_n (i := 3) dL_law_786 rfl rfl ?_
  refine s_iconst (v := 1) dL_law_787 (by decide) ?_
  refine s_iadd dL_law_788 ?_
  refine s_sld (j := i + 1) dL_law_789 (by first | with_reducible rfl | ((try simp only [z0, z1, zm1, zm2, zm3, zm4, zl2, zl3, zl4, zl5, zl6, zl7, zl8, zl9, zl10, zl20, zl28, zl31, zl32, zl33, zl48, zl57, zl64, zl100, zl127, zl200, zl201, zl202, zl402, zl1200, zl2412, zl16884, zI_add, zI_sub, zI_mul, zI_inc, zI_dec]) <;> (congr 1 <;> omega))) (by omega) hL ?_
  refine s_cV_I (My := mX12_result) dL_law_790 wM_L_102 cb_yX12_result ci_yX12_result om.1 om.2 (Nat.le_of_ble_eq_true rfl) (by decide) (s_d (by omega) (m_result (d := 0) hM1 hk (fun I2 hf2 => ?_)))
  refine s_icmp_eq (tgt := 878) dL_law_793 (by decide) (fun _ => ?_) (fun h => absurd rfl h)
  exact kk T1 I2 J S (hLI.ro hq1 hf1 hf2)
set_option maxRecDepth 100000 in
set_option maxHeartbeats 1000000 in
theorem lc_common {G : fG} {x0 : Nat} {l : Launch} {k n : Nat} {nm : String} {b L : Nat} {xs : Nat → Int32} {T : fT} {I : fI} {J : fJ} {S : ASt} {i : Nat} (hL : L ≤ 2560) (hi : i + 5 ≤ L) (hLI : LI T I S i) (kk : ∀ (T' : fT) (I' : fI) (J' : fJ) (S' : ASt), LI T' I' S' (i + 5) → PW G x0 l (mLaw nm) 12 (ZL b L xs x0) k n 878 [(0, .ref b), (1, .ref (x0 + 0)), (2, .ref (x0 + 144)), (3, .int (zI i))] [] T' I' J') : PW G x0 l (mLaw nm) 12 (ZL b L xs x0) (k + 13) (n + 6124) 798 [(0, .ref b), (1, .ref (x0 + 0)), (2, .ref (x0 + 144)), (3, .int (zI i))] [] T I J := by
  obtain ⟨hC, hM, hk, hN, n1, n2⟩ := id hLI
  obtain ⟨⟨o1, o2, -⟩, -⟩ := id hC.1
  have e0 : (0 : Nat) < T.1 := by omega
  refine s_kn (k' := k) (n' := n) (by omega) (by omega) ?_
  refine s_aload_n (i := 1) dL_law_798 rfl rfl ?_
  refine s_aload_n (i := 0) dL_law_799 rfl rfl ?_
  refine s_iload_n (i := 3) dL_law_800 rfl rfl ?_
  refine s_iconst (v := 1) dL_law_801 (by decide) ?_
  refine s_iadd dL_law_802 ?_
  refine s_sld (j := i + 1) dL_law_803 (by first | with_reducible rfl | ((try simp only [z0, z1, zm1, zm2, zm3, zm4, zl2, zl3, zl4, zl5, zl6, zl7, zl8, zl9, zl10, zl20, zl28, zl31, zl32, zl33, zl48, zl57, zl64, zl100, zl127, zl200, zl201, zl202, zl402, zl1200, zl2412, zl16884, zI_add, zI_sub, zI_mul, zI_inc, zI_dec]) <;> (congr 1 <;> omega))) (by omega) hL ?_
  refine s_aload_n (i := 0) dL_law_804 rfl rfl ?_
  refine s_iload_n (i := 3) dL_law_805 rfl rfl ?_
  refine s_iconst (v := 2) dL_law_806 (by decide) ?_
  refine s_iadd dL_law_807 ?_
  refine s_sld (j := i + 2) dL_law_808 (by first | with_reducible rfl | ((try simp only [z0, z1, zm1, zm2, zm3, zm4, zl2, zl3, zl4, zl5, zl6, zl7, zl8, zl9, zl10, zl20, zl28, zl31, zl32, zl33, zl48, zl57, zl64, zl100, zl127, zl200, zl201, zl202, zl402, zl1200, zl2412, zl16884, zI_add, zI_sub, zI_mul, zI_inc, zI_dec]) <;> (congr 1 <;> omega))) (by omega) hL ?_
  refine s_aload_n (i := 0) dL_law_809 rfl rfl ?_
  refine s_iload_n (i := 3) dL_law_810 rfl rfl ?_
  refine s_iconst (v := 3) dL_law_811 (by decide) ?_
  refine s_iadd dL_law_812 ?_
  refine s_sld (j := i + 3) dL_law_813 (by first | with_reducible rfl | ((try simp only [z0, z1, zm1, zm2, zm3, zm4, zl2, zl3, zl4, zl5, zl6, zl7, zl8, zl9, zl10, zl20, zl28, zl31, zl32, zl33, zl48, zl57, zl64, zl100, zl127, zl200, zl201, zl202, zl402, zl1200, zl2412, zl16884, zI_add, zI_sub, zI_mul, zI_inc, zI_dec]) <;> (congr 1 <;> omega))) (by omega) hL ?_
  refine s_cV_III (My := mX11_common) dL_law_814 wM_L_103 cb_yX11_common ci_yX11_common e0 o2 (Nat.le_of_ble_eq_true rfl) (by decide) (s_d (by omega) (c_common (d := 0) hC hk (fun T1 I1 hq1 hf1 => ?_)))
  have hM1 := hM.m hq1.m (frM.ro hf1)
  have om := hM1.1.o
  refine s_aload_n (i := 2) dL_law_817 rfl rfl ?_
  refine s_aload_n (i := 0) dL_law_818 rfl rfl ?_
  refine s_iload_n (i := 3) dL_law_819 rfl rfl ?_
  refine s_iconst (v := 1) dL_law_820 (by decide) ?_
  refine s_iadd dL_law_821 ?_
  refine s_sld (j := i + 1) dL_law_822 (by first | with_reducible rfl | ((try simp only [z0, z1, zm1, zm2, zm3, zm4, zl2, zl3, zl4, zl5, zl6, zl7, zl8, zl9, zl10, zl20, zl28, zl31, zl32, zl33, zl48, zl57, zl64, zl100, zl127, zl200, zl201, zl202, zl402, zl1200, zl2412, zl16884, zI_add, zI_sub, zI_mul, zI_inc, zI_dec]) <;> (congr 1 <;> omega))) (by omega) hL ?_
  refine s_aload_n (i := 0) dL_law_823 rfl rfl ?_
  refine s_iload_n (i := 3) dL_law_824 rfl rfl ?_
  refine s_iconst (v := 2) dL_law_825 (by decide) ?_
  refine s_iadd dL_law_826 ?_
  refine s_sld (j := i + 2) dL_law_827 (by first | with_reducible rfl | ((try simp only [z0, z1, zm1, zm2, zm3, zm4, zl2, zl3, zl4, zl5, zl6, zl7, zl8, zl9, zl10, zl20, zl28, zl31, zl32, zl33, zl48, zl57, zl64, zl100, zl127, zl200, zl201, zl202, zl402, zl1200, zl2412, zl16884, zI_add, zI_sub, zI_mul, zI_inc, zI_dec]) <;> (congr 1 <;> omega))) (by omega) hL ?_
  refine s_aload_n (i := 0) dL_law_828 rfl rfl ?_
  refine s_iload_n (i := 3) dL_law_829 rfl rfl ?_
  refine s_iconst (v := 3) dL_law_830 (by decide) ?_
  refine s_iadd dL_law_831 ?_
  refine s_sld (j := i + 3) dL_law_832 (by first | with_reducible rfl | ((try simp only [z0, z1, zm1, zm2, zm3, zm4, zl2, zl3, zl4, zl5, zl6, zl7, zl8, zl9, zl10, zl20, zl28, zl31, zl32, zl33, zl48, zl57, zl64, zl100, zl127, zl200, zl201, zl202, zl402, zl1200, zl2412, zl16884, zI_add, zI_sub, zI_mul, zI_inc, zI_dec]) <;> (congr 1 <;> omega))) (by omega) hL ?_
  refine s_cV_III (My := mX12_common) dL_law_833 wM_L_106 cb_yX12_common ci_yX12_common om.1 om.2 (Nat.le_of_ble_eq_true rfl) (by decide) (s_d (by omega) (m_common (d := 0) hM1 hk (fun I2 hf2 => ?_)))
  refine s_icmp_eq (tgt := 878) dL_law_836 (by decide) (fun _ => ?_) (fun h => absurd rfl h)
  exact kk T1 I2 J S (hLI.ro hq1 hf1 hf2)
set_option maxRecDepth 100000 in
set_option maxHeartbeats 1000000 in
theorem lc_count {G : fG} {x0 : Nat} {l : Launch} {k n : Nat} {nm : String} {b L : Nat} {xs : Nat → Int32} {T : fT} {I : fI} {J : fJ} {S : ASt} {i : Nat} (hL : L ≤ 2560) (hi : i + 5 ≤ L) (hLI : LI T I S i) (kk : ∀ (T' : fT) (I' : fI) (J' : fJ) (S' : ASt), LI T' I' S' (i + 5) → PW G x0 l (mLaw nm) 12 (ZL b L xs x0) k n 878 [(0, .ref b), (1, .ref (x0 + 0)), (2, .ref (x0 + 144)), (3, .int (zI i))] [] T' I' J') : PW G x0 l (mLaw nm) 12 (ZL b L xs x0) (k + 13) (n + 6124) 841 [(0, .ref b), (1, .ref (x0 + 0)), (2, .ref (x0 + 144)), (3, .int (zI i))] [] T I J := by
  obtain ⟨hC, hM, hk, hN, n1, n2⟩ := id hLI
  obtain ⟨⟨o1, o2, -⟩, -⟩ := id hC.1
  have e0 : (0 : Nat) < T.1 := by omega
  refine s_kn (k' := k) (n' := n) (by omega) (by omega) ?_
  refine s_aload_n (i := 1) dL_law_841 rfl rfl ?_
  refine s_aload_n (i := 0) dL_law_842 rfl rfl ?_
  refine s_iload_n (i := 3) dL_law_843 rfl rfl ?_
  refine s_iconst (v := 1) dL_law_844 (by decide) ?_
  refine s_iadd dL_law_845 ?_
  refine s_sld (j := i + 1) dL_law_846 (by first | with_reducible rfl | ((try simp only [z0, z1, zm1, zm2, zm3, zm4, zl2, zl3, zl4, zl5, zl6, zl7, zl8, zl9, zl10, zl20, zl28, zl31, zl32, zl33, zl48, zl57, zl64, zl100, zl127, zl200, zl201, zl202, zl402, zl1200, zl2412, zl16884, zI_add, zI_sub, zI_mul, zI_inc, zI_dec]) <;> (congr 1 <;> omega))) (by omega) hL ?_
  refine s_cV_I (My := mX11_count) dL_law_847 wM_L_107 cb_yX11_count ci_yX11_count e0 o2 (Nat.le_of_ble_eq_true rfl) (by decide) (s_d (by omega) (c_count (d := 0) hC hk (fun T1 I1 hq1 hf1 => ?_)))
  have hM1 := hM.m hq1.m (frM.ro hf1)
  have om := hM1.1.o
  refine s_aload_n (i := 2) dL_law_850 rfl rfl ?_
  refine s_aload_n (i := 0) dL_law_851 rfl rfl ?_
  refine s_iload_n (i := 3) dL_law_852 rfl rfl ?_
  refine s_iconst (v := 1) dL_law_853 (by decide) ?_
  refine s_iadd dL_law_854 ?_
  refine s_sld (j := i + 1) dL_law_855 (by first | with_reducible rfl | ((try simp only [z0, z1, zm1, zm2, zm3, zm4, zl2, zl3, zl4, zl5, zl6, zl7, zl8, zl9, zl10, zl20, zl28, zl31, zl32, zl33, zl48, zl57, zl64, zl100, zl127, zl200, zl201, zl202, zl402, zl1200, zl2412, zl16884, zI_add, zI_sub, zI_mul, zI_inc, zI_dec]) <;> (congr 1 <;> omega))) (by omega) hL ?_
  refine s_cV_I (My := mX12_count) dL_law_856 wM_L_110 cb_yX12_count ci_yX12_count om.1 om.2 (Nat.le_of_ble_eq_true rfl) (by decide) (s_d (by omega) (m_count (d := 0) hM1 hk (fun I2 hf2 => ?_)))
  refine s_icmp_eq (tgt := 878) dL_law_859 (by decide) (fun _ => ?_) (fun h => absurd rfl h)
  exact kk T1 I2 J S (hLI.ro hq1 hf1 hf2)
set_option maxRecDepth 100000 in
set_option maxHeartbeats 1000000 in
theorem lc_digest {G : fG} {x0 : Nat} {l : Launch} {k n : Nat} {nm : String} {b L : Nat} {xs : Nat → Int32} {T : fT} {I : fI} {J : fJ} {S : ASt} {i : Nat} (hL : L ≤ 2560) (hi : i + 5 ≤ L) (hLI : LI T I S i) (kk : ∀ (T' : fT) (I' : fI) (J' : fJ) (S' : ASt), LI T' I' S' (i + 5) → PW G x0 l (mLaw nm) 12 (ZL b L xs x0) k n 878 [(0, .ref b), (1, .ref (x0 + 0)), (2, .ref (x0 + 144)), (3, .int (zI i))] [] T' I' J') : PW G x0 l (mLaw nm) 12 (ZL b L xs x0) (k + 13) (n + 6124) 864 [(0, .ref b), (1, .ref (x0 + 0)), (2, .ref (x0 + 144)), (3, .int (zI i))] [] T I J := by
  obtain ⟨hC, hM, hk, hN, n1, n2⟩ := id hLI
  obtain ⟨⟨o1, o2, -⟩, -⟩ := id hC.1
  have e0 : (0 : Nat) < T.1 := by omega
  refine s_kn (k' := k) (n' := n) (by omega) (by omega) ?_
  refine s_aload_n (i := 1) dL_law_864 rfl rfl ?_
  refine s_cV_ (My := mX11_digest) dL_law_865 wM_L_111 cb_yX11_digest ci_yX11_digest e0 o2 (Nat.le_of_ble_eq_true rfl) (by decide) (s_d (by omega) (c_digest (d := 0) hC hk (fun T1 I1 hq1 hf1 => ?_)))
  have hM1 := hM.m hq1.m (frM.ro hf1)
  have om := hM1.1.o
  refine s_aload_n (i := 2) dL_law_868 rfl rfl ?_
  refine s_cV_ (My := mX12_digest) dL_law_869 wM_L_115 cb_yX12_digest ci_yX12_digest om.1 om.2 (Nat.le_of_ble_eq_true rfl) (by decide) (s_d (by omega) (m_digest (d := 0) hM1 hk (fun I2 J2 hf2 _ => ?_)))
  refine s_lcmp dL_law_872 ?_
  refine s_if_eq (tgt := 878) dL_law_873 (by decide) (fun _ => ?_) (fun h => absurd (lg_self _) h)
  exact kk T1 I2 J2 S (hLI.ro hq1 hf1 hf2)
