set_option maxRecDepth 100000 in
set_option maxHeartbeats 1000000 in
theorem m_looks {G : fG} {x0 : Nat} {l : Launch} {d k n : Nat} {T : fT} {I : fI} {J : fJ} {Q : Option Value → fT → fI → fJ → Prop} {li j : Nat} {S : ASt} {C' : List (Int × Int) × Nat × Nat} (hS : MIs T I S) (hk : SOk S) (hli : li < 6) (hj : j < 1000) (h : rLook S.2.2.1 ((li : Int), (j : Int)) C') (hq : ∀ I', fr I I' [144, 147, 148] → MIs T I' (setC S C') → Q none T I' J) : PW G x0 l mX12_looks (d + 1) (ZM G x0 Q) k n 0 [(0, .ref (x0 + 144)), (1, .int (zI li)), (2, .int (zI j))] [] T I J := by
  have hM := hS.1
  obtain ⟨o1, o2⟩ := hM.o
  obtain ⟨r147, b147, k147, n147⟩ := hM.a147
  obtain ⟨r148, b148, k148, n148⟩ := hM.a148
  have hxt : (zI (li : Int)).toInt = li := zI_t (by omega) (by omega)
  have hyt : (zI (j : Int)).toInt = j := zI_t (by omega) (by omega)
  obtain ⟨c1, c2, c3, c4, c5⟩ := id hS.2.2.2.1
  have hnd := hk.2.2.1.1
  refine s_aload_n (i := 0) dX12_looks_0 rfl rfl ?_
  refine s_iload_n (i := 1) dX12_looks_1 rfl rfl ?_
  refine s_iload_n (i := 2) dX12_looks_2 rfl rfl ?_
  refine s_cV_II (My := mX12_cachePlace) dX12_looks_3 wM_X12_94 cb_yX12_cachePlace ci_yX12_cachePlace (by assumption) (by assumption) (Nat.le_of_ble_eq_true rfl) (by decide) (s_d (by omega) (m_place (d := 0) hM hS.2.2.2.1 hk.cr (fun p hp => ?_) (fun hn => ?_)))
  · rw [hxt, hyt] at hp
    have hp4 := (List.getElem?_eq_some_iff.mp hp).1
    rw [List.length_reverse] at hp4
    rw [List.getElem?_reverse hp4] at hp
    obtain ⟨p2, hp2, rfl⟩ | ⟨hno, -⟩ := h
    · obtain ⟨hpl, -⟩ := List.getElem?_eq_some_iff.mp hp2
      have hpe : p2 = S.2.2.1.1.length - 1 - p := (List.getElem?_inj hpl hnd).mp (hp2.trans hp.symm)
      have hre : (S.2.2.1.1.eraseIdx p2).reverse = S.2.2.1.1.reverse.eraseIdx p := by
        rw [rev_erase _ hpl]
        congr 1
        omega
      have hrl : ((S.2.2.1.1.eraseIdx p2).reverse).length = S.2.2.1.1.length - 1 := by rw [List.length_reverse, List.length_eraseIdx_of_lt hpl]
      refine s_istore_n (i := 3) dX12_looks_6 rfl (by decide) (by simp only [sl, sl2, rm, Value.category, reduceIte, Nat.reduceAdd, Nat.reduceEqDiff, reduceCtorEq]; rfl) ?_
      refine s_aload_n (i := 0) dX12_looks_7 rfl rfl ?_
      refine s_dup dX12_looks_8 rfl ?_
      refine s_getI dX12_looks_9 fl_X12_97 (by assumption) (by assumption) ?_
      refine s_iload_n (i := 3) dX12_looks_12 rfl rfl ?_
      refine s_iconst (v := -1) dX12_looks_13 (by decide) ?_
      refine s_icmp_ne (tgt := 21) dX12_looks_14 (by decide) (fun h14 => ?_) (fun h14 => absurd h14 (fun h => by rw [zm1, zI_eq (by omega) (by omega) (by omega) (by omega)] at h; omega))
      refine s_iconst (v := 1) dX12_looks_21 (by decide) ?_
      refine s_iadd dX12_looks_22 ?_
      rw [c3]
      refine s_topi (y := zI ((S.2.2.1.2.1 + 1 : Nat) : Int)) (by first | with_reducible rfl | ((try simp only [z0, z1, zm1, zm2, zm3, zm4, zl2, zl3, zl4, zl5, zl6, zl7, zl8, zl9, zl10, zl20, zl28, zl31, zl32, zl33, zl48, zl57, zl64, zl100, zl127, zl200, zl201, zl202, zl402, zl1200, zl2412, zl16884, zI_add, zI_sub, zI_mul, zI_inc, zI_dec]) <;> (congr 1 <;> omega))) ?_
      refine s_putI dX12_looks_23 fp_X12_97 (by assumption) (by assumption) ?_
      refine s_aload_n (i := 0) dX12_looks_26 rfl rfl ?_
      refine s_dup dX12_looks_27 rfl ?_
      refine s_getI dX12_looks_28 fl_X12_100 (by assumption) (by assumption) ?_
      refine s_iload_n (i := 3) dX12_looks_31 rfl rfl ?_
      refine s_iconst (v := -1) dX12_looks_32 (by decide) ?_
      refine s_icmp_ne (tgt := 40) dX12_looks_33 (by decide) (fun h33 => ?_) (fun h33 => absurd h33 (fun h => by rw [zm1, zI_eq (by omega) (by omega) (by omega) (by omega)] at h; omega))
      refine s_iconst (v := 0) dX12_looks_40 (by decide) ?_
      refine s_iadd dX12_looks_41 ?_
      rw [iu_j (by omega), c4]
      refine s_topi (y := zI ((S.2.2.1.2.2 : Nat) : Int)) (by first | with_reducible rfl | ((try simp only [z0, z1, zm1, zm2, zm3, zm4, zl2, zl3, zl4, zl5, zl6, zl7, zl8, zl9, zl10, zl20, zl28, zl31, zl32, zl33, zl48, zl57, zl64, zl100, zl127, zl200, zl201, zl202, zl402, zl1200, zl2412, zl16884, zI_add, zI_sub, zI_mul, zI_inc, zI_dec]) <;> (congr 1 <;> omega))) ?_
      refine s_putI dX12_looks_42 fp_X12_100 (by assumption) (by assumption) ?_
      refine s_iload_n (i := 3) dX12_looks_45 rfl rfl ?_
      refine s_iconst (v := -1) dX12_looks_46 (by decide) ?_
      refine s_icmp_eq (tgt := 54) dX12_looks_47 (by decide) (fun h47 => absurd h47 (fun h => by rw [zm1, zI_eq (by omega) (by omega) (by omega) (by omega)] at h; omega)) (fun h47 => ?_)
      refine s_iload_n (i := 3) dX12_looks_50 rfl rfl ?_
      refine s_goto (tgt := 67) dX12_looks_51 (by decide) ?_
      refine s_istore dX12_looks_67 (by decide) (by simp only [sl, sl2, rm, Value.category, reduceIte, Nat.reduceAdd, Nat.reduceEqDiff, reduceCtorEq]; rfl) ?_
      refine s_iload dX12_looks_69 rfl ?_
      refine s_iconst (v := -1) dX12_looks_71 (by decide) ?_
      refine s_icmp_eq (tgt := 136) dX12_looks_72 (by decide) (fun h72 => absurd h72 (fun h => by rw [zm1, zI_eq (by omega) (by omega) (by omega) (by omega)] at h; omega)) (fun h72 => ?_)
      refine s_aload_n (i := 0) dX12_looks_75 rfl rfl ?_
      refine s_dup dX12_looks_76 rfl ?_
      refine s_getI dX12_looks_77 fl_X12_91 (by assumption) (by assumption) ?_
      refine s_iconst (v := 1) dX12_looks_80 (by decide) ?_
      refine s_isub dX12_looks_81 ?_
      rw [iu_j (by omega), iu_j (by omega), c2]
      refine s_topi (y := zI ((S.2.2.1.1.length - 1 : Nat) : Int)) (by first | with_reducible rfl | ((try simp only [z0, z1, zm1, zm2, zm3, zm4, zl2, zl3, zl4, zl5, zl6, zl7, zl8, zl9, zl10, zl20, zl28, zl31, zl32, zl33, zl48, zl57, zl64, zl100, zl127, zl200, zl201, zl202, zl402, zl1200, zl2412, zl16884, zI_add, zI_sub, zI_mul, zI_inc, zI_dec]) <;> (congr 1 <;> omega))) ?_
      refine s_putI dX12_looks_82 fp_X12_91 (by assumption) (by assumption) ?_
      refine s_iload dX12_looks_85 rfl ?_
      refine s_istore dX12_looks_87 (by decide) (by simp only [sl, sl2, rm, Value.category, reduceIte, Nat.reduceAdd, Nat.reduceEqDiff, reduceCtorEq]; rfl) ?_
      refine ml_looks1 hM (R := (S.2.2.1.1.eraseIdx p2).reverse) (p := p) (N := S.2.2.1.1.length - 1) (by omega) hrl (S.2.2.1.1.length - 1 - p) p _ (by omega) (Nat.le_refl p) iu_at (fun q e he => ?_) (fun I1 hf1 hj1 h51 hc1 => hq I1 (fun b hb => ?_) (mis_look hS (fun b hb => ?_) (fun jj h5 h6 h7 => ?_) ⟨?_, ?_, ?_, ?_, ?_⟩))
      · simp only [iu, Nat.reduceEqDiff, reduceIte, eq_self]
        rw [hre, List.getElem?_eraseIdx] at he
        refine ⟨fun h => ?_, fun h => ?_⟩
        · rw [if_pos h] at he; exact c5 q e he
        · rw [if_neg (by omega)] at he; exact c5 (q + 1) e he
      · rw [hf1 b hb]; simp at hb; rw [iu_ne (by omega), iu_ne (by omega), iu_ne (by omega)]
      · rw [hf1 b hb]; simp at hb; rw [iu_ne (by omega), iu_ne (by omega), iu_ne (by omega)]
      · rw [hj1 jj h5, iu_j h5, iu_j h7, iu_j h6]
      · rw [List.length_cons, List.length_eraseIdx_of_lt hpl]; omega
      · rw [h51, hrl, List.length_cons, List.length_eraseIdx_of_lt hpl]; congr 1
      · rw [hj1 6 (by omega), iu_j (by omega), iu_j (by omega), iu_at]
      · rw [hj1 7 (by omega), iu_j (by omega), iu_at]
      · rw [hxt, hyt] at hc1
        rw [List.reverse_cons]
        exact hc1
    · exact absurd (List.mem_of_getElem? hp) hno
  · rw [hxt, hyt] at hn
    obtain ⟨p2, hp2, -⟩ | ⟨-, rfl⟩ := h
    · exact absurd (List.mem_of_getElem? hp2) hn
    · refine s_istore_n (i := 3) dX12_looks_6 rfl (by decide) (by simp only [sl, sl2, rm, Value.category, reduceIte, Nat.reduceAdd, Nat.reduceEqDiff, reduceCtorEq]; rfl) ?_
      refine s_aload_n (i := 0) dX12_looks_7 rfl rfl ?_
      refine s_dup dX12_looks_8 rfl ?_
      refine s_getI dX12_looks_9 fl_X12_97 (by assumption) (by assumption) ?_
      refine s_iload_n (i := 3) dX12_looks_12 rfl rfl ?_
      refine s_iconst (v := -1) dX12_looks_13 (by decide) ?_
      refine s_icmp_ne (tgt := 21) dX12_looks_14 (by decide) (fun h14 => absurd h14 (fun h => h rfl)) (fun h14 => ?_)
      refine s_iconst (v := 0) dX12_looks_17 (by decide) ?_
      refine s_goto (tgt := 22) dX12_looks_18 (by decide) ?_
      refine s_iadd dX12_looks_22 ?_
      rw [c3]
      refine s_topi (y := zI ((S.2.2.1.2.1 : Nat) : Int)) (by first | with_reducible rfl | ((try simp only [z0, z1, zm1, zm2, zm3, zm4, zl2, zl3, zl4, zl5, zl6, zl7, zl8, zl9, zl10, zl20, zl28, zl31, zl32, zl33, zl48, zl57, zl64, zl100, zl127, zl200, zl201, zl202, zl402, zl1200, zl2412, zl16884, zI_add, zI_sub, zI_mul, zI_inc, zI_dec]) <;> (congr 1 <;> omega))) ?_
      refine s_putI dX12_looks_23 fp_X12_97 (by assumption) (by assumption) ?_
      refine s_aload_n (i := 0) dX12_looks_26 rfl rfl ?_
      refine s_dup dX12_looks_27 rfl ?_
      refine s_getI dX12_looks_28 fl_X12_100 (by assumption) (by assumption) ?_
      refine s_iload_n (i := 3) dX12_looks_31 rfl rfl ?_
      refine s_iconst (v := -1) dX12_looks_32 (by decide) ?_
      refine s_icmp_ne (tgt := 40) dX12_looks_33 (by decide) (fun h33 => absurd h33 (fun h => h rfl)) (fun h33 => ?_)
      refine s_iconst (v := 1) dX12_looks_36 (by decide) ?_
      refine s_goto (tgt := 41) dX12_looks_37 (by decide) ?_
      refine s_iadd dX12_looks_41 ?_
      rw [iu_j (by omega), c4]
      refine s_topi (y := zI ((S.2.2.1.2.2 + 1 : Nat) : Int)) (by first | with_reducible rfl | ((try simp only [z0, z1, zm1, zm2, zm3, zm4, zl2, zl3, zl4, zl5, zl6, zl7, zl8, zl9, zl10, zl20, zl28, zl31, zl32, zl33, zl48, zl57, zl64, zl100, zl127, zl200, zl201, zl202, zl402, zl1200, zl2412, zl16884, zI_add, zI_sub, zI_mul, zI_inc, zI_dec]) <;> (congr 1 <;> omega))) ?_
      refine s_putI dX12_looks_42 fp_X12_100 (by assumption) (by assumption) ?_
      refine s_iload_n (i := 3) dX12_looks_45 rfl rfl ?_
      refine s_iconst (v := -1) dX12_looks_46 (by decide) ?_
      refine s_icmp_eq (tgt := 54) dX12_looks_47 (by decide) (fun h47 => ?_) (fun h47 => absurd (rfl) h47)
      refine s_aload_n (i := 0) dX12_looks_54 rfl rfl ?_
      refine s_getI dX12_looks_55 fl_X12_91 (by assumption) (by assumption) ?_
      rw [iu_j (by omega), iu_j (by omega), c2]
      refine s_iconst (v := 4) dX12_looks_58 (by decide) ?_
      refine s_icmp_ne (tgt := 66) dX12_looks_59 (by decide) (fun c59 => ?_) (fun c59 => ?_)
      · refine s_iconst (v := -1) dX12_looks_66 (by decide) ?_
        rw [zl4, zI_eq (by omega) (by omega) (by omega) (by omega)] at c59
        refine s_istore dX12_looks_67 (by decide) (by simp only [sl, sl2, rm, Value.category, reduceIte, Nat.reduceAdd, Nat.reduceEqDiff, reduceCtorEq]; rfl) ?_
        refine s_iload dX12_looks_69 rfl ?_
        refine s_iconst (v := -1) dX12_looks_71 (by decide) ?_
        refine s_icmp_eq (tgt := 136) dX12_looks_72 (by decide) (fun h72 => ?_) (fun h72 => absurd (rfl) h72)
        refine ml_looks2 hM (R := S.2.2.1.1.reverse) (x := zI li) (y := zI j) (by rw [iu_j (by omega), iu_j (by omega), c2, List.length_reverse]) (by rw [List.length_reverse]; omega) (fun q e he => ?_) ⟨rfl, rfl, rfl, trivial⟩ (fun I1 hf1 hj1 h51 hc1 => hq I1 (fun b hb => ?_) (mis_look hS (fun b hb => ?_) (fun jj h5 h6 h7 => ?_) ⟨?_, ?_, ?_, ?_, ?_⟩))
        · simp only [iu, Nat.reduceEqDiff, reduceIte, eq_self]
          exact c5 q e he
        · rw [hf1 b hb]; simp at hb; rw [iu_ne (by omega), iu_ne (by omega)]
        · rw [hf1 b hb]; simp at hb; rw [iu_ne (by omega), iu_ne (by omega)]
        · rw [hj1 jj h5, iu_j h7, iu_j h6]
        · rw [List.length_take]; omega
        · rw [h51, List.length_reverse, List.length_take, List.length_cons]; congr 1; omega
        · rw [hj1 6 (by omega), iu_j (by omega), iu_at]
        · rw [hj1 7 (by omega), iu_at]
        · rw [hxt, hyt] at hc1
          rw [List.take_of_length_le (by rw [List.length_cons]; omega), List.reverse_cons]
          exact hc1
      · refine s_iconst (v := 0) dX12_looks_62 (by decide) ?_
        refine s_goto (tgt := 67) dX12_looks_63 (by decide) ?_
        rw [zl4, zI_eq (by omega) (by omega) (by omega) (by omega)] at c59
        have hlen : S.2.2.1.1.length = 4 := by omega
        have hre : (S.2.2.1.1.eraseIdx 3).reverse = S.2.2.1.1.reverse.eraseIdx 0 := by
          rw [rev_erase _ (by omega)]
          congr 1
          omega
        have hrl : ((S.2.2.1.1.eraseIdx 3).reverse).length = 3 := by rw [List.length_reverse, List.length_eraseIdx_of_lt (by omega)]; omega
        have htk : (((li : Int), (j : Int)) :: S.2.2.1.1).take 4 = ((li : Int), (j : Int)) :: S.2.2.1.1.eraseIdx 3 := by
          rw [List.take_succ_cons, List.eraseIdx_eq_take_drop_succ, List.drop_of_length_le (by omega), List.append_nil]
        refine s_istore dX12_looks_67 (by decide) (by simp only [sl, sl2, rm, Value.category, reduceIte, Nat.reduceAdd, Nat.reduceEqDiff, reduceCtorEq]; rfl) ?_
        refine s_iload dX12_looks_69 rfl ?_
        refine s_iconst (v := -1) dX12_looks_71 (by decide) ?_
        refine s_icmp_eq (tgt := 136) dX12_looks_72 (by decide) (fun h72 => absurd h72 (by decide)) (fun h72 => ?_)
        refine s_aload_n (i := 0) dX12_looks_75 rfl rfl ?_
        refine s_dup dX12_looks_76 rfl ?_
        refine s_getI dX12_looks_77 fl_X12_91 (by assumption) (by assumption) ?_
        refine s_iconst (v := 1) dX12_looks_80 (by decide) ?_
        refine s_isub dX12_looks_81 ?_
        rw [iu_j (by omega), iu_j (by omega), c2]
        refine s_topi (y := zI ((3 : Nat) : Int)) (by first | with_reducible rfl | ((try simp only [z0, z1, zm1, zm2, zm3, zm4, zl2, zl3, zl4, zl5, zl6, zl7, zl8, zl9, zl10, zl20, zl28, zl31, zl32, zl33, zl48, zl57, zl64, zl100, zl127, zl200, zl201, zl202, zl402, zl1200, zl2412, zl16884, zI_add, zI_sub, zI_mul, zI_inc, zI_dec]) <;> (congr 1 <;> omega))) ?_
        refine s_putI dX12_looks_82 fp_X12_91 (by assumption) (by assumption) ?_
        refine s_iload dX12_looks_85 rfl ?_
        refine s_istore dX12_looks_87 (by decide) (by simp only [sl, sl2, rm, Value.category, reduceIte, Nat.reduceAdd, Nat.reduceEqDiff, reduceCtorEq]; rfl) ?_
        refine ml_looks1 hM (R := (S.2.2.1.1.eraseIdx 3).reverse) (p := 0) (N := 3) (by omega) hrl 3 0 _ (by omega) (Nat.le_refl 0) iu_at (fun q e he => ?_) (fun I1 hf1 hj1 h51 hc1 => hq I1 (fun b hb => ?_) (mis_look hS (fun b hb => ?_) (fun jj h5 h6 h7 => ?_) ⟨?_, ?_, ?_, ?_, ?_⟩))
        · simp only [iu, Nat.reduceEqDiff, reduceIte, eq_self]
          rw [hre, List.getElem?_eraseIdx] at he
          refine ⟨fun h => absurd h (Nat.not_lt_zero q), fun h => ?_⟩
          rw [if_neg (by omega)] at he; exact c5 (q + 1) e he
        · rw [hf1 b hb]; simp at hb; rw [iu_ne (by omega), iu_ne (by omega), iu_ne (by omega)]
        · rw [hf1 b hb]; simp at hb; rw [iu_ne (by omega), iu_ne (by omega), iu_ne (by omega)]
        · rw [hj1 jj h5, iu_j h5, iu_j h7, iu_j h6]
        · rw [List.length_take]; omega
        · rw [h51, hrl, List.length_take, List.length_cons, hlen]; rfl
        · rw [hj1 6 (by omega), iu_j (by omega), iu_j (by omega), iu_at]
        · rw [hj1 7 (by omega), iu_j (by omega), iu_at]
        · rw [hxt, hyt] at hc1
          show ∀ q e, ((((li : Int), (j : Int)) :: S.2.2.1.1).take 4).reverse[q]? = some e → _
          rw [htk, List.reverse_cons]
          exact hc1
set_option maxRecDepth 100000 in
set_option maxHeartbeats 1000000 in
theorem m_at {G : fG} {x0 : Nat} {l : Launch} {d k n : Nat} {T : fT} {I : fI} {J : fJ} {Q : Option Value → fT → fI → fJ → Prop} {x y : Int32} {S S' : ASt} {a : Int} (hS : MIs T I S) (hk : SOk S) (h : rAt S x.toInt y.toInt a S') (hq : ∀ I', frC I I' → MIs T I' S' → Q (some (.int (zI a))) T I' J) : PW G x0 l mX12_at (d + 3) (ZM G x0 Q) k n 0 [(0, .ref (x0 + 144)), (1, .int x), (2, .int y)] [] T I J := by
  have hM := hS.1
  obtain ⟨o1, o2⟩ := hM.o
  have t0 : ((0 : Int32)).toInt = 0 := by decide
  refine s_iload_n (i := 1) dX12_at_0 rfl rfl ?_
  refine s_cS_I (My := mX12_isList) dX12_at_1 wM_X12_73 cb_yX12_isList wT_yX12_isList (Nat.le_of_ble_eq_true rfl) (by decide) (s_d (by omega) (m_isList (d := 0) ?_ ?_))
  · intro hx
    obtain ⟨li, hli, rfl⟩ := lidx hx
    have hxt : (zI (li : Int)).toInt = li := zI_t (by omega) (by omega)
    have hxn : (zI (li : Int)).toInt.toNat = li := by rw [hxt]; simp
    have hL := hk.1 li hli
    have hm := hS.L hli
    have hnm := hL.nbm
    have hmm := hL.1
    have tm : (zI (((S.1 li).2.1 : Int) - 1)).toInt = ((S.1 li).2.1 : Int) - 1 := zI_t (by omega) (by omega)
    refine s_if_eq (tgt := 22) dX12_at_4 (by decide) (fun h4 => absurd h4 (by decide)) (fun h4 => ?_)
    refine s_iload_n (i := 2) dX12_at_7 rfl rfl ?_
    refine s_iconst (v := 0) dX12_at_8 (by decide) ?_
    refine s_aload_n (i := 0) dX12_at_9 rfl rfl ?_
    refine s_iload_n (i := 1) dX12_at_10 rfl rfl ?_
    refine s_cV_I (My := mX12_many) dX12_at_11 wM_X12_131 cb_yX12_many ci_yX12_many (by assumption) (by assumption) (Nat.le_of_ble_eq_true rfl) (by decide) (s_d (by omega) (m_many (d := 0) hM hli ?_))
    rw [hm.1]
    refine s_iconst (v := 1) dX12_at_14 (by decide) ?_
    refine s_isub dX12_at_15 ?_
    refine s_topi (y := zI (((S.1 li).2.1 : Int) - 1)) (by first | with_reducible rfl | ((try simp only [z0, z1, zm1, zm2, zm3, zm4, zl2, zl3, zl4, zl5, zl6, zl7, zl8, zl9, zl10, zl20, zl28, zl31, zl32, zl33, zl48, zl57, zl64, zl100, zl127, zl200, zl201, zl202, zl402, zl1200, zl2412, zl16884, zI_add, zI_sub, zI_mul, zI_inc, zI_dec]) <;> (congr 1 <;> omega))) ?_
    refine s_cS_III (My := mX12_in) dX12_at_16 wM_X12_68 cb_yX12_in wT_yX12_in (Nat.le_of_ble_eq_true rfl) (by decide) (s_d (by omega) (m_in (d := 0) ?_ ?_))
    · intro hy
      rw [t0, tm] at hy
      obtain ⟨hbad, -, -⟩ | ⟨l2, q, j, C', -, e1, e2, hqm, rfl, hB, hlk, rfl⟩ := h
      · exact absurd ⟨hx, by omega, by rw [hxn]; omega⟩ hbad
      have hl2 : l2 = li := by omega
      subst hl2
      have hyz := t_zI e2
      subst hyz
      have hbi := LB.idx hL hqm hB
      refine s_if_ne (tgt := 25) dX12_at_19 (by decide) (fun h19 => ?_) (fun h19 => absurd h19 (by decide))
      refine s_aload_n (i := 0) dX12_at_25 rfl rfl ?_
      refine s_iload_n (i := 1) dX12_at_26 rfl rfl ?_
      refine s_aload_n (i := 0) dX12_at_27 rfl rfl ?_
      refine s_iload_n (i := 1) dX12_at_28 rfl rfl ?_
      refine s_iload_n (i := 2) dX12_at_29 rfl rfl ?_
      refine s_cV_II (My := mX12_blockOf) dX12_at_30 wM_X12_164 cb_yX12_blockOf ci_yX12_blockOf (by assumption) (by assumption) (Nat.le_of_ble_eq_true rfl) (by decide) (s_d (by omega) (m_blockOf (d := 0) hM hli hL hm hbi.1 hbi.2.1 hbi.2.2 ?_))
      refine s_cV_II (My := mX12_looks) dX12_at_33 wM_X12_224 cb_yX12_looks ci_yX12_looks (by assumption) (by assumption) (Nat.le_of_ble_eq_true rfl) (by decide) (s_d (by omega) (m_looks (d := 0) hS hk hli (by omega) hlk (fun I1 hf1 hS1 => ?_)))
      refine s_aload_n (i := 0) dX12_at_36 rfl rfl ?_
      refine s_iload_n (i := 1) dX12_at_37 rfl rfl ?_
      refine s_iload_n (i := 2) dX12_at_38 rfl rfl ?_
      refine s_cV_II (My := mX12_number) dX12_at_39 wM_X12_103 cb_yX12_number ci_yX12_number (by assumption) (by assumption) (Nat.le_of_ble_eq_true rfl) (by decide) (s_d (by omega) (m_number (d := 0) hM hli (by omega) ?_))
      refine s_iret dX12_at_42 rfl ?_
      rw [(hS1.L hli).2.1 q hqm]
      exact hq I1 (frC.of hf1 (fun b hb => by simp at hb; omega)) hS1
    · intro hy
      rw [t0, tm] at hy
      obtain ⟨-, rfl, rfl⟩ | ⟨l2, q, j, C', -, e1, e2, hqm, rfl, hB, hlk, rfl⟩ := h
      · refine s_if_ne (tgt := 25) dX12_at_19 (by decide) (fun h19 => absurd h19 (fun h => h rfl)) (fun h19 => ?_)
        refine s_bipush (v := -2) dX12_at_22 (by decide) ?_
        refine s_iret dX12_at_24 rfl ?_
        rw [zm2]
        exact hq I (frC.refl I) hS
      · exfalso
        have hl2 : l2 = li := by omega
        subst hl2
        omega
  · intro hx
    obtain ⟨-, rfl, rfl⟩ | ⟨l2, q, j, C', hl2, e1, -⟩ := h
    · refine s_if_eq (tgt := 22) dX12_at_4 (by decide) (fun h4 => ?_) (fun h4 => absurd (rfl) h4)
      refine s_bipush (v := -2) dX12_at_22 (by decide) ?_
      refine s_iret dX12_at_24 rfl ?_
      rw [zm2]
      exact hq I (frC.refl I) hS
    · exact absurd (by omega) hx
set_option maxRecDepth 100000 in
set_option maxHeartbeats 1000000 in
theorem ml_find {G : fG} {x0 : Nat} {l : Launch} {d k n : Nat} {T : fT} {I : fI} {J : fJ} {Q : Option Value → fT → fI → fJ → Prop} {y z : Int32} {li p : Nat} {e4 : Int32} {S : ASt} (hS : MIs T I S) (hk : ∀ i, i < 6 → LOk (S.1 i)) (hli : li < 6) (hz : 0 ≤ z.toInt ∧ z.toInt ≤ 1) (hF : FA (S.1 li).1 (S.1 li).2.1 y.toInt p) (hq : Q (some (.int (zI (if p = (S.1 li).2.1 then -1 else if z.toInt = 0 then (p : Int) else (S.1 li).1 p)))) T I J) : PW G x0 l mX12_find (d + 3) (ZM G x0 Q) k n 47 [(0, .ref (x0 + 144)), (1, .int (zI li)), (2, .int y), (3, .int z), (4, .int e4)] [] T I J := by
  have hM := hS.1
  obtain ⟨o1, o2⟩ := hM.o
  have hxt : (zI (li : Int)).toInt = li := zI_t (by omega) (by omega)
  have hL := hk li hli
  have hm := hS.L hli
  have hnm := hL.nbm
  have hmm := hL.1
  have hF1 := hF.1
  refine s_aload_n (i := 0) dX12_find_47 rfl rfl ?_
  refine s_iload_n (i := 1) dX12_find_48 rfl rfl ?_
  refine s_iload_n (i := 2) dX12_find_49 rfl rfl ?_
  refine s_cV_II (My := mX12_place) dX12_find_50 wM_X12_144 cb_yX12_place ci_yX12_place (by assumption) (by assumption) (Nat.le_of_ble_eq_true rfl) (by decide) (s_d (by omega) (m_placeV (d := 0) hM hli hL hm hF ?_))
  refine s_istore dX12_find_53 (by decide) (by simp only [sl, sl2, rm, Value.category, reduceIte, Nat.reduceAdd, Nat.reduceEqDiff, reduceCtorEq]; rfl) ?_
  refine s_iload dX12_find_55 rfl ?_
  refine s_aload_n (i := 0) dX12_find_57 rfl rfl ?_
  refine s_iload_n (i := 1) dX12_find_58 rfl rfl ?_
  refine s_cV_I (My := mX12_many) dX12_find_59 wM_X12_131 cb_yX12_many ci_yX12_many (by assumption) (by assumption) (Nat.le_of_ble_eq_true rfl) (by decide) (s_d (by omega) (m_many (d := 0) hM hli ?_))
  rw [hm.1]
  refine s_icmp_ne (tgt := 69) dX12_find_62 (by decide) (fun c62 => ?_) (fun c62 => ?_)
  · rw [zI_eq (by omega) (by omega) (by omega) (by omega)] at c62
    rw [if_neg (by omega)] at hq
    refine s_iload_n (i := 3) dX12_find_69 rfl rfl ?_
    refine s_if_ne (tgt := 78) dX12_find_70 (by decide) (fun c70 => ?_) (fun c70 => ?_)
    · have c70' : z.toInt ≠ 0 := fun h => c70 (by rw [t_zI h]; rfl)
      rw [if_neg c70'] at hq
      refine s_aload_n (i := 0) dX12_find_78 rfl rfl ?_
      refine s_iload_n (i := 1) dX12_find_79 rfl rfl ?_
      refine s_iload dX12_find_80 rfl ?_
      refine s_cV_II (My := mX12_number) dX12_find_82 wM_X12_103 cb_yX12_number ci_yX12_number (by assumption) (by assumption) (Nat.le_of_ble_eq_true rfl) (by decide) (s_d (by omega) (m_number (d := 0) hM hli (by omega) ?_))
      refine s_iret dX12_find_85 rfl ?_
      first
      | exact hq
      | (rw [zm1]; exact hq)
      | (rw [hm.2.1 p (by omega)]; exact hq)
    · have c70' : z.toInt = 0 := by rw [c70]; rfl
      rw [if_pos c70'] at hq
      refine s_iload dX12_find_73 rfl ?_
      refine s_goto (tgt := 85) dX12_find_75 (by decide) ?_
      refine s_iret dX12_find_85 rfl ?_
      first
      | exact hq
      | (rw [zm1]; exact hq)
      | (rw [hm.2.1 p (by omega)]; exact hq)
  · rw [zI_eq (by omega) (by omega) (by omega) (by omega)] at c62
    rw [if_pos (by omega)] at hq
    refine s_iconst (v := -1) dX12_find_65 (by decide) ?_
    refine s_goto (tgt := 85) dX12_find_66 (by decide) ?_
    refine s_iret dX12_find_85 rfl ?_
    first
    | exact hq
    | (rw [zm1]; exact hq)
    | (rw [hm.2.1 p (by omega)]; exact hq)
set_option maxRecDepth 100000 in
set_option maxHeartbeats 1000000 in
theorem m_find {G : fG} {x0 : Nat} {l : Launch} {d k n : Nat} {T : fT} {I : fI} {J : fJ} {Q : Option Value → fT → fI → fJ → Prop} {x y z : Int32} {S S' : ASt} {a : Int} (hS : MIs T I S) (hk : SOk S) (h : rFind S x.toInt y.toInt z.toInt a S') (hq : ∀ I', frC I I' → MIs T I' S' → Q (some (.int (zI a))) T I' J) : PW G x0 l mX12_find (d + 3) (ZM G x0 Q) k n 0 [(0, .ref (x0 + 144)), (1, .int x), (2, .int y), (3, .int z)] [] T I J := by
  have hM := hS.1
  obtain ⟨o1, o2⟩ := hM.o
  have t0 : ((0 : Int32)).toInt = 0 := by decide
  have t1 : ((1 : Int32)).toInt = 1 := by decide
  refine s_iload_n (i := 1) dX12_find_0 rfl rfl ?_
  refine s_cS_I (My := mX12_isList) dX12_find_1 wM_X12_73 cb_yX12_isList wT_yX12_isList (Nat.le_of_ble_eq_true rfl) (by decide) (s_d (by omega) (m_isList (d := 0) ?_ ?_))
  · intro hx
    refine s_if_eq (tgt := 23) dX12_find_4 (by decide) (fun h4 => absurd h4 (by decide)) (fun h4 => ?_)
    refine s_iload_n (i := 2) dX12_find_7 rfl rfl ?_
    refine s_cS_I (My := mX12_isValue) dX12_find_8 wM_X12_147 cb_yX12_isValue wT_yX12_isValue (Nat.le_of_ble_eq_true rfl) (by decide) (s_d (by omega) (m_isValue (d := 0) ?_ ?_))
    · intro hy
      refine s_if_eq (tgt := 23) dX12_find_11 (by decide) (fun h11 => absurd h11 (by decide)) (fun h11 => ?_)
      refine s_iload_n (i := 3) dX12_find_14 rfl rfl ?_
      refine s_iconst (v := 0) dX12_find_15 (by decide) ?_
      refine s_iconst (v := 1) dX12_find_16 (by decide) ?_
      refine s_cS_III (My := mX12_in) dX12_find_17 wM_X12_68 cb_yX12_in wT_yX12_in (Nat.le_of_ble_eq_true rfl) (by decide) (s_d (by omega) (m_in (d := 0) ?_ ?_))
      · intro hz
        rw [t0, t1] at hz
        obtain ⟨hbad, -, -⟩ | ⟨li, p, j, hli, e1, -, -, hB, hF, rfl, hj⟩ := h
        · exact absurd ⟨hx, hy, hz⟩ hbad
        have hxz := t_zI e1
        subst hxz
        have hxt : (zI (li : Int)).toInt = li := zI_t (by omega) (by omega)
        have hL := hk.1 li hli
        have hm := hS.L hli
        have hnm := hL.nbm
        have hmm := hL.1
        have hj1 := hB.1
        have hj2 := hB.2.1
        refine s_if_ne (tgt := 26) dX12_find_20 (by decide) (fun h20 => ?_) (fun h20 => absurd h20 (by decide))
        refine s_aload_n (i := 0) dX12_find_26 rfl rfl ?_
        refine s_iload_n (i := 1) dX12_find_27 rfl rfl ?_
        refine s_iload_n (i := 2) dX12_find_28 rfl rfl ?_
        refine s_cV_II (My := mX12_lastBlock) dX12_find_29 wM_X12_158 cb_yX12_lastBlock ci_yX12_lastBlock (by assumption) (by assumption) (Nat.le_of_ble_eq_true rfl) (by decide) (s_d (by omega) (m_last (d := 0) hM hli hL hm hB ?_))
        refine s_istore dX12_find_32 (by decide) (by simp only [sl, sl2, rm, Value.category, reduceIte, Nat.reduceAdd, Nat.reduceEqDiff, reduceCtorEq]; rfl) ?_
        refine s_iload dX12_find_34 rfl ?_
        refine s_iconst (v := -1) dX12_find_36 (by decide) ?_
        refine s_icmp_eq (tgt := 47) dX12_find_37 (by decide) (fun c37 => ?_) (fun c37 => ?_)
        · rw [zm1, zI_eq (by omega) (by omega) (by omega) (by omega)] at c37
          obtain ⟨-, rfl⟩ | ⟨C', hne, -⟩ := hj
          · exact ml_find hS hk.1 hli hz hF (hq I (frC.refl I) hS)
          · exact absurd c37 hne
        · rw [zm1, zI_eq (by omega) (by omega) (by omega) (by omega)] at c37
          obtain ⟨hjm, -⟩ | ⟨C', -, hlk, rfl⟩ := hj
          · exact absurd hjm c37
          obtain ⟨jj, rfl⟩ : ∃ jj : Nat, j = jj := ⟨j.toNat, by omega⟩
          refine s_aload_n (i := 0) dX12_find_40 rfl rfl ?_
          refine s_iload_n (i := 1) dX12_find_41 rfl rfl ?_
          refine s_iload dX12_find_42 rfl ?_
          refine s_cV_II (My := mX12_looks) dX12_find_44 wM_X12_224 cb_yX12_looks ci_yX12_looks (by assumption) (by assumption) (Nat.le_of_ble_eq_true rfl) (by decide) (s_d (by omega) (m_looks (d := 0) (j := jj) hS hk hli (by omega) hlk (fun I1 hf1 hS1 => ?_)))
          exact s_d (by omega) (ml_find (d := 0) (S := setC S C') hS1 hk.1 hli hz hF (hq I1 (frC.of hf1 (fun b hb => by simp at hb; omega)) hS1))
      · intro hz
        rw [t0, t1] at hz
        obtain ⟨-, rfl, rfl⟩ | ⟨l2, p, j, hl2, e1, hyy, hzz, -⟩ := h
        · refine s_if_ne (tgt := 26) dX12_find_20 (by decide) (fun h20 => absurd h20 (fun h => h rfl)) (fun h20 => ?_)
          refine s_bipush (v := -2) dX12_find_23 (by decide) ?_
          refine s_iret dX12_find_25 rfl ?_
          rw [zm2]
          exact hq I (frC.refl I) hS
        · exfalso
          omega
    · intro hy
      obtain ⟨-, rfl, rfl⟩ | ⟨l2, p, j, hl2, e1, hyy, hzz, -⟩ := h
      · refine s_if_eq (tgt := 23) dX12_find_11 (by decide) (fun h11 => ?_) (fun h11 => absurd (rfl) h11)
        refine s_bipush (v := -2) dX12_find_23 (by decide) ?_
        refine s_iret dX12_find_25 rfl ?_
        rw [zm2]
        exact hq I (frC.refl I) hS
      · exfalso
        omega
  · intro hx
    obtain ⟨-, rfl, rfl⟩ | ⟨l2, p, j, hl2, e1, hyy, hzz, -⟩ := h
    · refine s_if_eq (tgt := 23) dX12_find_4 (by decide) (fun h4 => ?_) (fun h4 => absurd (rfl) h4)
      refine s_bipush (v := -2) dX12_find_23 (by decide) ?_
      refine s_iret dX12_find_25 rfl ?_
      rw [zm2]
      exact hq I (frC.refl I) hS
    · exfalso
      omega
