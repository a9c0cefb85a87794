set_option maxRecDepth 100000 in
set_option maxHeartbeats 4000000 in
theorem lc_sw {G : fG} {x0 : Nat} {l : Launch} {k n : Nat} {nm : String} {b L : Nat} {xs : Nat → Int32} {T : fT} {I : fI} {J : fJ} {S : ASt} {i : Nat} (hL : L ≤ 2560) (hi : i + 5 ≤ L) (hLI : LI T I S i) (kk : ∀ (T' : fT) (I' : fI) (J' : fJ) (S' : ASt), LI T' I' S' (i + 5) → PW G x0 l (mLaw nm) 12 (ZL b L xs x0) k n 878 [(0, .ref b), (1, .ref (x0 + 0)), (2, .ref (x0 + 144)), (3, .int (zI i))] [] T' I' J') : PW G x0 l (mLaw nm) 12 (ZL b L xs x0) (k + 13) (n + 6124) 32 [(0, .ref b), (1, .ref (x0 + 0)), (2, .ref (x0 + 144)), (3, .int (zI i))] [.int (xs i &&& 31)] T I J := by
  rcases (show ((xs i &&& 31).toInt < 0 ∨ 23 < (xs i &&& 31).toInt) ∨ (xs i &&& 31).toInt = 0 ∨ (xs i &&& 31).toInt = 1 ∨ (xs i &&& 31).toInt = 2 ∨ (xs i &&& 31).toInt = 3 ∨ (xs i &&& 31).toInt = 4 ∨ (xs i &&& 31).toInt = 5 ∨ (xs i &&& 31).toInt = 6 ∨ (xs i &&& 31).toInt = 7 ∨ (xs i &&& 31).toInt = 8 ∨ (xs i &&& 31).toInt = 9 ∨ (xs i &&& 31).toInt = 10 ∨ (xs i &&& 31).toInt = 11 ∨ (xs i &&& 31).toInt = 12 ∨ (xs i &&& 31).toInt = 13 ∨ (xs i &&& 31).toInt = 14 ∨ (xs i &&& 31).toInt = 15 ∨ (xs i &&& 31).toInt = 16 ∨ (xs i &&& 31).toInt = 17 ∨ (xs i &&& 31).toInt = 18 ∨ (xs i &&& 31).toInt = 19 ∨ (xs i &&& 31).toInt = 20 ∨ (xs i &&& 31).toInt = 21 ∨ (xs i &&& 31).toInt = 22 ∨ (xs i &&& 31).toInt = 23 by omega) with h32 | h32 | h32 | h32 | h32 | h32 | h32 | h32 | h32 | h32 | h32 | h32 | h32 | h32 | h32 | h32 | h32 | h32 | h32 | h32 | h32 | h32 | h32 | h32 | h32
  · refine s_tabOut (tgt := 878) dL_law_32 h32 (by decide) ?_
    exact s_kn (by omega) (by omega) (kk T I J S ⟨hLI.1, hLI.2.1, hLI.2.2.1, hLI.2.2.2.1, by have := hLI.2.2.2.2.1; omega, by have := hLI.2.2.2.2.2; omega⟩)
  · refine s_tabIn (off := 112) (tgt := 144) dL_law_32 (by omega) (by omega) (by rw [h32]; rfl) (by decide) ?_
    exact lc_add hL hi hLI kk
  · refine s_tabIn (off := 145) (tgt := 177) dL_law_32 (by omega) (by omega) (by rw [h32]; rfl) (by decide) ?_
    exact lc_remove hL hi hLI kk
  · refine s_tabIn (off := 178) (tgt := 210) dL_law_32 (by omega) (by omega) (by rw [h32]; rfl) (by decide) ?_
    exact lc_pack hL hi hLI kk
  · refine s_tabIn (off := 211) (tgt := 243) dL_law_32 (by omega) (by omega) (by rw [h32]; rfl) (by decide) ?_
    exact lc_load hL hi hLI kk
  · refine s_tabIn (off := 234) (tgt := 266) dL_law_32 (by omega) (by omega) (by rw [h32]; rfl) (by decide) ?_
    exact lc_store hL hi hLI kk
  · refine s_tabIn (off := 257) (tgt := 289) dL_law_32 (by omega) (by omega) (by rw [h32]; rfl) (by decide) ?_
    exact lc_clear hL hi hLI kk
  · refine s_tabIn (off := 280) (tgt := 312) dL_law_32 (by omega) (by omega) (by rw [h32]; rfl) (by decide) ?_
    exact lc_undo hL hi hLI kk
  · refine s_tabIn (off := 293) (tgt := 325) dL_law_32 (by omega) (by omega) (by rw [h32]; rfl) (by decide) ?_
    exact lc_type hL hi hLI kk
  · refine s_tabIn (off := 316) (tgt := 348) dL_law_32 (by omega) (by omega) (by rw [h32]; rfl) (by decide) ?_
    exact lc_erase hL hi hLI kk
  · refine s_tabIn (off := 329) (tgt := 361) dL_law_32 (by omega) (by omega) (by rw [h32]; rfl) (by decide) ?_
    exact lc_list hL hi hLI kk
  · refine s_tabIn (off := 362) (tgt := 394) dL_law_32 (by omega) (by omega) (by rw [h32]; rfl) (by decide) ?_
    exact lc_block hL hi hLI kk
  · refine s_tabIn (off := 405) (tgt := 437) dL_law_32 (by omega) (by omega) (by rw [h32]; rfl) (by decide) ?_
    exact lc_word hL hi hLI kk
  · refine s_tabIn (off := 449) (tgt := 481) dL_law_32 (by omega) (by omega) (by rw [h32]; rfl) (by decide) ?_
    exact lc_exception hL hi hLI kk
  · refine s_tabIn (off := 502) (tgt := 534) dL_law_32 (by omega) (by omega) (by rw [h32]; rfl) (by decide) ?_
    exact lc_gaps hL hi hLI kk
  · refine s_tabIn (off := 535) (tgt := 567) dL_law_32 (by omega) (by omega) (by rw [h32]; rfl) (by decide) ?_
    exact lc_costBy hL hi hLI kk
  · refine s_tabIn (off := 568) (tgt := 600) dL_law_32 (by omega) (by omega) (by rw [h32]; rfl) (by decide) ?_
    exact lc_part hL hi hLI kk
  · refine s_tabIn (off := 621) (tgt := 653) dL_law_32 (by omega) (by omega) (by rw [h32]; rfl) (by decide) ?_
    exact lc_at hL hi hLI kk
  · refine s_tabIn (off := 654) (tgt := 686) dL_law_32 (by omega) (by omega) (by rw [h32]; rfl) (by decide) ?_
    exact lc_find hL hi hLI kk
  · refine s_tabIn (off := 697) (tgt := 729) dL_law_32 (by omega) (by omega) (by rw [h32]; rfl) (by decide) ?_
    exact lc_cached hL hi hLI kk
  · refine s_tabIn (off := 730) (tgt := 762) dL_law_32 (by omega) (by omega) (by rw [h32]; rfl) (by decide) ?_
    exact lc_query hL hi hLI kk
  · refine s_tabIn (off := 743) (tgt := 775) dL_law_32 (by omega) (by omega) (by rw [h32]; rfl) (by decide) ?_
    exact lc_result hL hi hLI kk
  · refine s_tabIn (off := 766) (tgt := 798) dL_law_32 (by omega) (by omega) (by rw [h32]; rfl) (by decide) ?_
    exact lc_common hL hi hLI kk
  · refine s_tabIn (off := 809) (tgt := 841) dL_law_32 (by omega) (by omega) (by rw [h32]; rfl) (by decide) ?_
    exact lc_count hL hi hLI kk
  · refine s_tabIn (off := 832) (tgt := 864) dL_law_32 (by omega) (by omega) (by rw [h32]; rfl) (by decide) ?_
    exact lc_digest hL hi hLI kk
set_option maxRecDepth 100000 in
set_option maxHeartbeats 1000000 in
theorem l_law {G : fG} {x0 : Nat} {l : Launch} {nm : String} {b L : Nat} {xs : Nat → Int32} (hL : L ≤ 2560) : ∀ (t i : Nat) (T : fT) (I : fI) (J : fJ) (S : ASt), L ≤ i + 5 * t + 4 → i ≤ 3000 → LI T I S i → PW G x0 l (mLaw nm) 12 (ZL b L xs x0) (13 * t) (6124 * t) 18 [(0, .ref b), (1, .ref (x0 + 0)), (2, .ref (x0 + 144)), (3, .int (zI i))] [] T I J := by
  intro t
  induction t with
  | zero =>
    intro i T I J S ht hi3 hLI
    refine s_iload_n (i := 3) dL_law_18 rfl rfl ?_
    refine s_aload_n (i := 0) dL_law_19 rfl rfl ?_
    refine s_slen dL_law_20 ?_
    refine s_iconst (v := 5) dL_law_21 (by decide) ?_
    refine s_isub dL_law_22 ?_
    refine s_topi (y := zI ((L : Int) - 5)) (by show zI _ - zI 5 = _; rw [zI_sub]) ?_
    refine s_icmp_gt (tgt := 884) dL_law_23 (by decide) (fun _ => ?_) (fun h => absurd ((zI_lt (by omega) (by omega) (by omega) (by omega)).mpr (by omega)) h)
    refine s_iconst (v := 1) dL_law_884 (by decide) ?_
    exact s_lend dL_law_885
  | succ t ih =>
    intro i T I J S ht hi3 hLI
    by_cases hi : i + 5 ≤ L
    · refine s_kn (k' := 13 * t + 13) (n' := 6124 * t + 6124) (by omega) (by omega) ?_
      refine s_iload_n (i := 3) dL_law_18 rfl rfl ?_
      refine s_aload_n (i := 0) dL_law_19 rfl rfl ?_
      refine s_slen dL_law_20 ?_
      refine s_iconst (v := 5) dL_law_21 (by decide) ?_
      refine s_isub dL_law_22 ?_
      refine s_topi (y := zI ((L : Int) - 5)) (by show zI _ - zI 5 = _; rw [zI_sub]) ?_
      refine s_icmp_gt (tgt := 884) dL_law_23 (by decide) (fun h => absurd h (fun h => by rw [zI_lt (by omega) (by omega) (by omega) (by omega)] at h; omega)) (fun _ => ?_)
      refine s_aload_n (i := 0) dL_law_26 rfl rfl ?_
      refine s_iload_n (i := 3) dL_law_27 rfl rfl ?_
      refine s_sld (j := i) dL_law_28 rfl (by omega) hL ?_
      refine s_bipush (v := 31) dL_law_29 (by decide) ?_
      refine s_iand dL_law_31 ?_
      refine lc_sw hL hi hLI (fun T1 I1 J1 S1 h1 => ?_)
      refine s_iinc dL_law_878 rfl (v := zI ((i + 5 : Nat) : Int)) (zI_add i 5) (show 3 < 4 by decide) (by simp only [sl, sl2, rm, Value.category, reduceIte, Nat.reduceAdd, Nat.reduceEqDiff, reduceCtorEq]; rfl) ?_
      refine s_goto (tgt := 18) dL_law_881 (by decide) ?_
      exact ih (i + 5) T1 I1 J1 S1 (by omega) (by omega) h1
    · refine s_iload_n (i := 3) dL_law_18 rfl rfl ?_
      refine s_aload_n (i := 0) dL_law_19 rfl rfl ?_
      refine s_slen dL_law_20 ?_
      refine s_iconst (v := 5) dL_law_21 (by decide) ?_
      refine s_isub dL_law_22 ?_
      refine s_topi (y := zI ((L : Int) - 5)) (by show zI _ - zI 5 = _; rw [zI_sub]) ?_
      refine s_icmp_gt (tgt := 884) dL_law_23 (by decide) (fun _ => ?_) (fun h => absurd ((zI_lt (by omega) (by omega) (by omega) (by omega)).mpr (by omega)) h)
      refine s_iconst (v := 1) dL_law_884 (by decide) ?_
      exact s_lend dL_law_885
set_option maxRecDepth 100000 in
set_option maxHeartbeats 1000000 in
theorem l_start {G : fG} {x0 : Nat} {l : Launch} {nm : String} {b L : Nat} {xs : Nat → Int32} {T : fT} {I : fI} {J : fJ} (hL : L ≤ 2560) (hT : T.1 = 0) : PW G x0 l (mLaw nm) 12 (ZL b L xs x0) 6818 3199292 0 [(0, .ref b)] [] T I J := by
  refine s_kn (k' := 6817 + 1) (n' := 3199282 + 10) (by omega) (by omega) ?_
  refine n_new (N := 0) hT dL_law_0 wL_L_7 cf_X11 (fun T1 I1 J1 hT1 _ oc => ?_)
  refine s_dup dL_law_3 rfl ?_
  refine s_kn (k' := 6674 + (0 + 143)) (n' := 3189787 + (0 + 9495)) (by omega) (by omega) ?_
  refine s_cI_ (k' := 0 + 143) (n' := 0 + 9495) (My := mX11_init) dL_law_4 wM_L_9 cb_yX11_init wI_yX11_init rfl rfl (Nat.le_of_ble_eq_true rfl) (by decide) (s_d (by omega) (i_Pl (d := 0) (k := 0) (n := 0) (by omega) oc (fun T2 I2 J2 hT2 pl => ?_)))
  refine s_astore_n (i := 1) dL_law_7 rfl (show 1 < 4 by decide) (by simp only [sl, sl2, rm, Value.category, reduceIte, Nat.reduceAdd, Nat.reduceEqDiff, reduceCtorEq]; rfl) ?_
  refine s_kn (k' := 6673 + 1) (n' := 3189752 + 35) (by omega) (by omega) ?_
  refine n_new (N := 144) hT2 dL_law_8 wL_L_10 cf_X12 (fun T3 I3 J3 hT3 hs3 oc3 => ?_)
  refine s_dup dL_law_11 rfl ?_
  refine s_kn (k' := 6656 + (0 + 17)) (n' := 3135488 + (0 + 54264)) (by omega) (by omega) ?_
  refine s_cI_ (k' := 0 + 17) (n' := 0 + 54264) (My := mX12_init) dL_law_12 wM_L_12 cb_yX12_init wI_yX12_init rfl rfl (Nat.le_of_ble_eq_true rfl) (by decide) (s_d (by omega) (i_Mo (d := 0) (k := 0) (n := 0) hT3 oc3 (fun T4 I4 J4 hT4 hs4 mo => ?_)))
  refine s_astore_n (i := 2) dL_law_15 rfl (show 2 < 4 by decide) (by simp only [sl, sl2, rm, Value.category, reduceIte, Nat.reduceAdd, Nat.reduceEqDiff, reduceCtorEq]; rfl) ?_
  refine s_iconst (v := 0) dL_law_16 (by decide) ?_
  refine s_istore_n (i := 3) dL_law_17 rfl (show 3 < 4 by decide) (by simp only [sl, sl2, rm, Value.category, reduceIte, Nat.reduceAdd, Nat.reduceEqDiff, reduceCtorEq]; rfl) ?_
  have pl4 : PlN T4 I4 := pl.sm (fun a h => (hs3 a h).tr (hs4 a h))
  refine s_kn (k' := 13 * 512) (n' := 6124 * 512) (by omega) (by omega) ?_
  exact l_law hL 512 0 T4 I4 J4 S0 (by omega) (by omega) ⟨pl4.cls (by omega), mo.mod (by omega), S0_ok, fun _ => hT4, Nat.zero_le _, Nat.zero_le _⟩
