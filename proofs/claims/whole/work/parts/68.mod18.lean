/-! queries -/
def gS (S : ASt) : Nat → Nat → Int := fun i => (S.1 i).1
def mS (S : ASt) : Nat → Nat := fun i => (S.1 i).2.1
theorem SOk.v6 {S : ASt} (h : SOk S) : Val6 (gS S) (mS S) := fun i hi => ⟨(h.1 i hi).1, (h.1 i hi).2.1, (h.1 i hi).2.2.1⟩
def setR (S : ASt) (r : List Int × Int) : ASt := (S.1, S.2.1, S.2.2.1, S.2.2.2.1, some r)
def rQuery (S : ASt) (a : Int) (S' : ASt) : Prop := ((exprOf S.2.2.2.1.1 S.2.2.2.1.2).1 ≠ -1 ∧ a = -2000 - (exprOf S.2.2.2.1.1 S.2.2.2.1.2).1 ∧ S' = S) ∨ ((exprOf S.2.2.2.1.1 S.2.2.2.1.2).1 = -1 ∧ ∃ (AL : List Int) (TS : List Int64) (pr : Int), AllOf (gS S) (mS S) AL ∧ (TS, pr) = (exprOf S.2.2.2.1.1 S.2.2.2.1.2).2.foldl (jst (gS S) (mS S) AL) ([], 0) ∧ a = (rowT (gS S) (mS S) AL (TS.getD 0 0)).length ∧ S' = setR S (rowT (gS S) (mS S) AL (TS.getD 0 0), pr))
theorem AllOf.val {S : ASt} {AL : List Int} (h : AllOf (gS S) (mS S) AL) (hk : SOk S) : ∀ v, v ∈ AL → 0 ≤ v ∧ v ≤ 999999 := fun v hv => by
  obtain ⟨i, hi, h1⟩ := (h.2.1 v).mp hv
  obtain ⟨q, h2, rfl⟩ := of_decide_eq_true h1
  exact (hk.1 i hi).2.2.1 q h2
theorem rQuery.ok {S S' : ASt} {a : Int} (h : rQuery S a S') (hS : SOk S) : SOk S' := by
  rcases h with ⟨-, -, rfl⟩ | ⟨-, AL, TS, pr, h1, -, -, rfl⟩
  · exact hS
  · refine ⟨hS.1, hS.2.1, hS.2.2.1, hS.2.2.2.1, hS.2.2.2.2.1, fun r hr => ?_⟩
    cases hr
    exact ⟨rowT_srt h1.1, fun v hv => h1.val hS v (rowT_mem.mp hv).1, Nat.le_trans rowT_len h1.2.2⟩
theorem MRow.cong {I : fI} {r m m' : Nat} {g g' : Nat → Int} (h : MRow I r g m) (hm : m' = m) (hg : ∀ q, q < m → g' q = g q) : MRow I r g' m' := by
  subst hm
  exact ⟨h.1, fun q hq => by rw [hg q hq]; exact h.2 q hq⟩
theorem tk_lt {TS : List Int64} {n q : Nat} {x : Int64} (hq : q < n) (hn : n ≤ TS.length) : (TS.take n ++ [x]).getD q 0 = TS.getD q 0 := by
  rw [List.getD_eq_getElem?_getD, List.getElem?_append_left (by rw [List.length_take]; omega), List.getElem?_take_of_lt hq, ← List.getD_eq_getElem?_getD]
theorem tk_eq {TS : List Int64} {n : Nat} {x : Int64} (hn : n ≤ TS.length) : (TS.take n ++ [x]).getD n 0 = x := by
  rw [List.getD_eq_getElem?_getD, List.getElem?_append_right (by rw [List.length_take]; omega), List.length_take, show n - min n TS.length = 0 by omega]
  rfl
theorem tk_len {TS : List Int64} {n : Nat} {x : Int64} (hn : n ≤ TS.length) : (TS.take n ++ [x]).length = n + 1 := by
  rw [List.length_append, List.length_take, List.length_singleton]
  omega
def frQ (I I' : fI) : Prop := fr I I' [144, 157, 158, 159] ∧ ∀ j, j ≠ 27 → j ≠ 28 → I' 144 j = I 144 j
theorem frQ.refl (I : fI) : frQ I I := ⟨fr_refl I _, fun _ _ _ => rfl⟩
theorem frQ.trans {I I1 I2 : fI} (h : frQ I I1) (h2 : frQ I1 I2) : frQ I I2 := ⟨fr_trans h.1 h2.1, fun j a b => (h2.2 j a b).trans (h.2 j a b)⟩
theorem hst_le {h : Option Nat} {c : Int} (hh : ∀ a, h = some a → a ≤ 24) : ∀ a, hst h c = some a → a ≤ 24 := by
  intro a ha
  cases h with
  | none => cases ha
  | some b =>
    have hb := hh b rfl
    simp only [hst] at ha
    by_cases c1 : 65 ≤ c ∧ c < 71
    · rw [if_pos c1] at ha
      by_cases c2 : b < 24
      · rw [if_pos c2] at ha; cases ha; omega
      · rw [if_neg c2] at ha; cases ha
    · rw [if_neg c1] at ha
      by_cases c2 : 2 ≤ b ∧ 0 < strg c
      · rw [if_pos c2] at ha; cases ha; omega
      · rw [if_neg c2] at ha; cases ha
theorem fold_le : ∀ (P : List Int) (h : Option Nat), (∀ a, h = some a → a ≤ 24) → ∀ a, P.foldl hst h = some a → a ≤ 24 := by
  intro P
  induction P with
  | nil => intro h hh a ha; exact hh a ha
  | cons c P ih => intro h hh a ha; exact ih (hst h c) (hst_le hh) a ha
theorem Hgt_le {P : List Int} {a : Nat} (h : Hgt P = some a) : a ≤ 24 := fold_le P (some 0) (fun a ha => by cases ha; omega) a h
theorem prs_bd {tx : Nat → Int} {tl : Nat} : ∀ (z i : Nat) (s : eS), i + z = tl → -1 ≤ (prs tx tl z i s).1 ∧ (prs tx tl z i s).1 ≤ tl := by
  intro z
  induction z with
  | zero => intro i s h; simp only [prs]; split <;> dsimp only <;> omega
  | succ z ih =>
    intro i s h
    simp only [prs]
    cases estep s (tx i) with
    | none => dsimp only; omega
    | some s' => exact ih (i + 1) s' (by omega)
theorem exprOf_bd {tx : Nat → Int} {tl : Nat} {r : Int × List Int} (h : r = exprOf tx tl) : -1 ≤ r.1 ∧ r.1 ≤ tl := by rw [h]; exact prs_bd tl 0 _ (by omega)
set_option maxRecDepth 100000 in
set_option maxHeartbeats 1000000 in
theorem ml_query {G : fG} {x0 : Nat} {l : Launch} {d k n : Nat} {T : fT} {J : fJ} {Q : Option Value → fT → fI → fJ → Prop} {S : ASt} {AL P : List Int} (hM : MObj T) (hk : SOk S) (hA : AllOf (gS S) (mS S) AL) (hP : Hgt P = some 1) (hPl : P.length ≤ 100) : ∀ (z i : Nat) (TS : List Int64) (pr : Int) (I : fI), i + z = P.length → Hgt (P.take i) = some TS.length → MLs (I 145) 0 S.1 → OrdM I P → (∀ q, q < TS.length → MRow I q (lfn (rowT (gS S) (mS S) AL (TS.getD q 0))) (rowT (gS S) (mS S) AL (TS.getD q 0)).length) → I 144 28 = zI pr → (∀ (I' : fI) (TS' : List Int64) (pr' : Int), (TS', pr') = (P.drop i).foldl (jst (gS S) (mS S) AL) (TS, pr) → frQ I I' → MRow I' 0 (lfn (rowT (gS S) (mS S) AL (TS'.getD 0 0))) (rowT (gS S) (mS S) AL (TS'.getD 0 0)).length → I' 144 28 = zI pr' → PW G x0 l mX12_query (d + 4) (ZM G x0 Q) k n 97 [(0, .ref (x0 + 144))] [] T I' J) → PW G x0 l mX12_query (d + 4) (ZM G x0 Q) k n 30 [(0, .ref (x0 + 144)), (1, .int (zI TS.length)), (2, .int (zI i))] [] T I J := by
  obtain ⟨o1, o2⟩ := hM.o
  obtain ⟨r160, b160, k160, n160⟩ := hM.a160
  obtain ⟨r158, b158, k158, n158⟩ := hM.a158
  obtain ⟨r149, b149, k149, n149⟩ := hM.a149
  obtain ⟨r157, b157, k157, n157⟩ := hM.a157
  have t65 : ((65 : Int32)).toInt = 65 := by decide
  have t70 : ((70 : Int32)).toInt = 70 := by decide
  have hAv := hA.val hk
  intro z
  induction z with
  | zero =>
    intro i TS pr I hz hh hL hO hR hp kk
    have hi : i = P.length := by omega
    subst hi
    rw [List.take_length, hP] at hh
    have h1 : 1 = TS.length := Option.some.inj hh
    rw [List.drop_length] at kk
    refine s_iload_n (i := 2) dX12_query_30 rfl rfl ?_
    refine s_aload_n (i := 0) dX12_query_31 rfl rfl ?_
    refine s_getI dX12_query_32 fl_X12_243 (by assumption) (by assumption) ?_
    rw [hO.1]
    refine s_icmp_ge (tgt := 97) dX12_query_35 (by decide) (fun h35 => ?_) (fun h35 => absurd ((zI_le (by omega) (by omega) (by omega) (by omega)).mpr (by omega)) h35)
    refine s_lv (lv' := [(0, .ref (x0 + 144))]) ⟨rfl, trivial⟩ ?_
    exact kk I TS pr rfl (frQ.refl I) (hR 0 (by omega)) hp
  | succ z ih =>
    intro i TS pr I hz hh hL hO hR hp kk
    have hi : i < P.length := by omega
    have hc := hO.2 i hi
    obtain ⟨a, ha, hcase⟩ := Hgt_at hP hi
    rw [hh] at ha
    have hal : TS.length = a := Option.some.inj ha
    subst hal
    have hdrop : P.drop i = lfn P i :: P.drop (i + 1) := by
      rw [List.drop_eq_getElem_cons hi, lfn_at hi]
    rw [hdrop, List.foldl_cons] at kk
    have hcb : 0 ≤ lfn P i ∧ lfn P i ≤ 127 := by
      rcases hcase with h | h
      · omega
      · have := strg_pos.mp h.1; omega
    have hct : (zI (lfn P i)).toInt = lfn P i := zI_t (by omega) (by omega)
    generalize lfn P i = c at *
    refine s_iload_n (i := 2) dX12_query_30 rfl rfl ?_
    refine s_aload_n (i := 0) dX12_query_31 rfl rfl ?_
    refine s_getI dX12_query_32 fl_X12_243 (by assumption) (by assumption) ?_
    rw [hO.1]
    refine s_icmp_ge (tgt := 97) dX12_query_35 (by decide) (fun h35 => absurd h35 (fun h => by rw [zI_le (by omega) (by omega) (by omega) (by omega)] at h; omega)) (fun h35 => ?_)
    refine s_aload_n (i := 0) dX12_query_38 rfl rfl ?_
    refine s_getR dX12_query_39 fl_X12_62 (by assumption) (by assumption) (by assumption) ?_
    refine s_iload_n (i := 2) dX12_query_42 rfl rfl ?_
    refine s_ildn (j := i) dX12_query_43 (by assumption) (by assumption) (by assumption) (by first | with_reducible rfl | ((try simp only [z0, z1, zm1, zm2, zm3, zm4, zl2, zl3, zl4, zl5, zl6, zl7, zl8, zl9, zl10, zl20, zl28, zl31, zl32, zl33, zl48, zl57, zl64, zl100, zl127, zl200, zl201, zl202, zl402, zl1200, zl2412, zl16884, zI_add, zI_sub, zI_mul, zI_inc, zI_dec]) <;> (congr 1 <;> omega))) (by omega) (by decide) ?_
    rw [hc]
    refine s_bipush (v := 65) dX12_query_44 (by decide) ?_
    refine s_bipush (v := 70) dX12_query_46 (by decide) ?_
    refine s_cS_III (My := mX12_in) dX12_query_48 wM_X12_68 cb_yX12_in wT_yX12_in (Nat.le_of_ble_eq_true rfl) (by decide) (s_d (by omega) (m_in (d := 0) ?_ ?_))
    · intro hx
      rw [hct, t65, t70] at hx
      obtain ⟨c1, c2, c3, c4⟩ | ⟨c1, -⟩ := hcase
      · obtain ⟨li, hli, hlc⟩ : ∃ li : Nat, li < 6 ∧ c = (li : Int) + 65 := ⟨(c - 65).toNat, by omega, by omega⟩
        have hjst : jst (gS S) (mS S) AL (TS, pr) c = (TS ++ [fm_tab li], pr) := by
          unfold jst
          rw [if_pos ⟨c1, c2⟩, show (c - 65).toNat = li by omega]
        rw [hjst] at kk
        have hlist := rowT_list hA hk.v6 hli
        refine s_if_eq (tgt := 74) dX12_query_51 (by decide) (fun h51 => absurd h51 (by decide)) (fun h51 => ?_)
        refine s_aload_n (i := 0) dX12_query_54 rfl rfl ?_
        refine s_aload_n (i := 0) dX12_query_55 rfl rfl ?_
        refine s_getR dX12_query_56 fl_X12_62 (by assumption) (by assumption) (by assumption) ?_
        refine s_iload_n (i := 2) dX12_query_59 rfl rfl ?_
        refine s_ildn (j := i) dX12_query_60 (by assumption) (by assumption) (by assumption) (by first | with_reducible rfl | ((try simp only [z0, z1, zm1, zm2, zm3, zm4, zl2, zl3, zl4, zl5, zl6, zl7, zl8, zl9, zl10, zl20, zl28, zl31, zl32, zl33, zl48, zl57, zl64, zl100, zl127, zl200, zl201, zl202, zl402, zl1200, zl2412, zl16884, zI_add, zI_sub, zI_mul, zI_inc, zI_dec]) <;> (congr 1 <;> omega))) (by omega) (by decide) ?_
        rw [hc]
        refine s_bipush (v := 65) dX12_query_61 (by decide) ?_
        refine s_isub dX12_query_63 ?_
        refine s_topi (y := zI (li : Int)) (by rw [hlc]; show zI _ - zI 65 = _; rw [zI_sub]; congr 1; omega) ?_
        refine s_iload_n (i := 1) dX12_query_64 rfl rfl ?_
        refine s_cV_II (My := mX12_copies) dX12_query_65 wM_X12_267 cb_yX12_copies ci_yX12_copies (by assumption) (by assumption) (Nat.le_of_ble_eq_true rfl) (by decide) (s_d (by omega) (m_copies (d := 0) (li := li) (r := TS.length) hM hli c3 (hk.1 li hli).1 (hL.at0 hli).n (fun I1 hf1 ho1 hp1 hR1 => ?_)))
        refine s_iinc dX12_query_68 rfl (zI_inc _) (by decide) (by simp only [sl, sl2, rm, Value.category, reduceIte, Nat.reduceAdd, Nat.reduceEqDiff, reduceCtorEq]; rfl) ?_
        refine s_goto (tgt := 91) dX12_query_71 (by decide) ?_
        refine s_iinc dX12_query_91 rfl (zI_inc _) (by decide) (by simp only [sl, sl2, rm, Value.category, reduceIte, Nat.reduceAdd, Nat.reduceEqDiff, reduceCtorEq]; rfl) ?_
        refine s_goto (tgt := 30) dX12_query_94 (by decide) ?_
        refine s_lv (lv' := [(0, .ref (x0 + 144)), (1, .int (zI ((TS ++ [fm_tab li]).length : Int))), (2, .int (zI ((i + 1 : Nat) : Int)))]) ⟨rfl, by rw [List.length_append, List.length_singleton]; rfl, rfl, trivial⟩ ?_
        have hf1q : frQ I I1 := ⟨fr_sub hf1 (fun b hb => by simp at hb ⊢; omega), fun j _ _ => by rw [hf1 144 (by decide)]⟩
        refine ih (i + 1) (TS ++ [fm_tab li]) pr I1 (by omega) (by rw [List.length_append, List.length_singleton]; exact c4) (by rw [hf1 145 (by decide)]; exact hL) (hO.fr (by rw [hf1 144 (by decide)]) (hf1 160 (by decide))) (fun q hq => ?_) (by rw [hf1 144 (by decide)]; exact hp) (fun I' TS' pr' h hf => kk I' TS' pr' h (hf1q.trans hf))
        rw [List.length_append, List.length_singleton] at hq
        by_cases e : q = TS.length
        · have e2 : (TS ++ [fm_tab li]).getD q 0 = fm_tab li := by
            have := tk_eq (TS := TS) (n := TS.length) (x := fm_tab li) (Nat.le_refl _)
            rw [List.take_length] at this
            rw [e]; exact this
          rw [e2, hlist, e]
          refine hR1.cong (by rw [List.length_map, List.length_range]; rfl) (fun q2 hq2 => ?_)
          have hq3 : q2 < ((List.range (mS S li)).map (gS S li)).length := by rw [List.length_map, List.length_range]; exact hq2
          rw [lfn_at hq3, List.getElem_map, List.getElem_range]
          rfl
        · have e2 : (TS ++ [fm_tab li]).getD q 0 = TS.getD q 0 := by
            have := tk_lt (TS := TS) (n := TS.length) (q := q) (x := fm_tab li) (by omega) (Nat.le_refl _)
            rw [List.take_length] at this
            exact this
          rw [e2]
          have h1 := hR q (by omega)
          exact ⟨by rw [ho1 q e]; exact h1.1, fun q2 hq2 => by
            have hl2 : (rowT (gS S) (mS S) AL (TS.getD q 0)).length ≤ 1200 := Nat.le_trans rowT_len hA.2.2
            rw [hp1 _ (by rcases Nat.lt_or_ge q TS.length with c | c <;> omega)]; exact h1.2 q2 hq2⟩
      · have := strg_pos.mp c1
        omega
    · intro hx
      rw [hct, t65, t70] at hx
      obtain ⟨c1, c2, -⟩ | ⟨c1, c2, c3⟩ := hcase
      · omega
      have hsg := strg_pos.mp c1
      have h24 : TS.length ≤ 24 := by
        rcases Nat.lt_or_ge 24 TS.length with h | h
        · exfalso
          exact absurd (Hgt_le hh) (by omega)
        · exact h
      have hjst : jst (gS S) (mS S) AL (TS, pr) c = (TS.take (TS.length - 2) ++ [jop c (TS.getD (TS.length - 2) 0) (TS.getD (TS.length - 1) 0)], pr + jpr (gS S) (mS S) AL c (TS.getD (TS.length - 2) 0) (TS.getD (TS.length - 1) 0)) := by
        unfold jst
        rw [if_neg (by omega), if_pos (by dsimp only; omega)]
      rw [hjst] at kk
      refine s_if_eq (tgt := 74) dX12_query_51 (by decide) (fun h51 => ?_) (fun h51 => absurd (rfl) h51)
      refine s_iinc dX12_query_74 rfl (zI_dec _) (by decide) (by simp only [sl, sl2, rm, Value.category, reduceIte, Nat.reduceAdd, Nat.reduceEqDiff, reduceCtorEq]; rfl) ?_
      refine s_aload_n (i := 0) dX12_query_77 rfl rfl ?_
      refine s_iload_n (i := 1) dX12_query_78 rfl rfl ?_
      refine s_iconst (v := 1) dX12_query_79 (by decide) ?_
      refine s_isub dX12_query_80 ?_
      refine s_topi (y := zI ((TS.length - 2 : Nat) : Int)) (by first | with_reducible rfl | ((try simp only [z0, z1, zm1, zm2, zm3, zm4, zl2, zl3, zl4, zl5, zl6, zl7, zl8, zl9, zl10, zl20, zl28, zl31, zl32, zl33, zl48, zl57, zl64, zl100, zl127, zl200, zl201, zl202, zl402, zl1200, zl2412, zl16884, zI_add, zI_sub, zI_mul, zI_inc, zI_dec]) <;> (congr 1 <;> omega))) ?_
      refine s_iload_n (i := 1) dX12_query_81 rfl rfl ?_
      refine s_topi (y := zI ((TS.length - 1 : Nat) : Int)) (by first | with_reducible rfl | ((try simp only [z0, z1, zm1, zm2, zm3, zm4, zl2, zl3, zl4, zl5, zl6, zl7, zl8, zl9, zl10, zl20, zl28, zl31, zl32, zl33, zl48, zl57, zl64, zl100, zl127, zl200, zl201, zl202, zl402, zl1200, zl2412, zl16884, zI_add, zI_sub, zI_mul, zI_inc, zI_dec]) <;> (congr 1 <;> omega))) ?_
      refine s_aload_n (i := 0) dX12_query_82 rfl rfl ?_
      refine s_getR dX12_query_83 fl_X12_62 (by assumption) (by assumption) (by assumption) ?_
      refine s_iload_n (i := 2) dX12_query_86 rfl rfl ?_
      refine s_ildn (j := i) dX12_query_87 (by assumption) (by assumption) (by assumption) (by first | with_reducible rfl | ((try simp only [z0, z1, zm1, zm2, zm3, zm4, zl2, zl3, zl4, zl5, zl6, zl7, zl8, zl9, zl10, zl20, zl28, zl31, zl32, zl33, zl48, zl57, zl64, zl100, zl127, zl200, zl201, zl202, zl402, zl1200, zl2412, zl16884, zI_add, zI_sub, zI_mul, zI_inc, zI_dec]) <;> (congr 1 <;> omega))) (by omega) (by decide) ?_
      rw [hc]
      refine s_cV_III (My := mX12_joins) dX12_query_88 wM_X12_270 cb_yX12_joins ci_yX12_joins (by assumption) (by assumption) (Nat.le_of_ble_eq_true rfl) (by decide) (s_d (by omega) (m_joins (d := 0) (a := TS.length - 2) (b := TS.length - 1) hM (by omega) (by omega) hA.1 hA.2.2 hAv (by omega) (hR (TS.length - 2) (by omega)) (hR (TS.length - 1) (by omega)) hp (fun I1 hf1 hj1 ho1 hp1 hR1 hpr1 => ?_)))
      refine s_iinc dX12_query_91 rfl (zI_inc _) (by decide) (by simp only [sl, sl2, rm, Value.category, reduceIte, Nat.reduceAdd, Nat.reduceEqDiff, reduceCtorEq]; rfl) ?_
      refine s_goto (tgt := 30) dX12_query_94 (by decide) ?_
      refine s_lv (lv' := [(0, .ref (x0 + 144)), (1, .int (zI ((TS.take (TS.length - 2) ++ [jop c (TS.getD (TS.length - 2) 0) (TS.getD (TS.length - 1) 0)]).length : Int))), (2, .int (zI ((i + 1 : Nat) : Int)))]) ⟨rfl, by rw [tk_len (by omega), show ((TS.length - 2 + 1 : Nat) : Int) = (TS.length : Int) - 1 by omega]; rfl, rfl, trivial⟩ ?_
      refine ih (i + 1) _ _ I1 (by omega) (by rw [tk_len (by omega), c3]; congr 1; omega) (by rw [hf1 145 (by decide)]; exact hL) (hO.fr (hj1 30 (by omega) (by omega)) (hf1 160 (by decide))) (fun q hq => ?_) hpr1 (fun I' TS' pr' h hf => kk I' TS' pr' h (frQ.trans ⟨hf1, hj1⟩ hf))
      rw [tk_len (by omega)] at hq
      by_cases e : q = TS.length - 2
      · rw [e, tk_eq (by omega)]; exact hR1
      · rw [tk_lt (by omega) (by omega)]
        have h1 := hR q (by omega)
        have hl2 : (rowT (gS S) (mS S) AL (TS.getD q 0)).length ≤ 1200 := Nat.le_trans rowT_len hA.2.2
        exact ⟨by rw [ho1 q e]; exact h1.1, fun q2 hq2 => by rw [hp1 _ (by rcases Nat.lt_or_ge q (TS.length - 2) with c | c <;> omega)]; exact h1.2 q2 hq2⟩
set_option maxRecDepth 100000 in
set_option maxHeartbeats 1000000 in
theorem ml_res {G : fG} {x0 : Nat} {l : Launch} {d k n : Nat} {T : fT} {J : fJ} {Q : Option Value → fT → fI → fJ → Prop} {m : Nat} {g : Nat → Int} (hM : MObj T) (hm : m ≤ 1200) : ∀ (t i : Nat) (I : fI), i + t = m → I 144 9 = zI m → MRow I 0 g m → (∀ q, q < i → I 149 q = zI (g q)) → (∀ I', fr I I' [149] → (∀ q, q < m → I' 149 q = zI (g q)) → Q (some (.int (zI m))) T I' J) → PW G x0 l mX12_query (d + 4) (ZM G x0 Q) k n 117 [(0, .ref (x0 + 144)), (2, .int (zI i))] [] T I J := by
  obtain ⟨o1, o2⟩ := hM.o
  obtain ⟨r160, b160, k160, n160⟩ := hM.a160
  obtain ⟨r158, b158, k158, n158⟩ := hM.a158
  obtain ⟨r149, b149, k149, n149⟩ := hM.a149
  obtain ⟨r157, b157, k157, n157⟩ := hM.a157
  intro t
  induction t with
  | zero =>
    intro i I ht h9 hR hd hq
    have hi : i = m := by omega
    subst hi
    refine s_iload_n (i := 2) dX12_query_117 rfl rfl ?_
    refine s_aload_n (i := 0) dX12_query_118 rfl rfl ?_
    refine s_getI dX12_query_119 fl_X12_25 (by assumption) (by assumption) ?_
    rw [h9]
    refine s_icmp_ge (tgt := 143) dX12_query_122 (by decide) (fun h122 => ?_) (fun h122 => absurd ((zI_le (by omega) (by omega) (by omega) (by omega)).mpr (by omega)) h122)
    refine s_aload_n (i := 0) dX12_query_143 rfl rfl ?_
    refine s_getI dX12_query_144 fl_X12_25 (by assumption) (by assumption) ?_
    rw [h9]
    refine s_iret dX12_query_147 rfl ?_
    exact hq I (fr_refl I _) hd
  | succ t ih =>
    intro i I ht h9 hR hd hq
    have hri := hR.2 i (by omega)
    rw [show 1200 * 0 + i = i by omega] at hri
    refine s_iload_n (i := 2) dX12_query_117 rfl rfl ?_
    refine s_aload_n (i := 0) dX12_query_118 rfl rfl ?_
    refine s_getI dX12_query_119 fl_X12_25 (by assumption) (by assumption) ?_
    rw [h9]
    refine s_icmp_ge (tgt := 143) dX12_query_122 (by decide) (fun h122 => absurd h122 (fun h => by rw [zI_le (by omega) (by omega) (by omega) (by omega)] at h; omega)) (fun h122 => ?_)
    refine s_aload_n (i := 0) dX12_query_125 rfl rfl ?_
    refine s_getR dX12_query_126 fl_X12_22 (by assumption) (by assumption) (by assumption) ?_
    refine s_iload_n (i := 2) dX12_query_129 rfl rfl ?_
    refine s_aload_n (i := 0) dX12_query_130 rfl rfl ?_
    refine s_getR dX12_query_131 fl_X12_53 (by assumption) (by assumption) (by assumption) ?_
    refine s_iload_n (i := 2) dX12_query_134 rfl rfl ?_
    refine s_ildn (j := i) dX12_query_135 (by assumption) (by assumption) (by assumption) (by first | with_reducible rfl | ((try simp only [z0, z1, zm1, zm2, zm3, zm4, zl2, zl3, zl4, zl5, zl6, zl7, zl8, zl9, zl10, zl20, zl28, zl31, zl32, zl33, zl48, zl57, zl64, zl100, zl127, zl200, zl201, zl202, zl402, zl1200, zl2412, zl16884, zI_add, zI_sub, zI_mul, zI_inc, zI_dec]) <;> (congr 1 <;> omega))) (by omega) (by decide) ?_
    rw [hri]
    refine s_istn (j := i) dX12_query_136 (by assumption) (by assumption) (by assumption) (by first | with_reducible rfl | ((try simp only [z0, z1, zm1, zm2, zm3, zm4, zl2, zl3, zl4, zl5, zl6, zl7, zl8, zl9, zl10, zl20, zl28, zl31, zl32, zl33, zl48, zl57, zl64, zl100, zl127, zl200, zl201, zl202, zl402, zl1200, zl2412, zl16884, zI_add, zI_sub, zI_mul, zI_inc, zI_dec]) <;> (congr 1 <;> omega))) (by omega) (by decide) ?_
    refine s_iinc dX12_query_137 rfl (zI_inc _) (by decide) (by simp only [sl, sl2, rm, Value.category, reduceIte, Nat.reduceAdd, Nat.reduceEqDiff, reduceCtorEq]; rfl) ?_
    refine s_goto (tgt := 117) dX12_query_140 (by decide) ?_
    refine ih (i + 1) _ (by omega) (by rw [iu_ne (by omega)]; exact h9) ⟨by rw [iu_ne (by omega)]; exact hR.1, by rw [iu_ne (by omega)]; exact hR.2⟩ (fun q h => ?_) (fun I' hf hd' => hq I' (fr_trans (fr_iu (by simp)) hf) hd')
    by_cases e : q = i
    · subst e; exact iu_at
    · rw [iu_j (by omega)]; exact hd q (by omega)
set_option maxRecDepth 100000 in
set_option maxHeartbeats 1000000 in
theorem m_query {G : fG} {x0 : Nat} {l : Launch} {d k n : Nat} {T : fT} {I : fI} {J : fJ} {Q : Option Value → fT → fI → fJ → Prop} {S S' : ASt} {a : Int} (hS : MIs T I S) (hk : SOk S) (h : rQuery S  a S') (hq : ∀ I', frC I I' → MIs T I' S' → Q (some (.int (zI a))) T I' J) : PW G x0 l mX12_query (d + 4) (ZM G x0 Q) k n 0 [(0, .ref (x0 + 144))] [] T I J := by
  have hM := hS.1
  have hX := hS.2.2.2.2.1
  have hTx := hk.2.2.2.1
  have htl := hk.2.2.2.2.1
  obtain ⟨o1, o2⟩ := hM.o
  obtain ⟨r160, b160, k160, n160⟩ := hM.a160
  obtain ⟨r158, b158, k158, n158⟩ := hM.a158
  obtain ⟨r149, b149, k149, n149⟩ := hM.a149
  obtain ⟨r157, b157, k157, n157⟩ := hM.a157
  refine s_aload_n (i := 0) dX12_query_0 rfl rfl ?_
  refine s_cV_ (My := mX12_readsExpression) dX12_query_1 wM_X12_264 cb_yX12_readsExpression ci_yX12_readsExpression (by assumption) (by assumption) (Nat.le_of_ble_eq_true rfl) (by decide) (s_d (by omega) (m_readsExpression (d := 0) hM hTx htl hX (fun I0 r hr hf0 h20 hrr => ?_)))
  have hfs : frS I I0 := ⟨fun b hb => hf0.1 b (by simp; omega), fun j hj => hf0.2 j (by omega)⟩
  have hS0 := hS.fr hfs
  unfold rQuery at h
  rw [← hr] at h
  have hrb : -1 ≤ r.1 ∧ r.1 ≤ S.2.2.2.1.2 := exprOf_bd hr
  obtain ⟨hne, rfl, rfl⟩ | ⟨heq, AL, TS, pr, hA, hfold, rfl, rfl⟩ := h
  · refine s_aload_n (i := 0) dX12_query_4 rfl rfl ?_
    refine s_getI dX12_query_5 fl_X12_180 (by assumption) (by assumption) ?_
    rw [h20]
    refine s_iconst (v := -1) dX12_query_8 (by decide) ?_
    refine s_icmp_eq (tgt := 21) dX12_query_9 (by decide) (fun h9 => absurd h9 (fun h => by rw [zm1, zI_eq (by omega) (by omega) (by omega) (by omega)] at h; omega)) (fun h9 => ?_)
    refine s_sipush (v := -2000) dX12_query_12 (by decide) ?_
    refine s_aload_n (i := 0) dX12_query_15 rfl rfl ?_
    refine s_getI dX12_query_16 fl_X12_180 (by assumption) (by assumption) ?_
    rw [h20]
    refine s_isub dX12_query_19 ?_
    refine s_topi (y := zI (-2000 - r.1)) (by rw [zm2000, zI_sub]) ?_
    refine s_iret dX12_query_20 rfl ?_
    exact hq I0 hfs.c hS0
  · have hO := hrr heq
    obtain ⟨hH, hPl⟩ := exprOf_hgt hTx (by rw [← hr]; exact heq)
    rw [← hr] at hH hPl
    have hPl : r.2.length ≤ S.2.2.2.1.2 := hPl
    refine s_aload_n (i := 0) dX12_query_4 rfl rfl ?_
    refine s_getI dX12_query_5 fl_X12_180 (by assumption) (by assumption) ?_
    rw [h20]
    refine s_iconst (v := -1) dX12_query_8 (by decide) ?_
    refine s_icmp_eq (tgt := 21) dX12_query_9 (by decide) (fun h9 => ?_) (fun h9 => absurd (by rw [heq]; exact zm1.symm) h9)
    refine s_aload_n (i := 0) dX12_query_21 rfl rfl ?_
    refine s_iconst (v := 0) dX12_query_22 (by decide) ?_
    refine s_putI dX12_query_23 fp_X12_227 (by assumption) (by assumption) ?_
    refine s_iconst (v := 0) dX12_query_26 (by decide) ?_
    refine s_istore_n (i := 1) dX12_query_27 rfl (by decide) (by simp only [sl, sl2, rm, Value.category, reduceIte, Nat.reduceAdd, Nat.reduceEqDiff, reduceCtorEq]; rfl) ?_
    refine s_iconst (v := 0) dX12_query_28 (by decide) ?_
    refine s_istore_n (i := 2) dX12_query_29 rfl (by decide) (by simp only [sl, sl2, rm, Value.category, reduceIte, Nat.reduceAdd, Nat.reduceEqDiff, reduceCtorEq]; rfl) ?_
    refine ml_query (S := S) (AL := AL) (P := r.2) hM hk hA hH (by omega) r.2.length 0 [] 0 _ (by omega) rfl (by rw [iu_ne (by omega)]; exact hS0.2.1) (hO.fr (iu_j (by omega)) (iu_ne (by omega))) (fun q h => absurd h (Nat.not_lt_zero q)) iu_at (fun I1 TS' pr' hTS hf1 hR1 hp1 => ?_)
    rw [List.drop_zero, ← hfold] at hTS
    have e1 : TS' = TS := congrArg Prod.fst hTS
    have e2 : pr' = pr := congrArg Prod.snd hTS
    subst e1 e2
    have hlen : (rowT (gS S) (mS S) AL (TS'.getD 0 0)).length ≤ 1200 := Nat.le_trans rowT_len hA.2.2
    refine s_aload_n (i := 0) dX12_query_97 rfl rfl ?_
    refine s_aload_n (i := 0) dX12_query_98 rfl rfl ?_
    refine s_getR dX12_query_99 fl_X12_56 (by assumption) (by assumption) (by assumption) ?_
    refine s_iconst (v := 0) dX12_query_102 (by decide) ?_
    refine s_ildn (j := 0) dX12_query_103 (by assumption) (by assumption) (by assumption) (rfl) (by omega) (by decide) ?_
    rw [hR1.1]
    refine s_putI dX12_query_104 fp_X12_25 (by assumption) (by assumption) ?_
    refine s_aload_n (i := 0) dX12_query_107 rfl rfl ?_
    refine s_aload_n (i := 0) dX12_query_108 rfl rfl ?_
    refine s_getI dX12_query_109 fl_X12_227 (by assumption) (by assumption) ?_
    rw [iu_j (by omega), hp1]
    refine s_putI dX12_query_112 fp_X12_29 (by assumption) (by assumption) ?_
    refine s_iconst (v := 0) dX12_query_115 (by decide) ?_
    refine s_istore_n (i := 2) dX12_query_116 rfl (by decide) (by simp only [sl, sl2, rm, Value.category, reduceIte, Nat.reduceAdd, Nat.reduceEqDiff, reduceCtorEq]; rfl) ?_
    refine s_lv (lv' := [(0, .ref (x0 + 144)), (2, .int (zI ((0 : Nat) : Int)))]) ⟨rfl, rfl, trivial⟩ ?_
    refine ml_res (m := (rowT (gS S) (mS S) AL (TS'.getD 0 0)).length) (g := lfn (rowT (gS S) (mS S) AL (TS'.getD 0 0))) hM hlen (rowT (gS S) (mS S) AL (TS'.getD 0 0)).length 0 _ (by omega) (by rw [iu_j (by omega), iu_at]) ⟨by rw [iu_ne (by omega), iu_ne (by omega)]; exact hR1.1, by rw [iu_ne (by omega), iu_ne (by omega)]; exact hR1.2⟩ (fun q h => absurd h (Nat.not_lt_zero q)) (fun I2 hf2 hd2 => ?_)
    have g144 : ∀ j, j ≠ 9 → j ≠ 10 → j ≠ 27 → j ≠ 28 → I2 144 j = I0 144 j := fun j a b c d => by rw [hf2 144 (by decide), iu_j b, iu_j a, hf1.2 j c d, iu_j d]
    have gA : ∀ b, b ≠ 144 → b ≠ 149 → b ≠ 157 → b ≠ 158 → b ≠ 159 → I2 b = I0 b := fun b a1 a2 a3 a4 a5 => by rw [hf2 b (by simp; omega), iu_ne a1, iu_ne a1, hf1.1 b (by simp; omega), iu_ne a1]
    obtain ⟨s1, s2, ⟨s3, s4, s5⟩, ⟨s6, s7, s8, s9, s10⟩, s11, -⟩ := hS0
    refine hq I2 (fun b hb => by rw [gA b (by omega) (by omega) (by omega) (by omega) (by omega)]; exact hfs.1 b (by omega)) ⟨s1, ?_, ⟨s3, ?_, ?_⟩, ⟨s6, ?_, ?_, ?_, ?_⟩, s11.fr (g144 18 (by omega) (by omega) (by omega) (by omega)) (gA 155 (by omega) (by omega) (by omega) (by omega) (by omega)), ⟨?_, ?_, hd2⟩⟩
    · rw [gA 145 (by omega) (by omega) (by omega) (by omega) (by omega)]; exact s2
    · rw [g144 2 (by omega) (by omega) (by omega) (by omega)]; exact s4
    · rw [gA 146 (by omega) (by omega) (by omega) (by omega) (by omega)]; exact s5
    · rw [g144 5 (by omega) (by omega) (by omega) (by omega)]; exact s7
    · rw [g144 6 (by omega) (by omega) (by omega) (by omega)]; exact s8
    · rw [g144 7 (by omega) (by omega) (by omega) (by omega)]; exact s9
    · rw [gA 147 (by omega) (by omega) (by omega) (by omega) (by omega), gA 148 (by omega) (by omega) (by omega) (by omega) (by omega)]; exact s10
    · rw [hf2 144 (by decide), iu_j (by omega), iu_at]
    · rw [hf2 144 (by decide), iu_at]
