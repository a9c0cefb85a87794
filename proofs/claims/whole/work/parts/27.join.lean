/-! joining -/
def JoinAt (T : fT) : Prop := 175 ≤ T.1 ∧ T.2.1 162 = 6 ∧ T.2.2.2 162 0 = some 163 ∧ T.2.2.2 162 1 = some 164 ∧ T.2.2.2 162 2 = some 166 ∧ T.2.2.2 162 3 = some 168 ∧ T.2.2.2 162 4 = some 169 ∧ T.2.2.2 162 5 = some 171 ∧ T.2.2.2 162 6 = some 173 ∧ T.2.2.2 162 7 = some 174 ∧ GalAt T 163 ∧ RowAt T 164 1200 ∧ RowAt T 166 1200 ∧ RowAt T 169 1200 ∧ RowAt T 171 1200 ∧ T.2.1 168 = 13 ∧ T.2.2.1 168 = 1200 ∧ T.2.1 173 = 14 ∧ T.2.2.1 173 = 100 ∧ T.2.1 174 = 13 ∧ T.2.2.1 174 = 6
theorem JoinAt.tq {T T' : fT} (h : JoinAt T) (q : Tq T T') : JoinAt T' := by
  obtain ⟨j1, j2, j3, j4, j5, j6, j7, j8, j9, j10, j11, j12, j13, j14, j15, j16, j17, j18, j19, j20, j21⟩ := h
  obtain ⟨q1, q2, q3, q4⟩ := id q
  have v : ∀ j, T'.2.2.2 162 j = T.2.2.2 162 j := fun j => q4 _ _ (by omega) (by omega)
  exact ⟨by omega, by rw [q2]; exact j2, by rw [v]; exact j3, by rw [v]; exact j4, by rw [v]; exact j5, by rw [v]; exact j6, by rw [v]; exact j7, by rw [v]; exact j8, by rw [v]; exact j9, by rw [v]; exact j10, ⟨by rw [q1]; exact j11.1, by rw [q2]; exact j11.2⟩, j12.tq q, j13.tq q, j14.tq q, j15.tq q, by rw [q2]; exact j16, by rw [q3]; exact j17, by rw [q2]; exact j18, by rw [q3]; exact j19, by rw [q2]; exact j20, by rw [q3]; exact j21⟩
/-- the numbers of the six lists -/
def SixIs (T : fT) (I : fI) (g : Nat → Nat → Int) (m : Nat → Nat) : Prop := ∀ i, i < 6 → RowIs T I (120 + 4 * i + 1) 200 (g i) (m i)
def sixS : List Nat := [121, 122, 125, 126, 129, 130, 133, 134, 137, 138, 141, 142]
theorem sixS_in {i : Nat} (h : i < 6) : 120 + 4 * i + 1 ∈ sixS ∧ 120 + 4 * i + 1 + 1 ∈ sixS := by
  revert h
  revert i
  decide
theorem SixIs.fr {T : fT} {I I' : fI} {g : Nat → Nat → Int} {m : Nat → Nat} (h : SixIs T I g m) (hf : ∀ b, b ∈ sixS → I' b = I b) : SixIs T I' g m := fun i hi => (h i hi).fr (hf _ (sixS_in hi).1) (hf _ (sixS_in hi).2)
theorem sixS_fr {I I' : fI} {S : List Nat} (h : fr I I' S) (hd : ∀ b, b ∈ S → 143 < b) : ∀ b, b ∈ sixS → I' b = I b := fun b hb => h b (fun hs => by
  have h1 := hd b hs
  have h2 : ∀ b, b ∈ sixS → b ≤ 143 := by decide
  have := h2 b hb
  omega)
def lst (g : Nat → Nat → Int) (m c : Nat → Nat) : Nat → Int
  | 0 => 1000000
  | i + 1 => if c i < m i then (if g i (c i) < lst g m c i then g i (c i) else lst g m c i) else lst g m c i
def pmk (g : Nat → Nat → Int) (m c : Nat → Nat) (v : Int) : Nat → Nat
  | 0 => 0
  | i + 1 => if c i < m i ∧ g i (c i) = v then pmk g m c v i + 2 ^ i else pmk g m c v i
def pcu (g : Nat → Nat → Int) (m c : Nat → Nat) (v : Int) (q i : Nat) : Nat := if i < q ∧ c i < m i ∧ g i (c i) = v then c i + 1 else c i
theorem pcu_no {g : Nat → Nat → Int} {m c : Nat → Nat} {v : Int} {q i : Nat} (h : i = q → ¬ (c q < m q ∧ g q (c q) = v)) : pcu g m c v (q + 1) i = pcu g m c v q i := by
  unfold pcu
  by_cases e : i = q
  · subst e
    rw [if_neg (fun z => h rfl z.2), if_neg (by omega)]
  · split <;> split <;> omega
theorem pmk_lt (g : Nat → Nat → Int) (m c : Nat → Nat) (v : Int) : ∀ i, pmk g m c v i < 2 ^ i := by
  intro i
  induction i with
  | zero => simp [pmk]
  | succ i ih =>
    have : 2 ^ (i + 1) = 2 ^ i + 2 ^ i := by rw [Nat.pow_succ]; omega
    simp only [pmk]
    split <;> omega
theorem or_bit : ∀ i, i < 6 → ∀ a, a < 2 ^ i → zI ((a : Nat) : Int) ||| ((1 : Int32) <<< (zI ((i : Nat) : Int) &&& 31)) = zI ((a + 2 ^ i : Nat) : Int) := by decide
def Val6 (g : Nat → Nat → Int) (m : Nat → Nat) : Prop := ∀ i, i < 6 → m i ≤ 200 ∧ Sorted (g i) (m i) ∧ ∀ q, q < m i → 0 ≤ g i q ∧ g i q ≤ 999999
theorem lst_bd {g : Nat → Nat → Int} {m c : Nat → Nat} (hv : Val6 g m) : ∀ i, i ≤ 6 → 0 ≤ lst g m c i ∧ lst g m c i ≤ 1000000 := by
  intro i
  induction i with
  | zero => intro _; simp only [lst]; omega
  | succ i ih =>
    intro hi
    have := ih (by omega)
    simp only [lst]
    split
    · next h =>
      have := (hv i (by omega)).2.2 (c i) h
      split <;> omega
    · exact this
set_option maxRecDepth 100000 in
set_option maxHeartbeats 4000000 in
theorem l_least {G : fG} {x0 : Nat} {l : Launch} {d k n : Nat} {T : fT} {I : fI} {J : fJ} {Q : Option Value → fT → fI → fJ → Prop} {g : Nat → Nat → Int} {m c : Nat → Nat} (hJ : JoinAt T) (hL : ListsAt T) (h6 : SixIs T I g m) (hV : Val6 g m) (hc : ∀ i, i < 6 → (I 174 i).toInt = c i ∧ c i ≤ m i) (hq : Q (some (.int (zI (lst g m c 6)))) T I J) : ∀ (z i : Nat), i + z = 6 → PW G x0 l mX6_leastAtCursors (d + 1) (ZM G x0 Q) k n 5 [(0, .ref (x0 + 162)), (1, .ref (x0 + 1)), (2, .int (zI (lst g m c i))), (3, .int (zI i))] [] T I J := by
  obtain ⟨j1, j2, j3, j4, j5, j6, j7, j8, j9, j10, j11, j12, j13, j14, j15, j16, j17, j18, j19, j20, j21⟩ := id hJ
  obtain ⟨l1, l2, l3, l4⟩ := id hL
  have e1 : (1 : Nat) < T.1 := by omega
  have e162 : (162 : Nat) < T.1 := by omega
  have e174 : (174 : Nat) < T.1 := by omega
  have e166 : (166 : Nat) < T.1 := by omega
  have e168 : (168 : Nat) < T.1 := by omega
  have k166 : T.2.1 166 = 9 := j13.2.2.1
  intro z
  induction z with
  | zero =>
    intro i hz
    have hi : i = 6 := by omega
    subst hi
    refine s_iload_n (i := 3) dX6_leastAtCursors_5 rfl rfl ?_
    refine s_bipush (v := 6) dX6_leastAtCursors_6 (by decide) ?_
    refine s_icmp_ge (tgt := 55) dX6_leastAtCursors_8 (by decide) (fun h8 => ?_) (fun h8 => absurd (by decide) h8)
    refine s_iload_n (i := 2) dX6_leastAtCursors_55 rfl rfl ?_
    refine s_iret dX6_leastAtCursors_56 rfl ?_
    exact hq
  | succ z ih =>
    intro i hz
    have hlb := lst_bd (c := c) hV i (by omega)
    refine s_iload_n (i := 3) dX6_leastAtCursors_5 rfl rfl ?_
    refine s_bipush (v := 6) dX6_leastAtCursors_6 (by decide) ?_
    refine s_icmp_ge (tgt := 55) dX6_leastAtCursors_8 (by decide) (fun h8 => absurd h8 (by show ¬ zI 6 ≤ zI i; rw [zI_le (by omega) (by omega) (by omega) (by omega)]; omega)) (fun h8 => ?_)
    obtain ⟨c1, c2, c3, c4, c5, c6, c7, c8⟩ := id (l4 i (by omega)).2
    have hv := (l4 i (by omega)).1
    have hR := h6 i (by omega)
    obtain ⟨r1, r2, r3, r4, r5, r6, r7⟩ := id hR.1
    have hni : (zI i).toNatClampNeg = i := by rw [zI_n (by omega) (by omega)]; simp
    have hva := hV i (by omega)
    have hci := hc i (by omega)
    refine s_aload_n (i := 0) dX6_leastAtCursors_11 rfl rfl ?_
    refine s_getR dX6_leastAtCursors_12 fl_X6_44 (by assumption) (by assumption) (by assumption) ?_
    refine s_iload_n (i := 3) dX6_leastAtCursors_15 rfl rfl ?_
    refine s_iald dX6_leastAtCursors_16 (by assumption) (by assumption) (by rw [j21]; exact z_in (by omega) (by omega) (by omega)) ?_
    refine s_topi (y := zI (c i)) (by rw [hni]; exact t_zI hci.1) ?_
    refine s_aload_n (i := 1) dX6_leastAtCursors_17 rfl rfl ?_
    refine s_iload_n (i := 3) dX6_leastAtCursors_18 rfl rfl ?_
    refine s_aldC dX6_leastAtCursors_19 (by assumption) (by assumption) (by rw [l3]; exact z_in (by omega) (by omega) (by omega)) (by rw [hni]; exact hv) ?_
    refine s_getR dX6_leastAtCursors_20 fl_X6_98 (by assumption) (by assumption) (by assumption) ?_
    refine s_getI dX6_leastAtCursors_23 fl_X6_55 (by assumption) (by assumption) ?_
    refine s_topi hR.sz ?_
    refine s_icmp_ge (tgt := 49) dX6_leastAtCursors_26 (by decide) (fun c26 => ?_) (fun c26 => ?_)
    · refine s_iinc dX6_leastAtCursors_49 rfl (zI_inc _) (by decide) (by simp only [sl, sl2, rm, Value.category, reduceIte, Nat.reduceAdd, Nat.reduceEqDiff, reduceCtorEq]; rfl) ?_
      refine s_goto (tgt := 5) dX6_leastAtCursors_52 (by decide) ?_
      first
      | exact ih (i + 1) (by omega)
      | (rw [zI_le (by omega) (by omega) (by omega) (by omega)] at c26
         have e : lst g m c (i + 1) = lst g m c i := by
           simp only [lst]
           rw [if_neg (by omega)]
         have := ih (i + 1) (by omega)
         rw [e] at this
         exact this)
    · rw [zI_le (by omega) (by omega) (by omega) (by omega)] at c26
      have hgb := hva.2.2 (c i) (by omega)
      refine s_iload_n (i := 2) dX6_leastAtCursors_29 rfl rfl ?_
      refine s_aload_n (i := 1) dX6_leastAtCursors_30 rfl rfl ?_
      refine s_iload_n (i := 3) dX6_leastAtCursors_31 rfl rfl ?_
      refine s_aldC dX6_leastAtCursors_32 (by assumption) (by assumption) (by rw [l3]; exact z_in (by omega) (by omega) (by omega)) (by rw [hni]; exact hv) ?_
      refine s_getR dX6_leastAtCursors_33 fl_X6_98 (by assumption) (by assumption) (by assumption) ?_
      refine s_aload_n (i := 0) dX6_leastAtCursors_36 rfl rfl ?_
      refine s_getR dX6_leastAtCursors_37 fl_X6_44 (by assumption) (by assumption) (by assumption) ?_
      refine s_iload_n (i := 3) dX6_leastAtCursors_40 rfl rfl ?_
      refine s_iald dX6_leastAtCursors_41 (by assumption) (by assumption) (by rw [j21]; exact z_in (by omega) (by omega) (by omega)) ?_
      refine s_topi (y := zI (c i)) (by rw [hni]; exact t_zI hci.1) ?_
      refine s_cV_I (My := mX9_get) dX6_leastAtCursors_42 wM_X6_58 cb_yX9_get ci_yX9_get (by assumption) (by assumption) (Nat.le_of_ble_eq_true rfl) (by decide) (c_getn hR (by omega) ?_)
      refine s_min dX6_leastAtCursors_45 wM_X6_103 (Nat.le_of_ble_eq_true rfl) ?_
      refine s_topi (y := zI (lst g m c (i + 1))) ?_ ?_
      · simp only [lst]
        rw [if_pos (show c i < m i by omega)]
        by_cases hcc : zI (lst g m c i) > zI (g i (c i))
        · rw [if_pos hcc]
          rw [gt_iff_lt, zI_lt (by omega) (by omega) (by omega) (by omega)] at hcc
          rw [if_pos hcc]
        · rw [if_neg hcc]
          rw [gt_iff_lt, zI_lt (by omega) (by omega) (by omega) (by omega)] at hcc
          rw [if_neg hcc]
      refine s_istore_n (i := 2) dX6_leastAtCursors_48 rfl (by decide) (by simp only [sl, sl2, rm, Value.category, reduceIte, Nat.reduceAdd, Nat.reduceEqDiff, reduceCtorEq]; rfl) ?_
      refine s_iinc dX6_leastAtCursors_49 rfl (zI_inc _) (by decide) (by simp only [sl, sl2, rm, Value.category, reduceIte, Nat.reduceAdd, Nat.reduceEqDiff, reduceCtorEq]; rfl) ?_
      refine s_goto (tgt := 5) dX6_leastAtCursors_52 (by decide) ?_
      first
      | exact ih (i + 1) (by omega)
      | (rw [zI_le (by omega) (by omega) (by omega) (by omega)] at c26
         have e : lst g m c (i + 1) = lst g m c i := by
           simp only [lst]
           rw [if_neg (by omega)]
         have := ih (i + 1) (by omega)
         rw [e] at this
         exact this)
set_option maxRecDepth 100000 in
set_option maxHeartbeats 4000000 in
theorem c_least {G : fG} {x0 : Nat} {l : Launch} {d k n : Nat} {T : fT} {I : fI} {J : fJ} {Q : Option Value → fT → fI → fJ → Prop} {g : Nat → Nat → Int} {m c : Nat → Nat} (hJ : JoinAt T) (hL : ListsAt T) (h6 : SixIs T I g m) (hV : Val6 g m) (hc : ∀ i, i < 6 → (I 174 i).toInt = c i ∧ c i ≤ m i) (hq : Q (some (.int (zI (lst g m c 6)))) T I J) : PW G x0 l mX6_leastAtCursors (d + 1) (ZM G x0 Q) k n 0 [(0, .ref (x0 + 162)), (1, .ref (x0 + 1))] [] T I J := by
  refine s_ldc dX6_leastAtCursors_0 wK_X6_97 ?_
  refine s_istore_n (i := 2) dX6_leastAtCursors_2 rfl (by decide) (by simp only [sl, sl2, rm, Value.category, reduceIte, Nat.reduceAdd, Nat.reduceEqDiff, reduceCtorEq]; rfl) ?_
  refine s_iconst (v := 0) dX6_leastAtCursors_3 (by decide) ?_
  refine s_istore_n (i := 3) dX6_leastAtCursors_4 rfl (by decide) (by simp only [sl, sl2, rm, Value.category, reduceIte, Nat.reduceAdd, Nat.reduceEqDiff, reduceCtorEq]; rfl) ?_
  exact l_least hJ hL h6 hV hc hq 6 0 (by omega)
set_option maxRecDepth 100000 in
set_option maxHeartbeats 4000000 in
theorem l_pass {G : fG} {x0 : Nat} {l : Launch} {d k n : Nat} {T : fT} {J : fJ} {Q : Option Value → fT → fI → fJ → Prop} {g : Nat → Nat → Int} {m c : Nat → Nat} {v : Int} (hJ : JoinAt T) (hL : ListsAt T) (hV : Val6 g m) (hv0 : 0 ≤ v ∧ v ≤ 999999) (hcm : ∀ i, i < 6 → c i ≤ m i) : ∀ (z i : Nat) (I : fI), i + z = 6 → SixIs T I g m → (∀ q, q < 6 → (I 174 q).toInt = pcu g m c v i q) → (hq : ∀ I', fr I I' [174] → (∀ q, q < 6 → (I' 174 q).toInt = pcu g m c v 6 q) → Q (some (.int (zI (pmk g m c v 6)))) T I' J) → PW G x0 l mX6_passCursors (d + 1) (ZM G x0 Q) k n 5 [(0, .ref (x0 + 162)), (1, .ref (x0 + 1)), (2, .int (zI v)), (3, .int (zI (pmk g m c v i))), (4, .int (zI i))] [] T I J := by
  obtain ⟨j1, j2, j3, j4, j5, j6, j7, j8, j9, j10, j11, j12, j13, j14, j15, j16, j17, j18, j19, j20, j21⟩ := id hJ
  obtain ⟨l1, l2, l3, l4⟩ := id hL
  have e1 : (1 : Nat) < T.1 := by omega
  have e162 : (162 : Nat) < T.1 := by omega
  have e174 : (174 : Nat) < T.1 := by omega
  have e166 : (166 : Nat) < T.1 := by omega
  have e168 : (168 : Nat) < T.1 := by omega
  have k166 : T.2.1 166 = 9 := j13.2.2.1
  intro z
  induction z with
  | zero =>
    intro i I hz h6 hc hq
    have hi : i = 6 := by omega
    subst hi
    refine s_iload dX6_passCursors_5 rfl ?_
    refine s_bipush (v := 6) dX6_passCursors_7 (by decide) ?_
    refine s_icmp_ge (tgt := 57) dX6_passCursors_9 (by decide) (fun h9 => ?_) (fun h9 => absurd (by decide) h9)
    refine s_iload_n (i := 3) dX6_passCursors_57 rfl rfl ?_
    refine s_iret dX6_passCursors_58 rfl ?_
    exact hq I (fr_refl I _) hc
  | succ z ih =>
    intro i I hz h6 hc hq
    have hpl := pmk_lt g m c v i
    refine s_iload dX6_passCursors_5 rfl ?_
    refine s_bipush (v := 6) dX6_passCursors_7 (by decide) ?_
    refine s_icmp_ge (tgt := 57) dX6_passCursors_9 (by decide) (fun h9 => absurd h9 (by show ¬ zI 6 ≤ zI i; rw [zI_le (by omega) (by omega) (by omega) (by omega)]; omega)) (fun h9 => ?_)
    obtain ⟨c1, c2, c3, c4, c5, c6, c7, c8⟩ := id (l4 i (by omega)).2
    have hv := (l4 i (by omega)).1
    have hR := h6 i (by omega)
    obtain ⟨r1, r2, r3, r4, r5, r6, r7⟩ := id hR.1
    have hni : (zI i).toNatClampNeg = i := by rw [zI_n (by omega) (by omega)]; simp
    have hva := hV i (by omega)
    have hci : (I 174 i).toInt = c i := by
      rw [hc i (by omega)]
      unfold pcu
      rw [if_neg (by omega)]
    have hcmi := hcm i (by omega)
    have hgv : (if c i < m i then g i (c i) else -1) = v ↔ (c i < m i ∧ g i (c i) = v) := by
      split <;> omega
    have hgr : -1 ≤ (if c i < m i then g i (c i) else -1) ∧ (if c i < m i then g i (c i) else -1) ≤ 999999 := by
      split
      · next h => have := hva.2.2 (c i) h; omega
      · omega
    have hget : rget I (120 + 4 * i + 1) (zI (c i)) = zI (if c i < m i then g i (c i) else -1) := by
      by_cases h : c i < m i
      · rw [if_pos h]
        have := hR.get (z := (c i : Int)) (by omega) (by omega)
        simpa using this
      · rw [if_neg h, rget_out (Or.inr (by rw [hR.2.2.1, zI_t (by omega) (by omega)]; omega))]
        exact zm1
    refine s_aload_n (i := 1) dX6_passCursors_12 rfl rfl ?_
    refine s_iload dX6_passCursors_13 rfl ?_
    refine s_aldC dX6_passCursors_15 (by assumption) (by assumption) (by rw [l3]; exact z_in (by omega) (by omega) (by omega)) (by rw [hni]; exact hv) ?_
    refine s_getR dX6_passCursors_16 fl_X6_98 (by assumption) (by assumption) (by assumption) ?_
    refine s_aload_n (i := 0) dX6_passCursors_19 rfl rfl ?_
    refine s_getR dX6_passCursors_20 fl_X6_44 (by assumption) (by assumption) (by assumption) ?_
    refine s_iload dX6_passCursors_23 rfl ?_
    refine s_iald dX6_passCursors_25 (by assumption) (by assumption) (by rw [j21]; exact z_in (by omega) (by omega) (by omega)) ?_
    refine s_topi (y := zI (c i)) (by rw [hni]; exact t_zI hci) ?_
    refine s_cV_I (My := mX9_get) dX6_passCursors_26 wM_X6_58 cb_yX9_get ci_yX9_get (by assumption) (by assumption) (Nat.le_of_ble_eq_true rfl) (by decide) (c_get hR.1 (by rw [hR.2.2.1]; have := hR.2.1; omega) hget ?_)
    refine s_iload_n (i := 2) dX6_passCursors_29 rfl rfl ?_
    refine s_icmp_ne (tgt := 51) dX6_passCursors_30 (by decide) (fun c30 => ?_) (fun c30 => ?_)
    · refine s_iinc dX6_passCursors_51 rfl (zI_inc _) (by decide) (by simp only [sl, sl2, rm, Value.category, reduceIte, Nat.reduceAdd, Nat.reduceEqDiff, reduceCtorEq]; rfl) ?_
      refine s_goto (tgt := 5) dX6_passCursors_54 (by decide) ?_
      first
      | (rw [zI_eq (by omega) (by omega) (by omega) (by omega), hgv] at c30
         have e : pmk g m c v (i + 1) = pmk g m c v i := by
           simp only [pmk]
           rw [if_neg c30]
         have := ih (i + 1) I (by omega) h6 (fun q hq => by rw [hc q hq, pcu_no (fun _ => c30)]) hq
         rw [e] at this
         exact this)
      | (have e : pmk g m c v (i + 1) = pmk g m c v i + 2 ^ i := by
           simp only [pmk]
           rw [if_pos c30]
         rw [hni]
         have := ih (i + 1) (iu I 174 i (I 174 i + 1)) (by omega) (h6.fr (sixS_fr (fr_iu (S := [174]) (by simp)) (by simp))) (fun q hq => ?_) (fun I' hf hc' => hq I' (fr_trans (fr_iu (by simp)) hf) hc')
         · rw [e] at this
           exact this
         · by_cases hqi : q = i
           · subst hqi
             rw [iu_at, t_zI hci, z1, zI_add, zI_t (by omega) (by omega)]
             unfold pcu
             rw [if_pos (by omega)]
             omega
           · rw [iu_j hqi, hc q hq, pcu_no (fun e => absurd e hqi)])
    · rw [zI_eq (by omega) (by omega) (by omega) (by omega), hgv] at c30
      refine s_iload_n (i := 3) dX6_passCursors_33 rfl rfl ?_
      refine s_iconst (v := 1) dX6_passCursors_34 (by decide) ?_
      refine s_iload dX6_passCursors_35 rfl ?_
      refine s_ishl dX6_passCursors_37 ?_
      refine s_ior dX6_passCursors_38 ?_
      refine s_topi (y := zI (((pmk g m c v i + 2 ^ i : Nat) : Int))) (or_bit i (by omega) _ hpl) ?_
      refine s_istore_n (i := 3) dX6_passCursors_39 rfl (by decide) (by simp only [sl, sl2, rm, Value.category, reduceIte, Nat.reduceAdd, Nat.reduceEqDiff, reduceCtorEq]; rfl) ?_
      refine s_aload_n (i := 0) dX6_passCursors_40 rfl rfl ?_
      refine s_getR dX6_passCursors_41 fl_X6_44 (by assumption) (by assumption) (by assumption) ?_
      refine s_iload dX6_passCursors_44 rfl ?_
      refine s_dup2 dX6_passCursors_46 rfl rfl ?_
      refine s_iald dX6_passCursors_47 (by assumption) (by assumption) (by rw [j21]; exact z_in (by omega) (by omega) (by omega)) ?_
      refine s_iconst (v := 1) dX6_passCursors_48 (by decide) ?_
      refine s_iadd dX6_passCursors_49 ?_
      refine s_iast dX6_passCursors_50 (by assumption) (by assumption) (by rw [j21]; exact z_in (by omega) (by omega) (by omega)) ?_
      refine s_iinc dX6_passCursors_51 rfl (zI_inc _) (by decide) (by simp only [sl, sl2, rm, Value.category, reduceIte, Nat.reduceAdd, Nat.reduceEqDiff, reduceCtorEq]; rfl) ?_
      refine s_goto (tgt := 5) dX6_passCursors_54 (by decide) ?_
      first
      | (rw [zI_eq (by omega) (by omega) (by omega) (by omega), hgv] at c30
         have e : pmk g m c v (i + 1) = pmk g m c v i := by
           simp only [pmk]
           rw [if_neg c30]
         have := ih (i + 1) I (by omega) h6 (fun q hq => by rw [hc q hq, pcu_no (fun _ => c30)]) hq
         rw [e] at this
         exact this)
      | (have e : pmk g m c v (i + 1) = pmk g m c v i + 2 ^ i := by
           simp only [pmk]
           rw [if_pos c30]
         rw [hni]
         have := ih (i + 1) (iu I 174 i (I 174 i + 1)) (by omega) (h6.fr (sixS_fr (fr_iu (S := [174]) (by simp)) (by simp))) (fun q hq => ?_) (fun I' hf hc' => hq I' (fr_trans (fr_iu (by simp)) hf) hc')
         · rw [e] at this
           exact this
         · by_cases hqi : q = i
           · subst hqi
             rw [iu_at, t_zI hci, z1, zI_add, zI_t (by omega) (by omega)]
             unfold pcu
             rw [if_pos (by omega)]
             omega
           · rw [iu_j hqi, hc q hq, pcu_no (fun e => absurd e hqi)])
set_option maxRecDepth 100000 in
set_option maxHeartbeats 4000000 in
theorem c_pass {G : fG} {x0 : Nat} {l : Launch} {d k n : Nat} {T : fT} {I : fI} {J : fJ} {Q : Option Value → fT → fI → fJ → Prop} {g : Nat → Nat → Int} {m c : Nat → Nat} {v : Int} (hJ : JoinAt T) (hL : ListsAt T) (hV : Val6 g m) (hv0 : 0 ≤ v ∧ v ≤ 999999) (h6 : SixIs T I g m) (hc : ∀ i, i < 6 → (I 174 i).toInt = c i ∧ c i ≤ m i) (hq : ∀ I', fr I I' [174] → (∀ q, q < 6 → (I' 174 q).toInt = pcu g m c v 6 q) → Q (some (.int (zI (pmk g m c v 6)))) T I' J) : PW G x0 l mX6_passCursors (d + 1) (ZM G x0 Q) k n 0 [(0, .ref (x0 + 162)), (1, .ref (x0 + 1)), (2, .int (zI v))] [] T I J := by
  refine s_iconst (v := 0) dX6_passCursors_0 (by decide) ?_
  refine s_istore_n (i := 3) dX6_passCursors_1 rfl (by decide) (by simp only [sl, sl2, rm, Value.category, reduceIte, Nat.reduceAdd, Nat.reduceEqDiff, reduceCtorEq]; rfl) ?_
  refine s_iconst (v := 0) dX6_passCursors_2 (by decide) ?_
  refine s_istore dX6_passCursors_3 (by decide) (by simp only [sl, sl2, rm, Value.category, reduceIte, Nat.reduceAdd, Nat.reduceEqDiff, reduceCtorEq]; rfl) ?_
  exact l_pass hJ hL hV hv0 (fun i hi => (hc i hi).2) 6 0 I (by omega) h6 (fun q hq => by rw [(hc q hq).1]; unfold pcu; rw [if_neg (by omega)]) hq
