def inL (g : Nat → Int) (m : Nat) (v : Int) : Bool := decide (∃ q, q < m ∧ g q = v)
/-- the set of the lists that a number is in, a bit for each list -/
def mk6 (g : Nat → Nat → Int) (m : Nat → Nat) (v : Int) : Nat → Nat
  | 0 => 0
  | i + 1 => if inL (g i) (m i) v then mk6 g m v i + 2 ^ i else mk6 g m v i
def srt (L : List Int) : Prop := L.Pairwise (· < ·)
theorem srt_ext : ∀ {L M : List Int}, srt L → srt M → (∀ v, v ∈ L ↔ v ∈ M) → L = M := by
  intro L
  induction L with
  | nil =>
    intro M _ _ h
    cases M with
    | nil => rfl
    | cons b M => exact absurd ((h b).mpr List.mem_cons_self) List.not_mem_nil
  | cons a L ih =>
    intro M hL hM h
    cases M with
    | nil => exact absurd ((h a).mp List.mem_cons_self) List.not_mem_nil
    | cons b M =>
      have hL' := List.pairwise_cons.mp hL
      have hM' := List.pairwise_cons.mp hM
      have hab : a = b := by
        rcases List.mem_cons.mp ((h a).mp List.mem_cons_self) with h1 | h1
        · exact h1
        · rcases List.mem_cons.mp ((h b).mpr List.mem_cons_self) with h2 | h2
          · exact h2.symm
          · have h3 := hM'.1 a h1
            have h4 := hL'.1 b h2
            omega
      subst hab
      congr 1
      refine ih hL'.2 hM'.2 (fun v => ?_)
      have hv := h v
      rw [List.mem_cons, List.mem_cons] at hv
      constructor
      · intro hm
        rcases hv.mp (Or.inr hm) with h1 | h1
        · have := hL'.1 v hm; omega
        · exact h1
      · intro hm
        rcases hv.mpr (Or.inr hm) with h1 | h1
        · have := hM'.1 v hm; omega
        · exact h1
theorem srt_snoc {L : List Int} {v : Int} (h : srt L) (hv : ∀ a, a ∈ L → a < v) : srt (L ++ [v]) := by
  unfold srt
  rw [List.pairwise_append]
  exact ⟨h, List.pairwise_singleton _ _, fun a ha b hb => by rw [List.mem_singleton.mp hb]; exact hv a ha⟩
theorem lst_min {g : Nat → Nat → Int} {m c : Nat → Nat} (hv : Val6 g m) : ∀ i, i ≤ 6 → (∀ j, j < i → c j < m j → lst g m c i ≤ g j (c j)) ∧ (lst g m c i = 1000000 ∨ ∃ j, j < i ∧ c j < m j ∧ lst g m c i = g j (c j)) := by
  intro i
  induction i with
  | zero => intro _; exact ⟨fun j hj => absurd hj (Nat.not_lt_zero j), Or.inl rfl⟩
  | succ i ih =>
    intro hi
    obtain ⟨h1, h2⟩ := ih (by omega)
    simp only [lst]
    split
    · next hc =>
      split
      · next hl =>
        refine ⟨fun j hj hcj => ?_, Or.inr ⟨i, by omega, hc, rfl⟩⟩
        rcases Nat.lt_or_ge j i with h | h
        · have := h1 j h hcj; omega
        · rw [show j = i by omega]; exact Int.le_refl _
      · next hl =>
        refine ⟨fun j hj hcj => ?_, ?_⟩
        · rcases Nat.lt_or_ge j i with h | h
          · exact h1 j h hcj
          · rw [show j = i by omega]; omega
        · rcases h2 with h | ⟨j, a, b, e⟩
          · exact Or.inl h
          · exact Or.inr ⟨j, by omega, b, e⟩
    · next hc =>
      refine ⟨fun j hj hcj => ?_, ?_⟩
      · rcases Nat.lt_or_ge j i with h | h
        · exact h1 j h hcj
        · rw [show j = i by omega] at hcj; omega
      · rcases h2 with h | ⟨j, a, b, e⟩
        · exact Or.inl h
        · exact Or.inr ⟨j, by omega, b, e⟩
/-- how far the gathering is -/
def Gat (g : Nat → Nat → Int) (m c : Nat → Nat) (AL : List Int) : Prop := srt AL ∧ (∀ v, v ∈ AL → ∃ i, i < 6 ∧ inL (g i) (m i) v = true) ∧ (∀ i, i < 6 → c i ≤ m i ∧ (∀ q, q < c i → g i q ∈ AL) ∧ ∀ q, c i ≤ q → q < m i → ∀ a, a ∈ AL → a < g i q) ∧ AL.length ≤ c 0 + c 1 + c 2 + c 3 + c 4 + c 5
theorem Gat.step {g : Nat → Nat → Int} {m c : Nat → Nat} {AL : List Int} (hV : Val6 g m) (h : Gat g m c AL) {v : Int} (hv : v = lst g m c 6) (hv2 : v ≤ 999999) : Gat g m (pcu g m c v 6) (AL ++ [v]) ∧ pmk g m c v 6 = mk6 g m v 6 := by
  obtain ⟨h1, h2, h3, h4⟩ := h
  obtain ⟨m1, m2⟩ := lst_min (c := c) hV 6 (Nat.le_refl 6)
  rw [← hv] at m1 m2
  obtain ⟨j, hj6, hjc, hje⟩ : ∃ j, j < 6 ∧ c j < m j ∧ v = g j (c j) := by
    rcases m2 with h | h
    · omega
    · exact h
  have hlt : ∀ a, a ∈ AL → a < v := fun a ha => by rw [hje]; exact (h3 j hj6).2.2 (c j) (Nat.le_refl _) hjc a ha
  have hin : ∀ i, i < 6 → (inL (g i) (m i) v = true ↔ (c i < m i ∧ g i (c i) = v)) := by
    intro i hi
    unfold inL
    rw [decide_eq_true_eq]
    constructor
    · rintro ⟨q, hq1, hq2⟩
      have hqc : c i ≤ q := by
        rcases Nat.lt_or_ge q (c i) with h | h
        · have := hlt _ ((h3 i hi).2.1 q h); omega
        · exact h
      have hcm : c i < m i := by omega
      have hmn := m1 i hi hcm
      rcases Nat.lt_or_ge (c i) q with h | h
      · have := (hV i hi).2.1 (c i) q h hq1; omega
      · exact ⟨hcm, by rw [show c i = q by omega]; exact hq2⟩
    · rintro ⟨a, b⟩
      exact ⟨c i, a, b⟩
  refine ⟨⟨srt_snoc h1 hlt, ?_, ?_, ?_⟩, ?_⟩
  · intro a ha
    rcases List.mem_append.mp ha with h | h
    · exact h2 a h
    · rw [List.mem_singleton.mp h]
      exact ⟨j, hj6, (hin j hj6).mpr ⟨hjc, hje.symm⟩⟩
  · intro i hi
    obtain ⟨k1, k2, k3⟩ := h3 i hi
    by_cases hc : c i < m i ∧ g i (c i) = v
    · have e : pcu g m c v 6 i = c i + 1 := by unfold pcu; rw [if_pos ⟨hi, hc⟩]
      rw [e]
      refine ⟨by omega, fun q hq => ?_, fun q hq1 hq2 a ha => ?_⟩
      · rcases Nat.lt_or_ge q (c i) with h | h
        · exact List.mem_append_left _ (k2 q h)
        · rw [show q = c i by omega, hc.2]; exact List.mem_append_right _ (List.mem_singleton.mpr rfl)
      · have hs := (hV i hi).2.1 (c i) q (by omega) hq2
        rcases List.mem_append.mp ha with h | h
        · have := hlt a h; omega
        · rw [List.mem_singleton.mp h]; omega
    · have e : pcu g m c v 6 i = c i := by unfold pcu; rw [if_neg (fun z => hc z.2)]
      rw [e]
      refine ⟨k1, fun q hq => List.mem_append_left _ (k2 q hq), fun q hq1 hq2 a ha => ?_⟩
      rcases List.mem_append.mp ha with h | h
      · exact k3 q hq1 hq2 a h
      · rw [List.mem_singleton.mp h]
        have hcm : c i < m i := by omega
        have hmn := m1 i hi hcm
        have hne : g i (c i) ≠ v := fun z => hc ⟨hcm, z⟩
        rcases Nat.lt_or_ge (c i) q with h | h
        · have := (hV i hi).2.1 (c i) q h hq2; omega
        · rw [show q = c i by omega]; omega
  · rw [List.length_append, List.length_singleton]
    have hge : ∀ i, c i ≤ pcu g m c v 6 i := fun i => by unfold pcu; split <;> omega
    have hj1 : pcu g m c v 6 j = c j + 1 := by unfold pcu; rw [if_pos ⟨hj6, hjc, hje.symm⟩]
    have g0 := hge 0
    have g1 := hge 1
    have g2 := hge 2
    have g3 := hge 3
    have g4 := hge 4
    have g5 := hge 5
    rcases (show j = 0 ∨ j = 1 ∨ j = 2 ∨ j = 3 ∨ j = 4 ∨ j = 5 by omega) with e | e | e | e | e | e <;> subst e <;> omega
  · have hpm : ∀ i, i ≤ 6 → pmk g m c v i = mk6 g m v i := by
      intro i
      induction i with
      | zero => intro _; rfl
      | succ i ih =>
        intro hi
        simp only [pmk, mk6]
        rw [ih (by omega)]
        by_cases hc : c i < m i ∧ g i (c i) = v
        · rw [if_pos hc, if_pos ((hin i (by omega)).mpr hc)]
        · rw [if_neg hc, if_neg (fun z => hc ((hin i (by omega)).mp z))]
    exact hpm 6 (Nat.le_refl 6)
/-- all numbers, ascending -/
def AllOf (g : Nat → Nat → Int) (m : Nat → Nat) (AL : List Int) : Prop := srt AL ∧ (∀ v, v ∈ AL ↔ ∃ i, i < 6 ∧ inL (g i) (m i) v = true) ∧ AL.length ≤ 1200
theorem Gat.done {g : Nat → Nat → Int} {m c : Nat → Nat} {AL : List Int} (hV : Val6 g m) (h : Gat g m c AL) (hc : ∀ i, i < 6 → c i = m i) : AllOf g m AL := by
  obtain ⟨h1, h2, h3, h4⟩ := h
  have hm : ∀ i, i < 6 → m i ≤ 200 := fun i hi => (hV i hi).1
  have m0 := hm 0 (by omega)
  have m1 := hm 1 (by omega)
  have m2 := hm 2 (by omega)
  have m3 := hm 3 (by omega)
  have m4 := hm 4 (by omega)
  have m5 := hm 5 (by omega)
  rw [hc 0 (by omega), hc 1 (by omega), hc 2 (by omega), hc 3 (by omega), hc 4 (by omega), hc 5 (by omega)] at h4
  refine ⟨h1, fun v => ⟨h2 v, ?_⟩, by omega⟩
  rintro ⟨i, hi, hin⟩
  unfold inL at hin
  rw [decide_eq_true_eq] at hin
  obtain ⟨q, hq, e⟩ := hin
  rw [← e]
  exact (h3 i hi).2.1 q (by rw [hc i hi]; exact hq)
theorem getD_mem {L : List Int} {q : Nat} (h : q < L.length) : L.getD q 0 ∈ L := by
  rw [List.getD_eq_getElem?_getD, List.getElem?_eq_getElem h]
  exact List.getElem_mem h
theorem getD_snoc_lt {L : List Int} {v : Int} {q : Nat} (h : q < L.length) : (L ++ [v]).getD q 0 = L.getD q 0 := by
  simp only [List.getD_eq_getElem?_getD]
  rw [List.getElem?_append_left h]
theorem getD_snoc_eq {L : List Int} {v : Int} : (L ++ [v]).getD L.length 0 = v := by
  simp [List.getD_eq_getElem?_getD]
set_option maxRecDepth 100000 in
set_option maxHeartbeats 4000000 in
theorem l_gather {G : fG} {x0 : Nat} {l : Launch} {d k n : Nat} {T : fT} {J : fJ} {Q : Option Value → fT → fI → fJ → Prop} {g : Nat → Nat → Int} {m : Nat → Nat} (hJ : JoinAt T) (hL : ListsAt T) (hV : Val6 g m) : ∀ (z : Nat) (c : Nat → Nat) (AL : List Int) (I : fI), AL.length + z = 1201 → SixIs T I g m → Gat g m c AL → (∀ q, q < 6 → (I 174 q).toInt = c q) → RowL T I 166 1200 AL → (∀ q, q < AL.length → (I 168 q).toInt = mk6 g m (AL.getD q 0) 6) → (hq : ∀ (I' : fI) (AL' : List Int), fr I I' [166, 167, 168, 174] → AllOf g m AL' → RowL T I' 166 1200 AL' → (∀ q, q < AL'.length → (I' 168 q).toInt = mk6 g m (AL'.getD q 0) 6) → Q none T I' J) →
    PW G x0 l mX6_gatherAll (d + 2) (ZM G x0 Q) k n 18 [(0, .ref (x0 + 162)), (1, .ref (x0 + 1)), (2, .int (zI AL.length))] [] T I J := by
  obtain ⟨j1, j2, j3, j4, j5, j6, j7, j8, j9, j10, j11, j12, j13, j14, j15, j16, j17, j18, j19, j20, j21⟩ := id hJ
  obtain ⟨l1, l2, l3, l4⟩ := id hL
  have e1 : (1 : Nat) < T.1 := by omega
  have e162 : (162 : Nat) < T.1 := by omega
  have e174 : (174 : Nat) < T.1 := by omega
  have e166 : (166 : Nat) < T.1 := by omega
  have e168 : (168 : Nat) < T.1 := by omega
  have k166 : T.2.1 166 = 9 := j13.2.2.1
  have full : ∀ (c : Nat → Nat) (AL : List Int), Gat g m c AL → 1200 ≤ AL.length → ∀ i, i < 6 → c i = m i := by
    intro c AL h hlen
    have h4 := h.2.2.2
    have hc : ∀ i, i < 6 → c i ≤ m i ∧ m i ≤ 200 := fun i hi => ⟨(h.2.2.1 i hi).1, (hV i hi).1⟩
    have m0 := hc 0 (by omega)
    have m1 := hc 1 (by omega)
    have m2 := hc 2 (by omega)
    have m3 := hc 3 (by omega)
    have m4 := hc 4 (by omega)
    have m5 := hc 5 (by omega)
    intro i hi
    rcases (show i = 0 ∨ i = 1 ∨ i = 2 ∨ i = 3 ∨ i = 4 ∨ i = 5 by omega) with e | e | e | e | e | e <;> subst e <;> omega
  intro z
  induction z with
  | zero =>
    intro c AL I hz h6 hg hc hR hs hq
    have := hR.2.1
    omega
  | succ z ih =>
    intro c AL I hz h6 hg hc hR hs hq
    have hlen := hR.2.1
    have hc2 : ∀ i, i < 6 → (I 174 i).toInt = c i ∧ c i ≤ m i := fun i hi => ⟨hc i hi, (hg.2.2.1 i hi).1⟩
    have hlb := lst_bd (c := c) hV 6 (by omega)
    have hnl : (zI AL.length).toNatClampNeg = AL.length := by rw [zI_n (by omega) (by omega)]; simp
    refine s_iload_n (i := 2) dX6_gatherAll_18 rfl rfl ?_
    refine s_aload_n (i := 0) dX6_gatherAll_19 rfl rfl ?_
    refine s_getR dX6_gatherAll_20 fl_X6_30 (by assumption) (by assumption) (by assumption) ?_
    refine s_alen dX6_gatherAll_23 (by assumption) (by omega) (rfl) ?_
    refine s_topi (y := zI 1200) (by rw [j17]; rfl) ?_
    refine s_icmp_ge (tgt := 68) dX6_gatherAll_24 (by decide) (fun c24 => ?_) (fun c24 => ?_)
    · refine s_ret dX6_gatherAll_68 rfl ?_
      first
      | (rw [zI_le (by omega) (by omega) (by omega) (by omega)] at c24
         exact hq I AL (fr_refl I _) (hg.done hV (full c AL hg (by omega))) hR hs)
      | (have c36 : ¬ zI (lst g m c 6) ≤ zI 999999 := c36
         rw [zI_le (by omega) (by omega) (by omega) (by omega)] at c36
         refine hq I AL (fr_refl I _) (hg.done hV (fun i hi => ?_)) hR hs
         rcases Nat.lt_or_ge (c i) (m i) with h | h
         · have h1 := (lst_min (c := c) hV 6 (Nat.le_refl 6)).1 i hi h
           have h2 := (hV i hi).2.2 (c i) h
           omega
         · exact Nat.le_antisymm (hg.2.2.1 i hi).1 h)
    · rw [zI_le (by omega) (by omega) (by omega) (by omega)] at c24
      refine s_aload_n (i := 0) dX6_gatherAll_27 rfl rfl ?_
      refine s_aload_n (i := 1) dX6_gatherAll_28 rfl rfl ?_
      refine s_cV_R (My := mX6_leastAtCursors) dX6_gatherAll_29 wM_X6_88 cb_yX6_leastAtCursors ci_yX6_leastAtCursors (by assumption) (by assumption) (Nat.le_of_ble_eq_true rfl) (by decide) (s_d (by omega) (c_least (d := 0) hJ hL h6 hV hc2 ?_))
      refine s_istore_n (i := 3) dX6_gatherAll_32 rfl (by decide) (by simp only [sl, sl2, rm, Value.category, reduceIte, Nat.reduceAdd, Nat.reduceEqDiff, reduceCtorEq]; rfl) ?_
      refine s_iload_n (i := 3) dX6_gatherAll_33 rfl rfl ?_
      refine s_ldc dX6_gatherAll_34 wK_X6_92 ?_
      refine s_icmp_le (tgt := 42) dX6_gatherAll_36 (by decide) (fun c36 => ?_) (fun c36 => ?_)
      · have c36 : zI (lst g m c 6) ≤ zI 999999 := c36
        rw [zI_le (by omega) (by omega) (by omega) (by omega)] at c36
        have hst := hg.step hV rfl c36
        refine s_aload_n (i := 0) dX6_gatherAll_42 rfl rfl ?_
        refine s_getR dX6_gatherAll_43 fl_X6_27 (by assumption) (by assumption) (by assumption) ?_
        refine s_iload_n (i := 3) dX6_gatherAll_46 rfl rfl ?_
        refine s_cV_I (My := mX9_append) dX6_gatherAll_47 wM_X6_79 cb_yX9_append ci_yX9_append (by assumption) (by assumption) (Nat.le_of_ble_eq_true rfl) (by decide) (c_append hR (by omega) (fun I1 hf1 hR1 => ?_))
        have h61 := h6.fr (sixS_fr hf1 (by simp))
        have hc1 : ∀ i, i < 6 → (I1 174 i).toInt = c i ∧ c i ≤ m i := fun i hi => ⟨by rw [hf1 174 (by simp)]; exact hc i hi, (hg.2.2.1 i hi).1⟩
        refine s_aload_n (i := 0) dX6_gatherAll_50 rfl rfl ?_
        refine s_getR dX6_gatherAll_51 fl_X6_30 (by assumption) (by assumption) (by assumption) ?_
        refine s_iload_n (i := 2) dX6_gatherAll_54 rfl rfl ?_
        refine s_aload_n (i := 0) dX6_gatherAll_55 rfl rfl ?_
        refine s_aload_n (i := 1) dX6_gatherAll_56 rfl rfl ?_
        refine s_iload_n (i := 3) dX6_gatherAll_57 rfl rfl ?_
        refine s_cV_RI (My := mX6_passCursors) dX6_gatherAll_58 wM_X6_93 cb_yX6_passCursors ci_yX6_passCursors (by assumption) (by assumption) (Nat.le_of_ble_eq_true rfl) (by decide) (s_d (by omega) (c_pass (d := 0) hJ hL hV (by omega) h61 hc1 (fun I2 hf2 hcp => ?_)))
        refine s_iast dX6_gatherAll_61 (by assumption) (by assumption) (by rw [j17]; exact z_in (by omega) (by omega) (by omega)) ?_
        refine s_iinc dX6_gatherAll_62 rfl (zI_inc _) (by decide) (by simp only [sl, sl2, rm, Value.category, reduceIte, Nat.reduceAdd, Nat.reduceEqDiff, reduceCtorEq]; rfl) ?_
        refine s_goto (tgt := 18) dX6_gatherAll_65 (by decide) ?_
        rw [zI_t (by omega) (by omega)] at hR1
        have hR2 := RowL.snoc hR1
        have hll : (AL ++ [lst g m c 6]).length = AL.length + 1 := by simp
        rw [hnl]
        refine s_lv (lv' := [(0, .ref (x0 + 162)), (1, .ref (x0 + 1)), (2, .int (zI ((AL ++ [lst g m c 6]).length : Int)))]) ⟨rfl, rfl, by rw [hll]; rfl, trivial⟩ ?_
        refine ih (pcu g m c (lst g m c 6) 6) (AL ++ [lst g m c 6]) _ (by rw [hll]; omega) ((h61.fr (sixS_fr hf2 (by simp))).fr (sixS_fr (fr_iu (S := [168]) (by simp)) (by simp))) hst.1 (fun q hq => by rw [iu_b (by omega)]; exact hcp q hq) (RowL.fr hR2 ((iu_ne (by omega)).trans (hf2 166 (by simp))) ((iu_ne (by omega)).trans (hf2 167 (by simp)))) (fun q hq => ?_) (fun I' AL' hf h1 h2 h3 => hq I' AL' (fr_trans (fr_trans (fr_trans (fr_sub hf1 (fun b hb => by simp at hb ⊢; omega)) (fr_sub hf2 (fun b hb => by simp at hb ⊢; omega))) (fr_iu (by simp))) hf) h1 h2 h3)
        by_cases hql : q = AL.length
        · subst hql
          rw [iu_at, getD_snoc_eq, hst.2]
          have := pmk_lt g m c (lst g m c 6) 6
          rw [hst.2] at this
          exact zI_t (by omega) (by omega)
        · have hq2 : q < AL.length := by rw [hll] at hq; omega
          rw [iu_j hql, getD_snoc_lt hq2, hf2 168 (by simp), hf1 168 (by simp)]
          exact hs q hq2
      · refine s_goto (tgt := 68) dX6_gatherAll_39 (by decide) ?_
        refine s_ret dX6_gatherAll_68 rfl ?_
        first
        | (rw [zI_le (by omega) (by omega) (by omega) (by omega)] at c24
           exact hq I AL (fr_refl I _) (hg.done hV (full c AL hg (by omega))) hR hs)
        | (have c36 : ¬ zI (lst g m c 6) ≤ zI 999999 := c36
           rw [zI_le (by omega) (by omega) (by omega) (by omega)] at c36
           refine hq I AL (fr_refl I _) (hg.done hV (fun i hi => ?_)) hR hs
           rcases Nat.lt_or_ge (c i) (m i) with h | h
           · have h1 := (lst_min (c := c) hV 6 (Nat.le_refl 6)).1 i hi h
             have h2 := (hV i hi).2.2 (c i) h
             omega
           · exact Nat.le_antisymm (hg.2.2.1 i hi).1 h)
set_option maxRecDepth 100000 in
set_option maxHeartbeats 4000000 in
theorem c_gather {G : fG} {x0 : Nat} {l : Launch} {d k n : Nat} {T : fT} {I : fI} {J : fJ} {Q : Option Value → fT → fI → fJ → Prop} {g : Nat → Nat → Int} {m : Nat → Nat} (hJ : JoinAt T) (hL : ListsAt T) (hV : Val6 g m) (h6 : SixIs T I g m) (hq : ∀ (I' : fI) (AL' : List Int), fr I I' [166, 167, 168, 174] → AllOf g m AL' → RowL T I' 166 1200 AL' → (∀ q, q < AL'.length → (I' 168 q).toInt = mk6 g m (AL'.getD q 0) 6) → Q none T I' J) :
    PW G x0 l mX6_gatherAll (d + 2) (ZM G x0 Q) k n 0 [(0, .ref (x0 + 162)), (1, .ref (x0 + 1))] [] T I J := by
  obtain ⟨j1, j2, j3, j4, j5, j6, j7, j8, j9, j10, j11, j12, j13, j14, j15, j16, j17, j18, j19, j20, j21⟩ := id hJ
  obtain ⟨l1, l2, l3, l4⟩ := id hL
  have e1 : (1 : Nat) < T.1 := by omega
  have e162 : (162 : Nat) < T.1 := by omega
  have e174 : (174 : Nat) < T.1 := by omega
  have e166 : (166 : Nat) < T.1 := by omega
  have e168 : (168 : Nat) < T.1 := by omega
  have k166 : T.2.1 166 = 9 := j13.2.2.1
  refine s_aload_n (i := 0) dX6_gatherAll_0 rfl rfl ?_
  refine s_getR dX6_gatherAll_1 fl_X6_44 (by assumption) (by assumption) (by assumption) ?_
  refine s_iconst (v := 0) dX6_gatherAll_4 (by decide) ?_
  refine s_cS_RI (My := mJ7_fill_53178) dX6_gatherAll_5 wM_X6_82 cb_yJ7_fill_53178 wT_yJ7_fill_53178 (Nat.le_of_ble_eq_true rfl) (by decide) (s_d (by omega) (c_fill (d := 0) (N := 6) (by assumption) (by assumption) (by assumption) (by omega) (fun I1 hf1 hz1 => ?_)))
  refine s_aload_n (i := 0) dX6_gatherAll_8 rfl rfl ?_
  refine s_getR dX6_gatherAll_9 fl_X6_27 (by assumption) (by assumption) (by assumption) ?_
  refine s_iconst (v := 0) dX6_gatherAll_12 (by decide) ?_
  refine s_putI dX6_gatherAll_13 fp_X6_55 (by assumption) (by assumption) ?_
  refine s_iconst (v := 0) dX6_gatherAll_16 (by decide) ?_
  refine s_istore_n (i := 2) dX6_gatherAll_17 rfl (by decide) (by simp only [sl, sl2, rm, Value.category, reduceIte, Nat.reduceAdd, Nat.reduceEqDiff, reduceCtorEq]; rfl) ?_
  refine l_gather hJ hL hV 1201 (fun _ => 0) [] _ (by simp) ((h6.fr (sixS_fr hf1 (by simp))).fr (sixS_fr (fr_iu (S := [166]) (by simp)) (by simp))) ⟨List.Pairwise.nil, fun v hv => absurd hv List.not_mem_nil, fun i hi => ⟨Nat.zero_le _, fun q hq => absurd hq (Nat.not_lt_zero q), fun q _ _ a ha => absurd ha List.not_mem_nil⟩, by simp⟩ (fun q hq => by rw [iu_b (by omega), hz1 q hq]; rfl) ⟨j13, by simp, by rw [iu_at]; rfl, fun q hq => absurd hq (Nat.not_lt_zero q)⟩ (fun q hq => absurd hq (Nat.not_lt_zero q)) (fun I' AL' hf h1 h2 h3 => hq I' AL' (fr_trans (fr_trans (fr_sub hf1 (fun b hb => by simp at hb ⊢; omega)) (fr_iu (by simp))) hf) h1 h2 h3)
