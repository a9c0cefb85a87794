theorem FA.ex {g : Nat → Int} {v : Int} : ∀ m, Sorted g m → ∃ p, FA g m v p := by
  intro m
  induction m with
  | zero => intro _; exact ⟨0, Nat.le_refl 0, fun k h => absurd h (Nat.not_lt_zero k), fun k _ h => absurd h (Nat.not_lt_zero k)⟩
  | succ m ih =>
    intro hs
    obtain ⟨p, h1, h2, h3⟩ := ih (fun a b hab hb => hs a b hab (by omega))
    rcases Nat.lt_or_ge p m with c | c
    · refine ⟨p, by omega, h2, fun k hk1 hk2 => ?_⟩
      rcases Nat.lt_or_ge k m with e | e
      · exact h3 k hk1 e
      · have := h3 p (Nat.le_refl p) c
        have := hs p k (by omega) hk2
        omega
    · have hp : p = m := by omega
      subst hp
      by_cases e : g p < v
      · refine ⟨p + 1, Nat.le_refl _, fun k hk => ?_, fun k h4 h5 => absurd h5 (by omega)⟩
        rcases Nat.lt_or_ge k p with e2 | e2
        · exact h2 k e2
        · rw [show k = p by omega]; exact e
      · refine ⟨p, by omega, h2, fun k h4 h5 => ?_⟩
        rw [show k = p by omega]
        omega
set_option maxRecDepth 100000 in
set_option maxHeartbeats 1000000 in
theorem ml_placeV {G : fG} {x0 : Nat} {l : Launch} {d k n : Nat} {T : fT} {I : fI} {J : fJ} {Q : Option Value → fT → fI → fJ → Prop} {li : Nat} {L : LSt} (hM : MObj T) (hli : li < 6) (hL : LOk L) (hm : ML (I 145) (402 * li) L) {y : Int32} {p : Nat} (hF : FA L.1 L.2.1 y.toInt p) (hq : Q (some (.int (zI p))) T I J) : ∀ (t i : Nat), i + t = p → PW G x0 l mX12_place (d + 1) (ZM G x0 Q) k n 2 [(0, .ref (x0 + 144)), (1, .int (zI li)), (2, .int y), (3, .int (zI i))] [] T I J := by
  obtain ⟨o1, o2⟩ := hM.o
  have hmm := hL.1
  obtain ⟨f1, f2, f3⟩ := hF
  intro t
  induction t with
  | zero =>
    intro i ht
    have hi : i = p := by omega
    subst hi
    refine s_iload_n (i := 3) dX12_place_2 rfl rfl ?_
    refine s_aload_n (i := 0) dX12_place_3 rfl rfl ?_
    refine s_iload_n (i := 1) dX12_place_4 rfl rfl ?_
    refine s_cV_I (My := mX12_many) dX12_place_5 wM_X12_131 cb_yX12_many ci_yX12_many (by assumption) (by assumption) (Nat.le_of_ble_eq_true rfl) (by decide) (s_d (by omega) (m_many (d := 0) hM hli ?_))
    rw [hm.1]
    refine s_icmp_ge (tgt := 27) dX12_place_8 (by decide) (fun c8 => ?_) (fun c8 => ?_)
    · refine s_iload_n (i := 3) dX12_place_27 rfl rfl ?_
      refine s_iret dX12_place_28 rfl ?_
      exact hq
    · rw [zI_le (by omega) (by omega) (by omega) (by omega)] at c8
      refine s_aload_n (i := 0) dX12_place_11 rfl rfl ?_
      refine s_iload_n (i := 1) dX12_place_12 rfl rfl ?_
      refine s_iload_n (i := 3) dX12_place_13 rfl rfl ?_
      refine s_cV_II (My := mX12_number) dX12_place_14 wM_X12_103 cb_yX12_number ci_yX12_number (by assumption) (by assumption) (Nat.le_of_ble_eq_true rfl) (by decide) (s_d (by omega) (m_number (d := 0) hM hli (by omega) ?_))
      rw [hm.2.1 i (by omega)]
      refine s_iload_n (i := 2) dX12_place_17 rfl rfl ?_
      refine s_icmp_ge (tgt := 27) dX12_place_18 (by decide) (fun c18 => ?_) (fun c18 => ?_)
      · refine s_iload_n (i := 3) dX12_place_27 rfl rfl ?_
        refine s_iret dX12_place_28 rfl ?_
        exact hq
      · refine s_iinc dX12_place_21 rfl (zI_inc _) (by decide) (by simp only [sl, sl2, rm, Value.category, reduceIte, Nat.reduceAdd, Nat.reduceEqDiff, reduceCtorEq]; rfl) ?_
        refine s_goto (tgt := 2) dX12_place_24 (by decide) ?_
        exfalso
        have h1 := hL.2.2.1 i (by omega)
        rw [t_le', zI_t (by omega) (by omega)] at c18
        have := f3 i (Nat.le_refl i) (by omega)
        omega
  | succ t ih =>
    intro i ht
    have h1 := hL.2.2.1 i (by omega)
    have h2 := f2 i (by omega)
    refine s_iload_n (i := 3) dX12_place_2 rfl rfl ?_
    refine s_aload_n (i := 0) dX12_place_3 rfl rfl ?_
    refine s_iload_n (i := 1) dX12_place_4 rfl rfl ?_
    refine s_cV_I (My := mX12_many) dX12_place_5 wM_X12_131 cb_yX12_many ci_yX12_many (by assumption) (by assumption) (Nat.le_of_ble_eq_true rfl) (by decide) (s_d (by omega) (m_many (d := 0) hM hli ?_))
    rw [hm.1]
    refine s_icmp_ge (tgt := 27) dX12_place_8 (by decide) (fun h8 => absurd h8 (fun h => by rw [zI_le (by omega) (by omega) (by omega) (by omega)] at h; omega)) (fun h8 => ?_)
    refine s_aload_n (i := 0) dX12_place_11 rfl rfl ?_
    refine s_iload_n (i := 1) dX12_place_12 rfl rfl ?_
    refine s_iload_n (i := 3) dX12_place_13 rfl rfl ?_
    refine s_cV_II (My := mX12_number) dX12_place_14 wM_X12_103 cb_yX12_number ci_yX12_number (by assumption) (by assumption) (Nat.le_of_ble_eq_true rfl) (by decide) (s_d (by omega) (m_number (d := 0) hM hli (by omega) ?_))
    rw [hm.2.1 i (by omega)]
    refine s_iload_n (i := 2) dX12_place_17 rfl rfl ?_
    refine s_icmp_ge (tgt := 27) dX12_place_18 (by decide) (fun h18 => absurd h18 (fun h => by rw [t_le', zI_t (by omega) (by omega)] at h; omega)) (fun h18 => ?_)
    refine s_iinc dX12_place_21 rfl (zI_inc _) (by decide) (by simp only [sl, sl2, rm, Value.category, reduceIte, Nat.reduceAdd, Nat.reduceEqDiff, reduceCtorEq]; rfl) ?_
    refine s_goto (tgt := 2) dX12_place_24 (by decide) ?_
    exact ih (i + 1) (by omega)
set_option maxRecDepth 100000 in
set_option maxHeartbeats 1000000 in
theorem m_placeV {G : fG} {x0 : Nat} {l : Launch} {d k n : Nat} {T : fT} {I : fI} {J : fJ} {Q : Option Value → fT → fI → fJ → Prop} {li : Nat} {L : LSt} (hM : MObj T) (hli : li < 6) (hL : LOk L) (hm : ML (I 145) (402 * li) L) {y : Int32} {p : Nat} (hF : FA L.1 L.2.1 y.toInt p) (hq : Q (some (.int (zI p))) T I J) : PW G x0 l mX12_place (d + 1) (ZM G x0 Q) k n 0 [(0, .ref (x0 + 144)), (1, .int (zI li)), (2, .int y)] [] T I J := by
  refine s_iconst (v := 0) dX12_place_0 (by decide) ?_
  refine s_istore_n (i := 3) dX12_place_1 rfl (by decide) (by simp only [sl, sl2, rm, Value.category, reduceIte, Nat.reduceAdd, Nat.reduceEqDiff, reduceCtorEq]; rfl) ?_
  exact ml_placeV hM hli hL hm hF hq p 0 (by omega)
set_option maxRecDepth 100000 in
set_option maxHeartbeats 1000000 in
theorem m_has {G : fG} {x0 : Nat} {l : Launch} {d k n : Nat} {T : fT} {I : fI} {J : fJ} {Q : Option Value → fT → fI → fJ → Prop} {li : Nat} {L : LSt} (hM : MObj T) (hli : li < 6) (hL : LOk L) (hm : ML (I 145) (402 * li) L) {y : Int32} (hy : (∃ q, q < L.2.1 ∧ L.1 q = y.toInt) → Q (some (.int 1)) T I J) (hn : (∀ q, q < L.2.1 → L.1 q ≠ y.toInt) → Q (some (.int 0)) T I J) : PW G x0 l mX12_has (d + 2) (ZM G x0 Q) k n 0 [(0, .ref (x0 + 144)), (1, .int (zI li)), (2, .int y)] [] T I J := by
  obtain ⟨o1, o2⟩ := hM.o
  have hmm := hL.1
  obtain ⟨p, hF⟩ := FA.ex (v := y.toInt) L.2.1 hL.2.1
  obtain ⟨f1, f2, f3⟩ := id hF
  refine s_aload_n (i := 0) dX12_has_0 rfl rfl ?_
  refine s_iload_n (i := 1) dX12_has_1 rfl rfl ?_
  refine s_iload_n (i := 2) dX12_has_2 rfl rfl ?_
  refine s_cV_II (My := mX12_place) dX12_has_3 wM_X12_144 cb_yX12_place ci_yX12_place (by assumption) (by assumption) (Nat.le_of_ble_eq_true rfl) (by decide) (s_d (by omega) (m_placeV (d := 0) hM hli hL hm hF ?_))
  refine s_istore_n (i := 3) dX12_has_6 rfl (by decide) (by simp only [sl, sl2, rm, Value.category, reduceIte, Nat.reduceAdd, Nat.reduceEqDiff, reduceCtorEq]; rfl) ?_
  refine s_iload_n (i := 3) dX12_has_7 rfl rfl ?_
  refine s_aload_n (i := 0) dX12_has_8 rfl rfl ?_
  refine s_iload_n (i := 1) dX12_has_9 rfl rfl ?_
  refine s_cV_I (My := mX12_many) dX12_has_10 wM_X12_131 cb_yX12_many ci_yX12_many (by assumption) (by assumption) (Nat.le_of_ble_eq_true rfl) (by decide) (s_d (by omega) (m_many (d := 0) hM hli ?_))
  rw [hm.1]
  refine s_icmp_ge (tgt := 30) dX12_has_13 (by decide) (fun c13 => ?_) (fun c13 => ?_)
  · refine s_iconst (v := 0) dX12_has_30 (by decide) ?_
    refine s_zret dX12_has_31 rfl (by first | exact Or.inl rfl | exact Or.inr rfl) ?_
    first
    | (have hpm : ¬ L.2.1 ≤ p := by omega
       have h1 := hL.2.2.1 p (by omega)
       rw [t_eq', zI_t (by omega) (by omega)] at c23
       first
       | exact hy ⟨p, by omega, c23⟩
       | exact hn (fun q hq e => by
           rcases Nat.lt_trichotomy q p with h | h | h
           · have := f2 q h; omega
           · rw [h] at e; exact c23 e
           · have := f3 p (Nat.le_refl p) (by omega)
             have := hL.2.1 p q h hq
             omega))
    | (rw [zI_le (by omega) (by omega) (by omega) (by omega)] at c13
       exact hn (fun q hq e => by have := f2 q (by omega); omega))
  · rw [zI_le (by omega) (by omega) (by omega) (by omega)] at c13
    refine s_aload_n (i := 0) dX12_has_16 rfl rfl ?_
    refine s_iload_n (i := 1) dX12_has_17 rfl rfl ?_
    refine s_iload_n (i := 3) dX12_has_18 rfl rfl ?_
    refine s_cV_II (My := mX12_number) dX12_has_19 wM_X12_103 cb_yX12_number ci_yX12_number (by assumption) (by assumption) (Nat.le_of_ble_eq_true rfl) (by decide) (s_d (by omega) (m_number (d := 0) hM hli (by omega) ?_))
    rw [hm.2.1 p (by omega)]
    refine s_iload_n (i := 2) dX12_has_22 rfl rfl ?_
    refine s_icmp_ne (tgt := 30) dX12_has_23 (by decide) (fun c23 => ?_) (fun c23 => ?_)
    · refine s_iconst (v := 0) dX12_has_30 (by decide) ?_
      refine s_zret dX12_has_31 rfl (by first | exact Or.inl rfl | exact Or.inr rfl) ?_
      first
      | (have hpm : ¬ L.2.1 ≤ p := by omega
         have h1 := hL.2.2.1 p (by omega)
         rw [t_eq', zI_t (by omega) (by omega)] at c23
         first
         | exact hy ⟨p, by omega, c23⟩
         | exact hn (fun q hq e => by
             rcases Nat.lt_trichotomy q p with h | h | h
             · have := f2 q h; omega
             · rw [h] at e; exact c23 e
             · have := f3 p (Nat.le_refl p) (by omega)
               have := hL.2.1 p q h hq
               omega))
      | (rw [zI_le (by omega) (by omega) (by omega) (by omega)] at c13
         exact hn (fun q hq e => by have := f2 q (by omega); omega))
    · refine s_iconst (v := 1) dX12_has_26 (by decide) ?_
      refine s_goto (tgt := 31) dX12_has_27 (by decide) ?_
      refine s_zret dX12_has_31 rfl (by first | exact Or.inl rfl | exact Or.inr rfl) ?_
      first
      | (have hpm : ¬ L.2.1 ≤ p := by omega
         have h1 := hL.2.2.1 p (by omega)
         rw [t_eq', zI_t (by omega) (by omega)] at c23
         first
         | exact hy ⟨p, by omega, c23⟩
         | exact hn (fun q hq e => by
             rcases Nat.lt_trichotomy q p with h | h | h
             · have := f2 q h; omega
             · rw [h] at e; exact c23 e
             · have := f3 p (Nat.le_refl p) (by omega)
               have := hL.2.1 p q h hq
               omega))
      | (rw [zI_le (by omega) (by omega) (by omega) (by omega)] at c13
         exact hn (fun q hq e => by have := f2 q (by omega); omega))
set_option maxRecDepth 100000 in
set_option maxHeartbeats 1000000 in
theorem ml_last {G : fG} {x0 : Nat} {l : Launch} {d k n : Nat} {T : fT} {I : fI} {J : fJ} {Q : Option Value → fT → fI → fJ → Prop} {li : Nat} {L : LSt} (hM : MObj T) (hli : li < 6) (hL : LOk L) (hm : ML (I 145) (402 * li) L) {y : Int32} {j : Int} (hB : LB L.1 L.2.2.1 L.2.2.2 y.toInt j) (hq : Q (some (.int (zI j))) T I J) : ∀ (t i : Nat), i + t = L.2.2.2 → PW G x0 l mX12_lastBlock (d + 2) (ZM G x0 Q) k n 5 [(0, .ref (x0 + 144)), (1, .int (zI li)), (2, .int y), (3, .int (zI (if (i : Int) ≤ j then (i : Int) - 1 else j))), (4, .int (zI i))] [] T I J := by
  obtain ⟨o1, o2⟩ := hM.o
  have hmm := hL.1
  have hnm := hL.nbm
  obtain ⟨b1, b2, b3, b4⟩ := hB
  intro t
  induction t with
  | zero =>
    intro i ht
    rw [if_neg (by omega)]
    refine s_iload dX12_lastBlock_5 rfl ?_
    refine s_aload_n (i := 0) dX12_lastBlock_7 rfl rfl ?_
    refine s_iload_n (i := 1) dX12_lastBlock_8 rfl rfl ?_
    refine s_cV_I (My := mX12_blocks) dX12_lastBlock_9 wM_X12_77 cb_yX12_blocks ci_yX12_blocks (by assumption) (by assumption) (Nat.le_of_ble_eq_true rfl) (by decide) (s_d (by omega) (m_blocks (d := 0) hM hli ?_))
    rw [hm.2.2.1]
    refine s_icmp_ge (tgt := 44) dX12_lastBlock_12 (by decide) (fun h12 => ?_) (fun h12 => absurd ((zI_le (by omega) (by omega) (by omega) (by omega)).mpr (by omega)) h12)
    refine s_iload_n (i := 3) dX12_lastBlock_44 rfl rfl ?_
    refine s_iret dX12_lastBlock_45 rfl ?_
    exact hq
  | succ t ih =>
    intro i ht
    have hb := hL.blk (j := i) (by omega)
    have h1 := hL.2.2.1 (bf L i) (by omega)
    have e1 : (L.2.2.1 i).toNat = bf L i := rfl
    have h3 := b3 i
    have h4 := fun h => b4 i h (by omega)
    rw [e1] at h3 h4
    have hih := ih (i + 1) (by omega)
    refine s_iload dX12_lastBlock_5 rfl ?_
    refine s_aload_n (i := 0) dX12_lastBlock_7 rfl rfl ?_
    refine s_iload_n (i := 1) dX12_lastBlock_8 rfl rfl ?_
    refine s_cV_I (My := mX12_blocks) dX12_lastBlock_9 wM_X12_77 cb_yX12_blocks ci_yX12_blocks (by assumption) (by assumption) (Nat.le_of_ble_eq_true rfl) (by decide) (s_d (by omega) (m_blocks (d := 0) hM hli ?_))
    rw [hm.2.2.1]
    refine s_icmp_ge (tgt := 44) dX12_lastBlock_12 (by decide) (fun h12 => absurd h12 (fun h => by rw [zI_le (by omega) (by omega) (by omega) (by omega)] at h; omega)) (fun h12 => ?_)
    refine s_aload_n (i := 0) dX12_lastBlock_15 rfl rfl ?_
    refine s_iload_n (i := 1) dX12_lastBlock_16 rfl rfl ?_
    refine s_aload_n (i := 0) dX12_lastBlock_17 rfl rfl ?_
    refine s_iload_n (i := 1) dX12_lastBlock_18 rfl rfl ?_
    refine s_iload dX12_lastBlock_19 rfl ?_
    refine s_cV_II (My := mX12_begin) dX12_lastBlock_21 wM_X12_85 cb_yX12_begin ci_yX12_begin (by assumption) (by assumption) (Nat.le_of_ble_eq_true rfl) (by decide) (s_d (by omega) (m_begin (d := 0) hM hli hL hm (by omega) ?_))
    refine s_cV_II (My := mX12_number) dX12_lastBlock_24 wM_X12_103 cb_yX12_number ci_yX12_number (by assumption) (by assumption) (Nat.le_of_ble_eq_true rfl) (by decide) (s_d (by omega) (m_number (d := 0) hM hli (by omega) ?_))
    rw [hm.2.1 (bf L i) (by omega)]
    refine s_iload_n (i := 2) dX12_lastBlock_27 rfl rfl ?_
    refine s_icmp_gt (tgt := 36) dX12_lastBlock_28 (by decide) (fun c28 => ?_) (fun c28 => ?_)
    · refine s_iload_n (i := 3) dX12_lastBlock_36 rfl rfl ?_
      refine s_istore_n (i := 3) dX12_lastBlock_37 rfl (by decide) (by simp only [sl, sl2, rm, Value.category, reduceIte, Nat.reduceAdd, Nat.reduceEqDiff, reduceCtorEq]; rfl) ?_
      refine s_iinc dX12_lastBlock_38 rfl (zI_inc _) (by decide) (by simp only [sl, sl2, rm, Value.category, reduceIte, Nat.reduceAdd, Nat.reduceEqDiff, reduceCtorEq]; rfl) ?_
      refine s_goto (tgt := 5) dX12_lastBlock_41 (by decide) ?_
      rw [t_lt', zI_t (by omega) (by omega)] at c28
      have hij : ¬ (i : Int) ≤ j := fun h => by have := h3 h; omega
      rw [if_neg (by omega)] at hih
      rw [if_neg hij]
      exact hih
    · refine s_iload dX12_lastBlock_31 rfl ?_
      refine s_goto (tgt := 37) dX12_lastBlock_33 (by decide) ?_
      refine s_istore_n (i := 3) dX12_lastBlock_37 rfl (by decide) (by simp only [sl, sl2, rm, Value.category, reduceIte, Nat.reduceAdd, Nat.reduceEqDiff, reduceCtorEq]; rfl) ?_
      refine s_iinc dX12_lastBlock_38 rfl (zI_inc _) (by decide) (by simp only [sl, sl2, rm, Value.category, reduceIte, Nat.reduceAdd, Nat.reduceEqDiff, reduceCtorEq]; rfl) ?_
      refine s_goto (tgt := 5) dX12_lastBlock_41 (by decide) ?_
      rw [t_lt', zI_t (by omega) (by omega)] at c28
      have hij : (i : Int) ≤ j := by
        rcases Int.lt_or_le j (i : Int) with h | h
        · have := h4 h; omega
        · exact h
      have e2 : (if ((i + 1 : Nat) : Int) ≤ j then ((i + 1 : Nat) : Int) - 1 else j) = (i : Int) := by
        split <;> omega
      rw [e2] at hih
      exact hih
set_option maxRecDepth 100000 in
set_option maxHeartbeats 1000000 in
theorem m_last {G : fG} {x0 : Nat} {l : Launch} {d k n : Nat} {T : fT} {I : fI} {J : fJ} {Q : Option Value → fT → fI → fJ → Prop} {li : Nat} {L : LSt} (hM : MObj T) (hli : li < 6) (hL : LOk L) (hm : ML (I 145) (402 * li) L) {y : Int32} {j : Int} (hB : LB L.1 L.2.2.1 L.2.2.2 y.toInt j) (hq : Q (some (.int (zI j))) T I J) : PW G x0 l mX12_lastBlock (d + 2) (ZM G x0 Q) k n 0 [(0, .ref (x0 + 144)), (1, .int (zI li)), (2, .int y)] [] T I J := by
  have h := ml_last (G := G) (x0 := x0) (l := l) (d := d) (k := k) (n := n) hM hli hL hm hB hq L.2.2.2 0 (by omega)
  have e : (if ((0 : Nat) : Int) ≤ j then ((0 : Nat) : Int) - 1 else j) = -1 := by have := hB.1; split <;> omega
  rw [e] at h
  refine s_iconst (v := -1) dX12_lastBlock_0 (by decide) ?_
  refine s_istore_n (i := 3) dX12_lastBlock_1 rfl (by decide) (by simp only [sl, sl2, rm, Value.category, reduceIte, Nat.reduceAdd, Nat.reduceEqDiff, reduceCtorEq]; rfl) ?_
  refine s_iconst (v := 0) dX12_lastBlock_2 (by decide) ?_
  refine s_istore dX12_lastBlock_3 (by decide) (by simp only [sl, sl2, rm, Value.category, reduceIte, Nat.reduceAdd, Nat.reduceEqDiff, reduceCtorEq]; rfl) ?_
  exact h
theorem rev_erase {α : Type} (C : List α) {p : Nat} (hp : p < C.length) : (C.eraseIdx p).reverse = C.reverse.eraseIdx (C.length - 1 - p) := by
  apply List.ext_getElem?
  intro q
  have hl : (C.eraseIdx p).length = C.length - 1 := List.length_eraseIdx_of_lt hp
  rcases Nat.lt_or_ge q (C.length - 1) with h | h
  · rw [List.getElem?_reverse (by omega), hl, List.getElem?_eraseIdx, List.getElem?_eraseIdx, List.getElem?_reverse (by omega), List.getElem?_reverse (by omega)]
    by_cases e : q < C.length - 1 - p
    · rw [if_pos e, if_neg (by omega)]
      congr 1
      omega
    · rw [if_neg e, if_pos (by omega)]
      congr 1
      omega
  · rw [List.getElem?_eq_none (by rw [List.length_reverse]; omega), List.getElem?_eq_none]
    rw [List.length_eraseIdx_of_lt (by rw [List.length_reverse]; omega), List.length_reverse]
    omega
/-- the cache without its numbers -/
def CaL (I : fI) (R : List (Int × Int)) : Prop := ∀ q e, R[q]? = some e → I 147 q = zI e.1 ∧ I 148 q = zI e.2
set_option maxRecDepth 100000 in
set_option maxHeartbeats 1000000 in
theorem ml_looks2 {G : fG} {x0 : Nat} {l : Launch} {d k n : Nat} {T : fT} {I : fI} {J : fJ} {Q : Option Value → fT → fI → fJ → Prop} {x y : Int32} {lv : List (Nat × Value)} {R : List (Int × Int)} (hM : MObj T) (h1 : I 144 5 = zI R.length) (h2 : R.length ≤ 3) (hR : CaL I R) (hv : lvs lv [(0, .ref (x0 + 144)), (1, .int x), (2, .int y)]) (hq : ∀ I', fr I I' [144, 147, 148] → (∀ j, j ≠ 5 → I' 144 j = I 144 j) → I' 144 5 = zI (R.length + 1) → CaL I' (R ++ [(x.toInt, y.toInt)]) → Q none T I' J) : PW G x0 l mX12_looks (d + 1) (ZM G x0 Q) k n 136 lv [] T I J := by
  obtain ⟨o1, o2⟩ := hM.o
  obtain ⟨r147, b147, k147, n147⟩ := hM.a147
  obtain ⟨r148, b148, k148, n148⟩ := hM.a148
  refine s_lv hv ?_
  refine s_aload_n (i := 0) dX12_looks_136 rfl rfl ?_
  refine s_getR dX12_looks_137 fl_X12_16 (by assumption) (by assumption) (by assumption) ?_
  refine s_aload_n (i := 0) dX12_looks_140 rfl rfl ?_
  refine s_getI dX12_looks_141 fl_X12_91 (by assumption) (by assumption) ?_
  rw [h1]
  refine s_iload_n (i := 1) dX12_looks_144 rfl rfl ?_
  refine s_istn (j := R.length) dX12_looks_145 (by assumption) (by assumption) (by assumption) (by first | with_reducible rfl | ((try simp only [z0, z1, zm1, zm2, zm3, zm4, zl2, zl3, zl4, zl5, zl6, zl7, zl8, zl9, zl10, zl20, zl28, zl31, zl32, zl33, zl48, zl57, zl64, zl100, zl127, zl200, zl201, zl202, zl402, zl1200, zl2412, zl16884, zI_add, zI_sub, zI_mul, zI_inc, zI_dec]) <;> (congr 1 <;> omega))) (by omega) (by decide) ?_
  refine s_aload_n (i := 0) dX12_looks_146 rfl rfl ?_
  refine s_getR dX12_looks_147 fl_X12_19 (by assumption) (by assumption) (by assumption) ?_
  refine s_aload_n (i := 0) dX12_looks_150 rfl rfl ?_
  refine s_getI dX12_looks_151 fl_X12_91 (by assumption) (by assumption) ?_
  rw [iu_ne (by omega), h1]
  refine s_iload_n (i := 2) dX12_looks_154 rfl rfl ?_
  refine s_istn (j := R.length) dX12_looks_155 (by assumption) (by assumption) (by assumption) (by first | with_reducible rfl | ((try simp only [z0, z1, zm1, zm2, zm3, zm4, zl2, zl3, zl4, zl5, zl6, zl7, zl8, zl9, zl10, zl20, zl28, zl31, zl32, zl33, zl48, zl57, zl64, zl100, zl127, zl200, zl201, zl202, zl402, zl1200, zl2412, zl16884, zI_add, zI_sub, zI_mul, zI_inc, zI_dec]) <;> (congr 1 <;> omega))) (by omega) (by decide) ?_
  refine s_aload_n (i := 0) dX12_looks_156 rfl rfl ?_
  refine s_dup dX12_looks_157 rfl ?_
  refine s_getI dX12_looks_158 fl_X12_91 (by assumption) (by assumption) ?_
  rw [iu_ne (by omega), iu_ne (by omega), h1]
  refine s_iconst (v := 1) dX12_looks_161 (by decide) ?_
  refine s_iadd dX12_looks_162 ?_
  refine s_topi (y := zI ((R.length : Int) + 1)) (by first | with_reducible rfl | ((try simp only [z0, z1, zm1, zm2, zm3, zm4, zl2, zl3, zl4, zl5, zl6, zl7, zl8, zl9, zl10, zl20, zl28, zl31, zl32, zl33, zl48, zl57, zl64, zl100, zl127, zl200, zl201, zl202, zl402, zl1200, zl2412, zl16884, zI_add, zI_sub, zI_mul, zI_inc, zI_dec]) <;> (congr 1 <;> omega))) ?_
  refine s_putI dX12_looks_163 fp_X12_91 (by assumption) (by assumption) ?_
  refine s_ret dX12_looks_166 rfl ?_
  refine hq _ ?_ ?_ ?_ ?_
  · intro b hb
    simp at hb
    rw [iu_ne (by omega), iu_ne (by omega), iu_ne (by omega)]
  · intro j hj
    rw [iu_j hj, iu_ne (by omega), iu_ne (by omega)]
  · rw [iu_at]
  · intro q e he
    rcases Nat.lt_or_ge q R.length with c | c
    · rw [List.getElem?_append_left c] at he
      obtain ⟨g1, g2⟩ := hR q e he
      simp only [iu, Nat.reduceEqDiff, reduceIte, eq_self]
      rw [if_neg (by omega), if_neg (by omega)]
      exact ⟨g1, g2⟩
    · have hl := (List.getElem?_eq_some_iff.mp he).1
      rw [List.length_append, List.length_singleton] at hl
      have hq : q = R.length := by omega
      subst hq
      rw [List.getElem?_append_right (Nat.le_refl _), Nat.sub_self] at he
      have he' : (x.toInt, y.toInt) = e := Option.some.inj he
      simp only [iu, Nat.reduceEqDiff, reduceIte, eq_self]
      rw [← he']
      exact ⟨(zI_self x).symm, (zI_self y).symm⟩
set_option maxRecDepth 100000 in
set_option maxHeartbeats 1000000 in
theorem ml_looks1 {G : fG} {x0 : Nat} {l : Launch} {d k n : Nat} {T : fT} {J : fJ} {Q : Option Value → fT → fI → fJ → Prop} {x y e3 : Int32} {R : List (Int × Int)} {p N : Nat} (hM : MObj T) (hN : N ≤ 3) (hR2 : R.length = N) : ∀ (t i : Nat) (I : fI), i + t = N → p ≤ i → I 144 5 = zI N → (∀ q e, R[q]? = some e → (q < i → I 147 q = zI e.1 ∧ I 148 q = zI e.2) ∧ (i ≤ q → I 147 (q + 1) = zI e.1 ∧ I 148 (q + 1) = zI e.2)) → (∀ I', fr I I' [144, 147, 148] → (∀ j, j ≠ 5 → I' 144 j = I 144 j) → I' 144 5 = zI (R.length + 1) → CaL I' (R ++ [(x.toInt, y.toInt)]) → Q none T I' J) → PW G x0 l mX12_looks (d + 1) (ZM G x0 Q) k n 89 [(0, .ref (x0 + 144)), (1, .int x), (2, .int y), (3, .int e3), (4, .int (zI p)), (5, .int (zI i))] [] T I J := by
  obtain ⟨o1, o2⟩ := hM.o
  obtain ⟨r147, b147, k147, n147⟩ := hM.a147
  obtain ⟨r148, b148, k148, n148⟩ := hM.a148
  intro t
  induction t with
  | zero =>
    intro i I ht hp h5 hR hq
    refine s_iload dX12_looks_89 rfl ?_
    refine s_aload_n (i := 0) dX12_looks_91 rfl rfl ?_
    refine s_getI dX12_looks_92 fl_X12_91 (by assumption) (by assumption) ?_
    rw [h5]
    refine s_icmp_ge (tgt := 136) dX12_looks_95 (by decide) (fun h95 => ?_) (fun h95 => absurd ((zI_le (by omega) (by omega) (by omega) (by omega)).mpr (by omega)) h95)
    exact ml_looks2 hM (by rw [h5, hR2]) (by omega) (fun q e he => (hR q e he).1 (by have := (List.getElem?_eq_some_iff.mp he).1; omega)) ⟨rfl, rfl, rfl, trivial⟩ hq
  | succ t ih =>
    intro i I ht hp h5 hR hq
    refine s_iload dX12_looks_89 rfl ?_
    refine s_aload_n (i := 0) dX12_looks_91 rfl rfl ?_
    refine s_getI dX12_looks_92 fl_X12_91 (by assumption) (by assumption) ?_
    rw [h5]
    refine s_icmp_ge (tgt := 136) dX12_looks_95 (by decide) (fun h95 => absurd h95 (fun h => by rw [zI_le (by omega) (by omega) (by omega) (by omega)] at h; omega)) (fun h95 => ?_)
    refine s_aload_n (i := 0) dX12_looks_98 rfl rfl ?_
    refine s_getR dX12_looks_99 fl_X12_16 (by assumption) (by assumption) (by assumption) ?_
    refine s_iload dX12_looks_102 rfl ?_
    refine s_aload_n (i := 0) dX12_looks_104 rfl rfl ?_
    refine s_getR dX12_looks_105 fl_X12_16 (by assumption) (by assumption) (by assumption) ?_
    refine s_iload dX12_looks_108 rfl ?_
    refine s_iconst (v := 1) dX12_looks_110 (by decide) ?_
    refine s_iadd dX12_looks_111 ?_
    refine s_ildn (j := i + 1) dX12_looks_112 (by assumption) (by assumption) (by assumption) (by first | with_reducible rfl | ((try simp only [z0, z1, zm1, zm2, zm3, zm4, zl2, zl3, zl4, zl5, zl6, zl7, zl8, zl9, zl10, zl20, zl28, zl31, zl32, zl33, zl48, zl57, zl64, zl100, zl127, zl200, zl201, zl202, zl402, zl1200, zl2412, zl16884, zI_add, zI_sub, zI_mul, zI_inc, zI_dec]) <;> (congr 1 <;> omega))) (by omega) (by decide) ?_
    refine s_istn (j := i) dX12_looks_113 (by assumption) (by assumption) (by assumption) (by first | with_reducible rfl | ((try simp only [z0, z1, zm1, zm2, zm3, zm4, zl2, zl3, zl4, zl5, zl6, zl7, zl8, zl9, zl10, zl20, zl28, zl31, zl32, zl33, zl48, zl57, zl64, zl100, zl127, zl200, zl201, zl202, zl402, zl1200, zl2412, zl16884, zI_add, zI_sub, zI_mul, zI_inc, zI_dec]) <;> (congr 1 <;> omega))) (by omega) (by decide) ?_
    refine s_aload_n (i := 0) dX12_looks_114 rfl rfl ?_
    refine s_getR dX12_looks_115 fl_X12_19 (by assumption) (by assumption) (by assumption) ?_
    refine s_iload dX12_looks_118 rfl ?_
    refine s_aload_n (i := 0) dX12_looks_120 rfl rfl ?_
    refine s_getR dX12_looks_121 fl_X12_19 (by assumption) (by assumption) (by assumption) ?_
    refine s_iload dX12_looks_124 rfl ?_
    refine s_iconst (v := 1) dX12_looks_126 (by decide) ?_
    refine s_iadd dX12_looks_127 ?_
    refine s_ildn (j := i + 1) dX12_looks_128 (by assumption) (by assumption) (by assumption) (by first | with_reducible rfl | ((try simp only [z0, z1, zm1, zm2, zm3, zm4, zl2, zl3, zl4, zl5, zl6, zl7, zl8, zl9, zl10, zl20, zl28, zl31, zl32, zl33, zl48, zl57, zl64, zl100, zl127, zl200, zl201, zl202, zl402, zl1200, zl2412, zl16884, zI_add, zI_sub, zI_mul, zI_inc, zI_dec]) <;> (congr 1 <;> omega))) (by omega) (by decide) ?_
    refine s_istn (j := i) dX12_looks_129 (by assumption) (by assumption) (by assumption) (by first | with_reducible rfl | ((try simp only [z0, z1, zm1, zm2, zm3, zm4, zl2, zl3, zl4, zl5, zl6, zl7, zl8, zl9, zl10, zl20, zl28, zl31, zl32, zl33, zl48, zl57, zl64, zl100, zl127, zl200, zl201, zl202, zl402, zl1200, zl2412, zl16884, zI_add, zI_sub, zI_mul, zI_inc, zI_dec]) <;> (congr 1 <;> omega))) (by omega) (by decide) ?_
    refine s_iinc dX12_looks_130 rfl (zI_inc _) (by decide) (by simp only [sl, sl2, rm, Value.category, reduceIte, Nat.reduceAdd, Nat.reduceEqDiff, reduceCtorEq]; rfl) ?_
    refine s_goto (tgt := 89) dX12_looks_133 (by decide) ?_
    refine ih (i + 1) _ (by omega) (by omega) (by rw [iu_ne (by omega), iu_ne (by omega)]; exact h5) (fun q e he => ?_) (fun I' hf h1 h2 h3 => hq I' (fun b hb => ?_) (fun j hj => ?_) h2 h3)
    · obtain ⟨g1, g2⟩ := hR q e he
      refine ⟨fun hqi => ?_, fun hqi => ?_⟩
      · by_cases e2 : q = i
        · subst e2
          have g3 := g2 (Nat.le_refl q)
          simp only [iu, Nat.reduceEqDiff, reduceIte, eq_self]
          exact g3
        · simp only [iu, Nat.reduceEqDiff, reduceIte, eq_self]
          rw [if_neg e2, if_neg e2]
          exact g1 (by omega)
      · simp only [iu, Nat.reduceEqDiff, reduceIte, eq_self]
        rw [if_neg (by omega), if_neg (by omega)]
        exact g2 (by omega)
    · rw [hf b hb]
      simp at hb
      rw [iu_ne (by omega), iu_ne (by omega)]
    · rw [h1 j hj, iu_ne (by omega), iu_ne (by omega)]
theorem mis_look {T : fT} {I I' : fI} {S : ASt} (h : MIs T I S) {C' : List (Int × Int) × Nat × Nat} (hf : fr I I' [144, 147, 148]) (hj : ∀ j, j ≠ 5 → j ≠ 6 → j ≠ 7 → I' 144 j = I 144 j) (hC : CacheM I' C') : MIs T I' (setC S C') := by
  obtain ⟨h1, h2, ⟨h3, h4, h5⟩, -, ⟨h11, h12⟩, h13⟩ := h
  refine ⟨h1, by rw [hf 145 (by decide)]; exact h2, ⟨h3, by rw [hj 2 (by omega) (by omega) (by omega)]; exact h4, by rw [hf 146 (by decide)]; exact h5⟩, hC, ⟨by rw [hj 18 (by omega) (by omega) (by omega)]; exact h11, by rw [hf 155 (by decide)]; exact h12⟩, ?_⟩
  show ResM I' S.2.2.2.2
  cases hr : S.2.2.2.2 with
  | none => rw [hr] at h13; exact ⟨by rw [hj 9 (by omega) (by omega) (by omega)]; exact h13.1, by rw [hj 10 (by omega) (by omega) (by omega)]; exact h13.2⟩
  | some r => rw [hr] at h13; exact ⟨by rw [hj 9 (by omega) (by omega) (by omega)]; exact h13.1, by rw [hj 10 (by omega) (by omega) (by omega)]; exact h13.2.1, by rw [hf 149 (by decide)]; exact h13.2.2⟩
