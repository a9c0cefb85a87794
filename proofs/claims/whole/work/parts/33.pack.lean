def PackAt (T : fT) : Prop := 111 ≤ T.1 ∧ T.2.1 44 = 8 ∧ T.2.2.2 44 0 = some 45 ∧ T.2.2.2 44 1 = some 46 ∧ T.2.2.2 44 2 = some 47 ∧ T.2.1 45 = 13 ∧ T.2.2.1 45 = 201 ∧ T.2.1 46 = 13 ∧ T.2.2.1 46 = 201 ∧ T.2.1 47 = 16 ∧ T.2.2.1 47 = 21 ∧ ∀ w, w < 21 → T.2.2.2 47 w = some (48 + 3 * w) ∧ WinAt T (48 + 3 * w)
theorem WinAt.tq {T T' : fT} {v : Nat} (h : WinAt T v) (q : Tq T T') (hv : v ≠ 42 ∧ v ≠ 112) : WinAt T' v := by
  obtain ⟨a1, a2, a3, a4, a5, a6, a7, a8⟩ := h
  obtain ⟨q1, q2, q3, q4⟩ := id q
  exact ⟨by omega, by rw [q2]; exact a2, by rw [q4 _ _ (by omega) (by omega)]; exact a3, by rw [q4 _ _ (by omega) (by omega)]; exact a4, by rw [q2]; exact a5, by rw [q3]; exact a6, by rw [q2]; exact a7, by rw [q3]; exact a8⟩
theorem PackAt.tq {T T' : fT} (h : PackAt T) (q : Tq T T') : PackAt T' := by
  obtain ⟨p1, p2, p3, p4, p5, p6, p7, p8, p9, p10, p11, p12⟩ := h
  obtain ⟨q1, q2, q3, q4⟩ := id q
  have v : ∀ a j, a ≠ 42 → a ≠ 112 → T'.2.2.2 a j = T.2.2.2 a j := fun a j h1 h2 => q4 _ _ (by omega) (by omega)
  exact ⟨by omega, by rw [q2]; exact p2, by rw [v _ _ (by omega) (by omega)]; exact p3, by rw [v _ _ (by omega) (by omega)]; exact p4, by rw [v _ _ (by omega) (by omega)]; exact p5, by rw [q2]; exact p6, by rw [q3]; exact p7, by rw [q2]; exact p8, by rw [q3]; exact p9, by rw [q2]; exact p10, by rw [q3]; exact p11, fun w hw => ⟨by rw [v _ _ (by omega) (by omega)]; exact (p12 w hw).1, (p12 w hw).2.tq q ⟨by omega, by omega⟩⟩⟩
def pkS : List Nat := 45 :: 46 :: (List.range 63).map (fun q => 48 + q)
theorem pkS_in {b : Nat} : b ∈ pkS ↔ (b = 45 ∨ b = 46 ∨ (48 ≤ b ∧ b ≤ 110)) := by
  unfold pkS
  rw [List.mem_cons, List.mem_cons, List.mem_map]
  constructor
  · rintro (h | h | ⟨q, hq, h⟩)
    · exact Or.inl h
    · exact Or.inr (Or.inl h)
    · rw [List.mem_range] at hq; exact Or.inr (Or.inr (by omega))
  · rintro (h | h | h)
    · exact Or.inl h
    · exact Or.inr (Or.inl h)
    · exact Or.inr (Or.inr ⟨b - 48, by rw [List.mem_range]; omega, by omega⟩)
/-- the widths of the windows -/
def PackIs (T : fT) (I : fI) : Prop := PackAt T ∧ ∀ w, w < 21 → (I (48 + 3 * w) 0).toInt = w
theorem PackIs.fr {T : fT} {I I' : fI} (h : PackIs T I) (hf : ∀ w, w < 21 → I' (48 + 3 * w) 0 = I (48 + 3 * w) 0) : PackIs T I' := ⟨h.1, fun w hw => by rw [hf w hw]; exact h.2 w hw⟩
theorem DQ.cong {g : Nat → Int} {m w i : Nat} {R R' : Nat → Int} {D : List (Int × Int)} (h : DQ g m R w i D) (hR : ∀ e, i < e → e ≤ m → R' e = R e) : DQ g m R' w i D := by
  obtain ⟨h1, h2, h3⟩ := h
  have ho : ∀ e, i < e → e ≤ m → own g m R' w e = own g m R w e := fun e a b => by unfold own; rw [hR e a b]
  refine ⟨fun x hx => ?_, h2, fun e a b c => ?_⟩
  · obtain ⟨e, q, a, b, c⟩ := h1 x hx
    exact ⟨e, by rw [q, ho e a c], a, b, c⟩
  · obtain ⟨x, q, y, z⟩ := h3 e a b c
    exact ⟨x, q, y, by rw [ho e a c]; exact z⟩
/-- ranks within bounds -/
def RBd (R : Nat → Int) (m i : Nat) : Prop := ∀ e, i ≤ e → e ≤ m → 0 ≤ R e ∧ R e ≤ 8193 * ((m : Int) - e)
theorem own_bd {g : Nat → Int} {m w i e : Nat} {R : Nat → Int} (hR : RBd R m i) (hm : m ≤ 200) (hw : w ≤ 20) (h1 : i ≤ e) (h2 : e ≤ m) : -3000000 ≤ own g m R w e ∧ own g m R w e ≤ 3000000 := by
  have := hR e h1 h2
  have := Pw_bd g (m := m) (w := w) (i := e - 1) hm hw
  unfold own
  omega
set_option maxRecDepth 100000 in
set_option maxHeartbeats 1000000 in
theorem l_ppass {G : fG} {x0 : Nat} {l : Launch} {d k n : Nat} {T : fT} {J : fJ} {Q : Option Value → fT → fI → fJ → Prop} {g : Nat → Int} {m i W : Nat} {D : Nat → List (Int × Int)} (hPA : PackAt T) (hW : W ≤ 20) (hm : m ≤ 200) (hi : 1 ≤ i) (him : i < m) (hbz : bz g i ≤ 20) : ∀ (z w : Nat) (I : fI), w + z = W + 1 → (∀ q, q ≤ W → q < w → WinIs T I (48 + 3 * q) q (D q) (Pw g m q (i - 1))) → (∀ q, q ≤ W → w ≤ q → WinIs T I (48 + 3 * q) q (D q) (Pw g m q i)) → (hq : ∀ I', (∀ b, (b < 48 ∨ 110 < b) → I' b = I b) → (∀ q, q ≤ W → WinIs T I' (48 + 3 * q) q (D q) (Pw g m q (i - 1))) → (∀ q, q < 21 → I' (48 + 3 * q) 0 = I (48 + 3 * q) 0) → Q none T I' J) →
    PW G x0 l mX8_passGap (d + 1) (ZM G x0 Q) k n 2 [(0, .ref (x0 + 44)), (1, .int (zI (bz g i))), (2, .int (zI W)), (3, .int (zI w))] [] T I J := by
  obtain ⟨p1, p2, p3, p4, p5, p6, p7, p8, p9, p10, p11, p12⟩ := id hPA
  have e44 : (44 : Nat) < T.1 := by omega
  have e45 : (45 : Nat) < T.1 := by omega
  have e46 : (46 : Nat) < T.1 := by omega
  have e47 : (47 : Nat) < T.1 := by omega
  intro z
  induction z with
  | zero =>
    intro w I hz h1 h2 hq
    refine s_iload_n (i := 3) dX8_passGap_2 rfl rfl ?_
    refine s_iload_n (i := 2) dX8_passGap_3 rfl rfl ?_
    refine s_icmp_gt (tgt := 23) dX8_passGap_4 (by decide) (fun h4 => ?_) (fun h4 => absurd (by rw [zI_lt (by omega) (by omega) (by omega) (by omega)]; omega) h4)
    refine s_ret dX8_passGap_23 rfl ?_
    exact hq I (fun _ _ => rfl) (fun q hq => h1 q hq (by omega)) (fun _ _ => rfl)
  | succ z ih =>
    intro w I hz h1 h2 hq
    refine s_iload_n (i := 3) dX8_passGap_2 rfl rfl ?_
    refine s_iload_n (i := 2) dX8_passGap_3 rfl rfl ?_
    refine s_icmp_gt (tgt := 23) dX8_passGap_4 (by decide) (fun h4 => absurd h4 (by rw [zI_lt (by omega) (by omega) (by omega) (by omega)]; omega)) (fun h4 => ?_)
    obtain ⟨u1, u2⟩ := p12 w (by omega)
    obtain ⟨y1, y2, -⟩ := id u2
    have ev : 48 + 3 * w < T.1 := by omega
    have hnw : (zI w).toNatClampNeg = w := by rw [zI_n (by omega) (by omega)]; simp
    have hpb := Pw_bd g (m := m) (w := w) (i := i) hm (by omega)
    refine s_aload_n (i := 0) dX8_passGap_7 rfl rfl ?_
    refine s_getR dX8_passGap_8 fl_X8_20 (by assumption) (by assumption) (by assumption) ?_
    refine s_iload_n (i := 3) dX8_passGap_11 rfl rfl ?_
    refine s_aldW dX8_passGap_12 (by assumption) (by assumption) (by rw [p11]; exact z_in (by omega) (by omega) (by omega)) (by rw [hnw]; exact u1) ?_
    refine s_iload_n (i := 1) dX8_passGap_13 rfl rfl ?_
    refine s_cV_I (My := mX10_passGap) dX8_passGap_14 wM_X8_89 cb_yX10_passGap ci_yX10_passGap (by assumption) (by assumption) (Nat.le_of_ble_eq_true rfl) (by decide) (s_d (by omega) (c_wPass (d := 0) (h2 w (by omega) (Nat.le_refl w)) ⟨hbz, by omega⟩ (by omega) (fun I1 hf1 hW1 => ?_)))
    refine s_iinc dX8_passGap_17 rfl (zI_inc _) (by decide) (by simp only [sl, sl2, rm, Value.category, reduceIte, Nat.reduceAdd, Nat.reduceEqDiff, reduceCtorEq]; rfl) ?_
    refine s_goto (tgt := 2) dX8_passGap_20 (by decide) ?_
    have hst : Pw g m w i + (if w < bz g i then (w : Int) + 28 else w) = Pw g m w (i - 1) := by
      rw [Pw_step g hi him]
      unfold prc
      split <;> omega
    rw [hst] at hW1
    refine ih (w + 1) I1 (by omega) (fun q a b => ?_) (fun q a b => (h2 q a (by omega)).fr (hf1 _ (by simp; omega)) (hf1 _ (by simp; omega)) (hf1 _ (by simp; omega))) (fun I' a b c => hq I' (fun b hb => (a b hb).trans (hf1 b (by simp; omega))) b (fun q hq => ?_))
    · rcases Nat.lt_or_ge q w with h | h
      · exact (h1 q a h).fr (hf1 _ (by simp; omega)) (hf1 _ (by simp; omega)) (hf1 _ (by simp; omega))
      · rw [show q = w by omega]; exact hW1
    · rw [c q hq]
      by_cases h : q = w
      · subst h
        have z1 := hW1.2.1
        have z2 := (h2 q (by omega) (Nat.le_refl q)).2.1
        exact Int32.toInt_inj.mp (by rw [z1, z2])
      · rw [hf1 _ (by simp; omega)]
set_option maxRecDepth 100000 in
set_option maxHeartbeats 1000000 in
theorem c_ppass {G : fG} {x0 : Nat} {l : Launch} {d k n : Nat} {T : fT} {I : fI} {J : fJ} {Q : Option Value → fT → fI → fJ → Prop} {g : Nat → Int} {m i W : Nat} {D : Nat → List (Int × Int)} (hPA : PackAt T) (hW : W ≤ 20) (hm : m ≤ 200) (hi : 1 ≤ i) (him : i < m) (hbz : bz g i ≤ 20) (h2 : ∀ q, q ≤ W → WinIs T I (48 + 3 * q) q (D q) (Pw g m q i)) (hq : ∀ I', (∀ b, (b < 48 ∨ 110 < b) → I' b = I b) → (∀ q, q ≤ W → WinIs T I' (48 + 3 * q) q (D q) (Pw g m q (i - 1))) → (∀ q, q < 21 → I' (48 + 3 * q) 0 = I (48 + 3 * q) 0) → Q none T I' J) :
    PW G x0 l mX8_passGap (d + 1) (ZM G x0 Q) k n 0 [(0, .ref (x0 + 44)), (1, .int (zI (bz g i))), (2, .int (zI W))] [] T I J := by
  refine s_iconst (v := 0) dX8_passGap_0 (by decide) ?_
  refine s_istore_n (i := 3) dX8_passGap_1 rfl (by decide) (by simp only [sl, sl2, rm, Value.category, reduceIte, Nat.reduceAdd, Nat.reduceEqDiff, reduceCtorEq]; rfl) ?_
  exact l_ppass hPA hW hm hi him hbz (W + 1) 0 I (by omega) (fun q _ b => absurd b (Nat.not_lt_zero q)) (fun q a _ => h2 q a) hq
/-- the window of a width after the end i + 1 has come -/
def dnx (g : Nat → Int) (m : Nat) (R : Nat → Int) (i w : Nat) (D : List (Int × Int)) : List (Int × Int) := popb (own g m R w (i + 1)) (expf ((i + 1 : Nat) : Int) D) ++ [(((i + 1 : Nat) : Int), own g m R w (i + 1))]
def hed (g : Nat → Int) (m : Nat) (i w : Nat) (D : List (Int × Int)) : Int × Int := ((D.getD 0 (0, 0)).2 + 256 * (32 + Pw g m w i) + 1, (D.getD 0 (0, 0)).1)
theorem hed_spec {g : Nat → Int} {m i w : Nat} {R : Nat → Int} {D : List (Int × Int)} (hi : i < m) (h : DQ g m R w i D) : ∃ e : Nat, D[0]? = some ((e : Int), own g m R w e) ∧ hed g m i w D = (pvw g R w i e, (e : Int)) ∧ i < e ∧ e ≤ i + 64 ∧ e ≤ m ∧ ∀ e', i < e' → e' ≤ i + 64 → e' ≤ m → pvw g R w i e ≤ pvw g R w i e' ∧ (pvw g R w i e = pvw g R w i e' → e ≤ e') := by
  obtain ⟨e, h0, a, b, c, hv, hm⟩ := h.head hi
  refine ⟨e, h0, ?_, a, b, c, hm⟩
  unfold hed
  rw [List.getD_eq_getElem?_getD, h0]
  dsimp only [Option.getD]
  rw [hv]
theorem pvw_bd {g : Nat → Int} {m i w e : Nat} {R : Nat → Int} (hR : RBd R m (i + 1)) (hm : m ≤ 200) (hw : w ≤ 20) (h1 : i < e) (h2 : e ≤ m) : 0 ≤ pvw g R w i e ∧ pvw g R w i e ≤ 100000000 := by
  have a := hR e (by omega) h2
  have b := csw_bd (g := g) (f := i) (len := e - i) (w := w) (by omega) (by omega) hw
  unfold pvw
  omega
set_option maxRecDepth 100000 in
set_option maxHeartbeats 1000000 in
theorem l_choose {G : fG} {x0 : Nat} {l : Launch} {d k n : Nat} {T : fT} {J : fJ} {Q : Option Value → fT → fI → fJ → Prop} {g : Nat → Int} {m i W : Nat} {R : Nat → Int} {D : Nat → List (Int × Int)} (hPA : PackAt T) (hW : W ≤ 20) (hm : m ≤ 200) (him : i < m) (hR : RBd R m (i + 1)) (hD : ∀ q, q ≤ W → DQ g m R q (i + 1) (D q)) : ∀ (z w : Nat) (I : fI), w + z = W + 1 → (I 45 (i + 1)).toInt = R (i + 1) → (∀ q, q ≤ W → q < w → WinIs T I (48 + 3 * q) q (dnx g m R i q (D q)) (Pw g m q i)) → (∀ q, q ≤ W → w ≤ q → WinIs T I (48 + 3 * q) q (D q) (Pw g m q i)) → (hq : ∀ I', (∀ b, (b < 45 ∨ b = 47 ∨ 110 < b) → I' b = I b) → (∀ q, q ≤ W → WinIs T I' (48 + 3 * q) q (dnx g m R i q (D q)) (Pw g m q i)) → (∀ q, q < 21 → I' (48 + 3 * q) 0 = I (48 + 3 * q) 0) → I' 45 = iu I 45 i (zI (chs i (fun q => hed g m i q (dnx g m R i q (D q))) (W + 1)).1) 45 → I' 46 = iu I 46 i (zI (chs i (fun q => hed g m i q (dnx g m R i q (D q))) (W + 1)).2) 46 → Q none T I' J) →
    PW G x0 l mX8_chooseEnd (d + 2) (ZM G x0 Q) k n 11 [(0, .ref (x0 + 44)), (1, .int (zI i)), (2, .int (zI W)), (3, .int (zI (chs i (fun q => hed g m i q (dnx g m R i q (D q))) w).1)), (4, .int (zI (chs i (fun q => hed g m i q (dnx g m R i q (D q))) w).2)), (5, .int (zI w))] [] T I J := by
  obtain ⟨p1, p2, p3, p4, p5, p6, p7, p8, p9, p10, p11, p12⟩ := id hPA
  have e44 : (44 : Nat) < T.1 := by omega
  have e45 : (45 : Nat) < T.1 := by omega
  have e46 : (46 : Nat) < T.1 := by omega
  have e47 : (47 : Nat) < T.1 := by omega
  have hni : (zI i).toNatClampNeg = i := by rw [zI_n (by omega) (by omega)]; simp
  have hni1 : (zI ((i + 1 : Nat) : Int)).toNatClampNeg = i + 1 := by rw [zI_n (by omega) (by omega)]; omega
  have hh : ∀ q, q ≤ W → ∃ e : Nat, (dnx g m R i q (D q))[0]? = some ((e : Int), own g m R q e) ∧ hed g m i q (dnx g m R i q (D q)) = (pvw g R q i e, (e : Int)) ∧ i < e ∧ e ≤ i + 64 ∧ e ≤ m := fun q hq => by
    obtain ⟨e, a, b, c, dd, f, -⟩ := hed_spec him ((hD q hq).step him)
    exact ⟨e, a, b, c, dd, f⟩
  have hcb : ∀ n, n ≤ W + 1 → 0 ≤ (chs i (fun q => hed g m i q (dnx g m R i q (D q))) n).1 ∧ (chs i (fun q => hed g m i q (dnx g m R i q (D q))) n).1 ≤ 2147483647 ∧ 0 ≤ (chs i (fun q => hed g m i q (dnx g m R i q (D q))) n).2 ∧ (chs i (fun q => hed g m i q (dnx g m R i q (D q))) n).2 ≤ 1000 := by
    intro n
    induction n with
    | zero => intro _; simp only [chs]; omega
    | succ n ih =>
      intro hn
      have := ih (by omega)
      obtain ⟨e, -, b, c, dd, f⟩ := hh n (by omega)
      have hb := pvw_bd (g := g) (w := n) hR hm (by omega) c f
      simp only [chs]
      split
      · rw [b]; dsimp only; omega
      · exact this
  intro z
  induction z with
  | zero =>
    intro w I hz h45 h1 h2 hq
    have hw : w = W + 1 := by omega
    subst hw
    refine s_iload dX8_chooseEnd_11 rfl ?_
    refine s_iload_n (i := 2) dX8_chooseEnd_13 rfl rfl ?_
    refine s_icmp_gt (tgt := 94) dX8_chooseEnd_14 (by decide) (fun h14 => ?_) (fun h14 => absurd (by rw [zI_lt (by omega) (by omega) (by omega) (by omega)]; omega) h14)
    refine s_aload_n (i := 0) dX8_chooseEnd_94 rfl rfl ?_
    refine s_getR dX8_chooseEnd_95 fl_X8_9 (by assumption) (by assumption) (by assumption) ?_
    refine s_iload_n (i := 1) dX8_chooseEnd_98 rfl rfl ?_
    refine s_iload_n (i := 3) dX8_chooseEnd_99 rfl rfl ?_
    refine s_iast dX8_chooseEnd_100 (by assumption) (by assumption) (by rw [p7]; exact z_in (by omega) (by omega) (by omega)) ?_
    refine s_aload_n (i := 0) dX8_chooseEnd_101 rfl rfl ?_
    refine s_getR dX8_chooseEnd_102 fl_X8_15 (by assumption) (by assumption) (by assumption) ?_
    refine s_iload_n (i := 1) dX8_chooseEnd_105 rfl rfl ?_
    refine s_iload dX8_chooseEnd_106 rfl ?_
    refine s_iast dX8_chooseEnd_108 (by assumption) (by assumption) (by rw [p9]; exact z_in (by omega) (by omega) (by omega)) ?_
    refine s_ret dX8_chooseEnd_109 rfl ?_
    rw [hni]
    exact hq _ (fun b hb => by rw [iu_ne (by omega), iu_ne (by omega)]) (fun q hq => (h1 q hq (by omega)).fr (by rw [iu_ne (by omega), iu_ne (by omega)]) (by rw [iu_ne (by omega), iu_ne (by omega)]) (by rw [iu_ne (by omega), iu_ne (by omega)])) (fun q _ => by rw [iu_ne (by omega), iu_ne (by omega)]) (iu_ne (by omega)) (by funext q; simp [iu])
  | succ z ih =>
    intro w I hz h45 h1 h2 hq
    have hcw := hcb w (by omega)
    obtain ⟨e, hd0, hhe, he1, he2, he3⟩ := hh w (by omega)
    have hvb := pvw_bd (g := g) (w := w) hR hm (by omega) he1 he3
    have hRi := hR (i + 1) (Nat.le_refl _) (by omega)
    have hpb := Pw_bd g (m := m) (w := w) (i := i) hm (by omega)
    have hvv : own g m R w e + 256 * (32 + Pw g m w i) + 1 = pvw g R w i e := by
      unfold own pvw
      rw [csw_Pw g w he1 he3]
      omega
    refine s_iload dX8_chooseEnd_11 rfl ?_
    refine s_iload_n (i := 2) dX8_chooseEnd_13 rfl rfl ?_
    refine s_icmp_gt (tgt := 94) dX8_chooseEnd_14 (by decide) (fun h14 => absurd h14 (by rw [zI_lt (by omega) (by omega) (by omega) (by omega)]; omega)) (fun h14 => ?_)
    obtain ⟨u1, u2⟩ := p12 w (by omega)
    obtain ⟨y1, y2, -⟩ := id u2
    have ev : 48 + 3 * w < T.1 := by omega
    have hnw : (zI w).toNatClampNeg = w := by rw [zI_n (by omega) (by omega)]; simp
    refine s_aload_n (i := 0) dX8_chooseEnd_17 rfl rfl ?_
    refine s_getR dX8_chooseEnd_18 fl_X8_20 (by assumption) (by assumption) (by assumption) ?_
    refine s_iload dX8_chooseEnd_21 rfl ?_
    refine s_aldW dX8_chooseEnd_23 (by assumption) (by assumption) (by rw [p11]; exact z_in (by omega) (by omega) (by omega)) (by rw [hnw]; exact u1) ?_
    refine s_iload_n (i := 1) dX8_chooseEnd_24 rfl rfl ?_
    refine s_iconst (v := 1) dX8_chooseEnd_25 (by decide) ?_
    refine s_iadd dX8_chooseEnd_26 ?_
    refine s_topi (y := zI ((i + 1 : Nat) : Int)) (by rw [z1, zI_add]; congr 1) ?_
    refine s_aload_n (i := 0) dX8_chooseEnd_27 rfl rfl ?_
    refine s_getR dX8_chooseEnd_28 fl_X8_9 (by assumption) (by assumption) (by assumption) ?_
    refine s_iload_n (i := 1) dX8_chooseEnd_31 rfl rfl ?_
    refine s_iconst (v := 1) dX8_chooseEnd_32 (by decide) ?_
    refine s_iadd dX8_chooseEnd_33 ?_
    refine s_topi (y := zI ((i + 1 : Nat) : Int)) (by rw [z1, zI_add]; congr 1) ?_
    refine s_iald dX8_chooseEnd_34 (by assumption) (by assumption) (by rw [p7]; exact z_in (by omega) (by omega) (by omega)) ?_
    refine s_topi (y := zI (R (i + 1))) (by rw [hni1]; exact t_zI h45) ?_
    refine s_cV_II (My := mX10_admit) dX8_chooseEnd_35 wM_X8_79 cb_yX10_admit ci_yX10_admit (by assumption) (by assumption) (Nat.le_of_ble_eq_true rfl) (by decide) (s_d (by omega) (c_admit (d := 0) (h2 w (by omega) (Nat.le_refl w)) (by omega) (by omega) (by omega) (fun x hx => by obtain ⟨e, rfl, a, b, c⟩ := (hD w (by omega)).1 x hx; have := own_bd (g := g) (w := w) hR hm (by omega) (by omega) c; dsimp only; omega) (hD w (by omega)).len (fun I1 hf1 hW1 => ?_)))
    have hW1 : WinIs T I1 (48 + 3 * w) w (dnx g m R i w (D w)) (Pw g m w i) := hW1
    refine s_aload_n (i := 0) dX8_chooseEnd_38 rfl rfl ?_
    refine s_getR dX8_chooseEnd_39 fl_X8_20 (by assumption) (by assumption) (by assumption) ?_
    refine s_iload dX8_chooseEnd_42 rfl ?_
    refine s_aldW dX8_chooseEnd_44 (by assumption) (by assumption) (by rw [p11]; exact z_in (by omega) (by omega) (by omega)) (by rw [hnw]; exact u1) ?_
    refine s_cV_ (My := mX10_leastRank) dX8_chooseEnd_45 wM_X8_82 cb_yX10_leastRank ci_yX10_leastRank (by assumption) (by assumption) (Nat.le_of_ble_eq_true rfl) (by decide) (s_d (by omega) (c_wLeast (d := 0) hW1 hd0 ?_))
    rw [hvv]
    refine s_istore dX8_chooseEnd_48 (by decide) (by simp only [sl, sl2, rm, Value.category, reduceIte, Nat.reduceAdd, Nat.reduceEqDiff, reduceCtorEq]; rfl) ?_
    refine s_aload_n (i := 0) dX8_chooseEnd_50 rfl rfl ?_
    refine s_getR dX8_chooseEnd_51 fl_X8_20 (by assumption) (by assumption) (by assumption) ?_
    refine s_iload dX8_chooseEnd_54 rfl ?_
    refine s_aldW dX8_chooseEnd_56 (by assumption) (by assumption) (by rw [p11]; exact z_in (by omega) (by omega) (by omega)) (by rw [hnw]; exact u1) ?_
    refine s_cV_ (My := mX10_endOfLeast) dX8_chooseEnd_57 wM_X8_86 cb_yX10_endOfLeast ci_yX10_endOfLeast (by assumption) (by assumption) (Nat.le_of_ble_eq_true rfl) (by decide) (s_d (by omega) (c_wEnd (d := 0) hW1 hd0 ?_))
    refine s_istore dX8_chooseEnd_60 (by decide) (by simp only [sl, sl2, rm, Value.category, reduceIte, Nat.reduceAdd, Nat.reduceEqDiff, reduceCtorEq]; rfl) ?_
    refine s_iload dX8_chooseEnd_62 rfl ?_
    refine s_iload_n (i := 3) dX8_chooseEnd_64 rfl rfl ?_
    refine s_icmp_lt (tgt := 81) dX8_chooseEnd_65 (by decide) (fun c65 => ?_) (fun c65 => ?_)
    · refine s_iload dX8_chooseEnd_81 rfl ?_
      refine s_istore_n (i := 3) dX8_chooseEnd_83 rfl (by decide) (by simp only [sl, sl2, rm, Value.category, reduceIte, Nat.reduceAdd, Nat.reduceEqDiff, reduceCtorEq]; rfl) ?_
      refine s_iload dX8_chooseEnd_84 rfl ?_
      refine s_istore dX8_chooseEnd_86 (by decide) (by simp only [sl, sl2, rm, Value.category, reduceIte, Nat.reduceAdd, Nat.reduceEqDiff, reduceCtorEq]; rfl) ?_
      refine s_iinc dX8_chooseEnd_88 rfl (zI_inc _) (by decide) (by simp only [sl, sl2, rm, Value.category, reduceIte, Nat.reduceAdd, Nat.reduceEqDiff, reduceCtorEq]; rfl) ?_
      refine s_goto (tgt := 11) dX8_chooseEnd_91 (by decide) ?_
      have hup : ∀ I', (∀ b, (b < 45 ∨ b = 47 ∨ 110 < b) → I' b = I1 b) → (∀ q, q ≤ W → WinIs T I' (48 + 3 * q) q (dnx g m R i q (D q)) (Pw g m q i)) → (∀ q, q < 21 → I' (48 + 3 * q) 0 = I1 (48 + 3 * q) 0) → I' 45 = iu I1 45 i (zI (chs i (fun q => hed g m i q (dnx g m R i q (D q))) (W + 1)).1) 45 → I' 46 = iu I1 46 i (zI (chs i (fun q => hed g m i q (dnx g m R i q (D q))) (W + 1)).2) 46 → Q none T I' J := fun I' a b c dd f => hq I' (fun b hb => (a b hb).trans (hf1 b (by simp; omega))) b (fun q hq => by
        rw [c q hq]
        by_cases h : q = w
        · subst h
          have z1 := hW1.2.1
          have z2 := (h2 q (by omega) (Nat.le_refl q)).2.1
          exact Int32.toInt_inj.mp (by rw [z1, z2])
        · rw [hf1 _ (by simp; omega)]) (by rw [dd]; funext q; simp only [iu, if_true]; rw [hf1 45 (by simp; omega)]) (by rw [f]; funext q; simp only [iu, if_true]; rw [hf1 46 (by simp; omega)])
      have key := ih (w + 1) I1 (by omega) (by rw [hf1 45 (by simp; omega)]; exact h45) (fun q a b => by
        rcases Nat.lt_or_ge q w with h | h
        · exact (h1 q a h).fr (hf1 _ (by simp; omega)) (hf1 _ (by simp; omega)) (hf1 _ (by simp; omega))
        · rw [show q = w by omega]; exact hW1) (fun q a b => (h2 q a (by omega)).fr (hf1 _ (by simp; omega)) (hf1 _ (by simp; omega)) (hf1 _ (by simp; omega))) hup
      simp only [chs] at key
      rw [hhe] at key
      dsimp only at key
      first
      | (have c65' : pvw g R w i e < (chs i (fun q => hed g m i q (dnx g m R i q (D q))) w).1 := by
           rw [zI_lt (by omega) (by omega) (by omega) (by omega)] at c65
           exact c65
         rw [if_pos (Or.inl c65')] at key
         refine s_lv (lv' := [(0, .ref (x0 + 44)), (1, .int (zI i)), (2, .int (zI W)), (3, .int (zI (pvw g R w i e))), (4, .int (zI (e : Int))), (5, .int (zI ((w + 1 : Nat) : Int)))]) ⟨rfl, rfl, rfl, rfl, rfl, rfl, trivial⟩ ?_
         exact key)
      | (rw [zI_lt (by omega) (by omega) (by omega) (by omega)] at c65
         have c71' : pvw g R w i e = (chs i (fun q => hed g m i q (dnx g m R i q (D q))) w).1 := by
           rw [zI_eq (by omega) (by omega) (by omega) (by omega)] at c71
           exact c71
         rw [zI_le (by omega) (by omega) (by omega) (by omega)] at c78
         first
         | (rw [if_pos (Or.inr ⟨c71', by omega⟩)] at key
            refine s_lv (lv' := [(0, .ref (x0 + 44)), (1, .int (zI i)), (2, .int (zI W)), (3, .int (zI (pvw g R w i e))), (4, .int (zI (e : Int))), (5, .int (zI ((w + 1 : Nat) : Int)))]) ⟨rfl, rfl, rfl, rfl, rfl, rfl, trivial⟩ ?_
            exact key)
         | (rw [if_neg (by omega)] at key
            refine s_lv (lv' := [(0, .ref (x0 + 44)), (1, .int (zI i)), (2, .int (zI W)), (3, .int (zI (chs i (fun q => hed g m i q (dnx g m R i q (D q))) w).1)), (4, .int (zI (chs i (fun q => hed g m i q (dnx g m R i q (D q))) w).2)), (5, .int (zI ((w + 1 : Nat) : Int)))]) ⟨rfl, rfl, rfl, rfl, rfl, rfl, trivial⟩ ?_
            exact key))
      | (rw [zI_lt (by omega) (by omega) (by omega) (by omega)] at c65
         rw [zI_eq (by omega) (by omega) (by omega) (by omega)] at c71
         rw [if_neg (by omega)] at key
         refine s_lv (lv' := [(0, .ref (x0 + 44)), (1, .int (zI i)), (2, .int (zI W)), (3, .int (zI (chs i (fun q => hed g m i q (dnx g m R i q (D q))) w).1)), (4, .int (zI (chs i (fun q => hed g m i q (dnx g m R i q (D q))) w).2)), (5, .int (zI ((w + 1 : Nat) : Int)))]) ⟨rfl, rfl, rfl, rfl, rfl, rfl, trivial⟩ ?_
         exact key)
    · refine s_iload dX8_chooseEnd_68 rfl ?_
      refine s_iload_n (i := 3) dX8_chooseEnd_70 rfl rfl ?_
      refine s_icmp_ne (tgt := 88) dX8_chooseEnd_71 (by decide) (fun c71 => ?_) (fun c71 => ?_)
      · refine s_iinc dX8_chooseEnd_88 rfl (zI_inc _) (by decide) (by simp only [sl, sl2, rm, Value.category, reduceIte, Nat.reduceAdd, Nat.reduceEqDiff, reduceCtorEq]; rfl) ?_
        refine s_goto (tgt := 11) dX8_chooseEnd_91 (by decide) ?_
        have hup : ∀ I', (∀ b, (b < 45 ∨ b = 47 ∨ 110 < b) → I' b = I1 b) → (∀ q, q ≤ W → WinIs T I' (48 + 3 * q) q (dnx g m R i q (D q)) (Pw g m q i)) → (∀ q, q < 21 → I' (48 + 3 * q) 0 = I1 (48 + 3 * q) 0) → I' 45 = iu I1 45 i (zI (chs i (fun q => hed g m i q (dnx g m R i q (D q))) (W + 1)).1) 45 → I' 46 = iu I1 46 i (zI (chs i (fun q => hed g m i q (dnx g m R i q (D q))) (W + 1)).2) 46 → Q none T I' J := fun I' a b c dd f => hq I' (fun b hb => (a b hb).trans (hf1 b (by simp; omega))) b (fun q hq => by
          rw [c q hq]
          by_cases h : q = w
          · subst h
            have z1 := hW1.2.1
            have z2 := (h2 q (by omega) (Nat.le_refl q)).2.1
            exact Int32.toInt_inj.mp (by rw [z1, z2])
          · rw [hf1 _ (by simp; omega)]) (by rw [dd]; funext q; simp only [iu, if_true]; rw [hf1 45 (by simp; omega)]) (by rw [f]; funext q; simp only [iu, if_true]; rw [hf1 46 (by simp; omega)])
        have key := ih (w + 1) I1 (by omega) (by rw [hf1 45 (by simp; omega)]; exact h45) (fun q a b => by
          rcases Nat.lt_or_ge q w with h | h
          · exact (h1 q a h).fr (hf1 _ (by simp; omega)) (hf1 _ (by simp; omega)) (hf1 _ (by simp; omega))
          · rw [show q = w by omega]; exact hW1) (fun q a b => (h2 q a (by omega)).fr (hf1 _ (by simp; omega)) (hf1 _ (by simp; omega)) (hf1 _ (by simp; omega))) hup
        simp only [chs] at key
        rw [hhe] at key
        dsimp only at key
        first
        | (have c65' : pvw g R w i e < (chs i (fun q => hed g m i q (dnx g m R i q (D q))) w).1 := by
             rw [zI_lt (by omega) (by omega) (by omega) (by omega)] at c65
             exact c65
           rw [if_pos (Or.inl c65')] at key
           refine s_lv (lv' := [(0, .ref (x0 + 44)), (1, .int (zI i)), (2, .int (zI W)), (3, .int (zI (pvw g R w i e))), (4, .int (zI (e : Int))), (5, .int (zI ((w + 1 : Nat) : Int)))]) ⟨rfl, rfl, rfl, rfl, rfl, rfl, trivial⟩ ?_
           exact key)
        | (rw [zI_lt (by omega) (by omega) (by omega) (by omega)] at c65
           have c71' : pvw g R w i e = (chs i (fun q => hed g m i q (dnx g m R i q (D q))) w).1 := by
             rw [zI_eq (by omega) (by omega) (by omega) (by omega)] at c71
             exact c71
           rw [zI_le (by omega) (by omega) (by omega) (by omega)] at c78
           first
           | (rw [if_pos (Or.inr ⟨c71', by omega⟩)] at key
              refine s_lv (lv' := [(0, .ref (x0 + 44)), (1, .int (zI i)), (2, .int (zI W)), (3, .int (zI (pvw g R w i e))), (4, .int (zI (e : Int))), (5, .int (zI ((w + 1 : Nat) : Int)))]) ⟨rfl, rfl, rfl, rfl, rfl, rfl, trivial⟩ ?_
              exact key)
           | (rw [if_neg (by omega)] at key
              refine s_lv (lv' := [(0, .ref (x0 + 44)), (1, .int (zI i)), (2, .int (zI W)), (3, .int (zI (chs i (fun q => hed g m i q (dnx g m R i q (D q))) w).1)), (4, .int (zI (chs i (fun q => hed g m i q (dnx g m R i q (D q))) w).2)), (5, .int (zI ((w + 1 : Nat) : Int)))]) ⟨rfl, rfl, rfl, rfl, rfl, rfl, trivial⟩ ?_
              exact key))
        | (rw [zI_lt (by omega) (by omega) (by omega) (by omega)] at c65
           rw [zI_eq (by omega) (by omega) (by omega) (by omega)] at c71
           rw [if_neg (by omega)] at key
           refine s_lv (lv' := [(0, .ref (x0 + 44)), (1, .int (zI i)), (2, .int (zI W)), (3, .int (zI (chs i (fun q => hed g m i q (dnx g m R i q (D q))) w).1)), (4, .int (zI (chs i (fun q => hed g m i q (dnx g m R i q (D q))) w).2)), (5, .int (zI ((w + 1 : Nat) : Int)))]) ⟨rfl, rfl, rfl, rfl, rfl, rfl, trivial⟩ ?_
           exact key)
      · refine s_iload dX8_chooseEnd_74 rfl ?_
        refine s_iload dX8_chooseEnd_76 rfl ?_
        refine s_icmp_ge (tgt := 88) dX8_chooseEnd_78 (by decide) (fun c78 => ?_) (fun c78 => ?_)
        · refine s_iinc dX8_chooseEnd_88 rfl (zI_inc _) (by decide) (by simp only [sl, sl2, rm, Value.category, reduceIte, Nat.reduceAdd, Nat.reduceEqDiff, reduceCtorEq]; rfl) ?_
          refine s_goto (tgt := 11) dX8_chooseEnd_91 (by decide) ?_
          have hup : ∀ I', (∀ b, (b < 45 ∨ b = 47 ∨ 110 < b) → I' b = I1 b) → (∀ q, q ≤ W → WinIs T I' (48 + 3 * q) q (dnx g m R i q (D q)) (Pw g m q i)) → (∀ q, q < 21 → I' (48 + 3 * q) 0 = I1 (48 + 3 * q) 0) → I' 45 = iu I1 45 i (zI (chs i (fun q => hed g m i q (dnx g m R i q (D q))) (W + 1)).1) 45 → I' 46 = iu I1 46 i (zI (chs i (fun q => hed g m i q (dnx g m R i q (D q))) (W + 1)).2) 46 → Q none T I' J := fun I' a b c dd f => hq I' (fun b hb => (a b hb).trans (hf1 b (by simp; omega))) b (fun q hq => by
            rw [c q hq]
            by_cases h : q = w
            · subst h
              have z1 := hW1.2.1
              have z2 := (h2 q (by omega) (Nat.le_refl q)).2.1
              exact Int32.toInt_inj.mp (by rw [z1, z2])
            · rw [hf1 _ (by simp; omega)]) (by rw [dd]; funext q; simp only [iu, if_true]; rw [hf1 45 (by simp; omega)]) (by rw [f]; funext q; simp only [iu, if_true]; rw [hf1 46 (by simp; omega)])
          have key := ih (w + 1) I1 (by omega) (by rw [hf1 45 (by simp; omega)]; exact h45) (fun q a b => by
            rcases Nat.lt_or_ge q w with h | h
            · exact (h1 q a h).fr (hf1 _ (by simp; omega)) (hf1 _ (by simp; omega)) (hf1 _ (by simp; omega))
            · rw [show q = w by omega]; exact hW1) (fun q a b => (h2 q a (by omega)).fr (hf1 _ (by simp; omega)) (hf1 _ (by simp; omega)) (hf1 _ (by simp; omega))) hup
          simp only [chs] at key
          rw [hhe] at key
          dsimp only at key
          first
          | (have c65' : pvw g R w i e < (chs i (fun q => hed g m i q (dnx g m R i q (D q))) w).1 := by
               rw [zI_lt (by omega) (by omega) (by omega) (by omega)] at c65
               exact c65
             rw [if_pos (Or.inl c65')] at key
             refine s_lv (lv' := [(0, .ref (x0 + 44)), (1, .int (zI i)), (2, .int (zI W)), (3, .int (zI (pvw g R w i e))), (4, .int (zI (e : Int))), (5, .int (zI ((w + 1 : Nat) : Int)))]) ⟨rfl, rfl, rfl, rfl, rfl, rfl, trivial⟩ ?_
             exact key)
          | (rw [zI_lt (by omega) (by omega) (by omega) (by omega)] at c65
             have c71' : pvw g R w i e = (chs i (fun q => hed g m i q (dnx g m R i q (D q))) w).1 := by
               rw [zI_eq (by omega) (by omega) (by omega) (by omega)] at c71
               exact c71
             rw [zI_le (by omega) (by omega) (by omega) (by omega)] at c78
             first
             | (rw [if_pos (Or.inr ⟨c71', by omega⟩)] at key
                refine s_lv (lv' := [(0, .ref (x0 + 44)), (1, .int (zI i)), (2, .int (zI W)), (3, .int (zI (pvw g R w i e))), (4, .int (zI (e : Int))), (5, .int (zI ((w + 1 : Nat) : Int)))]) ⟨rfl, rfl, rfl, rfl, rfl, rfl, trivial⟩ ?_
                exact key)
             | (rw [if_neg (by omega)] at key
                refine s_lv (lv' := [(0, .ref (x0 + 44)), (1, .int (zI i)), (2, .int (zI W)), (3, .int (zI (chs i (fun q => hed g m i q (dnx g m R i q (D q))) w).1)), (4, .int (zI (chs i (fun q => hed g m i q (dnx g m R i q (D q))) w).2)), (5, .int (zI ((w + 1 : Nat) : Int)))]) ⟨rfl, rfl, rfl, rfl, rfl, rfl, trivial⟩ ?_
                exact key))
          | (rw [zI_lt (by omega) (by omega) (by omega) (by omega)] at c65
             rw [zI_eq (by omega) (by omega) (by omega) (by omega)] at c71
             rw [if_neg (by omega)] at key
             refine s_lv (lv' := [(0, .ref (x0 + 44)), (1, .int (zI i)), (2, .int (zI W)), (3, .int (zI (chs i (fun q => hed g m i q (dnx g m R i q (D q))) w).1)), (4, .int (zI (chs i (fun q => hed g m i q (dnx g m R i q (D q))) w).2)), (5, .int (zI ((w + 1 : Nat) : Int)))]) ⟨rfl, rfl, rfl, rfl, rfl, rfl, trivial⟩ ?_
             exact key)
        · refine s_iload dX8_chooseEnd_81 rfl ?_
          refine s_istore_n (i := 3) dX8_chooseEnd_83 rfl (by decide) (by simp only [sl, sl2, rm, Value.category, reduceIte, Nat.reduceAdd, Nat.reduceEqDiff, reduceCtorEq]; rfl) ?_
          refine s_iload dX8_chooseEnd_84 rfl ?_
          refine s_istore dX8_chooseEnd_86 (by decide) (by simp only [sl, sl2, rm, Value.category, reduceIte, Nat.reduceAdd, Nat.reduceEqDiff, reduceCtorEq]; rfl) ?_
          refine s_iinc dX8_chooseEnd_88 rfl (zI_inc _) (by decide) (by simp only [sl, sl2, rm, Value.category, reduceIte, Nat.reduceAdd, Nat.reduceEqDiff, reduceCtorEq]; rfl) ?_
          refine s_goto (tgt := 11) dX8_chooseEnd_91 (by decide) ?_
          have hup : ∀ I', (∀ b, (b < 45 ∨ b = 47 ∨ 110 < b) → I' b = I1 b) → (∀ q, q ≤ W → WinIs T I' (48 + 3 * q) q (dnx g m R i q (D q)) (Pw g m q i)) → (∀ q, q < 21 → I' (48 + 3 * q) 0 = I1 (48 + 3 * q) 0) → I' 45 = iu I1 45 i (zI (chs i (fun q => hed g m i q (dnx g m R i q (D q))) (W + 1)).1) 45 → I' 46 = iu I1 46 i (zI (chs i (fun q => hed g m i q (dnx g m R i q (D q))) (W + 1)).2) 46 → Q none T I' J := fun I' a b c dd f => hq I' (fun b hb => (a b hb).trans (hf1 b (by simp; omega))) b (fun q hq => by
            rw [c q hq]
            by_cases h : q = w
            · subst h
              have z1 := hW1.2.1
              have z2 := (h2 q (by omega) (Nat.le_refl q)).2.1
              exact Int32.toInt_inj.mp (by rw [z1, z2])
            · rw [hf1 _ (by simp; omega)]) (by rw [dd]; funext q; simp only [iu, if_true]; rw [hf1 45 (by simp; omega)]) (by rw [f]; funext q; simp only [iu, if_true]; rw [hf1 46 (by simp; omega)])
          have key := ih (w + 1) I1 (by omega) (by rw [hf1 45 (by simp; omega)]; exact h45) (fun q a b => by
            rcases Nat.lt_or_ge q w with h | h
            · exact (h1 q a h).fr (hf1 _ (by simp; omega)) (hf1 _ (by simp; omega)) (hf1 _ (by simp; omega))
            · rw [show q = w by omega]; exact hW1) (fun q a b => (h2 q a (by omega)).fr (hf1 _ (by simp; omega)) (hf1 _ (by simp; omega)) (hf1 _ (by simp; omega))) hup
          simp only [chs] at key
          rw [hhe] at key
          dsimp only at key
          first
          | (have c65' : pvw g R w i e < (chs i (fun q => hed g m i q (dnx g m R i q (D q))) w).1 := by
               rw [zI_lt (by omega) (by omega) (by omega) (by omega)] at c65
               exact c65
             rw [if_pos (Or.inl c65')] at key
             refine s_lv (lv' := [(0, .ref (x0 + 44)), (1, .int (zI i)), (2, .int (zI W)), (3, .int (zI (pvw g R w i e))), (4, .int (zI (e : Int))), (5, .int (zI ((w + 1 : Nat) : Int)))]) ⟨rfl, rfl, rfl, rfl, rfl, rfl, trivial⟩ ?_
             exact key)
          | (rw [zI_lt (by omega) (by omega) (by omega) (by omega)] at c65
             have c71' : pvw g R w i e = (chs i (fun q => hed g m i q (dnx g m R i q (D q))) w).1 := by
               rw [zI_eq (by omega) (by omega) (by omega) (by omega)] at c71
               exact c71
             rw [zI_le (by omega) (by omega) (by omega) (by omega)] at c78
             first
             | (rw [if_pos (Or.inr ⟨c71', by omega⟩)] at key
                refine s_lv (lv' := [(0, .ref (x0 + 44)), (1, .int (zI i)), (2, .int (zI W)), (3, .int (zI (pvw g R w i e))), (4, .int (zI (e : Int))), (5, .int (zI ((w + 1 : Nat) : Int)))]) ⟨rfl, rfl, rfl, rfl, rfl, rfl, trivial⟩ ?_
                exact key)
             | (rw [if_neg (by omega)] at key
                refine s_lv (lv' := [(0, .ref (x0 + 44)), (1, .int (zI i)), (2, .int (zI W)), (3, .int (zI (chs i (fun q => hed g m i q (dnx g m R i q (D q))) w).1)), (4, .int (zI (chs i (fun q => hed g m i q (dnx g m R i q (D q))) w).2)), (5, .int (zI ((w + 1 : Nat) : Int)))]) ⟨rfl, rfl, rfl, rfl, rfl, rfl, trivial⟩ ?_
                exact key))
          | (rw [zI_lt (by omega) (by omega) (by omega) (by omega)] at c65
             rw [zI_eq (by omega) (by omega) (by omega) (by omega)] at c71
             rw [if_neg (by omega)] at key
             refine s_lv (lv' := [(0, .ref (x0 + 44)), (1, .int (zI i)), (2, .int (zI W)), (3, .int (zI (chs i (fun q => hed g m i q (dnx g m R i q (D q))) w).1)), (4, .int (zI (chs i (fun q => hed g m i q (dnx g m R i q (D q))) w).2)), (5, .int (zI ((w + 1 : Nat) : Int)))]) ⟨rfl, rfl, rfl, rfl, rfl, rfl, trivial⟩ ?_
             exact key)
set_option maxRecDepth 100000 in
set_option maxHeartbeats 1000000 in
theorem c_choose {G : fG} {x0 : Nat} {l : Launch} {d k n : Nat} {T : fT} {I : fI} {J : fJ} {Q : Option Value → fT → fI → fJ → Prop} {g : Nat → Int} {m i W : Nat} {R : Nat → Int} {D : Nat → List (Int × Int)} (hPA : PackAt T) (hW : W ≤ 20) (hm : m ≤ 200) (him : i < m) (hR : RBd R m (i + 1)) (hD : ∀ q, q ≤ W → DQ g m R q (i + 1) (D q)) (h45 : (I 45 (i + 1)).toInt = R (i + 1)) (h2 : ∀ q, q ≤ W → WinIs T I (48 + 3 * q) q (D q) (Pw g m q i)) (hq : ∀ I', (∀ b, (b < 45 ∨ b = 47 ∨ 110 < b) → I' b = I b) → (∀ q, q ≤ W → WinIs T I' (48 + 3 * q) q (dnx g m R i q (D q)) (Pw g m q i)) → (∀ q, q < 21 → I' (48 + 3 * q) 0 = I (48 + 3 * q) 0) → I' 45 = iu I 45 i (zI (chs i (fun q => hed g m i q (dnx g m R i q (D q))) (W + 1)).1) 45 → I' 46 = iu I 46 i (zI (chs i (fun q => hed g m i q (dnx g m R i q (D q))) (W + 1)).2) 46 → Q none T I' J) :
    PW G x0 l mX8_chooseEnd (d + 2) (ZM G x0 Q) k n 0 [(0, .ref (x0 + 44)), (1, .int (zI i)), (2, .int (zI W))] [] T I J := by
  refine s_ldc dX8_chooseEnd_0 wK_X8_78 ?_
  refine s_istore_n (i := 3) dX8_chooseEnd_2 rfl (by decide) (by simp only [sl, sl2, rm, Value.category, reduceIte, Nat.reduceAdd, Nat.reduceEqDiff, reduceCtorEq]; rfl) ?_
  refine s_iload_n (i := 1) dX8_chooseEnd_3 rfl rfl ?_
  refine s_iconst (v := 1) dX8_chooseEnd_4 (by decide) ?_
  refine s_iadd dX8_chooseEnd_5 ?_
  refine s_topi (y := zI ((i : Int) + 1)) (by rw [z1, zI_add]) ?_
  refine s_istore dX8_chooseEnd_6 (by decide) (by simp only [sl, sl2, rm, Value.category, reduceIte, Nat.reduceAdd, Nat.reduceEqDiff, reduceCtorEq]; rfl) ?_
  refine s_iconst (v := 0) dX8_chooseEnd_8 (by decide) ?_
  refine s_istore dX8_chooseEnd_9 (by decide) (by simp only [sl, sl2, rm, Value.category, reduceIte, Nat.reduceAdd, Nat.reduceEqDiff, reduceCtorEq]; rfl) ?_
  exact l_choose hPA hW hm him hR hD (W + 1) 0 I (by omega) h45 (fun q _ b => absurd b (Nat.not_lt_zero q)) (fun q a _ => h2 q a) hq
