set_option maxRecDepth 100000 in
set_option maxHeartbeats 1000000 in
theorem l_widest {G : fG} {x0 : Nat} {l : Launch} {d k n : Nat} {T : fT} {I : fI} {J : fJ} {Q : Option Value → fT → fI → fJ → Prop} {r cap m : Nat} {g : Nat → Int} (hR : RowIs T I r cap g m) (hg : GapOk g m) (hm : m ≤ 100000) : ∀ (z i Wd : Nat), m - i ≤ z → 1 ≤ i → Wd ≤ 20 → (∀ q, 1 ≤ q → q < i → bz g q ≤ Wd) → i ≤ m + 1 →
    (hq : ∀ W : Nat, W ≤ 20 → (∀ q, 1 ≤ q → q < m → bz g q ≤ W) → Q (some (.int (zI W))) T I J) → PW G x0 l mX8_widestOf (d + 1) (ZM G x0 Q) k n 4 [(0, .ref (x0 + r)), (1, .int (zI Wd)), (2, .int (zI i))] [] T I J := by
  obtain ⟨k1, k2, k3, k4, k5, k6, k7⟩ := id hR.1
  have k8 := hR.2.1
  have k9 := hR.2.2.1
  intro z
  induction z with
  | zero =>
    intro i Wd hz hi1 hW hWd him hq
    refine s_iload_n (i := 2) dX8_widestOf_4 rfl rfl ?_
    refine s_aload_n (i := 0) dX8_widestOf_5 rfl rfl ?_
    refine s_getI dX8_widestOf_6 fl_X8_41 (by assumption) (by assumption) ?_
    refine s_icmp_ge (tgt := 31) dX8_widestOf_9 (by decide) (fun h9 => ?_) (fun h9 => absurd (by rw [t_zI k9, zI_le (by omega) (by omega) (by omega) (by omega)]; omega) h9)
    refine s_iload_n (i := 1) dX8_widestOf_31 rfl rfl ?_
    refine s_iret dX8_widestOf_32 rfl ?_
    exact hq Wd hW (fun q a b => hWd q a (by omega))
  | succ z ih =>
    intro i Wd hz hi1 hW hWd him hq
    refine s_iload_n (i := 2) dX8_widestOf_4 rfl rfl ?_
    refine s_aload_n (i := 0) dX8_widestOf_5 rfl rfl ?_
    refine s_getI dX8_widestOf_6 fl_X8_41 (by assumption) (by assumption) ?_
    refine s_icmp_ge (tgt := 31) dX8_widestOf_9 (by decide) (fun c9 => ?_) (fun c9 => ?_)
    · rw [t_zI k9, zI_le (by omega) (by omega) (by omega) (by omega)] at c9
      refine s_iload_n (i := 1) dX8_widestOf_31 rfl rfl ?_
      refine s_iret dX8_widestOf_32 rfl ?_
      exact hq Wd hW (fun q a b => hWd q a (by omega))
    · rw [t_zI k9, zI_le (by omega) (by omega) (by omega) (by omega)] at c9
      have hgz := gapz_in hg (i := i) (by omega) (by omega)
      have hbz : bz g i ≤ 20 := bz_le hg (by omega) (by omega)
      refine s_iload_n (i := 1) dX8_widestOf_12 rfl rfl ?_
      refine s_aload_n (i := 0) dX8_widestOf_13 rfl rfl ?_
      refine s_iload_n (i := 2) dX8_widestOf_14 rfl rfl ?_
      refine s_cV_I (My := mX9_gapBefore) dX8_widestOf_15 wM_X8_60 cb_yX9_gapBefore ci_yX9_gapBefore (by assumption) (by assumption) (Nat.le_of_ble_eq_true rfl) (by decide) (c_gap hR (by omega) (by omega) ?_)
      refine s_cSN_I (My := mX11_bitsOf) dX8_widestOf_18 wX_X8_64 cb_yX11_bitsOf wT_yX11_bitsOf (Nat.le_of_ble_eq_true rfl) (by decide) (c_bits hgz.2.1 hgz.2.2 ?_)
      refine s_topi (y := zI (bz g i)) (by rw [hgz.1]; rfl) ?_
      refine s_max dX8_widestOf_21 wM_X8_70 (Nat.le_of_ble_eq_true rfl) ?_
      refine s_topi (y := zI ((Nat.max Wd (bz g i) : Nat) : Int)) ?_ ?_
      · by_cases hc : zI (Wd : Int) < zI (bz g i : Int)
        · rw [if_pos hc]
          rw [zI_lt (by omega) (by omega) (by omega) (by omega)] at hc
          rw [show Nat.max Wd (bz g i) = bz g i from Nat.max_eq_right (by omega)]
        · rw [if_neg hc]
          rw [zI_lt (by omega) (by omega) (by omega) (by omega)] at hc
          rw [show Nat.max Wd (bz g i) = Wd from Nat.max_eq_left (by omega)]
      refine s_istore_n (i := 1) dX8_widestOf_24 rfl (by decide) (by simp only [sl, sl2, rm, Value.category, reduceIte, Nat.reduceAdd, Nat.reduceEqDiff, reduceCtorEq]; rfl) ?_
      refine s_iinc dX8_widestOf_25 rfl (zI_inc _) (by decide) (by simp only [sl, sl2, rm, Value.category, reduceIte, Nat.reduceAdd, Nat.reduceEqDiff, reduceCtorEq]; rfl) ?_
      refine s_goto (tgt := 4) dX8_widestOf_28 (by decide) ?_
      refine ih (i + 1) _ (by omega) (by omega) (Nat.max_le.mpr ⟨hW, hbz⟩) (fun q a b => ?_) (by omega) hq
      rcases Nat.lt_or_ge q i with h | h
      · exact Nat.le_trans (hWd q a h) (Nat.le_max_left _ _)
      · rw [show q = i by omega]; exact Nat.le_max_right _ _
set_option maxRecDepth 100000 in
set_option maxHeartbeats 1000000 in
theorem c_widest {G : fG} {x0 : Nat} {l : Launch} {d k n : Nat} {T : fT} {I : fI} {J : fJ} {Q : Option Value → fT → fI → fJ → Prop} {r cap m : Nat} {g : Nat → Int} (hR : RowIs T I r cap g m) (hg : GapOk g m) (hm : m ≤ 100000) (hq : ∀ W : Nat, W ≤ 20 → (∀ q, 1 ≤ q → q < m → bz g q ≤ W) → Q (some (.int (zI W))) T I J) : PW G x0 l mX8_widestOf (d + 1) (ZM G x0 Q) k n 0 [(0, .ref (x0 + r))] [] T I J := by
  refine s_iconst (v := 0) dX8_widestOf_0 (by decide) ?_
  refine s_istore_n (i := 1) dX8_widestOf_1 rfl (by decide) (by simp only [sl, sl2, rm, Value.category, reduceIte, Nat.reduceAdd, Nat.reduceEqDiff, reduceCtorEq]; rfl) ?_
  refine s_iconst (v := 1) dX8_widestOf_2 (by decide) ?_
  refine s_istore_n (i := 2) dX8_widestOf_3 rfl (by decide) (by simp only [sl, sl2, rm, Value.category, reduceIte, Nat.reduceAdd, Nat.reduceEqDiff, reduceCtorEq]; rfl) ?_
  exact l_widest hR hg hm m 1 0 (by omega) (by omega) (by omega) (fun q a b => absurd a (by omega)) (by omega) hq
theorem chs_congr {i : Nat} {h h' : Nat → Int × Int} : ∀ n, (∀ w, w < n → h w = h' w) → chs i h n = chs i h' n := by
  intro n
  induction n with
  | zero => intro _; rfl
  | succ n ih =>
    intro hh
    simp only [chs]
    rw [ih (fun w hw => hh w (by omega)), hh n (by omega)]
def PlanAt (g : Nat → Int) (m : Nat) (R : Nat → Int) (E : Nat → Nat) (i : Nat) : Prop := i < E i ∧ E i ≤ i + 64 ∧ E i ≤ m ∧ R i = pval g R i (E i) ∧ ∀ e, i < e → e ≤ i + 64 → e ≤ m → R i ≤ pval g R i e ∧ (R i = pval g R i e → E i ≤ e)
theorem PlanAt.cong {g : Nat → Int} {m i : Nat} {R R' : Nat → Int} {E E' : Nat → Nat} (h : PlanAt g m R E i) (hR : ∀ e, i ≤ e → R' e = R e) (hE : E' i = E i) : PlanAt g m R' E' i := by
  obtain ⟨a1, a2, a3, a4, a5⟩ := h
  have hv : ∀ e, i < e → pval g R' i e = pval g R i e := fun e he => by unfold pval; rw [hR e (by omega)]
  refine ⟨by omega, by omega, by omega, by rw [hE, hR i (Nat.le_refl i), hv _ a1]; exact a4, fun e b1 b2 b3 => ?_⟩
  rw [hE, hR i (Nat.le_refl i), hv e b1]
  exact a5 e b1 b2 b3
theorem bcost_one (g : Nat → Int) (i : Nat) : bcost g i 1 = 32 := by
  unfold bcost csw abv
  simp [cnt]
theorem plan_pick {g : Nat → Int} {m i W : Nat} {R : Nat → Int} {D : Nat → List (Int × Int)} (hW : W ≤ 20) (hm : m ≤ 200) (him : i < m) (hR : RBd R m (i + 1)) (hD : ∀ q, q ≤ W → DQ g m R q (i + 1) (D q)) (hbz : ∀ q, 1 ≤ q → q < m → bz g q ≤ W) :
    ∃ e : Nat, chs i (fun q => hed g m i q (dnx g m R i q (D q))) (W + 1) = (pval g R i e, (e : Int)) ∧ i < e ∧ e ≤ i + 64 ∧ e ≤ m ∧ (∀ e', i < e' → e' ≤ i + 64 → e' ≤ m → pval g R i e ≤ pval g R i e' ∧ (pval g R i e = pval g R i e' → e ≤ e')) ∧ 0 ≤ pval g R i e ∧ pval g R i e ≤ 8193 * ((m : Int) - i) := by
  have hh : ∀ q, q ≤ W → ∃ e : Nat, hed g m i q (dnx g m R i q (D q)) = (pvw g R q i e, (e : Int)) ∧ i < e ∧ e ≤ i + 64 ∧ e ≤ m ∧ ∀ e', i < e' → e' ≤ i + 64 → e' ≤ m → pvw g R q i e ≤ pvw g R q i e' ∧ (pvw g R q i e = pvw g R q i e' → e ≤ e') := fun q hq => by
    obtain ⟨e, -, b, c, dd, f, gg⟩ := hed_spec him ((hD q hq).step him)
    exact ⟨e, b, c, dd, f, gg⟩
  have hcc := chs_congr (i := i) (h := fun q => hed g m i q (dnx g m R i q (D q))) (h' := fun q => if q ≤ W then hed g m i q (dnx g m R i q (D q)) else (0, 0)) (W + 1) (fun w hw => by rw [if_pos (by omega)])
  obtain ⟨c1, c2⟩ := chs_min i (fun q => if q ≤ W then hed g m i q (dnx g m R i q (D q)) else (0, 0)) (fun w => by
    by_cases h : w ≤ W
    · rw [if_pos h]
      obtain ⟨e, a, b, c, dd, -⟩ := hh w h
      rw [a]
      have := pvw_bd (g := g) (w := w) hR hm (by omega) b dd
      dsimp only
      omega
    · rw [if_neg h]; decide) (W + 1)
  rcases c1 with h0 | ⟨w, hw, hce⟩
  · omega
  rw [if_pos (by omega)] at hce
  obtain ⟨e, a, b, c, dd, f⟩ := hh w (by omega)
  rw [a] at hce
  have hmin : ∀ e', i < e' → e' ≤ i + 64 → e' ≤ m → pvw g R w i e ≤ pval g R i e' ∧ (pvw g R w i e = pval g R i e' → e ≤ e') := by
    intro e' y1 y2 y3
    have hbe : bw g i (e' - i) = bwr g i (e' - i) W := bwr_stop (by omega) (fun q hq => hbz _ (by omega) (by omega)) 20 hW
    have hbW : bw g i (e' - i) ≤ W := by rw [hbe]; exact bwr_le _ _ _ _
    have hpe : pval g R i e' = pvw g R (bw g i (e' - i)) i e' := rfl
    obtain ⟨e2, a2, b2, c2', d2, f2⟩ := hh _ hbW
    have h1 := c2 (bw g i (e' - i)) (by omega)
    rw [if_pos hbW, a2, hce] at h1
    dsimp only at h1
    have h2 := f2 e' y1 y2 y3
    rw [hpe]
    exact ⟨by omega, fun h => by
      have h3 := h1.2 (by omega)
      have h4 := h2.2 (by omega)
      omega⟩
  have hle : pval g R i e ≤ pvw g R w i e := by
    unfold pval pvw
    have := bcost_le g i (e - i) w (by omega)
    omega
  have hge := (hmin e b c dd).1
  have heq : pval g R i e = pvw g R w i e := by omega
  rw [← heq] at hce hmin
  have h1 := (hmin (i + 1) (by omega) (by omega) (by omega)).1
  have h2 : pval g R i (i + 1) ≤ 8193 * ((m : Int) - i) := by
    unfold pval
    rw [show i + 1 - i = 1 by omega, bcost_one]
    have := (hR (i + 1) (Nat.le_refl _) (by omega)).2
    omega
  have h3 := (pvw_bd (g := g) (w := w) hR hm (by omega) b dd).1
  exact ⟨e, by rw [hcc]; exact hce, b, c, dd, hmin, by omega, by omega⟩
set_option maxRecDepth 100000 in
set_option maxHeartbeats 1000000 in
theorem l_pEmpty {G : fG} {x0 : Nat} {l : Launch} {d k n : Nat} {T : fT} {J : fJ} {Q : Option Value → fT → fI → fJ → Prop} {r W : Nat} (hPA : PackAt T) (hW : W ≤ 20) (I0 : fI) (hP0 : ∀ w, w < 21 → (I0 (48 + 3 * w) 0).toInt = w) (hq : ∀ (I' : fI) (e : Int32), (∀ b, (b < 48 ∨ 110 < b) → I' b = I0 b) → (∀ q, q ≤ W → WinIs T I' (48 + 3 * q) q [] 0) → (∀ q, q < 21 → I' (48 + 3 * q) 0 = I0 (48 + 3 * q) 0) → PW G x0 l mX8_plan (d + 3) (ZM G x0 Q) k n 27 [(0, .ref (x0 + 44)), (1, .ref (x0 + r)), (2, .int (zI W)), (3, .int e)] [] T I' J) : ∀ (z w : Nat) (I : fI), w + z = W + 1 → (∀ b, (b < 48 ∨ 110 < b) → I b = I0 b) → (∀ q, q ≤ W → q < w → WinIs T I (48 + 3 * q) q [] 0) → (∀ q, q < 21 → I (48 + 3 * q) 0 = I0 (48 + 3 * q) 0) →
    PW G x0 l mX8_plan (d + 3) (ZM G x0 Q) k n 7 [(0, .ref (x0 + 44)), (1, .ref (x0 + r)), (2, .int (zI W)), (3, .int (zI w))] [] T I J := by
  obtain ⟨p1, p2, p3, p4, p5, p6, p7, p8, p9, p10, p11, p12⟩ := id hPA
  have e44 : (44 : Nat) < T.1 := by omega
  have e45 : (45 : Nat) < T.1 := by omega
  have e46 : (46 : Nat) < T.1 := by omega
  have e47 : (47 : Nat) < T.1 := by omega
  intro z
  induction z with
  | zero =>
    intro w I hz h0 h1 h2
    refine s_iload_n (i := 3) dX8_plan_7 rfl rfl ?_
    refine s_iload_n (i := 2) dX8_plan_8 rfl rfl ?_
    refine s_icmp_gt (tgt := 27) dX8_plan_9 (by decide) (fun h9 => ?_) (fun h9 => absurd (by rw [zI_lt (by omega) (by omega) (by omega) (by omega)]; omega) h9)
    exact hq I _ h0 (fun q a => h1 q a (by omega)) h2
  | succ z ih =>
    intro w I hz h0 h1 h2
    refine s_iload_n (i := 3) dX8_plan_7 rfl rfl ?_
    refine s_iload_n (i := 2) dX8_plan_8 rfl rfl ?_
    refine s_icmp_gt (tgt := 27) dX8_plan_9 (by decide) (fun h9 => absurd h9 (by rw [zI_lt (by omega) (by omega) (by omega) (by omega)]; omega)) (fun h9 => ?_)
    obtain ⟨u1, u2⟩ := p12 w (by omega)
    obtain ⟨y1, y2, -⟩ := id u2
    have ev : 48 + 3 * w < T.1 := by omega
    have hnw : (zI w).toNatClampNeg = w := by rw [zI_n (by omega) (by omega)]; simp
    refine s_aload_n (i := 0) dX8_plan_12 rfl rfl ?_
    refine s_getR dX8_plan_13 fl_X8_20 (by assumption) (by assumption) (by assumption) ?_
    refine s_iload_n (i := 3) dX8_plan_16 rfl rfl ?_
    refine s_aldW dX8_plan_17 (by assumption) (by assumption) (by rw [p11]; exact z_in (by omega) (by omega) (by omega)) (by rw [hnw]; exact u1) ?_
    refine s_cV_ (My := mX10_makeEmpty) dX8_plan_18 wM_X8_53 cb_yX10_makeEmpty ci_yX10_makeEmpty (by assumption) (by assumption) (Nat.le_of_ble_eq_true rfl) (by decide) (s_d (by omega) (c_wEmpty (d := 0) (wd := w) u2 (by rw [h2 w (by omega)]; exact hP0 w (by omega)) (fun I1 hf1 hW1 => ?_)))
    refine s_iinc dX8_plan_21 rfl (zI_inc _) (by decide) (by simp only [sl, sl2, rm, Value.category, reduceIte, Nat.reduceAdd, Nat.reduceEqDiff, reduceCtorEq]; rfl) ?_
    refine s_goto (tgt := 7) dX8_plan_24 (by decide) ?_
    refine ih (w + 1) I1 (by omega) (fun b hb => (hf1 b (by simp; omega)).trans (h0 b hb)) (fun q a b => ?_) (fun q hq => ?_)
    · rcases Nat.lt_or_ge q w with h | h
      · exact (h1 q a h).fr (hf1 _ (by simp; omega)) (hf1 _ (by simp; omega)) (hf1 _ (by simp; omega))
      · rw [show q = w by omega]; exact hW1
    · by_cases h : q = w
      · subst h
        have z1 := hW1.2.1
        have z2 := hP0 q (by omega)
        exact Int32.toInt_inj.mp (by rw [z1, z2])
      · rw [hf1 _ (by simp; omega)]; exact h2 q hq
/-- the plan of a row, in the packer's rows -/
def PlanIs (I : fI) (g : Nat → Int) (m : Nat) (R : Nat → Int) (E : Nat → Nat) : Prop := Plan g m R E ∧ RBd R m 0 ∧ (∀ e, e ≤ m → (I 45 e).toInt = R e) ∧ ∀ e, e < m → (I 46 e).toInt = E e
set_option maxRecDepth 100000 in
set_option maxHeartbeats 1000000 in
theorem l_plan {G : fG} {x0 : Nat} {l : Launch} {d k n : Nat} {T : fT} {J : fJ} {Q : Option Value → fT → fI → fJ → Prop} {r cap m W : Nat} {g : Nat → Int} (hPA : PackAt T) (hr : r < 44 ∨ 110 < r) (hr2 : r + 1 < 44 ∨ 110 < r + 1) (hW : W ≤ 20) (hm : m ≤ 200) (hg : GapOk g m) (hbz : ∀ q, 1 ≤ q → q < m → bz g q ≤ W) : ∀ (t : Nat) (R : Nat → Int) (E : Nat → Nat) (D : Nat → List (Int × Int)) (I : fI), t ≤ m → R m = 0 → (∀ i, t ≤ i → i < m → PlanAt g m R E i) → RBd R m t → (∀ q, q ≤ W → DQ g m R q t (D q)) → (∀ e, t ≤ e → e ≤ m → (I 45 e).toInt = R e) → (∀ e, t ≤ e → e < m → (I 46 e).toInt = E e) → (0 < t → ∀ q, q ≤ W → WinIs T I (48 + 3 * q) q (D q) (Pw g m q (t - 1))) → RowIs T I r cap g m →
    (hq : ∀ (I' : fI) (R : Nat → Int) (E : Nat → Nat), (∀ b, (b < 45 ∨ b = 47 ∨ 110 < b) → I' b = I b) → (∀ q, q < 21 → I' (48 + 3 * q) 0 = I (48 + 3 * q) 0) → PlanIs I' g m R E → Q none T I' J) → PW G x0 l mX8_plan (d + 3) (ZM G x0 Q) k n 44 [(0, .ref (x0 + 44)), (1, .ref (x0 + r)), (2, .int (zI W)), (3, .int (zI ((t : Int) - 1)))] [] T I J := by
  obtain ⟨p1, p2, p3, p4, p5, p6, p7, p8, p9, p10, p11, p12⟩ := id hPA
  have e44 : (44 : Nat) < T.1 := by omega
  have e45 : (45 : Nat) < T.1 := by omega
  have e46 : (46 : Nat) < T.1 := by omega
  have e47 : (47 : Nat) < T.1 := by omega
  intro t
  induction t with
  | zero =>
    intro R E D I ht hRm hPl hRb hDQ h45 h46 hwn hR hq
    refine s_iload_n (i := 3) dX8_plan_44 rfl rfl ?_
    refine s_if_lt (tgt := 77) dX8_plan_45 (by decide) (fun c45 => ?_) (fun c45 => absurd (by rw [z0, zI_lt (by omega) (by omega) (by omega) (by omega)]; omega) c45)
    refine s_ret dX8_plan_77 rfl ?_
    exact hq I R E (fun _ _ => rfl) (fun _ _ => rfl) ⟨⟨hRm, fun i hi => hPl i (Nat.zero_le i) hi⟩, hRb, fun e he => h45 e (Nat.zero_le e) he, fun e he => h46 e (Nat.zero_le e) he⟩
  | succ i ih =>
    intro R E D I ht hRm hPl hRb hDQ h45 h46 hwn hR hq
    obtain ⟨e, q1, q2, q3, q4, q5, q6, q7⟩ := plan_pick hW hm (by omega) hRb hDQ hbz
    have hDS := fun q (hq : q ≤ W) => (hDQ q hq).step (i := i) (by omega)
    have hR' : ∀ e', i < e' → (fun x => if x = i then pval g R i e else R x) e' = R e' := fun e' he => if_neg (by omega)
    have hRi : (fun x => if x = i then pval g R i e else R x) i = pval g R i e := if_pos rfl
    have hEi : (fun x => if x = i then e else E x) i = e := if_pos rfl
    have hE' : ∀ e', i < e' → (fun x => if x = i then e else E x) e' = E e' := fun e' he => if_neg (by omega)
    generalize (fun x => if x = i then pval g R i e else R x) = R' at hR' hRi
    generalize (fun x => if x = i then e else E x) = E' at hEi hE'
    have hpv : ∀ e', i < e' → pval g R' i e' = pval g R i e' := fun e' he => by unfold pval; rw [hR' e' he]
    have n1 : R' m = 0 := by rw [hR' m (by omega)]; exact hRm
    have n2 : ∀ j, i ≤ j → j < m → PlanAt g m R' E' j := fun j h1 h2 => by
      rcases Nat.lt_or_ge i j with h | h
      · exact (hPl j h h2).cong (fun e he => hR' e (by omega)) (hE' j h)
      · have : j = i := by omega
        subst this
        refine ⟨by omega, by omega, by omega, by rw [hRi, hEi, hpv e q2], fun e' y1 y2 y3 => ?_⟩
        rw [hRi, hEi, hpv e' y1]
        exact q5 e' y1 y2 y3
    have n3 : RBd R' m i := fun e' h1 h2 => by
      rcases Nat.lt_or_ge i e' with h | h
      · rw [hR' e' h]; exact hRb e' h h2
      · have : e' = i := by omega
        subst this
        rw [hRi]; exact ⟨q6, q7⟩
    have n4 : ∀ q, q ≤ W → DQ g m R' q i (dnx g m R i q (D q)) := fun q hq => (hDS q hq).cong (fun e' h1 _ => hR' e' h1)
    have zt : (((i + 1 : Nat) : Int) - 1) = (i : Int) := by omega
    rw [zt]
    refine s_iload_n (i := 3) dX8_plan_44 rfl rfl ?_
    refine s_if_lt (tgt := 77) dX8_plan_45 (by decide) (fun c45 => absurd c45 (by rw [z0, zI_lt (by omega) (by omega) (by omega) (by omega)]; omega)) (fun c45 => ?_)
    refine s_aload_n (i := 0) dX8_plan_48 rfl rfl ?_
    refine s_iload_n (i := 3) dX8_plan_49 rfl rfl ?_
    refine s_iload_n (i := 2) dX8_plan_50 rfl rfl ?_
    refine s_cV_II (My := mX8_chooseEnd) dX8_plan_51 wM_X8_56 cb_yX8_chooseEnd ci_yX8_chooseEnd (by assumption) (by assumption) (Nat.le_of_ble_eq_true rfl) (by decide) (s_d (by omega) (c_choose (d := 0) hPA hW hm (by omega) hRb hDQ (h45 _ (Nat.le_refl _) ht) (fun q hq => hwn (by omega) q hq) (fun I1 hf1 hw1 hv1 hx45 hx46 => ?_)))
    rw [q1] at hx45 hx46
    dsimp only at hx45 hx46
    have hR1 : RowIs T I1 r cap g m := hR.fr (hf1 r (by omega)) (hf1 (r + 1) (by omega))
    obtain ⟨k1, k2, k3, k4, k5, k6, k7⟩ := id hR1.1
    have g45 : ∀ e', i ≤ e' → e' ≤ m → (I1 45 e').toInt = R' e' := fun e' h1 h2 => by
      rw [hx45]
      rcases Nat.lt_or_ge i e' with h | h
      · rw [iu_j (by omega), hR' e' h]; exact h45 e' h h2
      · have : e' = i := by omega
        subst this
        rw [iu_at, hRi, zI_t (by omega) (by omega)]
    have g46 : ∀ e', i ≤ e' → e' < m → (I1 46 e').toInt = E' e' := fun e' h1 h2 => by
      rw [hx46]
      rcases Nat.lt_or_ge i e' with h | h
      · rw [iu_j (by omega), hE' e' h]; exact h46 e' h h2
      · have : e' = i := by omega
        subst this
        rw [iu_at, hEi, zI_t (by omega) (by omega)]
    refine s_iload_n (i := 3) dX8_plan_54 rfl rfl ?_
    refine s_if_le (tgt := 71) dX8_plan_55 (by decide) (fun c55 => ?_) (fun c55 => ?_)
    · refine s_iinc dX8_plan_71 rfl (zI_dec _) (by decide) (by simp only [sl, sl2, rm, Value.category, reduceIte, Nat.reduceAdd, Nat.reduceEqDiff, reduceCtorEq]; rfl) ?_
      refine s_goto (tgt := 44) dX8_plan_74 (by decide) ?_
      first
      | (exact ih R' E' _ I2 (by omega) n1 n2 n3 n4 (fun e h1 h2 => by rw [hf2 45 (by omega)]; exact g45 e h1 h2) (fun e h1 h2 => by rw [hf2 46 (by omega)]; exact g46 e h1 h2) (fun _ => hw2) (hR1.fr (hf2 r (by omega)) (hf2 (r + 1) (by omega))) (fun I' R E a b c => hq I' R E (fun b hb => (a b hb).trans ((hf2 b (by omega)).trans (hf1 b hb))) (fun q hq => (b q hq).trans ((hv2 q hq).trans (hv1 q hq))) c))
      | (rw [z0, zI_le (by omega) (by omega) (by omega) (by omega)] at c55
         exact ih R' E' _ I1 (by omega) n1 n2 n3 n4 g45 g46 (fun h => absurd h (by omega)) hR1 (fun I' R E a b c => hq I' R E (fun b hb => (a b hb).trans (hf1 b hb)) (fun q hq => (b q hq).trans (hv1 q hq)) c))
    · rw [z0, zI_le (by omega) (by omega) (by omega) (by omega)] at c55
      have hgz := gapz_in hg (i := i) (by omega) (by omega)
      have hb20 : bz g i ≤ 20 := bz_le hg (by omega) (by omega)
      refine s_aload_n (i := 0) dX8_plan_58 rfl rfl ?_
      refine s_aload_n (i := 1) dX8_plan_59 rfl rfl ?_
      refine s_iload_n (i := 3) dX8_plan_60 rfl rfl ?_
      refine s_cV_I (My := mX9_gapBefore) dX8_plan_61 wM_X8_60 cb_yX9_gapBefore ci_yX9_gapBefore (by assumption) (by assumption) (Nat.le_of_ble_eq_true rfl) (by decide) (c_gap hR1 (by omega) (by omega) ?_)
      refine s_cSN_I (My := mX11_bitsOf) dX8_plan_64 wX_X8_64 cb_yX11_bitsOf wT_yX11_bitsOf (Nat.le_of_ble_eq_true rfl) (by decide) (c_bits hgz.2.1 hgz.2.2 ?_)
      refine s_topi (y := zI (bz g i)) (by rw [hgz.1]; rfl) ?_
      refine s_iload_n (i := 2) dX8_plan_67 rfl rfl ?_
      refine s_cV_II (My := mX8_passGap) dX8_plan_68 wM_X8_67 cb_yX8_passGap ci_yX8_passGap (by assumption) (by assumption) (Nat.le_of_ble_eq_true rfl) (by decide) (s_d (by omega) (c_ppass (d := 0) hPA hW hm (by omega) (by omega) hb20 hw1 (fun I2 hf2 hw2 hv2 => ?_)))
      refine s_iinc dX8_plan_71 rfl (zI_dec _) (by decide) (by simp only [sl, sl2, rm, Value.category, reduceIte, Nat.reduceAdd, Nat.reduceEqDiff, reduceCtorEq]; rfl) ?_
      refine s_goto (tgt := 44) dX8_plan_74 (by decide) ?_
      first
      | (exact ih R' E' _ I2 (by omega) n1 n2 n3 n4 (fun e h1 h2 => by rw [hf2 45 (by omega)]; exact g45 e h1 h2) (fun e h1 h2 => by rw [hf2 46 (by omega)]; exact g46 e h1 h2) (fun _ => hw2) (hR1.fr (hf2 r (by omega)) (hf2 (r + 1) (by omega))) (fun I' R E a b c => hq I' R E (fun b hb => (a b hb).trans ((hf2 b (by omega)).trans (hf1 b hb))) (fun q hq => (b q hq).trans ((hv2 q hq).trans (hv1 q hq))) c))
      | (rw [z0, zI_le (by omega) (by omega) (by omega) (by omega)] at c55
         exact ih R' E' _ I1 (by omega) n1 n2 n3 n4 g45 g46 (fun h => absurd h (by omega)) hR1 (fun I' R E a b c => hq I' R E (fun b hb => (a b hb).trans (hf1 b hb)) (fun q hq => (b q hq).trans (hv1 q hq)) c))
set_option maxRecDepth 100000 in
set_option maxHeartbeats 1000000 in
theorem c_plan {G : fG} {x0 : Nat} {l : Launch} {d k n : Nat} {T : fT} {I : fI} {J : fJ} {Q : Option Value → fT → fI → fJ → Prop} {r cap m : Nat} {g : Nat → Int} (hP : PackIs T I) (hr : r < 44 ∨ 110 < r) (hr2 : r + 1 < 44 ∨ 110 < r + 1) (hm : m ≤ 200) (hg : GapOk g m) (hR : RowIs T I r cap g m) (hq : ∀ (I' : fI) (R : Nat → Int) (E : Nat → Nat), (∀ b, (b < 45 ∨ b = 47 ∨ 110 < b) → I' b = I b) → (∀ q, q < 21 → I' (48 + 3 * q) 0 = I (48 + 3 * q) 0) → PlanIs I' g m R E → Q none T I' J) : PW G x0 l mX8_plan (d + 3) (ZM G x0 Q) k n 0 [(0, .ref (x0 + 44)), (1, .ref (x0 + r))] [] T I J := by
  obtain ⟨hPA, hPw⟩ := id hP
  obtain ⟨p1, p2, p3, p4, p5, p6, p7, p8, p9, p10, p11, p12⟩ := id hPA
  have e44 : (44 : Nat) < T.1 := by omega
  have e45 : (45 : Nat) < T.1 := by omega
  have e46 : (46 : Nat) < T.1 := by omega
  have e47 : (47 : Nat) < T.1 := by omega
  obtain ⟨k1, k2, k3, k4, k5, k6, k7⟩ := id hR.1
  have k8 := hR.2.1
  have k9 := hR.2.2.1
  have hnm : (zI m).toNatClampNeg = m := by rw [zI_n (by omega) (by omega)]; simp
  refine s_aload_n (i := 1) dX8_plan_0 rfl rfl ?_
  refine s_cS_R (My := mX8_widestOf) dX8_plan_1 wM_X8_49 cb_yX8_widestOf wT_yX8_widestOf (Nat.le_of_ble_eq_true rfl) (by decide) (s_d (by omega) (c_widest (d := 0) hR hg (by omega) (fun W hW hbz => ?_)))
  refine s_istore_n (i := 2) dX8_plan_4 rfl (by decide) (by simp only [sl, sl2, rm, Value.category, reduceIte, Nat.reduceAdd, Nat.reduceEqDiff, reduceCtorEq]; rfl) ?_
  refine s_iconst (v := 0) dX8_plan_5 (by decide) ?_
  refine s_istore_n (i := 3) dX8_plan_6 rfl (by decide) (by simp only [sl, sl2, rm, Value.category, reduceIte, Nat.reduceAdd, Nat.reduceEqDiff, reduceCtorEq]; rfl) ?_
  refine l_pEmpty hPA hW I hPw (fun I1 e hf1 hw1 hv1 => ?_) (W + 1) 0 I (by omega) (fun _ _ => rfl) (fun q _ h => absurd h (Nat.not_lt_zero q)) (fun _ _ => rfl)
  have hR1 : RowIs T I1 r cap g m := hR.fr (hf1 r (by omega)) (hf1 (r + 1) (by omega))
  have k9' : (I1 r 1).toInt = m := hR1.2.2.1
  refine s_aload_n (i := 0) dX8_plan_27 rfl rfl ?_
  refine s_getR dX8_plan_28 fl_X8_9 (by assumption) (by assumption) (by assumption) ?_
  refine s_aload_n (i := 1) dX8_plan_31 rfl rfl ?_
  refine s_getI dX8_plan_32 fl_X8_41 (by assumption) (by assumption) ?_
  refine s_iconst (v := 0) dX8_plan_35 (by decide) ?_
  rw [t_zI k9']
  refine s_iast dX8_plan_36 (by assumption) (by assumption) (by rw [p7]; exact z_in (by omega) (by omega) (by omega)) ?_
  refine s_aload_n (i := 1) dX8_plan_37 rfl rfl ?_
  refine s_getI dX8_plan_38 fl_X8_41 (by assumption) (by assumption) ?_
  refine s_iconst (v := 1) dX8_plan_41 (by decide) ?_
  rw [iu_b (by omega)]
  refine s_isub dX8_plan_42 ?_
  refine s_topi (y := zI ((m : Int) - 1)) (by rw [t_zI k9', z1, zI_sub]) ?_
  refine s_istore_n (i := 3) dX8_plan_43 rfl (by decide) (by simp only [sl, sl2, rm, Value.category, reduceIte, Nat.reduceAdd, Nat.reduceEqDiff, reduceCtorEq]; rfl) ?_
  rw [hnm]
  refine l_plan hPA hr hr2 hW hm hg hbz m (fun _ => 0) (fun x => x) (fun _ => []) _ (Nat.le_refl m) rfl (fun i h1 h2 => absurd h1 (by omega)) (fun e h1 h2 => by dsimp only; omega) (fun q _ => DQ.nil) (fun e h1 h2 => ?_) (fun e h1 h2 => absurd h1 (by omega)) (fun h q hq => ?_) (hR1.fr (iu_ne (by omega)) (iu_ne (by omega))) (fun I' R E a b c => hq I' R E (fun b hb => (a b hb).trans ((iu_ne (by omega)).trans (hf1 b (by omega)))) (fun q hq => (b q hq).trans (by rw [iu_ne (by omega)]; exact hv1 q hq)) c)
  · rw [show e = m by omega, iu_at]; rfl
  · have hpz : Pw g m q (m - 1) = 0 := by unfold Pw; rw [show m - 1 - (m - 1) = 0 by omega]; rfl
    rw [hpz]
    exact (hw1 q hq).fr (iu_ne (by omega)) (iu_ne (by omega)) (iu_ne (by omega))
set_option maxRecDepth 100000 in
set_option maxHeartbeats 1000000 in
theorem c_leastCost {G : fG} {x0 : Nat} {l : Launch} {d k n : Nat} {T : fT} {I : fI} {J : fJ} {Q : Option Value → fT → fI → fJ → Prop} {r cap m : Nat} {g : Nat → Int} (hP : PackIs T I) (hr : r < 44 ∨ 110 < r) (hr2 : r + 1 < 44 ∨ 110 < r + 1) (hm : m ≤ 200) (hg : GapOk g m) (hR : RowIs T I r cap g m) (hq : ∀ (I' : fI) (R : Nat → Int) (E : Nat → Nat), (∀ b, (b < 45 ∨ b = 47 ∨ 110 < b) → I' b = I b) → (∀ q, q < 21 → I' (48 + 3 * q) 0 = I (48 + 3 * q) 0) → PlanIs I' g m R E → Q (some (.int (zI (R 0 / 256)))) T I' J) : PW G x0 l mX8_leastCost (d + 4) (ZM G x0 Q) k n 0 [(0, .ref (x0 + 44)), (1, .ref (x0 + r))] [] T I J := by
  obtain ⟨hPA, hPw⟩ := id hP
  obtain ⟨p1, p2, p3, p4, p5, p6, p7, p8, p9, p10, p11, p12⟩ := id hPA
  have e44 : (44 : Nat) < T.1 := by omega
  have e45 : (45 : Nat) < T.1 := by omega
  have e46 : (46 : Nat) < T.1 := by omega
  have e47 : (47 : Nat) < T.1 := by omega
  obtain ⟨k1, k2, k3, k4, k5, k6, k7⟩ := id hR.1
  have k8 := hR.2.1
  have k9 := hR.2.2.1
  refine s_aload_n (i := 0) dX8_leastCost_0 rfl rfl ?_
  refine s_aload_n (i := 1) dX8_leastCost_1 rfl rfl ?_
  refine s_cV_R (My := mX8_plan) dX8_leastCost_2 wM_X8_27 cb_yX8_plan ci_yX8_plan (by assumption) (by assumption) (Nat.le_of_ble_eq_true rfl) (by decide) (s_d (by omega) (c_plan (d := 0) hP hr hr2 hm hg hR (fun I1 R E hf1 hv1 hPl => ?_)))
  refine s_aload_n (i := 0) dX8_leastCost_5 rfl rfl ?_
  refine s_getR dX8_leastCost_6 fl_X8_9 (by assumption) (by assumption) (by assumption) ?_
  refine s_iconst (v := 0) dX8_leastCost_9 (by decide) ?_
  refine s_iald dX8_leastCost_10 (by assumption) (by assumption) (by rw [p7, z0]; exact z_in (by omega) (by omega) (by omega)) ?_
  have hR0 := hPl.2.1 0 (Nat.le_refl 0) (Nat.zero_le m)
  refine s_topi (y := zI (R 0)) (t_zI (hPl.2.2.1 0 (Nat.zero_le m))) ?_
  refine s_sipush (v := 256) dX8_leastCost_11 (by decide) ?_
  refine s_idiv dX8_leastCost_14 (by decide) ?_
  refine s_iret dX8_leastCost_15 rfl ?_
  show Q (some (.int (zI _ / zI 256))) T I1 J
  rw [zI_div (by omega) (by omega) (by omega) (by omega)]
  exact hq I1 R E hf1 hv1 hPl
/-- where the blocks of a plan begin -/
def pst (E : Nat → Nat) : Nat → Nat
  | 0 => 0
  | j + 1 => E (pst E j)
theorem pst_mono {g : Nat → Int} {m : Nat} {R : Nat → Int} {E : Nat → Nat} (h : Plan g m R E) {nb : Nat} (hn : ∀ j, j < nb → pst E j < m) : ∀ j, j ≤ nb → j ≤ pst E j := by
  intro j
  induction j with
  | zero => intro _; exact Nat.zero_le _
  | succ j ih =>
    intro hj
    have h1 := ih (by omega)
    have h2 := (h.2 _ (hn j (by omega))).1
    simp only [pst]
    omega
set_option maxRecDepth 100000 in
set_option maxHeartbeats 1000000 in
theorem l_pcut {G : fG} {x0 : Nat} {l : Launch} {d k n : Nat} {T : fT} {J : fJ} {Q : Option Value → fT → fI → fJ → Prop} {c m : Nat} {g : Nat → Int} {R : Nat → Int} {E : Nat → Nat} (hPA : PackAt T) (hm : m ≤ 200) (hPl : Plan g m R E) (hc : c + 3 < 44 ∨ 110 < c) : ∀ (z i nb : Nat) (I : fI), m - i ≤ z → i ≤ m → i ≤ pst E nb → pst E nb ≤ m → (∀ j, j < nb → pst E j < i) → (∀ e, e < m → (I 46 e).toInt = E e) → CutIs T I c g m (fun j => pst E j) nb →
    (hq : ∀ (I' : fI) (nb : Nat), fr I I' [c, c + 3] → pst E nb = m → (∀ j, j < nb → pst E j < m) → CutIs T I' c g m (fun j => pst E j) nb → Q none T I' J) → PW G x0 l mX8_cut (d + 4) (ZM G x0 Q) k n 17 [(0, .ref (x0 + 44)), (1, .ref (x0 + c)), (2, .int (zI (pst E nb))), (3, .int (zI i))] [] T I J := by
  obtain ⟨p1, p2, p3, p4, p5, p6, p7, p8, p9, p10, p11, p12⟩ := id hPA
  have e44 : (44 : Nat) < T.1 := by omega
  have e45 : (45 : Nat) < T.1 := by omega
  have e46 : (46 : Nat) < T.1 := by omega
  have e47 : (47 : Nat) < T.1 := by omega
  intro z
  induction z with
  | zero =>
    intro i nb I hz him hin hnm hlt h46 hC hq
    obtain ⟨hCA, hR, hC3, hC4, hC5⟩ := id hC
    obtain ⟨a1, a2, a3, a4, a5, a6, a7, a8⟩ := id hCA
    obtain ⟨k1, k2, k3, k4, k5, k6, k7⟩ := id hR.1
    have k8 := hR.2.1
    have k9 := hR.2.2.1
    refine s_iload_n (i := 3) dX8_cut_17 rfl rfl ?_
    refine s_aload_n (i := 1) dX8_cut_18 rfl rfl ?_
    refine s_getR dX8_cut_19 fl_X8_31 (by assumption) (by assumption) (by assumption) ?_
    refine s_getI dX8_cut_22 fl_X8_41 (by assumption) (by assumption) ?_
    refine s_icmp_ge (tgt := 51) dX8_cut_25 (by decide) (fun h25 => ?_) (fun h25 => absurd (by rw [t_zI k9, zI_le (by omega) (by omega) (by omega) (by omega)]; omega) h25)
    refine s_ret dX8_cut_51 rfl ?_
    exact hq I nb (fun _ _ => rfl) (by omega) (fun j hj => by have := hlt j hj; omega) hC
  | succ z ih =>
    intro i nb I hz him hin hnm hlt h46 hC hq
    obtain ⟨hCA, hR, hC3, hC4, hC5⟩ := id hC
    obtain ⟨a1, a2, a3, a4, a5, a6, a7, a8⟩ := id hCA
    obtain ⟨k1, k2, k3, k4, k5, k6, k7⟩ := id hR.1
    have k8 := hR.2.1
    have k9 := hR.2.2.1
    refine s_iload_n (i := 3) dX8_cut_17 rfl rfl ?_
    refine s_aload_n (i := 1) dX8_cut_18 rfl rfl ?_
    refine s_getR dX8_cut_19 fl_X8_31 (by assumption) (by assumption) (by assumption) ?_
    refine s_getI dX8_cut_22 fl_X8_41 (by assumption) (by assumption) ?_
    refine s_icmp_ge (tgt := 51) dX8_cut_25 (by decide) (fun c25 => ?_) (fun c25 => ?_)
    · refine s_ret dX8_cut_51 rfl ?_
      rw [t_zI k9, zI_le (by omega) (by omega) (by omega) (by omega)] at c25
      exact hq I nb (fun _ _ => rfl) (by omega) (fun j hj => by have := hlt j hj; omega) hC
    · rw [t_zI k9, zI_le (by omega) (by omega) (by omega) (by omega)] at c25
      have hni : (zI i).toNatClampNeg = i := by rw [zI_n (by omega) (by omega)]; simp
      refine s_iload_n (i := 3) dX8_cut_28 rfl rfl ?_
      refine s_iload_n (i := 2) dX8_cut_29 rfl rfl ?_
      refine s_icmp_ne (tgt := 45) dX8_cut_30 (by decide) (fun c30 => ?_) (fun c30 => ?_)
      · refine s_iinc dX8_cut_45 rfl (zI_inc _) (by decide) (by simp only [sl, sl2, rm, Value.category, reduceIte, Nat.reduceAdd, Nat.reduceEqDiff, reduceCtorEq]; rfl) ?_
        refine s_goto (tgt := 17) dX8_cut_48 (by decide) ?_
        rw [zI_eq (by omega) (by omega) (by omega) (by omega)] at c30
        exact ih (i + 1) nb I (by omega) (by omega) (by omega) hnm (fun j hj => by have := hlt j hj; omega) h46 hC hq
      · rw [zI_eq (by omega) (by omega) (by omega) (by omega)] at c30
        have c30' : i = pst E nb := by omega
        have hnb := pst_mono hPl (nb := nb) (fun j hj => by have := hlt j hj; omega) nb (Nat.le_refl nb)
        have hpe := hPl.2 i (by omega)
        refine s_aload_n (i := 1) dX8_cut_33 rfl rfl ?_
        refine s_iload_n (i := 3) dX8_cut_34 rfl rfl ?_
        refine s_cV_I (My := mX2_startBlock) dX8_cut_35 wM_X8_46 cb_yX2_startBlock ci_yX2_startBlock (by assumption) (by assumption) (Nat.le_of_ble_eq_true rfl) (by decide) (c_startBlock hC (by omega) (by omega) (fun I1 hf1 hC1 => ?_))
        refine s_aload_n (i := 0) dX8_cut_38 rfl rfl ?_
        refine s_getR dX8_cut_39 fl_X8_15 (by assumption) (by assumption) (by assumption) ?_
        refine s_iload_n (i := 3) dX8_cut_42 rfl rfl ?_
        refine s_iald dX8_cut_43 (by assumption) (by assumption) (by rw [p9]; exact z_in (by omega) (by omega) (by omega)) ?_
        refine s_topi (y := zI (E i)) (by rw [hni, hf1 46 (by simp; omega)]; exact t_zI (h46 i (by omega))) ?_
        refine s_istore_n (i := 2) dX8_cut_44 rfl (by decide) (by simp only [sl, sl2, rm, Value.category, reduceIte, Nat.reduceAdd, Nat.reduceEqDiff, reduceCtorEq]; rfl) ?_
        refine s_iinc dX8_cut_45 rfl (zI_inc _) (by decide) (by simp only [sl, sl2, rm, Value.category, reduceIte, Nat.reduceAdd, Nat.reduceEqDiff, reduceCtorEq]; rfl) ?_
        refine s_goto (tgt := 17) dX8_cut_48 (by decide) ?_
        have hC1' : CutIs T I1 c g m (fun j => pst E j) (nb + 1) := ⟨hC1.1, hC1.2.1, hC1.2.2.1, hC1.2.2.2.1, fun j hj => by
          have h := hC1.2.2.2.2 j hj
          dsimp only at h
          by_cases e : j = nb
          · rw [if_pos e] at h; rw [h, e]; omega
          · rw [if_neg e] at h; exact h⟩
        refine s_lv (lv' := [(0, .ref (x0 + 44)), (1, .ref (x0 + c)), (2, .int (zI (pst E (nb + 1)))), (3, .int (zI ((i + 1 : Nat) : Int)))]) ⟨rfl, rfl, (by rw [c30']; rfl), rfl, trivial⟩ ?_
        have hee : pst E (nb + 1) = E i := by rw [c30']; rfl
        exact ih (i + 1) (nb + 1) I1 (by omega) (by omega) (by omega) (by omega) (fun j hj => by
          rcases Nat.lt_or_ge j nb with h | h
          · have := hlt j h; omega
          · rw [show j = nb by omega]; omega) (fun e he => by rw [hf1 46 (by simp; omega)]; exact h46 e he) hC1' (fun I' nb' a b c dd => hq I' nb' (fr_trans hf1 a) b c dd)
set_option maxRecDepth 100000 in
set_option maxHeartbeats 1000000 in
theorem c_pcut {G : fG} {x0 : Nat} {l : Launch} {d k n : Nat} {T : fT} {I : fI} {J : fJ} {Q : Option Value → fT → fI → fJ → Prop} {c m nb0 : Nat} {g s : Nat → Int} (hP : PackIs T I) (hc : c + 3 < 44 ∨ 110 < c) (hm : m ≤ 200) (hg : GapOk g m) (hC : CutIs T I c g m s nb0) (hq : ∀ (I' : fI) (R : Nat → Int) (E : Nat → Nat) (nb : Nat), (∀ b, (b < 45 ∨ b = 47 ∨ 110 < b) → b ≠ c → b ≠ c + 3 → I' b = I b) → PackIs T I' → Plan g m R E → pst E nb = m → (∀ j, j < nb → pst E j < m) → CutIs T I' c g m (fun j => pst E j) nb → Q none T I' J) : PW G x0 l mX8_cut (d + 4) (ZM G x0 Q) k n 0 [(0, .ref (x0 + 44)), (1, .ref (x0 + c))] [] T I J := by
  obtain ⟨hPA, hPw⟩ := id hP
  obtain ⟨p1, p2, p3, p4, p5, p6, p7, p8, p9, p10, p11, p12⟩ := id hPA
  have e44 : (44 : Nat) < T.1 := by omega
  have e45 : (45 : Nat) < T.1 := by omega
  have e46 : (46 : Nat) < T.1 := by omega
  have e47 : (47 : Nat) < T.1 := by omega
  obtain ⟨hCA, hR, hC3, hC4, hC5⟩ := id hC
  obtain ⟨a1, a2, a3, a4, a5, a6, a7, a8⟩ := id hCA
  obtain ⟨k1, k2, k3, k4, k5, k6, k7⟩ := id hR.1
  have k8 := hR.2.1
  have k9 := hR.2.2.1
  refine s_aload_n (i := 0) dX8_cut_0 rfl rfl ?_
  refine s_aload_n (i := 1) dX8_cut_1 rfl rfl ?_
  refine s_getR dX8_cut_2 fl_X8_31 (by assumption) (by assumption) (by assumption) ?_
  refine s_cV_R (My := mX8_plan) dX8_cut_5 wM_X8_27 cb_yX8_plan ci_yX8_plan (by assumption) (by assumption) (Nat.le_of_ble_eq_true rfl) (by decide) (s_d (by omega) (c_plan (d := 0) hP (by omega) (by omega) hm hg hR (fun I1 R E hf1 hv1 hPl => ?_)))
  refine s_aload_n (i := 1) dX8_cut_8 rfl rfl ?_
  refine s_iconst (v := 0) dX8_cut_9 (by decide) ?_
  refine s_putI dX8_cut_10 fp_X8_37 (by assumption) (by assumption) ?_
  refine s_iconst (v := 0) dX8_cut_13 (by decide) ?_
  refine s_istore_n (i := 2) dX8_cut_14 rfl (by decide) (by simp only [sl, sl2, rm, Value.category, reduceIte, Nat.reduceAdd, Nat.reduceEqDiff, reduceCtorEq]; rfl) ?_
  refine s_iconst (v := 0) dX8_cut_15 (by decide) ?_
  refine s_istore_n (i := 3) dX8_cut_16 rfl (by decide) (by simp only [sl, sl2, rm, Value.category, reduceIte, Nat.reduceAdd, Nat.reduceEqDiff, reduceCtorEq]; rfl) ?_
  have hR1 : RowIs T I1 (c + 1) 200 g m := hR.fr (hf1 _ (by omega)) (hf1 _ (by omega))
  refine l_pcut hPA hm hPl.1 hc m 0 0 _ (by omega) (Nat.zero_le m) (Nat.zero_le _) (Nat.zero_le m) (fun j hj => absurd hj (Nat.not_lt_zero j)) (fun e he => by rw [iu_ne (by omega)]; exact hPl.2.2.2 e he) ⟨hCA, hR1.fr (iu_ne (by omega)) (iu_ne (by omega)), by omega, by rw [iu_at]; rfl, fun j hj => absurd hj (Nat.not_lt_zero j)⟩ (fun I' nb a b c' dd => ?_)
  refine hq I' R E nb (fun b h1 h2 h3 => ((a b (by simp; omega)).trans (iu_ne (by omega))).trans (hf1 b h1)) ⟨hPA, fun w hw => ?_⟩ hPl.1 b c' dd
  rw [a _ (by simp; omega), iu_ne (by omega), hv1 w hw]
  exact hPw w hw
