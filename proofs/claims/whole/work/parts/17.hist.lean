/-- a list's state: numbers, how many, starts of blocks, how many -/
abbrev LSt : Type := (Nat → Int) × Nat × (Nat → Int) × Nat
def CutL (T : fT) (I : fI) (c : Nat) (L : LSt) : Prop := CutIs T I c L.1 L.2.1 L.2.2.1 L.2.2.2
def HistAt (T : fT) : Prop := 200 ≤ T.1 + 60 ∧ T.2.1 2 = 5 ∧ T.2.2.2 2 0 = some 3 ∧ T.2.2.2 2 1 = some 4 ∧ T.2.1 3 = 13 ∧ T.2.2.1 3 = 8 ∧ T.2.1 4 = 15 ∧ T.2.2.1 4 = 8 ∧ ∀ s, s < 8 → T.2.2.2 4 s = some (5 + 4 * s) ∧ CutAt T (5 + 4 * s)
def hslot (La q : Nat) : Nat := (La + 8 - q) % 8
/-- the latest state first -/
def HistIs (T : fT) (I : fI) (H : List (Nat × LSt)) : Prop := HistAt T ∧ H.length ≤ 8 ∧ (I 2 3).toInt = H.length ∧ ∃ La : Nat, La < 8 ∧ (I 2 2).toInt = La ∧ ∀ q e, H[q]? = some e → (I 3 (hslot La q)).toInt = e.1 ∧ CutL T I (5 + 4 * hslot La q) e.2
def histS : List Nat := [2, 3, 5, 6, 7, 8, 9, 10, 11, 12, 13, 14, 15, 16, 17, 18, 19, 20, 21, 22, 23, 24, 25, 26, 27, 28, 29, 30, 31, 32, 33, 34, 35, 36]
theorem histS_in {b : Nat} (h : b = 2 ∨ b = 3 ∨ (5 ≤ b ∧ b ≤ 36)) : b ∈ histS := by
  have h2 : b < 37 := by omega
  revert h
  revert h2
  revert b
  decide
theorem HistAt.tq {T T' : fT} (h : HistAt T) (q : Tq T T') : HistAt T' := by
  obtain ⟨a1, a2, a3, a4, a5, a6, a7, a8, a9⟩ := h
  obtain ⟨q1, q2, q3, q4⟩ := id q
  exact ⟨by omega, by rw [q2]; exact a2, by rw [q4 _ _ (by omega) (by omega)]; exact a3, by rw [q4 _ _ (by omega) (by omega)]; exact a4, by rw [q2]; exact a5, by rw [q3]; exact a6, by rw [q2]; exact a7, by rw [q3]; exact a8, fun s hs => ⟨by rw [q4 _ _ (by omega) (by omega)]; exact (a9 s hs).1, (a9 s hs).2.tq q ⟨by omega, by omega⟩⟩⟩
theorem HistIs.tq {T T' : fT} {I : fI} {H : List (Nat × LSt)} (h : HistIs T I H) (q : Tq T T') : HistIs T' I H := by
  obtain ⟨h1, h2, h3, La, h4, h5, h6⟩ := h
  have hl : ∀ q, hslot La q < 8 := fun q => Nat.mod_lt _ (by omega)
  exact ⟨h1.tq q, h2, h3, La, h4, h5, fun z e he => ⟨(h6 z e he).1, (h6 z e he).2.tq q ⟨by have := hl z; omega, by have := hl z; omega⟩⟩⟩
theorem HistIs.fr {T : fT} {I I' : fI} {H : List (Nat × LSt)} (h : HistIs T I H) (hf : ∀ b, b ∈ histS → I' b = I b) : HistIs T I' H := by
  obtain ⟨h1, h2, h3, La, h4, h5, h6⟩ := h
  have hl : ∀ q, hslot La q < 8 := fun q => Nat.mod_lt _ (by omega)
  refine ⟨h1, h2, by rw [hf 2 (histS_in (by omega))]; exact h3, La, h4, by rw [hf 2 (histS_in (by omega))]; exact h5, fun z e he => ⟨by rw [hf 3 (histS_in (by omega))]; exact (h6 z e he).1, (h6 z e he).2.fr ?_ ?_ ?_ ?_⟩⟩ <;> exact hf _ (histS_in (by have := hl z; omega))
theorem zI_rem {a b : Int} (ha : 0 ≤ a) (ha2 : a < 2147483648) (hb : 0 < b) (hb2 : b < 2147483648) : zI a - zI a / zI b * zI b = zI (a % b) := by
  rw [zI_div ha ha2 hb hb2, zI_mul, zI_sub]
  congr 1
  have := Int.mul_ediv_add_emod a b
  rw [Int.mul_comm] at this
  omega
set_option maxRecDepth 100000 in
set_option maxHeartbeats 4000000 in
theorem c_record {G : fG} {x0 : Nat} {l : Launch} {d k n : Nat} {T : fT} {I : fI} {J : fJ} {Q : Option Value → fT → fI → fJ → Prop} {c li : Nat} {L : LSt} {H : List (Nat × LSt)} (hH : HistIs T I H) (hC : CutL T I c L) (hc : 40 ≤ c) (hli : li < 6) (hq : ∀ I', fr I I' histS → HistIs T I' (((li, L) :: H).take 8) → Q none T I' J) : PW G x0 l mX5_record (d + 3) (ZM G x0 Q) k n 0 [(0, .ref (x0 + 2)), (1, .int (zI li)), (2, .ref (x0 + c))] [] T I J := by
  obtain ⟨hA, h2, h3, La, h4, h5, h6⟩ := id hH
  obtain ⟨a1, a2, a3, a4, a5, a6, a7, a8, a9⟩ := id hA
  obtain ⟨Lb, hLb⟩ : ∃ Lb : Nat, Lb = (La + 1) % 8 := ⟨_, rfl⟩
  have hLb8 : Lb < 8 := by omega
  have hst := a9 Lb hLb8
  have e2 : (2 : Nat) < T.1 := by omega
  have e3 : (3 : Nat) < T.1 := by omega
  have e4 : (4 : Nat) < T.1 := by omega
  obtain ⟨k1, k2, -⟩ := id hC.1
  obtain ⟨y1, y2, -⟩ := id hst.2
  refine s_aload_n (i := 0) dX5_record_0 rfl rfl ?_
  refine s_aload_n (i := 0) dX5_record_1 rfl rfl ?_
  refine s_getI dX5_record_2 fl_X5_22 (by assumption) (by assumption) ?_
  refine s_iconst (v := 1) dX5_record_5 (by decide) ?_
  refine s_iadd dX5_record_6 ?_
  refine s_bipush (v := 8) dX5_record_7 (by decide) ?_
  refine s_irem dX5_record_9 (by decide) ?_
  refine s_topi (y := zI Lb) (by rw [t_zI h5, z1, zI_add]; show zI _ - zI _ / zI 8 * zI 8 = _; rw [zI_rem (by omega) (by omega) (by omega) (by omega)]; congr 1; omega) ?_
  refine s_putI dX5_record_10 fp_X5_22 (by assumption) (by assumption) ?_
  refine s_aload_n (i := 0) dX5_record_13 rfl rfl ?_
  refine s_getR dX5_record_14 fl_X5_9 (by assumption) (by assumption) (by assumption) ?_
  refine s_aload_n (i := 0) dX5_record_17 rfl rfl ?_
  refine s_getI dX5_record_18 fl_X5_22 (by assumption) (by assumption) ?_
  refine s_topi (y := zI Lb) iu_at ?_
  refine s_iload_n (i := 1) dX5_record_21 rfl rfl ?_
  refine s_iast dX5_record_22 (by assumption) (by assumption) (by rw [a6]; exact z_in (by omega) (by omega) (by omega)) ?_
  refine s_aload_n (i := 0) dX5_record_23 rfl rfl ?_
  refine s_getR dX5_record_24 fl_X5_17 (by assumption) (by assumption) (by assumption) ?_
  refine s_aload_n (i := 0) dX5_record_27 rfl rfl ?_
  refine s_getI dX5_record_28 fl_X5_22 (by assumption) (by assumption) ?_
  refine s_topi (y := zI Lb) (by rw [iu_b (by omega), iu_at]) ?_
  refine s_aldC dX5_record_31 (by assumption) (by assumption) (by rw [a8]; exact z_in (by omega) (by omega) (by omega)) (by rw [zI_n (by omega) (by omega)]; exact hst.1) ?_
  refine s_aload_n (i := 2) dX5_record_32 rfl rfl ?_
  have hC1 : CutIs T (iu (iu I 2 2 (zI Lb)) 3 Lb (zI li)) c L.1 L.2.1 L.2.2.1 L.2.2.2 := CutIs.fr hC (by rw [iu_ne (by omega), iu_ne (by omega)]) (by rw [iu_ne (by omega), iu_ne (by omega)]) (by rw [iu_ne (by omega), iu_ne (by omega)]) (by rw [iu_ne (by omega), iu_ne (by omega)])
  rw [zI_n (by omega) (by omega)]
  simp only [Int.toNat_natCast]
  refine s_cV_R (My := mX2_copyFrom) dX5_record_33 wM_X5_26 cb_yX2_copyFrom ci_yX2_copyFrom (by assumption) (by assumption) (Nat.le_of_ble_eq_true rfl) (by decide) (c_cutCopy (o := c) hst.2 hC1 (by omega) (fun I1 hf1 hC2 => ?_))
  have g2 : I1 2 = iu (iu I 2 2 (zI Lb)) 3 Lb (zI li) 2 := hf1 2 (by simp; omega)
  have g3 : I1 3 = iu (iu I 2 2 (zI Lb)) 3 Lb (zI li) 3 := hf1 3 (by simp; omega)
  refine s_aload_n (i := 0) dX5_record_36 rfl rfl ?_
  refine s_aload_n (i := 0) dX5_record_37 rfl rfl ?_
  refine s_getI dX5_record_38 fl_X5_30 (by assumption) (by assumption) ?_
  refine s_iconst (v := 1) dX5_record_41 (by decide) ?_
  refine s_iadd dX5_record_42 ?_
  refine s_bipush (v := 8) dX5_record_43 (by decide) ?_
  refine s_min dX5_record_45 wM_X5_33 (Nat.le_of_ble_eq_true rfl) ?_
  refine s_topi (y := zI ((((li, L) :: H).take 8).length : Int)) ?_ ?_
  · rw [g2, iu_b (by omega), iu_j (by omega), t_zI h3, z1, zI_add]
    show (if zI _ > zI 8 then zI 8 else zI _) = _
    rw [List.length_take, List.length_cons]
    by_cases hc : zI ((H.length : Int) + 1) > zI 8
    · rw [if_pos hc]
      rw [gt_iff_lt, zI_lt (by omega) (by omega) (by omega) (by omega)] at hc
      congr 1
      omega
    · rw [if_neg hc]
      rw [gt_iff_lt, zI_lt (by omega) (by omega) (by omega) (by omega)] at hc
      congr 1
      omega
  refine s_putI dX5_record_48 fp_X5_30 (by assumption) (by assumption) ?_
  refine s_ret dX5_record_51 rfl ?_
  refine hq _ (fr_trans (fr_trans (fr_trans (fr_iu (histS_in (by omega))) (fr_iu (histS_in (by omega)))) (fr_sub hf1 (fun b hb => histS_in (by simp at hb; omega)))) (fr_iu (histS_in (by omega)))) ⟨hA, by rw [List.length_take]; omega, by rw [iu_at]; exact zI_t (by omega) (by rw [List.length_take]; omega), Lb, hLb8, ?_, ?_⟩
  · rw [iu_j (by omega), g2, iu_b (by omega), iu_at]
    exact zI_t (by omega) (by omega)
  · intro q e he
    have hq8 : q < 8 := by
      have := (List.getElem?_eq_some_iff.mp he).1
      rw [List.length_take] at this
      omega
    rw [List.getElem?_take_of_lt hq8] at he
    cases q with
    | zero =>
      simp at he
      subst he
      have hs0 : hslot Lb 0 = Lb := by unfold hslot; omega
      rw [hs0]
      refine ⟨?_, hC2.fr ?_ ?_ ?_ ?_⟩
      · rw [iu_b (by omega), g3, iu_at]
        exact zI_t (by omega) (by omega)
      all_goals exact iu_ne (by omega)
    | succ q =>
      rw [List.getElem?_cons_succ] at he
      have hs1 : hslot Lb (q + 1) = hslot La q := by unfold hslot; omega
      have hne : hslot La q ≠ Lb := by
        have := (List.getElem?_eq_some_iff.mp he).1
        unfold hslot
        omega
      have hl8 : hslot La q < 8 := Nat.mod_lt _ (by omega)
      obtain ⟨w1, w2⟩ := h6 q e he
      rw [hs1]
      refine ⟨?_, w2.fr ?_ ?_ ?_ ?_⟩
      · rw [iu_b (by omega), g3, iu_j hne, iu_b (by omega)]
        exact w1
      all_goals exact (iu_ne (by omega)).trans ((hf1 _ (by simp; omega)).trans ((iu_ne (by omega)).trans (iu_ne (by omega))))
