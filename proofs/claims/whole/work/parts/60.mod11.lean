/-! a number put in, taken out: the lengths of the blocks -/
theorem bl_eq (L : LSt) (j : Nat) : bl L j = ((if j + 1 < L.2.2.2 then L.2.2.1 (j + 1) else (L.2.1 : Int)) - L.2.2.1 j).toNat := by
  unfold bl
  rw [stf_natS]
theorem LOk.bli {L : LSt} (h : LOk L) {j : Nat} (hj : j < L.2.2.2) : ((bl L j : Nat) : Int) = (if j + 1 < L.2.2.2 then L.2.2.1 (j + 1) else (L.2.1 : Int)) - L.2.2.1 j := by
  have h1 := h.2.2.2.2.2.1.to hj
  rw [bl_eq]
  omega
def blo (L : LSt) (q : Nat) : Nat := if L.2.2.2 = 0 then 0 else bl L q
def nb0 (L : LSt) : Nat := if L.2.2.2 = 0 then 1 else L.2.2.2
theorem insL_bl {L : LSt} (h : LOk L) {p jj : Nat} {v : Int} (hj : jj < nb0 L) : (blo L jj + 1 ≤ 64 → (insL L p v jj).2.2.2 = nb0 L ∧ ∀ q, q < nb0 L → bl (insL L p v jj) q = if q = jj then blo L jj + 1 else blo L q) ∧ (¬ blo L jj + 1 ≤ 64 → (insL L p v jj).2.2.2 = nb0 L + 1 ∧ ∀ q, q < nb0 L + 1 → bl (insL L p v jj) q = if q < jj then blo L q else if q = jj then 32 else if q = jj + 1 then 33 else blo L (q - 1)) := by
  obtain ⟨a1, a2, a3, a4, a5, a6, a7⟩ := id h
  unfold blo nb0 at *
  by_cases e : L.2.2.2 = 0
  · have hm : L.2.1 = 0 := by omega
    rw [if_pos e] at hj
    have hjj : jj = 0 := by omega
    subst hjj
    have hmv : mvS L.2.2.1 0 1 0 = 0 := by unfold mvS; rw [if_neg (by omega)]; exact a4
    have hi : insS L.2.2.1 1 0 0 = (mvS L.2.2.1 0 1, 1) := by
      have e1 : stf (mvS L.2.2.1 0 1) 1 (0 + 1) (((0 : Nat) : Int) + 1) = 1 := by rw [stf_natS, if_neg (by omega)]; rfl
      have e2 : stf (mvS L.2.2.1 0 1) 1 (0 + 1) ((0 : Nat) : Int) = 0 := by rw [stf_nat, if_pos (by omega)]; exact hmv
      unfold insS
      rw [e1, e2, if_pos (by omega)]
    have hE : insL L p v 0 = (ins L.1 p v, 0 + 1, mvS L.2.2.1 0 1, 1) := by unfold insL; rw [if_pos e, hm, hi]
    simp only [if_pos e]
    rw [hE]
    refine ⟨fun _ => ⟨rfl, fun q hq => ?_⟩, fun hc => absurd (by omega) hc⟩
    have : q = 0 := by omega
    subst this
    rw [if_pos rfl, bl_eq]
    dsimp only
    rw [if_neg (by omega), hmv]
    rfl
  · simp only [if_neg e] at hj ⊢
    have hb := fun (q : Nat) (hq : q < L.2.2.2) => h.bli hq
    have bj := hb jj hj
    have hjj : mvS L.2.2.1 jj 1 jj = L.2.2.1 jj := by unfold mvS; rw [if_neg (by omega)]
    have hlo : ∀ i, i ≤ jj → mvS L.2.2.1 jj 1 i = L.2.2.1 i := fun i hi => by unfold mvS; rw [if_neg (by omega)]
    have hhi : ∀ i, jj < i → mvS L.2.2.1 jj 1 i = L.2.2.1 i + 1 := fun i hi => by unfold mvS; rw [if_pos (by omega)]
    have hc : stf (mvS L.2.2.1 jj 1) L.2.2.2 (L.2.1 + 1) ((jj : Int) + 1) - stf (mvS L.2.2.1 jj 1) L.2.2.2 (L.2.1 + 1) (jj : Int) = ((bl L jj + 1 : Nat) : Int) := by
      rw [stf_natS, stf_nat, if_pos hj, hjj]
      by_cases e2 : jj + 1 < L.2.2.2
      · rw [if_pos e2, hhi _ (by omega)]; rw [if_pos e2] at bj; omega
      · rw [if_neg e2]; rw [if_neg e2] at bj; omega
    constructor
    · intro hs
      have hE : insL L p v jj = (ins L.1 p v, L.2.1 + 1, mvS L.2.2.1 jj 1, L.2.2.2) := by unfold insL insS; rw [if_neg e, hc, if_pos (by omega)]
      rw [hE]
      refine ⟨rfl, fun q hq => ?_⟩
      have b := hb q hq
      rw [bl_eq]
      dsimp only
      rcases Nat.lt_trichotomy q jj with c | c | c
      · rw [if_pos (by omega)] at b ⊢
        rw [if_neg (by omega), hlo _ (by omega), hlo _ (by omega)]
        omega
      · subst c
        rw [if_pos rfl, hjj]
        by_cases e2 : q + 1 < L.2.2.2
        · rw [if_pos e2] at b ⊢; rw [hhi _ (by omega)]; omega
        · rw [if_neg e2] at b ⊢; omega
      · rw [if_neg (show ¬ q = jj by omega), hhi q c]
        by_cases e2 : q + 1 < L.2.2.2
        · rw [if_pos e2] at b ⊢; rw [hhi _ (by omega)]; omega
        · rw [if_neg e2] at b ⊢; omega
    · intro hs
      have hE : insL L p v jj = (ins L.1 p v, L.2.1 + 1, ins (mvS L.2.2.1 jj 1) (jj + 1) (L.2.2.1 jj + 32), L.2.2.2 + 1) := by unfold insL insS; rw [if_neg e, hc, if_neg (by omega), stf_nat, if_pos hj, hjj]
      rw [hE]
      refine ⟨rfl, fun q hq => ?_⟩
      have v0 : ∀ i, i ≤ jj → ins (mvS L.2.2.1 jj 1) (jj + 1) (L.2.2.1 jj + 32) i = L.2.2.1 i := fun i hi => by unfold ins; rw [if_pos (by omega)]; exact hlo i hi
      have v1 : ins (mvS L.2.2.1 jj 1) (jj + 1) (L.2.2.1 jj + 32) (jj + 1) = L.2.2.1 jj + 32 := by unfold ins; rw [if_neg (by omega), if_pos rfl]
      have v2 : ∀ i, jj < i → ins (mvS L.2.2.1 jj 1) (jj + 1) (L.2.2.1 jj + 32) (i + 1) = L.2.2.1 i + 1 := fun i hi => by unfold ins; rw [if_neg (by omega), if_neg (by omega), Nat.add_sub_cancel]; exact hhi i hi
      have hbj := (h.blk hj).2.2.2.2.1
      rw [bl_eq]
      dsimp only
      rcases Nat.lt_trichotomy q jj with c | c | c
      · have b := hb q (by omega)
        rw [if_pos (by omega)] at b
        rw [if_pos (by omega), if_pos c, v0 _ (by omega), v0 _ (by omega)]
        omega
      · subst c
        rw [if_pos (by omega), if_neg (by omega), if_pos rfl, v1, v0 _ (by omega)]
        omega
      · rcases Nat.lt_or_ge (jj + 1) q with c2 | c2
        · obtain ⟨i, rfl⟩ : ∃ i, q = i + 1 := ⟨q - 1, by omega⟩
          have b := hb i (by omega)
          rw [if_neg (show ¬ i + 1 < jj by omega), if_neg (show ¬ i + 1 = jj by omega), if_neg (show ¬ i + 1 = jj + 1 by omega), Nat.add_sub_cancel, v2 i (by omega)]
          by_cases e2 : i + 1 < L.2.2.2
          · rw [if_pos e2] at b; rw [if_pos (by omega), v2 _ (by omega)]; omega
          · rw [if_neg e2] at b; rw [if_neg (by omega)]; omega
        · have : q = jj + 1 := by omega
          subst this
          rw [if_neg (show ¬ jj + 1 < jj by omega), if_neg (show ¬ jj + 1 = jj by omega), if_pos rfl, v1]
          by_cases e2 : jj + 1 < L.2.2.2
          · rw [if_pos e2] at bj; rw [if_pos (by omega), v2 _ (by omega)]; omega
          · rw [if_neg e2] at bj; rw [if_neg (by omega)]; omega
theorem delL_bl {L : LSt} (h : LOk L) {q0 jj : Nat} (hj : jj < L.2.2.2) (hm : 0 < L.2.1) : (bl L jj = 1 → (delL L q0 jj).2.2.2 = L.2.2.2 - 1 ∧ ∀ q, q < L.2.2.2 - 1 → bl (delL L q0 jj) q = if q < jj then bl L q else bl L (q + 1)) ∧ (bl L jj ≠ 1 → (delL L q0 jj).2.2.2 = L.2.2.2 ∧ ∀ q, q < L.2.2.2 → bl (delL L q0 jj) q = if q = jj then bl L jj - 1 else bl L q) := by
  have hb := fun (q : Nat) (hq : q < L.2.2.2) => h.bli hq
  have bj := hb jj hj
  have b1 := (h.blk hj).2.2.2.1
  have hlo : ∀ i, i ≤ jj → mvS L.2.2.1 jj (-1) i = L.2.2.1 i := fun i hi => by unfold mvS; rw [if_neg (by omega)]
  have hhi : ∀ i, jj < i → mvS L.2.2.1 jj (-1) i = L.2.2.1 i - 1 := fun i hi => by unfold mvS; rw [if_pos (by omega)]; omega
  have hc : stf (mvS L.2.2.1 jj (-1)) L.2.2.2 (L.2.1 - 1) ((jj : Int) + 1) = stf (mvS L.2.2.1 jj (-1)) L.2.2.2 (L.2.1 - 1) (jj : Int) + (bl L jj : Int) - 1 := by
    rw [stf_natS, stf_nat, if_pos hj, hlo jj (Nat.le_refl _)]
    by_cases e2 : jj + 1 < L.2.2.2
    · rw [if_pos e2, hhi _ (by omega)]; rw [if_pos e2] at bj; omega
    · rw [if_neg e2]; rw [if_neg e2] at bj; omega
  constructor
  · intro hs
    have hE : delS L.2.2.1 L.2.2.2 L.2.1 jj = (del (mvS L.2.2.1 jj (-1)) jj, L.2.2.2 - 1) := by unfold delS; rw [hc, if_pos (by omega)]
    unfold delL
    rw [hE]
    refine ⟨rfl, fun q hq => ?_⟩
    have v0 : ∀ i, i < jj → del (mvS L.2.2.1 jj (-1)) jj i = L.2.2.1 i := fun i hi => by unfold del; rw [if_pos hi]; exact hlo i (by omega)
    have v2 : ∀ i, jj ≤ i → del (mvS L.2.2.1 jj (-1)) jj i = L.2.2.1 (i + 1) - 1 := fun i hi => by unfold del; rw [if_neg (by omega)]; exact hhi _ (by omega)
    rw [bl_eq]
    dsimp only
    rw [if_neg (show ¬ L.2.2.2 - 1 = 0 by omega)]
    dsimp only
    rcases Nat.lt_or_ge q jj with c | c
    · have b := hb q (by omega)
      rw [if_pos (by omega)] at b
      rw [if_pos c, v0 q c]
      rcases Nat.lt_or_ge (q + 1) jj with c2 | c2
      · rw [if_pos (by omega), v0 _ c2]; omega
      · have e : q + 1 = jj := by omega
        by_cases e2 : jj + 1 < L.2.2.2
        · rw [if_pos e2] at bj
          rw [if_pos (by omega), v2 _ (by omega), e]
          rw [e] at b
          omega
        · rw [if_neg e2] at bj
          rw [if_neg (by omega)]
          rw [e] at b
          omega
    · have b := hb (q + 1) (by omega)
      rw [if_neg (show ¬ q < jj by omega), v2 q c]
      by_cases e2 : q + 1 + 1 < L.2.2.2
      · rw [if_pos e2] at b; rw [if_pos (by omega), v2 _ (by omega)]; omega
      · rw [if_neg e2] at b; rw [if_neg (by omega)]; omega
  · intro hs
    have hE : delS L.2.2.1 L.2.2.2 L.2.1 jj = (mvS L.2.2.1 jj (-1), L.2.2.2) := by unfold delS; rw [hc, if_neg (by omega)]
    unfold delL
    rw [hE]
    refine ⟨rfl, fun q hq => ?_⟩
    rw [bl_eq]
    dsimp only
    rw [if_neg (show ¬ L.2.2.2 = 0 by omega)]
    dsimp only
    have b := hb q hq
    rcases Nat.lt_trichotomy q jj with c | c | c
    · rw [if_pos (by omega)] at b ⊢
      rw [if_neg (by omega), hlo _ (by omega), hlo _ (by omega)]
      omega
    · subst c
      rw [if_pos rfl, hlo q (Nat.le_refl _)]
      by_cases e2 : q + 1 < L.2.2.2
      · rw [if_pos e2] at b ⊢; rw [hhi _ (by omega)]; omega
      · rw [if_neg e2] at b ⊢; omega
    · rw [if_neg (show ¬ q = jj by omega), hhi q c]
      by_cases e2 : q + 1 < L.2.2.2
      · rw [if_pos e2] at b ⊢; rw [hhi _ (by omega)]; omega
      · rw [if_neg e2] at b ⊢; omega
set_option maxRecDepth 100000 in
set_option maxHeartbeats 1000000 in
theorem ml_splits {G : fG} {x0 : Nat} {l : Launch} {d k n : Nat} {T : fT} {J : fJ} {Q : Option Value → fT → fI → fJ → Prop} {li b nb : Nat} {F : Nat → Int32} (hM : MObj T) (hli : li < 6) (hb : b < nb) (hnb : nb ≤ 199) : ∀ (t i : Nat) (I : fI), i = b + 1 + t → i ≤ nb → (∀ q, q < i → I 145 (402 * li + 202 + q) = F q) → (∀ q, i < q → q ≤ nb → I 145 (402 * li + 202 + q) = F (q - 1)) → (∀ I', fr I I' [145] → (∀ q, ¬ (402 * li + 202 ≤ q ∧ q < 402 * li + 402) → I' 145 q = I 145 q) → (∀ q, q < b + 1 → I' 145 (402 * li + 202 + q) = F q) → (∀ q, b + 1 < q → q ≤ nb → I' 145 (402 * li + 202 + q) = F (q - 1)) → PW G x0 l mX12_splits (d + 1) (ZM G x0 Q) k n 51 [(0, .ref (x0 + 144)), (1, .int (zI li)), (2, .int (zI b)), (3, .int (zI ((402 * li + 202 : Nat) : Int)))] [] T I' J) → PW G x0 l mX12_splits (d + 1) (ZM G x0 Q) k n 17 [(0, .ref (x0 + 144)), (1, .int (zI li)), (2, .int (zI b)), (3, .int (zI ((402 * li + 202 : Nat) : Int))), (4, .int (zI i))] [] T I J := by
  obtain ⟨o1, o2⟩ := hM.o
  obtain ⟨r145, b145, k145, n145⟩ := hM.a145
  intro t
  induction t with
  | zero =>
    intro i I ht hi h1 h2 kk
    have hi : i = b + 1 := by omega
    subst hi
    refine s_iload dX12_splits_17 rfl ?_
    refine s_iload_n (i := 2) dX12_splits_19 rfl rfl ?_
    refine s_iconst (v := 1) dX12_splits_20 (by decide) ?_
    refine s_iadd dX12_splits_21 ?_
    refine s_topi (y := zI ((b + 1 : Nat) : Int)) (by first | with_reducible rfl | ((try simp only [z0, z1, zm1, zm2, zm3, zm4, zl2, zl3, zl4, zl5, zl6, zl7, zl8, zl9, zl10, zl20, zl28, zl31, zl32, zl33, zl48, zl57, zl64, zl100, zl127, zl200, zl201, zl202, zl402, zl1200, zl2412, zl16884, zI_add, zI_sub, zI_mul, zI_inc, zI_dec]) <;> (congr 1 <;> omega))) ?_
    refine s_icmp_le (tgt := 51) dX12_splits_22 (by decide) (fun h22 => ?_) (fun h22 => absurd ((zI_le (by omega) (by omega) (by omega) (by omega)).mpr (by omega)) h22)
    refine s_lv (lv' := [(0, .ref (x0 + 144)), (1, .int (zI li)), (2, .int (zI b)), (3, .int (zI ((402 * li + 202 : Nat) : Int)))]) ⟨rfl, rfl, rfl, rfl, trivial⟩ ?_
    exact kk I (fr_refl I _) (fun _ _ => rfl) h1 h2
  | succ t ih =>
    intro i I ht hi h1 h2 kk
    refine s_iload dX12_splits_17 rfl ?_
    refine s_iload_n (i := 2) dX12_splits_19 rfl rfl ?_
    refine s_iconst (v := 1) dX12_splits_20 (by decide) ?_
    refine s_iadd dX12_splits_21 ?_
    refine s_topi (y := zI ((b + 1 : Nat) : Int)) (by first | with_reducible rfl | ((try simp only [z0, z1, zm1, zm2, zm3, zm4, zl2, zl3, zl4, zl5, zl6, zl7, zl8, zl9, zl10, zl20, zl28, zl31, zl32, zl33, zl48, zl57, zl64, zl100, zl127, zl200, zl201, zl202, zl402, zl1200, zl2412, zl16884, zI_add, zI_sub, zI_mul, zI_inc, zI_dec]) <;> (congr 1 <;> omega))) ?_
    refine s_icmp_le (tgt := 51) dX12_splits_22 (by decide) (fun h22 => absurd h22 (fun h => by rw [zI_le (by omega) (by omega) (by omega) (by omega)] at h; omega)) (fun h22 => ?_)
    refine s_aload_n (i := 0) dX12_splits_25 rfl rfl ?_
    refine s_getR dX12_splits_26 fl_X12_7 (by assumption) (by assumption) (by assumption) ?_
    refine s_iload_n (i := 3) dX12_splits_29 rfl rfl ?_
    refine s_iload dX12_splits_30 rfl ?_
    refine s_iadd dX12_splits_32 ?_
    refine s_aload_n (i := 0) dX12_splits_33 rfl rfl ?_
    refine s_getR dX12_splits_34 fl_X12_7 (by assumption) (by assumption) (by assumption) ?_
    refine s_iload_n (i := 3) dX12_splits_37 rfl rfl ?_
    refine s_iload dX12_splits_38 rfl ?_
    refine s_iadd dX12_splits_40 ?_
    refine s_iconst (v := 1) dX12_splits_41 (by decide) ?_
    refine s_isub dX12_splits_42 ?_
    refine s_ildn (j := 402 * li + 202 + (i - 1)) dX12_splits_43 (by assumption) (by assumption) (by assumption) (by first | with_reducible rfl | ((try simp only [z0, z1, zm1, zm2, zm3, zm4, zl2, zl3, zl4, zl5, zl6, zl7, zl8, zl9, zl10, zl20, zl28, zl31, zl32, zl33, zl48, zl57, zl64, zl100, zl127, zl200, zl201, zl202, zl402, zl1200, zl2412, zl16884, zI_add, zI_sub, zI_mul, zI_inc, zI_dec]) <;> (congr 1 <;> omega))) (by omega) (by decide) ?_
    refine s_istn (j := 402 * li + 202 + i) dX12_splits_44 (by assumption) (by assumption) (by assumption) (by first | with_reducible rfl | ((try simp only [z0, z1, zm1, zm2, zm3, zm4, zl2, zl3, zl4, zl5, zl6, zl7, zl8, zl9, zl10, zl20, zl28, zl31, zl32, zl33, zl48, zl57, zl64, zl100, zl127, zl200, zl201, zl202, zl402, zl1200, zl2412, zl16884, zI_add, zI_sub, zI_mul, zI_inc, zI_dec]) <;> (congr 1 <;> omega))) (by omega) (by decide) ?_
    refine s_iinc dX12_splits_45 rfl (zI_dec _) (by decide) (by simp only [sl, sl2, rm, Value.category, reduceIte, Nat.reduceAdd, Nat.reduceEqDiff, reduceCtorEq]; rfl) ?_
    refine s_goto (tgt := 17) dX12_splits_48 (by decide) ?_
    refine s_lv (lv' := [(0, .ref (x0 + 144)), (1, .int (zI li)), (2, .int (zI b)), (3, .int (zI ((402 * li + 202 : Nat) : Int))), (4, .int (zI ((i - 1 : Nat) : Int)))]) ⟨rfl, rfl, rfl, rfl, by rw [show ((i - 1 : Nat) : Int) = (i : Int) - 1 by omega]; rfl, trivial⟩ ?_
    refine ih (i - 1) _ (by omega) (by omega) (fun q h => by rw [iu_j (by omega)]; exact h1 q (by omega)) (fun q h h' => ?_) (fun I' hf ho g1 g2 => kk I' (fr_trans (fr_iu (by simp)) hf) (fun q h => by rw [ho q h, iu_j (by omega)]) g1 g2)
    by_cases e : q = i
    · subst e; rw [iu_at]; exact h1 (q - 1) (by omega)
    · rw [iu_j (by omega)]; exact h2 q (by omega) h'
set_option maxRecDepth 100000 in
set_option maxHeartbeats 1000000 in
theorem m_splits {G : fG} {x0 : Nat} {l : Launch} {d k n : Nat} {T : fT} {I : fI} {J : fJ} {Q : Option Value → fT → fI → fJ → Prop} {li b nb : Nat} (hM : MObj T) (hli : li < 6) (hb : b < nb) (hnb : nb ≤ 199) (h201 : I 145 (402 * li + 201) = zI nb) (hq : ∀ I', fr I I' [145] → (∀ q, ¬ (402 * li + 201 ≤ q ∧ q < 402 * li + 402) → I' 145 q = I 145 q) → I' 145 (402 * li + 201) = zI ((nb + 1 : Nat) : Int) → (∀ q, q < nb + 1 → I' 145 (402 * li + 202 + q) = if q < b then I 145 (402 * li + 202 + q) else if q = b then 32 else if q = b + 1 then 33 else I 145 (402 * li + 202 + (q - 1))) → Q none T I' J) : PW G x0 l mX12_splits (d + 1) (ZM G x0 Q) k n 0 [(0, .ref (x0 + 144)), (1, .int (zI li)), (2, .int (zI b))] [] T I J := by
  obtain ⟨o1, o2⟩ := hM.o
  obtain ⟨r145, b145, k145, n145⟩ := hM.a145
  refine s_sipush (v := 402) dX12_splits_0 (by decide) ?_
  refine s_iload_n (i := 1) dX12_splits_3 rfl rfl ?_
  refine s_imul dX12_splits_4 ?_
  refine s_sipush (v := 202) dX12_splits_5 (by decide) ?_
  refine s_iadd dX12_splits_8 ?_
  refine s_topi (y := zI ((402 * li + 202 : Nat) : Int)) (by first | with_reducible rfl | ((try simp only [z0, z1, zm1, zm2, zm3, zm4, zl2, zl3, zl4, zl5, zl6, zl7, zl8, zl9, zl10, zl20, zl28, zl31, zl32, zl33, zl48, zl57, zl64, zl100, zl127, zl200, zl201, zl202, zl402, zl1200, zl2412, zl16884, zI_add, zI_sub, zI_mul, zI_inc, zI_dec]) <;> (congr 1 <;> omega))) ?_
  refine s_istore_n (i := 3) dX12_splits_9 rfl (by decide) (by simp only [sl, sl2, rm, Value.category, reduceIte, Nat.reduceAdd, Nat.reduceEqDiff, reduceCtorEq]; rfl) ?_
  refine s_aload_n (i := 0) dX12_splits_10 rfl rfl ?_
  refine s_iload_n (i := 1) dX12_splits_11 rfl rfl ?_
  refine s_cV_I (My := mX12_blocks) dX12_splits_12 wM_X12_77 cb_yX12_blocks ci_yX12_blocks (by assumption) (by assumption) (Nat.le_of_ble_eq_true rfl) (by decide) (s_d (by omega) (m_blocks (d := 0) hM hli ?_))
  rw [h201]
  refine s_istore dX12_splits_15 (by decide) (by simp only [sl, sl2, rm, Value.category, reduceIte, Nat.reduceAdd, Nat.reduceEqDiff, reduceCtorEq]; rfl) ?_
  refine ml_splits (F := fun q => I 145 (402 * li + 202 + q)) hM hli hb hnb (nb - (b + 1)) nb I (by omega) (Nat.le_refl _) (fun _ _ => rfl) (fun q h h' => absurd h (by omega)) (fun I1 hf1 ho1 g1 g2 => ?_)
  refine s_aload_n (i := 0) dX12_splits_51 rfl rfl ?_
  refine s_getR dX12_splits_52 fl_X12_7 (by assumption) (by assumption) (by assumption) ?_
  refine s_iload_n (i := 3) dX12_splits_55 rfl rfl ?_
  refine s_iload_n (i := 2) dX12_splits_56 rfl rfl ?_
  refine s_iadd dX12_splits_57 ?_
  refine s_bipush (v := 32) dX12_splits_58 (by decide) ?_
  refine s_istn (j := 402 * li + 202 + b) dX12_splits_60 (by assumption) (by assumption) (by assumption) (by first | with_reducible rfl | ((try simp only [z0, z1, zm1, zm2, zm3, zm4, zl2, zl3, zl4, zl5, zl6, zl7, zl8, zl9, zl10, zl20, zl28, zl31, zl32, zl33, zl48, zl57, zl64, zl100, zl127, zl200, zl201, zl202, zl402, zl1200, zl2412, zl16884, zI_add, zI_sub, zI_mul, zI_inc, zI_dec]) <;> (congr 1 <;> omega))) (by omega) (by decide) ?_
  refine s_aload_n (i := 0) dX12_splits_61 rfl rfl ?_
  refine s_getR dX12_splits_62 fl_X12_7 (by assumption) (by assumption) (by assumption) ?_
  refine s_iload_n (i := 3) dX12_splits_65 rfl rfl ?_
  refine s_iload_n (i := 2) dX12_splits_66 rfl rfl ?_
  refine s_iadd dX12_splits_67 ?_
  refine s_iconst (v := 1) dX12_splits_68 (by decide) ?_
  refine s_iadd dX12_splits_69 ?_
  refine s_bipush (v := 33) dX12_splits_70 (by decide) ?_
  refine s_istn (j := 402 * li + 202 + (b + 1)) dX12_splits_72 (by assumption) (by assumption) (by assumption) (by first | with_reducible rfl | ((try simp only [z0, z1, zm1, zm2, zm3, zm4, zl2, zl3, zl4, zl5, zl6, zl7, zl8, zl9, zl10, zl20, zl28, zl31, zl32, zl33, zl48, zl57, zl64, zl100, zl127, zl200, zl201, zl202, zl402, zl1200, zl2412, zl16884, zI_add, zI_sub, zI_mul, zI_inc, zI_dec]) <;> (congr 1 <;> omega))) (by omega) (by decide) ?_
  refine s_aload_n (i := 0) dX12_splits_73 rfl rfl ?_
  refine s_getR dX12_splits_74 fl_X12_7 (by assumption) (by assumption) (by assumption) ?_
  refine s_sipush (v := 402) dX12_splits_77 (by decide) ?_
  refine s_iload_n (i := 1) dX12_splits_80 rfl rfl ?_
  refine s_imul dX12_splits_81 ?_
  refine s_sipush (v := 201) dX12_splits_82 (by decide) ?_
  refine s_iadd dX12_splits_85 ?_
  refine s_dup2 dX12_splits_86 rfl rfl ?_
  refine s_ildn (j := 402 * li + 201) dX12_splits_87 (by assumption) (by assumption) (by assumption) (by first | with_reducible rfl | ((try simp only [z0, z1, zm1, zm2, zm3, zm4, zl2, zl3, zl4, zl5, zl6, zl7, zl8, zl9, zl10, zl20, zl28, zl31, zl32, zl33, zl48, zl57, zl64, zl100, zl127, zl200, zl201, zl202, zl402, zl1200, zl2412, zl16884, zI_add, zI_sub, zI_mul, zI_inc, zI_dec]) <;> (congr 1 <;> omega))) (by omega) (by decide) ?_
  rw [iu_j (by omega), iu_j (by omega), ho1 _ (by omega), h201]
  refine s_iconst (v := 1) dX12_splits_88 (by decide) ?_
  refine s_iadd dX12_splits_89 ?_
  refine s_topi (y := zI ((nb + 1 : Nat) : Int)) (by first | with_reducible rfl | ((try simp only [z0, z1, zm1, zm2, zm3, zm4, zl2, zl3, zl4, zl5, zl6, zl7, zl8, zl9, zl10, zl20, zl28, zl31, zl32, zl33, zl48, zl57, zl64, zl100, zl127, zl200, zl201, zl202, zl402, zl1200, zl2412, zl16884, zI_add, zI_sub, zI_mul, zI_inc, zI_dec]) <;> (congr 1 <;> omega))) ?_
  refine s_istn (j := 402 * li + 201) dX12_splits_90 (by assumption) (by assumption) (by assumption) (by first | with_reducible rfl | ((try simp only [z0, z1, zm1, zm2, zm3, zm4, zl2, zl3, zl4, zl5, zl6, zl7, zl8, zl9, zl10, zl20, zl28, zl31, zl32, zl33, zl48, zl57, zl64, zl100, zl127, zl200, zl201, zl202, zl402, zl1200, zl2412, zl16884, zI_add, zI_sub, zI_mul, zI_inc, zI_dec]) <;> (congr 1 <;> omega))) (by omega) (by decide) ?_
  refine s_ret dX12_splits_91 rfl ?_
  refine hq _ (fun c hc => by simp at hc; rw [iu_ne (by omega), iu_ne (by omega), iu_ne (by omega)]; exact hf1 c (by simp; omega)) (fun q h => by rw [iu_j (by omega), iu_j (by omega), iu_j (by omega)]; exact ho1 q (by omega)) iu_at (fun q h => ?_)
  rw [iu_j (by omega)]
  rcases Nat.lt_trichotomy q b with c | c | c
  · rw [iu_j (by omega), iu_j (by omega), if_pos c]; exact g1 q (by omega)
  · subst c; rw [iu_j (by omega), iu_at, if_neg (by omega), if_pos rfl]
  · rw [if_neg (by omega), if_neg (by omega)]
    by_cases e : q = b + 1
    · subst e; rw [iu_at, if_pos rfl]
    · rw [iu_j (by omega), iu_j (by omega), if_neg e]; exact g2 q (by omega) (by omega)
set_option maxRecDepth 100000 in
set_option maxHeartbeats 1000000 in
theorem ml_add1 {G : fG} {x0 : Nat} {l : Launch} {d k n : Nat} {T : fT} {J : fJ} {Q : Option Value → fT → fI → fJ → Prop} {li p jj m : Nat} {y : Int32} {g : Nat → Int} (hM : MObj T) (hli : li < 6) (hmm : m < 200) : ∀ (t i : Nat) (e3 : Int32) (I : fI), i = p + t → i ≤ m → (∀ q, q < i → I 145 (402 * li + 1 + q) = zI (g q)) → (∀ q, i < q → q ≤ m → I 145 (402 * li + 1 + q) = zI (g (q - 1))) → (∀ I', fr I I' [145] → (∀ q, ¬ (402 * li + 1 ≤ q ∧ q < 402 * li + 201) → I' 145 q = I 145 q) → (∀ q, q < p → I' 145 (402 * li + 1 + q) = zI (g q)) → (∀ q, p < q → q ≤ m → I' 145 (402 * li + 1 + q) = zI (g (q - 1))) → PW G x0 l mX12_add (d + 3) (ZM G x0 Q) k n 119 [(0, .ref (x0 + 144)), (1, .int (zI li)), (2, .int y), (4, .int (zI jj)), (5, .int (zI p))] [] T I' J) → PW G x0 l mX12_add (d + 3) (ZM G x0 Q) k n 82 [(0, .ref (x0 + 144)), (1, .int (zI li)), (2, .int y), (3, .int e3), (4, .int (zI jj)), (5, .int (zI p)), (6, .int (zI i))] [] T I J := by
  obtain ⟨o1, o2⟩ := hM.o
  obtain ⟨r145, b145, k145, n145⟩ := hM.a145
  intro t
  induction t with
  | zero =>
    intro i e3 I ht hi h1 h2 kk
    have hi : i = p := by omega
    subst hi
    refine s_iload dX12_add_82 rfl ?_
    refine s_iload dX12_add_84 rfl ?_
    refine s_icmp_le (tgt := 119) dX12_add_86 (by decide) (fun h86 => ?_) (fun h86 => absurd ((zI_le (by omega) (by omega) (by omega) (by omega)).mpr (by omega)) h86)
    refine s_lv (lv' := [(0, .ref (x0 + 144)), (1, .int (zI li)), (2, .int y), (4, .int (zI jj)), (5, .int (zI i))]) ⟨rfl, rfl, rfl, rfl, rfl, trivial⟩ ?_
    exact kk I (fr_refl I _) (fun _ _ => rfl) h1 h2
  | succ t ih =>
    intro i e3 I ht hi h1 h2 kk
    refine s_iload dX12_add_82 rfl ?_
    refine s_iload dX12_add_84 rfl ?_
    refine s_icmp_le (tgt := 119) dX12_add_86 (by decide) (fun h86 => absurd h86 (fun h => by rw [zI_le (by omega) (by omega) (by omega) (by omega)] at h; omega)) (fun h86 => ?_)
    refine s_aload_n (i := 0) dX12_add_89 rfl rfl ?_
    refine s_getR dX12_add_90 fl_X12_7 (by assumption) (by assumption) (by assumption) ?_
    refine s_sipush (v := 402) dX12_add_93 (by decide) ?_
    refine s_iload_n (i := 1) dX12_add_96 rfl rfl ?_
    refine s_imul dX12_add_97 ?_
    refine s_iconst (v := 1) dX12_add_98 (by decide) ?_
    refine s_iadd dX12_add_99 ?_
    refine s_iload dX12_add_100 rfl ?_
    refine s_iadd dX12_add_102 ?_
    refine s_aload_n (i := 0) dX12_add_103 rfl rfl ?_
    refine s_iload_n (i := 1) dX12_add_104 rfl rfl ?_
    refine s_iload dX12_add_105 rfl ?_
    refine s_iconst (v := 1) dX12_add_107 (by decide) ?_
    refine s_isub dX12_add_108 ?_
    refine s_topi (y := zI ((i - 1 : Nat) : Int)) (by first | with_reducible rfl | ((try simp only [z0, z1, zm1, zm2, zm3, zm4, zl2, zl3, zl4, zl5, zl6, zl7, zl8, zl9, zl10, zl20, zl28, zl31, zl32, zl33, zl48, zl57, zl64, zl100, zl127, zl200, zl201, zl202, zl402, zl1200, zl2412, zl16884, zI_add, zI_sub, zI_mul, zI_inc, zI_dec]) <;> (congr 1 <;> omega))) ?_
    refine s_cV_II (My := mX12_number) dX12_add_109 wM_X12_103 cb_yX12_number ci_yX12_number (by assumption) (by assumption) (Nat.le_of_ble_eq_true rfl) (by decide) (s_d (by omega) (m_number (d := 0) (i := i - 1) hM hli (by omega) ?_))
    refine s_istn (j := 402 * li + 1 + i) dX12_add_112 (by assumption) (by assumption) (by assumption) (by first | with_reducible rfl | ((try simp only [z0, z1, zm1, zm2, zm3, zm4, zl2, zl3, zl4, zl5, zl6, zl7, zl8, zl9, zl10, zl20, zl28, zl31, zl32, zl33, zl48, zl57, zl64, zl100, zl127, zl200, zl201, zl202, zl402, zl1200, zl2412, zl16884, zI_add, zI_sub, zI_mul, zI_inc, zI_dec]) <;> (congr 1 <;> omega))) (by omega) (by decide) ?_
    refine s_iinc dX12_add_113 rfl (zI_dec _) (by decide) (by simp only [sl, sl2, rm, Value.category, reduceIte, Nat.reduceAdd, Nat.reduceEqDiff, reduceCtorEq]; rfl) ?_
    refine s_goto (tgt := 82) dX12_add_116 (by decide) ?_
    refine s_lv (lv' := [(0, .ref (x0 + 144)), (1, .int (zI li)), (2, .int y), (3, .int e3), (4, .int (zI jj)), (5, .int (zI p)), (6, .int (zI ((i - 1 : Nat) : Int)))]) ⟨rfl, rfl, rfl, rfl, rfl, rfl, by rw [show ((i - 1 : Nat) : Int) = (i : Int) - 1 by omega]; rfl, trivial⟩ ?_
    refine ih (i - 1) e3 _ (by omega) (by omega) (fun q h => by rw [iu_j (by omega)]; exact h1 q (by omega)) (fun q h h' => ?_) (fun I' hf ho g1 g2 => kk I' (fr_trans (fr_iu (by simp)) hf) (fun q h => by rw [ho q h, iu_j (by omega)]) g1 g2)
    by_cases e : q = i
    · subst e; rw [iu_at]; exact h1 (q - 1) (by omega)
    · rw [iu_j (by omega)]; exact h2 q (by omega) h'
set_option maxRecDepth 100000 in
set_option maxHeartbeats 1000000 in
theorem ml_add187 {G : fG} {x0 : Nat} {l : Launch} {d k n : Nat} {T : fT} {I : fI} {J : fJ} {Q : Option Value → fT → fI → fJ → Prop} {li p jj nb : Nat} {y : Int32} {bv : Nat → Nat} {lv : List (Nat × Value)} (hM : MObj T) (hli : li < 6) (hjj : jj < nb) (hnb : nb ≤ 199) (h201 : I 145 (402 * li + 201) = zI nb) (hb : ∀ q, q < nb → I 145 (402 * li + 202 + q) = zI (bv q)) (hbv : bv jj ≤ 64) (hv : lvs lv [(0, .ref (x0 + 144)), (1, .int (zI li)), (2, .int y), (4, .int (zI jj)), (5, .int (zI p))]) (hq : ∀ I', fr I I' [145] → (∀ q, ¬ (402 * li + 201 ≤ q ∧ q < 402 * li + 402) → I' 145 q = I 145 q) → (bv jj + 1 ≤ 64 → I' 145 (402 * li + 201) = zI nb ∧ ∀ q, q < nb → I' 145 (402 * li + 202 + q) = zI ((if q = jj then bv jj + 1 else bv q : Nat) : Int)) → (¬ bv jj + 1 ≤ 64 → I' 145 (402 * li + 201) = zI ((nb + 1 : Nat) : Int) ∧ ∀ q, q < nb + 1 → I' 145 (402 * li + 202 + q) = zI ((if q < jj then bv q else if q = jj then 32 else if q = jj + 1 then 33 else bv (q - 1) : Nat) : Int)) → Q (some (.int (zI p))) T I' J) : PW G x0 l mX12_add (d + 3) (ZM G x0 Q) k n 187 lv [] T I J := by
  obtain ⟨o1, o2⟩ := hM.o
  obtain ⟨r145, b145, k145, n145⟩ := hM.a145
  refine s_lv hv ?_
  by_cases hc : bv jj + 1 ≤ 64
  · refine s_aload_n (i := 0) dX12_add_187 rfl rfl ?_
    refine s_getR dX12_add_188 fl_X12_7 (by assumption) (by assumption) (by assumption) ?_
    refine s_sipush (v := 402) dX12_add_191 (by decide) ?_
    refine s_iload_n (i := 1) dX12_add_194 rfl rfl ?_
    refine s_imul dX12_add_195 ?_
    refine s_sipush (v := 202) dX12_add_196 (by decide) ?_
    refine s_iadd dX12_add_199 ?_
    refine s_iload dX12_add_200 rfl ?_
    refine s_iadd dX12_add_202 ?_
    refine s_dup2 dX12_add_203 rfl rfl ?_
    refine s_ildn (j := 402 * li + 202 + jj) dX12_add_204 (by assumption) (by assumption) (by assumption) (by first | with_reducible rfl | ((try simp only [z0, z1, zm1, zm2, zm3, zm4, zl2, zl3, zl4, zl5, zl6, zl7, zl8, zl9, zl10, zl20, zl28, zl31, zl32, zl33, zl48, zl57, zl64, zl100, zl127, zl200, zl201, zl202, zl402, zl1200, zl2412, zl16884, zI_add, zI_sub, zI_mul, zI_inc, zI_dec]) <;> (congr 1 <;> omega))) (by omega) (by decide) ?_
    rw [hb jj hjj]
    refine s_iconst (v := 1) dX12_add_205 (by decide) ?_
    refine s_iadd dX12_add_206 ?_
    refine s_topi (y := zI ((bv jj + 1 : Nat) : Int)) (by first | with_reducible rfl | ((try simp only [z0, z1, zm1, zm2, zm3, zm4, zl2, zl3, zl4, zl5, zl6, zl7, zl8, zl9, zl10, zl20, zl28, zl31, zl32, zl33, zl48, zl57, zl64, zl100, zl127, zl200, zl201, zl202, zl402, zl1200, zl2412, zl16884, zI_add, zI_sub, zI_mul, zI_inc, zI_dec]) <;> (congr 1 <;> omega))) ?_
    refine s_istn (j := 402 * li + 202 + jj) dX12_add_207 (by assumption) (by assumption) (by assumption) (by first | with_reducible rfl | ((try simp only [z0, z1, zm1, zm2, zm3, zm4, zl2, zl3, zl4, zl5, zl6, zl7, zl8, zl9, zl10, zl20, zl28, zl31, zl32, zl33, zl48, zl57, zl64, zl100, zl127, zl200, zl201, zl202, zl402, zl1200, zl2412, zl16884, zI_add, zI_sub, zI_mul, zI_inc, zI_dec]) <;> (congr 1 <;> omega))) (by omega) (by decide) ?_
    refine s_aload_n (i := 0) dX12_add_208 rfl rfl ?_
    refine s_iload_n (i := 1) dX12_add_209 rfl rfl ?_
    refine s_iload dX12_add_210 rfl ?_
    refine s_cV_II (My := mX12_length) dX12_add_212 wM_X12_81 cb_yX12_length ci_yX12_length (by assumption) (by assumption) (Nat.le_of_ble_eq_true rfl) (by decide) (s_d (by omega) (m_length (d := 0) hM hli (by omega) ?_))
    rw [iu_at]
    refine s_bipush (v := 64) dX12_add_215 (by decide) ?_
    refine s_icmp_le (tgt := 227) dX12_add_217 (by decide) (fun h217 => ?_) (fun h217 => absurd (by rw [zl64]; exact (zI_le (by omega) (by omega) (by omega) (by omega)).mpr (by omega)) h217)
    refine s_iload dX12_add_227 rfl ?_
    refine s_iret dX12_add_229 rfl ?_
    refine hq _ (fr_iu (by simp)) (fun q h => iu_j (by omega)) (fun _ => ⟨by rw [iu_j (by omega)]; exact h201, fun q h => ?_⟩) (fun h => absurd hc h)
    by_cases e : q = jj
    · subst e; rw [iu_at, if_pos rfl]
    · rw [iu_j (by omega), if_neg e]; exact hb q h
  · refine s_aload_n (i := 0) dX12_add_187 rfl rfl ?_
    refine s_getR dX12_add_188 fl_X12_7 (by assumption) (by assumption) (by assumption) ?_
    refine s_sipush (v := 402) dX12_add_191 (by decide) ?_
    refine s_iload_n (i := 1) dX12_add_194 rfl rfl ?_
    refine s_imul dX12_add_195 ?_
    refine s_sipush (v := 202) dX12_add_196 (by decide) ?_
    refine s_iadd dX12_add_199 ?_
    refine s_iload dX12_add_200 rfl ?_
    refine s_iadd dX12_add_202 ?_
    refine s_dup2 dX12_add_203 rfl rfl ?_
    refine s_ildn (j := 402 * li + 202 + jj) dX12_add_204 (by assumption) (by assumption) (by assumption) (by first | with_reducible rfl | ((try simp only [z0, z1, zm1, zm2, zm3, zm4, zl2, zl3, zl4, zl5, zl6, zl7, zl8, zl9, zl10, zl20, zl28, zl31, zl32, zl33, zl48, zl57, zl64, zl100, zl127, zl200, zl201, zl202, zl402, zl1200, zl2412, zl16884, zI_add, zI_sub, zI_mul, zI_inc, zI_dec]) <;> (congr 1 <;> omega))) (by omega) (by decide) ?_
    rw [hb jj hjj]
    refine s_iconst (v := 1) dX12_add_205 (by decide) ?_
    refine s_iadd dX12_add_206 ?_
    refine s_topi (y := zI ((bv jj + 1 : Nat) : Int)) (by first | with_reducible rfl | ((try simp only [z0, z1, zm1, zm2, zm3, zm4, zl2, zl3, zl4, zl5, zl6, zl7, zl8, zl9, zl10, zl20, zl28, zl31, zl32, zl33, zl48, zl57, zl64, zl100, zl127, zl200, zl201, zl202, zl402, zl1200, zl2412, zl16884, zI_add, zI_sub, zI_mul, zI_inc, zI_dec]) <;> (congr 1 <;> omega))) ?_
    refine s_istn (j := 402 * li + 202 + jj) dX12_add_207 (by assumption) (by assumption) (by assumption) (by first | with_reducible rfl | ((try simp only [z0, z1, zm1, zm2, zm3, zm4, zl2, zl3, zl4, zl5, zl6, zl7, zl8, zl9, zl10, zl20, zl28, zl31, zl32, zl33, zl48, zl57, zl64, zl100, zl127, zl200, zl201, zl202, zl402, zl1200, zl2412, zl16884, zI_add, zI_sub, zI_mul, zI_inc, zI_dec]) <;> (congr 1 <;> omega))) (by omega) (by decide) ?_
    refine s_aload_n (i := 0) dX12_add_208 rfl rfl ?_
    refine s_iload_n (i := 1) dX12_add_209 rfl rfl ?_
    refine s_iload dX12_add_210 rfl ?_
    refine s_cV_II (My := mX12_length) dX12_add_212 wM_X12_81 cb_yX12_length ci_yX12_length (by assumption) (by assumption) (Nat.le_of_ble_eq_true rfl) (by decide) (s_d (by omega) (m_length (d := 0) hM hli (by omega) ?_))
    rw [iu_at]
    refine s_bipush (v := 64) dX12_add_215 (by decide) ?_
    refine s_icmp_le (tgt := 227) dX12_add_217 (by decide) (fun h217 => absurd h217 (fun h => by rw [zl64] at h; rw [zI_le (by omega) (by omega) (by omega) (by omega)] at h; omega)) (fun h217 => ?_)
    refine s_aload_n (i := 0) dX12_add_220 rfl rfl ?_
    refine s_iload_n (i := 1) dX12_add_221 rfl rfl ?_
    refine s_iload dX12_add_222 rfl ?_
    refine s_cV_II (My := mX12_splits) dX12_add_224 wM_X12_161 cb_yX12_splits ci_yX12_splits (by assumption) (by assumption) (Nat.le_of_ble_eq_true rfl) (by decide) (s_d (by omega) (m_splits (d := 0) (nb := nb) hM hli hjj hnb (by rw [iu_j (by omega)]; exact h201) (fun I1 hf1 ho1 g1 g2 => ?_)))
    refine s_iload dX12_add_227 rfl ?_
    refine s_iret dX12_add_229 rfl ?_
    refine hq _ (fr_trans (fr_iu (by simp)) hf1) (fun q h => by rw [ho1 q h]; exact iu_j (by omega)) (fun h => absurd h hc) (fun _ => ⟨g1, fun q h => ?_⟩)
    rw [g2 q h]
    rcases Nat.lt_trichotomy q jj with c | c | c
    · simp only [if_pos c]
      rw [iu_j (by omega)]; exact hb q (by omega)
    · simp only [if_neg (show ¬ q < jj by omega), if_pos c]
      rfl
    · simp only [if_neg (show ¬ q < jj by omega), if_neg (show ¬ q = jj by omega)]
      by_cases e : q = jj + 1
      · simp only [if_pos e]
        rfl
      · simp only [if_neg e]
        rw [iu_j (by omega)]; exact hb (q - 1) (by omega)
set_option maxRecDepth 100000 in
set_option maxHeartbeats 1000000 in
theorem ml_add65 {G : fG} {x0 : Nat} {l : Launch} {d k n : Nat} {T : fT} {I : fI} {J : fJ} {Q : Option Value → fT → fI → fJ → Prop} {li p jj : Nat} {y e3 : Int32} {L : LSt} (hM : MObj T) (hli : li < 6) (hL : LOk L) (hm : ML (I 145) (402 * li) L) (hF : FA L.1 L.2.1 y.toInt p) (hmx : L.2.1 < 200) (hjj : jj < nb0 L) (hq : ∀ I', fr I I' [145] → (∀ q, ¬ (402 * li ≤ q ∧ q < 402 * li + 402) → I' 145 q = I 145 q) → ML (I' 145) (402 * li) (insL L p y.toInt jj) → Q (some (.int (zI p))) T I' J) : PW G x0 l mX12_add (d + 3) (ZM G x0 Q) k n 65 [(0, .ref (x0 + 144)), (1, .int (zI li)), (2, .int y), (3, .int e3)] [.int (zI jj)] T I J := by
  obtain ⟨o1, o2⟩ := hM.o
  obtain ⟨r145, b145, k145, n145⟩ := hM.a145
  have hnm := hL.nbm
  have hp := hF.1
  have hnb9 : nb0 L ≤ 199 := by unfold nb0; split <;> omega
  have hbv : blo L jj ≤ 64 := by
    unfold blo nb0 at *
    split
    · omega
    · next e => rw [if_neg e] at hjj; exact (hL.blk hjj).2.2.2.2.1
  obtain ⟨i1, i2⟩ := insL_bl (p := p) (v := y.toInt) hL hjj
  refine s_istore dX12_add_65 (by decide) (by simp only [sl, sl2, rm, Value.category, reduceIte, Nat.reduceAdd, Nat.reduceEqDiff, reduceCtorEq]; rfl) ?_
  refine s_aload_n (i := 0) dX12_add_67 rfl rfl ?_
  refine s_iload_n (i := 1) dX12_add_68 rfl rfl ?_
  refine s_iload_n (i := 2) dX12_add_69 rfl rfl ?_
  refine s_cV_II (My := mX12_place) dX12_add_70 wM_X12_144 cb_yX12_place ci_yX12_place (by assumption) (by assumption) (Nat.le_of_ble_eq_true rfl) (by decide) (s_d (by omega) (m_placeV (d := 0) hM hli hL hm hF ?_))
  refine s_istore dX12_add_73 (by decide) (by simp only [sl, sl2, rm, Value.category, reduceIte, Nat.reduceAdd, Nat.reduceEqDiff, reduceCtorEq]; rfl) ?_
  refine s_aload_n (i := 0) dX12_add_75 rfl rfl ?_
  refine s_iload_n (i := 1) dX12_add_76 rfl rfl ?_
  refine s_cV_I (My := mX12_many) dX12_add_77 wM_X12_131 cb_yX12_many ci_yX12_many (by assumption) (by assumption) (Nat.le_of_ble_eq_true rfl) (by decide) (s_d (by omega) (m_many (d := 0) hM hli ?_))
  rw [hm.1]
  refine s_istore dX12_add_80 (by decide) (by simp only [sl, sl2, rm, Value.category, reduceIte, Nat.reduceAdd, Nat.reduceEqDiff, reduceCtorEq]; rfl) ?_
  refine ml_add1 (m := L.2.1) (g := L.1) hM hli hmx (L.2.1 - p) L.2.1 e3 I (by omega) (Nat.le_refl _) hm.2.1 (fun q h h' => absurd h (by omega)) (fun I2 hf2 ho2 g1 g2 => ?_)
  refine s_aload_n (i := 0) dX12_add_119 rfl rfl ?_
  refine s_getR dX12_add_120 fl_X12_7 (by assumption) (by assumption) (by assumption) ?_
  refine s_sipush (v := 402) dX12_add_123 (by decide) ?_
  refine s_iload_n (i := 1) dX12_add_126 rfl rfl ?_
  refine s_imul dX12_add_127 ?_
  refine s_iconst (v := 1) dX12_add_128 (by decide) ?_
  refine s_iadd dX12_add_129 ?_
  refine s_iload dX12_add_130 rfl ?_
  refine s_iadd dX12_add_132 ?_
  refine s_iload_n (i := 2) dX12_add_133 rfl rfl ?_
  refine s_istn (j := 402 * li + 1 + p) dX12_add_134 (by assumption) (by assumption) (by assumption) (by first | with_reducible rfl | ((try simp only [z0, z1, zm1, zm2, zm3, zm4, zl2, zl3, zl4, zl5, zl6, zl7, zl8, zl9, zl10, zl20, zl28, zl31, zl32, zl33, zl48, zl57, zl64, zl100, zl127, zl200, zl201, zl202, zl402, zl1200, zl2412, zl16884, zI_add, zI_sub, zI_mul, zI_inc, zI_dec]) <;> (congr 1 <;> omega))) (by omega) (by decide) ?_
  refine s_aload_n (i := 0) dX12_add_135 rfl rfl ?_
  refine s_getR dX12_add_136 fl_X12_7 (by assumption) (by assumption) (by assumption) ?_
  refine s_sipush (v := 402) dX12_add_139 (by decide) ?_
  refine s_iload_n (i := 1) dX12_add_142 rfl rfl ?_
  refine s_imul dX12_add_143 ?_
  refine s_dup2 dX12_add_144 rfl rfl ?_
  refine s_ildn (j := 402 * li) dX12_add_145 (by assumption) (by assumption) (by assumption) (by first | with_reducible rfl | ((try simp only [z0, z1, zm1, zm2, zm3, zm4, zl2, zl3, zl4, zl5, zl6, zl7, zl8, zl9, zl10, zl20, zl28, zl31, zl32, zl33, zl48, zl57, zl64, zl100, zl127, zl200, zl201, zl202, zl402, zl1200, zl2412, zl16884, zI_add, zI_sub, zI_mul, zI_inc, zI_dec]) <;> (congr 1 <;> omega))) (by omega) (by decide) ?_
  rw [iu_j (by omega), ho2 _ (by omega), hm.1]
  refine s_iconst (v := 1) dX12_add_146 (by decide) ?_
  refine s_iadd dX12_add_147 ?_
  refine s_topi (y := zI ((L.2.1 + 1 : Nat) : Int)) (by first | with_reducible rfl | ((try simp only [z0, z1, zm1, zm2, zm3, zm4, zl2, zl3, zl4, zl5, zl6, zl7, zl8, zl9, zl10, zl20, zl28, zl31, zl32, zl33, zl48, zl57, zl64, zl100, zl127, zl200, zl201, zl202, zl402, zl1200, zl2412, zl16884, zI_add, zI_sub, zI_mul, zI_inc, zI_dec]) <;> (congr 1 <;> omega))) ?_
  refine s_istn (j := 402 * li) dX12_add_148 (by assumption) (by assumption) (by assumption) (by first | with_reducible rfl | ((try simp only [z0, z1, zm1, zm2, zm3, zm4, zl2, zl3, zl4, zl5, zl6, zl7, zl8, zl9, zl10, zl20, zl28, zl31, zl32, zl33, zl48, zl57, zl64, zl100, zl127, zl200, zl201, zl202, zl402, zl1200, zl2412, zl16884, zI_add, zI_sub, zI_mul, zI_inc, zI_dec]) <;> (congr 1 <;> omega))) (by omega) (by decide) ?_
  obtain ⟨I3, hI3⟩ : ∃ I3, I3 = iu (iu I2 145 (402 * li + 1 + p) y) 145 (402 * li) (zI ((L.2.1 + 1 : Nat) : Int)) := ⟨_, rfl⟩
  rw [← hI3]
  have hf3 : fr I I3 [145] := by rw [hI3]; exact fr_trans hf2 (fr_trans (fr_iu (by simp)) (fr_iu (by simp)))
  have ho3 : ∀ q, ¬ (402 * li ≤ q ∧ q < 402 * li + 201) → I3 145 q = I 145 q := fun q h => by rw [hI3, iu_j (by omega), iu_j (by omega)]; exact ho2 q (by omega)
  have hN3 : MN (I3 145) (402 * li) (ins L.1 p y.toInt) (L.2.1 + 1) := by
    rw [hI3]
    refine ⟨iu_at, fun q h => ?_⟩
    rw [iu_j (by omega)]
    unfold ins
    rcases Nat.lt_trichotomy q p with c | c | c
    · rw [iu_j (by omega), if_pos c]; exact g1 q c
    · rw [c, iu_at, if_neg (by omega), if_pos rfl, zI_self]
    · rw [iu_j (by omega), if_neg (by omega), if_neg (by omega)]; exact g2 q c (by omega)
  have fin : ∀ (I4 I5 : fI), fr I I4 [145] → (∀ q, ¬ (402 * li + 201 ≤ q ∧ q < 402 * li + 402) → I4 145 q = I3 145 q) → fr I4 I5 [145] → (∀ q, ¬ (402 * li + 201 ≤ q ∧ q < 402 * li + 402) → I5 145 q = I4 145 q) → (blo L jj + 1 ≤ 64 → I5 145 (402 * li + 201) = zI (nb0 L) ∧ ∀ q, q < nb0 L → I5 145 (402 * li + 202 + q) = zI ((if q = jj then blo L jj + 1 else blo L q : Nat) : Int)) → (¬ blo L jj + 1 ≤ 64 → I5 145 (402 * li + 201) = zI ((nb0 L + 1 : Nat) : Int) ∧ ∀ q, q < nb0 L + 1 → I5 145 (402 * li + 202 + q) = zI ((if q < jj then blo L q else if q = jj then 32 else if q = jj + 1 then 33 else blo L (q - 1) : Nat) : Int)) → Q (some (.int (zI p))) T I5 J := by
    intro I4 I5 hf4 ho4 hf5 ho5 g1 g2
    have e1 : (insL L p y.toInt jj).2.1 = L.2.1 + 1 := rfl
    have e2 : (insL L p y.toInt jj).1 = ins L.1 p y.toInt := rfl
    refine hq I5 (fr_trans hf4 hf5) (fun q h => by rw [ho5 q (by omega), ho4 q (by omega), ho3 q (by omega)]) ⟨?_, fun q h => ?_, ?_, fun q h => ?_⟩
    · rw [ho5 _ (by omega), ho4 _ (by omega), e1]; exact hN3.1
    · rw [e1] at h
      rw [ho5 _ (by omega), ho4 _ (by omega), e2]; exact hN3.2 q h
    · by_cases hc : blo L jj + 1 ≤ 64
      · rw [(g1 hc).1, (i1 hc).1]
      · rw [(g2 hc).1, (i2 hc).1]
    · by_cases hc : blo L jj + 1 ≤ 64
      · rw [(i1 hc).1] at h
        rw [(g1 hc).2 q h, (i1 hc).2 q h]
      · rw [(i2 hc).1] at h
        rw [(g2 hc).2 q h, (i2 hc).2 q h]
  have h201 : I3 145 (402 * li + 201) = zI L.2.2.2 := by rw [ho3 _ (by omega)]; exact hm.2.2.1
  by_cases e : L.2.2.2 = 0
  · have hn1 : nb0 L = 1 := by unfold nb0; rw [if_pos e]
    have hb0 : ∀ q, blo L q = 0 := fun q => by unfold blo; rw [if_pos e]
    rw [e] at h201
    refine s_aload_n (i := 0) dX12_add_149 rfl rfl ?_
    refine s_iload_n (i := 1) dX12_add_150 rfl rfl ?_
    refine s_cV_I (My := mX12_blocks) dX12_add_151 wM_X12_77 cb_yX12_blocks ci_yX12_blocks (by assumption) (by assumption) (Nat.le_of_ble_eq_true rfl) (by decide) (s_d (by omega) (m_blocks (d := 0) hM hli ?_))
    rw [h201]
    refine s_if_ne (tgt := 187) dX12_add_154 (by decide) (fun h154 => absurd h154 (fun h => h rfl)) (fun h154 => ?_)
    refine s_aload_n (i := 0) dX12_add_157 rfl rfl ?_
    refine s_getR dX12_add_158 fl_X12_7 (by assumption) (by assumption) (by assumption) ?_
    refine s_sipush (v := 402) dX12_add_161 (by decide) ?_
    refine s_iload_n (i := 1) dX12_add_164 rfl rfl ?_
    refine s_imul dX12_add_165 ?_
    refine s_sipush (v := 201) dX12_add_166 (by decide) ?_
    refine s_iadd dX12_add_169 ?_
    refine s_iconst (v := 1) dX12_add_170 (by decide) ?_
    refine s_istn (j := 402 * li + 201) dX12_add_171 (by assumption) (by assumption) (by assumption) (by first | with_reducible rfl | ((try simp only [z0, z1, zm1, zm2, zm3, zm4, zl2, zl3, zl4, zl5, zl6, zl7, zl8, zl9, zl10, zl20, zl28, zl31, zl32, zl33, zl48, zl57, zl64, zl100, zl127, zl200, zl201, zl202, zl402, zl1200, zl2412, zl16884, zI_add, zI_sub, zI_mul, zI_inc, zI_dec]) <;> (congr 1 <;> omega))) (by omega) (by decide) ?_
    refine s_aload_n (i := 0) dX12_add_172 rfl rfl ?_
    refine s_getR dX12_add_173 fl_X12_7 (by assumption) (by assumption) (by assumption) ?_
    refine s_sipush (v := 402) dX12_add_176 (by decide) ?_
    refine s_iload_n (i := 1) dX12_add_179 rfl rfl ?_
    refine s_imul dX12_add_180 ?_
    refine s_sipush (v := 202) dX12_add_181 (by decide) ?_
    refine s_iadd dX12_add_184 ?_
    refine s_iconst (v := 0) dX12_add_185 (by decide) ?_
    refine s_istn (j := 402 * li + 202) dX12_add_186 (by assumption) (by assumption) (by assumption) (by first | with_reducible rfl | ((try simp only [z0, z1, zm1, zm2, zm3, zm4, zl2, zl3, zl4, zl5, zl6, zl7, zl8, zl9, zl10, zl20, zl28, zl31, zl32, zl33, zl48, zl57, zl64, zl100, zl127, zl200, zl201, zl202, zl402, zl1200, zl2412, zl16884, zI_add, zI_sub, zI_mul, zI_inc, zI_dec]) <;> (congr 1 <;> omega))) (by omega) (by decide) ?_
    refine ml_add187 (nb := nb0 L) (bv := blo L) hM hli hjj hnb9 (by rw [hn1, iu_j (by omega), iu_at]; rfl) (fun q h => by have e0 : q = 0 := (by rw [hn1] at h; omega); rw [e0, hb0]; exact iu_at) hbv ⟨rfl, rfl, rfl, rfl, rfl, trivial⟩ (fun I5 hf5 ho5 g1 g2 => ?_)
    exact fin _ I5 (fr_trans hf3 (fr_trans (fr_iu (by simp)) (fr_iu (by simp)))) (fun q h => by rw [iu_j (by omega), iu_j (by omega)]) hf5 ho5 g1 g2
  · have hn1 : nb0 L = L.2.2.2 := by unfold nb0; rw [if_neg e]
    have hb0 : ∀ q, blo L q = bl L q := fun q => by unfold blo; rw [if_neg e]
    refine s_aload_n (i := 0) dX12_add_149 rfl rfl ?_
    refine s_iload_n (i := 1) dX12_add_150 rfl rfl ?_
    refine s_cV_I (My := mX12_blocks) dX12_add_151 wM_X12_77 cb_yX12_blocks ci_yX12_blocks (by assumption) (by assumption) (Nat.le_of_ble_eq_true rfl) (by decide) (s_d (by omega) (m_blocks (d := 0) hM hli ?_))
    rw [h201]
    refine s_if_ne (tgt := 187) dX12_add_154 (by decide) (fun h154 => ?_) (fun h154 => absurd h154 (fun h => by rw [z0, zI_eq (by omega) (by omega) (by omega) (by omega)] at h; omega))
    refine ml_add187 (nb := nb0 L) (bv := blo L) hM hli hjj hnb9 (by rw [hn1]; exact h201) (fun q h => by rw [hn1] at h; rw [hb0, ho3 _ (by omega)]; exact hm.2.2.2 q h) hbv ⟨rfl, rfl, rfl, rfl, rfl, trivial⟩ (fun I5 hf5 ho5 g1 g2 => ?_)
    exact fin _ I5 hf3 (fun q h => rfl) hf5 ho5 g1 g2
set_option maxRecDepth 100000 in
set_option maxHeartbeats 1000000 in
theorem m_add {G : fG} {x0 : Nat} {l : Launch} {d k n : Nat} {T : fT} {I : fI} {J : fJ} {Q : Option Value → fT → fI → fJ → Prop} {x y : Int32} {S S' : ASt} {a : Int} (hS : MIs T I S) (hk : SOk S) (h : rAdd S x.toInt y.toInt a S') (hq : ∀ I', frC I I' → MIs T I' S' → Q (some (.int (zI a))) T I' J) : PW G x0 l mX12_add (d + 3) (ZM G x0 Q) k n 0 [(0, .ref (x0 + 144)), (1, .int x), (2, .int y)] [] T I J := by
  have hM := hS.1
  obtain ⟨o1, o2⟩ := hM.o
  obtain ⟨r145, b145, k145, n145⟩ := hM.a145
  refine s_iload_n (i := 1) dX12_add_0 rfl rfl ?_
  refine s_cS_I (My := mX12_isList) dX12_add_1 wM_X12_73 cb_yX12_isList wT_yX12_isList (Nat.le_of_ble_eq_true rfl) (by decide) (s_d (by omega) (m_isList (d := 0) ?_ ?_))
  · intro hx
    refine s_if_eq (tgt := 14) dX12_add_4 (by decide) (fun h4 => absurd h4 (by decide)) (fun h4 => ?_)
    refine s_iload_n (i := 2) dX12_add_7 rfl rfl ?_
    refine s_cS_I (My := mX12_isValue) dX12_add_8 wM_X12_147 cb_yX12_isValue wT_yX12_isValue (Nat.le_of_ble_eq_true rfl) (by decide) (s_d (by omega) (m_isValue (d := 0) ?_ ?_))
    · intro hy
      obtain ⟨hbad, -, -⟩ | ⟨li, hli, e1, hy2, hh⟩ := h
      · exact absurd ⟨hx, hy⟩ hbad
      have hxz := t_zI e1
      subst hxz
      have hxt : (zI (li : Int)).toInt = li := zI_t (by omega) (by omega)
      have hL := hk.1 li hli
      have hm := hS.L hli
      have hnm := hL.nbm
      have hmm := hL.1
      refine s_if_ne (tgt := 17) dX12_add_11 (by decide) (fun h11 => ?_) (fun h11 => absurd h11 (by decide))
      refine s_aload_n (i := 0) dX12_add_17 rfl rfl ?_
      refine s_iload_n (i := 1) dX12_add_18 rfl rfl ?_
      refine s_iload_n (i := 2) dX12_add_19 rfl rfl ?_
      refine s_cV_II (My := mX12_has) dX12_add_20 wM_X12_150 cb_yX12_has ci_yX12_has (by assumption) (by assumption) (Nat.le_of_ble_eq_true rfl) (by decide) (s_d (by omega) (m_has (d := 0) hM hli hL hm ?_ ?_))
      · intro hz
        obtain ⟨-, rfl, rfl⟩ | ⟨hno, -⟩ := hh
        · refine s_if_eq (tgt := 29) dX12_add_23 (by decide) (fun h23 => absurd h23 (by decide)) (fun h23 => ?_)
          refine s_bipush (v := -3) dX12_add_26 (by decide) ?_
          refine s_iret dX12_add_28 rfl ?_
          rw [zm3]
          exact hq I (frC.refl I) hS
        · obtain ⟨q, h1, h2⟩ := hz
          exact absurd h2 (hno q h1)
      · intro hz
        obtain ⟨⟨q, h1, h2⟩, -⟩ | ⟨hno, hh⟩ := hh
        · exact absurd h2 (hz q h1)
        obtain ⟨hfull, rfl, rfl⟩ | ⟨hlt, p, j, hF, hB, rfl, rfl⟩ := hh
        · refine s_if_eq (tgt := 29) dX12_add_23 (by decide) (fun h23 => ?_) (fun h23 => absurd (rfl) h23)
          refine s_aload_n (i := 0) dX12_add_29 rfl rfl ?_
          refine s_iload_n (i := 1) dX12_add_30 rfl rfl ?_
          refine s_cV_I (My := mX12_many) dX12_add_31 wM_X12_131 cb_yX12_many ci_yX12_many (by assumption) (by assumption) (Nat.le_of_ble_eq_true rfl) (by decide) (s_d (by omega) (m_many (d := 0) hM hli ?_))
          rw [hm.1]
          refine s_sipush (v := 200) dX12_add_34 (by decide) ?_
          refine s_icmp_ne (tgt := 43) dX12_add_37 (by decide) (fun h37 => absurd h37 (fun h => h (by rw [zl200, zI_eq (by omega) (by omega) (by omega) (by omega)]; omega))) (fun h37 => ?_)
          refine s_bipush (v := -4) dX12_add_40 (by decide) ?_
          refine s_iret dX12_add_42 rfl ?_
          rw [zm4]
          exact hq I (frC.refl I) hS
        · refine s_if_eq (tgt := 29) dX12_add_23 (by decide) (fun h23 => ?_) (fun h23 => absurd (rfl) h23)
          refine s_aload_n (i := 0) dX12_add_29 rfl rfl ?_
          refine s_iload_n (i := 1) dX12_add_30 rfl rfl ?_
          refine s_cV_I (My := mX12_many) dX12_add_31 wM_X12_131 cb_yX12_many ci_yX12_many (by assumption) (by assumption) (Nat.le_of_ble_eq_true rfl) (by decide) (s_d (by omega) (m_many (d := 0) hM hli ?_))
          rw [hm.1]
          refine s_sipush (v := 200) dX12_add_34 (by decide) ?_
          refine s_icmp_ne (tgt := 43) dX12_add_37 (by decide) (fun h37 => ?_) (fun h37 => absurd h37 (fun h => by rw [zl200, zI_eq (by omega) (by omega) (by omega) (by omega)] at h; omega))
          refine s_aload_n (i := 0) dX12_add_43 rfl rfl ?_
          refine s_iload_n (i := 1) dX12_add_44 rfl rfl ?_
          refine s_cV_I (My := mX12_keeps) dX12_add_45 wM_X12_154 cb_yX12_keeps ci_yX12_keeps (by assumption) (by assumption) (Nat.le_of_ble_eq_true rfl) (by decide) (s_d (by omega) (m_keeps (d := 0) hS hk hli (fun I1 hf1 hj1 hK => ?_)))
          refine s_aload_n (i := 0) dX12_add_48 rfl rfl ?_
          refine s_iload_n (i := 1) dX12_add_49 rfl rfl ?_
          refine s_iload_n (i := 2) dX12_add_50 rfl rfl ?_
          refine s_cV_II (My := mX12_lastBlock) dX12_add_51 wM_X12_158 cb_yX12_lastBlock ci_yX12_lastBlock (by assumption) (by assumption) (Nat.le_of_ble_eq_true rfl) (by decide) (s_d (by omega) (m_last (d := 0) hM hli hL (hK.2.1.at0 hli) hB ?_))
          have hj1' := hB.1
          have hj2 := hB.2.1
          have hjj : j.toNat < nb0 (S.1 li) := by unfold nb0; split <;> omega
          have hfin : ∀ I2, fr I1 I2 [145] → (∀ q, ¬ (402 * li ≤ q ∧ q < 402 * li + 402) → I2 145 q = I1 145 q) → ML (I2 145) (402 * li) (insL (S.1 li) p y.toInt j.toNat) → Q (some (.int (zI p))) T I2 J := by
            intro I2 hf2 ho2 hL2
            have hfk : frK I1 I2 := ⟨fun b hb => hf2 b (by simp; omega), fun j _ => by rw [hf2 144 (by decide)]⟩
            exact hq I2 (frC.trans (frC.of hf1 (fun b hb => by simp at hb; omega)) hfk.c) (hK.fin0 hfk (by rw [hf2 144 (by decide)]) (hK.2.1.upd hk.ls ho2 hL2))
          by_cases ej : j = -1
          · rw [ej]
            refine s_istore_n (i := 3) dX12_add_54 rfl (by decide) (by simp only [sl, sl2, rm, Value.category, reduceIte, Nat.reduceAdd, Nat.reduceEqDiff, reduceCtorEq]; rfl) ?_
            refine s_iload_n (i := 3) dX12_add_55 rfl rfl ?_
            refine s_iconst (v := -1) dX12_add_56 (by decide) ?_
            refine s_icmp_ne (tgt := 64) dX12_add_57 (by decide) (fun h57 => absurd h57 (fun h => h zm1.symm)) (fun h57 => ?_)
            refine s_iconst (v := 0) dX12_add_60 (by decide) ?_
            refine s_goto (tgt := 65) dX12_add_61 (by decide) ?_
            refine s_topi (y := zI (j.toNat : Int)) (by rw [ej]; rfl) ?_
            exact ml_add65 hM hli hL (hK.2.1.at0 hli) hF hlt hjj hfin
          · refine s_istore_n (i := 3) dX12_add_54 rfl (by decide) (by simp only [sl, sl2, rm, Value.category, reduceIte, Nat.reduceAdd, Nat.reduceEqDiff, reduceCtorEq]; rfl) ?_
            refine s_iload_n (i := 3) dX12_add_55 rfl rfl ?_
            refine s_iconst (v := -1) dX12_add_56 (by decide) ?_
            refine s_icmp_ne (tgt := 64) dX12_add_57 (by decide) (fun h57 => ?_) (fun h57 => absurd h57 (fun h => by rw [zm1, zI_eq (by omega) (by omega) (by omega) (by omega)] at h; omega))
            refine s_iload_n (i := 3) dX12_add_64 rfl rfl ?_
            refine s_topi (y := zI (j.toNat : Int)) (by rw [Int.toNat_of_nonneg (by omega)]) ?_
            exact ml_add65 hM hli hL (hK.2.1.at0 hli) hF hlt hjj hfin
    · intro hy
      obtain ⟨-, rfl, rfl⟩ | ⟨li, hli, e1, hy2, -⟩ := h
      · refine s_if_ne (tgt := 17) dX12_add_11 (by decide) (fun h11 => absurd h11 (fun h => h rfl)) (fun h11 => ?_)
        refine s_bipush (v := -2) dX12_add_14 (by decide) ?_
        refine s_iret dX12_add_16 rfl ?_
        rw [zm2]
        exact hq I (frC.refl I) hS
      · exact absurd hy2 hy
  · intro hx
    obtain ⟨-, rfl, rfl⟩ | ⟨li, hli, e1, -⟩ := h
    · refine s_if_eq (tgt := 14) dX12_add_4 (by decide) (fun h4 => ?_) (fun h4 => absurd (rfl) h4)
      refine s_bipush (v := -2) dX12_add_14 (by decide) ?_
      refine s_iret dX12_add_16 rfl ?_
      rw [zm2]
      exact hq I (frC.refl I) hS
    · exact absurd (by omega) hx
set_option maxRecDepth 100000 in
set_option maxHeartbeats 1000000 in
theorem ml_rem1 {G : fG} {x0 : Nat} {l : Launch} {d k n : Nat} {T : fT} {J : fJ} {Q : Option Value → fT → fI → fJ → Prop} {li p jj m : Nat} {y : Int32} {g : Nat → Int} (hM : MObj T) (hli : li < 6) (hmm : m + 1 ≤ 200) : ∀ (t i : Nat) (I : fI), i + t = m → I 145 (402 * li) = zI m → (∀ q, p ≤ q → q < i → I 145 (402 * li + 1 + q) = zI (g (q + 1))) → (∀ q, (q < p ∨ i ≤ q) → q < m + 1 → I 145 (402 * li + 1 + q) = zI (g q)) → p ≤ i → (∀ I', fr I I' [145] → (∀ q, ¬ (402 * li + 1 ≤ q ∧ q < 402 * li + 201) → I' 145 q = I 145 q) → (∀ q, q < m → I' 145 (402 * li + 1 + q) = zI (del g p q)) → PW G x0 l mX12_remove (d + 3) (ZM G x0 Q) k n 106 [(0, .ref (x0 + 144)), (1, .int (zI li)), (2, .int y), (3, .int (zI p)), (4, .int (zI jj))] [] T I' J) → PW G x0 l mX12_remove (d + 3) (ZM G x0 Q) k n 66 [(0, .ref (x0 + 144)), (1, .int (zI li)), (2, .int y), (3, .int (zI p)), (4, .int (zI jj)), (5, .int (zI i))] [] T I J := by
  obtain ⟨o1, o2⟩ := hM.o
  obtain ⟨r145, b145, k145, n145⟩ := hM.a145
  intro t
  induction t with
  | zero =>
    intro i I ht h0 h1 h2 hp kk
    have hi : i = m := by omega
    subst hi
    refine s_iload dX12_remove_66 rfl ?_
    refine s_aload_n (i := 0) dX12_remove_68 rfl rfl ?_
    refine s_iload_n (i := 1) dX12_remove_69 rfl rfl ?_
    refine s_cV_I (My := mX12_many) dX12_remove_70 wM_X12_131 cb_yX12_many ci_yX12_many (by assumption) (by assumption) (Nat.le_of_ble_eq_true rfl) (by decide) (s_d (by omega) (m_many (d := 0) hM hli ?_))
    rw [h0]
    refine s_icmp_ge (tgt := 106) dX12_remove_73 (by decide) (fun h73 => ?_) (fun h73 => absurd ((zI_le (by omega) (by omega) (by omega) (by omega)).mpr (by omega)) h73)
    refine s_lv (lv' := [(0, .ref (x0 + 144)), (1, .int (zI li)), (2, .int y), (3, .int (zI p)), (4, .int (zI jj))]) ⟨rfl, rfl, rfl, rfl, rfl, trivial⟩ ?_
    refine kk I (fr_refl I _) (fun _ _ => rfl) (fun q h => ?_)
    unfold del
    split
    · next c => exact h2 q (Or.inl c) (by omega)
    · next c => exact h1 q (by omega) h
  | succ t ih =>
    intro i I ht h0 h1 h2 hp kk
    refine s_iload dX12_remove_66 rfl ?_
    refine s_aload_n (i := 0) dX12_remove_68 rfl rfl ?_
    refine s_iload_n (i := 1) dX12_remove_69 rfl rfl ?_
    refine s_cV_I (My := mX12_many) dX12_remove_70 wM_X12_131 cb_yX12_many ci_yX12_many (by assumption) (by assumption) (Nat.le_of_ble_eq_true rfl) (by decide) (s_d (by omega) (m_many (d := 0) hM hli ?_))
    rw [h0]
    refine s_icmp_ge (tgt := 106) dX12_remove_73 (by decide) (fun h73 => absurd h73 (fun h => by rw [zI_le (by omega) (by omega) (by omega) (by omega)] at h; omega)) (fun h73 => ?_)
    refine s_aload_n (i := 0) dX12_remove_76 rfl rfl ?_
    refine s_getR dX12_remove_77 fl_X12_7 (by assumption) (by assumption) (by assumption) ?_
    refine s_sipush (v := 402) dX12_remove_80 (by decide) ?_
    refine s_iload_n (i := 1) dX12_remove_83 rfl rfl ?_
    refine s_imul dX12_remove_84 ?_
    refine s_iconst (v := 1) dX12_remove_85 (by decide) ?_
    refine s_iadd dX12_remove_86 ?_
    refine s_iload dX12_remove_87 rfl ?_
    refine s_iadd dX12_remove_89 ?_
    refine s_aload_n (i := 0) dX12_remove_90 rfl rfl ?_
    refine s_iload_n (i := 1) dX12_remove_91 rfl rfl ?_
    refine s_iload dX12_remove_92 rfl ?_
    refine s_iconst (v := 1) dX12_remove_94 (by decide) ?_
    refine s_iadd dX12_remove_95 ?_
    refine s_topi (y := zI ((i + 1 : Nat) : Int)) (by first | with_reducible rfl | ((try simp only [z0, z1, zm1, zm2, zm3, zm4, zl2, zl3, zl4, zl5, zl6, zl7, zl8, zl9, zl10, zl20, zl28, zl31, zl32, zl33, zl48, zl57, zl64, zl100, zl127, zl200, zl201, zl202, zl402, zl1200, zl2412, zl16884, zI_add, zI_sub, zI_mul, zI_inc, zI_dec]) <;> (congr 1 <;> omega))) ?_
    refine s_cV_II (My := mX12_number) dX12_remove_96 wM_X12_103 cb_yX12_number ci_yX12_number (by assumption) (by assumption) (Nat.le_of_ble_eq_true rfl) (by decide) (s_d (by omega) (m_number (d := 0) (i := i + 1) hM hli (by omega) ?_))
    refine s_istn (j := 402 * li + 1 + i) dX12_remove_99 (by assumption) (by assumption) (by assumption) (by first | with_reducible rfl | ((try simp only [z0, z1, zm1, zm2, zm3, zm4, zl2, zl3, zl4, zl5, zl6, zl7, zl8, zl9, zl10, zl20, zl28, zl31, zl32, zl33, zl48, zl57, zl64, zl100, zl127, zl200, zl201, zl202, zl402, zl1200, zl2412, zl16884, zI_add, zI_sub, zI_mul, zI_inc, zI_dec]) <;> (congr 1 <;> omega))) (by omega) (by decide) ?_
    refine s_iinc dX12_remove_100 rfl (zI_inc _) (by decide) (by simp only [sl, sl2, rm, Value.category, reduceIte, Nat.reduceAdd, Nat.reduceEqDiff, reduceCtorEq]; rfl) ?_
    refine s_goto (tgt := 66) dX12_remove_103 (by decide) ?_
    refine ih (i + 1) _ (by omega) (by rw [iu_j (by omega)]; exact h0) (fun q h h' => ?_) (fun q h h' => by rw [iu_j (by omega)]; exact h2 q (by omega) h') (by omega) (fun I' hf ho g1 => kk I' (fr_trans (fr_iu (by simp)) hf) (fun q h => by rw [ho q h, iu_j (by omega)]) g1)
    by_cases e : q = i
    · subst e; rw [iu_at]; exact h2 (q + 1) (Or.inr (by omega)) (by omega)
    · rw [iu_j (by omega)]; exact h1 q h (by omega)
set_option maxRecDepth 100000 in
set_option maxHeartbeats 1000000 in
theorem ml_rem2 {G : fG} {x0 : Nat} {l : Launch} {d k n : Nat} {T : fT} {J : fJ} {Q : Option Value → fT → fI → fJ → Prop} {li p jj nb : Nat} {y : Int32} {F : Nat → Int} (hM : MObj T) (hli : li < 6) (hnb : nb + 1 ≤ 200) : ∀ (t i : Nat) (I : fI), i + t = nb → I 145 (402 * li + 201) = zI nb → (∀ q, jj ≤ q → q < i → I 145 (402 * li + 202 + q) = zI (F (q + 1))) → (∀ q, (q < jj ∨ i < q) → q < nb + 1 → I 145 (402 * li + 202 + q) = zI (F q)) → jj ≤ i → (∀ I', fr I I' [145] → (∀ q, ¬ (402 * li + 202 ≤ q ∧ q < 402 * li + 402) → I' 145 q = I 145 q) → (∀ q, q < nb → I' 145 (402 * li + 202 + q) = zI (if q < jj then F q else F (q + 1))) → Q (some (.int (zI p))) T I' J) → PW G x0 l mX12_remove (d + 3) (ZM G x0 Q) k n 159 [(0, .ref (x0 + 144)), (1, .int (zI li)), (2, .int y), (3, .int (zI p)), (4, .int (zI jj)), (5, .int (zI i))] [] T I J := by
  obtain ⟨o1, o2⟩ := hM.o
  obtain ⟨r145, b145, k145, n145⟩ := hM.a145
  intro t
  induction t with
  | zero =>
    intro i I ht h0 h1 h2 hp hq
    have hi : i = nb := by omega
    subst hi
    refine s_iload dX12_remove_159 rfl ?_
    refine s_aload_n (i := 0) dX12_remove_161 rfl rfl ?_
    refine s_iload_n (i := 1) dX12_remove_162 rfl rfl ?_
    refine s_cV_I (My := mX12_blocks) dX12_remove_163 wM_X12_77 cb_yX12_blocks ci_yX12_blocks (by assumption) (by assumption) (Nat.le_of_ble_eq_true rfl) (by decide) (s_d (by omega) (m_blocks (d := 0) hM hli ?_))
    rw [h0]
    refine s_icmp_ge (tgt := 201) dX12_remove_166 (by decide) (fun h166 => ?_) (fun h166 => absurd ((zI_le (by omega) (by omega) (by omega) (by omega)).mpr (by omega)) h166)
    refine s_iload_n (i := 3) dX12_remove_201 rfl rfl ?_
    refine s_iret dX12_remove_202 rfl ?_
    refine hq I (fr_refl I _) (fun _ _ => rfl) (fun q h => ?_)
    split
    · next c => exact h2 q (Or.inl c) (by omega)
    · next c => exact h1 q (by omega) h
  | succ t ih =>
    intro i I ht h0 h1 h2 hp hq
    refine s_iload dX12_remove_159 rfl ?_
    refine s_aload_n (i := 0) dX12_remove_161 rfl rfl ?_
    refine s_iload_n (i := 1) dX12_remove_162 rfl rfl ?_
    refine s_cV_I (My := mX12_blocks) dX12_remove_163 wM_X12_77 cb_yX12_blocks ci_yX12_blocks (by assumption) (by assumption) (Nat.le_of_ble_eq_true rfl) (by decide) (s_d (by omega) (m_blocks (d := 0) hM hli ?_))
    rw [h0]
    refine s_icmp_ge (tgt := 201) dX12_remove_166 (by decide) (fun h166 => absurd h166 (fun h => by rw [zI_le (by omega) (by omega) (by omega) (by omega)] at h; omega)) (fun h166 => ?_)
    refine s_aload_n (i := 0) dX12_remove_169 rfl rfl ?_
    refine s_getR dX12_remove_170 fl_X12_7 (by assumption) (by assumption) (by assumption) ?_
    refine s_sipush (v := 402) dX12_remove_173 (by decide) ?_
    refine s_iload_n (i := 1) dX12_remove_176 rfl rfl ?_
    refine s_imul dX12_remove_177 ?_
    refine s_sipush (v := 202) dX12_remove_178 (by decide) ?_
    refine s_iadd dX12_remove_181 ?_
    refine s_iload dX12_remove_182 rfl ?_
    refine s_iadd dX12_remove_184 ?_
    refine s_aload_n (i := 0) dX12_remove_185 rfl rfl ?_
    refine s_iload_n (i := 1) dX12_remove_186 rfl rfl ?_
    refine s_iload dX12_remove_187 rfl ?_
    refine s_iconst (v := 1) dX12_remove_189 (by decide) ?_
    refine s_iadd dX12_remove_190 ?_
    refine s_topi (y := zI ((i + 1 : Nat) : Int)) (by first | with_reducible rfl | ((try simp only [z0, z1, zm1, zm2, zm3, zm4, zl2, zl3, zl4, zl5, zl6, zl7, zl8, zl9, zl10, zl20, zl28, zl31, zl32, zl33, zl48, zl57, zl64, zl100, zl127, zl200, zl201, zl202, zl402, zl1200, zl2412, zl16884, zI_add, zI_sub, zI_mul, zI_inc, zI_dec]) <;> (congr 1 <;> omega))) ?_
    refine s_cV_II (My := mX12_length) dX12_remove_191 wM_X12_81 cb_yX12_length ci_yX12_length (by assumption) (by assumption) (Nat.le_of_ble_eq_true rfl) (by decide) (s_d (by omega) (m_length (d := 0) (i := i + 1) hM hli (by omega) ?_))
    refine s_istn (j := 402 * li + 202 + i) dX12_remove_194 (by assumption) (by assumption) (by assumption) (by first | with_reducible rfl | ((try simp only [z0, z1, zm1, zm2, zm3, zm4, zl2, zl3, zl4, zl5, zl6, zl7, zl8, zl9, zl10, zl20, zl28, zl31, zl32, zl33, zl48, zl57, zl64, zl100, zl127, zl200, zl201, zl202, zl402, zl1200, zl2412, zl16884, zI_add, zI_sub, zI_mul, zI_inc, zI_dec]) <;> (congr 1 <;> omega))) (by omega) (by decide) ?_
    refine s_iinc dX12_remove_195 rfl (zI_inc _) (by decide) (by simp only [sl, sl2, rm, Value.category, reduceIte, Nat.reduceAdd, Nat.reduceEqDiff, reduceCtorEq]; rfl) ?_
    refine s_goto (tgt := 159) dX12_remove_198 (by decide) ?_
    refine ih (i + 1) _ (by omega) (by rw [iu_j (by omega)]; exact h0) (fun q h h' => ?_) (fun q h h' => by rw [iu_j (by omega)]; exact h2 q (by omega) h') (by omega) (fun I' hf ho g1 => hq I' (fr_trans (fr_iu (by simp)) hf) (fun q h => by rw [ho q h, iu_j (by omega)]) g1)
    by_cases e : q = i
    · subst e; rw [iu_at]; exact h2 (q + 1) (Or.inr (by omega)) (by omega)
    · rw [iu_j (by omega)]; exact h1 q h (by omega)
set_option maxRecDepth 100000 in
set_option maxHeartbeats 1000000 in
theorem ml_rem106 {G : fG} {x0 : Nat} {l : Launch} {d k n : Nat} {T : fT} {I : fI} {J : fJ} {Q : Option Value → fT → fI → fJ → Prop} {li p jj nb : Nat} {y : Int32} {bv : Nat → Nat} (hM : MObj T) (hli : li < 6) (hjj : jj < nb) (hnb : nb ≤ 200) (h201 : I 145 (402 * li + 201) = zI nb) (hb : ∀ q, q < nb → I 145 (402 * li + 202 + q) = zI (bv q)) (hbv : 1 ≤ bv jj ∧ bv jj ≤ 64) (hq : ∀ I', fr I I' [145] → (∀ q, ¬ (402 * li + 201 ≤ q ∧ q < 402 * li + 402) → I' 145 q = I 145 q) → (bv jj = 1 → I' 145 (402 * li + 201) = zI ((nb - 1 : Nat) : Int) ∧ ∀ q, q < nb - 1 → I' 145 (402 * li + 202 + q) = zI ((if q < jj then bv q else bv (q + 1) : Nat) : Int)) → (bv jj ≠ 1 → I' 145 (402 * li + 201) = zI nb ∧ ∀ q, q < nb → I' 145 (402 * li + 202 + q) = zI ((if q = jj then bv jj - 1 else bv q : Nat) : Int)) → Q (some (.int (zI p))) T I' J) : PW G x0 l mX12_remove (d + 3) (ZM G x0 Q) k n 106 [(0, .ref (x0 + 144)), (1, .int (zI li)), (2, .int y), (3, .int (zI p)), (4, .int (zI jj))] [] T I J := by
  obtain ⟨o1, o2⟩ := hM.o
  obtain ⟨r145, b145, k145, n145⟩ := hM.a145
  by_cases hc : bv jj = 1
  · refine s_aload_n (i := 0) dX12_remove_106 rfl rfl ?_
    refine s_getR dX12_remove_107 fl_X12_7 (by assumption) (by assumption) (by assumption) ?_
    refine s_sipush (v := 402) dX12_remove_110 (by decide) ?_
    refine s_iload_n (i := 1) dX12_remove_113 rfl rfl ?_
    refine s_imul dX12_remove_114 ?_
    refine s_sipush (v := 202) dX12_remove_115 (by decide) ?_
    refine s_iadd dX12_remove_118 ?_
    refine s_iload dX12_remove_119 rfl ?_
    refine s_iadd dX12_remove_121 ?_
    refine s_dup2 dX12_remove_122 rfl rfl ?_
    refine s_ildn (j := 402 * li + 202 + jj) dX12_remove_123 (by assumption) (by assumption) (by assumption) (by first | with_reducible rfl | ((try simp only [z0, z1, zm1, zm2, zm3, zm4, zl2, zl3, zl4, zl5, zl6, zl7, zl8, zl9, zl10, zl20, zl28, zl31, zl32, zl33, zl48, zl57, zl64, zl100, zl127, zl200, zl201, zl202, zl402, zl1200, zl2412, zl16884, zI_add, zI_sub, zI_mul, zI_inc, zI_dec]) <;> (congr 1 <;> omega))) (by omega) (by decide) ?_
    rw [hb jj hjj]
    refine s_iconst (v := 1) dX12_remove_124 (by decide) ?_
    refine s_isub dX12_remove_125 ?_
    refine s_topi (y := zI ((bv jj - 1 : Nat) : Int)) (by first | with_reducible rfl | ((try simp only [z0, z1, zm1, zm2, zm3, zm4, zl2, zl3, zl4, zl5, zl6, zl7, zl8, zl9, zl10, zl20, zl28, zl31, zl32, zl33, zl48, zl57, zl64, zl100, zl127, zl200, zl201, zl202, zl402, zl1200, zl2412, zl16884, zI_add, zI_sub, zI_mul, zI_inc, zI_dec]) <;> (congr 1 <;> omega))) ?_
    refine s_istn (j := 402 * li + 202 + jj) dX12_remove_126 (by assumption) (by assumption) (by assumption) (by first | with_reducible rfl | ((try simp only [z0, z1, zm1, zm2, zm3, zm4, zl2, zl3, zl4, zl5, zl6, zl7, zl8, zl9, zl10, zl20, zl28, zl31, zl32, zl33, zl48, zl57, zl64, zl100, zl127, zl200, zl201, zl202, zl402, zl1200, zl2412, zl16884, zI_add, zI_sub, zI_mul, zI_inc, zI_dec]) <;> (congr 1 <;> omega))) (by omega) (by decide) ?_
    refine s_aload_n (i := 0) dX12_remove_127 rfl rfl ?_
    refine s_iload_n (i := 1) dX12_remove_128 rfl rfl ?_
    refine s_iload dX12_remove_129 rfl ?_
    refine s_cV_II (My := mX12_length) dX12_remove_131 wM_X12_81 cb_yX12_length ci_yX12_length (by assumption) (by assumption) (Nat.le_of_ble_eq_true rfl) (by decide) (s_d (by omega) (m_length (d := 0) hM hli (by omega) ?_))
    rw [iu_at, hc]
    refine s_if_ne (tgt := 201) dX12_remove_134 (by decide) (fun h134 => absurd h134 (fun h => h rfl)) (fun h134 => ?_)
    refine s_aload_n (i := 0) dX12_remove_137 rfl rfl ?_
    refine s_getR dX12_remove_138 fl_X12_7 (by assumption) (by assumption) (by assumption) ?_
    refine s_sipush (v := 402) dX12_remove_141 (by decide) ?_
    refine s_iload_n (i := 1) dX12_remove_144 rfl rfl ?_
    refine s_imul dX12_remove_145 ?_
    refine s_sipush (v := 201) dX12_remove_146 (by decide) ?_
    refine s_iadd dX12_remove_149 ?_
    refine s_dup2 dX12_remove_150 rfl rfl ?_
    refine s_ildn (j := 402 * li + 201) dX12_remove_151 (by assumption) (by assumption) (by assumption) (by first | with_reducible rfl | ((try simp only [z0, z1, zm1, zm2, zm3, zm4, zl2, zl3, zl4, zl5, zl6, zl7, zl8, zl9, zl10, zl20, zl28, zl31, zl32, zl33, zl48, zl57, zl64, zl100, zl127, zl200, zl201, zl202, zl402, zl1200, zl2412, zl16884, zI_add, zI_sub, zI_mul, zI_inc, zI_dec]) <;> (congr 1 <;> omega))) (by omega) (by decide) ?_
    rw [iu_j (by omega), h201]
    refine s_iconst (v := 1) dX12_remove_152 (by decide) ?_
    refine s_isub dX12_remove_153 ?_
    refine s_topi (y := zI ((nb - 1 : Nat) : Int)) (by first | with_reducible rfl | ((try simp only [z0, z1, zm1, zm2, zm3, zm4, zl2, zl3, zl4, zl5, zl6, zl7, zl8, zl9, zl10, zl20, zl28, zl31, zl32, zl33, zl48, zl57, zl64, zl100, zl127, zl200, zl201, zl202, zl402, zl1200, zl2412, zl16884, zI_add, zI_sub, zI_mul, zI_inc, zI_dec]) <;> (congr 1 <;> omega))) ?_
    refine s_istn (j := 402 * li + 201) dX12_remove_154 (by assumption) (by assumption) (by assumption) (by first | with_reducible rfl | ((try simp only [z0, z1, zm1, zm2, zm3, zm4, zl2, zl3, zl4, zl5, zl6, zl7, zl8, zl9, zl10, zl20, zl28, zl31, zl32, zl33, zl48, zl57, zl64, zl100, zl127, zl200, zl201, zl202, zl402, zl1200, zl2412, zl16884, zI_add, zI_sub, zI_mul, zI_inc, zI_dec]) <;> (congr 1 <;> omega))) (by omega) (by decide) ?_
    refine s_iload dX12_remove_155 rfl ?_
    refine s_istore dX12_remove_157 (by decide) (by simp only [sl, sl2, rm, Value.category, reduceIte, Nat.reduceAdd, Nat.reduceEqDiff, reduceCtorEq]; rfl) ?_
    refine ml_rem2 (nb := nb - 1) (F := fun q => (bv q : Int)) hM hli (by omega) (nb - 1 - jj) jj _ (by omega) iu_at (fun q h h' => absurd h' (by omega)) (fun q h h' => by rw [iu_j (by omega), iu_j (by omega)]; exact hb q (by omega)) (Nat.le_refl _) (fun I' hf ho g => ?_)
    refine hq I' (fr_trans (fr_trans (fr_iu (by simp)) (fr_iu (by simp))) hf) (fun q h => by rw [ho q (by omega), iu_j (by omega), iu_j (by omega)]) (fun _ => ⟨by rw [ho _ (by omega), iu_at], fun q h => ?_⟩) (fun h => absurd hc h)
    rw [g q h]
    split <;> rfl
  · refine s_aload_n (i := 0) dX12_remove_106 rfl rfl ?_
    refine s_getR dX12_remove_107 fl_X12_7 (by assumption) (by assumption) (by assumption) ?_
    refine s_sipush (v := 402) dX12_remove_110 (by decide) ?_
    refine s_iload_n (i := 1) dX12_remove_113 rfl rfl ?_
    refine s_imul dX12_remove_114 ?_
    refine s_sipush (v := 202) dX12_remove_115 (by decide) ?_
    refine s_iadd dX12_remove_118 ?_
    refine s_iload dX12_remove_119 rfl ?_
    refine s_iadd dX12_remove_121 ?_
    refine s_dup2 dX12_remove_122 rfl rfl ?_
    refine s_ildn (j := 402 * li + 202 + jj) dX12_remove_123 (by assumption) (by assumption) (by assumption) (by first | with_reducible rfl | ((try simp only [z0, z1, zm1, zm2, zm3, zm4, zl2, zl3, zl4, zl5, zl6, zl7, zl8, zl9, zl10, zl20, zl28, zl31, zl32, zl33, zl48, zl57, zl64, zl100, zl127, zl200, zl201, zl202, zl402, zl1200, zl2412, zl16884, zI_add, zI_sub, zI_mul, zI_inc, zI_dec]) <;> (congr 1 <;> omega))) (by omega) (by decide) ?_
    rw [hb jj hjj]
    refine s_iconst (v := 1) dX12_remove_124 (by decide) ?_
    refine s_isub dX12_remove_125 ?_
    refine s_topi (y := zI ((bv jj - 1 : Nat) : Int)) (by first | with_reducible rfl | ((try simp only [z0, z1, zm1, zm2, zm3, zm4, zl2, zl3, zl4, zl5, zl6, zl7, zl8, zl9, zl10, zl20, zl28, zl31, zl32, zl33, zl48, zl57, zl64, zl100, zl127, zl200, zl201, zl202, zl402, zl1200, zl2412, zl16884, zI_add, zI_sub, zI_mul, zI_inc, zI_dec]) <;> (congr 1 <;> omega))) ?_
    refine s_istn (j := 402 * li + 202 + jj) dX12_remove_126 (by assumption) (by assumption) (by assumption) (by first | with_reducible rfl | ((try simp only [z0, z1, zm1, zm2, zm3, zm4, zl2, zl3, zl4, zl5, zl6, zl7, zl8, zl9, zl10, zl20, zl28, zl31, zl32, zl33, zl48, zl57, zl64, zl100, zl127, zl200, zl201, zl202, zl402, zl1200, zl2412, zl16884, zI_add, zI_sub, zI_mul, zI_inc, zI_dec]) <;> (congr 1 <;> omega))) (by omega) (by decide) ?_
    refine s_aload_n (i := 0) dX12_remove_127 rfl rfl ?_
    refine s_iload_n (i := 1) dX12_remove_128 rfl rfl ?_
    refine s_iload dX12_remove_129 rfl ?_
    refine s_cV_II (My := mX12_length) dX12_remove_131 wM_X12_81 cb_yX12_length ci_yX12_length (by assumption) (by assumption) (Nat.le_of_ble_eq_true rfl) (by decide) (s_d (by omega) (m_length (d := 0) hM hli (by omega) ?_))
    rw [iu_at]
    refine s_if_ne (tgt := 201) dX12_remove_134 (by decide) (fun h134 => ?_) (fun h134 => absurd h134 (fun h => by rw [z0, zI_eq (by omega) (by omega) (by omega) (by omega)] at h; omega))
    refine s_iload_n (i := 3) dX12_remove_201 rfl rfl ?_
    refine s_iret dX12_remove_202 rfl ?_
    refine hq _ (fr_iu (by simp)) (fun q h => iu_j (by omega)) (fun h => absurd h hc) (fun _ => ⟨by rw [iu_j (by omega)]; exact h201, fun q h => ?_⟩)
    by_cases e : q = jj
    · subst e; rw [iu_at, if_pos rfl]
    · rw [iu_j (by omega), if_neg e]; exact hb q h
set_option maxRecDepth 100000 in
set_option maxHeartbeats 1000000 in
theorem m_remove {G : fG} {x0 : Nat} {l : Launch} {d k n : Nat} {T : fT} {I : fI} {J : fJ} {Q : Option Value → fT → fI → fJ → Prop} {x y : Int32} {S S' : ASt} {a : Int} (hS : MIs T I S) (hk : SOk S) (h : rRem S x.toInt y.toInt a S') (hq : ∀ I', frC I I' → MIs T I' S' → Q (some (.int (zI a))) T I' J) : PW G x0 l mX12_remove (d + 3) (ZM G x0 Q) k n 0 [(0, .ref (x0 + 144)), (1, .int x), (2, .int y)] [] T I J := by
  have hM := hS.1
  obtain ⟨o1, o2⟩ := hM.o
  obtain ⟨r145, b145, k145, n145⟩ := hM.a145
  refine s_iload_n (i := 1) dX12_remove_0 rfl rfl ?_
  refine s_cS_I (My := mX12_isList) dX12_remove_1 wM_X12_73 cb_yX12_isList wT_yX12_isList (Nat.le_of_ble_eq_true rfl) (by decide) (s_d (by omega) (m_isList (d := 0) ?_ ?_))
  · intro hx
    refine s_if_eq (tgt := 14) dX12_remove_4 (by decide) (fun h4 => absurd h4 (by decide)) (fun h4 => ?_)
    refine s_iload_n (i := 2) dX12_remove_7 rfl rfl ?_
    refine s_cS_I (My := mX12_isValue) dX12_remove_8 wM_X12_147 cb_yX12_isValue wT_yX12_isValue (Nat.le_of_ble_eq_true rfl) (by decide) (s_d (by omega) (m_isValue (d := 0) ?_ ?_))
    · intro hy
      obtain ⟨hbad, -, -⟩ | ⟨li, hli, e1, hy2, hh⟩ := h
      · exact absurd ⟨hx, hy⟩ hbad
      have hxz := t_zI e1
      subst hxz
      have hxt : (zI (li : Int)).toInt = li := zI_t (by omega) (by omega)
      have hL := hk.1 li hli
      have hm := hS.L hli
      have hnm := hL.nbm
      have hmm := hL.1
      refine s_if_ne (tgt := 17) dX12_remove_11 (by decide) (fun h11 => ?_) (fun h11 => absurd h11 (by decide))
      refine s_aload_n (i := 0) dX12_remove_17 rfl rfl ?_
      refine s_iload_n (i := 1) dX12_remove_18 rfl rfl ?_
      refine s_iload_n (i := 2) dX12_remove_19 rfl rfl ?_
      refine s_cV_II (My := mX12_has) dX12_remove_20 wM_X12_150 cb_yX12_has ci_yX12_has (by assumption) (by assumption) (Nat.le_of_ble_eq_true rfl) (by decide) (s_d (by omega) (m_has (d := 0) hM hli hL hm ?_ ?_))
      · intro hz
        obtain ⟨hno, -⟩ | ⟨p, jj, hpm, hpy, hB, rfl, rfl⟩ := hh
        · obtain ⟨q, h1, h2⟩ := hz
          exact absurd h2 (hno q h1)
        have hF : FA (S.1 li).1 (S.1 li).2.1 y.toInt p := by
          obtain ⟨p', hp'⟩ := FA.ex (g := (S.1 li).1) (v := y.toInt) (S.1 li).2.1 hL.2.1
          rw [← hp'.at hL.2.1 hpm hpy]
          exact hp'
        rw [← hpy] at hB
        obtain ⟨hj, hi1, hi2⟩ := hB.idx hL hpm
        obtain ⟨i1, i2⟩ := delL_bl (q0 := p) hL hj (by omega)
        have hbb := hL.blk hj
        refine s_if_ne (tgt := 29) dX12_remove_23 (by decide) (fun h23 => ?_) (fun h23 => absurd h23 (by decide))
        refine s_aload_n (i := 0) dX12_remove_29 rfl rfl ?_
        refine s_iload_n (i := 1) dX12_remove_30 rfl rfl ?_
        refine s_cV_I (My := mX12_keeps) dX12_remove_31 wM_X12_154 cb_yX12_keeps ci_yX12_keeps (by assumption) (by assumption) (Nat.le_of_ble_eq_true rfl) (by decide) (s_d (by omega) (m_keeps (d := 0) hS hk hli (fun I1 hf1 hj1 hK => ?_)))
        have hm1 := hK.2.1.at0 hli
        refine s_aload_n (i := 0) dX12_remove_34 rfl rfl ?_
        refine s_iload_n (i := 1) dX12_remove_35 rfl rfl ?_
        refine s_iload_n (i := 2) dX12_remove_36 rfl rfl ?_
        refine s_cV_II (My := mX12_place) dX12_remove_37 wM_X12_144 cb_yX12_place ci_yX12_place (by assumption) (by assumption) (Nat.le_of_ble_eq_true rfl) (by decide) (s_d (by omega) (m_placeV (d := 0) hM hli hL (hK.2.1.at0 hli) hF ?_))
        refine s_istore_n (i := 3) dX12_remove_40 rfl (by decide) (by simp only [sl, sl2, rm, Value.category, reduceIte, Nat.reduceAdd, Nat.reduceEqDiff, reduceCtorEq]; rfl) ?_
        refine s_aload_n (i := 0) dX12_remove_41 rfl rfl ?_
        refine s_iload_n (i := 1) dX12_remove_42 rfl rfl ?_
        refine s_iload_n (i := 3) dX12_remove_43 rfl rfl ?_
        refine s_cV_II (My := mX12_blockOf) dX12_remove_44 wM_X12_164 cb_yX12_blockOf ci_yX12_blockOf (by assumption) (by assumption) (Nat.le_of_ble_eq_true rfl) (by decide) (s_d (by omega) (m_blockOf (d := 0) hM hli hL (hK.2.1.at0 hli) hj hi1 hi2 ?_))
        refine s_istore dX12_remove_47 (by decide) (by simp only [sl, sl2, rm, Value.category, reduceIte, Nat.reduceAdd, Nat.reduceEqDiff, reduceCtorEq]; rfl) ?_
        refine s_aload_n (i := 0) dX12_remove_49 rfl rfl ?_
        refine s_getR dX12_remove_50 fl_X12_7 (by assumption) (by assumption) (by assumption) ?_
        refine s_sipush (v := 402) dX12_remove_53 (by decide) ?_
        refine s_iload_n (i := 1) dX12_remove_56 rfl rfl ?_
        refine s_imul dX12_remove_57 ?_
        refine s_dup2 dX12_remove_58 rfl rfl ?_
        refine s_ildn (j := 402 * li) dX12_remove_59 (by assumption) (by assumption) (by assumption) (by first | with_reducible rfl | ((try simp only [z0, z1, zm1, zm2, zm3, zm4, zl2, zl3, zl4, zl5, zl6, zl7, zl8, zl9, zl10, zl20, zl28, zl31, zl32, zl33, zl48, zl57, zl64, zl100, zl127, zl200, zl201, zl202, zl402, zl1200, zl2412, zl16884, zI_add, zI_sub, zI_mul, zI_inc, zI_dec]) <;> (congr 1 <;> omega))) (by omega) (by decide) ?_
        rw [hm1.1]
        refine s_iconst (v := 1) dX12_remove_60 (by decide) ?_
        refine s_isub dX12_remove_61 ?_
        refine s_topi (y := zI (((S.1 li).2.1 - 1 : Nat) : Int)) (by first | with_reducible rfl | ((try simp only [z0, z1, zm1, zm2, zm3, zm4, zl2, zl3, zl4, zl5, zl6, zl7, zl8, zl9, zl10, zl20, zl28, zl31, zl32, zl33, zl48, zl57, zl64, zl100, zl127, zl200, zl201, zl202, zl402, zl1200, zl2412, zl16884, zI_add, zI_sub, zI_mul, zI_inc, zI_dec]) <;> (congr 1 <;> omega))) ?_
        refine s_istn (j := 402 * li) dX12_remove_62 (by assumption) (by assumption) (by assumption) (by first | with_reducible rfl | ((try simp only [z0, z1, zm1, zm2, zm3, zm4, zl2, zl3, zl4, zl5, zl6, zl7, zl8, zl9, zl10, zl20, zl28, zl31, zl32, zl33, zl48, zl57, zl64, zl100, zl127, zl200, zl201, zl202, zl402, zl1200, zl2412, zl16884, zI_add, zI_sub, zI_mul, zI_inc, zI_dec]) <;> (congr 1 <;> omega))) (by omega) (by decide) ?_
        refine s_iload_n (i := 3) dX12_remove_63 rfl rfl ?_
        refine s_istore dX12_remove_64 (by decide) (by simp only [sl, sl2, rm, Value.category, reduceIte, Nat.reduceAdd, Nat.reduceEqDiff, reduceCtorEq]; rfl) ?_
        refine ml_rem1 (m := (S.1 li).2.1 - 1) (g := (S.1 li).1) hM hli (by omega) ((S.1 li).2.1 - 1 - p) p _ (by omega) iu_at (fun q h h' => absurd h' (by omega)) (fun q h h' => by rw [iu_j (by omega)]; exact hm1.2.1 q (by omega)) (Nat.le_refl _) (fun I2 hf2 ho2 g2 => ?_)
        refine ml_rem106 (nb := (S.1 li).2.2.2) (bv := bl (S.1 li)) hM hli hj (by omega) (by rw [ho2 _ (by omega), iu_j (by omega)]; exact hm1.2.2.1) (fun q h => by rw [ho2 _ (by omega), iu_j (by omega)]; exact hm1.2.2.2 q h) (by omega) (fun I3 hf3 ho3 g3 g4 => ?_)
        have hff : fr I1 I3 [145] := fr_trans (fr_trans (fr_iu (by simp)) hf2) hf3
        have hfk : frK I1 I3 := ⟨fun b hb => hff b (by simp; omega), fun j _ => by rw [hff 144 (by decide)]⟩
        have e1 : (delL (S.1 li) p jj).2.1 = (S.1 li).2.1 - 1 := rfl
        have e2 : (delL (S.1 li) p jj).1 = del (S.1 li).1 p := rfl
        refine hq I3 (frC.trans (frC.of hf1 (fun b hb => by simp at hb; omega)) hfk.c) (hK.fin0 hfk (by rw [hff 144 (by decide)]) (hK.2.1.upd hk.ls (fun q h => by rw [ho3 q (by omega), ho2 q (by omega), iu_j (by omega)]) ⟨?_, fun q h => ?_, ?_, fun q h => ?_⟩))
        · rw [ho3 _ (by omega), ho2 _ (by omega), iu_at, e1]
        · rw [e1] at h
          rw [ho3 _ (by omega), e2]; exact g2 q h
        · by_cases hc : bl (S.1 li) jj = 1
          · rw [(g3 hc).1, (i1 hc).1]
          · rw [(g4 hc).1, (i2 hc).1]
        · by_cases hc : bl (S.1 li) jj = 1
          · rw [(i1 hc).1] at h
            rw [(g3 hc).2 q h, (i1 hc).2 q h]
          · rw [(i2 hc).1] at h
            rw [(g4 hc).2 q h, (i2 hc).2 q h]
      · intro hz
        obtain ⟨-, rfl, rfl⟩ | ⟨p, jj, hpm, hpy, -⟩ := hh
        · refine s_if_ne (tgt := 29) dX12_remove_23 (by decide) (fun h23 => absurd h23 (fun h => h rfl)) (fun h23 => ?_)
          refine s_bipush (v := -3) dX12_remove_26 (by decide) ?_
          refine s_iret dX12_remove_28 rfl ?_
          rw [zm3]
          exact hq I (frC.refl I) hS
        · exact absurd hpy (hz p hpm)
    · intro hy
      obtain ⟨-, rfl, rfl⟩ | ⟨li, hli, e1, hy2, -⟩ := h
      · refine s_if_ne (tgt := 17) dX12_remove_11 (by decide) (fun h11 => absurd h11 (fun h => h rfl)) (fun h11 => ?_)
        refine s_bipush (v := -2) dX12_remove_14 (by decide) ?_
        refine s_iret dX12_remove_16 rfl ?_
        rw [zm2]
        exact hq I (frC.refl I) hS
      · exact absurd hy2 hy
  · intro hx
    obtain ⟨-, rfl, rfl⟩ | ⟨li, hli, e1, -⟩ := h
    · refine s_if_eq (tgt := 14) dX12_remove_4 (by decide) (fun h4 => ?_) (fun h4 => absurd (rfl) h4)
      refine s_bipush (v := -2) dX12_remove_14 (by decide) ?_
      refine s_iret dX12_remove_16 rfl ?_
      rw [zm2]
      exact hq I (frC.refl I) hS
    · exact absurd (by omega) hx
