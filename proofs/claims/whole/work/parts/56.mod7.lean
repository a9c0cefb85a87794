/-! changes of the model -/
def LsOk (Ls : Nat → LSt) : Prop := ∀ i, i < 6 → (Ls i).2.1 ≤ 200 ∧ (Ls i).2.2.2 ≤ 200
theorem SOk.ls {S : ASt} (h : SOk S) : LsOk S.1 := fun i hi => ⟨(h.1 i hi).1, by have := (h.1 i hi).1; have := (h.1 i hi).nbm; omega⟩
theorem LsOk.upd {Ls : Nat → LSt} (h : LsOk Ls) {li : Nat} {L : LSt} (hL : L.2.1 ≤ 200 ∧ L.2.2.2 ≤ 200) : LsOk (updL Ls li L) := fun i hi => by
  by_cases e : i = li
  · rw [e, updL_at]; exact hL
  · rw [updL_ne e]; exact h i hi
theorem prevs_ok : ∀ (H : List (Nat × LSt)) (Ls : Nat → LSt) (k : Nat), LsOk Ls → (∀ e, e ∈ H → e.2.2.1 ≤ 200 ∧ e.2.2.2.2 ≤ 200) → LsOk (prevs Ls H k) := by
  intro H
  induction H with
  | nil => intro Ls k h _; cases k <;> exact h
  | cons e H ih =>
    intro Ls k h he
    have h1 : LsOk (updL Ls e.1 e.2) := h.upd (he e List.mem_cons_self)
    cases k with
    | zero => exact h1
    | succ k => exact ih _ k h1 (fun e' h' => he e' (List.mem_cons_of_mem _ h'))
theorem SOk.hs {S : ASt} (h : SOk S) : ∀ e, e ∈ S.2.1 → e.2.2.1 ≤ 200 ∧ e.2.2.2.2 ≤ 200 := fun e he => ⟨(h.2.1 e he).2.1, by have := (h.2.1 e he).2.1; have := (h.2.1 e he).2.nbm; omega⟩
theorem ML.cong {f f' : Nat → Int32} {b b' : Nat} {L : LSt} (h : ML f b L) (hm : L.2.1 ≤ 200) (hn : L.2.2.2 ≤ 200) (hq : ∀ q, q < 402 → f' (b' + q) = f (b + q)) : ML f' b' L := by
  obtain ⟨h1, h2, h3, h4⟩ := h
  refine ⟨?_, fun q hq2 => ?_, ?_, fun j hj => ?_⟩
  · rw [← h1]; exact hq 0 (by omega)
  · rw [← h2 q hq2, Nat.add_assoc, Nat.add_assoc]; exact hq (1 + q) (by omega)
  · rw [← h3]; exact hq 201 (by omega)
  · rw [← h4 j hj, Nat.add_assoc, Nat.add_assoc]; exact hq (202 + j) (by omega)
theorem MLs.cong {f f' : Nat → Int32} {b b' : Nat} {Ls : Nat → LSt} (h : MLs f b Ls) (hk : LsOk Ls) (hq : ∀ q, q < 2412 → f' (b' + q) = f (b + q)) : MLs f' b' Ls := fun i hi => (h i hi).cong (hk i hi).1 (hk i hi).2 (fun q h2 => by
  rw [Nat.add_assoc, Nat.add_assoc]
  exact hq (402 * i + q) (by omega))
theorem MLs.upd {f f' : Nat → Int32} {Ls : Nat → LSt} {li : Nat} {L : LSt} (h : MLs f 0 Ls) (hk : LsOk Ls) (hq : ∀ q, ¬ (402 * li ≤ q ∧ q < 402 * li + 402) → f' q = f q) (hL : ML f' (402 * li) L) : MLs f' 0 (updL Ls li L) := fun i hi => by
  by_cases e : i = li
  · rw [e, updL_at, Nat.zero_add]; exact hL
  · rw [updL_ne e]
    exact (h i hi).cong (hk i hi).1 (hk i hi).2 (fun q h2 => hq _ (by omega))
theorem prevs_take : ∀ (n : Nat) (H : List (Nat × LSt)) (Ls : Nat → LSt) (k : Nat), k < (H.take n).length → prevs Ls (H.take n) k = prevs Ls H k := by
  intro n
  induction n with
  | zero => intro H Ls k h; simp at h
  | succ n ih =>
    intro H Ls k h
    cases H with
    | nil => simp at h
    | cons e H =>
      rw [List.take_succ_cons] at h ⊢
      cases k with
      | zero => rfl
      | succ k =>
        rw [List.length_cons] at h
        exact ih H _ k (by omega)
theorem updL_back (Ls : Nat → LSt) (li : Nat) (L : LSt) : updL (updL Ls li L) li (Ls li) = Ls := by
  funext i
  by_cases e : i = li
  · rw [e, updL_at]
  · rw [updL_ne e, updL_ne e]
def prevK (Ls : Nat → LSt) (H : List (Nat × LSt)) (k : Nat) : Nat → LSt := if k = 0 then Ls else prevs Ls H (k - 1)
theorem prevs_chg {Ls : Nat → LSt} {H : List (Nat × LSt)} {li : Nat} {L : LSt} {k : Nat} (hk : k < (((li, Ls li) :: H).take 8).length) : prevs (updL Ls li L) (((li, Ls li) :: H).take 8) k = prevK Ls H k := by
  rw [List.take_succ_cons] at hk ⊢
  unfold prevK
  cases k with
  | zero => exact updL_back Ls li L
  | succ k =>
    rw [List.length_cons] at hk
    show prevs (updL (updL Ls li L) li (Ls li)) (H.take 7) k = _
    rw [updL_back, if_neg (by omega), Nat.add_sub_cancel]
    exact prevs_take 7 H Ls k (by omega)
/-- behind the keeping of a state, ahead of the change -/
def MK (T : fT) (I : fI) (S : ASt) (li : Nat) : Prop := MObj T ∧ MLs (I 145) 0 S.1 ∧ (I 144 2 = zI (((li, S.1 li) :: S.2.1).take 8).length ∧ ∀ k, k < (((li, S.1 li) :: S.2.1).take 8).length → MLs (I 146) (2412 * ((((li, S.1 li) :: S.2.1).take 8).length - 1 - k)) (prevK S.1 S.2.1 k)) ∧ CacheM I (S.2.2.1.1.filter (fun e => decide (e.1 ≠ (li : Int))), S.2.2.1.2) ∧ TextM I S.2.2.2.1 ∧ ResM I S.2.2.2.2
def frK (I I' : fI) : Prop := (∀ b, (b < 144 ∨ b = 146 ∨ b = 147 ∨ b = 148 ∨ b = 149 ∨ b = 155 ∨ 162 ≤ b) → I' b = I b) ∧ ∀ j, j ≤ 10 → I' 144 j = I 144 j
theorem frK.refl (I : fI) : frK I I := ⟨fun _ _ => rfl, fun _ _ => rfl⟩
theorem frK.trans {I I1 I2 : fI} (h : frK I I1) (h2 : frK I1 I2) : frK I I2 := ⟨fun b hb => (h2.1 b hb).trans (h.1 b hb), fun j hj => (h2.2 j hj).trans (h.2 j hj)⟩
theorem frS.k {I I' : fI} (h : frS I I') : frK I I' := ⟨fun b hb => h.1 b (by omega), fun j hj => h.2 j (by omega)⟩
theorem frK.c {I I' : fI} (h : frK I I') : frC I I' := fun b hb => h.1 b (by omega)
theorem ResM.fr {I I' : fI} {r : Option (List Int × Int)} (h : ResM I r) (h1 : I' 144 9 = I 144 9) (h2 : I' 144 10 = I 144 10) (h3 : I' 149 = I 149) : ResM I' r := by
  cases r with
  | none => exact ⟨by rw [h1]; exact h.1, by rw [h2]; exact h.2⟩
  | some r => exact ⟨by rw [h1]; exact h.1, by rw [h2]; exact h.2.1, by rw [h3]; exact h.2.2⟩
theorem CacheM.fr {I I' : fI} {C : List (Int × Int) × Nat × Nat} (h : CacheM I C) (hj : ∀ j, j ≤ 10 → I' 144 j = I 144 j) (h1 : I' 147 = I 147) (h2 : I' 148 = I 148) : CacheM I' C := ⟨h.1, by rw [hj 5 (by omega)]; exact h.2.1, by rw [hj 6 (by omega)]; exact h.2.2.1, by rw [hj 7 (by omega)]; exact h.2.2.2.1, by rw [h1, h2]; exact h.2.2.2.2⟩
theorem MK.fin {T : fT} {I I2 : fI} {S : ASt} {li : Nat} {L : LSt} {t : (Nat → Int) × Nat} (h : MK T I S li) (hf : frK I I2) (hL : MLs (I2 145) 0 (updL S.1 li L)) (ht : TextM I2 t) : MIs T I2 (setT (chg S li L) t) := by
  obtain ⟨h1, h2, ⟨h4, h5⟩, h6, h7, h8⟩ := h
  obtain ⟨f1, f2⟩ := hf
  refine ⟨h1, hL, ⟨?_, by rw [f2 2 (by omega)]; exact h4, ?_⟩, h6.fr f2 (f1 147 (by omega)) (f1 148 (by omega)), ht, h8.fr (f2 9 (by omega)) (f2 10 (by omega)) (f1 149 (by omega))⟩
  · show (((li, S.1 li) :: S.2.1).take 8).length ≤ 8
    rw [List.length_take]
    omega
  · intro k hk
    show MLs (I2 146) _ (prevs (updL S.1 li L) (((li, S.1 li) :: S.2.1).take 8) k)
    rw [prevs_chg hk, f1 146 (by omega)]
    exact h5 k hk
theorem MK.fin0 {T : fT} {I I2 : fI} {S : ASt} {li : Nat} {L : LSt} (h : MK T I S li) (hf : frK I I2) (h18 : I2 144 18 = I 144 18) (hL : MLs (I2 145) 0 (updL S.1 li L)) : MIs T I2 (chg S li L) := h.fin hf hL ⟨by rw [h18]; exact h.2.2.2.2.1.1, by rw [hf.1 155 (by omega)]; exact h.2.2.2.2.1.2⟩
set_option maxRecDepth 100000 in
set_option maxHeartbeats 1000000 in
theorem ml_keeps3 {G : fG} {x0 : Nat} {l : Launch} {d k n : Nat} {T : fT} {J : fJ} {Q : Option Value → fT → fI → fJ → Prop} {li : Nat} {C : List (Int × Int)} (hM : MObj T) (hli : li < 6) (hC : C.length ≤ 4) (hr : ∀ e, e ∈ C → 0 ≤ e.1 ∧ e.1 < 1000 ∧ 0 ≤ e.2 ∧ e.2 < 1000) : ∀ (t i : Nat) (R : List (Int × Int)) (I : fI), i + t = C.length → R = (C.reverse.take i).filter (fun e => decide (e.1 ≠ (li : Int))) → I 144 5 = zI C.length → CaL I R → (∀ q e, i ≤ q → C.reverse[q]? = some e → I 147 q = zI e.1 ∧ I 148 q = zI e.2) → (∀ I', fr I I' [144, 147, 148] → (∀ j, j ≠ 5 → I' 144 j = I 144 j) → I' 144 5 = zI (C.filter (fun e => decide (e.1 ≠ (li : Int)))).length → CaL I' (C.filter (fun e => decide (e.1 ≠ (li : Int)))).reverse → Q none T I' J) → PW G x0 l mX12_keeps d (ZM G x0 Q) k n 100 [(0, .ref (x0 + 144)), (1, .int (zI li)), (2, .int (zI R.length)), (3, .int (zI i))] [] T I J := by
  obtain ⟨o1, o2⟩ := hM.o
  obtain ⟨r146, b146, k146, n146⟩ := hM.a146
  obtain ⟨r145, b145, k145, n145⟩ := hM.a145
  obtain ⟨r147, b147, k147, n147⟩ := hM.a147
  obtain ⟨r148, b148, k148, n148⟩ := hM.a148
  intro t
  induction t with
  | zero =>
    intro i R I ht hR h5 hcR hcD hq
    have hRf : R = (C.filter (fun e => decide (e.1 ≠ (li : Int)))).reverse := by
      rw [hR, List.take_of_length_le (by rw [List.length_reverse]; omega), List.filter_reverse]
    refine s_iload_n (i := 3) dX12_keeps_100 rfl rfl ?_
    refine s_aload_n (i := 0) dX12_keeps_101 rfl rfl ?_
    refine s_getI dX12_keeps_102 fl_X12_91 (by assumption) (by assumption) ?_
    rw [h5]
    refine s_icmp_ge (tgt := 151) dX12_keeps_105 (by decide) (fun h105 => ?_) (fun h105 => absurd ((zI_le (by omega) (by omega) (by omega) (by omega)).mpr (by omega)) h105)
    refine s_aload_n (i := 0) dX12_keeps_151 rfl rfl ?_
    refine s_iload_n (i := 2) dX12_keeps_152 rfl rfl ?_
    refine s_putI dX12_keeps_153 fp_X12_91 (by assumption) (by assumption) ?_
    refine s_ret dX12_keeps_156 rfl ?_
    refine hq _ (fr_iu (by simp)) (fun j hj => iu_j hj) ?_ ?_
    · rw [iu_at, hRf, List.length_reverse]
    · rw [← hRf]
      intro q e he
      simp only [iu, Nat.reduceEqDiff, reduceIte, eq_self]
      exact hcR q e he
  | succ t ih =>
    intro i R I ht hR h5 hcR hcD hq
    have hil : i < C.reverse.length := by rw [List.length_reverse]; omega
    obtain ⟨e, he⟩ : ∃ e, C.reverse[i]? = some e := ⟨_, List.getElem?_eq_getElem hil⟩
    obtain ⟨g1, g2⟩ := hcD i e (Nat.le_refl i) he
    have ge := hr e (List.mem_reverse.mp (List.mem_of_getElem? he))
    have hRl : R.length ≤ i := by
      rw [hR]
      refine Nat.le_trans (List.length_filter_le _ _) ?_
      rw [List.length_take]
      omega
    have htk : C.reverse.take (i + 1) = C.reverse.take i ++ [e] := by rw [List.take_add_one, he]; rfl
    refine s_iload_n (i := 3) dX12_keeps_100 rfl rfl ?_
    refine s_aload_n (i := 0) dX12_keeps_101 rfl rfl ?_
    refine s_getI dX12_keeps_102 fl_X12_91 (by assumption) (by assumption) ?_
    rw [h5]
    refine s_icmp_ge (tgt := 151) dX12_keeps_105 (by decide) (fun h105 => absurd h105 (fun h => by rw [zI_le (by omega) (by omega) (by omega) (by omega)] at h; omega)) (fun h105 => ?_)
    refine s_aload_n (i := 0) dX12_keeps_108 rfl rfl ?_
    refine s_getR dX12_keeps_109 fl_X12_16 (by assumption) (by assumption) (by assumption) ?_
    refine s_iload_n (i := 3) dX12_keeps_112 rfl rfl ?_
    refine s_ildn (j := i) dX12_keeps_113 (by assumption) (by assumption) (by assumption) (by first | with_reducible rfl | ((try simp only [z0, z1, zm1, zm2, zm3, zm4, zl2, zl3, zl4, zl5, zl6, zl7, zl8, zl9, zl10, zl20, zl28, zl31, zl32, zl33, zl48, zl57, zl64, zl100, zl127, zl200, zl201, zl202, zl402, zl1200, zl2412, zl16884, zI_add, zI_sub, zI_mul, zI_inc, zI_dec]) <;> (congr 1 <;> omega))) (by omega) (by decide) ?_
    rw [g1]
    refine s_iload_n (i := 1) dX12_keeps_114 rfl rfl ?_
    refine s_icmp_eq (tgt := 145) dX12_keeps_115 (by decide) (fun c115 => ?_) (fun c115 => ?_)
    · refine s_iinc dX12_keeps_145 rfl (zI_inc _) (by decide) (by simp only [sl, sl2, rm, Value.category, reduceIte, Nat.reduceAdd, Nat.reduceEqDiff, reduceCtorEq]; rfl) ?_
      refine s_goto (tgt := 100) dX12_keeps_148 (by decide) ?_
      rw [zI_eq (by omega) (by omega) (by omega) (by omega)] at c115
      refine ih (i + 1) R I (by omega) ?_ h5 hcR (fun q e' h1 h2 => hcD q e' (by omega) h2) hq
      rw [htk, List.filter_append, ← hR]
      simp [c115]
    · refine s_aload_n (i := 0) dX12_keeps_118 rfl rfl ?_
      refine s_getR dX12_keeps_119 fl_X12_16 (by assumption) (by assumption) (by assumption) ?_
      refine s_iload_n (i := 2) dX12_keeps_122 rfl rfl ?_
      refine s_aload_n (i := 0) dX12_keeps_123 rfl rfl ?_
      refine s_getR dX12_keeps_124 fl_X12_16 (by assumption) (by assumption) (by assumption) ?_
      refine s_iload_n (i := 3) dX12_keeps_127 rfl rfl ?_
      refine s_ildn (j := i) dX12_keeps_128 (by assumption) (by assumption) (by assumption) (by first | with_reducible rfl | ((try simp only [z0, z1, zm1, zm2, zm3, zm4, zl2, zl3, zl4, zl5, zl6, zl7, zl8, zl9, zl10, zl20, zl28, zl31, zl32, zl33, zl48, zl57, zl64, zl100, zl127, zl200, zl201, zl202, zl402, zl1200, zl2412, zl16884, zI_add, zI_sub, zI_mul, zI_inc, zI_dec]) <;> (congr 1 <;> omega))) (by omega) (by decide) ?_
      rw [g1]
      refine s_istn (j := R.length) dX12_keeps_129 (by assumption) (by assumption) (by assumption) (by first | with_reducible rfl | ((try simp only [z0, z1, zm1, zm2, zm3, zm4, zl2, zl3, zl4, zl5, zl6, zl7, zl8, zl9, zl10, zl20, zl28, zl31, zl32, zl33, zl48, zl57, zl64, zl100, zl127, zl200, zl201, zl202, zl402, zl1200, zl2412, zl16884, zI_add, zI_sub, zI_mul, zI_inc, zI_dec]) <;> (congr 1 <;> omega))) (by omega) (by decide) ?_
      refine s_aload_n (i := 0) dX12_keeps_130 rfl rfl ?_
      refine s_getR dX12_keeps_131 fl_X12_19 (by assumption) (by assumption) (by assumption) ?_
      refine s_iload_n (i := 2) dX12_keeps_134 rfl rfl ?_
      refine s_aload_n (i := 0) dX12_keeps_135 rfl rfl ?_
      refine s_getR dX12_keeps_136 fl_X12_19 (by assumption) (by assumption) (by assumption) ?_
      refine s_iload_n (i := 3) dX12_keeps_139 rfl rfl ?_
      refine s_ildn (j := i) dX12_keeps_140 (by assumption) (by assumption) (by assumption) (by first | with_reducible rfl | ((try simp only [z0, z1, zm1, zm2, zm3, zm4, zl2, zl3, zl4, zl5, zl6, zl7, zl8, zl9, zl10, zl20, zl28, zl31, zl32, zl33, zl48, zl57, zl64, zl100, zl127, zl200, zl201, zl202, zl402, zl1200, zl2412, zl16884, zI_add, zI_sub, zI_mul, zI_inc, zI_dec]) <;> (congr 1 <;> omega))) (by omega) (by decide) ?_
      rw [iu_ne (by omega), g2]
      refine s_istn (j := R.length) dX12_keeps_141 (by assumption) (by assumption) (by assumption) (by first | with_reducible rfl | ((try simp only [z0, z1, zm1, zm2, zm3, zm4, zl2, zl3, zl4, zl5, zl6, zl7, zl8, zl9, zl10, zl20, zl28, zl31, zl32, zl33, zl48, zl57, zl64, zl100, zl127, zl200, zl201, zl202, zl402, zl1200, zl2412, zl16884, zI_add, zI_sub, zI_mul, zI_inc, zI_dec]) <;> (congr 1 <;> omega))) (by omega) (by decide) ?_
      refine s_iinc dX12_keeps_142 rfl (zI_inc _) (by decide) (by simp only [sl, sl2, rm, Value.category, reduceIte, Nat.reduceAdd, Nat.reduceEqDiff, reduceCtorEq]; rfl) ?_
      refine s_iinc dX12_keeps_145 rfl (zI_inc _) (by decide) (by simp only [sl, sl2, rm, Value.category, reduceIte, Nat.reduceAdd, Nat.reduceEqDiff, reduceCtorEq]; rfl) ?_
      refine s_goto (tgt := 100) dX12_keeps_148 (by decide) ?_
      rw [zI_eq (by omega) (by omega) (by omega) (by omega)] at c115
      have hlen : (R ++ [e]).length = R.length + 1 := by rw [List.length_append, List.length_singleton]
      have h := ih (i + 1) (R ++ [e]) (iu (iu I 147 R.length (zI e.1)) 148 R.length (zI e.2)) (by omega) (by rw [htk, List.filter_append, ← hR]; simp [c115]) (by simp only [iu, Nat.reduceEqDiff, reduceIte, eq_self]; exact h5) (fun q e' h1 => ?_) (fun q e' h1 h2 => ?_) (fun I' hf h1 h2 h3 => hq I' (fun b hb => ?_) (fun j hj => ?_) h2 h3)
      · rw [hlen] at h
        exact h
      · simp only [iu, Nat.reduceEqDiff, reduceIte, eq_self]
        rcases Nat.lt_or_ge q R.length with c | c
        · rw [List.getElem?_append_left c] at h1
          rw [if_neg (by omega), if_neg (by omega)]
          exact hcR q e' h1
        · have hl := (List.getElem?_eq_some_iff.mp h1).1
          rw [hlen] at hl
          have hqe : q = R.length := by omega
          subst hqe
          rw [List.getElem?_append_right (Nat.le_refl _), Nat.sub_self] at h1
          have he' : e = e' := Option.some.inj h1
          rw [if_pos rfl, if_pos rfl, ← he']
          exact ⟨rfl, rfl⟩
      · simp only [iu, Nat.reduceEqDiff, reduceIte, eq_self]
        rw [if_neg (by omega), if_neg (by omega)]
        exact hcD q e' (by omega) h2
      · rw [hf b hb]
        simp at hb
        rw [iu_ne (by omega), iu_ne (by omega)]
      · rw [h1 j hj, iu_ne (by omega), iu_ne (by omega)]
set_option maxRecDepth 100000 in
set_option maxHeartbeats 1000000 in
theorem ml_keeps2 {G : fG} {x0 : Nat} {l : Launch} {d k n : Nat} {T : fT} {J : fJ} {Q : Option Value → fT → fI → fJ → Prop} {li : Nat} {S : ASt} {u : Nat} (hk : SOk S) (hli : li < 6) (hu : u = min S.2.1.length 7) (hul : S.2.1.length ≤ 8) : ∀ (t i : Nat) (I : fI), i + t = 2412 → MObj T → MLs (I 145) 0 S.1 → I 144 2 = zI u → (∀ q, q < i → I 146 (2412 * u + q) = I 145 q) → (∀ k, k < u → MLs (I 146) (2412 * (u - 1 - k)) (prevs S.1 S.2.1 k)) → CacheM I S.2.2.1 → TextM I S.2.2.2.1 → ResM I S.2.2.2.2 → (∀ I', fr I I' [144, 146, 147, 148] → (∀ j, j ≠ 2 → j ≠ 5 → I' 144 j = I 144 j) → MK T I' S li → Q none T I' J) → PW G x0 l mX12_keeps d (ZM G x0 Q) k n 52 [(0, .ref (x0 + 144)), (1, .int (zI li)), (2, .int (zI i))] [] T I J := by
  intro t
  induction t with
  | zero =>
    intro i I ht hM hML h2 hcp hpa hC hX hR hq
    obtain ⟨o1, o2⟩ := hM.o
    obtain ⟨r146, b146, k146, n146⟩ := hM.a146
    obtain ⟨r145, b145, k145, n145⟩ := hM.a145
    obtain ⟨r147, b147, k147, n147⟩ := hM.a147
    obtain ⟨r148, b148, k148, n148⟩ := hM.a148
    have hi : i = 2412 := by omega
    subst hi
    have hlen : (((li, S.1 li) :: S.2.1).take 8).length = u + 1 := by rw [List.length_take, List.length_cons]; omega
    refine s_iload_n (i := 2) dX12_keeps_52 rfl rfl ?_
    refine s_sipush (v := 2412) dX12_keeps_53 (by decide) ?_
    refine s_icmp_ge (tgt := 86) dX12_keeps_56 (by decide) (fun h56 => ?_) (fun h56 => absurd (by decide) h56)
    refine s_aload_n (i := 0) dX12_keeps_86 rfl rfl ?_
    refine s_dup dX12_keeps_87 rfl ?_
    refine s_getI dX12_keeps_88 fl_X12_88 (by assumption) (by assumption) ?_
    refine s_iconst (v := 1) dX12_keeps_91 (by decide) ?_
    refine s_iadd dX12_keeps_92 ?_
    rw [h2]
    refine s_topi (y := zI ((u + 1 : Nat) : Int)) (by first | with_reducible rfl | ((try simp only [z0, z1, zm1, zm2, zm3, zm4, zl2, zl3, zl4, zl5, zl6, zl7, zl8, zl9, zl10, zl20, zl28, zl31, zl32, zl33, zl48, zl57, zl64, zl100, zl127, zl200, zl201, zl202, zl402, zl1200, zl2412, zl16884, zI_add, zI_sub, zI_mul, zI_inc, zI_dec]) <;> (congr 1 <;> omega))) ?_
    refine s_putI dX12_keeps_93 fp_X12_88 (by assumption) (by assumption) ?_
    refine s_iconst (v := 0) dX12_keeps_96 (by decide) ?_
    refine s_istore_n (i := 2) dX12_keeps_97 rfl (by decide) (by simp only [sl, sl2, rm, Value.category, reduceIte, Nat.reduceAdd, Nat.reduceEqDiff, reduceCtorEq]; rfl) ?_
    refine s_iconst (v := 0) dX12_keeps_98 (by decide) ?_
    refine s_istore_n (i := 3) dX12_keeps_99 rfl (by decide) (by simp only [sl, sl2, rm, Value.category, reduceIte, Nat.reduceAdd, Nat.reduceEqDiff, reduceCtorEq]; rfl) ?_
    obtain ⟨c1, c2, c3, c4, c5⟩ := id hC
    refine ml_keeps3 hM hli c1 hk.cr S.2.2.1.1.length 0 [] _ (by omega) (by simp) (by rw [iu_j (by omega)]; exact c2) (fun q e h => by simp at h) (fun q e _ he => by rw [iu_ne (by omega), iu_ne (by omega)]; exact c5 q e he) (fun I' hf hj h5 hca => hq I' (fun b hb => ?_) (fun j h1 h2 => ?_) ⟨hM, ?_, ⟨?_, fun k hk2 => ?_⟩, ⟨?_, h5, ?_, ?_, hca⟩, ⟨?_, ?_⟩, ?_⟩)
    · simp at hb
      rw [hf b (by simp; omega), iu_ne (by omega)]
    · rw [hj j h2, iu_j h1]
    · rw [hf 145 (by decide), iu_ne (by omega)]; exact hML
    · rw [hj 2 (by omega), iu_at, hlen]
    · rw [hlen] at hk2 ⊢
      rw [hf 146 (by decide), iu_ne (by omega)]
      unfold prevK
      by_cases e : k = 0
      · rw [if_pos e, e, show u + 1 - 1 - 0 = u by omega]
        exact hML.cong hk.ls (fun q hq => by rw [Nat.zero_add]; exact hcp q hq)
      · rw [if_neg e, show u + 1 - 1 - k = u - 1 - (k - 1) by omega]
        exact hpa (k - 1) (by omega)
    · exact Nat.le_trans (List.length_filter_le _ _) c1
    · rw [hj 6 (by omega), iu_j (by omega)]; exact c3
    · rw [hj 7 (by omega), iu_j (by omega)]; exact c4
    · rw [hj 18 (by omega), iu_j (by omega)]; exact hX.1
    · rw [hf 155 (by decide), iu_ne (by omega)]; exact hX.2
    · exact hR.fr (by rw [hj 9 (by omega), iu_j (by omega)]) (by rw [hj 10 (by omega), iu_j (by omega)]) (by rw [hf 149 (by decide), iu_ne (by omega)])
  | succ t ih =>
    intro i I ht hM hML h2 hcp hpa hC hX hR hq
    obtain ⟨o1, o2⟩ := hM.o
    obtain ⟨r146, b146, k146, n146⟩ := hM.a146
    obtain ⟨r145, b145, k145, n145⟩ := hM.a145
    obtain ⟨r147, b147, k147, n147⟩ := hM.a147
    obtain ⟨r148, b148, k148, n148⟩ := hM.a148
    refine s_iload_n (i := 2) dX12_keeps_52 rfl rfl ?_
    refine s_sipush (v := 2412) dX12_keeps_53 (by decide) ?_
    refine s_icmp_ge (tgt := 86) dX12_keeps_56 (by decide) (fun h56 => absurd h56 (fun h => by simp only [z0, z1, zm1, zm2, zm3, zm4, zl2, zl3, zl4, zl5, zl6, zl7, zl8, zl9, zl10, zl20, zl28, zl31, zl32, zl33, zl48, zl57, zl64, zl100, zl127, zl200, zl201, zl202, zl402, zl1200, zl2412, zl16884, zI_add, zI_sub, zI_mul, zI_inc, zI_dec] at h; rw [zI_le (by omega) (by omega) (by omega) (by omega)] at h; omega)) (fun h56 => ?_)
    refine s_aload_n (i := 0) dX12_keeps_59 rfl rfl ?_
    refine s_getR dX12_keeps_60 fl_X12_13 (by assumption) (by assumption) (by assumption) ?_
    refine s_sipush (v := 2412) dX12_keeps_63 (by decide) ?_
    refine s_aload_n (i := 0) dX12_keeps_66 rfl rfl ?_
    refine s_getI dX12_keeps_67 fl_X12_88 (by assumption) (by assumption) ?_
    refine s_imul dX12_keeps_70 ?_
    refine s_iload_n (i := 2) dX12_keeps_71 rfl rfl ?_
    rw [h2]
    refine s_iadd dX12_keeps_72 ?_
    refine s_aload_n (i := 0) dX12_keeps_73 rfl rfl ?_
    refine s_getR dX12_keeps_74 fl_X12_7 (by assumption) (by assumption) (by assumption) ?_
    refine s_iload_n (i := 2) dX12_keeps_77 rfl rfl ?_
    refine s_ildn (j := i) dX12_keeps_78 (by assumption) (by assumption) (by assumption) (by first | with_reducible rfl | ((try simp only [z0, z1, zm1, zm2, zm3, zm4, zl2, zl3, zl4, zl5, zl6, zl7, zl8, zl9, zl10, zl20, zl28, zl31, zl32, zl33, zl48, zl57, zl64, zl100, zl127, zl200, zl201, zl202, zl402, zl1200, zl2412, zl16884, zI_add, zI_sub, zI_mul, zI_inc, zI_dec]) <;> (congr 1 <;> omega))) (by omega) (by decide) ?_
    refine s_istn (j := 2412 * u + i) dX12_keeps_79 (by assumption) (by assumption) (by assumption) (by first | with_reducible rfl | ((try simp only [z0, z1, zm1, zm2, zm3, zm4, zl2, zl3, zl4, zl5, zl6, zl7, zl8, zl9, zl10, zl20, zl28, zl31, zl32, zl33, zl48, zl57, zl64, zl100, zl127, zl200, zl201, zl202, zl402, zl1200, zl2412, zl16884, zI_add, zI_sub, zI_mul, zI_inc, zI_dec]) <;> (congr 1 <;> omega))) (by omega) (by decide) ?_
    refine s_iinc dX12_keeps_80 rfl (zI_inc _) (by decide) (by simp only [sl, sl2, rm, Value.category, reduceIte, Nat.reduceAdd, Nat.reduceEqDiff, reduceCtorEq]; rfl) ?_
    refine s_goto (tgt := 52) dX12_keeps_83 (by decide) ?_
    refine ih (i + 1) _ (by omega) hM (by rw [iu_ne (by omega)]; exact hML) (by rw [iu_ne (by omega)]; exact h2) (fun q h1 => ?_) (fun k h1 => ?_) (hC.fr (fun j _ => by rw [iu_ne (by omega)]) (iu_ne (by omega)) (iu_ne (by omega))) ⟨by rw [iu_ne (by omega)]; exact hX.1, by rw [iu_ne (by omega)]; exact hX.2⟩ (hR.fr (by rw [iu_ne (by omega)]) (by rw [iu_ne (by omega)]) (iu_ne (by omega))) (fun I' hf h1 h2 => hq I' (fun b hb => ?_) (fun j a1 a2 => ?_) h2)
    · simp only [iu, Nat.reduceEqDiff, reduceIte, eq_self]
      by_cases e : q = i
      · subst e; rw [if_pos rfl]
      · rw [if_neg (by omega)]; exact hcp q (by omega)
    · refine (hpa k h1).cong (prevs_ok _ _ _ hk.ls hk.hs) (fun q h3 => ?_)
      rw [iu_j]
      have : 2412 * (u - 1 - k) + 2412 ≤ 2412 * u := by omega
      omega
    · rw [hf b hb]
      simp at hb
      rw [iu_ne (by omega)]
    · rw [h1 j a1 a2, iu_ne (by omega)]
set_option maxRecDepth 100000 in
set_option maxHeartbeats 1000000 in
theorem ml_keeps1 {G : fG} {x0 : Nat} {l : Launch} {d k n : Nat} {T : fT} {J : fJ} {Q : Option Value → fT → fI → fJ → Prop} {li : Nat} {S : ASt} {I0 : fI} (hk : SOk S) (hli : li < 6) (hS : MIs T I0 S) (hul : S.2.1.length = 8) : ∀ (t i : Nat) (I : fI), i + t = 16884 → fr I0 I [146] → (∀ q, q < i → I 146 q = I0 146 (q + 2412)) → (∀ q, i ≤ q → I 146 q = I0 146 q) → (∀ I', fr I0 I' [144, 146, 147, 148] → (∀ j, j ≠ 2 → j ≠ 5 → I' 144 j = I0 144 j) → MK T I' S li → Q none T I' J) → PW G x0 l mX12_keeps d (ZM G x0 Q) k n 11 [(0, .ref (x0 + 144)), (1, .int (zI li)), (2, .int (zI i))] [] T I J := by
  have hM := hS.1
  obtain ⟨o1, o2⟩ := hM.o
  obtain ⟨r146, b146, k146, n146⟩ := hM.a146
  obtain ⟨r145, b145, k145, n145⟩ := hM.a145
  obtain ⟨r147, b147, k147, n147⟩ := hM.a147
  obtain ⟨r148, b148, k148, n148⟩ := hM.a148
  intro t
  induction t with
  | zero =>
    intro i I ht hf h1 h2 hq
    have hi : i = 16884 := by omega
    subst hi
    refine s_iload_n (i := 2) dX12_keeps_11 rfl rfl ?_
    refine s_sipush (v := 16884) dX12_keeps_12 (by decide) ?_
    refine s_icmp_ge (tgt := 40) dX12_keeps_15 (by decide) (fun h15 => ?_) (fun h15 => absurd (by decide) h15)
    refine s_aload_n (i := 0) dX12_keeps_40 rfl rfl ?_
    refine s_dup dX12_keeps_41 rfl ?_
    refine s_getI dX12_keeps_42 fl_X12_88 (by assumption) (by assumption) ?_
    refine s_iconst (v := 1) dX12_keeps_45 (by decide) ?_
    refine s_isub dX12_keeps_46 ?_
    rw [hf 144 (by decide), hS.2.2.1.2.1, hul]
    refine s_topi (y := zI ((7 : Nat) : Int)) (by first | with_reducible rfl | ((try simp only [z0, z1, zm1, zm2, zm3, zm4, zl2, zl3, zl4, zl5, zl6, zl7, zl8, zl9, zl10, zl20, zl28, zl31, zl32, zl33, zl48, zl57, zl64, zl100, zl127, zl200, zl201, zl202, zl402, zl1200, zl2412, zl16884, zI_add, zI_sub, zI_mul, zI_inc, zI_dec]) <;> (congr 1 <;> omega))) ?_
    refine s_putI dX12_keeps_47 fp_X12_88 (by assumption) (by assumption) ?_
    refine s_iconst (v := 0) dX12_keeps_50 (by decide) ?_
    refine s_istore_n (i := 2) dX12_keeps_51 rfl (by decide) (by simp only [sl, sl2, rm, Value.category, reduceIte, Nat.reduceAdd, Nat.reduceEqDiff, reduceCtorEq]; rfl) ?_
    obtain ⟨-, hML, ⟨-, h22, hpa⟩, hC, hX, hR⟩ := id hS
    refine ml_keeps2 (u := 7) hk hli (by omega) (by omega) 2412 0 _ (by omega) hM (by rw [iu_ne (by omega), hf 145 (by decide)]; exact hML) iu_at (fun q h => absurd h (Nat.not_lt_zero q)) (fun k hk7 => ?_) ⟨hC.1, by rw [iu_j (by omega), hf 144 (by decide)]; exact hC.2.1, by rw [iu_j (by omega), hf 144 (by decide)]; exact hC.2.2.1, by rw [iu_j (by omega), hf 144 (by decide)]; exact hC.2.2.2.1, by rw [iu_ne (by omega), iu_ne (by omega), hf 147 (by decide), hf 148 (by decide)]; exact hC.2.2.2.2⟩ ⟨by rw [iu_j (by omega), hf 144 (by decide)]; exact hX.1, by rw [iu_ne (by omega), hf 155 (by decide)]; exact hX.2⟩ (hR.fr (by rw [iu_j (by omega), hf 144 (by decide)]) (by rw [iu_j (by omega), hf 144 (by decide)]) (by rw [iu_ne (by omega), hf 149 (by decide)])) (fun I' hf2 hj2 hK => hq I' (fun b hb => ?_) (fun j a1 a2 => ?_) hK)
    · have hp := hpa k (by omega)
      rw [hul] at hp
      refine hp.cong (prevs_ok _ _ _ hk.ls hk.hs) (fun q h3 => ?_)
      rw [iu_ne (by omega), h1 _ (by omega)]
      congr 1
      omega
    · rw [hf2 b hb]
      simp at hb
      rw [iu_ne (by omega), hf b (by simp; omega)]
    · rw [hj2 j a1 a2, iu_j a1, hf 144 (by decide)]
  | succ t ih =>
    intro i I ht hf h1 h2 hq
    refine s_iload_n (i := 2) dX12_keeps_11 rfl rfl ?_
    refine s_sipush (v := 16884) dX12_keeps_12 (by decide) ?_
    refine s_icmp_ge (tgt := 40) dX12_keeps_15 (by decide) (fun h15 => absurd h15 (fun h => by simp only [z0, z1, zm1, zm2, zm3, zm4, zl2, zl3, zl4, zl5, zl6, zl7, zl8, zl9, zl10, zl20, zl28, zl31, zl32, zl33, zl48, zl57, zl64, zl100, zl127, zl200, zl201, zl202, zl402, zl1200, zl2412, zl16884, zI_add, zI_sub, zI_mul, zI_inc, zI_dec] at h; rw [zI_le (by omega) (by omega) (by omega) (by omega)] at h; omega)) (fun h15 => ?_)
    refine s_aload_n (i := 0) dX12_keeps_18 rfl rfl ?_
    refine s_getR dX12_keeps_19 fl_X12_13 (by assumption) (by assumption) (by assumption) ?_
    refine s_iload_n (i := 2) dX12_keeps_22 rfl rfl ?_
    refine s_aload_n (i := 0) dX12_keeps_23 rfl rfl ?_
    refine s_getR dX12_keeps_24 fl_X12_13 (by assumption) (by assumption) (by assumption) ?_
    refine s_iload_n (i := 2) dX12_keeps_27 rfl rfl ?_
    refine s_sipush (v := 2412) dX12_keeps_28 (by decide) ?_
    refine s_iadd dX12_keeps_31 ?_
    refine s_ildn (j := i + 2412) dX12_keeps_32 (by assumption) (by assumption) (by assumption) (by first | with_reducible rfl | ((try simp only [z0, z1, zm1, zm2, zm3, zm4, zl2, zl3, zl4, zl5, zl6, zl7, zl8, zl9, zl10, zl20, zl28, zl31, zl32, zl33, zl48, zl57, zl64, zl100, zl127, zl200, zl201, zl202, zl402, zl1200, zl2412, zl16884, zI_add, zI_sub, zI_mul, zI_inc, zI_dec]) <;> (congr 1 <;> omega))) (by omega) (by decide) ?_
    refine s_istn (j := i) dX12_keeps_33 (by assumption) (by assumption) (by assumption) (by first | with_reducible rfl | ((try simp only [z0, z1, zm1, zm2, zm3, zm4, zl2, zl3, zl4, zl5, zl6, zl7, zl8, zl9, zl10, zl20, zl28, zl31, zl32, zl33, zl48, zl57, zl64, zl100, zl127, zl200, zl201, zl202, zl402, zl1200, zl2412, zl16884, zI_add, zI_sub, zI_mul, zI_inc, zI_dec]) <;> (congr 1 <;> omega))) (by omega) (by decide) ?_
    refine s_iinc dX12_keeps_34 rfl (zI_inc _) (by decide) (by simp only [sl, sl2, rm, Value.category, reduceIte, Nat.reduceAdd, Nat.reduceEqDiff, reduceCtorEq]; rfl) ?_
    refine s_goto (tgt := 11) dX12_keeps_37 (by decide) ?_
    refine ih (i + 1) _ (by omega) (fr_trans hf (fr_iu (by simp))) (fun q h3 => ?_) (fun q h3 => ?_) hq
    · by_cases e : q = i
      · subst e; rw [iu_at]; exact h2 _ (by omega)
      · rw [iu_j e]; exact h1 q (by omega)
    · rw [iu_j (by omega)]; exact h2 q (by omega)
set_option maxRecDepth 100000 in
set_option maxHeartbeats 1000000 in
theorem m_keeps {G : fG} {x0 : Nat} {l : Launch} {d k n : Nat} {T : fT} {I : fI} {J : fJ} {Q : Option Value → fT → fI → fJ → Prop} {li : Nat} {S : ASt} (hS : MIs T I S) (hk : SOk S) (hli : li < 6) (hq : ∀ I', fr I I' [144, 146, 147, 148] → (∀ j, j ≠ 2 → j ≠ 5 → I' 144 j = I 144 j) → MK T I' S li → Q none T I' J) : PW G x0 l mX12_keeps d (ZM G x0 Q) k n 0 [(0, .ref (x0 + 144)), (1, .int (zI li))] [] T I J := by
  have hM := hS.1
  obtain ⟨o1, o2⟩ := hM.o
  obtain ⟨r146, b146, k146, n146⟩ := hM.a146
  obtain ⟨r145, b145, k145, n145⟩ := hM.a145
  obtain ⟨r147, b147, k147, n147⟩ := hM.a147
  obtain ⟨r148, b148, k148, n148⟩ := hM.a148
  obtain ⟨-, hML, ⟨h8, h22, hpa⟩, hC, hX, hR⟩ := id hS
  refine s_aload_n (i := 0) dX12_keeps_0 rfl rfl ?_
  refine s_getI dX12_keeps_1 fl_X12_88 (by assumption) (by assumption) ?_
  rw [h22]
  refine s_bipush (v := 8) dX12_keeps_4 (by decide) ?_
  refine s_icmp_ne (tgt := 50) dX12_keeps_6 (by decide) (fun c6 => ?_) (fun c6 => ?_)
  · refine s_iconst (v := 0) dX12_keeps_50 (by decide) ?_
    refine s_istore_n (i := 2) dX12_keeps_51 rfl (by decide) (by simp only [sl, sl2, rm, Value.category, reduceIte, Nat.reduceAdd, Nat.reduceEqDiff, reduceCtorEq]; rfl) ?_
    rw [zl8, zI_eq (by omega) (by omega) (by omega) (by omega)] at c6
    exact ml_keeps2 (u := S.2.1.length) hk hli (by omega) h8 2412 0 I (by omega) hM hML h22 (fun q h => absurd h (Nat.not_lt_zero q)) (fun k hk2 => hpa k hk2) hC hX hR hq
  · refine s_iconst (v := 0) dX12_keeps_9 (by decide) ?_
    refine s_istore_n (i := 2) dX12_keeps_10 rfl (by decide) (by simp only [sl, sl2, rm, Value.category, reduceIte, Nat.reduceAdd, Nat.reduceEqDiff, reduceCtorEq]; rfl) ?_
    rw [zl8, zI_eq (by omega) (by omega) (by omega) (by omega)] at c6
    exact ml_keeps1 hk hli hS (by omega) 16884 0 I (by omega) (fr_refl I _) (fun q h => absurd h (Nat.not_lt_zero q)) (fun q _ => rfl) hq
set_option maxRecDepth 100000 in
set_option maxHeartbeats 1000000 in
theorem ml_undo {G : fG} {x0 : Nat} {l : Launch} {d k n : Nat} {T : fT} {J : fJ} {Q : Option Value → fT → fI → fJ → Prop} {u : Nat} {I0 : fI} (hM : MObj T) (hu : u < 8) : ∀ (t i : Nat) (I : fI), i + t = 2412 → I 144 2 = zI u → fr I0 I [145] → (∀ q, q < i → I 145 q = I0 146 (2412 * u + q)) → (∀ I', fr I0 I' [144, 145] → (∀ j, j ≠ 5 → I' 144 j = I0 144 j) → I' 144 5 = 0 → (∀ q, q < 2412 → I' 145 q = I0 146 (2412 * u + q)) → Q (some (.int (zI u))) T I' J) → PW G x0 l mX12_undo d (ZM G x0 Q) k n 22 [(0, .ref (x0 + 144)), (1, .int (zI i))] [] T I J := by
  obtain ⟨o1, o2⟩ := hM.o
  obtain ⟨r145, b145, k145, n145⟩ := hM.a145
  obtain ⟨r146, b146, k146, n146⟩ := hM.a146
  intro t
  induction t with
  | zero =>
    intro i I ht h2 hf h1 hq
    have hi : i = 2412 := by omega
    subst hi
    refine s_iload_n (i := 1) dX12_undo_22 rfl rfl ?_
    refine s_sipush (v := 2412) dX12_undo_23 (by decide) ?_
    refine s_icmp_ge (tgt := 56) dX12_undo_26 (by decide) (fun h26 => ?_) (fun h26 => absurd (by decide) h26)
    refine s_aload_n (i := 0) dX12_undo_56 rfl rfl ?_
    refine s_iconst (v := 0) dX12_undo_57 (by decide) ?_
    refine s_putI dX12_undo_58 fp_X12_91 (by assumption) (by assumption) ?_
    refine s_aload_n (i := 0) dX12_undo_61 rfl rfl ?_
    refine s_getI dX12_undo_62 fl_X12_88 (by assumption) (by assumption) ?_
    rw [iu_j (by omega), h2]
    refine s_iret dX12_undo_65 rfl ?_
    exact hq _ (fun b hb => by simp at hb; rw [iu_ne (by omega), hf b (by simp; omega)]) (fun j hj => by rw [iu_j hj, hf 144 (by decide)]) iu_at (fun q h => by rw [iu_ne (by omega)]; exact h1 q h)
  | succ t ih =>
    intro i I ht h2 hf h1 hq
    refine s_iload_n (i := 1) dX12_undo_22 rfl rfl ?_
    refine s_sipush (v := 2412) dX12_undo_23 (by decide) ?_
    refine s_icmp_ge (tgt := 56) dX12_undo_26 (by decide) (fun h26 => absurd h26 (fun h => by simp only [z0, z1, zm1, zm2, zm3, zm4, zl2, zl3, zl4, zl5, zl6, zl7, zl8, zl9, zl10, zl20, zl28, zl31, zl32, zl33, zl48, zl57, zl64, zl100, zl127, zl200, zl201, zl202, zl402, zl1200, zl2412, zl16884, zI_add, zI_sub, zI_mul, zI_inc, zI_dec] at h; rw [zI_le (by omega) (by omega) (by omega) (by omega)] at h; omega)) (fun h26 => ?_)
    refine s_aload_n (i := 0) dX12_undo_29 rfl rfl ?_
    refine s_getR dX12_undo_30 fl_X12_7 (by assumption) (by assumption) (by assumption) ?_
    refine s_iload_n (i := 1) dX12_undo_33 rfl rfl ?_
    refine s_aload_n (i := 0) dX12_undo_34 rfl rfl ?_
    refine s_getR dX12_undo_35 fl_X12_13 (by assumption) (by assumption) (by assumption) ?_
    refine s_sipush (v := 2412) dX12_undo_38 (by decide) ?_
    refine s_aload_n (i := 0) dX12_undo_41 rfl rfl ?_
    refine s_getI dX12_undo_42 fl_X12_88 (by assumption) (by assumption) ?_
    rw [h2]
    refine s_imul dX12_undo_45 ?_
    refine s_iload_n (i := 1) dX12_undo_46 rfl rfl ?_
    refine s_iadd dX12_undo_47 ?_
    refine s_ildn (j := 2412 * u + i) dX12_undo_48 (by assumption) (by assumption) (by assumption) (by first | with_reducible rfl | ((try simp only [z0, z1, zm1, zm2, zm3, zm4, zl2, zl3, zl4, zl5, zl6, zl7, zl8, zl9, zl10, zl20, zl28, zl31, zl32, zl33, zl48, zl57, zl64, zl100, zl127, zl200, zl201, zl202, zl402, zl1200, zl2412, zl16884, zI_add, zI_sub, zI_mul, zI_inc, zI_dec]) <;> (congr 1 <;> omega))) (by omega) (by decide) ?_
    refine s_istn (j := i) dX12_undo_49 (by assumption) (by assumption) (by assumption) (by first | with_reducible rfl | ((try simp only [z0, z1, zm1, zm2, zm3, zm4, zl2, zl3, zl4, zl5, zl6, zl7, zl8, zl9, zl10, zl20, zl28, zl31, zl32, zl33, zl48, zl57, zl64, zl100, zl127, zl200, zl201, zl202, zl402, zl1200, zl2412, zl16884, zI_add, zI_sub, zI_mul, zI_inc, zI_dec]) <;> (congr 1 <;> omega))) (by omega) (by decide) ?_
    refine s_iinc dX12_undo_50 rfl (zI_inc _) (by decide) (by simp only [sl, sl2, rm, Value.category, reduceIte, Nat.reduceAdd, Nat.reduceEqDiff, reduceCtorEq]; rfl) ?_
    refine s_goto (tgt := 22) dX12_undo_53 (by decide) ?_
    refine ih (i + 1) _ (by omega) (by rw [iu_ne (by omega)]; exact h2) (fr_trans hf (fr_iu (by simp))) (fun q h3 => ?_) hq
    by_cases e : q = i
    · subst e; rw [iu_at, hf 146 (by decide)]
    · rw [iu_j e]; exact h1 q (by omega)
set_option maxRecDepth 100000 in
set_option maxHeartbeats 1000000 in
theorem m_undo {G : fG} {x0 : Nat} {l : Launch} {d k n : Nat} {T : fT} {I : fI} {J : fJ} {Q : Option Value → fT → fI → fJ → Prop} {S S' : ASt} {a : Int} (hS : MIs T I S) (hk : SOk S) (h : rUndo S  a S') (hq : ∀ I', frC I I' → MIs T I' S' → Q (some (.int (zI a))) T I' J) : PW G x0 l mX12_undo d (ZM G x0 Q) k n 0 [(0, .ref (x0 + 144))] [] T I J := by
  have hM := hS.1
  obtain ⟨o1, o2⟩ := hM.o
  obtain ⟨r145, b145, k145, n145⟩ := hM.a145
  obtain ⟨r146, b146, k146, n146⟩ := hM.a146
  obtain ⟨-, hML, ⟨h8, h22, hpa⟩, hC, hX, hR⟩ := id hS
  obtain ⟨he, rfl, rfl⟩ | ⟨li, L, H, he, rfl, rfl⟩ := h
  · rw [he] at h22
    refine s_aload_n (i := 0) dX12_undo_0 rfl rfl ?_
    refine s_getI dX12_undo_1 fl_X12_88 (by assumption) (by assumption) ?_
    rw [h22]
    refine s_if_ne (tgt := 10) dX12_undo_4 (by decide) (fun h4 => absurd h4 (fun h => h rfl)) (fun h4 => ?_)
    refine s_bipush (v := -3) dX12_undo_7 (by decide) ?_
    refine s_iret dX12_undo_9 rfl ?_
    rw [zm3]
    exact hq I (frC.refl I) hS
  · rw [he] at h22 h8 hpa
    rw [List.length_cons] at h22 h8
    refine s_aload_n (i := 0) dX12_undo_0 rfl rfl ?_
    refine s_getI dX12_undo_1 fl_X12_88 (by assumption) (by assumption) ?_
    rw [h22]
    refine s_if_ne (tgt := 10) dX12_undo_4 (by decide) (fun h4 => ?_) (fun h4 => absurd h4 (fun h => by rw [z0, zI_eq (by omega) (by omega) (by omega) (by omega)] at h; omega))
    refine s_aload_n (i := 0) dX12_undo_10 rfl rfl ?_
    refine s_dup dX12_undo_11 rfl ?_
    refine s_getI dX12_undo_12 fl_X12_88 (by assumption) (by assumption) ?_
    refine s_iconst (v := 1) dX12_undo_15 (by decide) ?_
    refine s_isub dX12_undo_16 ?_
    rw [h22]
    refine s_topi (y := zI (H.length : Int)) (by first | with_reducible rfl | ((try simp only [z0, z1, zm1, zm2, zm3, zm4, zl2, zl3, zl4, zl5, zl6, zl7, zl8, zl9, zl10, zl20, zl28, zl31, zl32, zl33, zl48, zl57, zl64, zl100, zl127, zl200, zl201, zl202, zl402, zl1200, zl2412, zl16884, zI_add, zI_sub, zI_mul, zI_inc, zI_dec]) <;> (congr 1 <;> omega))) ?_
    refine s_putI dX12_undo_17 fp_X12_88 (by assumption) (by assumption) ?_
    refine s_iconst (v := 0) dX12_undo_20 (by decide) ?_
    refine s_istore_n (i := 1) dX12_undo_21 rfl (by decide) (by simp only [sl, sl2, rm, Value.category, reduceIte, Nat.reduceAdd, Nat.reduceEqDiff, reduceCtorEq]; rfl) ?_
    refine ml_undo (I0 := iu I 144 2 (zI (H.length : Int))) hM (by omega) 2412 0 _ (by omega) iu_at (fr_refl _ _) (fun q h => absurd h (Nat.not_lt_zero q)) (fun I' hf hj h5 hm => hq I' (fun b hb => ?_) ⟨hM, ?_, ⟨?_, ?_, fun k hk2 => ?_⟩, ⟨?_, h5, ?_, ?_, fun q e h => ?_⟩, ⟨?_, ?_⟩, ?_⟩)
    · rw [hf b (by simp; omega), iu_ne (by omega)]
    · have h0 := hpa 0 (by simp)
      refine h0.cong ((hk.ls).upd (hk.hs (li, L) (by rw [he]; exact List.mem_cons_self))) (fun q h => ?_)
      rw [Nat.zero_add, hm q h, iu_ne (by omega), List.length_cons]
      congr 1
    · show H.length ≤ 8
      omega
    · rw [hj 2 (by omega), iu_at]
    · have h0 := hpa (k + 1) (by rw [List.length_cons]; exact Nat.succ_lt_succ hk2)
      rw [List.length_cons, show H.length + 1 - 1 - (k + 1) = H.length - 1 - k by omega] at h0
      rw [hf 146 (by decide), iu_ne (by omega)]
      exact h0
    · exact Nat.zero_le _
    · rw [hj 6 (by omega), iu_j (by omega)]; exact hC.2.2.1
    · rw [hj 7 (by omega), iu_j (by omega)]; exact hC.2.2.2.1
    · simp at h
    · rw [hj 18 (by omega), iu_j (by omega)]; exact hX.1
    · rw [hf 155 (by decide), iu_ne (by omega)]; exact hX.2
    · exact hR.fr (by rw [hj 9 (by omega), iu_j (by omega)]) (by rw [hj 10 (by omega), iu_j (by omega)]) (by rw [hf 149 (by decide), iu_ne (by omega)])
set_option maxRecDepth 100000 in
set_option maxHeartbeats 1000000 in
theorem m_clear {G : fG} {x0 : Nat} {l : Launch} {d k n : Nat} {T : fT} {I : fI} {J : fJ} {Q : Option Value → fT → fI → fJ → Prop} {x : Int32} {S S' : ASt} {a : Int} (hS : MIs T I S) (hk : SOk S) (h : rClear S x.toInt a S') (hq : ∀ I', frC I I' → MIs T I' S' → Q (some (.int (zI a))) T I' J) : PW G x0 l mX12_clear (d + 2) (ZM G x0 Q) k n 0 [(0, .ref (x0 + 144)), (1, .int x)] [] T I J := by
  have hM := hS.1
  obtain ⟨o1, o2⟩ := hM.o
  obtain ⟨r145, b145, k145, n145⟩ := hM.a145
  refine s_iload_n (i := 1) dX12_clear_0 rfl rfl ?_
  refine s_cS_I (My := mX12_isList) dX12_clear_1 wM_X12_73 cb_yX12_isList wT_yX12_isList (Nat.le_of_ble_eq_true rfl) (by decide) (s_d (by omega) (m_isList (d := 0) ?_ ?_))
  · intro hx
    obtain ⟨hbad, -, -⟩ | ⟨li, hli, e1, rfl, rfl⟩ := h
    · exact absurd hx hbad
    have hxz := t_zI e1
    subst hxz
    have hxt : (zI (li : Int)).toInt = li := zI_t (by omega) (by omega)
    have hL := hk.1 li hli
    have hm := hS.L hli
    have hnm := hL.nbm
    have hmm := hL.1
    refine s_if_ne (tgt := 10) dX12_clear_4 (by decide) (fun h4 => ?_) (fun h4 => absurd h4 (by decide))
    refine s_aload_n (i := 0) dX12_clear_10 rfl rfl ?_
    refine s_iload_n (i := 1) dX12_clear_11 rfl rfl ?_
    refine s_cV_I (My := mX12_keeps) dX12_clear_12 wM_X12_154 cb_yX12_keeps ci_yX12_keeps (by assumption) (by assumption) (Nat.le_of_ble_eq_true rfl) (by decide) (s_d (by omega) (m_keeps (d := 0) hS hk hli (fun I1 hf1 hj1 hK => ?_)))
    refine s_aload_n (i := 0) dX12_clear_15 rfl rfl ?_
    refine s_iload_n (i := 1) dX12_clear_16 rfl rfl ?_
    refine s_cV_I (My := mX12_many) dX12_clear_17 wM_X12_131 cb_yX12_many ci_yX12_many (by assumption) (by assumption) (Nat.le_of_ble_eq_true rfl) (by decide) (s_d (by omega) (m_many (d := 0) hM hli ?_))
    rw [hf1 145 (by decide), hm.1]
    refine s_istore_n (i := 2) dX12_clear_20 rfl (by decide) (by simp only [sl, sl2, rm, Value.category, reduceIte, Nat.reduceAdd, Nat.reduceEqDiff, reduceCtorEq]; rfl) ?_
    refine s_aload_n (i := 0) dX12_clear_21 rfl rfl ?_
    refine s_getR dX12_clear_22 fl_X12_7 (by assumption) (by assumption) (by assumption) ?_
    refine s_sipush (v := 402) dX12_clear_25 (by decide) ?_
    refine s_iload_n (i := 1) dX12_clear_28 rfl rfl ?_
    refine s_imul dX12_clear_29 ?_
    refine s_iconst (v := 0) dX12_clear_30 (by decide) ?_
    refine s_istn (j := 402 * li) dX12_clear_31 (by assumption) (by assumption) (by assumption) (by first | with_reducible rfl | ((try simp only [z0, z1, zm1, zm2, zm3, zm4, zl2, zl3, zl4, zl5, zl6, zl7, zl8, zl9, zl10, zl20, zl28, zl31, zl32, zl33, zl48, zl57, zl64, zl100, zl127, zl200, zl201, zl202, zl402, zl1200, zl2412, zl16884, zI_add, zI_sub, zI_mul, zI_inc, zI_dec]) <;> (congr 1 <;> omega))) (by omega) (by decide) ?_
    refine s_aload_n (i := 0) dX12_clear_32 rfl rfl ?_
    refine s_getR dX12_clear_33 fl_X12_7 (by assumption) (by assumption) (by assumption) ?_
    refine s_sipush (v := 402) dX12_clear_36 (by decide) ?_
    refine s_iload_n (i := 1) dX12_clear_39 rfl rfl ?_
    refine s_imul dX12_clear_40 ?_
    refine s_sipush (v := 201) dX12_clear_41 (by decide) ?_
    refine s_iadd dX12_clear_44 ?_
    refine s_iconst (v := 0) dX12_clear_45 (by decide) ?_
    refine s_istn (j := 402 * li + 201) dX12_clear_46 (by assumption) (by assumption) (by assumption) (by first | with_reducible rfl | ((try simp only [z0, z1, zm1, zm2, zm3, zm4, zl2, zl3, zl4, zl5, zl6, zl7, zl8, zl9, zl10, zl20, zl28, zl31, zl32, zl33, zl48, zl57, zl64, zl100, zl127, zl200, zl201, zl202, zl402, zl1200, zl2412, zl16884, zI_add, zI_sub, zI_mul, zI_inc, zI_dec]) <;> (congr 1 <;> omega))) (by omega) (by decide) ?_
    refine s_iload_n (i := 2) dX12_clear_47 rfl rfl ?_
    refine s_iret dX12_clear_48 rfl ?_
    have hfk : frK I1 (iu (iu I1 145 (402 * li) 0) 145 (402 * li + 201) 0) := ⟨fun b hb => by rw [iu_ne (by omega), iu_ne (by omega)], fun j _ => by rw [iu_ne (by omega), iu_ne (by omega)]⟩
    refine hq _ (frC.trans (frC.of hf1 (fun b hb => by simp at hb; omega)) hfk.c) (hK.fin0 hfk (by rw [iu_ne (by omega), iu_ne (by omega)]) (hK.2.1.upd hk.ls (fun q h => ?_) ⟨?_, fun q h => absurd h (Nat.not_lt_zero q), ?_, fun q h => absurd h (Nat.not_lt_zero q)⟩))
    · rw [iu_j (by omega), iu_j (by omega)]
    · rw [iu_j (by omega), iu_at]; rfl
    · rw [iu_at]; rfl
  · intro hx
    obtain ⟨-, rfl, rfl⟩ | ⟨li, hli, e1, -⟩ := h
    · refine s_if_ne (tgt := 10) dX12_clear_4 (by decide) (fun h4 => absurd h4 (fun h => h rfl)) (fun h4 => ?_)
      refine s_bipush (v := -2) dX12_clear_7 (by decide) ?_
      refine s_iret dX12_clear_9 rfl ?_
      rw [zm2]
      exact hq I (frC.refl I) hS
    · exact absurd (by omega) hx
set_option maxRecDepth 100000 in
set_option maxHeartbeats 1000000 in
theorem m_type {G : fG} {x0 : Nat} {l : Launch} {d k n : Nat} {T : fT} {I : fI} {J : fJ} {Q : Option Value → fT → fI → fJ → Prop} {x : Int32} {S S' : ASt} {a : Int} (hS : MIs T I S) (hk : SOk S) (h : rType S x.toInt a S') (hq : ∀ I', frC I I' → MIs T I' S' → Q (some (.int (zI a))) T I' J) : PW G x0 l mX12_type (d + 1) (ZM G x0 Q) k n 0 [(0, .ref (x0 + 144)), (1, .int x)] [] T I J := by
  have hM := hS.1
  obtain ⟨o1, o2⟩ := hM.o
  obtain ⟨r155, b155, k155, n155⟩ := hM.a155
  have t0 : ((0 : Int32)).toInt = 0 := by decide
  have t127 : ((127 : Int32)).toInt = 127 := by decide
  obtain ⟨h18, h155⟩ := hS.2.2.2.2.1
  have ht := hk.2.2.2.2.1
  refine s_iload_n (i := 1) dX12_type_0 rfl rfl ?_
  refine s_iconst (v := 0) dX12_type_1 (by decide) ?_
  refine s_bipush (v := 127) dX12_type_2 (by decide) ?_
  refine s_cS_III (My := mX12_in) dX12_type_4 wM_X12_68 cb_yX12_in wT_yX12_in (Nat.le_of_ble_eq_true rfl) (by decide) (s_d (by omega) (m_in (d := 0) ?_ ?_))
  · intro hx
    rw [t0, t127] at hx
    obtain ⟨hbad, -, -⟩ | ⟨-, ⟨hfull, rfl, rfl⟩ | ⟨hlt, rfl, rfl⟩⟩ := h
    · exact absurd hx hbad
    · refine s_if_ne (tgt := 13) dX12_type_7 (by decide) (fun h7 => ?_) (fun h7 => absurd h7 (by decide))
      refine s_aload_n (i := 0) dX12_type_13 rfl rfl ?_
      refine s_getI dX12_type_14 fl_X12_170 (by assumption) (by assumption) ?_
      rw [h18]
      refine s_bipush (v := 100) dX12_type_17 (by decide) ?_
      refine s_icmp_ne (tgt := 25) dX12_type_19 (by decide) (fun h19 => absurd h19 (fun h => h (by rw [zl100, zI_eq (by omega) (by omega) (by omega) (by omega)]; omega))) (fun h19 => ?_)
      refine s_bipush (v := -4) dX12_type_22 (by decide) ?_
      refine s_iret dX12_type_24 rfl ?_
      rw [zm4]
      exact hq I (frC.refl I) hS
    · refine s_if_ne (tgt := 13) dX12_type_7 (by decide) (fun h7 => ?_) (fun h7 => absurd h7 (by decide))
      refine s_aload_n (i := 0) dX12_type_13 rfl rfl ?_
      refine s_getI dX12_type_14 fl_X12_170 (by assumption) (by assumption) ?_
      rw [h18]
      refine s_bipush (v := 100) dX12_type_17 (by decide) ?_
      refine s_icmp_ne (tgt := 25) dX12_type_19 (by decide) (fun h19 => ?_) (fun h19 => absurd h19 (fun h => by rw [zl100, zI_eq (by omega) (by omega) (by omega) (by omega)] at h; omega))
      refine s_aload_n (i := 0) dX12_type_25 rfl rfl ?_
      refine s_getR dX12_type_26 fl_X12_47 (by assumption) (by assumption) (by assumption) ?_
      refine s_aload_n (i := 0) dX12_type_29 rfl rfl ?_
      refine s_getI dX12_type_30 fl_X12_170 (by assumption) (by assumption) ?_
      rw [h18]
      refine s_iload_n (i := 1) dX12_type_33 rfl rfl ?_
      refine s_istn (j := S.2.2.2.1.2) dX12_type_34 (by assumption) (by assumption) (by assumption) (by first | with_reducible rfl | ((try simp only [z0, z1, zm1, zm2, zm3, zm4, zl2, zl3, zl4, zl5, zl6, zl7, zl8, zl9, zl10, zl20, zl28, zl31, zl32, zl33, zl48, zl57, zl64, zl100, zl127, zl200, zl201, zl202, zl402, zl1200, zl2412, zl16884, zI_add, zI_sub, zI_mul, zI_inc, zI_dec]) <;> (congr 1 <;> omega))) (by omega) (by decide) ?_
      refine s_aload_n (i := 0) dX12_type_35 rfl rfl ?_
      refine s_dup dX12_type_36 rfl ?_
      refine s_getI dX12_type_37 fl_X12_170 (by assumption) (by assumption) ?_
      refine s_iconst (v := 1) dX12_type_40 (by decide) ?_
      refine s_iadd dX12_type_41 ?_
      rw [iu_ne (by omega), h18]
      refine s_topi (y := zI ((S.2.2.2.1.2 + 1 : Nat) : Int)) (by first | with_reducible rfl | ((try simp only [z0, z1, zm1, zm2, zm3, zm4, zl2, zl3, zl4, zl5, zl6, zl7, zl8, zl9, zl10, zl20, zl28, zl31, zl32, zl33, zl48, zl57, zl64, zl100, zl127, zl200, zl201, zl202, zl402, zl1200, zl2412, zl16884, zI_add, zI_sub, zI_mul, zI_inc, zI_dec]) <;> (congr 1 <;> omega))) ?_
      refine s_putI dX12_type_42 fp_X12_170 (by assumption) (by assumption) ?_
      refine s_aload_n (i := 0) dX12_type_45 rfl rfl ?_
      refine s_getI dX12_type_46 fl_X12_170 (by assumption) (by assumption) ?_
      rw [iu_at]
      refine s_iret dX12_type_49 rfl ?_
      obtain ⟨a1, a2, ⟨a3, a4, a5⟩, a6, -, a8⟩ := id hS
      refine hq _ (fun b hb => by rw [iu_ne (by omega), iu_ne (by omega)]) ⟨hM, by rw [iu_ne (by omega), iu_ne (by omega)]; exact a2, ⟨a3, by rw [iu_j (by omega), iu_ne (by omega)]; exact a4, by rw [iu_ne (by omega), iu_ne (by omega)]; exact a5⟩, a6.fr (fun j hj => by rw [iu_j (by omega), iu_ne (by omega)]) (by rw [iu_ne (by omega), iu_ne (by omega)]) (by rw [iu_ne (by omega), iu_ne (by omega)]), ⟨iu_at, fun q h => ?_⟩, a8.fr (by rw [iu_j (by omega), iu_ne (by omega)]) (by rw [iu_j (by omega), iu_ne (by omega)]) (by rw [iu_ne (by omega), iu_ne (by omega)])⟩
      rw [iu_ne (by omega)]
      show _ = zI (if q = S.2.2.2.1.2 then x.toInt else S.2.2.2.1.1 q)
      by_cases e : q = S.2.2.2.1.2
      · rw [e, iu_at, if_pos rfl, zI_self]
      · rw [iu_j e, if_neg e]
        have h : q < S.2.2.2.1.2 + 1 := h
        exact h155 q (by omega)
  · intro hx
    rw [t0, t127] at hx
    obtain ⟨-, rfl, rfl⟩ | ⟨hok, -⟩ := h
    · refine s_if_ne (tgt := 13) dX12_type_7 (by decide) (fun h7 => absurd h7 (fun h => h rfl)) (fun h7 => ?_)
      refine s_bipush (v := -2) dX12_type_10 (by decide) ?_
      refine s_iret dX12_type_12 rfl ?_
      rw [zm2]
      exact hq I (frC.refl I) hS
    · exact absurd hok hx
set_option maxRecDepth 100000 in
set_option maxHeartbeats 1000000 in
theorem m_erase {G : fG} {x0 : Nat} {l : Launch} {d k n : Nat} {T : fT} {I : fI} {J : fJ} {Q : Option Value → fT → fI → fJ → Prop} {S S' : ASt} {a : Int} (hS : MIs T I S) (hk : SOk S) (h : rErase S  a S') (hq : ∀ I', frC I I' → MIs T I' S' → Q (some (.int (zI a))) T I' J) : PW G x0 l mX12_erase d (ZM G x0 Q) k n 0 [(0, .ref (x0 + 144))] [] T I J := by
  have hM := hS.1
  obtain ⟨o1, o2⟩ := hM.o
  obtain ⟨h18, h155⟩ := hS.2.2.2.2.1
  obtain ⟨rfl, rfl⟩ := h
  refine s_aload_n (i := 0) dX12_erase_0 rfl rfl ?_
  refine s_getI dX12_erase_1 fl_X12_170 (by assumption) (by assumption) ?_
  rw [h18]
  refine s_istore_n (i := 1) dX12_erase_4 rfl (by decide) (by simp only [sl, sl2, rm, Value.category, reduceIte, Nat.reduceAdd, Nat.reduceEqDiff, reduceCtorEq]; rfl) ?_
  refine s_aload_n (i := 0) dX12_erase_5 rfl rfl ?_
  refine s_iconst (v := 0) dX12_erase_6 (by decide) ?_
  refine s_putI dX12_erase_7 fp_X12_170 (by assumption) (by assumption) ?_
  refine s_iload_n (i := 1) dX12_erase_10 rfl rfl ?_
  refine s_iret dX12_erase_11 rfl ?_
  obtain ⟨a1, a2, ⟨a3, a4, a5⟩, a6, -, a8⟩ := id hS
  exact hq _ (fun b hb => iu_ne (by omega)) ⟨hM, by rw [iu_ne (by omega)]; exact a2, ⟨a3, by rw [iu_j (by omega)]; exact a4, by rw [iu_ne (by omega)]; exact a5⟩, a6.fr (fun j hj => iu_j (by omega)) (iu_ne (by omega)) (iu_ne (by omega)), ⟨iu_at, fun q h => absurd h (Nat.not_lt_zero q)⟩, a8.fr (iu_j (by omega)) (iu_j (by omega)) (iu_ne (by omega))⟩
