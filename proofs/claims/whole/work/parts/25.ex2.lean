/-- out, waiting (the latest first), depth, whether a factor is due -/
abbrev eS : Type := List Int × List Int × Nat × Bool
def estep (s : eS) (ch : Int) : Option eS :=
  if ch = 32 then some s
  else if s.2.2.2 = true then
    (if 65 ≤ ch ∧ ch < 71 then some (s.1 ++ [ch], s.2.1, s.2.2.1, false)
     else if ch = 40 ∧ s.2.2.1 < 8 then some (s.1, 40 :: s.2.1, s.2.2.1 + 1, true) else none)
  else if ch = 41 ∧ 0 < s.2.2.1 then some ((rel 1 s.2.1 s.1).2, (rel 1 s.2.1 s.1).1.tail, s.2.2.1 - 1, false)
  else if 0 < strg ch then some ((rel (strg ch) s.2.1 s.1).2, ch :: (rel (strg ch) s.2.1 s.1).1, s.2.2.1, true) else none
def ExOk (s : eS) (i : Nat) : Prop := s.1.length + s.2.1.length ≤ i ∧ (∀ t, t ∈ s.2.1 → 0 ≤ t ∧ t ≤ 127 ∧ (t = 40 ∨ 0 < strg t)) ∧ s.2.1.count 40 = s.2.2.1 ∧ s.2.2.1 ≤ 8
theorem rel_sub (st : Int) : ∀ w out t, t ∈ (rel st w out).1 → t ∈ w := by
  intro w
  induction w with
  | nil => intro out t h; simpa [rel] using h
  | cons a w ih =>
    intro out t h
    simp only [rel] at h
    split at h
    · exact List.mem_cons_of_mem _ (ih _ t h)
    · exact h
theorem rel_par : ∀ w out, (∀ t, t ∈ w → t = 40 ∨ 0 < strg t) → 0 < w.count 40 → ∃ r, (rel 1 w out).1 = 40 :: r ∧ r.count 40 + 1 = w.count 40 := by
  intro w
  induction w with
  | nil => intro out _ h; simp at h
  | cons a w ih =>
    intro out ha h
    simp only [rel]
    rcases ha a List.mem_cons_self with h1 | h1
    · subst h1
      rw [if_neg (by decide)]
      exact ⟨w, rfl, by rw [List.count_cons_self]⟩
    · have hne : a ≠ 40 := fun e => by rw [e] at h1; exact absurd h1 (by decide)
      rw [if_pos (by omega)]
      rw [List.count_cons_of_ne hne] at h ⊢
      exact ih (out ++ [a]) (fun t ht => ha t (List.mem_cons_of_mem _ ht)) h
theorem rel_cnt (st : Int) (hst : 1 ≤ st) : ∀ w out, ((rel st w out).1).count 40 = w.count 40 := by
  intro w
  induction w with
  | nil => intro out; rfl
  | cons a w ih =>
    intro out
    simp only [rel]
    split
    · next h =>
      have hne : a ≠ 40 := fun e => by rw [e] at h; have : strg 40 = 0 := by decide
                                       omega
      rw [ih, List.count_cons_of_ne hne]
    · rfl
theorem ExOk.step {s s' : eS} {i : Nat} {ch : Int} (h : ExOk s i) (hc : 0 ≤ ch ∧ ch ≤ 127) (hs : estep s ch = some s') : ExOk s' (i + 1) := by
  obtain ⟨out, w, dp, due⟩ := s
  obtain ⟨h1, h2, h3, h4⟩ := h
  dsimp only at h1 h2 h3 h4
  unfold estep at hs
  dsimp only at hs
  split at hs
  · cases hs; exact ⟨by dsimp only; omega, h2, h3, h4⟩
  · split at hs
    · split at hs
      · cases hs; exact ⟨by dsimp only; rw [List.length_append, List.length_singleton]; omega, h2, h3, h4⟩
      · split at hs
        · cases hs
          refine ⟨by dsimp only; rw [List.length_cons]; omega, fun t ht => ?_, by dsimp only; rw [List.count_cons_self, h3], by dsimp only; omega⟩
          rcases List.mem_cons.mp ht with rfl | ht
          · exact ⟨by omega, by omega, Or.inl rfl⟩
          · exact h2 t ht
        · cases hs
    · split at hs
      · next hc2 =>
        obtain ⟨r, hr, hr2⟩ := rel_par w out (fun t ht => (h2 t ht).2.2) (by omega)
        have hl := rel_len 1 w out
        have hsub := rel_sub 1 w out
        rw [hr] at hs hl hsub
        cases hs
        refine ⟨by dsimp only [List.tail]; rw [List.length_cons] at hl; omega, fun t ht => h2 t (hsub t (List.mem_cons_of_mem _ ht)), by dsimp only [List.tail]; omega, by dsimp only; omega⟩
      · split at hs
        · next hg =>
          cases hs
          have hl := rel_len (strg ch) w out
          have hne : ch ≠ 40 := fun e => by rw [e] at hg; exact absurd hg (by decide)
          refine ⟨by dsimp only; rw [List.length_cons]; omega, fun t ht => ?_, by dsimp only; rw [List.count_cons_of_ne hne, rel_cnt _ (by omega)]; exact h3, h4⟩
          rcases List.mem_cons.mp ht with rfl | ht
          · exact ⟨hc.1, hc.2, Or.inr hg⟩
          · exact h2 t (rel_sub _ _ _ t ht)
        · cases hs
def ExIsS (T : fT) (I : fI) (s : eS) : Prop := ExIs T I s.1 s.2.1 s.2.2.1 s.2.2.2
abbrev exS : List Nat := [115, 116, 117, 118, 119]
set_option maxRecDepth 100000 in
set_option maxHeartbeats 4000000 in
theorem c_takeFactor {G : fG} {x0 : Nat} {l : Launch} {d k n : Nat} {T : fT} {I : fI} {J : fJ} {Q : Option Value → fT → fI → fJ → Prop} {out w : List Int} {dp i : Nat} {ch : Int} (hE : ExAt T) (hx : ExIs T I out w dp true) (hk : ExOk (out, w, dp, true) i) (hi : i < 100) (hc : 0 ≤ ch ∧ ch ≤ 127) (hc2 : ch ≠ 32) (hn : estep (out, w, dp, true) ch = none → Q (some (.int 0)) T I J) (hy : ∀ s' I', estep (out, w, dp, true) ch = some s' → fr I I' exS → ExIsS T I' s' → Q (some (.int 1)) T I' J) : PW G x0 l mX3_takeFactor (d + 1) (ZM G x0 Q) k n 0 [(0, .ref (x0 + 115)), (1, .int (zI ch))] [] T I J := by
  obtain ⟨x1, x2, x3, x4, x5, x6, x7⟩ := id hE
  have e115 : (115 : Nat) < T.1 := by omega
  have e116 : (116 : Nat) < T.1 := by omega
  have e118 : (118 : Nat) < T.1 := by omega
  have e40 : (40 : Nat) < T.1 := by omega
  have k116 : T.2.1 116 = 9 := x5.2.2.1
  have k118 : T.2.1 118 = 9 := x6.2.2.1
  have k40 : T.2.1 40 = 9 := x7.2.2.1
  obtain ⟨r1, r2, r3, r4⟩ := id hx
  obtain ⟨o1, o2, o3, o4⟩ := id hk
  dsimp only at o1 o2 o3 o4
  have es : estep (out, w, dp, true) ch = if 65 ≤ ch ∧ ch < 71 then some (out ++ [ch], w, dp, false) else if ch = 40 ∧ dp < 8 then some (out, 40 :: w, dp + 1, true) else none := by
    unfold estep
    rw [if_neg hc2, if_pos rfl]
  rw [es] at hn hy
  refine s_iload_n (i := 1) dX3_takeFactor_0 rfl rfl ?_
  refine s_bipush (v := 65) dX3_takeFactor_1 (by decide) ?_
  refine s_icmp_lt (tgt := 27) dX3_takeFactor_3 (by decide) (fun c3 => ?_) (fun c3 => ?_)
  · have hno : ¬ (65 ≤ ch ∧ ch < 71) := by
      first
      | (have c3 : zI ch < zI 65 := c3
         rw [zI_lt (by omega) (by omega) (by omega) (by omega)] at c3
         omega)
      | (have c9 : zI 71 ≤ zI ch := c9
         rw [zI_le (by omega) (by omega) (by omega) (by omega)] at c9
         omega)
    rw [if_neg hno] at hn hy
    refine s_iload_n (i := 1) dX3_takeFactor_27 rfl rfl ?_
    refine s_bipush (v := 40) dX3_takeFactor_28 (by decide) ?_
    refine s_icmp_ne (tgt := 62) dX3_takeFactor_30 (by decide) (fun c30 => ?_) (fun c30 => ?_)
    · refine s_iconst (v := 0) dX3_takeFactor_62 (by decide) ?_
      refine s_zret dX3_takeFactor_63 rfl (by first | exact Or.inl rfl | exact Or.inr rfl) ?_
      refine hn (if_neg ?_)
      first
      | (have c30 : ¬ zI ch = zI 40 := c30
         rw [zI_eq (by omega) (by omega) (by omega) (by omega)] at c30
         omega)
      | (have c39 : zI 8 ≤ I 115 2 := c39
         rw [t_zI r3, zI_le (by omega) (by omega) (by omega) (by omega)] at c39
         omega)
    · have c30 : zI ch = zI 40 := c30
      rw [zI_eq (by omega) (by omega) (by omega) (by omega)] at c30
      refine s_aload_n (i := 0) dX3_takeFactor_33 rfl rfl ?_
      refine s_getI dX3_takeFactor_34 fl_X3_27 (by assumption) (by assumption) ?_
      refine s_bipush (v := 8) dX3_takeFactor_37 (by decide) ?_
      refine s_icmp_ge (tgt := 62) dX3_takeFactor_39 (by decide) (fun c39 => ?_) (fun c39 => ?_)
      · refine s_iconst (v := 0) dX3_takeFactor_62 (by decide) ?_
        refine s_zret dX3_takeFactor_63 rfl (by first | exact Or.inl rfl | exact Or.inr rfl) ?_
        refine hn (if_neg ?_)
        first
        | (have c30 : ¬ zI ch = zI 40 := c30
           rw [zI_eq (by omega) (by omega) (by omega) (by omega)] at c30
           omega)
        | (have c39 : zI 8 ≤ I 115 2 := c39
           rw [t_zI r3, zI_le (by omega) (by omega) (by omega) (by omega)] at c39
           omega)
      · have c39 : ¬ zI 8 ≤ I 115 2 := c39
        rw [t_zI r3, zI_le (by omega) (by omega) (by omega) (by omega)] at c39
        refine s_aload_n (i := 0) dX3_takeFactor_42 rfl rfl ?_
        refine s_getR dX3_takeFactor_43 fl_X3_20 (by assumption) (by assumption) (by assumption) ?_
        refine s_iload_n (i := 1) dX3_takeFactor_46 rfl rfl ?_
        refine s_cV_I (My := mX9_append) dX3_takeFactor_47 wM_X3_51 cb_yX9_append ci_yX9_append (by assumption) (by assumption) (Nat.le_of_ble_eq_true rfl) (by decide) (c_append r2 (by rw [List.length_reverse]; omega) (fun I1 hf1 hR1 => ?_))
        refine s_aload_n (i := 0) dX3_takeFactor_50 rfl rfl ?_
        refine s_dup dX3_takeFactor_51 rfl ?_
        refine s_getI dX3_takeFactor_52 fl_X3_27 (by assumption) (by assumption) ?_
        refine s_iconst (v := 1) dX3_takeFactor_55 (by decide) ?_
        refine s_iadd dX3_takeFactor_56 ?_
        refine s_topi (y := zI ((dp + 1 : Nat) : Int)) (by rw [hf1 115 (by simp), t_zI r3, z1, zI_add]; congr 1) ?_
        refine s_putI dX3_takeFactor_57 fp_X3_27 (by assumption) (by assumption) ?_
        refine s_iconst (v := 1) dX3_takeFactor_60 (by decide) ?_
        refine s_zret dX3_takeFactor_61 rfl (by first | exact Or.inl rfl | exact Or.inr rfl) ?_
        rw [zI_t (by omega) (by omega)] at hR1
        have hR2 := RowL.snoc hR1
        rw [c30, ← List.reverse_cons] at hR2
        exact hy _ _ (if_pos (by omega)) (fr_trans (fr_sub hf1 (fun b hb => by simp at hb ⊢; omega)) (fr_iu (by simp))) ⟨RowL.fr r1 ((iu_ne (by omega)).trans (hf1 116 (by simp))) ((iu_ne (by omega)).trans (hf1 117 (by simp))), RowL.fr hR2 (iu_ne (by omega)) (iu_ne (by omega)), by rw [iu_at]; exact zI_t (by omega) (by omega), by rw [iu_j (by omega), hf1 115 (by simp)]; exact r4⟩
  · have c3 : ¬ zI ch < zI 65 := c3
    rw [zI_lt (by omega) (by omega) (by omega) (by omega)] at c3
    refine s_iload_n (i := 1) dX3_takeFactor_6 rfl rfl ?_
    refine s_bipush (v := 71) dX3_takeFactor_7 (by decide) ?_
    refine s_icmp_ge (tgt := 27) dX3_takeFactor_9 (by decide) (fun c9 => ?_) (fun c9 => ?_)
    · have hno : ¬ (65 ≤ ch ∧ ch < 71) := by
        first
        | (have c3 : zI ch < zI 65 := c3
           rw [zI_lt (by omega) (by omega) (by omega) (by omega)] at c3
           omega)
        | (have c9 : zI 71 ≤ zI ch := c9
           rw [zI_le (by omega) (by omega) (by omega) (by omega)] at c9
           omega)
      rw [if_neg hno] at hn hy
      refine s_iload_n (i := 1) dX3_takeFactor_27 rfl rfl ?_
      refine s_bipush (v := 40) dX3_takeFactor_28 (by decide) ?_
      refine s_icmp_ne (tgt := 62) dX3_takeFactor_30 (by decide) (fun c30 => ?_) (fun c30 => ?_)
      · refine s_iconst (v := 0) dX3_takeFactor_62 (by decide) ?_
        refine s_zret dX3_takeFactor_63 rfl (by first | exact Or.inl rfl | exact Or.inr rfl) ?_
        refine hn (if_neg ?_)
        first
        | (have c30 : ¬ zI ch = zI 40 := c30
           rw [zI_eq (by omega) (by omega) (by omega) (by omega)] at c30
           omega)
        | (have c39 : zI 8 ≤ I 115 2 := c39
           rw [t_zI r3, zI_le (by omega) (by omega) (by omega) (by omega)] at c39
           omega)
      · have c30 : zI ch = zI 40 := c30
        rw [zI_eq (by omega) (by omega) (by omega) (by omega)] at c30
        refine s_aload_n (i := 0) dX3_takeFactor_33 rfl rfl ?_
        refine s_getI dX3_takeFactor_34 fl_X3_27 (by assumption) (by assumption) ?_
        refine s_bipush (v := 8) dX3_takeFactor_37 (by decide) ?_
        refine s_icmp_ge (tgt := 62) dX3_takeFactor_39 (by decide) (fun c39 => ?_) (fun c39 => ?_)
        · refine s_iconst (v := 0) dX3_takeFactor_62 (by decide) ?_
          refine s_zret dX3_takeFactor_63 rfl (by first | exact Or.inl rfl | exact Or.inr rfl) ?_
          refine hn (if_neg ?_)
          first
          | (have c30 : ¬ zI ch = zI 40 := c30
             rw [zI_eq (by omega) (by omega) (by omega) (by omega)] at c30
             omega)
          | (have c39 : zI 8 ≤ I 115 2 := c39
             rw [t_zI r3, zI_le (by omega) (by omega) (by omega) (by omega)] at c39
             omega)
        · have c39 : ¬ zI 8 ≤ I 115 2 := c39
          rw [t_zI r3, zI_le (by omega) (by omega) (by omega) (by omega)] at c39
          refine s_aload_n (i := 0) dX3_takeFactor_42 rfl rfl ?_
          refine s_getR dX3_takeFactor_43 fl_X3_20 (by assumption) (by assumption) (by assumption) ?_
          refine s_iload_n (i := 1) dX3_takeFactor_46 rfl rfl ?_
          refine s_cV_I (My := mX9_append) dX3_takeFactor_47 wM_X3_51 cb_yX9_append ci_yX9_append (by assumption) (by assumption) (Nat.le_of_ble_eq_true rfl) (by decide) (c_append r2 (by rw [List.length_reverse]; omega) (fun I1 hf1 hR1 => ?_))
          refine s_aload_n (i := 0) dX3_takeFactor_50 rfl rfl ?_
          refine s_dup dX3_takeFactor_51 rfl ?_
          refine s_getI dX3_takeFactor_52 fl_X3_27 (by assumption) (by assumption) ?_
          refine s_iconst (v := 1) dX3_takeFactor_55 (by decide) ?_
          refine s_iadd dX3_takeFactor_56 ?_
          refine s_topi (y := zI ((dp + 1 : Nat) : Int)) (by rw [hf1 115 (by simp), t_zI r3, z1, zI_add]; congr 1) ?_
          refine s_putI dX3_takeFactor_57 fp_X3_27 (by assumption) (by assumption) ?_
          refine s_iconst (v := 1) dX3_takeFactor_60 (by decide) ?_
          refine s_zret dX3_takeFactor_61 rfl (by first | exact Or.inl rfl | exact Or.inr rfl) ?_
          rw [zI_t (by omega) (by omega)] at hR1
          have hR2 := RowL.snoc hR1
          rw [c30, ← List.reverse_cons] at hR2
          exact hy _ _ (if_pos (by omega)) (fr_trans (fr_sub hf1 (fun b hb => by simp at hb ⊢; omega)) (fr_iu (by simp))) ⟨RowL.fr r1 ((iu_ne (by omega)).trans (hf1 116 (by simp))) ((iu_ne (by omega)).trans (hf1 117 (by simp))), RowL.fr hR2 (iu_ne (by omega)) (iu_ne (by omega)), by rw [iu_at]; exact zI_t (by omega) (by omega), by rw [iu_j (by omega), hf1 115 (by simp)]; exact r4⟩
    · have c9 : ¬ zI 71 ≤ zI ch := c9
      rw [zI_le (by omega) (by omega) (by omega) (by omega)] at c9
      refine s_aload_n (i := 0) dX3_takeFactor_12 rfl rfl ?_
      refine s_getR dX3_takeFactor_13 fl_X3_14 (by assumption) (by assumption) (by assumption) ?_
      refine s_iload_n (i := 1) dX3_takeFactor_16 rfl rfl ?_
      refine s_cV_I (My := mX9_append) dX3_takeFactor_17 wM_X3_51 cb_yX9_append ci_yX9_append (by assumption) (by assumption) (Nat.le_of_ble_eq_true rfl) (by decide) (c_append r1 (by omega) (fun I1 hf1 hR1 => ?_))
      refine s_aload_n (i := 0) dX3_takeFactor_20 rfl rfl ?_
      refine s_iconst (v := 0) dX3_takeFactor_21 (by decide) ?_
      refine s_putZ dX3_takeFactor_22 fp_X3_30 (by decide) (by assumption) (by assumption) ?_
      refine s_iconst (v := 1) dX3_takeFactor_25 (by decide) ?_
      refine s_zret dX3_takeFactor_26 rfl (by first | exact Or.inl rfl | exact Or.inr rfl) ?_
      rw [zI_t (by omega) (by omega)] at hR1
      have hR2 := RowL.snoc hR1
      exact hy _ _ (if_pos (by omega)) (fr_trans (fr_sub hf1 (fun b hb => by simp at hb ⊢; omega)) (fr_iu (by simp))) ⟨RowL.fr hR2 (iu_ne (by omega)) (iu_ne (by omega)), RowL.fr r2 ((iu_ne (by omega)).trans (hf1 118 (by simp))) ((iu_ne (by omega)).trans (hf1 119 (by simp))), by rw [iu_j (by omega), hf1 115 (by simp)]; exact r3, iu_at⟩
set_option maxRecDepth 100000 in
set_option maxHeartbeats 4000000 in
theorem c_takeSign {G : fG} {x0 : Nat} {l : Launch} {d k n : Nat} {T : fT} {I : fI} {J : fJ} {Q : Option Value → fT → fI → fJ → Prop} {out w : List Int} {dp i : Nat} {ch : Int} (hE : ExAt T) (hx : ExIs T I out w dp false) (hk : ExOk (out, w, dp, false) i) (hi : i < 100) (hc : 0 ≤ ch ∧ ch ≤ 127) (hc2 : ch ≠ 32) (hn : estep (out, w, dp, false) ch = none → Q (some (.int 0)) T I J) (hy : ∀ s' I', estep (out, w, dp, false) ch = some s' → fr I I' exS → ExIsS T I' s' → Q (some (.int 1)) T I' J) : PW G x0 l mX3_takeSign (d + 2) (ZM G x0 Q) k n 0 [(0, .ref (x0 + 115)), (1, .int (zI ch))] [] T I J := by
  obtain ⟨x1, x2, x3, x4, x5, x6, x7⟩ := id hE
  have e115 : (115 : Nat) < T.1 := by omega
  have e116 : (116 : Nat) < T.1 := by omega
  have e118 : (118 : Nat) < T.1 := by omega
  have e40 : (40 : Nat) < T.1 := by omega
  have k116 : T.2.1 116 = 9 := x5.2.2.1
  have k118 : T.2.1 118 = 9 := x6.2.2.1
  have k40 : T.2.1 40 = 9 := x7.2.2.1
  obtain ⟨r1, r2, r3, r4⟩ := id hx
  obtain ⟨o1, o2, o3, o4⟩ := id hk
  dsimp only at o1 o2 o3 o4
  have hsb := strg_bd ch
  have es : estep (out, w, dp, false) ch = if ch = 41 ∧ 0 < dp then some ((rel 1 w out).2, (rel 1 w out).1.tail, dp - 1, false) else if 0 < strg ch then some ((rel (strg ch) w out).2, ch :: (rel (strg ch) w out).1, dp, true) else none := by
    unfold estep
    rw [if_neg hc2]
    rfl
  rw [es] at hn hy
  refine s_iload_n (i := 1) dX3_takeSign_0 rfl rfl ?_
  refine s_bipush (v := 41) dX3_takeSign_1 (by decide) ?_
  refine s_icmp_ne (tgt := 43) dX3_takeSign_3 (by decide) (fun c3 => ?_) (fun c3 => ?_)
  · have hno : ¬ (ch = 41 ∧ 0 < dp) := by
      first
      | (have c3 : ¬ zI ch = zI 41 := c3
         rw [zI_eq (by omega) (by omega) (by omega) (by omega)] at c3
         omega)
      | (rw [t_zI r3, z0, zI_le (by omega) (by omega) (by omega) (by omega)] at c10
         omega)
    rw [if_neg hno] at hn hy
    have ets : (zI ch).toInt = ch := zI_t (by omega) (by omega)
    refine s_iload_n (i := 1) dX3_takeSign_43 rfl rfl ?_
    refine s_cS_I (My := mX3_strengthOf) dX3_takeSign_44 wM_X3_54 cb_yX3_strengthOf wT_yX3_strengthOf (Nat.le_of_ble_eq_true rfl) (by decide) (c_strength ?_)
    refine s_topi (y := zI (strg ch)) (by rw [ets]) ?_
    refine s_if_le (tgt := 73) dX3_takeSign_47 (by decide) (fun c47 => ?_) (fun c47 => ?_)
    · refine s_iconst (v := 0) dX3_takeSign_73 (by decide) ?_
      refine s_zret dX3_takeSign_74 rfl (by first | exact Or.inl rfl | exact Or.inr rfl) ?_
      rw [z0, zI_le (by omega) (by omega) (by omega) (by omega)] at c47
      exact hn (if_neg (by omega))
    · rw [z0, zI_le (by omega) (by omega) (by omega) (by omega)] at c47
      have hl := rel_len (strg ch) w out
      refine s_aload_n (i := 0) dX3_takeSign_50 rfl rfl ?_
      refine s_iload_n (i := 1) dX3_takeSign_51 rfl rfl ?_
      refine s_cS_I (My := mX3_strengthOf) dX3_takeSign_52 wM_X3_54 cb_yX3_strengthOf wT_yX3_strengthOf (Nat.le_of_ble_eq_true rfl) (by decide) (c_strength ?_)
      refine s_topi (y := zI (strg ch)) (by rw [ets]) ?_
      refine s_cV_I (My := mX3_releaseFrom) dX3_takeSign_55 wM_X3_42 cb_yX3_releaseFrom ci_yX3_releaseFrom (by assumption) (by assumption) (Nat.le_of_ble_eq_true rfl) (by decide) (l_rel hE hsb w out I (by omega) (fun t ht => ⟨(o2 t ht).1, (o2 t ht).2.1⟩) r1 r2 (fun I1 hf1 w1 w2 => ?_))
      refine s_aload_n (i := 0) dX3_takeSign_58 rfl rfl ?_
      refine s_getR dX3_takeSign_59 fl_X3_20 (by assumption) (by assumption) (by assumption) ?_
      refine s_iload_n (i := 1) dX3_takeSign_62 rfl rfl ?_
      refine s_cV_I (My := mX9_append) dX3_takeSign_63 wM_X3_51 cb_yX9_append ci_yX9_append (by assumption) (by assumption) (Nat.le_of_ble_eq_true rfl) (by decide) (c_append w2 (by rw [List.length_reverse]; omega) (fun I2 hf2 hR2 => ?_))
      refine s_aload_n (i := 0) dX3_takeSign_66 rfl rfl ?_
      refine s_iconst (v := 1) dX3_takeSign_67 (by decide) ?_
      refine s_putZ dX3_takeSign_68 fp_X3_30 (by decide) (by assumption) (by assumption) ?_
      refine s_iconst (v := 1) dX3_takeSign_71 (by decide) ?_
      refine s_zret dX3_takeSign_72 rfl (by first | exact Or.inl rfl | exact Or.inr rfl) ?_
      rw [zI_t (by omega) (by omega)] at hR2
      have hR3 := RowL.snoc hR2
      rw [← List.reverse_cons] at hR3
      exact hy _ _ (if_pos (by omega)) (fr_trans (fr_trans (fr_sub hf1 (fun b hb => by simp at hb ⊢; omega)) (fr_sub hf2 (fun b hb => by simp at hb ⊢; omega))) (fr_iu (by simp))) ⟨RowL.fr w1 ((iu_ne (by omega)).trans (hf2 116 (by simp))) ((iu_ne (by omega)).trans (hf2 117 (by simp))), RowL.fr hR3 (iu_ne (by omega)) (iu_ne (by omega)), by rw [iu_j (by omega), hf2 115 (by simp), hf1 115 (by simp)]; exact r3, iu_at⟩
  · have c3 : zI ch = zI 41 := c3
    rw [zI_eq (by omega) (by omega) (by omega) (by omega)] at c3
    refine s_aload_n (i := 0) dX3_takeSign_6 rfl rfl ?_
    refine s_getI dX3_takeSign_7 fl_X3_27 (by assumption) (by assumption) ?_
    refine s_if_le (tgt := 43) dX3_takeSign_10 (by decide) (fun c10 => ?_) (fun c10 => ?_)
    · have hno : ¬ (ch = 41 ∧ 0 < dp) := by
        first
        | (have c3 : ¬ zI ch = zI 41 := c3
           rw [zI_eq (by omega) (by omega) (by omega) (by omega)] at c3
           omega)
        | (rw [t_zI r3, z0, zI_le (by omega) (by omega) (by omega) (by omega)] at c10
           omega)
      rw [if_neg hno] at hn hy
      have ets : (zI ch).toInt = ch := zI_t (by omega) (by omega)
      refine s_iload_n (i := 1) dX3_takeSign_43 rfl rfl ?_
      refine s_cS_I (My := mX3_strengthOf) dX3_takeSign_44 wM_X3_54 cb_yX3_strengthOf wT_yX3_strengthOf (Nat.le_of_ble_eq_true rfl) (by decide) (c_strength ?_)
      refine s_topi (y := zI (strg ch)) (by rw [ets]) ?_
      refine s_if_le (tgt := 73) dX3_takeSign_47 (by decide) (fun c47 => ?_) (fun c47 => ?_)
      · refine s_iconst (v := 0) dX3_takeSign_73 (by decide) ?_
        refine s_zret dX3_takeSign_74 rfl (by first | exact Or.inl rfl | exact Or.inr rfl) ?_
        rw [z0, zI_le (by omega) (by omega) (by omega) (by omega)] at c47
        exact hn (if_neg (by omega))
      · rw [z0, zI_le (by omega) (by omega) (by omega) (by omega)] at c47
        have hl := rel_len (strg ch) w out
        refine s_aload_n (i := 0) dX3_takeSign_50 rfl rfl ?_
        refine s_iload_n (i := 1) dX3_takeSign_51 rfl rfl ?_
        refine s_cS_I (My := mX3_strengthOf) dX3_takeSign_52 wM_X3_54 cb_yX3_strengthOf wT_yX3_strengthOf (Nat.le_of_ble_eq_true rfl) (by decide) (c_strength ?_)
        refine s_topi (y := zI (strg ch)) (by rw [ets]) ?_
        refine s_cV_I (My := mX3_releaseFrom) dX3_takeSign_55 wM_X3_42 cb_yX3_releaseFrom ci_yX3_releaseFrom (by assumption) (by assumption) (Nat.le_of_ble_eq_true rfl) (by decide) (l_rel hE hsb w out I (by omega) (fun t ht => ⟨(o2 t ht).1, (o2 t ht).2.1⟩) r1 r2 (fun I1 hf1 w1 w2 => ?_))
        refine s_aload_n (i := 0) dX3_takeSign_58 rfl rfl ?_
        refine s_getR dX3_takeSign_59 fl_X3_20 (by assumption) (by assumption) (by assumption) ?_
        refine s_iload_n (i := 1) dX3_takeSign_62 rfl rfl ?_
        refine s_cV_I (My := mX9_append) dX3_takeSign_63 wM_X3_51 cb_yX9_append ci_yX9_append (by assumption) (by assumption) (Nat.le_of_ble_eq_true rfl) (by decide) (c_append w2 (by rw [List.length_reverse]; omega) (fun I2 hf2 hR2 => ?_))
        refine s_aload_n (i := 0) dX3_takeSign_66 rfl rfl ?_
        refine s_iconst (v := 1) dX3_takeSign_67 (by decide) ?_
        refine s_putZ dX3_takeSign_68 fp_X3_30 (by decide) (by assumption) (by assumption) ?_
        refine s_iconst (v := 1) dX3_takeSign_71 (by decide) ?_
        refine s_zret dX3_takeSign_72 rfl (by first | exact Or.inl rfl | exact Or.inr rfl) ?_
        rw [zI_t (by omega) (by omega)] at hR2
        have hR3 := RowL.snoc hR2
        rw [← List.reverse_cons] at hR3
        exact hy _ _ (if_pos (by omega)) (fr_trans (fr_trans (fr_sub hf1 (fun b hb => by simp at hb ⊢; omega)) (fr_sub hf2 (fun b hb => by simp at hb ⊢; omega))) (fr_iu (by simp))) ⟨RowL.fr w1 ((iu_ne (by omega)).trans (hf2 116 (by simp))) ((iu_ne (by omega)).trans (hf2 117 (by simp))), RowL.fr hR3 (iu_ne (by omega)) (iu_ne (by omega)), by rw [iu_j (by omega), hf2 115 (by simp), hf1 115 (by simp)]; exact r3, iu_at⟩
    · rw [t_zI r3, z0, zI_le (by omega) (by omega) (by omega) (by omega)] at c10
      obtain ⟨r, hr, hr2⟩ := rel_par w out (fun t ht => (o2 t ht).2.2) (by omega)
      have hl := rel_len 1 w out
      rw [if_pos ⟨c3, by omega⟩, hr] at hy
      rw [hr, List.length_cons] at hl
      refine s_aload_n (i := 0) dX3_takeSign_13 rfl rfl ?_
      refine s_iconst (v := 1) dX3_takeSign_14 (by decide) ?_
      refine s_cV_I (My := mX3_releaseFrom) dX3_takeSign_15 wM_X3_42 cb_yX3_releaseFrom ci_yX3_releaseFrom (by assumption) (by assumption) (Nat.le_of_ble_eq_true rfl) (by decide) (l_rel (st := 1) hE (by omega) w out I (by omega) (fun t ht => ⟨(o2 t ht).1, (o2 t ht).2.1⟩) r1 r2 (fun I1 hf1 w1 w2 => ?_))
      rw [hr] at w2
      have hs2 : I1 118 1 = zI ((r.length + 1 : Nat) : Int) := by have := RowIs.sz w2; rw [List.length_reverse, List.length_cons] at this; exact this
      refine s_aload_n (i := 0) dX3_takeSign_18 rfl rfl ?_
      refine s_getR dX3_takeSign_19 fl_X3_20 (by assumption) (by assumption) (by assumption) ?_
      refine s_dup dX3_takeSign_22 rfl ?_
      refine s_getI dX3_takeSign_23 fl_X3_23 (by assumption) (by assumption) ?_
      refine s_iconst (v := 1) dX3_takeSign_26 (by decide) ?_
      refine s_isub dX3_takeSign_27 ?_
      refine s_topi (y := zI r.length) (by rw [hs2, z1, zI_sub]; congr 1; omega) ?_
      refine s_putI dX3_takeSign_28 fp_X3_23 (by assumption) (by assumption) ?_
      refine s_aload_n (i := 0) dX3_takeSign_31 rfl rfl ?_
      refine s_dup dX3_takeSign_32 rfl ?_
      refine s_getI dX3_takeSign_33 fl_X3_27 (by assumption) (by assumption) ?_
      refine s_iconst (v := 1) dX3_takeSign_36 (by decide) ?_
      refine s_isub dX3_takeSign_37 ?_
      refine s_topi (y := zI ((dp - 1 : Nat) : Int)) (by rw [iu_b (by omega), hf1 115 (by simp), t_zI r3, z1, zI_sub]; congr 1; omega) ?_
      refine s_putI dX3_takeSign_38 fp_X3_27 (by assumption) (by assumption) ?_
      refine s_iconst (v := 1) dX3_takeSign_41 (by decide) ?_
      refine s_zret dX3_takeSign_42 rfl (by first | exact Or.inl rfl | exact Or.inr rfl) ?_
      have hW : RowL T (iu (iu I1 118 1 (zI r.length)) 115 2 (zI ((dp - 1 : Nat) : Int))) 118 100 r.reverse := RowL.take w2 r.length (by simp) ((iu_ne (by omega)).trans (iu_ne (by omega))) (by rw [iu_b (by omega), iu_at]; exact zI_t (by omega) (by omega)) (by simp) (by simp)
      exact hy _ _ rfl (fr_trans (fr_trans (fr_sub hf1 (fun b hb => by simp at hb ⊢; omega)) (fr_iu (by simp))) (fr_iu (by simp))) ⟨RowL.fr w1 ((iu_ne (by omega)).trans (iu_ne (by omega))) ((iu_ne (by omega)).trans (iu_ne (by omega))), hW, by rw [iu_at]; exact zI_t (by omega) (by omega), by rw [iu_j (by omega), iu_b (by omega), hf1 115 (by simp)]; exact r4⟩
set_option maxRecDepth 100000 in
set_option maxHeartbeats 4000000 in
theorem c_take {G : fG} {x0 : Nat} {l : Launch} {d k n : Nat} {T : fT} {I : fI} {J : fJ} {Q : Option Value → fT → fI → fJ → Prop} {s : eS} {i : Nat} {ch : Int} (hE : ExAt T) (hx : ExIsS T I s) (hk : ExOk s i) (hi : i < 100) (hc : 0 ≤ ch ∧ ch ≤ 127) (hn : estep s ch = none → Q (some (.int 0)) T I J) (hy : ∀ s' I', estep s ch = some s' → fr I I' exS → ExIsS T I' s' → Q (some (.int 1)) T I' J) : PW G x0 l mX3_take (d + 3) (ZM G x0 Q) k n 0 [(0, .ref (x0 + 115)), (1, .int (zI ch))] [] T I J := by
  obtain ⟨x1, x2, x3, x4, x5, x6, x7⟩ := id hE
  have e115 : (115 : Nat) < T.1 := by omega
  have e116 : (116 : Nat) < T.1 := by omega
  have e118 : (118 : Nat) < T.1 := by omega
  have e40 : (40 : Nat) < T.1 := by omega
  have k116 : T.2.1 116 = 9 := x5.2.2.1
  have k118 : T.2.1 118 = 9 := x6.2.2.1
  have k40 : T.2.1 40 = 9 := x7.2.2.1
  obtain ⟨out, w, dp, due⟩ := s
  obtain ⟨r1, r2, r3, r4⟩ := id hx
  dsimp only at r1 r2 r3 r4
  refine s_iload_n (i := 1) dX3_take_0 rfl rfl ?_
  refine s_bipush (v := 32) dX3_take_1 (by decide) ?_
  refine s_icmp_ne (tgt := 8) dX3_take_3 (by decide) (fun c3 => ?_) (fun c3 => ?_)
  · have c3 : ¬ zI ch = zI 32 := c3
    rw [zI_eq (by omega) (by omega) (by omega) (by omega)] at c3
    refine s_aload_n (i := 0) dX3_take_8 rfl rfl ?_
    refine s_getI dX3_take_9 fl_X3_30 (by assumption) (by assumption) ?_
    cases due with
    | true =>
      refine s_if_eq (tgt := 23) dX3_take_12 (by decide) (fun c12 => absurd c12 (by simp [r4])) (fun c12 => ?_)
      refine s_aload_n (i := 0) dX3_take_15 rfl rfl ?_
      refine s_iload_n (i := 1) dX3_take_16 rfl rfl ?_
      refine s_cV_I (My := mX3_takeFactor) dX3_take_17 wM_X3_45 cb_yX3_takeFactor ci_yX3_takeFactor (by assumption) (by assumption) (Nat.le_of_ble_eq_true rfl) (by decide) (s_d (by omega) (c_takeFactor (d := 0) hE hx hk hi hc c3 (fun h => ?_) (fun s' I' h hf h2 => ?_)))
      · refine s_goto (tgt := 28) dX3_take_20 (by decide) ?_
        refine s_zret dX3_take_28 rfl (Or.inl rfl) ?_
        exact hn h
      · refine s_goto (tgt := 28) dX3_take_20 (by decide) ?_
        refine s_zret dX3_take_28 rfl (Or.inr rfl) ?_
        exact hy s' I' h hf h2
    | false =>
      refine s_if_eq (tgt := 23) dX3_take_12 (by decide) (fun c12 => ?_) (fun c12 => absurd (by simp [r4]) c12)
      refine s_aload_n (i := 0) dX3_take_23 rfl rfl ?_
      refine s_iload_n (i := 1) dX3_take_24 rfl rfl ?_
      refine s_cV_I (My := mX3_takeSign) dX3_take_25 wM_X3_48 cb_yX3_takeSign ci_yX3_takeSign (by assumption) (by assumption) (Nat.le_of_ble_eq_true rfl) (by decide) (s_d (by omega) (c_takeSign (d := 0) hE hx hk hi hc c3 (fun h => ?_) (fun s' I' h hf h2 => ?_)))
      · refine s_zret dX3_take_28 rfl (Or.inl rfl) ?_
        exact hn h
      · refine s_zret dX3_take_28 rfl (Or.inr rfl) ?_
        exact hy s' I' h hf h2

  · refine s_iconst (v := 1) dX3_take_6 (by decide) ?_
    refine s_zret dX3_take_7 rfl (by first | exact Or.inl rfl | exact Or.inr rfl) ?_
    have c3 : zI ch = zI 32 := c3
    rw [zI_eq (by omega) (by omega) (by omega) (by omega)] at c3
    exact hy _ I (by unfold estep; rw [if_pos c3]) (fr_refl I _) hx
