/-! the model reads numbers -/
theorem zl44 : (44 : Int32) = zI 44 := rfl
theorem zl45 : (45 : Int32) = zI 45 := rfl
theorem zm2000 : (-2000 : Int32) = zI (-2000) := by decide
theorem TextM.fr {I I' : fI} {t : (Nat → Int) × Nat} (h : TextM I t) (h1 : I' 144 18 = I 144 18) (h2 : I' 155 = I 155) : TextM I' t := ⟨by rw [h1]; exact h.1, by rw [h2]; exact h.2⟩
theorem sk_stay {tx : Nat → Int} {tl p : Nat} (h : chz tx tl p ≠ 32) : sk tx tl p = p := by
  unfold sk
  cases tl with
  | zero => rfl
  | succ z => simp only [skp]; rw [if_neg h]
theorem rdn_dig {tx : Nat → Int} {tl p : Nat} {v : Int} {z : Nat} : (rdn tx tl z p v).1 ≤ p + z := by
  induction z generalizing p v with
  | zero => simp [rdn]
  | succ z ih =>
    simp only [rdn]
    split
    · have := ih (p := p + 1) (v := 10 * v + chz tx tl p - 48); omega
    · dsimp only; omega
theorem rdn_all {tx : Nat → Int} {tl p : Nat} {v : Int} {z : Nat} : (rdn tx tl z p v).1 < p + z → ¬ (48 ≤ chz tx tl (rdn tx tl z p v).1 ∧ chz tx tl (rdn tx tl z p v).1 ≤ 57) := by
  induction z generalizing p v with
  | zero => intro h; simp [rdn] at h
  | succ z ih =>
    simp only [rdn]
    split
    · intro h; exact ih (by omega)
    · next hc => intro _; exact hc
set_option maxRecDepth 100000 in
set_option maxHeartbeats 1000000 in
theorem m_next {G : fG} {x0 : Nat} {l : Launch} {d k n : Nat} {T : fT} {I : fI} {J : fJ} {Q : Option Value → fT → fI → fJ → Prop} {tx : Nat → Int} {tl : Nat} (hM : MObj T) (hT : TxOk tx tl) (htl : tl ≤ 100) {p : Nat} (hX : TextM I (tx, tl)) (h19 : I 144 19 = zI p) (hp : p ≤ 1000) (hq : Q (some (.int (zI (chz tx tl p)))) T I J) : PW G x0 l mX12_next d (ZM G x0 Q) k n 0 [(0, .ref (x0 + 144))] [] T I J := by
  obtain ⟨o1, o2⟩ := hM.o
  obtain ⟨r155, b155, k155, n155⟩ := hM.a155
  obtain ⟨h18, h155⟩ := hX
  by_cases hc : p < tl
  · refine s_aload_n (i := 0) dX12_next_0 rfl rfl ?_
    refine s_getI dX12_next_1 fl_X12_173 (by assumption) (by assumption) ?_
    rw [h19]
    refine s_aload_n (i := 0) dX12_next_4 rfl rfl ?_
    refine s_getI dX12_next_5 fl_X12_170 (by assumption) (by assumption) ?_
    rw [h18]
    refine s_icmp_ge (tgt := 23) dX12_next_8 (by decide) (fun h8 => absurd h8 (fun h => by rw [zI_le (by omega) (by omega) (by omega) (by omega)] at h; omega)) (fun h8 => ?_)
    refine s_aload_n (i := 0) dX12_next_11 rfl rfl ?_
    refine s_getR dX12_next_12 fl_X12_47 (by assumption) (by assumption) (by assumption) ?_
    refine s_aload_n (i := 0) dX12_next_15 rfl rfl ?_
    refine s_getI dX12_next_16 fl_X12_173 (by assumption) (by assumption) ?_
    rw [h19]
    refine s_ildn (j := p) dX12_next_19 (by assumption) (by assumption) (by assumption) (by first | with_reducible rfl | ((try simp only [z0, z1, zm1, zm2, zm3, zm4, zl2, zl3, zl4, zl5, zl6, zl7, zl8, zl9, zl10, zl20, zl28, zl31, zl32, zl33, zl48, zl57, zl64, zl100, zl127, zl200, zl201, zl202, zl402, zl1200, zl2412, zl16884, zI_add, zI_sub, zI_mul, zI_inc, zI_dec]) <;> (congr 1 <;> omega))) (by omega) (by decide) ?_
    rw [h155 p hc]
    refine s_goto (tgt := 24) dX12_next_20 (by decide) ?_
    refine s_iret dX12_next_24 rfl ?_
    unfold chz at hq
    rw [if_pos hc] at hq
    exact hq
  · refine s_aload_n (i := 0) dX12_next_0 rfl rfl ?_
    refine s_getI dX12_next_1 fl_X12_173 (by assumption) (by assumption) ?_
    rw [h19]
    refine s_aload_n (i := 0) dX12_next_4 rfl rfl ?_
    refine s_getI dX12_next_5 fl_X12_170 (by assumption) (by assumption) ?_
    rw [h18]
    refine s_icmp_ge (tgt := 23) dX12_next_8 (by decide) (fun h8 => ?_) (fun h8 => absurd ((zI_le (by omega) (by omega) (by omega) (by omega)).mpr (by show (tl : Int) ≤ p; omega)) h8)
    refine s_iconst (v := -1) dX12_next_23 (by decide) ?_
    refine s_iret dX12_next_24 rfl ?_
    rw [chz_out (by omega), ← zm1] at hq
    exact hq
set_option maxRecDepth 100000 in
set_option maxHeartbeats 1000000 in
theorem ml_skips {G : fG} {x0 : Nat} {l : Launch} {d k n : Nat} {T : fT} {J : fJ} {Q : Option Value → fT → fI → fJ → Prop} {tx : Nat → Int} {tl : Nat} (hM : MObj T) (hT : TxOk tx tl) (htl : tl ≤ 100) : ∀ (z p : Nat) (I : fI), tl - p ≤ z → p ≤ 200 → TextM I (tx, tl) → I 144 19 = zI p → (∀ I', fr I I' [144] → (∀ j, j ≠ 19 → I' 144 j = I 144 j) → I' 144 19 = zI (skp tx tl z p) → Q none T I' J) → PW G x0 l mX12_skips (d + 1) (ZM G x0 Q) k n 0 [(0, .ref (x0 + 144))] [] T I J := by
  obtain ⟨o1, o2⟩ := hM.o
  intro z
  induction z with
  | zero =>
    intro p I hz hp hX h19 hq
    have hc : chz tx tl p = -1 := chz_out (by omega)
    refine s_aload_n (i := 0) dX12_skips_0 rfl rfl ?_
    refine s_cV_ (My := mX12_next) dX12_skips_1 wM_X12_176 cb_yX12_next ci_yX12_next (by assumption) (by assumption) (Nat.le_of_ble_eq_true rfl) (by decide) (s_d (by omega) (m_next (d := 0) hM hT htl hX h19 (by omega) ?_))
    rw [hc]
    refine s_bipush (v := 32) dX12_skips_4 (by decide) ?_
    refine s_icmp_ne (tgt := 22) dX12_skips_6 (by decide) (fun h6 => ?_) (fun h6 => absurd h6 (by decide))
    refine s_ret dX12_skips_22 rfl ?_
    exact hq I (fr_refl I _) (fun _ _ => rfl) h19
  | succ z ih =>
    intro p I hz hp hX h19 hq
    have hcb := chz_bd (p := p) hT
    simp only [skp] at hq
    by_cases hc : chz tx tl p = 32
    · rw [if_pos hc] at hq
      have hpl : p < tl := by
        rcases Nat.lt_or_ge p tl with h | h
        · exact h
        · rw [chz_out h] at hc; omega
      refine s_aload_n (i := 0) dX12_skips_0 rfl rfl ?_
      refine s_cV_ (My := mX12_next) dX12_skips_1 wM_X12_176 cb_yX12_next ci_yX12_next (by assumption) (by assumption) (Nat.le_of_ble_eq_true rfl) (by decide) (s_d (by omega) (m_next (d := 0) hM hT htl hX h19 (by omega) ?_))
      rw [hc]
      refine s_bipush (v := 32) dX12_skips_4 (by decide) ?_
      refine s_icmp_ne (tgt := 22) dX12_skips_6 (by decide) (fun h6 => absurd h6 (fun h => h rfl)) (fun h6 => ?_)
      refine s_aload_n (i := 0) dX12_skips_9 rfl rfl ?_
      refine s_dup dX12_skips_10 rfl ?_
      refine s_getI dX12_skips_11 fl_X12_173 (by assumption) (by assumption) ?_
      rw [h19]
      refine s_iconst (v := 1) dX12_skips_14 (by decide) ?_
      refine s_iadd dX12_skips_15 ?_
      refine s_topi (y := zI ((p + 1 : Nat) : Int)) (by first | with_reducible rfl | ((try simp only [z0, z1, zm1, zm2, zm3, zm4, zl2, zl3, zl4, zl5, zl6, zl7, zl8, zl9, zl10, zl20, zl28, zl31, zl32, zl33, zl48, zl57, zl64, zl100, zl127, zl200, zl201, zl202, zl402, zl1200, zl2412, zl16884, zI_add, zI_sub, zI_mul, zI_inc, zI_dec]) <;> (congr 1 <;> omega))) ?_
      refine s_putI dX12_skips_16 fp_X12_173 (by assumption) (by assumption) ?_
      refine s_goto (tgt := 0) dX12_skips_19 (by decide) ?_
      refine ih (p + 1) _ (by omega) (by omega) (hX.fr (iu_j (by omega)) (iu_ne (by omega))) iu_at (fun I' hf hj h => hq I' (fr_trans (fr_iu (by simp)) hf) (fun j h2 => by rw [hj j h2, iu_j h2]) h)
    · rw [if_neg hc] at hq
      refine s_aload_n (i := 0) dX12_skips_0 rfl rfl ?_
      refine s_cV_ (My := mX12_next) dX12_skips_1 wM_X12_176 cb_yX12_next ci_yX12_next (by assumption) (by assumption) (Nat.le_of_ble_eq_true rfl) (by decide) (s_d (by omega) (m_next (d := 0) hM hT htl hX h19 (by omega) ?_))
      refine s_bipush (v := 32) dX12_skips_4 (by decide) ?_
      refine s_icmp_ne (tgt := 22) dX12_skips_6 (by decide) (fun h6 => ?_) (fun h6 => absurd h6 (fun h => by rw [zl32, zI_eq (by omega) (by omega) (by omega) (by omega)] at h; omega))
      refine s_ret dX12_skips_22 rfl ?_
      exact hq I (fr_refl I _) (fun _ _ => rfl) h19
set_option maxRecDepth 100000 in
set_option maxHeartbeats 1000000 in
theorem m_skips {G : fG} {x0 : Nat} {l : Launch} {d k n : Nat} {T : fT} {I : fI} {J : fJ} {Q : Option Value → fT → fI → fJ → Prop} {tx : Nat → Int} {tl : Nat} (hM : MObj T) (hT : TxOk tx tl) (htl : tl ≤ 100) {p : Nat} (hX : TextM I (tx, tl)) (h19 : I 144 19 = zI p) (hp : p ≤ 200) (hq : ∀ I', fr I I' [144] → (∀ j, j ≠ 19 → I' 144 j = I 144 j) → I' 144 19 = zI (sk tx tl p) → Q none T I' J) : PW G x0 l mX12_skips (d + 1) (ZM G x0 Q) k n 0 [(0, .ref (x0 + 144))] [] T I J := ml_skips hM hT htl tl p I (by omega) hp hX h19 hq
set_option maxRecDepth 100000 in
set_option maxHeartbeats 1000000 in
theorem m_fails {G : fG} {x0 : Nat} {l : Launch} {d k n : Nat} {T : fT} {I : fI} {J : fJ} {Q : Option Value → fT → fI → fJ → Prop} {f x : Int} (hM : MObj T) (h20 : I 144 20 = zI f) (hf : -1 ≤ f ∧ f ≤ 1000) (hq : ∀ I', fr I I' [144] → (∀ j, j ≠ 20 → I' 144 j = I 144 j) → I' 144 20 = zI (if f = -1 then x else f) → Q none T I' J) : PW G x0 l mX12_fails d (ZM G x0 Q) k n 0 [(0, .ref (x0 + 144)), (1, .int (zI x))] [] T I J := by
  obtain ⟨o1, o2⟩ := hM.o
  by_cases hc : f = -1
  · rw [if_pos hc] at hq
    refine s_aload_n (i := 0) dX12_fails_0 rfl rfl ?_
    refine s_aload_n (i := 0) dX12_fails_1 rfl rfl ?_
    refine s_getI dX12_fails_2 fl_X12_180 (by assumption) (by assumption) ?_
    rw [h20, hc]
    refine s_iconst (v := -1) dX12_fails_5 (by decide) ?_
    refine s_icmp_ne (tgt := 13) dX12_fails_6 (by decide) (fun h6 => absurd h6 (fun h => h zm1.symm)) (fun h6 => ?_)
    refine s_iload_n (i := 1) dX12_fails_9 rfl rfl ?_
    refine s_goto (tgt := 17) dX12_fails_10 (by decide) ?_
    refine s_putI dX12_fails_17 fp_X12_180 (by assumption) (by assumption) ?_
    refine s_ret dX12_fails_20 rfl ?_
    exact hq _ (fr_iu (by simp)) (fun j h => iu_j h) iu_at
  · rw [if_neg hc] at hq
    refine s_aload_n (i := 0) dX12_fails_0 rfl rfl ?_
    refine s_aload_n (i := 0) dX12_fails_1 rfl rfl ?_
    refine s_getI dX12_fails_2 fl_X12_180 (by assumption) (by assumption) ?_
    rw [h20]
    refine s_iconst (v := -1) dX12_fails_5 (by decide) ?_
    refine s_icmp_ne (tgt := 13) dX12_fails_6 (by decide) (fun h6 => ?_) (fun h6 => absurd h6 (fun h => by rw [zm1, zI_eq (by omega) (by omega) (by omega) (by omega)] at h; omega))
    refine s_aload_n (i := 0) dX12_fails_13 rfl rfl ?_
    refine s_getI dX12_fails_14 fl_X12_180 (by assumption) (by assumption) ?_
    rw [h20]
    refine s_putI dX12_fails_17 fp_X12_180 (by assumption) (by assumption) ?_
    refine s_ret dX12_fails_20 rfl ?_
    exact hq _ (fr_iu (by simp)) (fun j h => iu_j h) iu_at
def NS (I : fI) (p : Nat) (f : Int) (c : Nat) (bh : Int32) : Prop := I 144 19 = zI p ∧ I 144 20 = zI f ∧ I 144 22 = zI c ∧ I 144 23 = bh
def frN0 (I I' : fI) : Prop := fr I I' [144] ∧ ∀ j, j ≠ 19 → j ≠ 20 → j ≠ 22 → j ≠ 23 → I' 144 j = I 144 j
theorem frN0.refl (I : fI) : frN0 I I := ⟨fr_refl I _, fun _ _ _ _ _ => rfl⟩
theorem frN0.trans {I I1 I2 : fI} (h : frN0 I I1) (h2 : frN0 I1 I2) : frN0 I I2 := ⟨fr_trans h.1 h2.1, fun j a b c d => (h2.2 j a b c d).trans (h.2 j a b c d)⟩
theorem frN0.put {I : fI} {j : Nat} {v : Int32} (h : j = 19 ∨ j = 20 ∨ j = 22 ∨ j = 23) : frN0 I (iu I 144 j v) := ⟨fr_iu (by simp), fun q a b c d => iu_j (by omega)⟩
theorem frN0.of19 {I I' : fI} (h : fr I I' [144]) (hj : ∀ j, j ≠ 19 → I' 144 j = I 144 j) : frN0 I I' := ⟨h, fun j a _ _ _ => hj j a⟩
theorem frN0.of20 {I I' : fI} (h : fr I I' [144]) (hj : ∀ j, j ≠ 20 → I' 144 j = I 144 j) : frN0 I I' := ⟨h, fun j _ a _ _ => hj j a⟩
theorem frN0.tx {I I' : fI} {t : (Nat → Int) × Nat} (h : frN0 I I') (hX : TextM I t) : TextM I' t := hX.fr (h.2 18 (by omega) (by omega) (by omega) (by omega)) (h.1 155 (by decide))
abbrev isD (x : Int) : Prop := 48 ≤ x ∧ x ≤ 57
def numF (tx : Nat → Int) (tl p : Nat) (least : Int) : Int := if (rdn tx tl 6 p 0).1 = p ∨ (rdn tx tl 6 p 0).2 < least then (p : Int) else if isD (chz tx tl (rdn tx tl 6 p 0).1) then ((rdn tx tl 6 p 0).1 : Int) else -1
set_option maxRecDepth 100000 in
set_option maxHeartbeats 1000000 in
theorem ml_rn76 {G : fG} {x0 : Nat} {l : Launch} {d k n : Nat} {T : fT} {I : fI} {J : fJ} {Q : Option Value → fT → fI → fJ → Prop} {tx : Nat → Int} {tl : Nat} (hM : MObj T) (hT : TxOk tx tl) (htl : tl ≤ 100) {p c : Nat} {f v : Int} {x1 x2 bh : Int32} (hX : TextM I (tx, tl)) (hp : p ≤ tl) (hf : -1 ≤ f ∧ f ≤ 1000) (hN : NS I p f c bh) (hq : ∀ I', frN0 I I' → NS I' (sk tx tl p) (if f = -1 then (if isD (chz tx tl p) then (p : Int) else -1) else f) c (zI p) → Q (some (.int (zI v))) T I' J) : PW G x0 l mX12_readsNumber (d + 2) (ZM G x0 Q) k n 76 [(0, .ref (x0 + 144)), (1, .int x1), (2, .int x2), (3, .int (zI v))] [] T I J := by
  obtain ⟨o1, o2⟩ := hM.o
  have t48 : ((48 : Int32)).toInt = 48 := by decide
  have t57 : ((57 : Int32)).toInt = 57 := by decide
  obtain ⟨h19, h20, h22, h23⟩ := hN
  have hcb := chz_bd (p := p) hT
  have hct : (zI (chz tx tl p)).toInt = chz tx tl p := zI_t (by omega) (by omega)
  have fin : ∀ (I1 : fI) (f1 : Int), frN0 I I1 → I1 144 19 = zI p → I1 144 20 = zI f1 → I1 144 22 = zI c → f1 = (if f = -1 then (if isD (chz tx tl p) then (p : Int) else -1) else f) → PW G x0 l mX12_readsNumber (d + 2) (ZM G x0 Q) k n 98 [(0, .ref (x0 + 144)), (1, .int x1), (2, .int x2), (3, .int (zI v))] [] T I1 J := by
    intro I1 f1 hf1 g19 g20 g22 hf1e
    refine s_aload_n (i := 0) dX12_readsNumber_98 rfl rfl ?_
    refine s_aload_n (i := 0) dX12_readsNumber_99 rfl rfl ?_
    refine s_getI dX12_readsNumber_100 fl_X12_173 (by assumption) (by assumption) ?_
    rw [g19]
    refine s_putI dX12_readsNumber_103 fp_X12_186 (by assumption) (by assumption) ?_
    refine s_aload_n (i := 0) dX12_readsNumber_106 rfl rfl ?_
    refine s_cV_ (My := mX12_skips) dX12_readsNumber_107 wM_X12_189 cb_yX12_skips ci_yX12_skips (by assumption) (by assumption) (Nat.le_of_ble_eq_true rfl) (by decide) (s_d (by omega) (m_skips (d := 0) (p := p) hM hT htl ((hf1.trans (frN0.put (j := 23) (by omega))).tx hX) (by rw [iu_j (by omega)]; exact g19) (by omega) (fun I2 hf2 hj2 h2 => ?_)))
    refine s_iload_n (i := 3) dX12_readsNumber_110 rfl rfl ?_
    refine s_iret dX12_readsNumber_111 rfl ?_
    exact hq I2 (hf1.trans ((frN0.put (j := 23) (by omega)).trans (frN0.of19 hf2 hj2))) ⟨h2, by rw [hj2 20 (by omega), iu_j (by omega), g20, hf1e], by rw [hj2 22 (by omega), iu_j (by omega), g22], by rw [hj2 23 (by omega), iu_at]⟩
  refine s_aload_n (i := 0) dX12_readsNumber_76 rfl rfl ?_
  refine s_cV_ (My := mX12_next) dX12_readsNumber_77 wM_X12_176 cb_yX12_next ci_yX12_next (by assumption) (by assumption) (Nat.le_of_ble_eq_true rfl) (by decide) (s_d (by omega) (m_next (d := 0) hM hT htl hX h19 (by omega) ?_))
  refine s_bipush (v := 48) dX12_readsNumber_80 (by decide) ?_
  refine s_bipush (v := 57) dX12_readsNumber_82 (by decide) ?_
  refine s_cS_III (My := mX12_in) dX12_readsNumber_84 wM_X12_68 cb_yX12_in wT_yX12_in (Nat.le_of_ble_eq_true rfl) (by decide) (s_d (by omega) (m_in (d := 0) ?_ ?_))
  · intro hc
    rw [hct, t48, t57] at hc
    rw [if_pos (show isD (chz tx tl p) from hc)] at fin
    refine s_if_eq (tgt := 98) dX12_readsNumber_87 (by decide) (fun h87 => absurd h87 (by decide)) (fun h87 => ?_)
    refine s_aload_n (i := 0) dX12_readsNumber_90 rfl rfl ?_
    refine s_aload_n (i := 0) dX12_readsNumber_91 rfl rfl ?_
    refine s_getI dX12_readsNumber_92 fl_X12_173 (by assumption) (by assumption) ?_
    rw [h19]
    refine s_cV_I (My := mX12_fails) dX12_readsNumber_95 wM_X12_183 cb_yX12_fails ci_yX12_fails (by assumption) (by assumption) (Nat.le_of_ble_eq_true rfl) (by decide) (s_d (by omega) (m_fails (d := 0) hM h20 hf (fun I1 hf1 hj1 h1 => ?_)))
    exact fin I1 _ (frN0.of20 hf1 hj1) (by rw [hj1 19 (by omega)]; exact h19) h1 (by rw [hj1 22 (by omega)]; exact h22) rfl
  · intro hc
    rw [hct, t48, t57] at hc
    rw [if_neg (show ¬ isD (chz tx tl p) from hc)] at fin
    refine s_if_eq (tgt := 98) dX12_readsNumber_87 (by decide) (fun h87 => ?_) (fun h87 => absurd (rfl) h87)
    exact fin I f (frN0.refl I) h19 h20 h22 (by split <;> omega)
set_option maxRecDepth 100000 in
set_option maxHeartbeats 1000000 in
theorem ml_rnum {G : fG} {x0 : Nat} {l : Launch} {d k n : Nat} {T : fT} {J : fJ} {Q : Option Value → fT → fI → fJ → Prop} {tx : Nat → Int} {tl : Nat} (hM : MObj T) (hT : TxOk tx tl) (htl : tl ≤ 100) {p : Nat} {x1 : Int32} (hp : p ≤ tl) : ∀ (z i : Nat) (v : Int) (I : fI), i + z = 6 → TextM I (tx, tl) → I 144 19 = zI ((p + i : Nat) : Int) → (∀ I', fr I I' [144] → (∀ j, j ≠ 19 → I' 144 j = I 144 j) → I' 144 19 = zI (rdn tx tl z (p + i) v).1 → PW G x0 l mX12_readsNumber (d + 2) (ZM G x0 Q) k n 58 [(0, .ref (x0 + 144)), (1, .int x1), (2, .int (zI p)), (3, .int (zI (rdn tx tl z (p + i) v).2))] [] T I' J) → p + i ≤ tl → PW G x0 l mX12_readsNumber (d + 2) (ZM G x0 Q) k n 7 [(0, .ref (x0 + 144)), (1, .int x1), (2, .int (zI p)), (3, .int (zI v))] [] T I J := by
  obtain ⟨o1, o2⟩ := hM.o
  have t48 : ((48 : Int32)).toInt = 48 := by decide
  have t57 : ((57 : Int32)).toInt = 57 := by decide
  intro z
  induction z with
  | zero =>
    intro i v I hz hX h19 kk hpi
    have hi : i = 6 := by omega
    subst hi
    refine s_aload_n (i := 0) dX12_readsNumber_7 rfl rfl ?_
    refine s_getI dX12_readsNumber_8 fl_X12_173 (by assumption) (by assumption) ?_
    rw [h19]
    refine s_iload_n (i := 2) dX12_readsNumber_11 rfl rfl ?_
    refine s_bipush (v := 6) dX12_readsNumber_12 (by decide) ?_
    refine s_iadd dX12_readsNumber_14 ?_
    refine s_topi (y := zI ((p + 6 : Nat) : Int)) (by first | with_reducible rfl | ((try simp only [z0, z1, zm1, zm2, zm3, zm4, zl2, zl3, zl4, zl5, zl6, zl7, zl8, zl9, zl10, zl20, zl28, zl31, zl32, zl33, zl48, zl57, zl64, zl100, zl127, zl200, zl201, zl202, zl402, zl1200, zl2412, zl16884, zI_add, zI_sub, zI_mul, zI_inc, zI_dec]) <;> (congr 1 <;> omega))) ?_
    refine s_icmp_ge (tgt := 58) dX12_readsNumber_15 (by decide) (fun h15 => ?_) (fun h15 => absurd ((zI_le (by omega) (by omega) (by omega) (by omega)).mpr (by omega)) h15)
    exact kk I (fr_refl I _) (fun _ _ => rfl) h19
  | succ z ih =>
    intro i v I hz hX h19 kk hpi
    have hcb := chz_bd (p := p + i) hT
    have hct : (zI (chz tx tl (p + i))).toInt = chz tx tl (p + i) := zI_t (by omega) (by omega)
    simp only [rdn] at kk
    refine s_aload_n (i := 0) dX12_readsNumber_7 rfl rfl ?_
    refine s_getI dX12_readsNumber_8 fl_X12_173 (by assumption) (by assumption) ?_
    rw [h19]
    refine s_iload_n (i := 2) dX12_readsNumber_11 rfl rfl ?_
    refine s_bipush (v := 6) dX12_readsNumber_12 (by decide) ?_
    refine s_iadd dX12_readsNumber_14 ?_
    refine s_topi (y := zI ((p + 6 : Nat) : Int)) (by first | with_reducible rfl | ((try simp only [z0, z1, zm1, zm2, zm3, zm4, zl2, zl3, zl4, zl5, zl6, zl7, zl8, zl9, zl10, zl20, zl28, zl31, zl32, zl33, zl48, zl57, zl64, zl100, zl127, zl200, zl201, zl202, zl402, zl1200, zl2412, zl16884, zI_add, zI_sub, zI_mul, zI_inc, zI_dec]) <;> (congr 1 <;> omega))) ?_
    refine s_icmp_ge (tgt := 58) dX12_readsNumber_15 (by decide) (fun h15 => absurd h15 (fun h => by rw [zI_le (by omega) (by omega) (by omega) (by omega)] at h; omega)) (fun h15 => ?_)
    refine s_aload_n (i := 0) dX12_readsNumber_18 rfl rfl ?_
    refine s_cV_ (My := mX12_next) dX12_readsNumber_19 wM_X12_176 cb_yX12_next ci_yX12_next (by assumption) (by assumption) (Nat.le_of_ble_eq_true rfl) (by decide) (s_d (by omega) (m_next (d := 0) (p := p + i) hM hT htl hX h19 (by omega) ?_))
    refine s_bipush (v := 48) dX12_readsNumber_22 (by decide) ?_
    refine s_bipush (v := 57) dX12_readsNumber_24 (by decide) ?_
    refine s_cS_III (My := mX12_in) dX12_readsNumber_26 wM_X12_68 cb_yX12_in wT_yX12_in (Nat.le_of_ble_eq_true rfl) (by decide) (s_d (by omega) (m_in (d := 0) ?_ ?_))
    · intro hc
      rw [hct, t48, t57] at hc
      rw [if_pos hc] at kk
      have hlt := dig_lt hc
      refine s_if_eq (tgt := 58) dX12_readsNumber_29 (by decide) (fun h29 => absurd h29 (by decide)) (fun h29 => ?_)
      refine s_bipush (v := 10) dX12_readsNumber_32 (by decide) ?_
      refine s_iload_n (i := 3) dX12_readsNumber_34 rfl rfl ?_
      refine s_imul dX12_readsNumber_35 ?_
      refine s_aload_n (i := 0) dX12_readsNumber_36 rfl rfl ?_
      refine s_cV_ (My := mX12_next) dX12_readsNumber_37 wM_X12_176 cb_yX12_next ci_yX12_next (by assumption) (by assumption) (Nat.le_of_ble_eq_true rfl) (by decide) (s_d (by omega) (m_next (d := 0) (p := p + i) hM hT htl hX h19 (by omega) ?_))
      refine s_iadd dX12_readsNumber_40 ?_
      refine s_bipush (v := 48) dX12_readsNumber_41 (by decide) ?_
      refine s_isub dX12_readsNumber_43 ?_
      refine s_topi (y := zI (10 * v + chz tx tl (p + i) - 48)) (by first | with_reducible rfl | ((try simp only [z0, z1, zm1, zm2, zm3, zm4, zl2, zl3, zl4, zl5, zl6, zl7, zl8, zl9, zl10, zl20, zl28, zl31, zl32, zl33, zl48, zl57, zl64, zl100, zl127, zl200, zl201, zl202, zl402, zl1200, zl2412, zl16884, zI_add, zI_sub, zI_mul, zI_inc, zI_dec]) <;> (congr 1 <;> omega))) ?_
      refine s_istore_n (i := 3) dX12_readsNumber_44 rfl (by decide) (by simp only [sl, sl2, rm, Value.category, reduceIte, Nat.reduceAdd, Nat.reduceEqDiff, reduceCtorEq]; rfl) ?_
      refine s_aload_n (i := 0) dX12_readsNumber_45 rfl rfl ?_
      refine s_dup dX12_readsNumber_46 rfl ?_
      refine s_getI dX12_readsNumber_47 fl_X12_173 (by assumption) (by assumption) ?_
      rw [h19]
      refine s_iconst (v := 1) dX12_readsNumber_50 (by decide) ?_
      refine s_iadd dX12_readsNumber_51 ?_
      refine s_topi (y := zI ((p + (i + 1) : Nat) : Int)) (by first | with_reducible rfl | ((try simp only [z0, z1, zm1, zm2, zm3, zm4, zl2, zl3, zl4, zl5, zl6, zl7, zl8, zl9, zl10, zl20, zl28, zl31, zl32, zl33, zl48, zl57, zl64, zl100, zl127, zl200, zl201, zl202, zl402, zl1200, zl2412, zl16884, zI_add, zI_sub, zI_mul, zI_inc, zI_dec]) <;> (congr 1 <;> omega))) ?_
      refine s_putI dX12_readsNumber_52 fp_X12_173 (by assumption) (by assumption) ?_
      refine s_goto (tgt := 7) dX12_readsNumber_55 (by decide) ?_
      refine ih (i + 1) (10 * v + chz tx tl (p + i) - 48) _ (by omega) (hX.fr (iu_j (by omega)) (iu_ne (by omega))) iu_at (fun I' hf hj h => kk I' (fr_trans (fr_iu (by simp)) hf) (fun j h2 => by rw [hj j h2, iu_j h2]) h) (by omega)
    · intro hc
      rw [hct, t48, t57] at hc
      rw [if_neg hc] at kk
      refine s_if_eq (tgt := 58) dX12_readsNumber_29 (by decide) (fun h29 => ?_) (fun h29 => absurd (rfl) h29)
      exact kk I (fr_refl I _) (fun _ _ => rfl) h19
set_option maxRecDepth 100000 in
set_option maxHeartbeats 1000000 in
theorem m_readsNumber {G : fG} {x0 : Nat} {l : Launch} {d k n : Nat} {T : fT} {I : fI} {J : fJ} {Q : Option Value → fT → fI → fJ → Prop} {tx : Nat → Int} {tl : Nat} (hM : MObj T) (hT : TxOk tx tl) (htl : tl ≤ 100) {p c : Nat} {least : Int} {bh : Int32} (hX : TextM I (tx, tl)) (hp : p ≤ tl) (hl : -10 ≤ least ∧ least ≤ 10000000) (hN : NS I p (-1) c bh) (hq : ∀ I', frN0 I I' → NS I' (sk tx tl (rdn tx tl 6 p 0).1) (numF tx tl p least) c (zI (rdn tx tl 6 p 0).1) → Q (some (.int (zI (rdn tx tl 6 p 0).2))) T I' J) : PW G x0 l mX12_readsNumber (d + 2) (ZM G x0 Q) k n 0 [(0, .ref (x0 + 144)), (1, .int (zI least))] [] T I J := by
  obtain ⟨o1, o2⟩ := hM.o
  obtain ⟨h19, h20, h22, h23⟩ := hN
  obtain ⟨b1, b2, b3, b4⟩ := rdn_bd tx tl 6 p 0 (by omega)
  have b2 := b2 hp
  have b4 : (rdn tx tl 6 p 0).2 < 1000000 := by have e : ((0 : Int) + 1) * 10 ^ 6 = 1000000 := by decide
                                                omega
  unfold numF at hq
  refine s_aload_n (i := 0) dX12_readsNumber_0 rfl rfl ?_
  refine s_getI dX12_readsNumber_1 fl_X12_173 (by assumption) (by assumption) ?_
  rw [h19]
  refine s_istore_n (i := 2) dX12_readsNumber_4 rfl (by decide) (by simp only [sl, sl2, rm, Value.category, reduceIte, Nat.reduceAdd, Nat.reduceEqDiff, reduceCtorEq]; rfl) ?_
  refine s_iconst (v := 0) dX12_readsNumber_5 (by decide) ?_
  refine s_istore_n (i := 3) dX12_readsNumber_6 rfl (by decide) (by simp only [sl, sl2, rm, Value.category, reduceIte, Nat.reduceAdd, Nat.reduceEqDiff, reduceCtorEq]; rfl) ?_
  refine ml_rnum (p := p) hM hT htl hp 6 0 0 I (by omega) hX h19 (fun I1 hf1 hj1 g19 => ?_) (by omega)
  rw [show p + 0 = p from rfl] at g19 ⊢
  have g20 : I1 144 20 = zI (-1) := by rw [hj1 20 (by omega)]; exact h20
  have g22 : I1 144 22 = zI c := by rw [hj1 22 (by omega)]; exact h22
  have hX1 := (frN0.of19 hf1 hj1).tx hX
  have bad : ((rdn tx tl 6 p 0).1 = p ∨ (rdn tx tl 6 p 0).2 < least) → PW G x0 l mX12_readsNumber (d + 2) (ZM G x0 Q) k n 71 [(0, .ref (x0 + 144)), (1, .int (zI least)), (2, .int (zI p)), (3, .int (zI (rdn tx tl 6 p 0).2))] [] T I1 J := by
    intro hb
    rw [if_pos hb] at hq
    refine s_aload_n (i := 0) dX12_readsNumber_71 rfl rfl ?_
    refine s_iload_n (i := 2) dX12_readsNumber_72 rfl rfl ?_
    refine s_cV_I (My := mX12_fails) dX12_readsNumber_73 wM_X12_183 cb_yX12_fails ci_yX12_fails (by assumption) (by assumption) (Nat.le_of_ble_eq_true rfl) (by decide) (s_d (by omega) (m_fails (d := 0) hM g20 (by omega) (fun I2 hf2 hj2 h2 => ?_)))
    refine ml_rn76 (p := (rdn tx tl 6 p 0).1) (f := p) hM hT htl ((frN0.of20 hf2 hj2).tx hX1) b2 (by omega) ⟨by rw [hj2 19 (by omega)]; exact g19, h2, by rw [hj2 22 (by omega)]; exact g22, rfl⟩ (fun I3 hf3 hN3 => ?_)
    rw [if_neg (by omega)] at hN3
    exact hq I3 ((frN0.of19 hf1 hj1).trans ((frN0.of20 hf2 hj2).trans hf3)) hN3
  by_cases e1 : (rdn tx tl 6 p 0).1 = p
  · refine s_aload_n (i := 0) dX12_readsNumber_58 rfl rfl ?_
    refine s_getI dX12_readsNumber_59 fl_X12_173 (by assumption) (by assumption) ?_
    rw [g19]
    refine s_iload_n (i := 2) dX12_readsNumber_62 rfl rfl ?_
    refine s_icmp_eq (tgt := 71) dX12_readsNumber_63 (by decide) (fun h63 => ?_) (fun h63 => absurd (by rw [e1]) h63)
    exact bad (Or.inl e1)
  · by_cases e2 : (rdn tx tl 6 p 0).2 < least
    · refine s_aload_n (i := 0) dX12_readsNumber_58 rfl rfl ?_
      refine s_getI dX12_readsNumber_59 fl_X12_173 (by assumption) (by assumption) ?_
      rw [g19]
      refine s_iload_n (i := 2) dX12_readsNumber_62 rfl rfl ?_
      refine s_icmp_eq (tgt := 71) dX12_readsNumber_63 (by decide) (fun h63 => absurd h63 (fun h => by rw [zI_eq (by omega) (by omega) (by omega) (by omega)] at h; omega)) (fun h63 => ?_)
      refine s_iload_n (i := 3) dX12_readsNumber_66 rfl rfl ?_
      refine s_iload_n (i := 1) dX12_readsNumber_67 rfl rfl ?_
      refine s_icmp_ge (tgt := 76) dX12_readsNumber_68 (by decide) (fun h68 => absurd h68 (fun h => by rw [zI_le (by omega) (by omega) (by omega) (by omega)] at h; omega)) (fun h68 => ?_)
      exact bad (Or.inr e2)
    · rw [if_neg (by omega)] at hq
      refine s_aload_n (i := 0) dX12_readsNumber_58 rfl rfl ?_
      refine s_getI dX12_readsNumber_59 fl_X12_173 (by assumption) (by assumption) ?_
      rw [g19]
      refine s_iload_n (i := 2) dX12_readsNumber_62 rfl rfl ?_
      refine s_icmp_eq (tgt := 71) dX12_readsNumber_63 (by decide) (fun h63 => absurd h63 (fun h => by rw [zI_eq (by omega) (by omega) (by omega) (by omega)] at h; omega)) (fun h63 => ?_)
      refine s_iload_n (i := 3) dX12_readsNumber_66 rfl rfl ?_
      refine s_iload_n (i := 1) dX12_readsNumber_67 rfl rfl ?_
      refine s_icmp_ge (tgt := 76) dX12_readsNumber_68 (by decide) (fun h68 => ?_) (fun h68 => absurd ((zI_le (by omega) (by omega) (by omega) (by omega)).mpr (by omega)) h68)
      refine ml_rn76 (p := (rdn tx tl 6 p 0).1) (f := -1) hM hT htl hX1 b2 (by omega) ⟨g19, g20, g22, rfl⟩ (fun I3 hf3 hN3 => ?_)
      rw [if_pos rfl] at hN3
      exact hq I3 ((frN0.of19 hf1 hj1).trans hf3) hN3
def frN (I I' : fI) : Prop := fr I I' [144, 156] ∧ ∀ j, j ≠ 19 → j ≠ 20 → j ≠ 22 → j ≠ 23 → I' 144 j = I 144 j
theorem frN.refl (I : fI) : frN I I := ⟨fr_refl I _, fun _ _ _ _ _ => rfl⟩
theorem frN.trans {I I1 I2 : fI} (h : frN I I1) (h2 : frN I1 I2) : frN I I2 := ⟨fr_trans h.1 h2.1, fun j a b c d => (h2.2 j a b c d).trans (h.2 j a b c d)⟩
theorem frN0.n {I I' : fI} (h : frN0 I I') : frN I I' := ⟨fr_sub h.1 (fun b hb => by simp at hb ⊢; omega), h.2⟩
theorem frN.tx {I I' : fI} {t : (Nat → Int) × Nat} (h : frN I I') (hX : TextM I t) : TextM I' t := hX.fr (h.2 18 (by omega) (by omega) (by omega) (by omega)) (h.1 155 (by decide))
def RdM (I : fI) (g : Nat → Int) (c : Nat) : Prop := ∀ q, q < c → I 156 q = zI (g q)
/-- how a part ends -/
def PartE (tx : Nat → Int) (tl p : Nat) (least : Int) (c : Nat) (f : Int) : Prop := ((partC tx tl p least c).1 ≠ -1 ∧ f = (partC tx tl p least c).1) ∨ ((partC tx tl p least c).1 = -1 ∧ f = (partC tx tl p least c).2.1 ∧ isD (chz tx tl (partC tx tl p least c).2.1))
set_option maxRecDepth 100000 in
set_option maxHeartbeats 1000000 in
theorem ml_part82 {G : fG} {x0 : Nat} {l : Launch} {d k n : Nat} {T : fT} {J : fJ} {Q : Option Value → fT → fI → fJ → Prop} {tx : Nat → Int} {tl : Nat} (hM : MObj T) (hT : TxOk tx tl) (htl : tl ≤ 100) {c0 : Nat} {a b : Int} {x1 : Int32} {g0 : Nat → Int} (ha : 0 ≤ a ∧ b ≤ 1000000 ∧ a ≤ b + 1) (hcb : (c0 : Int) + (b - a + 1) ≤ 200) : ∀ (z i : Nat) (I : fI), b + 1 - (a + i) ≤ z → a + i ≤ b + 1 → I 144 20 = zI (-1) → I 144 22 = zI ((c0 + i : Nat) : Int) → RdM I (app g0 c0 a) (c0 + i) → (∀ I', frN I I' → I' 144 19 = I 144 19 → I' 144 20 = zI (-1) → I' 144 22 = zI ((c0 + (b - a + 1).toNat : Nat) : Int) → RdM I' (app g0 c0 a) (c0 + (b - a + 1).toNat) → Q (some (.int (zI b))) T I' J) → PW G x0 l mX12_readsPart (d + 3) (ZM G x0 Q) k n 82 [(0, .ref (x0 + 144)), (1, .int x1), (2, .int (zI a)), (3, .int (zI b)), (4, .int (zI (a + (i : Int))))] [] T I J := by
  obtain ⟨o1, o2⟩ := hM.o
  obtain ⟨r156, b156, k156, n156⟩ := hM.a156
  intro z
  induction z with
  | zero =>
    intro i I hz hi h20 h22 hR hq
    rw [show (b - a + 1).toNat = i by omega] at hq
    refine s_iload dX12_readsPart_82 rfl ?_
    refine s_iload_n (i := 3) dX12_readsPart_84 rfl rfl ?_
    refine s_icmp_gt (tgt := 123) dX12_readsPart_85 (by decide) (fun h85 => ?_) (fun h85 => absurd ((zI_lt (by omega) (by omega) (by omega) (by omega)).mpr (by omega)) h85)
    refine s_iload_n (i := 3) dX12_readsPart_123 rfl rfl ?_
    refine s_iret dX12_readsPart_124 rfl ?_
    exact hq I (frN.refl I) rfl h20 h22 hR
  | succ z ih =>
    intro i I hz hi h20 h22 hR hq
    by_cases hc : b < a + i
    · rw [show (b - a + 1).toNat = i by omega] at hq
      refine s_iload dX12_readsPart_82 rfl ?_
      refine s_iload_n (i := 3) dX12_readsPart_84 rfl rfl ?_
      refine s_icmp_gt (tgt := 123) dX12_readsPart_85 (by decide) (fun h85 => ?_) (fun h85 => absurd ((zI_lt (by omega) (by omega) (by omega) (by omega)).mpr (by omega)) h85)
      refine s_iload_n (i := 3) dX12_readsPart_123 rfl rfl ?_
      refine s_iret dX12_readsPart_124 rfl ?_
      exact hq I (frN.refl I) rfl h20 h22 hR
    · refine s_iload dX12_readsPart_82 rfl ?_
      refine s_iload_n (i := 3) dX12_readsPart_84 rfl rfl ?_
      refine s_icmp_gt (tgt := 123) dX12_readsPart_85 (by decide) (fun h85 => absurd h85 (fun h => by rw [zI_lt (by omega) (by omega) (by omega) (by omega)] at h; omega)) (fun h85 => ?_)
      refine s_aload_n (i := 0) dX12_readsPart_88 rfl rfl ?_
      refine s_getI dX12_readsPart_89 fl_X12_180 (by assumption) (by assumption) ?_
      rw [h20]
      refine s_iconst (v := -1) dX12_readsPart_92 (by decide) ?_
      refine s_icmp_ne (tgt := 123) dX12_readsPart_93 (by decide) (fun h93 => absurd h93 (fun h => h zm1.symm)) (fun h93 => ?_)
      refine s_aload_n (i := 0) dX12_readsPart_96 rfl rfl ?_
      refine s_getR dX12_readsPart_97 fl_X12_50 (by assumption) (by assumption) (by assumption) ?_
      refine s_aload_n (i := 0) dX12_readsPart_100 rfl rfl ?_
      refine s_getI dX12_readsPart_101 fl_X12_195 (by assumption) (by assumption) ?_
      rw [h22]
      refine s_iload dX12_readsPart_104 rfl ?_
      refine s_istn (j := c0 + i) dX12_readsPart_106 (by assumption) (by assumption) (by assumption) (by first | with_reducible rfl | ((try simp only [z0, z1, zm1, zm2, zm3, zm4, zl2, zl3, zl4, zl5, zl6, zl7, zl8, zl9, zl10, zl20, zl28, zl31, zl32, zl33, zl48, zl57, zl64, zl100, zl127, zl200, zl201, zl202, zl402, zl1200, zl2412, zl16884, zI_add, zI_sub, zI_mul, zI_inc, zI_dec]) <;> (congr 1 <;> omega))) (by omega) (by decide) ?_
      refine s_aload_n (i := 0) dX12_readsPart_107 rfl rfl ?_
      refine s_dup dX12_readsPart_108 rfl ?_
      refine s_getI dX12_readsPart_109 fl_X12_195 (by assumption) (by assumption) ?_
      rw [iu_ne (by omega), h22]
      refine s_iconst (v := 1) dX12_readsPart_112 (by decide) ?_
      refine s_iadd dX12_readsPart_113 ?_
      refine s_topi (y := zI ((c0 + (i + 1) : Nat) : Int)) (by first | with_reducible rfl | ((try simp only [z0, z1, zm1, zm2, zm3, zm4, zl2, zl3, zl4, zl5, zl6, zl7, zl8, zl9, zl10, zl20, zl28, zl31, zl32, zl33, zl48, zl57, zl64, zl100, zl127, zl200, zl201, zl202, zl402, zl1200, zl2412, zl16884, zI_add, zI_sub, zI_mul, zI_inc, zI_dec]) <;> (congr 1 <;> omega))) ?_
      refine s_putI dX12_readsPart_114 fp_X12_195 (by assumption) (by assumption) ?_
      refine s_iinc dX12_readsPart_117 rfl (zI_inc _) (by decide) (by simp only [sl, sl2, rm, Value.category, reduceIte, Nat.reduceAdd, Nat.reduceEqDiff, reduceCtorEq]; rfl) ?_
      refine s_goto (tgt := 82) dX12_readsPart_120 (by decide) ?_
      refine s_lv (lv' := [(0, .ref (x0 + 144)), (1, .int x1), (2, .int (zI a)), (3, .int (zI b)), (4, .int (zI (a + ((i + 1 : Nat) : Int))))]) ⟨rfl, rfl, rfl, rfl, by rw [show a + ((i + 1 : Nat) : Int) = a + i + 1 by omega]; rfl, trivial⟩ ?_
      refine ih (i + 1) _ (by omega) (by omega) (by rw [iu_j (by omega), iu_ne (by omega)]; exact h20) iu_at (fun q h => ?_) (fun I' hf h19 a1 a2 a3 => hq I' (frN.trans ⟨fun b hb => by simp at hb; rw [iu_ne (by omega), iu_ne (by omega)], fun j _ _ h _ => by rw [iu_j h, iu_ne (by omega)]⟩ hf) (by rw [h19, iu_j (by omega), iu_ne (by omega)]) a1 a2 a3)
      rw [iu_ne (by omega)]
      by_cases e : q = c0 + i
      · subst e
        rw [iu_at]
        unfold app
        rw [if_neg (by omega)]
        congr 1
        omega
      · rw [iu_j e]; exact hR q (by omega)
set_option maxRecDepth 100000 in
set_option maxHeartbeats 1000000 in
theorem ml_part47 {G : fG} {x0 : Nat} {l : Launch} {d k n : Nat} {T : fT} {I : fI} {J : fJ} {Q : Option Value → fT → fI → fJ → Prop} {tx : Nat → Int} {tl : Nat} (hM : MObj T) (hT : TxOk tx tl) (htl : tl ≤ 100) {p c : Nat} {f a b : Int} {x1 : Int32} {bh : Nat} {g : Nat → Int} (ha : f = -1 → 0 ≤ a ∧ b ≤ 1000000 ∧ a ≤ b) (hab : -1 ≤ a ∧ a ≤ 10000000 ∧ -1 ≤ b ∧ b ≤ 10000000) (hbh : bh ≤ 1000) (hc : c ≤ 200) (hf : -1 ≤ f ∧ f ≤ 1000) (hN : NS I p f c (zI bh)) (hR : RdM I g c) (hb : ∀ (I' : fI) (f' : Int), frN I I' → f' ≠ -1 → f' = (if f = -1 then (bh : Int) else f) → (f = -1 → 200 - (c : Int) ≤ b - a) → I' 144 20 = zI f' → I' 144 19 = zI p → Q (some (.int (zI b))) T I' J) (hq : ∀ I', f = -1 → ¬ 200 - (c : Int) ≤ b - a → frN I I' → I' 144 19 = zI p → I' 144 20 = zI (-1) → I' 144 22 = zI ((c + (b - a + 1).toNat : Nat) : Int) → RdM I' (app g c a) (c + (b - a + 1).toNat) → Q (some (.int (zI b))) T I' J) : PW G x0 l mX12_readsPart (d + 3) (ZM G x0 Q) k n 47 [(0, .ref (x0 + 144)), (1, .int x1), (2, .int (zI a)), (3, .int (zI b))] [] T I J := by
  obtain ⟨o1, o2⟩ := hM.o
  obtain ⟨r156, b156, k156, n156⟩ := hM.a156
  obtain ⟨h19, h20, h22, h23⟩ := hN
  have quit : ∀ (I1 : fI) (f1 : Int), f1 ≠ -1 → -1 ≤ f1 ∧ f1 ≤ 1000 → I1 144 20 = zI f1 → Q (some (.int (zI b))) T I1 J → PW G x0 l mX12_readsPart (d + 3) (ZM G x0 Q) k n 79 [(0, .ref (x0 + 144)), (1, .int x1), (2, .int (zI a)), (3, .int (zI b))] [] T I1 J := by
    intro I1 f1 hf1 hfb g20 hQ
    by_cases hc2 : b < a
    · refine s_iload_n (i := 2) dX12_readsPart_79 rfl rfl ?_
      refine s_istore dX12_readsPart_80 (by decide) (by simp only [sl, sl2, rm, Value.category, reduceIte, Nat.reduceAdd, Nat.reduceEqDiff, reduceCtorEq]; rfl) ?_
      refine s_iload dX12_readsPart_82 rfl ?_
      refine s_iload_n (i := 3) dX12_readsPart_84 rfl rfl ?_
      refine s_icmp_gt (tgt := 123) dX12_readsPart_85 (by decide) (fun h85 => ?_) (fun h85 => absurd ((zI_lt (by omega) (by omega) (by omega) (by omega)).mpr (by omega)) h85)
      refine s_iload_n (i := 3) dX12_readsPart_123 rfl rfl ?_
      refine s_iret dX12_readsPart_124 rfl ?_
      exact hQ
    · refine s_iload_n (i := 2) dX12_readsPart_79 rfl rfl ?_
      refine s_istore dX12_readsPart_80 (by decide) (by simp only [sl, sl2, rm, Value.category, reduceIte, Nat.reduceAdd, Nat.reduceEqDiff, reduceCtorEq]; rfl) ?_
      refine s_iload dX12_readsPart_82 rfl ?_
      refine s_iload_n (i := 3) dX12_readsPart_84 rfl rfl ?_
      refine s_icmp_gt (tgt := 123) dX12_readsPart_85 (by decide) (fun h85 => absurd h85 (fun h => by rw [zI_lt (by omega) (by omega) (by omega) (by omega)] at h; omega)) (fun h85 => ?_)
      refine s_aload_n (i := 0) dX12_readsPart_88 rfl rfl ?_
      refine s_getI dX12_readsPart_89 fl_X12_180 (by assumption) (by assumption) ?_
      rw [g20]
      refine s_iconst (v := -1) dX12_readsPart_92 (by decide) ?_
      refine s_icmp_ne (tgt := 123) dX12_readsPart_93 (by decide) (fun h93 => ?_) (fun h93 => absurd h93 (fun h => by rw [zm1, zI_eq (by omega) (by omega) (by omega) (by omega)] at h; omega))
      refine s_iload_n (i := 3) dX12_readsPart_123 rfl rfl ?_
      refine s_iret dX12_readsPart_124 rfl ?_
      exact hQ
  by_cases e : f = -1
  · subst e
    obtain ⟨a1, a2, a3⟩ := ha rfl
    by_cases e2 : 200 - (c : Int) ≤ b - a
    · refine s_aload_n (i := 0) dX12_readsPart_47 rfl rfl ?_
      refine s_getI dX12_readsPart_48 fl_X12_180 (by assumption) (by assumption) ?_
      rw [h20]
      refine s_iconst (v := -1) dX12_readsPart_51 (by decide) ?_
      refine s_icmp_ne (tgt := 79) dX12_readsPart_52 (by decide) (fun h52 => absurd h52 (fun h => h zm1.symm)) (fun h52 => ?_)
      refine s_iload_n (i := 3) dX12_readsPart_55 rfl rfl ?_
      refine s_iload_n (i := 2) dX12_readsPart_56 rfl rfl ?_
      refine s_isub dX12_readsPart_57 ?_
      refine s_iconst (v := 1) dX12_readsPart_58 (by decide) ?_
      refine s_iadd dX12_readsPart_59 ?_
      refine s_topi (y := zI (b - a + 1)) (by first | with_reducible rfl | ((try simp only [z0, z1, zm1, zm2, zm3, zm4, zl2, zl3, zl4, zl5, zl6, zl7, zl8, zl9, zl10, zl20, zl28, zl31, zl32, zl33, zl48, zl57, zl64, zl100, zl127, zl200, zl201, zl202, zl402, zl1200, zl2412, zl16884, zI_add, zI_sub, zI_mul, zI_inc, zI_dec]) <;> (congr 1 <;> omega))) ?_
      refine s_sipush (v := 200) dX12_readsPart_60 (by decide) ?_
      refine s_aload_n (i := 0) dX12_readsPart_63 rfl rfl ?_
      refine s_getI dX12_readsPart_64 fl_X12_195 (by assumption) (by assumption) ?_
      rw [h22]
      refine s_isub dX12_readsPart_67 ?_
      refine s_topi (y := zI (200 - (c : Int))) (by first | with_reducible rfl | ((try simp only [z0, z1, zm1, zm2, zm3, zm4, zl2, zl3, zl4, zl5, zl6, zl7, zl8, zl9, zl10, zl20, zl28, zl31, zl32, zl33, zl48, zl57, zl64, zl100, zl127, zl200, zl201, zl202, zl402, zl1200, zl2412, zl16884, zI_add, zI_sub, zI_mul, zI_inc, zI_dec]) <;> (congr 1 <;> omega))) ?_
      refine s_icmp_le (tgt := 79) dX12_readsPart_68 (by decide) (fun h68 => absurd h68 (fun h => by rw [zI_le (by omega) (by omega) (by omega) (by omega)] at h; omega)) (fun h68 => ?_)
      refine s_aload_n (i := 0) dX12_readsPart_71 rfl rfl ?_
      refine s_aload_n (i := 0) dX12_readsPart_72 rfl rfl ?_
      refine s_getI dX12_readsPart_73 fl_X12_186 (by assumption) (by assumption) ?_
      rw [h23]
      refine s_cV_I (My := mX12_fails) dX12_readsPart_76 wM_X12_183 cb_yX12_fails ci_yX12_fails (by assumption) (by assumption) (Nat.le_of_ble_eq_true rfl) (by decide) (s_d (by omega) (m_fails (d := 0) hM h20 (by omega) (fun I1 hf1 hj1 h1 => ?_)))
      rw [if_pos rfl] at h1
      exact quit I1 bh (by omega) (by omega) h1 (hb I1 bh (frN0.of20 hf1 hj1).n (by omega) (by rw [if_pos rfl]) (fun _ => e2) h1 (by rw [hj1 19 (by omega)]; exact h19))
    · refine s_aload_n (i := 0) dX12_readsPart_47 rfl rfl ?_
      refine s_getI dX12_readsPart_48 fl_X12_180 (by assumption) (by assumption) ?_
      rw [h20]
      refine s_iconst (v := -1) dX12_readsPart_51 (by decide) ?_
      refine s_icmp_ne (tgt := 79) dX12_readsPart_52 (by decide) (fun h52 => absurd h52 (fun h => h zm1.symm)) (fun h52 => ?_)
      refine s_iload_n (i := 3) dX12_readsPart_55 rfl rfl ?_
      refine s_iload_n (i := 2) dX12_readsPart_56 rfl rfl ?_
      refine s_isub dX12_readsPart_57 ?_
      refine s_iconst (v := 1) dX12_readsPart_58 (by decide) ?_
      refine s_iadd dX12_readsPart_59 ?_
      refine s_topi (y := zI (b - a + 1)) (by first | with_reducible rfl | ((try simp only [z0, z1, zm1, zm2, zm3, zm4, zl2, zl3, zl4, zl5, zl6, zl7, zl8, zl9, zl10, zl20, zl28, zl31, zl32, zl33, zl48, zl57, zl64, zl100, zl127, zl200, zl201, zl202, zl402, zl1200, zl2412, zl16884, zI_add, zI_sub, zI_mul, zI_inc, zI_dec]) <;> (congr 1 <;> omega))) ?_
      refine s_sipush (v := 200) dX12_readsPart_60 (by decide) ?_
      refine s_aload_n (i := 0) dX12_readsPart_63 rfl rfl ?_
      refine s_getI dX12_readsPart_64 fl_X12_195 (by assumption) (by assumption) ?_
      rw [h22]
      refine s_isub dX12_readsPart_67 ?_
      refine s_topi (y := zI (200 - (c : Int))) (by first | with_reducible rfl | ((try simp only [z0, z1, zm1, zm2, zm3, zm4, zl2, zl3, zl4, zl5, zl6, zl7, zl8, zl9, zl10, zl20, zl28, zl31, zl32, zl33, zl48, zl57, zl64, zl100, zl127, zl200, zl201, zl202, zl402, zl1200, zl2412, zl16884, zI_add, zI_sub, zI_mul, zI_inc, zI_dec]) <;> (congr 1 <;> omega))) ?_
      refine s_icmp_le (tgt := 79) dX12_readsPart_68 (by decide) (fun h68 => ?_) (fun h68 => absurd ((zI_le (by omega) (by omega) (by omega) (by omega)).mpr (by omega)) h68)
      refine s_iload_n (i := 2) dX12_readsPart_79 rfl rfl ?_
      refine s_istore dX12_readsPart_80 (by decide) (by simp only [sl, sl2, rm, Value.category, reduceIte, Nat.reduceAdd, Nat.reduceEqDiff, reduceCtorEq]; rfl) ?_
      refine s_lv (lv' := [(0, .ref (x0 + 144)), (1, .int x1), (2, .int (zI a)), (3, .int (zI b)), (4, .int (zI (a + ((0 : Nat) : Int))))]) ⟨rfl, rfl, rfl, rfl, by rw [show a + ((0 : Nat) : Int) = a by omega]; rfl, trivial⟩ ?_
      refine ml_part82 (g0 := g) hM hT htl (by omega) (by omega) (b + 1 - a).toNat 0 I (by omega) (by omega) h20 h22 (fun q h => ?_) (fun I' hf1 g19 => hq I' rfl e2 hf1 (by rw [g19]; exact h19))
      unfold app
      rw [if_pos (by omega)]
      exact hR q (by omega)
  · refine s_aload_n (i := 0) dX12_readsPart_47 rfl rfl ?_
    refine s_getI dX12_readsPart_48 fl_X12_180 (by assumption) (by assumption) ?_
    rw [h20]
    refine s_iconst (v := -1) dX12_readsPart_51 (by decide) ?_
    refine s_icmp_ne (tgt := 79) dX12_readsPart_52 (by decide) (fun h52 => ?_) (fun h52 => absurd h52 (fun h => by rw [zm1, zI_eq (by omega) (by omega) (by omega) (by omega)] at h; omega))
    exact quit I f e hf h20 (hb I f (frN.refl I) e (by rw [if_neg e]) (fun h => absurd h e) h20 h19)
set_option maxRecDepth 100000 in
set_option maxHeartbeats 1000000 in
theorem m_readsPart {G : fG} {x0 : Nat} {l : Launch} {d k n : Nat} {T : fT} {I : fI} {J : fJ} {Q : Option Value → fT → fI → fJ → Prop} {tx : Nat → Int} {tl : Nat} (hM : MObj T) (hT : TxOk tx tl) (htl : tl ≤ 100) {p c : Nat} {bef : Int} {bh : Int32} {g : Nat → Int} (hX : TextM I (tx, tl)) (hp : p ≤ tl) (hc : c ≤ 200) (hl : -1 ≤ bef ∧ bef ≤ 1000000) (hN : NS I p (-1) c bh) (hR : RdM I g c) (hb : ∀ (I' : fI) (f : Int) (v : Int32) (p' : Nat), frN I I' → f ≠ -1 → PartE tx tl p (bef + 1) c f → I' 144 20 = zI f → I' 144 19 = zI p' → p' ≤ tl → Q (some (.int v)) T I' J) (hq : ∀ I', frN I I' → (partC tx tl p (bef + 1) c).1 = -1 → I' 144 19 = zI (partC tx tl p (bef + 1) c).2.1 → I' 144 20 = zI (-1) → I' 144 22 = zI ((c + ((partC tx tl p (bef + 1) c).2.2.2 - (partC tx tl p (bef + 1) c).2.2.1 + 1).toNat : Nat) : Int) → RdM I' (app g c (partC tx tl p (bef + 1) c).2.2.1) (c + ((partC tx tl p (bef + 1) c).2.2.2 - (partC tx tl p (bef + 1) c).2.2.1 + 1).toNat) → Q (some (.int (zI (partC tx tl p (bef + 1) c).2.2.2))) T I' J) : PW G x0 l mX12_readsPart (d + 3) (ZM G x0 Q) k n 0 [(0, .ref (x0 + 144)), (1, .int (zI bef))] [] T I J := by
  obtain ⟨o1, o2⟩ := hM.o
  obtain ⟨r156, b156, k156, n156⟩ := hM.a156
  obtain ⟨b1, b2, b3, b4⟩ := rdn_bd tx tl 6 p 0 (by omega)
  have b2 := b2 hp
  have e6 : ((0 : Int) + 1) * 10 ^ 6 = 1000000 := by decide
  rw [e6] at b4
  obtain ⟨s1, s2⟩ := sk_ge tx tl (rdn tx tl 6 p 0).1
  have s2 := s2 b2
  unfold PartE at hb
  unfold partC at hb hq
  refine s_aload_n (i := 0) dX12_readsPart_0 rfl rfl ?_
  refine s_iload_n (i := 1) dX12_readsPart_1 rfl rfl ?_
  refine s_iconst (v := 1) dX12_readsPart_2 (by decide) ?_
  refine s_iadd dX12_readsPart_3 ?_
  refine s_topi (y := zI (bef + 1)) (by first | with_reducible rfl | ((try simp only [z0, z1, zm1, zm2, zm3, zm4, zl2, zl3, zl4, zl5, zl6, zl7, zl8, zl9, zl10, zl20, zl28, zl31, zl32, zl33, zl48, zl57, zl64, zl100, zl127, zl200, zl201, zl202, zl402, zl1200, zl2412, zl16884, zI_add, zI_sub, zI_mul, zI_inc, zI_dec]) <;> (congr 1 <;> omega))) ?_
  refine s_cV_I (My := mX12_readsNumber) dX12_readsPart_4 wM_X12_192 cb_yX12_readsNumber ci_yX12_readsNumber (by assumption) (by assumption) (Nat.le_of_ble_eq_true rfl) (by decide) (s_d (by omega) (m_readsNumber (d := 0) (c := c) hM hT htl hX hp (by omega) hN (fun I1 hf1 hN1 => ?_)))
  have hX1 := hf1.tx hX
  have hR1 : RdM I1 g c := fun q h => by rw [hf1.1 156 (by decide)]; exact hR q h
  unfold numF at hN1
  by_cases c1 : (rdn tx tl 6 p 0).1 = p ∨ (rdn tx tl 6 p 0).2 < bef + 1
  · rw [if_pos c1] at hN1
    simp only [if_pos c1] at hb
    refine s_istore_n (i := 2) dX12_readsPart_7 rfl (by decide) (by simp only [sl, sl2, rm, Value.category, reduceIte, Nat.reduceAdd, Nat.reduceEqDiff, reduceCtorEq]; rfl) ?_
    refine s_iload_n (i := 2) dX12_readsPart_8 rfl rfl ?_
    refine s_istore_n (i := 3) dX12_readsPart_9 rfl (by decide) (by simp only [sl, sl2, rm, Value.category, reduceIte, Nat.reduceAdd, Nat.reduceEqDiff, reduceCtorEq]; rfl) ?_
    refine s_aload_n (i := 0) dX12_readsPart_10 rfl rfl ?_
    refine s_getI dX12_readsPart_11 fl_X12_180 (by assumption) (by assumption) ?_
    rw [hN1.2.1]
    refine s_iconst (v := -1) dX12_readsPart_14 (by decide) ?_
    refine s_icmp_ne (tgt := 47) dX12_readsPart_15 (by decide) (fun h15 => ?_) (fun h15 => absurd h15 (fun h => by rw [zm1, zI_eq (by omega) (by omega) (by omega) (by omega)] at h; omega))
    refine ml_part47 hM hT htl (g := g) (fun h => by omega) (by omega) (by omega) hc (by omega) hN1 hR1 (fun I2 f' hf2 n1 e1 _ g20 g19 => ?_) (fun I2 h => by omega)
    rw [if_neg (by omega)] at e1
    exact hb I2 f' _ _ (hf1.n.trans hf2) n1 (Or.inl ⟨by omega, e1⟩) g20 g19 s2
  rw [if_neg c1] at hN1
  simp only [if_neg c1] at hb hq
  by_cases c2 : isD (chz tx tl (rdn tx tl 6 p 0).1)
  · rw [if_pos c2] at hN1
    have hst : sk tx tl (rdn tx tl 6 p 0).1 = (rdn tx tl 6 p 0).1 := sk_stay (by omega)
    rw [hst] at hN1
    rw [hst] at hb
    rw [if_neg (show ¬ chz tx tl (rdn tx tl 6 p 0).1 = 45 by omega)] at hb
    refine s_istore_n (i := 2) dX12_readsPart_7 rfl (by decide) (by simp only [sl, sl2, rm, Value.category, reduceIte, Nat.reduceAdd, Nat.reduceEqDiff, reduceCtorEq]; rfl) ?_
    refine s_iload_n (i := 2) dX12_readsPart_8 rfl rfl ?_
    refine s_istore_n (i := 3) dX12_readsPart_9 rfl (by decide) (by simp only [sl, sl2, rm, Value.category, reduceIte, Nat.reduceAdd, Nat.reduceEqDiff, reduceCtorEq]; rfl) ?_
    refine s_aload_n (i := 0) dX12_readsPart_10 rfl rfl ?_
    refine s_getI dX12_readsPart_11 fl_X12_180 (by assumption) (by assumption) ?_
    rw [hN1.2.1]
    refine s_iconst (v := -1) dX12_readsPart_14 (by decide) ?_
    refine s_icmp_ne (tgt := 47) dX12_readsPart_15 (by decide) (fun h15 => ?_) (fun h15 => absurd h15 (fun h => by rw [zm1, zI_eq (by omega) (by omega) (by omega) (by omega)] at h; omega))
    refine ml_part47 hM hT htl (g := g) (fun h => by omega) (by omega) (by omega) hc (by omega) hN1 hR1 (fun I2 f' hf2 n1 e1 _ g20 g19 => ?_) (fun I2 h => by omega)
    rw [if_neg (by omega)] at e1
    refine hb I2 f' _ _ (hf1.n.trans hf2) n1 ?_ g20 g19 b2
    by_cases c3 : 200 - (c : Int) ≤ (rdn tx tl 6 p 0).2 - (rdn tx tl 6 p 0).2
    · rw [if_pos c3]; exact Or.inl ⟨by dsimp only; omega, e1⟩
    · rw [if_neg c3]; exact Or.inr ⟨rfl, e1, c2⟩
  rw [if_neg c2] at hN1
  have hcb := chz_bd (p := sk tx tl (rdn tx tl 6 p 0).1) hT
  by_cases c4 : chz tx tl (sk tx tl (rdn tx tl 6 p 0).1) = 45
  · simp only [if_pos c4] at hb hq
    have hlt : sk tx tl (rdn tx tl 6 p 0).1 < tl := by
      rcases Nat.lt_or_ge (sk tx tl (rdn tx tl 6 p 0).1) tl with h | h
      · exact h
      · rw [chz_out h] at c4; omega
    refine s_istore_n (i := 2) dX12_readsPart_7 rfl (by decide) (by simp only [sl, sl2, rm, Value.category, reduceIte, Nat.reduceAdd, Nat.reduceEqDiff, reduceCtorEq]; rfl) ?_
    refine s_iload_n (i := 2) dX12_readsPart_8 rfl rfl ?_
    refine s_istore_n (i := 3) dX12_readsPart_9 rfl (by decide) (by simp only [sl, sl2, rm, Value.category, reduceIte, Nat.reduceAdd, Nat.reduceEqDiff, reduceCtorEq]; rfl) ?_
    refine s_aload_n (i := 0) dX12_readsPart_10 rfl rfl ?_
    refine s_getI dX12_readsPart_11 fl_X12_180 (by assumption) (by assumption) ?_
    rw [hN1.2.1]
    refine s_iconst (v := -1) dX12_readsPart_14 (by decide) ?_
    refine s_icmp_ne (tgt := 47) dX12_readsPart_15 (by decide) (fun h15 => absurd h15 (fun h => h zm1.symm)) (fun h15 => ?_)
    refine s_aload_n (i := 0) dX12_readsPart_18 rfl rfl ?_
    refine s_cV_ (My := mX12_next) dX12_readsPart_19 wM_X12_176 cb_yX12_next ci_yX12_next (by assumption) (by assumption) (Nat.le_of_ble_eq_true rfl) (by decide) (s_d (by omega) (m_next (d := 0) hM hT htl hX1 hN1.1 (by omega) ?_))
    rw [c4]
    refine s_bipush (v := 45) dX12_readsPart_22 (by decide) ?_
    refine s_icmp_ne (tgt := 47) dX12_readsPart_24 (by decide) (fun h24 => absurd h24 (fun h => h rfl)) (fun h24 => ?_)
    refine s_aload_n (i := 0) dX12_readsPart_27 rfl rfl ?_
    refine s_dup dX12_readsPart_28 rfl ?_
    refine s_getI dX12_readsPart_29 fl_X12_173 (by assumption) (by assumption) ?_
    rw [hN1.1]
    refine s_iconst (v := 1) dX12_readsPart_32 (by decide) ?_
    refine s_iadd dX12_readsPart_33 ?_
    refine s_topi (y := zI ((sk tx tl (rdn tx tl 6 p 0).1 + 1 : Nat) : Int)) (by first | with_reducible rfl | ((try simp only [z0, z1, zm1, zm2, zm3, zm4, zl2, zl3, zl4, zl5, zl6, zl7, zl8, zl9, zl10, zl20, zl28, zl31, zl32, zl33, zl48, zl57, zl64, zl100, zl127, zl200, zl201, zl202, zl402, zl1200, zl2412, zl16884, zI_add, zI_sub, zI_mul, zI_inc, zI_dec]) <;> (congr 1 <;> omega))) ?_
    refine s_putI dX12_readsPart_34 fp_X12_173 (by assumption) (by assumption) ?_
    refine s_aload_n (i := 0) dX12_readsPart_37 rfl rfl ?_
    refine s_cV_ (My := mX12_skips) dX12_readsPart_38 wM_X12_189 cb_yX12_skips ci_yX12_skips (by assumption) (by assumption) (Nat.le_of_ble_eq_true rfl) (by decide) (s_d (by omega) (m_skips (d := 0) (p := sk tx tl (rdn tx tl 6 p 0).1 + 1) hM hT htl ((frN0.put (j := 19) (by omega)).tx hX1) iu_at (by omega) (fun I2 hf2 hj2 h2 => ?_)))
    have hf12 : frN0 I1 I2 := (frN0.put (j := 19) (by omega)).trans (frN0.of19 hf2 hj2)
    obtain ⟨t1, t2⟩ := sk_ge tx tl (sk tx tl (rdn tx tl 6 p 0).1 + 1)
    have t2 := t2 (by omega)
    obtain ⟨d1, d2, d3, d4⟩ := rdn_bd tx tl 6 (sk tx tl (sk tx tl (rdn tx tl 6 p 0).1 + 1)) 0 (by omega)
    have d2 := d2 t2
    rw [e6] at d4
    refine s_aload_n (i := 0) dX12_readsPart_41 rfl rfl ?_
    refine s_iload_n (i := 2) dX12_readsPart_42 rfl rfl ?_
    refine s_cV_I (My := mX12_readsNumber) dX12_readsPart_43 wM_X12_192 cb_yX12_readsNumber ci_yX12_readsNumber (by assumption) (by assumption) (Nat.le_of_ble_eq_true rfl) (by decide) (s_d (by omega) (m_readsNumber (d := 0) (c := c) (p := sk tx tl (sk tx tl (rdn tx tl 6 p 0).1 + 1)) (bh := zI (rdn tx tl 6 p 0).1) hM hT htl (hf12.tx hX1) t2 (by omega) ⟨h2, by rw [hj2 20 (by omega), iu_j (by omega)]; exact hN1.2.1, by rw [hj2 22 (by omega), iu_j (by omega)]; exact hN1.2.2.1, by rw [hj2 23 (by omega), iu_j (by omega)]; exact hN1.2.2.2⟩ (fun I3 hf3 hN3 => ?_)))
    have hX3 := (hf12.trans hf3).tx hX1
    have hR3 : RdM I3 g c := fun q h => by rw [(hf12.trans hf3).1 156 (by decide)]; exact hR1 q h
    obtain ⟨u1, u2⟩ := sk_ge tx tl (rdn tx tl 6 (sk tx tl (sk tx tl (rdn tx tl 6 p 0).1 + 1)) 0).1
    have u2 := u2 d2
    generalize hp2 : sk tx tl (sk tx tl (rdn tx tl 6 p 0).1 + 1) = p2 at *
    unfold numF at hN3
    by_cases c5 : (rdn tx tl 6 p2 0).1 = p2 ∨ (rdn tx tl 6 p2 0).2 < (rdn tx tl 6 p 0).2
    · rw [if_pos c5] at hN3
      simp only [if_pos c5] at hb
      refine s_istore_n (i := 3) dX12_readsPart_46 rfl (by decide) (by simp only [sl, sl2, rm, Value.category, reduceIte, Nat.reduceAdd, Nat.reduceEqDiff, reduceCtorEq]; rfl) ?_
      refine ml_part47 hM hT htl (g := g) (fun h => by omega) (by omega) (by omega) hc (by omega) hN3 hR3 (fun I4 f' hf4 n1 e1 _ g20 g19 => ?_) (fun I4 h => by omega)
      rw [if_neg (by omega)] at e1
      exact hb I4 f' _ _ ((hf1.trans (hf12.trans hf3)).n.trans hf4) n1 (Or.inl ⟨by omega, e1⟩) g20 g19 u2
    rw [if_neg c5] at hN3
    simp only [if_neg c5] at hb hq
    by_cases c6 : isD (chz tx tl (rdn tx tl 6 p2 0).1)
    · rw [if_pos c6] at hN3
      have hst : sk tx tl (rdn tx tl 6 p2 0).1 = (rdn tx tl 6 p2 0).1 := sk_stay (by omega)
      rw [hst] at hN3
      rw [hst] at hb
      refine s_istore_n (i := 3) dX12_readsPart_46 rfl (by decide) (by simp only [sl, sl2, rm, Value.category, reduceIte, Nat.reduceAdd, Nat.reduceEqDiff, reduceCtorEq]; rfl) ?_
      refine ml_part47 hM hT htl (g := g) (fun h => by omega) (by omega) (by omega) hc (by omega) hN3 hR3 (fun I4 f' hf4 n1 e1 _ g20 g19 => ?_) (fun I4 h => by omega)
      rw [if_neg (by omega)] at e1
      refine hb I4 f' _ _ ((hf1.trans (hf12.trans hf3)).n.trans hf4) n1 ?_ g20 g19 d2
      by_cases c3 : 200 - (c : Int) ≤ (rdn tx tl 6 p2 0).2 - (rdn tx tl 6 p 0).2
      · rw [if_pos c3]; exact Or.inl ⟨by dsimp only; omega, e1⟩
      · rw [if_neg c3]; exact Or.inr ⟨rfl, e1, c6⟩
    rw [if_neg c6] at hN3
    refine s_istore_n (i := 3) dX12_readsPart_46 rfl (by decide) (by simp only [sl, sl2, rm, Value.category, reduceIte, Nat.reduceAdd, Nat.reduceEqDiff, reduceCtorEq]; rfl) ?_
    refine ml_part47 hM hT htl (g := g) (fun _ => by omega) (by omega) (by omega) hc (by omega) hN3 hR3 (fun I4 f' hf4 n1 e1 e2 g20 g19 => ?_) (fun I4 _ e2 hf4 g19 g20 g22 hR4 => ?_)
    · rw [if_pos rfl] at e1
      have e2 := e2 rfl
      rw [if_pos e2] at hb
      exact hb I4 f' _ _ ((hf1.trans (hf12.trans hf3)).n.trans hf4) n1 (Or.inl ⟨by dsimp only; omega, e1⟩) g20 g19 u2
    · rw [if_neg e2] at hq
      exact hq I4 ((hf1.trans (hf12.trans hf3)).n.trans hf4) rfl g19 g20 g22 hR4
  · rw [if_neg c4] at hb hq
    have hlast : ∀ (lv : List (Nat × Value)), lvs lv [(0, .ref (x0 + 144)), (1, .int (zI bef)), (2, .int (zI (rdn tx tl 6 p 0).2)), (3, .int (zI (rdn tx tl 6 p 0).2))] → PW G x0 l mX12_readsPart (d + 3) (ZM G x0 Q) k n 47 lv [] T I1 J := by
      intro lv hv
      refine s_lv hv ?_
      refine ml_part47 hM hT htl (g := g) (fun _ => by omega) (by omega) (by omega) hc (by omega) hN1 hR1 (fun I4 f' hf4 n1 e1 e2 g20 g19 => ?_) (fun I4 _ e2 hf4 g19 g20 g22 hR4 => ?_)
      · rw [if_pos rfl] at e1
        have e2 := e2 rfl
        rw [if_pos e2] at hb
        exact hb I4 f' _ _ (hf1.n.trans hf4) n1 (Or.inl ⟨by dsimp only; omega, e1⟩) g20 g19 s2
      · rw [if_neg e2] at hq
        exact hq I4 (hf1.n.trans hf4) rfl g19 g20 g22 hR4
    refine s_istore_n (i := 2) dX12_readsPart_7 rfl (by decide) (by simp only [sl, sl2, rm, Value.category, reduceIte, Nat.reduceAdd, Nat.reduceEqDiff, reduceCtorEq]; rfl) ?_
    refine s_iload_n (i := 2) dX12_readsPart_8 rfl rfl ?_
    refine s_istore_n (i := 3) dX12_readsPart_9 rfl (by decide) (by simp only [sl, sl2, rm, Value.category, reduceIte, Nat.reduceAdd, Nat.reduceEqDiff, reduceCtorEq]; rfl) ?_
    refine s_aload_n (i := 0) dX12_readsPart_10 rfl rfl ?_
    refine s_getI dX12_readsPart_11 fl_X12_180 (by assumption) (by assumption) ?_
    rw [hN1.2.1]
    refine s_iconst (v := -1) dX12_readsPart_14 (by decide) ?_
    refine s_icmp_ne (tgt := 47) dX12_readsPart_15 (by decide) (fun h15 => absurd h15 (fun h => h zm1.symm)) (fun h15 => ?_)
    refine s_aload_n (i := 0) dX12_readsPart_18 rfl rfl ?_
    refine s_cV_ (My := mX12_next) dX12_readsPart_19 wM_X12_176 cb_yX12_next ci_yX12_next (by assumption) (by assumption) (Nat.le_of_ble_eq_true rfl) (by decide) (s_d (by omega) (m_next (d := 0) hM hT htl hX1 hN1.1 (by omega) ?_))
    refine s_bipush (v := 45) dX12_readsPart_22 (by decide) ?_
    refine s_icmp_ne (tgt := 47) dX12_readsPart_24 (by decide) (fun h24 => ?_) (fun h24 => absurd h24 (fun h => by rw [zl45, zI_eq (by omega) (by omega) (by omega) (by omega)] at h; omega))
    exact hlast _ ⟨rfl, rfl, rfl, rfl, trivial⟩
