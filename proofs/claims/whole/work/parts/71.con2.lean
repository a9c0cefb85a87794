/-! rows of objects -/
def aR (i base st : Nat) : Nat → Option Nat := fun q => if q < i then some (base + st * q) else none
theorem aR_step (i base st : Nat) : ∀ q, sR i (base + st * i) (aR i base st) q = aR (i + 1) base st q := by
  intro q
  unfold sR aR
  by_cases e : q = i
  · rw [if_pos e, if_pos (by omega), e]
  · rw [if_neg e]
    by_cases c : q < i
    · rw [if_pos c, if_pos (by omega)]
    · rw [if_neg c, if_neg (by omega)]
theorem Own.cg {T : fT} {I : fI} {a kd len : Nat} {R R' : Nat → Option Nat} {V : Nat → Int32} (h : Own T I a kd len R V) (hr : ∀ q, R q = R' q) : Own T I a kd len R' V := ⟨h.1, h.2.1, fun j => by rw [← hr j]; exact h.2.2.1 j, h.2.2.2⟩
theorem aR0 (base st : Nat) : ∀ q, nR q = aR 0 base st q := fun q => by unfold nR aR; rw [if_neg (by omega)]
def HisN (T : fT) (I : fI) (b : Nat) : Prop := OwnA T I b 5 0 (sR 1 (b + 2) (sR 0 (b + 1) nR)) zV ∧ OwnA T I (b + 1) 13 8 nR zV ∧ OwnA T I (b + 2) 15 8 (aR 8 (b + 3) 4) zV ∧ ∀ s, s < 8 → CutN T I (b + 3 + 4 * s)
theorem HisN.sm {T T' : fT} {I I' : fI} {b : Nat} (h : HisN T I b) (hs : ∀ a, b ≤ a → a < b + 35 → sm T T' I I' a) : HisN T' I' b := ⟨h.1.sm (fun a h1 h2 => hs a (by omega) (by omega)), h.2.1.sm (fun a h1 h2 => hs a (by omega) (by omega)), h.2.2.1.sm (fun a h1 h2 => hs a (by omega) (by omega)), fun s hs2 => (h.2.2.2 s hs2).sm (fun a h1 h2 => hs a (by omega) (by omega))⟩
def PacN (T : fT) (I : fI) (b : Nat) : Prop := OwnA T I b 8 0 (sR 2 (b + 3) (sR 1 (b + 2) (sR 0 (b + 1) nR))) zV ∧ OwnA T I (b + 1) 13 201 nR zV ∧ OwnA T I (b + 2) 13 201 nR zV ∧ OwnA T I (b + 3) 16 21 (aR 21 (b + 4) 3) zV ∧ ∀ s, s < 21 → WinN T I (b + 4 + 3 * s) (zI s)
theorem PacN.sm {T T' : fT} {I I' : fI} {b : Nat} (h : PacN T I b) (hs : ∀ a, b ≤ a → a < b + 67 → sm T T' I I' a) : PacN T' I' b := ⟨h.1.sm (fun a h1 h2 => hs a (by omega) (by omega)), h.2.1.sm (fun a h1 h2 => hs a (by omega) (by omega)), h.2.2.1.sm (fun a h1 h2 => hs a (by omega) (by omega)), h.2.2.2.1.sm (fun a h1 h2 => hs a (by omega) (by omega)), fun s hs2 => (h.2.2.2.2 s hs2).sm (fun a h1 h2 => hs a (by omega) (by omega))⟩
set_option maxRecDepth 100000 in
set_option maxHeartbeats 1000000 in
theorem ml_His {G : fG} {x0 : Nat} {l : Launch} {d k n : Nat} {Q : Option Value → fT → fI → fJ → Prop} {b : Nat} : ∀ (t i : Nat) (T : fT) (I : fI) (J : fJ), i + t = 8 → T.1 = b + 3 + 4 * i → Own T I b 5 0 (sR 1 (b + 2) (sR 0 (b + 1) nR)) zV → Own T I (b + 2) 15 8 (aR i (b + 3) 4) zV → OwnA T I (b + 1) 13 8 nR zV → (∀ s, s < i → CutN T I (b + 3 + 4 * s)) → (∀ (T' : fT) (I' : fI) (J' : fJ), T'.1 = b + 35 → (∀ a, a < b → sm T T' I I' a) → HisN T' I' b → Q none T' I' J') → PW G x0 l mX5_init (d + 3) (ZM G x0 Q) (k + 4 * t) (n + 405 * t) 23 [(0, .ref (x0 + b)), (1, .int (zI i))] [] T I J := by
  intro t
  induction t with
  | zero =>
    intro i T I J ht hT ow oa f1 hcs hq
    have hi : i = 8 := by omega
    subst hi
    refine s_iload_n (i := 1) dX5_init_23 rfl rfl ?_
    refine s_bipush (v := 8) dX5_init_24 (by decide) ?_
    refine s_icmp_ge (tgt := 48) dX5_init_26 (by decide) (fun h26 => ?_) (fun h26 => absurd (by decide) h26)
    refine s_ret dX5_init_48 rfl ?_
    exact hq T I J (by omega) (fun a _ => sm.rf T I a) ⟨ow, f1, oa, hcs⟩
  | succ t ih =>
    intro i T I J ht hT ow oa f1 hcs hq
    refine s_iload_n (i := 1) dX5_init_23 rfl rfl ?_
    refine s_bipush (v := 8) dX5_init_24 (by decide) ?_
    refine s_icmp_ge (tgt := 48) dX5_init_26 (by decide) (fun h26 => absurd h26 (fun h => by rw [zl8] at h; rw [zI_le (by omega) (by omega) (by omega) (by omega)] at h; omega)) (fun h26 => ?_)
    refine s_aload_n (i := 0) dX5_init_29 rfl rfl ?_
    refine s_getR dX5_init_30 fl_X5_17 (by omega) ow.1 (by rw [ow.2.2.1]; rfl) ?_
    refine s_iload_n (i := 1) dX5_init_33 rfl rfl ?_
    refine s_kn (k' := (k + 4 * t + 3) + 1) (n' := (n + 405 * t + 402) + 3) (by omega) (by omega) ?_
    refine n_new (N := b + 3 + 4 * i) hT dX5_init_34 wL_X5_15 cf_X2 (fun T1 I1 J1 hT1 hs oc => ?_)
    replace ow := ow.sm (hs _ (by omega))
    replace oa := oa.sm (hs _ (by omega))
    replace f1 := f1.sm (fun a h1 h2 => hs a (by omega))
    have hac : ∀ a, a < b → sm T T1 I I1 a := fun a h => hs a (by omega)
    replace hcs := fun s h => (hcs s h).sm (fun a h1 h2 => hs a (by omega))
    clear hs
    refine s_dup dX5_init_37 rfl ?_
    refine s_kn (k' := (k + 4 * t) + 3) (n' := (n + 405 * t) + 402) (by omega) (by omega) ?_
    refine s_cIN_ (k' := 3) (n' := 402) (My := mX2_init) dX5_init_38 wX_X5_21 cb_yX2_init wI_yX2_init rfl rfl (Nat.le_of_ble_eq_true rfl) (by decide) (s_d (by omega) (s_kn (k' := 0 + 3) (n' := 0 + 402) (by omega) (by omega) (i_Cut (d := 0) (b := b + 3 + 4 * i) (by omega) oc (fun T2 I2 J2 hT2 hs fc => ?_))))
    replace ow := ow.sm (hs _ (by omega))
    replace oa := oa.sm (hs _ (by omega))
    replace f1 := f1.sm (fun a h1 h2 => hs a (by omega))
    replace hac : ∀ a, a < b → sm T T2 I I2 a := fun a h => (hac a h).tr (hs a (by omega))
    replace hcs := fun s h => (hcs s h).sm (fun a h1 h2 => hs a (by omega))
    clear hs
    refine n_astC (i := i) (len := 8) dX5_init_41 (by omega) oa (by omega) fc.1.1 rfl (by omega) (by omega) (fun T3 hN3 hs oa3 => ?_)
    replace ow := ow.sm (hs _ (by omega))
    replace f1 := f1.sm (fun a h1 h2 => hs a (by omega))
    replace hac : ∀ a, a < b → sm T T3 I I2 a := fun a h => (hac a h).tr (hs a (by omega))
    replace hcs := fun s h => (hcs s h).sm (fun a h1 h2 => hs a (by omega))
    replace fc := fc.sm (fun a h1 h2 => hs a (by omega))
    refine s_iinc dX5_init_42 rfl (zI_inc _) (by decide) (by simp only [sl, sl2, rm, Value.category, reduceIte, Nat.reduceAdd, Nat.reduceEqDiff, reduceCtorEq]; rfl) ?_
    refine s_goto (tgt := 23) dX5_init_45 (by decide) ?_
    exact ih (i + 1) T3 I2 J2 (by omega) (by omega) ow (oa3.cg (aR_step i _ _)) f1 (fun s h => by
      by_cases e : s = i
      · rw [e]; exact fc
      · exact hcs s (by omega)) (fun T' I' J' h1 h2 h3 => hq T' I' J' h1 (fun a h => (hac a h).tr (h2 a h)) h3)
set_option maxRecDepth 100000 in
set_option maxHeartbeats 1000000 in
theorem ml_Pac {G : fG} {x0 : Nat} {l : Launch} {d k n : Nat} {Q : Option Value → fT → fI → fJ → Prop} {b : Nat} : ∀ (t i : Nat) (T : fT) (I : fI) (J : fJ), i + t = 21 → T.1 = b + 4 + 3 * i → Own T I b 8 0 (sR 2 (b + 3) (sR 1 (b + 2) (sR 0 (b + 1) nR))) zV → Own T I (b + 3) 16 21 (aR i (b + 4) 3) zV → OwnA T I (b + 1) 13 201 nR zV → OwnA T I (b + 2) 13 201 nR zV → (∀ s, s < i → WinN T I (b + 4 + 3 * s) (zI s)) → (∀ (T' : fT) (I' : fI) (J' : fJ), T'.1 = b + 67 → (∀ a, a < b → sm T T' I I' a) → PacN T' I' b → Q none T' I' J') → PW G x0 l mX8_init (d + 2) (ZM G x0 Q) (k + 3 * t) (n + 134 * t) 33 [(0, .ref (x0 + b)), (1, .int (zI i))] [] T I J := by
  intro t
  induction t with
  | zero =>
    intro i T I J ht hT ow oa f1 f2 hcs hq
    have hi : i = 21 := by omega
    subst hi
    refine s_iload_n (i := 1) dX8_init_33 rfl rfl ?_
    refine s_bipush (v := 20) dX8_init_34 (by decide) ?_
    refine s_icmp_gt (tgt := 59) dX8_init_36 (by decide) (fun h36 => ?_) (fun h36 => absurd (by decide) h36)
    refine s_ret dX8_init_59 rfl ?_
    exact hq T I J (by omega) (fun a _ => sm.rf T I a) ⟨ow, f1, f2, oa, hcs⟩
  | succ t ih =>
    intro i T I J ht hT ow oa f1 f2 hcs hq
    refine s_iload_n (i := 1) dX8_init_33 rfl rfl ?_
    refine s_bipush (v := 20) dX8_init_34 (by decide) ?_
    refine s_icmp_gt (tgt := 59) dX8_init_36 (by decide) (fun h36 => absurd h36 (fun h => by rw [zl20] at h; rw [zI_lt (by omega) (by omega) (by omega) (by omega)] at h; omega)) (fun h36 => ?_)
    refine s_aload_n (i := 0) dX8_init_39 rfl rfl ?_
    refine s_getR dX8_init_40 fl_X8_20 (by omega) ow.1 (by rw [ow.2.2.1]; rfl) ?_
    refine s_iload_n (i := 1) dX8_init_43 rfl rfl ?_
    refine s_kn (k' := (k + 3 * t + 2) + 1) (n' := (n + 134 * t + 128) + 6) (by omega) (by omega) ?_
    refine n_new (N := b + 4 + 3 * i) hT dX8_init_44 wL_X8_18 cf_X10 (fun T1 I1 J1 hT1 hs oc => ?_)
    replace ow := ow.sm (hs _ (by omega))
    replace oa := oa.sm (hs _ (by omega))
    replace f1 := f1.sm (fun a h1 h2 => hs a (by omega))
    replace f2 := f2.sm (fun a h1 h2 => hs a (by omega))
    have hac : ∀ a, a < b → sm T T1 I I1 a := fun a h => hs a (by omega)
    replace hcs := fun s h => (hcs s h).sm (fun a h1 h2 => hs a (by omega))
    clear hs
    refine s_dup dX8_init_47 rfl ?_
    refine s_iload_n (i := 1) dX8_init_48 rfl rfl ?_
    refine s_kn (k' := (k + 3 * t) + 2) (n' := (n + 134 * t) + 128) (by omega) (by omega) ?_
    refine s_cI_I (k' := 2) (n' := 128) (My := mX10_init) dX8_init_49 wM_X8_24 cb_yX10_init wI_yX10_init rfl rfl (Nat.le_of_ble_eq_true rfl) (by decide) (s_d (by omega) (s_kn (k' := 0 + 2) (n' := 0 + 128) (by omega) (by omega) (i_Win (d := 0) (b := b + 4 + 3 * i) (by omega) oc (fun T2 I2 J2 hT2 hs fc => ?_))))
    replace ow := ow.sm (hs _ (by omega))
    replace oa := oa.sm (hs _ (by omega))
    replace f1 := f1.sm (fun a h1 h2 => hs a (by omega))
    replace f2 := f2.sm (fun a h1 h2 => hs a (by omega))
    replace hac : ∀ a, a < b → sm T T2 I I2 a := fun a h => (hac a h).tr (hs a (by omega))
    replace hcs := fun s h => (hcs s h).sm (fun a h1 h2 => hs a (by omega))
    clear hs
    refine n_astW (i := i) (len := 21) dX8_init_52 (by omega) oa (by omega) fc.1.1 rfl (by omega) (by omega) (fun T3 hN3 hs oa3 => ?_)
    replace ow := ow.sm (hs _ (by omega))
    replace f1 := f1.sm (fun a h1 h2 => hs a (by omega))
    replace f2 := f2.sm (fun a h1 h2 => hs a (by omega))
    replace hac : ∀ a, a < b → sm T T3 I I2 a := fun a h => (hac a h).tr (hs a (by omega))
    replace hcs := fun s h => (hcs s h).sm (fun a h1 h2 => hs a (by omega))
    replace fc := fc.sm (fun a h1 h2 => hs a (by omega))
    refine s_iinc dX8_init_53 rfl (zI_inc _) (by decide) (by simp only [sl, sl2, rm, Value.category, reduceIte, Nat.reduceAdd, Nat.reduceEqDiff, reduceCtorEq]; rfl) ?_
    refine s_goto (tgt := 33) dX8_init_56 (by decide) ?_
    exact ih (i + 1) T3 I2 J2 (by omega) (by omega) ow (oa3.cg (aR_step i _ _)) f1 f2 (fun s h => by
      by_cases e : s = i
      · rw [e]; exact fc
      · exact hcs s (by omega)) (fun T' I' J' h1 h2 h3 => hq T' I' J' h1 (fun a h => (hac a h).tr (h2 a h)) h3)
set_option maxRecDepth 100000 in
set_option maxHeartbeats 1000000 in
theorem i_His {G : fG} {x0 : Nat} {l : Launch} {d k n : Nat} {T : fT} {I : fI} {J : fJ} {Q : Option Value → fT → fI → fJ → Prop} {b : Nat} (hT : T.1 = b + 1) (ow : Own T I b 5 0 nR zV) (hq : ∀ (T' : fT) (I' : fI) (J' : fJ), T'.1 = b + 35 → (∀ a, a < b → sm T T' I I' a) → HisN T' I' b → Q none T' I' J') : PW G x0 l mX5_init (d + 3) (ZM G x0 Q) (k + 34) (n + 3256) 0 [(0, .ref (x0 + b))] [] T I J := by
  have hac : ∀ a, a < b → sm T T I I a := fun a _ => sm.rf T I a
  refine s_aload_n (i := 0) dX5_init_0 rfl rfl ?_
  refine s_objInit dX5_init_1 wM_X5_3 (Nat.le_of_ble_eq_true rfl) ?_
  refine s_aload_n (i := 0) dX5_init_4 rfl rfl ?_
  refine s_bipush (v := 8) dX5_init_5 (by decide) ?_
  refine s_kn (k' := (k + 33) + 1) (n' := (n + 3248) + 8) (by omega) (by omega) ?_
  refine n_newI (N := b + 1) (len := 8) hT dX5_init_7 (by decide) (by decide) (by decide) (fun T1 I1 J1 hT1 hs fa1 => ?_)
  replace hac := fun (a : Nat) (h : a < b) => (hac a h).tr (hs a (by omega))
  replace ow := ow.sm (hs b (by omega))
  replace hT : T1.1 = b + 2 := by omega
  clear hT1 hs
  refine n_putR (v := b + 1) dX5_init_9 fp_X5_9 (Or.inr ⟨rfl, rfl⟩) rfl rfl (by omega) ow (fun T2 hN2 hs ow1 => ?_)
  replace hT := hN2.trans hT
  replace fa1 := fa1.sm (fun a h1 h2 => hs a (by omega))
  replace hac := fun (a : Nat) (h : a < b) => (hac a h).tr (hs a (by omega))
  replace ow := ow1
  clear ow1 hs
  clear hN2
  refine s_aload_n (i := 0) dX5_init_12 rfl rfl ?_
  refine s_bipush (v := 8) dX5_init_13 (by decide) ?_
  refine s_kn (k' := (k + 32) + 1) (n' := (n + 3240) + 8) (by omega) (by omega) ?_
  refine n_newAC (N := b + 2) (len := 8) hT dX5_init_15 wL_X5_15 (by decide) (by decide) (by decide) (fun T3 I3 J3 hT1 hs fa2 => ?_)
  replace fa1 := fa1.sm (fun a h1 h2 => hs a (by omega))
  replace hac := fun (a : Nat) (h : a < b) => (hac a h).tr (hs a (by omega))
  replace ow := ow.sm (hs b (by omega))
  replace hT : T3.1 = b + 3 := by omega
  clear hT1 hs
  refine n_putR (v := b + 2) dX5_init_18 fp_X5_17 (Or.inr ⟨rfl, rfl⟩) rfl rfl (by omega) ow (fun T4 hN2 hs ow1 => ?_)
  replace hT := hN2.trans hT
  replace fa1 := fa1.sm (fun a h1 h2 => hs a (by omega))
  replace fa2 := fa2.sm (fun a h1 h2 => hs a (by omega))
  replace hac := fun (a : Nat) (h : a < b) => (hac a h).tr (hs a (by omega))
  replace ow := ow1
  clear ow1 hs
  clear hN2
  refine s_iconst (v := 0) dX5_init_21 (by decide) ?_
  refine s_istore_n (i := 1) dX5_init_22 rfl (by decide) (by simp only [sl, sl2, rm, Value.category, reduceIte, Nat.reduceAdd, Nat.reduceEqDiff, reduceCtorEq]; rfl) ?_
  refine s_kn (k' := k + 4 * 8) (n' := n + 405 * 8) (by omega) (by omega) ?_
  exact ml_His 8 0 T4 I3 J3 (by omega) (by omega) ow (fa2.cg (aR0 _ _)) fa1 (fun s h => absurd h (Nat.not_lt_zero s)) (fun T' I' J' h1 h2 h3 => hq T' I' J' h1 (fun a h => (hac a h).tr (h2 a h)) h3)
set_option maxRecDepth 100000 in
set_option maxHeartbeats 1000000 in
theorem i_Pac {G : fG} {x0 : Nat} {l : Launch} {d k n : Nat} {T : fT} {I : fI} {J : fJ} {Q : Option Value → fT → fI → fJ → Prop} {b : Nat} (hT : T.1 = b + 1) (ow : Own T I b 8 0 nR zV) (hq : ∀ (T' : fT) (I' : fI) (J' : fJ), T'.1 = b + 67 → (∀ a, a < b → sm T T' I I' a) → PacN T' I' b → Q none T' I' J') : PW G x0 l mX8_init (d + 2) (ZM G x0 Q) (k + 66) (n + 3237) 0 [(0, .ref (x0 + b))] [] T I J := by
  have hac : ∀ a, a < b → sm T T I I a := fun a _ => sm.rf T I a
  refine s_aload_n (i := 0) dX8_init_0 rfl rfl ?_
  refine s_objInit dX8_init_1 wM_X8_3 (Nat.le_of_ble_eq_true rfl) ?_
  refine s_aload_n (i := 0) dX8_init_4 rfl rfl ?_
  refine s_sipush (v := 201) dX8_init_5 (by decide) ?_
  refine s_kn (k' := (k + 65) + 1) (n' := (n + 3036) + 201) (by omega) (by omega) ?_
  refine n_newI (N := b + 1) (len := 201) hT dX8_init_8 (by decide) (by decide) (by decide) (fun T1 I1 J1 hT1 hs fa1 => ?_)
  replace hac := fun (a : Nat) (h : a < b) => (hac a h).tr (hs a (by omega))
  replace ow := ow.sm (hs b (by omega))
  replace hT : T1.1 = b + 2 := by omega
  clear hT1 hs
  refine n_putR (v := b + 1) dX8_init_10 fp_X8_9 (Or.inr ⟨rfl, rfl⟩) rfl rfl (by omega) ow (fun T2 hN2 hs ow1 => ?_)
  replace hT := hN2.trans hT
  replace fa1 := fa1.sm (fun a h1 h2 => hs a (by omega))
  replace hac := fun (a : Nat) (h : a < b) => (hac a h).tr (hs a (by omega))
  replace ow := ow1
  clear ow1 hs
  clear hN2
  refine s_aload_n (i := 0) dX8_init_13 rfl rfl ?_
  refine s_sipush (v := 201) dX8_init_14 (by decide) ?_
  refine s_kn (k' := (k + 64) + 1) (n' := (n + 2835) + 201) (by omega) (by omega) ?_
  refine n_newI (N := b + 2) (len := 201) hT dX8_init_17 (by decide) (by decide) (by decide) (fun T3 I3 J3 hT1 hs fa2 => ?_)
  replace fa1 := fa1.sm (fun a h1 h2 => hs a (by omega))
  replace hac := fun (a : Nat) (h : a < b) => (hac a h).tr (hs a (by omega))
  replace ow := ow.sm (hs b (by omega))
  replace hT : T3.1 = b + 3 := by omega
  clear hT1 hs
  refine n_putR (v := b + 2) dX8_init_19 fp_X8_15 (Or.inr ⟨rfl, rfl⟩) rfl rfl (by omega) ow (fun T4 hN2 hs ow1 => ?_)
  replace hT := hN2.trans hT
  replace fa1 := fa1.sm (fun a h1 h2 => hs a (by omega))
  replace fa2 := fa2.sm (fun a h1 h2 => hs a (by omega))
  replace hac := fun (a : Nat) (h : a < b) => (hac a h).tr (hs a (by omega))
  replace ow := ow1
  clear ow1 hs
  clear hN2
  refine s_aload_n (i := 0) dX8_init_22 rfl rfl ?_
  refine s_bipush (v := 21) dX8_init_23 (by decide) ?_
  refine s_kn (k' := (k + 63) + 1) (n' := (n + 2814) + 21) (by omega) (by omega) ?_
  refine n_newAW (N := b + 3) (len := 21) hT dX8_init_25 wL_X8_18 (by decide) (by decide) (by decide) (fun T5 I5 J5 hT1 hs fa3 => ?_)
  replace fa1 := fa1.sm (fun a h1 h2 => hs a (by omega))
  replace fa2 := fa2.sm (fun a h1 h2 => hs a (by omega))
  replace hac := fun (a : Nat) (h : a < b) => (hac a h).tr (hs a (by omega))
  replace ow := ow.sm (hs b (by omega))
  replace hT : T5.1 = b + 4 := by omega
  clear hT1 hs
  refine n_putR (v := b + 3) dX8_init_28 fp_X8_20 (Or.inr ⟨rfl, rfl⟩) rfl rfl (by omega) ow (fun T6 hN2 hs ow1 => ?_)
  replace hT := hN2.trans hT
  replace fa1 := fa1.sm (fun a h1 h2 => hs a (by omega))
  replace fa2 := fa2.sm (fun a h1 h2 => hs a (by omega))
  replace fa3 := fa3.sm (fun a h1 h2 => hs a (by omega))
  replace hac := fun (a : Nat) (h : a < b) => (hac a h).tr (hs a (by omega))
  replace ow := ow1
  clear ow1 hs
  clear hN2
  refine s_iconst (v := 0) dX8_init_31 (by decide) ?_
  refine s_istore_n (i := 1) dX8_init_32 rfl (by decide) (by simp only [sl, sl2, rm, Value.category, reduceIte, Nat.reduceAdd, Nat.reduceEqDiff, reduceCtorEq]; rfl) ?_
  refine s_kn (k' := k + 3 * 21) (n' := n + 134 * 21) (by omega) (by omega) ?_
  exact ml_Pac 21 0 T6 I5 J5 (by omega) (by omega) ow (fa3.cg (aR0 _ _)) fa1 fa2 (fun s h => absurd h (Nat.not_lt_zero s)) (fun T' I' J' h1 h2 h3 => hq T' I' J' h1 (fun a h => (hac a h).tr (h2 a h)) h3)
def PlP (T : fT) (I : fI) : Prop := HisN T I 2 ∧ CacN T I 37 ∧ RowN T I 40 100 ∧ ViewN T I 42 ∧ PacN T I 44 ∧ GalN T I 111 ∧ NrN T I 112 ∧ ExN T I 115
theorem PlP.sm {T T' : fT} {I I' : fI} (h : PlP T I) (hs : ∀ a, 2 ≤ a → a < 120 → sm T T' I I' a) : PlP T' I' := ⟨h.1.sm (fun a h1 h2 => hs a (by omega) (by omega)), h.2.1.sm (fun a h1 h2 => hs a (by omega) (by omega)), h.2.2.1.sm (fun a h1 h2 => hs a (by omega) (by omega)), h.2.2.2.1.sm (fun a h1 h2 => hs a (by omega) (by omega)), h.2.2.2.2.1.sm (fun a h1 h2 => hs a (by omega) (by omega)), h.2.2.2.2.2.1.sm (fun a h1 h2 => hs a (by omega) (by omega)), h.2.2.2.2.2.2.1.sm (fun a h1 h2 => hs a (by omega) (by omega)), h.2.2.2.2.2.2.2.sm (fun a h1 h2 => hs a (by omega) (by omega))⟩
def PlN (T : fT) (I : fI) : Prop := OwnA T I 0 11 0 (sR 8 115 (sR 7 112 (sR 6 111 (sR 5 44 (sR 4 42 (sR 3 40 (sR 2 37 (sR 1 2 (sR 0 1 nR))))))))) zV ∧ OwnA T I 1 15 6 (aR 6 120 4) zV ∧ PlP T I ∧ ∀ s, s < 6 → CutN T I (120 + 4 * s)
theorem PlN.sm {T T' : fT} {I I' : fI} (h : PlN T I) (hs : ∀ a, a < 144 → sm T T' I I' a) : PlN T' I' := ⟨h.1.sm (fun a h1 h2 => hs a (by omega)), h.2.1.sm (fun a h1 h2 => hs a (by omega)), h.2.2.1.sm (fun a h1 h2 => hs a (by omega)), fun s h3 => (h.2.2.2 s h3).sm (fun a h1 h2 => hs a (by omega))⟩
set_option maxRecDepth 100000 in
set_option maxHeartbeats 1000000 in
theorem ml_Pl {G : fG} {x0 : Nat} {l : Launch} {d k n : Nat} {Q : Option Value → fT → fI → fJ → Prop} : ∀ (t i : Nat) (T : fT) (I : fI) (J : fJ), i + t = 6 → T.1 = 120 + 4 * i → Own T I 0 11 0 (sR 8 115 (sR 7 112 (sR 6 111 (sR 5 44 (sR 4 42 (sR 3 40 (sR 2 37 (sR 1 2 (sR 0 1 nR))))))))) zV → Own T I 1 15 6 (aR i 120 4) zV → PlP T I → (∀ s, s < i → CutN T I (120 + 4 * s)) → (∀ (T' : fT) (I' : fI) (J' : fJ), T'.1 = 144 → PlN T' I' → Q none T' I' J') → PW G x0 l mX11_init (d + 4) (ZM G x0 Q) (k + 4 * t) (n + 405 * t) 105 [(0, .ref (x0 + 0)), (1, .int (zI i))] [] T I J := by
  intro t
  induction t with
  | zero =>
    intro i T I J ht hT ow oa hp hcs hq
    have hi : i = 6 := by omega
    subst hi
    refine s_iload_n (i := 1) dX11_init_105 rfl rfl ?_
    refine s_bipush (v := 6) dX11_init_106 (by decide) ?_
    refine s_icmp_ge (tgt := 130) dX11_init_108 (by decide) (fun h108 => ?_) (fun h108 => absurd (by decide) h108)
    refine s_ret dX11_init_130 rfl ?_
    exact hq T I J (by omega) ⟨ow, oa, hp, hcs⟩
  | succ t ih =>
    intro i T I J ht hT ow oa hp hcs hq
    refine s_iload_n (i := 1) dX11_init_105 rfl rfl ?_
    refine s_bipush (v := 6) dX11_init_106 (by decide) ?_
    refine s_icmp_ge (tgt := 130) dX11_init_108 (by decide) (fun h108 => absurd h108 (fun h => by rw [zl6] at h; rw [zI_le (by omega) (by omega) (by omega) (by omega)] at h; omega)) (fun h108 => ?_)
    refine s_aload_n (i := 0) dX11_init_111 rfl rfl ?_
    refine s_getR dX11_init_112 fl_X11_11 (by omega) ow.1 (by rw [ow.2.2.1]; rfl) ?_
    refine s_iload_n (i := 1) dX11_init_115 rfl rfl ?_
    refine s_kn (k' := (k + 4 * t + 3) + 1) (n' := (n + 405 * t + 402) + 3) (by omega) (by omega) ?_
    refine n_new (N := 120 + 4 * i) hT dX11_init_116 wL_X11_9 cf_X2 (fun T1 I1 J1 hT1 hs oc => ?_)
    replace ow := ow.sm (hs _ (by omega))
    replace oa := oa.sm (hs _ (by omega))
    replace hp := hp.sm (fun a h1 h2 => hs a (by omega))
    replace hcs := fun s h => (hcs s h).sm (fun a h1 h2 => hs a (by omega))
    clear hs
    refine s_dup dX11_init_119 rfl ?_
    refine s_kn (k' := (k + 4 * t) + 3) (n' := (n + 405 * t) + 402) (by omega) (by omega) ?_
    refine s_cIN_ (k' := 3) (n' := 402) (My := mX2_init) dX11_init_120 wX_X11_73 cb_yX2_init wI_yX2_init rfl rfl (Nat.le_of_ble_eq_true rfl) (by decide) (s_d (by omega) (s_kn (k' := 0 + 3) (n' := 0 + 402) (by omega) (by omega) (i_Cut (d := 0) (b := 120 + 4 * i) (by omega) oc (fun T2 I2 J2 hT2 hs fc => ?_))))
    replace ow := ow.sm (hs _ (by omega))
    replace oa := oa.sm (hs _ (by omega))
    replace hp := hp.sm (fun a h1 h2 => hs a (by omega))
    replace hcs := fun s h => (hcs s h).sm (fun a h1 h2 => hs a (by omega))
    clear hs
    refine n_astC (i := i) (len := 6) dX11_init_123 (by omega) oa (by omega) fc.1.1 rfl (by omega) (by omega) (fun T3 hN3 hs oa3 => ?_)
    replace ow := ow.sm (hs _ (by omega))
    replace hp := hp.sm (fun a h1 h2 => hs a (by omega))
    replace hcs := fun s h => (hcs s h).sm (fun a h1 h2 => hs a (by omega))
    replace fc := fc.sm (fun a h1 h2 => hs a (by omega))
    refine s_iinc dX11_init_124 rfl (zI_inc _) (by decide) (by simp only [sl, sl2, rm, Value.category, reduceIte, Nat.reduceAdd, Nat.reduceEqDiff, reduceCtorEq]; rfl) ?_
    refine s_goto (tgt := 105) dX11_init_127 (by decide) ?_
    exact ih (i + 1) T3 I2 J2 (by omega) (by omega) ow (oa3.cg (aR_step i _ _)) hp (fun s h => by
      by_cases e : s = i
      · rw [e]; exact fc
      · exact hcs s (by omega)) hq
set_option maxRecDepth 100000 in
set_option maxHeartbeats 1000000 in
theorem i_Pl {G : fG} {x0 : Nat} {l : Launch} {d k n : Nat} {Q : Option Value → fT → fI → fJ → Prop} {T : fT} {I : fI} {J : fJ} (hT : T.1 = 1) (ow : Own T I 0 11 0 nR zV) (hq : ∀ (T' : fT) (I' : fI) (J' : fJ), T'.1 = 144 → PlN T' I' → Q none T' I' J') : PW G x0 l mX11_init (d + 4) (ZM G x0 Q) (k + 143) (n + 9495) 0 [(0, .ref (x0 + 0))] [] T I J := by
  have hac : ∀ a, a < 0 → sm T T I I a := fun a _ => sm.rf T I a
  refine s_aload_n (i := 0) dX11_init_0 rfl rfl ?_
  refine s_objInit dX11_init_1 wM_X11_1 (Nat.le_of_ble_eq_true rfl) ?_
  refine s_aload_n (i := 0) dX11_init_4 rfl rfl ?_
  refine s_bipush (v := 6) dX11_init_5 (by decide) ?_
  refine s_kn (k' := (k + 142) + 1) (n' := (n + 9489) + 6) (by omega) (by omega) ?_
  refine n_newAC (N := 1) (len := 6) hT dX11_init_7 wL_X11_9 (by decide) (by decide) (by decide) (fun T1 I1 J1 hT1 hs fa1 => ?_)
  replace hac := fun (a : Nat) (h : a < 0) => (hac a h).tr (hs a (by omega))
  replace ow := ow.sm (hs 0 (by omega))
  replace hT : T1.1 = 2 := by omega
  clear hT1 hs
  refine n_putR (v := 1) dX11_init_10 fp_X11_11 (Or.inr ⟨rfl, rfl⟩) rfl rfl (by omega) ow (fun T2 hN2 hs ow1 => ?_)
  replace hT := hN2.trans hT
  replace fa1 := fa1.sm (fun a h1 h2 => hs a (by omega))
  replace hac := fun (a : Nat) (h : a < 0) => (hac a h).tr (hs a (by omega))
  replace ow := ow1
  clear ow1 hs
  clear hN2
  refine s_aload_n (i := 0) dX11_init_13 rfl rfl ?_
  refine s_kn (k' := (k + 141) + 1) (n' := (n + 9485) + 4) (by omega) (by omega) ?_
  refine n_new (N := 2) hT dX11_init_14 wL_X11_15 cf_X5 (fun T3 I3 J3 hT' hs oc => ?_)
  replace fa1 := fa1.sm (fun a h1 h2 => hs a (by omega))
  replace hac := fun (a : Nat) (h : a < 0) => (hac a h).tr (hs a (by omega))
  replace ow := ow.sm (hs 0 (by omega))
  replace hT : T3.1 = 3 := by omega
  clear hT' hs
  refine s_dup dX11_init_17 rfl ?_
  refine s_kn (k' := (k + 107) + 34) (n' := (n + 6229) + 3256) (by omega) (by omega) ?_
  refine s_cI_ (k' := 34) (n' := 3256) (My := mX5_init) dX11_init_18 wM_X11_17 cb_yX5_init wI_yX5_init rfl rfl (Nat.le_of_ble_eq_true rfl) (by decide) (s_d (by omega) (s_kn (k' := 0 + 34) (n' := 0 + 3256) (by omega) (by omega) (i_His (d := 0) (b := 2) (by omega) oc (fun T4 I4 J4 hT1 hs fc2 => ?_))))
  replace fa1 := fa1.sm (fun a h1 h2 => hs a (by omega))
  replace hac := fun (a : Nat) (h : a < 0) => (hac a h).tr (hs a (by omega))
  replace ow := ow.sm (hs 0 (by omega))
  replace hT : T4.1 = 37 := by omega
  clear hT1 hs oc
  refine n_putR (v := 2) dX11_init_21 fp_X11_18 (Or.inr ⟨rfl, rfl⟩) rfl rfl (by omega) ow (fun T5 hN2 hs ow1 => ?_)
  replace hT := hN2.trans hT
  replace fa1 := fa1.sm (fun a h1 h2 => hs a (by omega))
  replace fc2 := fc2.sm (fun a h1 h2 => hs a (by omega))
  replace hac := fun (a : Nat) (h : a < 0) => (hac a h).tr (hs a (by omega))
  replace ow := ow1
  clear ow1 hs
  clear hN2
  refine s_aload_n (i := 0) dX11_init_24 rfl rfl ?_
  refine s_kn (k' := (k + 106) + 1) (n' := (n + 6224) + 5) (by omega) (by omega) ?_
  refine n_new (N := 37) hT dX11_init_25 wL_X11_22 cf_X1 (fun T6 I6 J6 hT' hs oc => ?_)
  replace fa1 := fa1.sm (fun a h1 h2 => hs a (by omega))
  replace fc2 := fc2.sm (fun a h1 h2 => hs a (by omega))
  replace hac := fun (a : Nat) (h : a < 0) => (hac a h).tr (hs a (by omega))
  replace ow := ow.sm (hs 0 (by omega))
  replace hT : T6.1 = 38 := by omega
  clear hT' hs
  refine s_dup dX11_init_28 rfl ?_
  refine s_kn (k' := (k + 104) + 2) (n' := (n + 6216) + 8) (by omega) (by omega) ?_
  refine s_cIN_ (k' := 2) (n' := 8) (My := mX1_init) dX11_init_29 wX_X11_24 cb_yX1_init wI_yX1_init rfl rfl (Nat.le_of_ble_eq_true rfl) (by decide) (s_d (by omega) (s_kn (k' := 0 + 2) (n' := 0 + 8) (by omega) (by omega) (i_Cac (d := 0) (b := 37) (by omega) oc (fun T7 I7 J7 hT1 hs fc37 => ?_))))
  replace fa1 := fa1.sm (fun a h1 h2 => hs a (by omega))
  replace fc2 := fc2.sm (fun a h1 h2 => hs a (by omega))
  replace hac := fun (a : Nat) (h : a < 0) => (hac a h).tr (hs a (by omega))
  replace ow := ow.sm (hs 0 (by omega))
  replace hT : T7.1 = 40 := by omega
  clear hT1 hs oc
  refine n_putR (v := 37) dX11_init_32 fp_X11_25 (Or.inr ⟨rfl, rfl⟩) rfl rfl (by omega) ow (fun T8 hN2 hs ow1 => ?_)
  replace hT := hN2.trans hT
  replace fa1 := fa1.sm (fun a h1 h2 => hs a (by omega))
  replace fc2 := fc2.sm (fun a h1 h2 => hs a (by omega))
  replace fc37 := fc37.sm (fun a h1 h2 => hs a (by omega))
  replace hac := fun (a : Nat) (h : a < 0) => (hac a h).tr (hs a (by omega))
  replace ow := ow1
  clear ow1 hs
  clear hN2
  refine s_aload_n (i := 0) dX11_init_35 rfl rfl ?_
  refine s_kn (k' := (k + 103) + 1) (n' := (n + 6214) + 2) (by omega) (by omega) ?_
  refine n_new (N := 40) hT dX11_init_36 wL_X11_29 cf_X9 (fun T9 I9 J9 hT' hs oc => ?_)
  replace fa1 := fa1.sm (fun a h1 h2 => hs a (by omega))
  replace fc2 := fc2.sm (fun a h1 h2 => hs a (by omega))
  replace fc37 := fc37.sm (fun a h1 h2 => hs a (by omega))
  replace hac := fun (a : Nat) (h : a < 0) => (hac a h).tr (hs a (by omega))
  replace ow := ow.sm (hs 0 (by omega))
  replace hT : T9.1 = 41 := by omega
  clear hT' hs
  refine s_dup dX11_init_39 rfl ?_
  refine s_bipush (v := 100) dX11_init_40 (by decide) ?_
  refine s_kn (k' := (k + 102) + 1) (n' := (n + 6114) + 100) (by omega) (by omega) ?_
  refine s_cI_I (k' := 1) (n' := 100) (My := mX9_init) dX11_init_42 wM_X11_31 cb_yX9_init wI_yX9_init rfl rfl (Nat.le_of_ble_eq_true rfl) (by decide) (s_d (by omega) (s_kn (k' := 0 + 1) (n' := 0 + 100) (by omega) (by omega) (i_Row (d := 0) (cap := 100) (b := 40) (by omega) (by decide) oc (fun T10 I10 J10 hT1 hs fc40 => ?_))))
  replace fa1 := fa1.sm (fun a h1 h2 => hs a (by omega))
  replace fc2 := fc2.sm (fun a h1 h2 => hs a (by omega))
  replace fc37 := fc37.sm (fun a h1 h2 => hs a (by omega))
  replace hac := fun (a : Nat) (h : a < 0) => (hac a h).tr (hs a (by omega))
  replace ow := ow.sm (hs 0 (by omega))
  replace hT : T10.1 = 42 := by omega
  clear hT1 hs oc
  refine n_putR (v := 40) dX11_init_45 fp_X11_34 (Or.inr ⟨rfl, rfl⟩) rfl rfl (by omega) ow (fun T11 hN2 hs ow1 => ?_)
  replace hT := hN2.trans hT
  replace fa1 := fa1.sm (fun a h1 h2 => hs a (by omega))
  replace fc2 := fc2.sm (fun a h1 h2 => hs a (by omega))
  replace fc37 := fc37.sm (fun a h1 h2 => hs a (by omega))
  replace fc40 := fc40.sm (fun a h1 h2 => hs a (by omega))
  replace hac := fun (a : Nat) (h : a < 0) => (hac a h).tr (hs a (by omega))
  replace ow := ow1
  clear ow1 hs
  clear hN2
  refine s_aload_n (i := 0) dX11_init_48 rfl rfl ?_
  refine s_kn (k' := (k + 101) + 1) (n' := (n + 6107) + 7) (by omega) (by omega) ?_
  refine n_new (N := 42) hT dX11_init_49 wL_X11_38 cf_X0 (fun T12 I12 J12 hT' hs oc => ?_)
  replace fa1 := fa1.sm (fun a h1 h2 => hs a (by omega))
  replace fc2 := fc2.sm (fun a h1 h2 => hs a (by omega))
  replace fc37 := fc37.sm (fun a h1 h2 => hs a (by omega))
  replace fc40 := fc40.sm (fun a h1 h2 => hs a (by omega))
  replace hac := fun (a : Nat) (h : a < 0) => (hac a h).tr (hs a (by omega))
  replace ow := ow.sm (hs 0 (by omega))
  replace hT : T12.1 = 43 := by omega
  clear hT' hs
  refine s_dup dX11_init_52 rfl ?_
  refine s_kn (k' := (k + 100) + 1) (n' := (n + 6086) + 21) (by omega) (by omega) ?_
  refine s_cIN_ (k' := 1) (n' := 21) (My := mX0_init) dX11_init_53 wX_X11_40 cb_yX0_init wI_yX0_init rfl rfl (Nat.le_of_ble_eq_true rfl) (by decide) (s_d (by omega) (s_kn (k' := 0 + 1) (n' := 0 + 21) (by omega) (by omega) (i_View (d := 0) (b := 42) (by omega) oc (fun T13 I13 J13 hT1 hs fc42 => ?_))))
  replace fa1 := fa1.sm (fun a h1 h2 => hs a (by omega))
  replace fc2 := fc2.sm (fun a h1 h2 => hs a (by omega))
  replace fc37 := fc37.sm (fun a h1 h2 => hs a (by omega))
  replace fc40 := fc40.sm (fun a h1 h2 => hs a (by omega))
  replace hac := fun (a : Nat) (h : a < 0) => (hac a h).tr (hs a (by omega))
  replace ow := ow.sm (hs 0 (by omega))
  replace hT : T13.1 = 44 := by omega
  clear hT1 hs oc
  refine n_putR (v := 42) dX11_init_56 fp_X11_41 (Or.inr ⟨rfl, rfl⟩) rfl rfl (by omega) ow (fun T14 hN2 hs ow1 => ?_)
  replace hT := hN2.trans hT
  replace fa1 := fa1.sm (fun a h1 h2 => hs a (by omega))
  replace fc2 := fc2.sm (fun a h1 h2 => hs a (by omega))
  replace fc37 := fc37.sm (fun a h1 h2 => hs a (by omega))
  replace fc40 := fc40.sm (fun a h1 h2 => hs a (by omega))
  replace fc42 := fc42.sm (fun a h1 h2 => hs a (by omega))
  replace hac := fun (a : Nat) (h : a < 0) => (hac a h).tr (hs a (by omega))
  replace ow := ow1
  clear ow1 hs
  clear hN2
  refine s_aload_n (i := 0) dX11_init_59 rfl rfl ?_
  refine s_kn (k' := (k + 99) + 1) (n' := (n + 6083) + 3) (by omega) (by omega) ?_
  refine n_new (N := 44) hT dX11_init_60 wL_X11_45 cf_X8 (fun T15 I15 J15 hT' hs oc => ?_)
  replace fa1 := fa1.sm (fun a h1 h2 => hs a (by omega))
  replace fc2 := fc2.sm (fun a h1 h2 => hs a (by omega))
  replace fc37 := fc37.sm (fun a h1 h2 => hs a (by omega))
  replace fc40 := fc40.sm (fun a h1 h2 => hs a (by omega))
  replace fc42 := fc42.sm (fun a h1 h2 => hs a (by omega))
  replace hac := fun (a : Nat) (h : a < 0) => (hac a h).tr (hs a (by omega))
  replace ow := ow.sm (hs 0 (by omega))
  replace hT : T15.1 = 45 := by omega
  clear hT' hs
  refine s_dup dX11_init_63 rfl ?_
  refine s_kn (k' := (k + 33) + 66) (n' := (n + 2846) + 3237) (by omega) (by omega) ?_
  refine s_cI_ (k' := 66) (n' := 3237) (My := mX8_init) dX11_init_64 wM_X11_47 cb_yX8_init wI_yX8_init rfl rfl (Nat.le_of_ble_eq_true rfl) (by decide) (s_d (by omega) (s_kn (k' := 0 + 66) (n' := 0 + 3237) (by omega) (by omega) (i_Pac (d := 0) (b := 44) (by omega) oc (fun T16 I16 J16 hT1 hs fc44 => ?_))))
  replace fa1 := fa1.sm (fun a h1 h2 => hs a (by omega))
  replace fc2 := fc2.sm (fun a h1 h2 => hs a (by omega))
  replace fc37 := fc37.sm (fun a h1 h2 => hs a (by omega))
  replace fc40 := fc40.sm (fun a h1 h2 => hs a (by omega))
  replace fc42 := fc42.sm (fun a h1 h2 => hs a (by omega))
  replace hac := fun (a : Nat) (h : a < 0) => (hac a h).tr (hs a (by omega))
  replace ow := ow.sm (hs 0 (by omega))
  replace hT : T16.1 = 111 := by omega
  clear hT1 hs oc
  refine n_putR (v := 44) dX11_init_67 fp_X11_48 (Or.inr ⟨rfl, rfl⟩) rfl rfl (by omega) ow (fun T17 hN2 hs ow1 => ?_)
  replace hT := hN2.trans hT
  replace fa1 := fa1.sm (fun a h1 h2 => hs a (by omega))
  replace fc2 := fc2.sm (fun a h1 h2 => hs a (by omega))
  replace fc37 := fc37.sm (fun a h1 h2 => hs a (by omega))
  replace fc40 := fc40.sm (fun a h1 h2 => hs a (by omega))
  replace fc42 := fc42.sm (fun a h1 h2 => hs a (by omega))
  replace fc44 := fc44.sm (fun a h1 h2 => hs a (by omega))
  replace hac := fun (a : Nat) (h : a < 0) => (hac a h).tr (hs a (by omega))
  replace ow := ow1
  clear ow1 hs
  clear hN2
  refine s_aload_n (i := 0) dX11_init_70 rfl rfl ?_
  refine s_kn (k' := (k + 32) + 1) (n' := (n + 2844) + 2) (by omega) (by omega) ?_
  refine n_new (N := 111) hT dX11_init_71 wL_X11_52 cf_X4 (fun T18 I18 J18 hT' hs oc => ?_)
  replace fa1 := fa1.sm (fun a h1 h2 => hs a (by omega))
  replace fc2 := fc2.sm (fun a h1 h2 => hs a (by omega))
  replace fc37 := fc37.sm (fun a h1 h2 => hs a (by omega))
  replace fc40 := fc40.sm (fun a h1 h2 => hs a (by omega))
  replace fc42 := fc42.sm (fun a h1 h2 => hs a (by omega))
  replace fc44 := fc44.sm (fun a h1 h2 => hs a (by omega))
  replace hac := fun (a : Nat) (h : a < 0) => (hac a h).tr (hs a (by omega))
  replace ow := ow.sm (hs 0 (by omega))
  replace hT : T18.1 = 112 := by omega
  clear hT' hs
  refine s_dup dX11_init_74 rfl ?_
  refine s_kn (k' := (k + 32) + 0) (n' := (n + 2844) + 0) (by omega) (by omega) ?_
  refine s_cIN_ (k' := 0) (n' := 0) (My := mX4_init) dX11_init_75 wX_X11_54 cb_yX4_init wI_yX4_init rfl rfl (Nat.le_of_ble_eq_true rfl) (by decide) (s_d (by omega) (s_kn (k' := 0 + 0) (n' := 0 + 0) (by omega) (by omega) (i_Gal (d := 0) (b := 111) (by omega) oc (fun T19 I19 J19 hT1 hs fc111 => ?_))))
  replace fa1 := fa1.sm (fun a h1 h2 => hs a (by omega))
  replace fc2 := fc2.sm (fun a h1 h2 => hs a (by omega))
  replace fc37 := fc37.sm (fun a h1 h2 => hs a (by omega))
  replace fc40 := fc40.sm (fun a h1 h2 => hs a (by omega))
  replace fc42 := fc42.sm (fun a h1 h2 => hs a (by omega))
  replace fc44 := fc44.sm (fun a h1 h2 => hs a (by omega))
  replace hac := fun (a : Nat) (h : a < 0) => (hac a h).tr (hs a (by omega))
  replace ow := ow.sm (hs 0 (by omega))
  replace hT : T19.1 = 112 := by omega
  clear hT1 hs oc
  refine n_putR (v := 111) dX11_init_78 fp_X11_55 (Or.inr ⟨rfl, rfl⟩) rfl rfl (by omega) ow (fun T20 hN2 hs ow1 => ?_)
  replace hT := hN2.trans hT
  replace fa1 := fa1.sm (fun a h1 h2 => hs a (by omega))
  replace fc2 := fc2.sm (fun a h1 h2 => hs a (by omega))
  replace fc37 := fc37.sm (fun a h1 h2 => hs a (by omega))
  replace fc40 := fc40.sm (fun a h1 h2 => hs a (by omega))
  replace fc42 := fc42.sm (fun a h1 h2 => hs a (by omega))
  replace fc44 := fc44.sm (fun a h1 h2 => hs a (by omega))
  replace fc111 := fc111.sm (fun a h1 h2 => hs a (by omega))
  replace hac := fun (a : Nat) (h : a < 0) => (hac a h).tr (hs a (by omega))
  replace ow := ow1
  clear ow1 hs
  clear hN2
  refine s_aload_n (i := 0) dX11_init_81 rfl rfl ?_
  refine s_kn (k' := (k + 31) + 1) (n' := (n + 2840) + 4) (by omega) (by omega) ?_
  refine n_new (N := 112) hT dX11_init_82 wL_X11_59 cf_X7 (fun T21 I21 J21 hT' hs oc => ?_)
  replace fa1 := fa1.sm (fun a h1 h2 => hs a (by omega))
  replace fc2 := fc2.sm (fun a h1 h2 => hs a (by omega))
  replace fc37 := fc37.sm (fun a h1 h2 => hs a (by omega))
  replace fc40 := fc40.sm (fun a h1 h2 => hs a (by omega))
  replace fc42 := fc42.sm (fun a h1 h2 => hs a (by omega))
  replace fc44 := fc44.sm (fun a h1 h2 => hs a (by omega))
  replace fc111 := fc111.sm (fun a h1 h2 => hs a (by omega))
  replace hac := fun (a : Nat) (h : a < 0) => (hac a h).tr (hs a (by omega))
  replace ow := ow.sm (hs 0 (by omega))
  replace hT : T21.1 = 113 := by omega
  clear hT' hs
  refine s_dup dX11_init_85 rfl ?_
  refine s_kn (k' := (k + 29) + 2) (n' := (n + 2638) + 202) (by omega) (by omega) ?_
  refine s_cIN_ (k' := 2) (n' := 202) (My := mX7_init) dX11_init_86 wX_X11_61 cb_yX7_init wI_yX7_init rfl rfl (Nat.le_of_ble_eq_true rfl) (by decide) (s_d (by omega) (s_kn (k' := 0 + 2) (n' := 0 + 202) (by omega) (by omega) (i_Nr (d := 0) (b := 112) (by omega) oc (fun T22 I22 J22 hT1 hs fc112 => ?_))))
  replace fa1 := fa1.sm (fun a h1 h2 => hs a (by omega))
  replace fc2 := fc2.sm (fun a h1 h2 => hs a (by omega))
  replace fc37 := fc37.sm (fun a h1 h2 => hs a (by omega))
  replace fc40 := fc40.sm (fun a h1 h2 => hs a (by omega))
  replace fc42 := fc42.sm (fun a h1 h2 => hs a (by omega))
  replace fc44 := fc44.sm (fun a h1 h2 => hs a (by omega))
  replace fc111 := fc111.sm (fun a h1 h2 => hs a (by omega))
  replace hac := fun (a : Nat) (h : a < 0) => (hac a h).tr (hs a (by omega))
  replace ow := ow.sm (hs 0 (by omega))
  replace hT : T22.1 = 115 := by omega
  clear hT1 hs oc
  refine n_putR (v := 112) dX11_init_89 fp_X11_62 (Or.inr ⟨rfl, rfl⟩) rfl rfl (by omega) ow (fun T23 hN2 hs ow1 => ?_)
  replace hT := hN2.trans hT
  replace fa1 := fa1.sm (fun a h1 h2 => hs a (by omega))
  replace fc2 := fc2.sm (fun a h1 h2 => hs a (by omega))
  replace fc37 := fc37.sm (fun a h1 h2 => hs a (by omega))
  replace fc40 := fc40.sm (fun a h1 h2 => hs a (by omega))
  replace fc42 := fc42.sm (fun a h1 h2 => hs a (by omega))
  replace fc44 := fc44.sm (fun a h1 h2 => hs a (by omega))
  replace fc111 := fc111.sm (fun a h1 h2 => hs a (by omega))
  replace fc112 := fc112.sm (fun a h1 h2 => hs a (by omega))
  replace hac := fun (a : Nat) (h : a < 0) => (hac a h).tr (hs a (by omega))
  replace ow := ow1
  clear ow1 hs
  clear hN2
  refine s_aload_n (i := 0) dX11_init_92 rfl rfl ?_
  refine s_kn (k' := (k + 28) + 1) (n' := (n + 2634) + 4) (by omega) (by omega) ?_
  refine n_new (N := 115) hT dX11_init_93 wL_X11_66 cf_X3 (fun T24 I24 J24 hT' hs oc => ?_)
  replace fa1 := fa1.sm (fun a h1 h2 => hs a (by omega))
  replace fc2 := fc2.sm (fun a h1 h2 => hs a (by omega))
  replace fc37 := fc37.sm (fun a h1 h2 => hs a (by omega))
  replace fc40 := fc40.sm (fun a h1 h2 => hs a (by omega))
  replace fc42 := fc42.sm (fun a h1 h2 => hs a (by omega))
  replace fc44 := fc44.sm (fun a h1 h2 => hs a (by omega))
  replace fc111 := fc111.sm (fun a h1 h2 => hs a (by omega))
  replace fc112 := fc112.sm (fun a h1 h2 => hs a (by omega))
  replace hac := fun (a : Nat) (h : a < 0) => (hac a h).tr (hs a (by omega))
  replace ow := ow.sm (hs 0 (by omega))
  replace hT : T24.1 = 116 := by omega
  clear hT' hs
  refine s_dup dX11_init_96 rfl ?_
  refine s_kn (k' := (k + 24) + 4) (n' := (n + 2430) + 204) (by omega) (by omega) ?_
  refine s_cIN_ (k' := 4) (n' := 204) (My := mX3_init) dX11_init_97 wX_X11_68 cb_yX3_init wI_yX3_init rfl rfl (Nat.le_of_ble_eq_true rfl) (by decide) (s_d (by omega) (s_kn (k' := 0 + 4) (n' := 0 + 204) (by omega) (by omega) (i_Ex (d := 0) (b := 115) (by omega) oc (fun T25 I25 J25 hT1 hs fc115 => ?_))))
  replace fa1 := fa1.sm (fun a h1 h2 => hs a (by omega))
  replace fc2 := fc2.sm (fun a h1 h2 => hs a (by omega))
  replace fc37 := fc37.sm (fun a h1 h2 => hs a (by omega))
  replace fc40 := fc40.sm (fun a h1 h2 => hs a (by omega))
  replace fc42 := fc42.sm (fun a h1 h2 => hs a (by omega))
  replace fc44 := fc44.sm (fun a h1 h2 => hs a (by omega))
  replace fc111 := fc111.sm (fun a h1 h2 => hs a (by omega))
  replace fc112 := fc112.sm (fun a h1 h2 => hs a (by omega))
  replace hac := fun (a : Nat) (h : a < 0) => (hac a h).tr (hs a (by omega))
  replace ow := ow.sm (hs 0 (by omega))
  replace hT : T25.1 = 120 := by omega
  clear hT1 hs oc
  refine n_putR (v := 115) dX11_init_100 fp_X11_69 (Or.inr ⟨rfl, rfl⟩) rfl rfl (by omega) ow (fun T26 hN2 hs ow1 => ?_)
  replace hT := hN2.trans hT
  replace fa1 := fa1.sm (fun a h1 h2 => hs a (by omega))
  replace fc2 := fc2.sm (fun a h1 h2 => hs a (by omega))
  replace fc37 := fc37.sm (fun a h1 h2 => hs a (by omega))
  replace fc40 := fc40.sm (fun a h1 h2 => hs a (by omega))
  replace fc42 := fc42.sm (fun a h1 h2 => hs a (by omega))
  replace fc44 := fc44.sm (fun a h1 h2 => hs a (by omega))
  replace fc111 := fc111.sm (fun a h1 h2 => hs a (by omega))
  replace fc112 := fc112.sm (fun a h1 h2 => hs a (by omega))
  replace fc115 := fc115.sm (fun a h1 h2 => hs a (by omega))
  replace hac := fun (a : Nat) (h : a < 0) => (hac a h).tr (hs a (by omega))
  replace ow := ow1
  clear ow1 hs
  clear hN2
  refine s_iconst (v := 0) dX11_init_103 (by decide) ?_
  refine s_istore_n (i := 1) dX11_init_104 rfl (by decide) (by simp only [sl, sl2, rm, Value.category, reduceIte, Nat.reduceAdd, Nat.reduceEqDiff, reduceCtorEq]; rfl) ?_
  refine s_kn (k' := k + 4 * 6) (n' := n + 405 * 6) (by omega) (by omega) ?_
  exact ml_Pl 6 0 T26 I25 J25 (by omega) (by omega) ow (fa1.cg (aR0 _ _)) ⟨fc2, fc37, fc40, fc42, fc44, fc111, fc112, fc115⟩ (fun s h => absurd h (Nat.not_lt_zero s)) hq
