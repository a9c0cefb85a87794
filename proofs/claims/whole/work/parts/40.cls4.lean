theorem app_ok {g : Nat → Int} {c : Nat} {a b least : Int} (hs : Sorted g c) (hv : ∀ q, q < c → 0 ≤ g q ∧ g q ≤ 999999) (hl : ∀ q, q < c → g q < least) (h1 : least ≤ a) (h0 : 0 ≤ a) (h2 : a ≤ b) (h3 : b ≤ 999999) : Sorted (app g c a) (c + (b - a + 1).toNat) ∧ (∀ q, q < c + (b - a + 1).toNat → 0 ≤ app g c a q ∧ app g c a q ≤ 999999) ∧ ∀ q, q < c + (b - a + 1).toNat → app g c a q < b + 1 := by
  refine ⟨fun i j hij hj => ?_, fun q hq => ?_, fun q hq => ?_⟩
  · unfold app
    split
    · split
      · exact hs i j hij (by omega)
      · have := hl i (by omega); omega
    · rw [if_neg (by omega)]; omega
  · unfold app
    split
    · exact hv q (by omega)
    · omega
  · unfold app
    split
    · have := hl q (by omega); omega
    · omega
theorem numsC_ok {tx : Nat → Int} {tl : Nat} : ∀ (z p : Nat) (least : Int) (c : Nat) (g : Nat → Int), p ≤ tl → c ≤ 200 → Sorted g c → (∀ q, q < c → 0 ≤ g q ∧ g q ≤ 999999) → (∀ q, q < c → g q < least) → (numsC tx tl z p least c g).1 = -1 → (numsC tx tl z p least c g).2.1 ≤ 200 ∧ Sorted (numsC tx tl z p least c g).2.2 (numsC tx tl z p least c g).2.1 ∧ ∀ q, q < (numsC tx tl z p least c g).2.1 → 0 ≤ (numsC tx tl z p least c g).2.2 q ∧ (numsC tx tl z p least c g).2.2 q ≤ 999999 := by
  intro z
  induction z with
  | zero => intro p least c g hp hc hs hv hl h; simp only [numsC] at h; omega
  | succ z ih =>
    intro p least c g hp hc hs hv hl h
    simp only [numsC] at h ⊢
    by_cases e1 : (partC tx tl p least c).1 ≠ -1
    · rw [if_pos e1] at h; exact absurd h e1
    · rw [if_neg e1] at h ⊢
      have hb := partC_bd (tx := tx) (least := least) hp hc (by omega)
      have ha := app_ok hs hv hl hb.2.2.2.1 hb.2.2.1 hb.2.2.2.2.1 (by omega)
      by_cases e2 : tl ≤ (partC tx tl p least c).2.1
      · rw [if_pos e2]
        exact ⟨by dsimp only; omega, ha.1, ha.2.1⟩
      · rw [if_neg e2] at h ⊢
        by_cases e3 : chz tx tl (partC tx tl p least c).2.1 ≠ 44
        · rw [if_pos e3] at h; dsimp only at h; omega
        · rw [if_neg e3] at h ⊢
          exact ih _ _ _ _ ((sk_ge tx tl _).2 (by omega)) (by omega) ha.1 ha.2.1 ha.2.2 h
theorem numsOf_ok {tx : Nat → Int} {tl : Nat} (h : (numsOf tx tl).1 = -1) : (numsOf tx tl).2.1 ≤ 200 ∧ Sorted (numsOf tx tl).2.2 (numsOf tx tl).2.1 ∧ ∀ q, q < (numsOf tx tl).2.1 → 0 ≤ (numsOf tx tl).2.2 q ∧ (numsOf tx tl).2.2 q ≤ 999999 := by
  unfold numsOf at h ⊢
  by_cases e : tl ≤ sk tx tl 0
  · rw [if_pos e]
    exact ⟨by decide, fun a b _ h => absurd h (Nat.not_lt_zero b), fun q h => absurd h (Nat.not_lt_zero q)⟩
  · rw [if_neg e] at h ⊢
    exact numsC_ok _ _ _ _ _ ((sk_ge tx tl 0).2 (Nat.zero_le tl)) (by omega) (fun a b _ h => absurd h (Nat.not_lt_zero b)) (fun q h => absurd h (Nat.not_lt_zero q)) (fun q h => absurd h (Nat.not_lt_zero q)) h
theorem rLoad.ok {S S' : ASt} {x a : Int} (h : rLoad S x a S') (hS : SOk S) : SOk S' := by
  rcases h with ⟨-, -, rfl⟩ | ⟨li, r, h1, -, hr, ⟨-, -, rfl⟩ | ⟨h2, -, R, E, nb, h3, h4, h5, rfl⟩⟩
  · exact hS
  · exact hS
  · subst hr
    have hn := numsOf_ok h2
    exact (hS.chgOk h1 (LOk.plan hn.1 hn.2.1 hn.2.2 h3 h4 h5)).setOk (fun q hq => absurd hq (Nat.not_lt_zero q)) (Nat.zero_le _)
theorem Lst.at {T : fT} {I : fI} {Ls : Nat → LSt} {i : Nat} {L : LSt} (h : Lst T I (updL Ls i L)) (hi : i < 6) : CutL T I (120 + 4 * i) L := by
  have := h i hi
  rw [updL_at] at this
  exact this
theorem ClsIs.setT {T : fT} {I I' : fI} {S : ASt} {t : (Nat → Int) × Nat} (h : ClsIs T I S) (hf : ∀ b, ¬ (b = 40 ∨ b = 41) → I' b = I b) (ht : RowTx T I' t.1 t.2) : ClsIs T I' (setT S t) := ⟨h.1, h.2.1.fr (fun b h1 h2 => hf b (by omega)), h.2.2.1.fr (fun b hb => hf b (by have := histS_lt hb; omega)), h.2.2.2.1.fr (hf _ (by omega)) (hf _ (by omega)) (hf _ (by omega)), ht, fun w h1 => by rw [hf _ (by omega)]; exact h.2.2.2.2.2.1 w h1, h.2.2.2.2.2.2.fr (hf _ (by omega)) (hf _ (by omega)) (hf _ (by omega))⟩
set_option maxRecDepth 100000 in
set_option maxHeartbeats 1000000 in
theorem l_load33 {G : fG} {x0 : Nat} {l : Launch} {d k n : Nat} {T : fT} {I : fI} {J : fJ} {Q : Option Value → fT → fI → fJ → Prop} {li : Nat} {e2 : Int32} {S : ASt} {g : Nat → Int} {m : Nat} (hS : ClsIs T I S) (hk : SOk S) (hli : li < 6) (hm : m ≤ 200) (hg : GapOk g m) (hR : RowIs T I 113 200 g m) (hq : ∀ (I' : fI) (R : Nat → Int) (E : Nat → Nat) (nb : Nat), Plan g m R E → pst E nb = m → (∀ j, j < nb → pst E j < m) → frM I I' → ClsIs T I' (setT (chg S li (planL g m E nb)) (S.2.2.2.1.1, 0)) → Q (some (.int (zI m))) T I' J) : PW G x0 l mX11_load (d + 6) (ZM G x0 Q) k n 33 [(0, .ref (x0 + 0)), (1, .int (zI li)), (2, .int e2)] [] T I J := by
  obtain ⟨⟨o1, o2, o3, o4, o5, o6, o7, o8, o9, o10, o11⟩, hLA, hTA, hVA, hPA, hGA, hNA, hEA⟩ := id hS.1
  obtain ⟨la1, la2, la3, la4⟩ := id hLA
  have e0 : (0 : Nat) < T.1 := by omega
  have e1 : (1 : Nat) < T.1 := by omega
  have e02 : (2 : Nat) < T.1 := by omega
  have e37 : (37 : Nat) < T.1 := by omega
  have e40 : (40 : Nat) < T.1 := by omega
  have e42 : (42 : Nat) < T.1 := by omega
  have e44 : (44 : Nat) < T.1 := by omega
  have e112 : (112 : Nat) < T.1 := by omega
  have v42 := hVA.2.1
  have v44 := hPA.2.1
  have v2 := hS.2.2.1.1.2.1
  have v37 := hS.2.2.2.1.1.2.1
  have v40 := hTA.2.2.1
  have v112 := hNA.2.1
  have hxt : (zI (li : Int)).toInt = li := zI_t (by omega) (by omega)
  have hnl : (zI li).toNatClampNeg = li := by rw [zI_n (by omega) (by omega)]; simp
  obtain ⟨lb1, lb2⟩ := la4 li hli
  obtain ⟨k1, k2, k3, k4, k5, k6, k7, k8⟩ := id lb2
  obtain ⟨r1, r2, r3, r4, r5, r6, r7⟩ := id k8
  have hC := hS.2.1 li hli
  have hL := hk.1 li hli
  have n3 := hNA.2.2.1
  refine s_aload_n (i := 0) dX11_load_33 rfl rfl ?_
  refine s_iload_n (i := 1) dX11_load_34 rfl rfl ?_
  refine s_aload_n (i := 0) dX11_load_35 rfl rfl ?_
  refine s_getR dX11_load_36 fl_X11_62 (by assumption) (by assumption) (by assumption) ?_
  refine s_getR dX11_load_39 fl_X11_119 (by assumption) (by assumption) (by assumption) ?_
  refine s_cV_IR (My := mX11_replaceNumbers) dX11_load_42 wM_X11_120 cb_yX11_replaceNumbers ci_yX11_replaceNumbers (by assumption) (by assumption) (Nat.le_of_ble_eq_true rfl) (by decide) (s_d (by omega) (c_replace (d := 0) hS hli (Or.inl rfl) hR hm hg (fun I1 R E nb hM1 hPl he hn hS1 => ?_)))
  refine s_aload_n (i := 0) dX11_load_45 rfl rfl ?_
  refine s_getR dX11_load_46 fl_X11_34 (by assumption) (by assumption) (by assumption) ?_
  refine s_iconst (v := 0) dX11_load_49 (by decide) ?_
  refine s_putI dX11_load_50 fp_X11_87 (by assumption) (by assumption) ?_
  refine s_aload_n (i := 0) dX11_load_53 rfl rfl ?_
  refine s_getR dX11_load_54 fl_X11_11 (by assumption) (by assumption) (by assumption) ?_
  refine s_iload_n (i := 1) dX11_load_57 rfl rfl ?_
  refine s_aldC dX11_load_58 (by assumption) (by assumption) (by rw [la3]; exact z_in (by omega) (by omega) (by omega)) (by rw [hnl]; exact lb1) ?_
  refine s_getR dX11_load_59 fl_X11_81 (by assumption) (by assumption) (by assumption) ?_
  refine s_getI dX11_load_62 fl_X11_87 (by assumption) (by assumption) ?_
  refine s_iret dX11_load_65 rfl ?_
  have hC1 := hS1.2.1.at hli
  rw [iu_b (by omega), t_zI hC1.2.1.2.2.1]
  refine hq _ R E nb hPl he hn (fun b h1 h2 => (iu_ne (by omega)).trans (hM1 b h1 h2)) (ClsIs.setT hS1 (fun b hb => iu_ne (by omega)) ?_)
  have hX := hS1.2.2.2.2.1
  exact ⟨hX.1, by dsimp only; omega, by rw [iu_at]; rfl, fun q hq => absurd hq (Nat.not_lt_zero q)⟩
theorem partC_fb {tx : Nat → Int} {tl p c : Nat} {least : Int} (hp : p ≤ tl) : -1 ≤ (partC tx tl p least c).1 ∧ (partC tx tl p least c).1 ≤ tl := by
  have b1 := rdn_bd tx tl 6 p 0 (Int.le_refl 0)
  have s1 := sk_ge tx tl (rdn tx tl 6 p 0).1
  unfold partC
  split
  · dsimp only; omega
  split
  · next h1 h2 =>
    have hlt : sk tx tl (rdn tx tl 6 p 0).1 < tl := by
      rcases Nat.lt_or_ge (sk tx tl (rdn tx tl 6 p 0).1) tl with h | h
      · exact h
      · rw [chz_out h] at h2; omega
    have s2 := sk_ge tx tl (sk tx tl (rdn tx tl 6 p 0).1 + 1)
    have b2 := rdn_bd tx tl 6 (sk tx tl (sk tx tl (rdn tx tl 6 p 0).1 + 1)) 0 (Int.le_refl 0)
    split
    · dsimp only; omega
    split
    · dsimp only; omega
    · dsimp only; omega
  split
  · dsimp only; omega
  · dsimp only; omega
theorem numsC_fb {tx : Nat → Int} {tl : Nat} : ∀ (z p : Nat) (least : Int) (c : Nat) (g : Nat → Int), p ≤ tl → c ≤ 200 → -1 ≤ (numsC tx tl z p least c g).1 ∧ (numsC tx tl z p least c g).1 ≤ tl := by
  intro z
  induction z with
  | zero => intro p least c g hp hc; simp only [numsC]; omega
  | succ z ih =>
    intro p least c g hp hc
    have hf := partC_fb (tx := tx) (c := c) (least := least) hp
    simp only [numsC]
    by_cases e1 : (partC tx tl p least c).1 ≠ -1
    · rw [if_pos e1]; exact hf
    · rw [if_neg e1]
      have hb := partC_bd (tx := tx) (least := least) hp hc (by omega)
      by_cases e2 : tl ≤ (partC tx tl p least c).2.1
      · rw [if_pos e2]; dsimp only; omega
      · rw [if_neg e2]
        by_cases e3 : chz tx tl (partC tx tl p least c).2.1 ≠ 44
        · rw [if_pos e3]; dsimp only; omega
        · rw [if_neg e3]
          exact ih _ _ _ _ ((sk_ge tx tl _).2 (by omega)) (by omega)
theorem numsOf_bd {tx : Nat → Int} {tl : Nat} {r : Int × Nat × (Nat → Int)} (h : r = numsOf tx tl) : -1 ≤ r.1 ∧ r.1 ≤ tl := by
  subst h
  unfold numsOf
  split
  · dsimp only; omega
  · exact numsC_fb _ _ _ _ _ ((sk_ge tx tl 0).2 (Nat.zero_le tl)) (by omega)
set_option maxRecDepth 100000 in
set_option maxHeartbeats 1000000 in
theorem c_load {G : fG} {x0 : Nat} {l : Launch} {d k n : Nat} {T : fT} {I : fI} {J : fJ} {Q : Option Value → fT → fI → fJ → Prop} {x : Int32} {S : ASt} (hS : ClsIs T I S) (hk : SOk S) (hq : ∀ (T' : fT) (I' : fI) (a : Int) (S' : ASt), rLoad S x.toInt a S' → Tq T T' → frM I I' → ClsIs T' I' S' → Q (some (.int (zI a))) T' I' J) : PW G x0 l mX11_load (d + 6) (ZM G x0 Q) k n 0 [(0, .ref (x0 + 0)), (1, .int x)] [] T I J := by
  obtain ⟨⟨o1, o2, o3, o4, o5, o6, o7, o8, o9, o10, o11⟩, hLA, hTA, hVA, hPA, hGA, hNA, hEA⟩ := id hS.1
  obtain ⟨la1, la2, la3, la4⟩ := id hLA
  have e0 : (0 : Nat) < T.1 := by omega
  have e1 : (1 : Nat) < T.1 := by omega
  have e2 : (2 : Nat) < T.1 := by omega
  have e37 : (37 : Nat) < T.1 := by omega
  have e40 : (40 : Nat) < T.1 := by omega
  have e42 : (42 : Nat) < T.1 := by omega
  have e44 : (44 : Nat) < T.1 := by omega
  have e112 : (112 : Nat) < T.1 := by omega
  have v42 := hVA.2.1
  have v44 := hPA.2.1
  have v2 := hS.2.2.1.1.2.1
  have v37 := hS.2.2.2.1.1.2.1
  have v40 := hTA.2.2.1
  have v112 := hNA.2.1
  refine s_iload_n (i := 1) dX11_load_0 rfl rfl ?_
  refine s_cS_I (My := mX11_isList) dX11_load_1 wM_X11_74 cb_yX11_isList wT_yX11_isList (Nat.le_of_ble_eq_true rfl) (by decide) (c_isList ?_ ?_)
  · intro hx
    obtain ⟨li, hli, rfl⟩ := lidx hx
    have hxt : (zI (li : Int)).toInt = li := zI_t (by omega) (by omega)
    have hnl : (zI li).toNatClampNeg = li := by rw [zI_n (by omega) (by omega)]; simp
    obtain ⟨lb1, lb2⟩ := la4 li hli
    obtain ⟨k1, k2, k3, k4, k5, k6, k7, k8⟩ := id lb2
    obtain ⟨r1, r2, r3, r4, r5, r6, r7⟩ := id k8
    have hC := hS.2.1 li hli
    have hL := hk.1 li hli
    refine s_if_ne (tgt := 10) dX11_load_4 (by decide) (fun c4 => ?_) (fun c4 => absurd c4 (by decide))
    refine s_aload_n (i := 0) dX11_load_10 rfl rfl ?_
    refine s_getR dX11_load_11 fl_X11_62 (by assumption) (by assumption) (by assumption) ?_
    refine s_aload_n (i := 0) dX11_load_14 rfl rfl ?_
    refine s_getR dX11_load_15 fl_X11_34 (by assumption) (by assumption) (by assumption) ?_
    refine s_cV_R (My := mX7_read) dX11_load_18 wM_X11_115 cb_yX7_read ci_yX7_read (by assumption) (by assumption) (Nat.le_of_ble_eq_true rfl) (by decide) (s_d (by omega) (c_read (d := 0) hNA hk.2.2.2.1 hS.2.2.2.2.1 (fun T1 I1 r hr hT1 hf1 hR1 => ?_)))
    have hf1' : ∀ b, b < 112 ∨ 114 < b → I1 b = I b := fun b hb => hf1 b (by simp; omega)
    have hS1 : ClsIs T1 I1 S := ClsIs.tq (hS.fr (fun b hb => hf1' b (by omega)) (fun w hw => by rw [hf1' _ (by omega)])) hT1
    have hrb := numsOf_bd hr
    have htl := hk.2.2.2.2.1
    have hr' := hr
    refine s_istore_n (i := 2) dX11_load_21 rfl (by decide) (by simp only [sl, sl2, rm, Value.category, reduceIte, Nat.reduceAdd, Nat.reduceEqDiff, reduceCtorEq]; rfl) ?_
    refine s_iload_n (i := 2) dX11_load_22 rfl rfl ?_
    refine s_iconst (v := -1) dX11_load_23 (by decide) ?_
    refine s_icmp_eq (tgt := 33) dX11_load_24 (by decide) (fun c24 => ?_) (fun c24 => ?_)
    · have h1 : r.1 = -1 := by rw [zm1, zI_eq (by omega) (by omega) (by omega) (by omega)] at c24; exact c24
      have hn := numsOf_ok (hr ▸ h1)
      rw [← hr] at hn
      refine l_load33 hS1 hk hli hn.1 (GapOk.of hn.2.1 hn.2.2) (hR1 h1) (fun I2 R E nb a b c dd e => ?_)
      exact hq T1 I2 _ _ (Or.inr ⟨li, r, hli, hxt, hr, Or.inr ⟨h1, rfl, R, E, nb, a, b, c, rfl⟩⟩) hT1 (fun b h1 h2 => (dd b h1 h2).trans (hf1' b (by omega))) e
    · refine s_sipush (v := -2000) dX11_load_27 (by decide) ?_
      refine s_iload_n (i := 2) dX11_load_30 rfl rfl ?_
      refine s_isub dX11_load_31 ?_
      refine s_iret dX11_load_32 rfl ?_
      rw [zm1, zI_eq (by omega) (by omega) (by omega) (by omega)] at c24
      show Q (some (.int (zI (-2000) - zI r.1))) T1 I1 J
      rw [zI_sub]
      exact hq T1 I1 _ S (Or.inr ⟨li, r, hli, hxt, hr, Or.inl ⟨c24, rfl, rfl⟩⟩) hT1 (fun b h1 h2 => hf1' b (by omega)) hS1
  · intro hx
    refine s_if_ne (tgt := 10) dX11_load_4 (by decide) (fun c4 => absurd c4 (fun h => h rfl)) (fun c4 => ?_)
    refine s_bipush (v := -2) dX11_load_7 (by decide) ?_
    refine s_iret dX11_load_9 rfl ?_
    rw [zm2]
    exact hq T I (-2) S (Or.inl ⟨hx, rfl, rfl⟩) (Tq.refl T) (frM.refl I) hS
theorem srt_sorted {L : List Int} (h : srt L) : Sorted (lfn L) L.length := fun a b hab hb => by
  rw [lfn_at (by omega), lfn_at hb]
  exact List.pairwise_iff_getElem.mp h a b (by omega) hb hab
set_option maxRecDepth 100000 in
set_option maxHeartbeats 1000000 in
theorem c_store {G : fG} {x0 : Nat} {l : Launch} {d k n : Nat} {T : fT} {I : fI} {J : fJ} {Q : Option Value → fT → fI → fJ → Prop} {x : Int32} {S : ASt} (hS : ClsIs T I S) (hk : SOk S) (hq : ∀ (T' : fT) (I' : fI) (a : Int) (S' : ASt), rStore S x.toInt a S' → Tq T T' → frM I I' → ClsIs T' I' S' → Q (some (.int (zI a))) T' I' J) : PW G x0 l mX11_store (d + 6) (ZM G x0 Q) k n 0 [(0, .ref (x0 + 0)), (1, .int x)] [] T I J := by
  obtain ⟨⟨o1, o2, o3, o4, o5, o6, o7, o8, o9, o10, o11⟩, hLA, hTA, hVA, hPA, hGA, hNA, hEA⟩ := id hS.1
  obtain ⟨la1, la2, la3, la4⟩ := id hLA
  have e0 : (0 : Nat) < T.1 := by omega
  have e1 : (1 : Nat) < T.1 := by omega
  have e2 : (2 : Nat) < T.1 := by omega
  have e37 : (37 : Nat) < T.1 := by omega
  have e40 : (40 : Nat) < T.1 := by omega
  have e42 : (42 : Nat) < T.1 := by omega
  have e44 : (44 : Nat) < T.1 := by omega
  have e112 : (112 : Nat) < T.1 := by omega
  have v42 := hVA.2.1
  have v44 := hPA.2.1
  have v2 := hS.2.2.1.1.2.1
  have v37 := hS.2.2.2.1.1.2.1
  have v40 := hTA.2.2.1
  have v112 := hNA.2.1
  refine s_iload_n (i := 1) dX11_store_0 rfl rfl ?_
  refine s_cS_I (My := mX11_isList) dX11_store_1 wM_X11_74 cb_yX11_isList wT_yX11_isList (Nat.le_of_ble_eq_true rfl) (by decide) (c_isList ?_ ?_)
  · intro hx
    obtain ⟨li, hli, rfl⟩ := lidx hx
    have hxt : (zI (li : Int)).toInt = li := zI_t (by omega) (by omega)
    have hnl : (zI li).toNatClampNeg = li := by rw [zI_n (by omega) (by omega)]; simp
    obtain ⟨lb1, lb2⟩ := la4 li hli
    obtain ⟨k1, k2, k3, k4, k5, k6, k7, k8⟩ := id lb2
    obtain ⟨r1, r2, r3, r4, r5, r6, r7⟩ := id k8
    have hC := hS.2.1 li hli
    have hL := hk.1 li hli
    cases hr : S.2.2.2.2 with
    | none =>
      have hj := hS.2.2.2.2.2.2
      rw [hr] at hj
      have hj0 : T.2.2.2 0 9 = none := hj
      refine s_if_ne (tgt := 10) dX11_store_4 (by decide) (fun c4 => ?_) (fun c4 => absurd c4 (by decide))
      refine s_aload_n (i := 0) dX11_store_10 rfl rfl ?_
      refine s_getN dX11_store_11 fl_X11_124 (by assumption) (by assumption) hj0 ?_
      refine s_ifnonnullN dX11_store_14 ?_
      refine s_bipush (v := -3) dX11_store_17 (by decide) ?_
      refine s_iret dX11_store_19 rfl ?_
      rw [zm3]
      exact hq T I (-3) S (Or.inr ⟨li, hli, hxt, Or.inl ⟨hr, rfl, rfl⟩⟩) (Tq.refl T) (frM.refl I) hS
    | some r =>
      have hj := hS.2.2.2.2.2.2
      rw [hr] at hj
      obtain ⟨j0, hJA, hJR, hJp⟩ := hj
      obtain ⟨hr1, hr2, hr3⟩ := hk.2.2.2.2.2 r hr
      have j1 : T.2.1 162 = 6 := hJA.2.1
      have j2 : T.2.2.2 162 1 = some 164 := hJA.2.2.2.1
      have e162 : (162 : Nat) < T.1 := by have := hJA.1; omega
      have e164 : (164 : Nat) < T.1 := by have := hJA.1; omega
      have j4 : T.2.1 164 = 9 := hJR.1.2.2.1
      refine s_if_ne (tgt := 10) dX11_store_4 (by decide) (fun c4 => ?_) (fun c4 => absurd c4 (by decide))
      refine s_aload_n (i := 0) dX11_store_10 rfl rfl ?_
      refine s_getR dX11_store_11 fl_X11_124 (by assumption) (by assumption) (by assumption) ?_
      refine s_ifnonnull (tgt := 20) dX11_store_14 (by decide) ?_
      refine s_aload_n (i := 0) dX11_store_20 rfl rfl ?_
      refine s_getR dX11_store_21 fl_X11_124 (by assumption) (by assumption) (by assumption) ?_
      refine s_getR dX11_store_24 fl_X11_128 (by assumption) (by assumption) (by assumption) ?_
      refine s_getI dX11_store_27 fl_X11_87 (by assumption) (by assumption) ?_
      refine s_sipush (v := 200) dX11_store_30 (by decide) ?_
      refine s_icmp_le (tgt := 39) dX11_store_33 (by decide) (fun c33 => ?_) (fun c33 => ?_)
      · rw [t_zI hJR.2.2.1, show (200 : Int32) = zI 200 from rfl, zI_le (by omega) (by omega) (by omega) (by omega)] at c33
        have hrl : r.1.length ≤ 200 := by omega
        have hso : Sorted (lfn r.1) r.1.length := srt_sorted hr1
        have hva : ∀ q, q < r.1.length → 0 ≤ lfn r.1 q ∧ lfn r.1 q ≤ 999999 := fun q hq => by rw [lfn_at hq]; exact hr2 _ (List.getElem_mem hq)
        refine s_aload_n (i := 0) dX11_store_39 rfl rfl ?_
        refine s_iload_n (i := 1) dX11_store_40 rfl rfl ?_
        refine s_aload_n (i := 0) dX11_store_41 rfl rfl ?_
        refine s_getR dX11_store_42 fl_X11_124 (by assumption) (by assumption) (by assumption) ?_
        refine s_getR dX11_store_45 fl_X11_128 (by assumption) (by assumption) (by assumption) ?_
        refine s_cV_IR (My := mX11_replaceNumbers) dX11_store_48 wM_X11_120 cb_yX11_replaceNumbers ci_yX11_replaceNumbers (by assumption) (by assumption) (Nat.le_of_ble_eq_true rfl) (by decide) (s_d (by omega) (c_replace (d := 0) hS hli (Or.inr rfl) hJR hrl (GapOk.of hso hva) (fun I1 R E nb hM1 hPl he hn hS1 => ?_)))
        refine s_aload_n (i := 0) dX11_store_51 rfl rfl ?_
        refine s_getR dX11_store_52 fl_X11_11 (by assumption) (by assumption) (by assumption) ?_
        refine s_iload_n (i := 1) dX11_store_55 rfl rfl ?_
        refine s_aldC dX11_store_56 (by assumption) (by assumption) (by rw [la3]; exact z_in (by omega) (by omega) (by omega)) (by rw [hnl]; exact lb1) ?_
        refine s_getR dX11_store_57 fl_X11_81 (by assumption) (by assumption) (by assumption) ?_
        refine s_getI dX11_store_60 fl_X11_87 (by assumption) (by assumption) ?_
        refine s_iret dX11_store_63 rfl ?_
        have hC1 := hS1.2.1.at hli
        rw [t_zI hC1.2.1.2.2.1]
        exact hq T I1 _ _ (Or.inr ⟨li, hli, hxt, Or.inr ⟨r, hr, Or.inr ⟨hrl, rfl, R, E, nb, hPl, he, hn, rfl⟩⟩⟩) (Tq.refl T) hM1 hS1
      · rw [t_zI hJR.2.2.1, show (200 : Int32) = zI 200 from rfl, zI_le (by omega) (by omega) (by omega) (by omega)] at c33
        refine s_bipush (v := -4) dX11_store_36 (by decide) ?_
        refine s_iret dX11_store_38 rfl ?_
        rw [zm4]
        exact hq T I (-4) S (Or.inr ⟨li, hli, hxt, Or.inr ⟨r, hr, Or.inl ⟨by omega, rfl, rfl⟩⟩⟩) (Tq.refl T) (frM.refl I) hS
  · intro hx
    refine s_if_ne (tgt := 10) dX11_store_4 (by decide) (fun c4 => absurd c4 (fun h => h rfl)) (fun c4 => ?_)
    refine s_bipush (v := -2) dX11_store_7 (by decide) ?_
    refine s_iret dX11_store_9 rfl ?_
    rw [zm2]
    exact hq T I (-2) S (Or.inl ⟨hx, rfl, rfl⟩) (Tq.refl T) (frM.refl I) hS
set_option maxRecDepth 100000 in
set_option maxHeartbeats 1000000 in
theorem c_undo {G : fG} {x0 : Nat} {l : Launch} {d k n : Nat} {T : fT} {I : fI} {J : fJ} {Q : Option Value → fT → fI → fJ → Prop} {S : ASt} (hS : ClsIs T I S) (hk : SOk S) (hq : ∀ (T' : fT) (I' : fI) (a : Int) (S' : ASt), rUndo S  a S' → Tq T T' → frM I I' → ClsIs T' I' S' → Q (some (.int (zI a))) T' I' J) : PW G x0 l mX11_undo (d + 4) (ZM G x0 Q) k n 0 [(0, .ref (x0 + 0))] [] T I J := by
  obtain ⟨⟨o1, o2, o3, o4, o5, o6, o7, o8, o9, o10, o11⟩, hLA, hTA, hVA, hPA, hGA, hNA, hEA⟩ := id hS.1
  obtain ⟨la1, la2, la3, la4⟩ := id hLA
  have e0 : (0 : Nat) < T.1 := by omega
  have e1 : (1 : Nat) < T.1 := by omega
  have e2 : (2 : Nat) < T.1 := by omega
  have e37 : (37 : Nat) < T.1 := by omega
  have e40 : (40 : Nat) < T.1 := by omega
  have e42 : (42 : Nat) < T.1 := by omega
  have e44 : (44 : Nat) < T.1 := by omega
  have e112 : (112 : Nat) < T.1 := by omega
  have v42 := hVA.2.1
  have v44 := hPA.2.1
  have v2 := hS.2.2.1.1.2.1
  have v37 := hS.2.2.2.1.1.2.1
  have v40 := hTA.2.2.1
  have v112 := hNA.2.1
  have hl := hS.2.2.1.2.2.1
  cases hH : S.2.1 with
  | nil =>
    rw [hH] at hl
    refine s_aload_n (i := 0) dX11_undo_0 rfl rfl ?_
    refine s_getR dX11_undo_1 fl_X11_18 (by assumption) (by assumption) (by assumption) ?_
    refine s_getI dX11_undo_4 fl_X11_136 (by assumption) (by assumption) ?_
    refine s_if_ne (tgt := 13) dX11_undo_7 (by decide) (fun h7 => absurd h7 (fun h => h (by rw [t_zI hl]; rfl))) (fun h7 => ?_)
    refine s_bipush (v := -3) dX11_undo_10 (by decide) ?_
    refine s_iret dX11_undo_12 rfl ?_
    rw [zm3]
    exact hq T I (-3) S (Or.inl ⟨hH, rfl, rfl⟩) (Tq.refl T) (frM.refl I) hS
  | cons e H =>
    obtain ⟨li, L⟩ := e
    have hH8 := hS.2.2.1.2.1
    have hHI := hS.2.2.1
    rw [hH] at hl hH8 hHI
    rw [List.length_cons] at hl hH8
    have hli : li < 6 := (hk.2.1 (li, L) (by rw [hH]; exact List.mem_cons_self)).1
    refine s_aload_n (i := 0) dX11_undo_0 rfl rfl ?_
    refine s_getR dX11_undo_1 fl_X11_18 (by assumption) (by assumption) (by assumption) ?_
    refine s_getI dX11_undo_4 fl_X11_136 (by assumption) (by assumption) ?_
    refine s_if_ne (tgt := 13) dX11_undo_7 (by decide) (fun h7 => ?_) (fun h7 => absurd h7 (fun h => by rw [t_zI hl, z0, zI_eq (by omega) (by omega) (by omega) (by omega)] at h; omega))
    refine s_aload_n (i := 0) dX11_undo_13 rfl rfl ?_
    refine s_getR dX11_undo_14 fl_X11_18 (by assumption) (by assumption) (by assumption) ?_
    refine s_aload_n (i := 0) dX11_undo_17 rfl rfl ?_
    refine s_getR dX11_undo_18 fl_X11_11 (by assumption) (by assumption) (by assumption) ?_
    refine s_cV_R (My := mX5_restoreLatest) dX11_undo_21 wM_X11_137 cb_yX5_restoreLatest ci_yX5_restoreLatest (by assumption) (by assumption) (Nat.le_of_ble_eq_true rfl) (by decide) (s_d (by omega) (c_restore (d := 0) hHI hLA hli (fun I1 hf1 hH1 hC1 => ?_)))
    refine s_aload_n (i := 0) dX11_undo_24 rfl rfl ?_
    refine s_getR dX11_undo_25 fl_X11_25 (by assumption) (by assumption) (by assumption) ?_
    refine s_cV_ (My := mX1_forgetAll) dX11_undo_28 wM_X11_141 cb_yX1_forgetAll ci_yX1_forgetAll (by assumption) (by assumption) (Nat.le_of_ble_eq_true rfl) (by decide) (s_d (by omega) (c_forgetAll (d := 0) (hS.2.2.2.1.fr (hf1 _ (by simp; omega)) (hf1 _ (by simp; omega)) (hf1 _ (by simp; omega))) (fun I2 hf2 hC2 => ?_)))
    refine s_aload_n (i := 0) dX11_undo_31 rfl rfl ?_
    refine s_getR dX11_undo_32 fl_X11_18 (by assumption) (by assumption) (by assumption) ?_
    refine s_getI dX11_undo_35 fl_X11_136 (by assumption) (by assumption) ?_
    refine s_iret dX11_undo_38 rfl ?_
    have z1 : ∀ b, b ≠ 2 → ¬ (120 + 4 * li ≤ b ∧ b < 120 + 4 * li + 4) → I1 b = I b := fun b h1 h2 => hf1 b (by simp; omega)
    have z2 : ∀ b, b ≠ 37 → I2 b = I1 b := fun b hb => hf2 b (by simp; omega)
    have hl2 := hH1.2.2.1
    rw [z2 2 (by omega), t_zI hl2]
    refine hq T I2 _ (updL S.1 li L, H, ([], S.2.2.1.2), S.2.2.2) (Or.inr ⟨li, L, H, hH, rfl, rfl⟩) (Tq.refl T) (fun b h1 h2 => (z2 b (by omega)).trans (z1 b (by omega) (by omega))) ?_
    exact ⟨hS.1, (hS.2.1.upd hli (fun b h1 h2 h3 => z1 b (by omega) (by omega)) hC1).fr (fun b h1 h2 => z2 b (by omega)), hH1.fr (fun b hb => z2 b (by have := histS_lt hb; omega)), hC2, RowIs.fr hS.2.2.2.2.1 ((z2 _ (by omega)).trans (z1 _ (by omega) (by omega))) ((z2 _ (by omega)).trans (z1 _ (by omega) (by omega))), fun w hw => by rw [z2 _ (by omega), z1 _ (by omega) (by omega)]; exact hS.2.2.2.2.2.1 w hw, hS.2.2.2.2.2.2.fr ((z2 _ (by omega)).trans (z1 _ (by omega) (by omega))) ((z2 _ (by omega)).trans (z1 _ (by omega) (by omega))) ((z2 _ (by omega)).trans (z1 _ (by omega) (by omega)))⟩
set_option maxRecDepth 100000 in
set_option maxHeartbeats 1000000 in
theorem c_type {G : fG} {x0 : Nat} {l : Launch} {d k n : Nat} {T : fT} {I : fI} {J : fJ} {Q : Option Value → fT → fI → fJ → Prop} {x : Int32} {S : ASt} (hS : ClsIs T I S) (hk : SOk S) (hq : ∀ (T' : fT) (I' : fI) (a : Int) (S' : ASt), rType S x.toInt a S' → Tq T T' → frM I I' → ClsIs T' I' S' → Q (some (.int (zI a))) T' I' J) : PW G x0 l mX11_type (d + 1) (ZM G x0 Q) k n 0 [(0, .ref (x0 + 0)), (1, .int x)] [] T I J := by
  obtain ⟨⟨o1, o2, o3, o4, o5, o6, o7, o8, o9, o10, o11⟩, hLA, hTA, hVA, hPA, hGA, hNA, hEA⟩ := id hS.1
  obtain ⟨la1, la2, la3, la4⟩ := id hLA
  have e0 : (0 : Nat) < T.1 := by omega
  have e1 : (1 : Nat) < T.1 := by omega
  have e2 : (2 : Nat) < T.1 := by omega
  have e37 : (37 : Nat) < T.1 := by omega
  have e40 : (40 : Nat) < T.1 := by omega
  have e42 : (42 : Nat) < T.1 := by omega
  have e44 : (44 : Nat) < T.1 := by omega
  have e112 : (112 : Nat) < T.1 := by omega
  have v42 := hVA.2.1
  have v44 := hPA.2.1
  have v2 := hS.2.2.1.1.2.1
  have v37 := hS.2.2.2.1.1.2.1
  have v40 := hTA.2.2.1
  have v112 := hNA.2.1
  have hX := hS.2.2.2.2.1
  have hXl := hX.2.1
  have hXs := hX.2.2.1
  refine s_iload_n (i := 1) dX11_type_0 rfl rfl ?_
  refine s_if_lt (tgt := 10) dX11_type_1 (by decide) (fun c1 => ?_) (fun c1 => ?_)
  · refine s_bipush (v := -2) dX11_type_10 (by decide) ?_
    refine s_iret dX11_type_12 rfl ?_
    rw [t_lt0] at c1
    try rw [t_le', show ((127 : Int32).toInt) = 127 from by decide] at c7
    rw [zm2]
    exact hq T I (-2) S (Or.inl ⟨by omega, rfl, rfl⟩) (Tq.refl T) (frM.refl I) hS
  · refine s_iload_n (i := 1) dX11_type_4 rfl rfl ?_
    refine s_bipush (v := 127) dX11_type_5 (by decide) ?_
    refine s_icmp_le (tgt := 13) dX11_type_7 (by decide) (fun c7 => ?_) (fun c7 => ?_)
    · refine s_aload_n (i := 0) dX11_type_13 rfl rfl ?_
      refine s_getR dX11_type_14 fl_X11_34 (by assumption) (by assumption) (by assumption) ?_
      refine s_getI dX11_type_17 fl_X11_87 (by assumption) (by assumption) ?_
      refine s_bipush (v := 100) dX11_type_20 (by decide) ?_
      refine s_icmp_lt (tgt := 28) dX11_type_22 (by decide) (fun c22 => ?_) (fun c22 => ?_)
      · rw [t_lt0] at c1
        rw [t_le', show ((127 : Int32).toInt) = 127 from by decide] at c7
        rw [t_zI hXs, show (100 : Int32) = zI 100 from rfl, zI_lt (by omega) (by omega) (by omega) (by omega)] at c22
        have hlt : S.2.2.2.1.2 < 100 := by omega
        refine s_aload_n (i := 0) dX11_type_28 rfl rfl ?_
        refine s_getR dX11_type_29 fl_X11_34 (by assumption) (by assumption) (by assumption) ?_
        refine s_iload_n (i := 1) dX11_type_32 rfl rfl ?_
        refine s_cV_I (My := mX9_append) dX11_type_33 wM_X11_144 cb_yX9_append ci_yX9_append (by assumption) (by assumption) (Nat.le_of_ble_eq_true rfl) (by decide) (s_d (by omega) (c_append (d := 0) hX hlt (fun I1 hf1 hX1 => ?_)))
        refine s_aload_n (i := 0) dX11_type_36 rfl rfl ?_
        refine s_getR dX11_type_37 fl_X11_34 (by assumption) (by assumption) (by assumption) ?_
        refine s_getI dX11_type_40 fl_X11_87 (by assumption) (by assumption) ?_
        refine s_iret dX11_type_43 rfl ?_
        rw [t_zI hX1.2.2.1]
        exact hq T I1 _ (setT S (fun q => if q = S.2.2.2.1.2 then x.toInt else S.2.2.2.1.1 q, S.2.2.2.1.2 + 1)) (Or.inr ⟨by omega, Or.inr ⟨hlt, rfl, rfl⟩⟩) (Tq.refl T) (fun b h1 h2 => hf1 b (by simp; omega)) (ClsIs.setT hS (fun b hb => hf1 b (by simp; omega)) hX1)
      · refine s_bipush (v := -4) dX11_type_25 (by decide) ?_
        refine s_iret dX11_type_27 rfl ?_
        rw [t_lt0] at c1
        rw [t_le', show ((127 : Int32).toInt) = 127 from by decide] at c7
        rw [t_zI hXs, show (100 : Int32) = zI 100 from rfl, zI_lt (by omega) (by omega) (by omega) (by omega)] at c22
        rw [zm4]
        exact hq T I (-4) S (Or.inr ⟨by omega, Or.inl ⟨by omega, rfl, rfl⟩⟩) (Tq.refl T) (frM.refl I) hS
    · refine s_bipush (v := -2) dX11_type_10 (by decide) ?_
      refine s_iret dX11_type_12 rfl ?_
      rw [t_lt0] at c1
      try rw [t_le', show ((127 : Int32).toInt) = 127 from by decide] at c7
      rw [zm2]
      exact hq T I (-2) S (Or.inl ⟨by omega, rfl, rfl⟩) (Tq.refl T) (frM.refl I) hS
set_option maxRecDepth 100000 in
set_option maxHeartbeats 1000000 in
theorem c_erase {G : fG} {x0 : Nat} {l : Launch} {d k n : Nat} {T : fT} {I : fI} {J : fJ} {Q : Option Value → fT → fI → fJ → Prop} {S : ASt} (hS : ClsIs T I S) (hk : SOk S) (hq : ∀ (T' : fT) (I' : fI) (a : Int) (S' : ASt), rErase S  a S' → Tq T T' → frM I I' → ClsIs T' I' S' → Q (some (.int (zI a))) T' I' J) : PW G x0 l mX11_erase (d + 1) (ZM G x0 Q) k n 0 [(0, .ref (x0 + 0))] [] T I J := by
  obtain ⟨⟨o1, o2, o3, o4, o5, o6, o7, o8, o9, o10, o11⟩, hLA, hTA, hVA, hPA, hGA, hNA, hEA⟩ := id hS.1
  obtain ⟨la1, la2, la3, la4⟩ := id hLA
  have e0 : (0 : Nat) < T.1 := by omega
  have e1 : (1 : Nat) < T.1 := by omega
  have e2 : (2 : Nat) < T.1 := by omega
  have e37 : (37 : Nat) < T.1 := by omega
  have e40 : (40 : Nat) < T.1 := by omega
  have e42 : (42 : Nat) < T.1 := by omega
  have e44 : (44 : Nat) < T.1 := by omega
  have e112 : (112 : Nat) < T.1 := by omega
  have v42 := hVA.2.1
  have v44 := hPA.2.1
  have v2 := hS.2.2.1.1.2.1
  have v37 := hS.2.2.2.1.1.2.1
  have v40 := hTA.2.2.1
  have v112 := hNA.2.1
  have hX := hS.2.2.2.2.1
  refine s_aload_n (i := 0) dX11_erase_0 rfl rfl ?_
  refine s_getR dX11_erase_1 fl_X11_34 (by assumption) (by assumption) (by assumption) ?_
  refine s_getI dX11_erase_4 fl_X11_87 (by assumption) (by assumption) ?_
  refine s_istore_n (i := 1) dX11_erase_7 rfl (by decide) (by simp only [sl, sl2, rm, Value.category, reduceIte, Nat.reduceAdd, Nat.reduceEqDiff, reduceCtorEq]; rfl) ?_
  refine s_aload_n (i := 0) dX11_erase_8 rfl rfl ?_
  refine s_getR dX11_erase_9 fl_X11_34 (by assumption) (by assumption) (by assumption) ?_
  refine s_iconst (v := 0) dX11_erase_12 (by decide) ?_
  refine s_putI dX11_erase_13 fp_X11_87 (by assumption) (by assumption) ?_
  refine s_iload_n (i := 1) dX11_erase_16 rfl rfl ?_
  refine s_iret dX11_erase_17 rfl ?_
  rw [t_zI hX.2.2.1]
  exact hq T _ _ (setT S (S.2.2.2.1.1, 0)) ⟨rfl, rfl⟩ (Tq.refl T) (fun b h1 h2 => iu_ne (by omega)) (ClsIs.setT hS (fun b hb => iu_ne (by omega)) ⟨hX.1, Nat.zero_le _, by rw [iu_at]; rfl, fun q hq => absurd hq (Nat.not_lt_zero q)⟩)
