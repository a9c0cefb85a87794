/-! the model reads expressions -/
theorem zl40 : (40 : Int32) = zI 40 := rfl
theorem zl41 : (41 : Int32) = zI 41 := rfl
theorem zl94 : (94 : Int32) = zI 94 := rfl
def OrdM (I : fI) (L : List Int) : Prop := I 144 30 = zI L.length ∧ ∀ q, q < L.length → I 160 q = zI (lfn L q)
def WtM (I : fI) (L : List Int) : Prop := I 144 32 = zI L.length ∧ ∀ q, q < L.length → I 161 q = zI (lfn L.reverse q)
theorem OrdM.fr {I I' : fI} {L : List Int} (h : OrdM I L) (h1 : I' 144 30 = I 144 30) (h2 : I' 160 = I 160) : OrdM I' L := ⟨by rw [h1]; exact h.1, by rw [h2]; exact h.2⟩
theorem WtM.fr {I I' : fI} {L : List Int} (h : WtM I L) (h1 : I' 144 32 = I 144 32) (h2 : I' 161 = I 161) : WtM I' L := ⟨by rw [h1]; exact h.1, by rw [h2]; exact h.2⟩
theorem lfn_snoc_lt {L : List Int} {v : Int} {q : Nat} (h : q < L.length) : lfn (L ++ [v]) q = lfn L q := getD_snoc_lt h
theorem lfn_snoc_eq {L : List Int} {v : Int} : lfn (L ++ [v]) L.length = v := getD_snoc_eq
theorem WtM.top {I : fI} {t : Int} {L : List Int} (h : WtM I (t :: L)) : I 161 L.length = zI t := by
  have h1 := h.2 L.length (by rw [List.length_cons]; omega)
  rw [List.reverse_cons] at h1
  rw [h1]
  have e : lfn (L.reverse ++ [t]) L.reverse.length = t := lfn_snoc_eq
  rw [List.length_reverse] at e
  rw [e]
theorem WtM.pop {I I' : fI} {t : Int} {L : List Int} (h : WtM I (t :: L)) (h1 : I' 144 32 = zI L.length) (h2 : I' 161 = I 161) : WtM I' L := by
  refine ⟨h1, fun q hq => ?_⟩
  have h3 := h.2 q (by rw [List.length_cons]; omega)
  rw [List.reverse_cons, lfn_snoc_lt (by rw [List.length_reverse]; exact hq)] at h3
  rw [h2, h3]
theorem WtM.push {I I' : fI} {t : Int} {L : List Int} (h : WtM I L) (h1 : I' 144 32 = zI ((L.length + 1 : Nat) : Int)) (h2 : I' 161 L.length = zI t) (h3 : ∀ q, q < L.length → I' 161 q = I 161 q) : WtM I' (t :: L) := by
  refine ⟨h1, fun q hq => ?_⟩
  rw [List.length_cons] at hq
  rw [List.reverse_cons]
  by_cases e : q = L.length
  · have e2 : lfn (L.reverse ++ [t]) L.reverse.length = t := lfn_snoc_eq
    rw [List.length_reverse] at e2
    rw [e, e2]
    exact h2
  · rw [lfn_snoc_lt (by rw [List.length_reverse]; omega), h3 q (by omega)]
    exact h.2 q (by omega)
def XM (I : fI) (s : eS) : Prop := OrdM I s.1 ∧ WtM I s.2.1 ∧ I 144 33 = zI s.2.2.1
def frX (I I' : fI) : Prop := fr I I' [144, 160, 161] ∧ ∀ j, (j < 19 ∨ (20 < j ∧ j < 30) ∨ j = 31 ∨ 33 < j) → I' 144 j = I 144 j
theorem frX.refl (I : fI) : frX I I := ⟨fr_refl I _, fun _ _ => rfl⟩
theorem frX.trans {I I1 I2 : fI} (h : frX I I1) (h2 : frX I1 I2) : frX I I2 := ⟨fr_trans h.1 h2.1, fun j a => (h2.2 j a).trans (h.2 j a)⟩
theorem frX.tx {I I' : fI} {t : (Nat → Int) × Nat} (h : frX I I') (hX : TextM I t) : TextM I' t := hX.fr (h.2 18 (by omega)) (h.1 155 (by decide))
theorem frX.put {I : fI} {j : Nat} {v : Int32} (h : j = 19 ∨ j = 20 ∨ j = 30 ∨ j = 32 ∨ j = 33) : frX I (iu I 144 j v) := ⟨fr_iu (by simp), fun q a => iu_j (by omega)⟩
theorem frX.of {I I' : fI} {j : Nat} (hj : j = 19 ∨ j = 20 ∨ j = 30 ∨ j = 32 ∨ j = 33) (h : fr I I' [144]) (h2 : ∀ q, q ≠ j → I' 144 q = I 144 q) : frX I I' := ⟨fr_sub h (fun b hb => by simp at hb ⊢; omega), fun q a => h2 q (by omega)⟩
theorem frX.of30 {I I' : fI} (h : fr I I' [144, 160]) (h2 : ∀ q, q ≠ 30 → I' 144 q = I 144 q) : frX I I' := ⟨fr_sub h (fun b hb => by simp at hb ⊢; omega), fun q a => h2 q (by omega)⟩
theorem XM.of {I I' : fI} {s : eS} {j : Nat} (hj : j = 19 ∨ j = 20) (h : XM I s) (hf : fr I I' [144]) (h2 : ∀ q, q ≠ j → I' 144 q = I 144 q) : XM I' s := ⟨h.1.fr (h2 30 (by omega)) (hf 160 (by decide)), h.2.1.fr (h2 32 (by omega)) (hf 161 (by decide)), by rw [h2 33 (by omega)]; exact h.2.2⟩
theorem rel_all : ∀ (w out : List Int), (∀ t, t ∈ w → t = 40 ∨ 0 < strg t) → w.count 40 = 0 → (rel 1 w out).2 = out ++ w := by
  intro w
  induction w with
  | nil => intro out _ _; simp [rel]
  | cons t w ih =>
    intro out h hc
    have ht : t ≠ 40 := fun e => by rw [e, List.count_cons_self] at hc; omega
    rw [List.count_cons_of_ne (by simpa using ht)] at hc
    have hs := (h t List.mem_cons_self).resolve_left ht
    simp only [rel]
    rw [if_pos (by omega), ih (out ++ [t]) (fun q hq => h q (List.mem_cons_of_mem _ hq)) hc, List.append_assoc]
    rfl
theorem strg_pos {t : Int} : 0 < strg t ↔ t = 38 ∨ t = 45 ∨ t = 94 ∨ t = 124 := by
  unfold strg
  constructor
  · intro h
    split at h
    · omega
    · split at h
      · omega
      · split at h
        · omega
        · split at h <;> omega
  · intro h
    split
    · omega
    · split
      · omega
      · split
        · omega
        · split <;> omega
theorem prs_sk {tx : Nat → Int} {tl : Nat} : ∀ (z p : Nat) (s : eS), p + z = tl → prs tx tl z p s = prs tx tl (tl - sk tx tl p) (sk tx tl p) s := by
  intro z
  induction z with
  | zero =>
    intro p s h
    rw [sk_stay (by rw [chz_out (by omega)]; decide), show tl - p = 0 by omega]
  | succ z ih =>
    intro p s h
    by_cases c : chz tx tl p = 32
    · have e : tx p = 32 := by unfold chz at c; rw [if_pos (by omega)] at c; exact c
      have hs : sk tx tl p = sk tx tl (p + 1) := by
        unfold sk
        obtain ⟨t', ht⟩ : ∃ t', tl = t' + 1 := ⟨tl - 1, by omega⟩
        conv => lhs; rw [ht]
        simp only [skp]
        rw [← ht, if_pos c]
        exact skp_fuel tx tl _ _ _ (by omega) (by omega)
      rw [hs, ← ih (p + 1) s (by omega)]
      simp only [prs]
      have hes : estep s (tx p) = some s := by unfold estep; rw [if_pos e]
      rw [hes]
    · rw [sk_stay c, show tl - p = z + 1 by omega]
set_option maxRecDepth 100000 in
set_option maxHeartbeats 1000000 in
theorem m_orders {G : fG} {x0 : Nat} {l : Launch} {d k n : Nat} {T : fT} {I : fI} {J : fJ} {Q : Option Value → fT → fI → fJ → Prop} {out : List Int} {v : Int} (hM : MObj T) (hO : OrdM I out) (hl : out.length < 100) (hq : ∀ I', fr I I' [144, 160] → (∀ j, j ≠ 30 → I' 144 j = I 144 j) → OrdM I' (out ++ [v]) → Q none T I' J) : PW G x0 l mX12_orders d (ZM G x0 Q) k n 0 [(0, .ref (x0 + 144)), (1, .int (zI v))] [] T I J := by
  obtain ⟨o1, o2⟩ := hM.o
  obtain ⟨r160, b160, k160, n160⟩ := hM.a160
  refine s_aload_n (i := 0) dX12_orders_0 rfl rfl ?_
  refine s_getR dX12_orders_1 fl_X12_62 (by assumption) (by assumption) (by assumption) ?_
  refine s_aload_n (i := 0) dX12_orders_4 rfl rfl ?_
  refine s_getI dX12_orders_5 fl_X12_243 (by assumption) (by assumption) ?_
  rw [hO.1]
  refine s_iload_n (i := 1) dX12_orders_8 rfl rfl ?_
  refine s_istn (j := out.length) dX12_orders_9 (by assumption) (by assumption) (by assumption) (by first | with_reducible rfl | ((try simp only [z0, z1, zm1, zm2, zm3, zm4, zl2, zl3, zl4, zl5, zl6, zl7, zl8, zl9, zl10, zl20, zl28, zl31, zl32, zl33, zl48, zl57, zl64, zl100, zl127, zl200, zl201, zl202, zl402, zl1200, zl2412, zl16884, zI_add, zI_sub, zI_mul, zI_inc, zI_dec]) <;> (congr 1 <;> omega))) (by omega) (by decide) ?_
  refine s_aload_n (i := 0) dX12_orders_10 rfl rfl ?_
  refine s_dup dX12_orders_11 rfl ?_
  refine s_getI dX12_orders_12 fl_X12_243 (by assumption) (by assumption) ?_
  rw [iu_ne (by omega), hO.1]
  refine s_iconst (v := 1) dX12_orders_15 (by decide) ?_
  refine s_iadd dX12_orders_16 ?_
  refine s_topi (y := zI ((out.length + 1 : Nat) : Int)) (by first | with_reducible rfl | ((try simp only [z0, z1, zm1, zm2, zm3, zm4, zl2, zl3, zl4, zl5, zl6, zl7, zl8, zl9, zl10, zl20, zl28, zl31, zl32, zl33, zl48, zl57, zl64, zl100, zl127, zl200, zl201, zl202, zl402, zl1200, zl2412, zl16884, zI_add, zI_sub, zI_mul, zI_inc, zI_dec]) <;> (congr 1 <;> omega))) ?_
  refine s_putI dX12_orders_17 fp_X12_243 (by assumption) (by assumption) ?_
  refine s_ret dX12_orders_20 rfl ?_
  refine hq _ (fun b hb => by simp at hb; rw [iu_ne (by omega), iu_ne (by omega)]) (fun j h => by rw [iu_j h, iu_ne (by omega)]) ⟨by rw [iu_at, List.length_append, List.length_singleton], fun q h => ?_⟩
  rw [List.length_append, List.length_singleton] at h
  rw [iu_ne (by omega)]
  by_cases e : q = out.length
  · subst e; rw [iu_at, lfn_snoc_eq]
  · rw [iu_j e, lfn_snoc_lt (by omega)]; exact hO.2 q (by omega)
set_option maxRecDepth 100000 in
set_option maxHeartbeats 1000000 in
theorem m_rank {G : fG} {x0 : Nat} {l : Launch} {d k n : Nat} {T : fT} {I : fI} {J : fJ} {Q : Option Value → fT → fI → fJ → Prop} {x : Int} (hx : 0 ≤ x ∧ x ≤ 127) (hs : x = 40 ∨ 0 < strg x) (hq : Q (some (.int (zI (strg x)))) T I J) : PW G x0 l mX12_rank d (ZM G x0 Q) k n 0 [(0, .int (zI x))] [] T I J := by
  by_cases e : x = 38
  · have hst : strg x = 2 := by unfold strg; rw [if_pos e]
    rw [hst] at hq
    refine s_iload_n (i := 0) dX12_rank_0 rfl rfl ?_
    refine s_bipush (v := 38) dX12_rank_1 (by decide) ?_
    refine s_icmp_ne (tgt := 10) dX12_rank_3 (by decide) (fun h3 => absurd h3 (fun h => h (by rw [e]; rfl))) (fun h3 => ?_)
    refine s_iconst (v := 2) dX12_rank_6 (by decide) ?_
    refine s_goto (tgt := 21) dX12_rank_7 (by decide) ?_
    refine s_iret dX12_rank_21 rfl ?_
    exact hq
  · by_cases e2 : x = 40
    · have hst : strg x = 0 := by rw [e2]; decide
      rw [hst] at hq
      refine s_iload_n (i := 0) dX12_rank_0 rfl rfl ?_
      refine s_bipush (v := 38) dX12_rank_1 (by decide) ?_
      refine s_icmp_ne (tgt := 10) dX12_rank_3 (by decide) (fun h3 => ?_) (fun h3 => absurd h3 (fun h => by rw [zl38, zI_eq (by omega) (by omega) (by omega) (by omega)] at h; omega))
      refine s_iload_n (i := 0) dX12_rank_10 rfl rfl ?_
      refine s_bipush (v := 40) dX12_rank_11 (by decide) ?_
      refine s_icmp_ne (tgt := 20) dX12_rank_13 (by decide) (fun h13 => absurd h13 (fun h => h (by rw [e2]; rfl))) (fun h13 => ?_)
      refine s_iconst (v := 0) dX12_rank_16 (by decide) ?_
      refine s_goto (tgt := 21) dX12_rank_17 (by decide) ?_
      refine s_iret dX12_rank_21 rfl ?_
      exact hq
    · have hst : strg x = 1 := by
        have h1 := strg_pos.mp (hs.resolve_left e2)
        unfold strg
        rw [if_neg e]
        split
        · rfl
        · split
          · rfl
          · rw [if_pos (by omega)]
      rw [hst] at hq
      refine s_iload_n (i := 0) dX12_rank_0 rfl rfl ?_
      refine s_bipush (v := 38) dX12_rank_1 (by decide) ?_
      refine s_icmp_ne (tgt := 10) dX12_rank_3 (by decide) (fun h3 => ?_) (fun h3 => absurd h3 (fun h => by rw [zl38, zI_eq (by omega) (by omega) (by omega) (by omega)] at h; omega))
      refine s_iload_n (i := 0) dX12_rank_10 rfl rfl ?_
      refine s_bipush (v := 40) dX12_rank_11 (by decide) ?_
      refine s_icmp_ne (tgt := 20) dX12_rank_13 (by decide) (fun h13 => ?_) (fun h13 => absurd h13 (fun h => by rw [zl40, zI_eq (by omega) (by omega) (by omega) (by omega)] at h; omega))
      refine s_iconst (v := 1) dX12_rank_20 (by decide) ?_
      refine s_iret dX12_rank_21 rfl ?_
      exact hq
set_option maxRecDepth 100000 in
set_option maxHeartbeats 1000000 in
theorem ml_popA {G : fG} {x0 : Nat} {l : Launch} {d k n : Nat} {T : fT} {J : fJ} {Q : Option Value → fT → fI → fJ → Prop} {c1 : Int32} (hM : MObj T) : ∀ (w out : List Int) (I : fI), (∀ t, t ∈ w → 0 ≤ t ∧ t ≤ 127 ∧ (t = 40 ∨ 0 < strg t)) → 0 < w.count 40 → out.length + w.length ≤ 100 → OrdM I out → WtM I w → (∀ I', frX I I' → I' 144 19 = I 144 19 → I' 144 20 = I 144 20 → I' 144 33 = I 144 33 → OrdM I' (rel 1 w out).2 → WtM I' (rel 1 w out).1 → PW G x0 l mX12_readsSign (d + 1) (ZM G x0 Q) k n 70 [(0, .ref (x0 + 144)), (1, .int c1)] [] T I' J) → PW G x0 l mX12_readsSign (d + 1) (ZM G x0 Q) k n 28 [(0, .ref (x0 + 144)), (1, .int c1)] [] T I J := by
  obtain ⟨o1, o2⟩ := hM.o
  obtain ⟨r161, b161, k161, n161⟩ := hM.a161
  intro w
  induction w with
  | nil => intro out I _ hc; simp at hc
  | cons t w ih =>
    intro out I hw hc hl hO hW kk
    obtain ⟨t1, t2, t3⟩ := hw t List.mem_cons_self
    have h32 : I 144 32 = zI ((w.length + 1 : Nat) : Int) := hW.1
    have hlw : w.length + 1 ≤ 100 := by rw [List.length_cons] at hl; omega
    by_cases e : t = 40
    · have hr : rel 1 (t :: w) out = (t :: w, out) := by simp only [rel]; rw [e, if_neg (by decide)]
      rw [hr] at kk
      refine s_aload_n (i := 0) dX12_readsSign_28 rfl rfl ?_
      refine s_getR dX12_readsSign_29 fl_X12_65 (by assumption) (by assumption) (by assumption) ?_
      refine s_aload_n (i := 0) dX12_readsSign_32 rfl rfl ?_
      refine s_getI dX12_readsSign_33 fl_X12_249 (by assumption) (by assumption) ?_
      rw [h32]
      refine s_iconst (v := 1) dX12_readsSign_36 (by decide) ?_
      refine s_isub dX12_readsSign_37 ?_
      refine s_topi (y := zI ((w.length : Nat) : Int)) (by first | with_reducible rfl | ((try simp only [z0, z1, zm1, zm2, zm3, zm4, zl2, zl3, zl4, zl5, zl6, zl7, zl8, zl9, zl10, zl20, zl28, zl31, zl32, zl33, zl48, zl57, zl64, zl100, zl127, zl200, zl201, zl202, zl402, zl1200, zl2412, zl16884, zI_add, zI_sub, zI_mul, zI_inc, zI_dec]) <;> (congr 1 <;> omega))) ?_
      refine s_ildn (j := w.length) dX12_readsSign_38 (by assumption) (by assumption) (by assumption) (by first | with_reducible rfl | ((try simp only [z0, z1, zm1, zm2, zm3, zm4, zl2, zl3, zl4, zl5, zl6, zl7, zl8, zl9, zl10, zl20, zl28, zl31, zl32, zl33, zl48, zl57, zl64, zl100, zl127, zl200, zl201, zl202, zl402, zl1200, zl2412, zl16884, zI_add, zI_sub, zI_mul, zI_inc, zI_dec]) <;> (congr 1 <;> omega))) (by omega) (by decide) ?_
      rw [hW.top]
      refine s_bipush (v := 40) dX12_readsSign_39 (by decide) ?_
      refine s_icmp_eq (tgt := 70) dX12_readsSign_41 (by decide) (fun h41 => ?_) (fun h41 => absurd (by rw [e]; rfl) h41)
      exact kk I (frX.refl I) rfl rfl rfl hO hW
    · have hst := t3.resolve_left e
      have hr : rel 1 (t :: w) out = rel 1 w (out ++ [t]) := by simp only [rel]; rw [if_pos (by omega)]
      rw [hr] at kk
      rw [List.count_cons_of_ne (by simpa using e)] at hc
      refine s_aload_n (i := 0) dX12_readsSign_28 rfl rfl ?_
      refine s_getR dX12_readsSign_29 fl_X12_65 (by assumption) (by assumption) (by assumption) ?_
      refine s_aload_n (i := 0) dX12_readsSign_32 rfl rfl ?_
      refine s_getI dX12_readsSign_33 fl_X12_249 (by assumption) (by assumption) ?_
      rw [h32]
      refine s_iconst (v := 1) dX12_readsSign_36 (by decide) ?_
      refine s_isub dX12_readsSign_37 ?_
      refine s_topi (y := zI ((w.length : Nat) : Int)) (by first | with_reducible rfl | ((try simp only [z0, z1, zm1, zm2, zm3, zm4, zl2, zl3, zl4, zl5, zl6, zl7, zl8, zl9, zl10, zl20, zl28, zl31, zl32, zl33, zl48, zl57, zl64, zl100, zl127, zl200, zl201, zl202, zl402, zl1200, zl2412, zl16884, zI_add, zI_sub, zI_mul, zI_inc, zI_dec]) <;> (congr 1 <;> omega))) ?_
      refine s_ildn (j := w.length) dX12_readsSign_38 (by assumption) (by assumption) (by assumption) (by first | with_reducible rfl | ((try simp only [z0, z1, zm1, zm2, zm3, zm4, zl2, zl3, zl4, zl5, zl6, zl7, zl8, zl9, zl10, zl20, zl28, zl31, zl32, zl33, zl48, zl57, zl64, zl100, zl127, zl200, zl201, zl202, zl402, zl1200, zl2412, zl16884, zI_add, zI_sub, zI_mul, zI_inc, zI_dec]) <;> (congr 1 <;> omega))) (by omega) (by decide) ?_
      rw [hW.top]
      refine s_bipush (v := 40) dX12_readsSign_39 (by decide) ?_
      refine s_icmp_eq (tgt := 70) dX12_readsSign_41 (by decide) (fun h41 => absurd h41 (fun h => by rw [zl40, zI_eq (by omega) (by omega) (by omega) (by omega)] at h; omega)) (fun h41 => ?_)
      refine s_aload_n (i := 0) dX12_readsSign_44 rfl rfl ?_
      refine s_dup dX12_readsSign_45 rfl ?_
      refine s_getI dX12_readsSign_46 fl_X12_249 (by assumption) (by assumption) ?_
      rw [h32]
      refine s_iconst (v := 1) dX12_readsSign_49 (by decide) ?_
      refine s_isub dX12_readsSign_50 ?_
      refine s_topi (y := zI ((w.length : Nat) : Int)) (by first | with_reducible rfl | ((try simp only [z0, z1, zm1, zm2, zm3, zm4, zl2, zl3, zl4, zl5, zl6, zl7, zl8, zl9, zl10, zl20, zl28, zl31, zl32, zl33, zl48, zl57, zl64, zl100, zl127, zl200, zl201, zl202, zl402, zl1200, zl2412, zl16884, zI_add, zI_sub, zI_mul, zI_inc, zI_dec]) <;> (congr 1 <;> omega))) ?_
      refine s_putI dX12_readsSign_51 fp_X12_249 (by assumption) (by assumption) ?_
      refine s_aload_n (i := 0) dX12_readsSign_54 rfl rfl ?_
      refine s_aload_n (i := 0) dX12_readsSign_55 rfl rfl ?_
      refine s_getR dX12_readsSign_56 fl_X12_65 (by assumption) (by assumption) (by assumption) ?_
      refine s_aload_n (i := 0) dX12_readsSign_59 rfl rfl ?_
      refine s_getI dX12_readsSign_60 fl_X12_249 (by assumption) (by assumption) ?_
      rw [iu_at]
      refine s_ildn (j := w.length) dX12_readsSign_63 (by assumption) (by assumption) (by assumption) (by first | with_reducible rfl | ((try simp only [z0, z1, zm1, zm2, zm3, zm4, zl2, zl3, zl4, zl5, zl6, zl7, zl8, zl9, zl10, zl20, zl28, zl31, zl32, zl33, zl48, zl57, zl64, zl100, zl127, zl200, zl201, zl202, zl402, zl1200, zl2412, zl16884, zI_add, zI_sub, zI_mul, zI_inc, zI_dec]) <;> (congr 1 <;> omega))) (by omega) (by decide) ?_
      rw [iu_ne (by omega), hW.top]
      refine s_cV_I (My := mX12_orders) dX12_readsSign_64 wM_X12_252 cb_yX12_orders ci_yX12_orders (by assumption) (by assumption) (Nat.le_of_ble_eq_true rfl) (by decide) (s_d (by omega) (m_orders (d := 0) (out := out) (v := t) hM (hO.fr (iu_j (by omega)) (iu_ne (by omega))) (by rw [List.length_cons] at hl; omega) (fun I1 hf1 hj1 hO1 => ?_)))
      refine s_goto (tgt := 28) dX12_readsSign_67 (by decide) ?_
      have hff : frX I I1 := (frX.put (j := 32) (by omega)).trans (frX.of30 hf1 hj1)
      have g19 : I1 144 19 = I 144 19 := by rw [hj1 19 (by omega), iu_j (by omega)]
      have g20 : I1 144 20 = I 144 20 := by rw [hj1 20 (by omega), iu_j (by omega)]
      have g33 : I1 144 33 = I 144 33 := by rw [hj1 33 (by omega), iu_j (by omega)]
      have hW1 : WtM I1 w := hW.pop (by rw [hj1 32 (by omega), iu_at]) (by rw [hf1 161 (by decide), iu_ne (by omega)])
      exact ih (out ++ [t]) I1 (fun q h => hw q (List.mem_cons_of_mem _ h)) hc (by rw [List.length_append, List.length_singleton]; rw [List.length_cons] at hl; omega) hO1 hW1 (fun I' hf a b c => kk I' (hff.trans hf) (a.trans g19) (b.trans g20) (c.trans g33))
set_option maxRecDepth 100000 in
set_option maxHeartbeats 1000000 in
theorem ml_popB {G : fG} {x0 : Nat} {l : Launch} {d k n : Nat} {T : fT} {J : fJ} {Q : Option Value → fT → fI → fJ → Prop} {ch : Int} (hM : MObj T) (hc1 : 0 ≤ ch ∧ ch ≤ 127) (hc2 : 0 < strg ch) : ∀ (w out : List Int) (I : fI), (∀ t, t ∈ w → 0 ≤ t ∧ t ≤ 127 ∧ (t = 40 ∨ 0 < strg t)) → out.length + w.length ≤ 100 → OrdM I out → WtM I w → (∀ I', frX I I' → I' 144 19 = I 144 19 → I' 144 20 = I 144 20 → I' 144 33 = I 144 33 → OrdM I' (rel (strg ch) w out).2 → WtM I' (rel (strg ch) w out).1 → PW G x0 l mX12_readsSign (d + 1) (ZM G x0 Q) k n 170 [(0, .ref (x0 + 144)), (1, .int (zI ch))] [] T I' J) → PW G x0 l mX12_readsSign (d + 1) (ZM G x0 Q) k n 116 [(0, .ref (x0 + 144)), (1, .int (zI ch))] [] T I J := by
  obtain ⟨o1, o2⟩ := hM.o
  obtain ⟨r161, b161, k161, n161⟩ := hM.a161
  have sc := strg_bd ch
  intro w
  induction w with
  | nil =>
    intro out I _ hl hO hW kk
    have h32 : I 144 32 = zI ((0 : Nat) : Int) := hW.1
    refine s_aload_n (i := 0) dX12_readsSign_116 rfl rfl ?_
    refine s_getI dX12_readsSign_117 fl_X12_249 (by assumption) (by assumption) ?_
    rw [h32]
    refine s_if_le (tgt := 170) dX12_readsSign_120 (by decide) (fun h120 => ?_) (fun h120 => absurd (by decide) h120)
    exact kk I (frX.refl I) rfl rfl rfl hO hW
  | cons t w ih =>
    intro out I hw hl hO hW kk
    obtain ⟨t1, t2, t3⟩ := hw t List.mem_cons_self
    have st := strg_bd t
    have h32 : I 144 32 = zI ((w.length + 1 : Nat) : Int) := hW.1
    have hlw : w.length + 1 ≤ 100 := by rw [List.length_cons] at hl; omega
    by_cases e : strg ch ≤ strg t
    · have hr : rel (strg ch) (t :: w) out = rel (strg ch) w (out ++ [t]) := by simp only [rel]; rw [if_pos e]
      rw [hr] at kk
      refine s_aload_n (i := 0) dX12_readsSign_116 rfl rfl ?_
      refine s_getI dX12_readsSign_117 fl_X12_249 (by assumption) (by assumption) ?_
      rw [h32]
      refine s_if_le (tgt := 170) dX12_readsSign_120 (by decide) (fun h120 => absurd h120 (fun h => by rw [z0, zI_le (by omega) (by omega) (by omega) (by omega)] at h; omega)) (fun h120 => ?_)
      refine s_aload_n (i := 0) dX12_readsSign_123 rfl rfl ?_
      refine s_getR dX12_readsSign_124 fl_X12_65 (by assumption) (by assumption) (by assumption) ?_
      refine s_aload_n (i := 0) dX12_readsSign_127 rfl rfl ?_
      refine s_getI dX12_readsSign_128 fl_X12_249 (by assumption) (by assumption) ?_
      rw [h32]
      refine s_iconst (v := 1) dX12_readsSign_131 (by decide) ?_
      refine s_isub dX12_readsSign_132 ?_
      refine s_topi (y := zI ((w.length : Nat) : Int)) (by first | with_reducible rfl | ((try simp only [z0, z1, zm1, zm2, zm3, zm4, zl2, zl3, zl4, zl5, zl6, zl7, zl8, zl9, zl10, zl20, zl28, zl31, zl32, zl33, zl48, zl57, zl64, zl100, zl127, zl200, zl201, zl202, zl402, zl1200, zl2412, zl16884, zI_add, zI_sub, zI_mul, zI_inc, zI_dec]) <;> (congr 1 <;> omega))) ?_
      refine s_ildn (j := w.length) dX12_readsSign_133 (by assumption) (by assumption) (by assumption) (by first | with_reducible rfl | ((try simp only [z0, z1, zm1, zm2, zm3, zm4, zl2, zl3, zl4, zl5, zl6, zl7, zl8, zl9, zl10, zl20, zl28, zl31, zl32, zl33, zl48, zl57, zl64, zl100, zl127, zl200, zl201, zl202, zl402, zl1200, zl2412, zl16884, zI_add, zI_sub, zI_mul, zI_inc, zI_dec]) <;> (congr 1 <;> omega))) (by omega) (by decide) ?_
      rw [hW.top]
      refine s_cS_I (My := mX12_rank) dX12_readsSign_134 wM_X12_254 cb_yX12_rank wT_yX12_rank (Nat.le_of_ble_eq_true rfl) (by decide) (s_d (by omega) (m_rank (d := 0) ⟨t1, t2⟩ t3 ?_))
      refine s_iload_n (i := 1) dX12_readsSign_137 rfl rfl ?_
      refine s_cS_I (My := mX12_rank) dX12_readsSign_138 wM_X12_254 cb_yX12_rank wT_yX12_rank (Nat.le_of_ble_eq_true rfl) (by decide) (s_d (by omega) (m_rank (d := 0) hc1 (Or.inr hc2) ?_))
      refine s_icmp_lt (tgt := 170) dX12_readsSign_141 (by decide) (fun h141 => absurd h141 (fun h => by rw [zI_lt (by omega) (by omega) (by omega) (by omega)] at h; omega)) (fun h141 => ?_)
      refine s_aload_n (i := 0) dX12_readsSign_144 rfl rfl ?_
      refine s_dup dX12_readsSign_145 rfl ?_
      refine s_getI dX12_readsSign_146 fl_X12_249 (by assumption) (by assumption) ?_
      rw [h32]
      refine s_iconst (v := 1) dX12_readsSign_149 (by decide) ?_
      refine s_isub dX12_readsSign_150 ?_
      refine s_topi (y := zI ((w.length : Nat) : Int)) (by first | with_reducible rfl | ((try simp only [z0, z1, zm1, zm2, zm3, zm4, zl2, zl3, zl4, zl5, zl6, zl7, zl8, zl9, zl10, zl20, zl28, zl31, zl32, zl33, zl48, zl57, zl64, zl100, zl127, zl200, zl201, zl202, zl402, zl1200, zl2412, zl16884, zI_add, zI_sub, zI_mul, zI_inc, zI_dec]) <;> (congr 1 <;> omega))) ?_
      refine s_putI dX12_readsSign_151 fp_X12_249 (by assumption) (by assumption) ?_
      refine s_aload_n (i := 0) dX12_readsSign_154 rfl rfl ?_
      refine s_aload_n (i := 0) dX12_readsSign_155 rfl rfl ?_
      refine s_getR dX12_readsSign_156 fl_X12_65 (by assumption) (by assumption) (by assumption) ?_
      refine s_aload_n (i := 0) dX12_readsSign_159 rfl rfl ?_
      refine s_getI dX12_readsSign_160 fl_X12_249 (by assumption) (by assumption) ?_
      rw [iu_at]
      refine s_ildn (j := w.length) dX12_readsSign_163 (by assumption) (by assumption) (by assumption) (by first | with_reducible rfl | ((try simp only [z0, z1, zm1, zm2, zm3, zm4, zl2, zl3, zl4, zl5, zl6, zl7, zl8, zl9, zl10, zl20, zl28, zl31, zl32, zl33, zl48, zl57, zl64, zl100, zl127, zl200, zl201, zl202, zl402, zl1200, zl2412, zl16884, zI_add, zI_sub, zI_mul, zI_inc, zI_dec]) <;> (congr 1 <;> omega))) (by omega) (by decide) ?_
      rw [iu_ne (by omega), hW.top]
      refine s_cV_I (My := mX12_orders) dX12_readsSign_164 wM_X12_252 cb_yX12_orders ci_yX12_orders (by assumption) (by assumption) (Nat.le_of_ble_eq_true rfl) (by decide) (s_d (by omega) (m_orders (d := 0) (out := out) (v := t) hM (hO.fr (iu_j (by omega)) (iu_ne (by omega))) (by rw [List.length_cons] at hl; omega) (fun I1 hf1 hj1 hO1 => ?_)))
      refine s_goto (tgt := 116) dX12_readsSign_167 (by decide) ?_
      have hff : frX I I1 := (frX.put (j := 32) (by omega)).trans (frX.of30 hf1 hj1)
      have g19 : I1 144 19 = I 144 19 := by rw [hj1 19 (by omega), iu_j (by omega)]
      have g20 : I1 144 20 = I 144 20 := by rw [hj1 20 (by omega), iu_j (by omega)]
      have g33 : I1 144 33 = I 144 33 := by rw [hj1 33 (by omega), iu_j (by omega)]
      have hW1 : WtM I1 w := hW.pop (by rw [hj1 32 (by omega), iu_at]) (by rw [hf1 161 (by decide), iu_ne (by omega)])
      exact ih (out ++ [t]) I1 (fun q h => hw q (List.mem_cons_of_mem _ h)) (by rw [List.length_append, List.length_singleton]; rw [List.length_cons] at hl; omega) hO1 hW1 (fun I' hf a b c => kk I' (hff.trans hf) (a.trans g19) (b.trans g20) (c.trans g33))
    · have hr : rel (strg ch) (t :: w) out = (t :: w, out) := by simp only [rel]; rw [if_neg e]
      rw [hr] at kk
      refine s_aload_n (i := 0) dX12_readsSign_116 rfl rfl ?_
      refine s_getI dX12_readsSign_117 fl_X12_249 (by assumption) (by assumption) ?_
      rw [h32]
      refine s_if_le (tgt := 170) dX12_readsSign_120 (by decide) (fun h120 => absurd h120 (fun h => by rw [z0, zI_le (by omega) (by omega) (by omega) (by omega)] at h; omega)) (fun h120 => ?_)
      refine s_aload_n (i := 0) dX12_readsSign_123 rfl rfl ?_
      refine s_getR dX12_readsSign_124 fl_X12_65 (by assumption) (by assumption) (by assumption) ?_
      refine s_aload_n (i := 0) dX12_readsSign_127 rfl rfl ?_
      refine s_getI dX12_readsSign_128 fl_X12_249 (by assumption) (by assumption) ?_
      rw [h32]
      refine s_iconst (v := 1) dX12_readsSign_131 (by decide) ?_
      refine s_isub dX12_readsSign_132 ?_
      refine s_topi (y := zI ((w.length : Nat) : Int)) (by first | with_reducible rfl | ((try simp only [z0, z1, zm1, zm2, zm3, zm4, zl2, zl3, zl4, zl5, zl6, zl7, zl8, zl9, zl10, zl20, zl28, zl31, zl32, zl33, zl48, zl57, zl64, zl100, zl127, zl200, zl201, zl202, zl402, zl1200, zl2412, zl16884, zI_add, zI_sub, zI_mul, zI_inc, zI_dec]) <;> (congr 1 <;> omega))) ?_
      refine s_ildn (j := w.length) dX12_readsSign_133 (by assumption) (by assumption) (by assumption) (by first | with_reducible rfl | ((try simp only [z0, z1, zm1, zm2, zm3, zm4, zl2, zl3, zl4, zl5, zl6, zl7, zl8, zl9, zl10, zl20, zl28, zl31, zl32, zl33, zl48, zl57, zl64, zl100, zl127, zl200, zl201, zl202, zl402, zl1200, zl2412, zl16884, zI_add, zI_sub, zI_mul, zI_inc, zI_dec]) <;> (congr 1 <;> omega))) (by omega) (by decide) ?_
      rw [hW.top]
      refine s_cS_I (My := mX12_rank) dX12_readsSign_134 wM_X12_254 cb_yX12_rank wT_yX12_rank (Nat.le_of_ble_eq_true rfl) (by decide) (s_d (by omega) (m_rank (d := 0) ⟨t1, t2⟩ t3 ?_))
      refine s_iload_n (i := 1) dX12_readsSign_137 rfl rfl ?_
      refine s_cS_I (My := mX12_rank) dX12_readsSign_138 wM_X12_254 cb_yX12_rank wT_yX12_rank (Nat.le_of_ble_eq_true rfl) (by decide) (s_d (by omega) (m_rank (d := 0) hc1 (Or.inr hc2) ?_))
      refine s_icmp_lt (tgt := 170) dX12_readsSign_141 (by decide) (fun h141 => ?_) (fun h141 => absurd ((zI_lt (by omega) (by omega) (by omega) (by omega)).mpr (by omega)) h141)
      exact kk I (frX.refl I) rfl rfl rfl hO hW
set_option maxRecDepth 100000 in
set_option maxHeartbeats 1000000 in
theorem ml_popC {G : fG} {x0 : Nat} {l : Launch} {d k n : Nat} {T : fT} {J : fJ} {Q : Option Value → fT → fI → fJ → Prop} {c1 : Int32} (hM : MObj T) : ∀ (w out : List Int) (I : fI), out.length + w.length ≤ 100 → OrdM I out → WtM I w → (∀ I', frX I I' → I' 144 20 = I 144 20 → OrdM I' (out ++ w) → Q none T I' J) → PW G x0 l mX12_readsExpression (d + 2) (ZM G x0 Q) k n 110 [(0, .ref (x0 + 144)), (1, .int c1)] [] T I J := by
  obtain ⟨o1, o2⟩ := hM.o
  obtain ⟨r161, b161, k161, n161⟩ := hM.a161
  intro w
  induction w with
  | nil =>
    intro out I hl hO hW hq
    have h32 : I 144 32 = zI ((0 : Nat) : Int) := hW.1
    refine s_aload_n (i := 0) dX12_readsExpression_110 rfl rfl ?_
    refine s_getI dX12_readsExpression_111 fl_X12_249 (by assumption) (by assumption) ?_
    rw [h32]
    refine s_if_le (tgt := 143) dX12_readsExpression_114 (by decide) (fun h114 => ?_) (fun h114 => absurd (by decide) h114)
    refine s_ret dX12_readsExpression_143 rfl ?_
    exact hq I (frX.refl I) rfl (by rw [List.append_nil]; exact hO)
  | cons t w ih =>
    intro out I hl hO hW hq
    have h32 : I 144 32 = zI ((w.length + 1 : Nat) : Int) := hW.1
    have hlw : w.length + 1 ≤ 100 := by rw [List.length_cons] at hl; omega
    refine s_aload_n (i := 0) dX12_readsExpression_110 rfl rfl ?_
    refine s_getI dX12_readsExpression_111 fl_X12_249 (by assumption) (by assumption) ?_
    rw [h32]
    refine s_if_le (tgt := 143) dX12_readsExpression_114 (by decide) (fun h114 => absurd h114 (fun h => by rw [z0, zI_le (by omega) (by omega) (by omega) (by omega)] at h; omega)) (fun h114 => ?_)
    refine s_aload_n (i := 0) dX12_readsExpression_117 rfl rfl ?_
    refine s_dup dX12_readsExpression_118 rfl ?_
    refine s_getI dX12_readsExpression_119 fl_X12_249 (by assumption) (by assumption) ?_
    rw [h32]
    refine s_iconst (v := 1) dX12_readsExpression_122 (by decide) ?_
    refine s_isub dX12_readsExpression_123 ?_
    refine s_topi (y := zI ((w.length : Nat) : Int)) (by first | with_reducible rfl | ((try simp only [z0, z1, zm1, zm2, zm3, zm4, zl2, zl3, zl4, zl5, zl6, zl7, zl8, zl9, zl10, zl20, zl28, zl31, zl32, zl33, zl48, zl57, zl64, zl100, zl127, zl200, zl201, zl202, zl402, zl1200, zl2412, zl16884, zI_add, zI_sub, zI_mul, zI_inc, zI_dec]) <;> (congr 1 <;> omega))) ?_
    refine s_putI dX12_readsExpression_124 fp_X12_249 (by assumption) (by assumption) ?_
    refine s_aload_n (i := 0) dX12_readsExpression_127 rfl rfl ?_
    refine s_aload_n (i := 0) dX12_readsExpression_128 rfl rfl ?_
    refine s_getR dX12_readsExpression_129 fl_X12_65 (by assumption) (by assumption) (by assumption) ?_
    refine s_aload_n (i := 0) dX12_readsExpression_132 rfl rfl ?_
    refine s_getI dX12_readsExpression_133 fl_X12_249 (by assumption) (by assumption) ?_
    rw [iu_at]
    refine s_ildn (j := w.length) dX12_readsExpression_136 (by assumption) (by assumption) (by assumption) (by first | with_reducible rfl | ((try simp only [z0, z1, zm1, zm2, zm3, zm4, zl2, zl3, zl4, zl5, zl6, zl7, zl8, zl9, zl10, zl20, zl28, zl31, zl32, zl33, zl48, zl57, zl64, zl100, zl127, zl200, zl201, zl202, zl402, zl1200, zl2412, zl16884, zI_add, zI_sub, zI_mul, zI_inc, zI_dec]) <;> (congr 1 <;> omega))) (by omega) (by decide) ?_
    rw [iu_ne (by omega), hW.top]
    refine s_cV_I (My := mX12_orders) dX12_readsExpression_137 wM_X12_252 cb_yX12_orders ci_yX12_orders (by assumption) (by assumption) (Nat.le_of_ble_eq_true rfl) (by decide) (s_d (by omega) (m_orders (d := 0) (out := out) (v := t) hM (hO.fr (iu_j (by omega)) (iu_ne (by omega))) (by rw [List.length_cons] at hl; omega) (fun I1 hf1 hj1 hO1 => ?_)))
    refine s_goto (tgt := 110) dX12_readsExpression_140 (by decide) ?_
    have hff : frX I I1 := (frX.put (j := 32) (by omega)).trans (frX.of30 hf1 hj1)
    have g19 : I1 144 19 = I 144 19 := by rw [hj1 19 (by omega), iu_j (by omega)]
    have g20 : I1 144 20 = I 144 20 := by rw [hj1 20 (by omega), iu_j (by omega)]
    have g33 : I1 144 33 = I 144 33 := by rw [hj1 33 (by omega), iu_j (by omega)]
    have hW1 : WtM I1 w := hW.pop (by rw [hj1 32 (by omega), iu_at]) (by rw [hf1 161 (by decide), iu_ne (by omega)])
    exact ih (out ++ [t]) I1 (by rw [List.length_append, List.length_singleton]; rw [List.length_cons] at hl; omega) hO1 hW1 (fun I' hf b c => hq I' (hff.trans hf) (b.trans g20) (by rw [List.append_assoc] at c; exact c))
set_option maxRecDepth 100000 in
set_option maxHeartbeats 1000000 in
theorem m_readsOperand {G : fG} {x0 : Nat} {l : Launch} {d k n : Nat} {T : fT} {I : fI} {J : fJ} {Q : Option Value → fT → fI → fJ → Prop} {tx : Nat → Int} {tl : Nat} (hM : MObj T) (hT : TxOk tx tl) (htl : tl ≤ 100) {p : Nat} {out w : List Int} {dp : Nat} (hX : TextM I (tx, tl)) (hp : p < tl) (h19 : I 144 19 = zI p) (h20 : I 144 20 = zI (-1)) (hS : XM I (out, w, dp, true)) (hk : ExOk (out, w, dp, true) p) (h32 : tx p ≠ 32) (hn : ∀ (I' : fI) (out' : List Int), estep (out, w, dp, true) (tx p) = none → frX I I' → I' 144 19 = zI p → I' 144 20 = zI p → out'.length + w.length ≤ 100 → XM I' (out', w, dp, true) → Q (some (.int 1)) T I' J) (hy : ∀ (s' : eS) (I' : fI), estep (out, w, dp, true) (tx p) = some s' → frX I I' → I' 144 19 = zI p → I' 144 20 = zI (-1) → XM I' s' → Q (some (.int (if s'.2.2.2 = true then 0 else 1))) T I' J) : PW G x0 l mX12_readsOperand (d + 1) (ZM G x0 Q) k n 0 [(0, .ref (x0 + 144))] [] T I J := by
  obtain ⟨o1, o2⟩ := hM.o
  obtain ⟨r161, b161, k161, n161⟩ := hM.a161
  have t65 : ((65 : Int32)).toInt = 65 := by decide
  have t70 : ((70 : Int32)).toInt = 70 := by decide
  obtain ⟨hO, hW, h33⟩ := hS
  obtain ⟨k1, k2, k3, k4⟩ := hk
  dsimp only at hO hW h33 k1 k2 k3 k4
  have hcb := hT p hp
  have hch : chz tx tl p = tx p := by unfold chz; rw [if_pos hp]
  have hct : (zI (tx p)).toInt = tx p := zI_t (by omega) (by omega)
  by_cases c1 : tx p = 40 ∧ dp < 8
  · have hes : estep (out, w, dp, true) (tx p) = some (out, 40 :: w, dp + 1, true) := by
      unfold estep
      rw [if_neg h32, if_pos rfl, if_neg (by omega), if_pos c1]
    obtain ⟨c1, c2⟩ := c1
    refine s_aload_n (i := 0) dX12_readsOperand_0 rfl rfl ?_
    refine s_cV_ (My := mX12_next) dX12_readsOperand_1 wM_X12_176 cb_yX12_next ci_yX12_next (by assumption) (by assumption) (Nat.le_of_ble_eq_true rfl) (by decide) (s_d (by omega) (m_next (d := 0) hM hT htl hX h19 (by omega) ?_))
    rw [hch]
    refine s_istore_n (i := 1) dX12_readsOperand_4 rfl (by decide) (by simp only [sl, sl2, rm, Value.category, reduceIte, Nat.reduceAdd, Nat.reduceEqDiff, reduceCtorEq]; rfl) ?_
    refine s_iload_n (i := 1) dX12_readsOperand_5 rfl rfl ?_
    refine s_bipush (v := 40) dX12_readsOperand_6 (by decide) ?_
    refine s_icmp_ne (tgt := 53) dX12_readsOperand_8 (by decide) (fun h8 => absurd h8 (fun h => h (by rw [c1]; rfl))) (fun h8 => ?_)
    refine s_aload_n (i := 0) dX12_readsOperand_11 rfl rfl ?_
    refine s_getI dX12_readsOperand_12 fl_X12_246 (by assumption) (by assumption) ?_
    rw [h33]
    refine s_bipush (v := 8) dX12_readsOperand_15 (by decide) ?_
    refine s_icmp_ge (tgt := 53) dX12_readsOperand_17 (by decide) (fun h17 => absurd h17 (fun h => by rw [zl8] at h; rw [zI_le (by omega) (by omega) (by omega) (by omega)] at h; omega)) (fun h17 => ?_)
    refine s_aload_n (i := 0) dX12_readsOperand_20 rfl rfl ?_
    refine s_dup dX12_readsOperand_21 rfl ?_
    refine s_getI dX12_readsOperand_22 fl_X12_246 (by assumption) (by assumption) ?_
    rw [h33]
    refine s_iconst (v := 1) dX12_readsOperand_25 (by decide) ?_
    refine s_iadd dX12_readsOperand_26 ?_
    refine s_topi (y := zI ((dp + 1 : Nat) : Int)) (by first | with_reducible rfl | ((try simp only [z0, z1, zm1, zm2, zm3, zm4, zl2, zl3, zl4, zl5, zl6, zl7, zl8, zl9, zl10, zl20, zl28, zl31, zl32, zl33, zl48, zl57, zl64, zl100, zl127, zl200, zl201, zl202, zl402, zl1200, zl2412, zl16884, zI_add, zI_sub, zI_mul, zI_inc, zI_dec]) <;> (congr 1 <;> omega))) ?_
    refine s_putI dX12_readsOperand_27 fp_X12_246 (by assumption) (by assumption) ?_
    refine s_aload_n (i := 0) dX12_readsOperand_30 rfl rfl ?_
    refine s_getR dX12_readsOperand_31 fl_X12_65 (by assumption) (by assumption) (by assumption) ?_
    refine s_aload_n (i := 0) dX12_readsOperand_34 rfl rfl ?_
    refine s_getI dX12_readsOperand_35 fl_X12_249 (by assumption) (by assumption) ?_
    rw [iu_j (by omega), hW.1]
    refine s_bipush (v := 40) dX12_readsOperand_38 (by decide) ?_
    refine s_istn (j := w.length) dX12_readsOperand_40 (by assumption) (by assumption) (by assumption) (by first | with_reducible rfl | ((try simp only [z0, z1, zm1, zm2, zm3, zm4, zl2, zl3, zl4, zl5, zl6, zl7, zl8, zl9, zl10, zl20, zl28, zl31, zl32, zl33, zl48, zl57, zl64, zl100, zl127, zl200, zl201, zl202, zl402, zl1200, zl2412, zl16884, zI_add, zI_sub, zI_mul, zI_inc, zI_dec]) <;> (congr 1 <;> omega))) (by omega) (by decide) ?_
    refine s_aload_n (i := 0) dX12_readsOperand_41 rfl rfl ?_
    refine s_dup dX12_readsOperand_42 rfl ?_
    refine s_getI dX12_readsOperand_43 fl_X12_249 (by assumption) (by assumption) ?_
    rw [iu_ne (by omega), iu_j (by omega), hW.1]
    refine s_iconst (v := 1) dX12_readsOperand_46 (by decide) ?_
    refine s_iadd dX12_readsOperand_47 ?_
    refine s_topi (y := zI ((w.length + 1 : Nat) : Int)) (by first | with_reducible rfl | ((try simp only [z0, z1, zm1, zm2, zm3, zm4, zl2, zl3, zl4, zl5, zl6, zl7, zl8, zl9, zl10, zl20, zl28, zl31, zl32, zl33, zl48, zl57, zl64, zl100, zl127, zl200, zl201, zl202, zl402, zl1200, zl2412, zl16884, zI_add, zI_sub, zI_mul, zI_inc, zI_dec]) <;> (congr 1 <;> omega))) ?_
    refine s_putI dX12_readsOperand_48 fp_X12_249 (by assumption) (by assumption) ?_
    refine s_iconst (v := 0) dX12_readsOperand_51 (by decide) ?_
    refine s_zret dX12_readsOperand_52 rfl (by first | exact Or.inl rfl | exact Or.inr rfl) ?_
    refine hy _ _ hes ⟨fun b hb => by simp at hb; rw [iu_ne (by omega), iu_ne (by omega), iu_ne (by omega)], fun j h => by rw [iu_j (by omega), iu_ne (by omega), iu_j (by omega)]⟩ (by rw [iu_j (by omega), iu_ne (by omega), iu_j (by omega)]; exact h19) (by rw [iu_j (by omega), iu_ne (by omega), iu_j (by omega)]; exact h20) ⟨hO.fr (by rw [iu_j (by omega), iu_ne (by omega), iu_j (by omega)]) (by rw [iu_ne (by omega), iu_ne (by omega), iu_ne (by omega)]), hW.push iu_at (by rw [iu_ne (by omega), iu_at]; rfl) (fun q h => by rw [iu_ne (by omega), iu_j (by omega), iu_ne (by omega)]), by rw [iu_j (by omega), iu_ne (by omega), iu_at]⟩
  · have go : PW G x0 l mX12_readsOperand (d + 1) (ZM G x0 Q) k n 53 [(0, .ref (x0 + 144)), (1, .int (zI (tx p)))] [] T I J := by
      refine s_iload_n (i := 1) dX12_readsOperand_53 rfl rfl ?_
      refine s_bipush (v := 65) dX12_readsOperand_54 (by decide) ?_
      refine s_bipush (v := 70) dX12_readsOperand_56 (by decide) ?_
      refine s_cS_III (My := mX12_in) dX12_readsOperand_58 wM_X12_68 cb_yX12_in wT_yX12_in (Nat.le_of_ble_eq_true rfl) (by decide) (s_d (by omega) (m_in (d := 0) ?_ ?_))
      · intro hx
        rw [hct, t65, t70] at hx
        have hes : estep (out, w, dp, true) (tx p) = some (out ++ [tx p], w, dp, false) := by
          unfold estep
          rw [if_neg h32, if_pos rfl, if_pos (by omega)]
        refine s_if_ne (tgt := 72) dX12_readsOperand_61 (by decide) (fun h61 => ?_) (fun h61 => absurd h61 (by decide))
        refine s_aload_n (i := 0) dX12_readsOperand_72 rfl rfl ?_
        refine s_iload_n (i := 1) dX12_readsOperand_73 rfl rfl ?_
        refine s_cV_I (My := mX12_orders) dX12_readsOperand_74 wM_X12_252 cb_yX12_orders ci_yX12_orders (by assumption) (by assumption) (Nat.le_of_ble_eq_true rfl) (by decide) (s_d (by omega) (m_orders (d := 0) (out := out) (v := tx p) hM hO (by omega) (fun I1 hf1 hj1 hO1 => ?_)))
        refine s_iconst (v := 1) dX12_readsOperand_77 (by decide) ?_
        refine s_zret dX12_readsOperand_78 rfl (by first | exact Or.inl rfl | exact Or.inr rfl) ?_
        exact hy _ I1 hes (frX.of30 hf1 hj1) (by rw [hj1 19 (by omega)]; exact h19) (by rw [hj1 20 (by omega)]; exact h20) ⟨hO1, hW.fr (hj1 32 (by omega)) (hf1 161 (by decide)), by rw [hj1 33 (by omega)]; exact h33⟩
      · intro hx
        rw [hct, t65, t70] at hx
        have hes : estep (out, w, dp, true) (tx p) = none := by
          unfold estep
          rw [if_neg h32, if_pos rfl, if_neg (by omega), if_neg c1]
        refine s_if_ne (tgt := 72) dX12_readsOperand_61 (by decide) (fun h61 => absurd h61 (fun h => h rfl)) (fun h61 => ?_)
        refine s_aload_n (i := 0) dX12_readsOperand_64 rfl rfl ?_
        refine s_aload_n (i := 0) dX12_readsOperand_65 rfl rfl ?_
        refine s_getI dX12_readsOperand_66 fl_X12_173 (by assumption) (by assumption) ?_
        rw [h19]
        refine s_cV_I (My := mX12_fails) dX12_readsOperand_69 wM_X12_183 cb_yX12_fails ci_yX12_fails (by assumption) (by assumption) (Nat.le_of_ble_eq_true rfl) (by decide) (s_d (by omega) (m_fails (d := 0) hM h20 (by omega) (fun I1 hf1 hj1 h1 => ?_)))
        refine s_aload_n (i := 0) dX12_readsOperand_72 rfl rfl ?_
        refine s_iload_n (i := 1) dX12_readsOperand_73 rfl rfl ?_
        refine s_cV_I (My := mX12_orders) dX12_readsOperand_74 wM_X12_252 cb_yX12_orders ci_yX12_orders (by assumption) (by assumption) (Nat.le_of_ble_eq_true rfl) (by decide) (s_d (by omega) (m_orders (d := 0) (out := out) (v := tx p) hM (hO.fr (hj1 30 (by omega)) (hf1 160 (by decide))) (by omega) (fun I2 hf2 hj2 hO2 => ?_)))
        refine s_iconst (v := 1) dX12_readsOperand_77 (by decide) ?_
        refine s_zret dX12_readsOperand_78 rfl (by first | exact Or.inl rfl | exact Or.inr rfl) ?_
        rw [if_pos rfl] at h1
        exact hn I2 (out ++ [tx p]) hes ((frX.of (j := 20) (by omega) hf1 hj1).trans (frX.of30 hf2 hj2)) (by rw [hj2 19 (by omega), hj1 19 (by omega)]; exact h19) (by rw [hj2 20 (by omega)]; exact h1) (by rw [List.length_append, List.length_singleton]; omega) ⟨hO2, hW.fr (by rw [hj2 32 (by omega), hj1 32 (by omega)]) (by rw [hf2 161 (by decide), hf1 161 (by decide)]), by rw [hj2 33 (by omega), hj1 33 (by omega)]; exact h33⟩
    by_cases c2 : tx p = 40
    · refine s_aload_n (i := 0) dX12_readsOperand_0 rfl rfl ?_
      refine s_cV_ (My := mX12_next) dX12_readsOperand_1 wM_X12_176 cb_yX12_next ci_yX12_next (by assumption) (by assumption) (Nat.le_of_ble_eq_true rfl) (by decide) (s_d (by omega) (m_next (d := 0) hM hT htl hX h19 (by omega) ?_))
      rw [hch]
      refine s_istore_n (i := 1) dX12_readsOperand_4 rfl (by decide) (by simp only [sl, sl2, rm, Value.category, reduceIte, Nat.reduceAdd, Nat.reduceEqDiff, reduceCtorEq]; rfl) ?_
      refine s_iload_n (i := 1) dX12_readsOperand_5 rfl rfl ?_
      refine s_bipush (v := 40) dX12_readsOperand_6 (by decide) ?_
      refine s_icmp_ne (tgt := 53) dX12_readsOperand_8 (by decide) (fun h8 => absurd h8 (fun h => h (by rw [c2]; rfl))) (fun h8 => ?_)
      refine s_aload_n (i := 0) dX12_readsOperand_11 rfl rfl ?_
      refine s_getI dX12_readsOperand_12 fl_X12_246 (by assumption) (by assumption) ?_
      rw [h33]
      refine s_bipush (v := 8) dX12_readsOperand_15 (by decide) ?_
      refine s_icmp_ge (tgt := 53) dX12_readsOperand_17 (by decide) (fun h17 => ?_) (fun h17 => absurd (by rw [zl8]; exact (zI_le (by omega) (by omega) (by omega) (by omega)).mpr (by omega)) h17)
      exact go
    · refine s_aload_n (i := 0) dX12_readsOperand_0 rfl rfl ?_
      refine s_cV_ (My := mX12_next) dX12_readsOperand_1 wM_X12_176 cb_yX12_next ci_yX12_next (by assumption) (by assumption) (Nat.le_of_ble_eq_true rfl) (by decide) (s_d (by omega) (m_next (d := 0) hM hT htl hX h19 (by omega) ?_))
      rw [hch]
      refine s_istore_n (i := 1) dX12_readsOperand_4 rfl (by decide) (by simp only [sl, sl2, rm, Value.category, reduceIte, Nat.reduceAdd, Nat.reduceEqDiff, reduceCtorEq]; rfl) ?_
      refine s_iload_n (i := 1) dX12_readsOperand_5 rfl rfl ?_
      refine s_bipush (v := 40) dX12_readsOperand_6 (by decide) ?_
      refine s_icmp_ne (tgt := 53) dX12_readsOperand_8 (by decide) (fun h8 => ?_) (fun h8 => absurd h8 (fun h => by rw [zl40, zI_eq (by omega) (by omega) (by omega) (by omega)] at h; omega))
      exact go
set_option maxRecDepth 100000 in
set_option maxHeartbeats 1000000 in
theorem m_readsSign {G : fG} {x0 : Nat} {l : Launch} {d k n : Nat} {T : fT} {I : fI} {J : fJ} {Q : Option Value → fT → fI → fJ → Prop} {tx : Nat → Int} {tl : Nat} (hM : MObj T) (hT : TxOk tx tl) (htl : tl ≤ 100) {p : Nat} {out w : List Int} {dp : Nat} (hX : TextM I (tx, tl)) (hp : p < tl) (h19 : I 144 19 = zI p) (h20 : I 144 20 = zI (-1)) (hS : XM I (out, w, dp, false)) (hk : ExOk (out, w, dp, false) p) (h32 : tx p ≠ 32) (hn : ∀ (I' : fI), estep (out, w, dp, false) (tx p) = none → frX I I' → I' 144 19 = zI p → I' 144 20 = zI p → XM I' (out, w, dp, false) → Q (some (.int 0)) T I' J) (hy : ∀ (s' : eS) (I' : fI), estep (out, w, dp, false) (tx p) = some s' → frX I I' → I' 144 19 = zI p → I' 144 20 = zI (-1) → XM I' s' → Q (some (.int (if s'.2.2.2 = true then 1 else 0))) T I' J) : PW G x0 l mX12_readsSign (d + 1) (ZM G x0 Q) k n 0 [(0, .ref (x0 + 144))] [] T I J := by
  obtain ⟨o1, o2⟩ := hM.o
  obtain ⟨r161, b161, k161, n161⟩ := hM.a161
  obtain ⟨hO, hW, h33⟩ := hS
  obtain ⟨k1, k2, k3, k4⟩ := hk
  dsimp only at hO hW h33 k1 k2 k3 k4
  have hcb := hT p hp
  have hch : chz tx tl p = tx p := by unfold chz; rw [if_pos hp]
  by_cases c1 : tx p = 41 ∧ 0 < dp
  · have hes : estep (out, w, dp, false) (tx p) = some ((rel 1 w out).2, (rel 1 w out).1.tail, dp - 1, false) := by
      unfold estep
      rw [if_neg h32, if_neg (by simp), if_pos c1]
    obtain ⟨c1, c2⟩ := c1
    obtain ⟨r, hr1, hr2⟩ := rel_par w out (fun t h => (k2 t h).2.2) (by omega)
    refine s_aload_n (i := 0) dX12_readsSign_0 rfl rfl ?_
    refine s_cV_ (My := mX12_next) dX12_readsSign_1 wM_X12_176 cb_yX12_next ci_yX12_next (by assumption) (by assumption) (Nat.le_of_ble_eq_true rfl) (by decide) (s_d (by omega) (m_next (d := 0) hM hT htl hX h19 (by omega) ?_))
    rw [hch]
    refine s_istore_n (i := 1) dX12_readsSign_4 rfl (by decide) (by simp only [sl, sl2, rm, Value.category, reduceIte, Nat.reduceAdd, Nat.reduceEqDiff, reduceCtorEq]; rfl) ?_
    refine s_iload_n (i := 1) dX12_readsSign_5 rfl rfl ?_
    refine s_bipush (v := 41) dX12_readsSign_6 (by decide) ?_
    refine s_icmp_ne (tgt := 82) dX12_readsSign_8 (by decide) (fun h8 => absurd h8 (fun h => h (by rw [c1]; rfl))) (fun h8 => ?_)
    refine s_aload_n (i := 0) dX12_readsSign_11 rfl rfl ?_
    refine s_getI dX12_readsSign_12 fl_X12_246 (by assumption) (by assumption) ?_
    rw [h33]
    refine s_if_le (tgt := 82) dX12_readsSign_15 (by decide) (fun h15 => absurd h15 (fun h => by rw [z0, zI_le (by omega) (by omega) (by omega) (by omega)] at h; omega)) (fun h15 => ?_)
    refine s_aload_n (i := 0) dX12_readsSign_18 rfl rfl ?_
    refine s_dup dX12_readsSign_19 rfl ?_
    refine s_getI dX12_readsSign_20 fl_X12_246 (by assumption) (by assumption) ?_
    rw [h33]
    refine s_iconst (v := 1) dX12_readsSign_23 (by decide) ?_
    refine s_isub dX12_readsSign_24 ?_
    refine s_topi (y := zI ((dp - 1 : Nat) : Int)) (by first | with_reducible rfl | ((try simp only [z0, z1, zm1, zm2, zm3, zm4, zl2, zl3, zl4, zl5, zl6, zl7, zl8, zl9, zl10, zl20, zl28, zl31, zl32, zl33, zl48, zl57, zl64, zl100, zl127, zl200, zl201, zl202, zl402, zl1200, zl2412, zl16884, zI_add, zI_sub, zI_mul, zI_inc, zI_dec]) <;> (congr 1 <;> omega))) ?_
    refine s_putI dX12_readsSign_25 fp_X12_246 (by assumption) (by assumption) ?_
    refine ml_popA hM w out _ k2 (by omega) (by omega) (hO.fr (iu_j (by omega)) (iu_ne (by omega))) (hW.fr (iu_j (by omega)) (iu_ne (by omega))) (fun I1 hf1 g19 g20 g33 hO1 hW1 => ?_)
    rw [hr1] at hW1
    have h32' : I1 144 32 = zI ((r.length + 1 : Nat) : Int) := hW1.1
    refine s_aload_n (i := 0) dX12_readsSign_70 rfl rfl ?_
    refine s_dup dX12_readsSign_71 rfl ?_
    refine s_getI dX12_readsSign_72 fl_X12_249 (by assumption) (by assumption) ?_
    rw [h32']
    refine s_iconst (v := 1) dX12_readsSign_75 (by decide) ?_
    refine s_isub dX12_readsSign_76 ?_
    refine s_topi (y := zI ((r.length : Nat) : Int)) (by first | with_reducible rfl | ((try simp only [z0, z1, zm1, zm2, zm3, zm4, zl2, zl3, zl4, zl5, zl6, zl7, zl8, zl9, zl10, zl20, zl28, zl31, zl32, zl33, zl48, zl57, zl64, zl100, zl127, zl200, zl201, zl202, zl402, zl1200, zl2412, zl16884, zI_add, zI_sub, zI_mul, zI_inc, zI_dec]) <;> (congr 1 <;> omega))) ?_
    refine s_putI dX12_readsSign_77 fp_X12_249 (by assumption) (by assumption) ?_
    refine s_iconst (v := 0) dX12_readsSign_80 (by decide) ?_
    refine s_zret dX12_readsSign_81 rfl (by first | exact Or.inl rfl | exact Or.inr rfl) ?_
    refine hy _ _ hes ((frX.put (j := 33) (by omega)).trans (hf1.trans (frX.put (j := 32) (by omega)))) (by rw [iu_j (by omega), g19, iu_j (by omega)]; exact h19) (by rw [iu_j (by omega), g20, iu_j (by omega)]; exact h20) ⟨hO1.fr (iu_j (by omega)) (iu_ne (by omega)), ?_, by rw [iu_j (by omega), g33, iu_at]⟩
    dsimp only
    rw [hr1]
    exact hW1.pop iu_at (iu_ne (by omega))
  · have go : 0 < strg (tx p) → PW G x0 l mX12_readsSign (d + 1) (ZM G x0 Q) k n 116 [(0, .ref (x0 + 144)), (1, .int (zI (tx p)))] [] T I J := by
      intro hst
      have hes : estep (out, w, dp, false) (tx p) = some ((rel (strg (tx p)) w out).2, tx p :: (rel (strg (tx p)) w out).1, dp, true) := by
        unfold estep
        rw [if_neg h32, if_neg (by simp), if_neg c1, if_pos hst]
      have hrl := (rel_len (strg (tx p)) w out).1
      refine ml_popB hM hcb hst w out I k2 (by omega) hO hW (fun I1 hf1 g19 g20 g33 hO1 hW1 => ?_)
      refine s_aload_n (i := 0) dX12_readsSign_170 rfl rfl ?_
      refine s_getR dX12_readsSign_171 fl_X12_65 (by assumption) (by assumption) (by assumption) ?_
      refine s_aload_n (i := 0) dX12_readsSign_174 rfl rfl ?_
      refine s_getI dX12_readsSign_175 fl_X12_249 (by assumption) (by assumption) ?_
      rw [hW1.1]
      refine s_iload_n (i := 1) dX12_readsSign_178 rfl rfl ?_
      refine s_istn (j := (rel (strg (tx p)) w out).1.length) dX12_readsSign_179 (by assumption) (by assumption) (by assumption) (by first | with_reducible rfl | ((try simp only [z0, z1, zm1, zm2, zm3, zm4, zl2, zl3, zl4, zl5, zl6, zl7, zl8, zl9, zl10, zl20, zl28, zl31, zl32, zl33, zl48, zl57, zl64, zl100, zl127, zl200, zl201, zl202, zl402, zl1200, zl2412, zl16884, zI_add, zI_sub, zI_mul, zI_inc, zI_dec]) <;> (congr 1 <;> omega))) (by omega) (by decide) ?_
      refine s_aload_n (i := 0) dX12_readsSign_180 rfl rfl ?_
      refine s_dup dX12_readsSign_181 rfl ?_
      refine s_getI dX12_readsSign_182 fl_X12_249 (by assumption) (by assumption) ?_
      rw [iu_ne (by omega), hW1.1]
      refine s_iconst (v := 1) dX12_readsSign_185 (by decide) ?_
      refine s_iadd dX12_readsSign_186 ?_
      refine s_topi (y := zI (((rel (strg (tx p)) w out).1.length + 1 : Nat) : Int)) (by first | with_reducible rfl | ((try simp only [z0, z1, zm1, zm2, zm3, zm4, zl2, zl3, zl4, zl5, zl6, zl7, zl8, zl9, zl10, zl20, zl28, zl31, zl32, zl33, zl48, zl57, zl64, zl100, zl127, zl200, zl201, zl202, zl402, zl1200, zl2412, zl16884, zI_add, zI_sub, zI_mul, zI_inc, zI_dec]) <;> (congr 1 <;> omega))) ?_
      refine s_putI dX12_readsSign_187 fp_X12_249 (by assumption) (by assumption) ?_
      refine s_iconst (v := 1) dX12_readsSign_190 (by decide) ?_
      refine s_zret dX12_readsSign_191 rfl (by first | exact Or.inl rfl | exact Or.inr rfl) ?_
      refine hy _ _ hes (hf1.trans ⟨fun b hb => by simp at hb; rw [iu_ne (by omega), iu_ne (by omega)], fun j h => by rw [iu_j (by omega), iu_ne (by omega)]⟩) (by rw [iu_j (by omega), iu_ne (by omega), g19]; exact h19) (by rw [iu_j (by omega), iu_ne (by omega), g20]; exact h20) ⟨hO1.fr (by rw [iu_j (by omega), iu_ne (by omega)]) (by rw [iu_ne (by omega), iu_ne (by omega)]), hW1.push iu_at (by rw [iu_ne (by omega), iu_at]) (fun q h => by rw [iu_ne (by omega), iu_j (by omega)]), by rw [iu_j (by omega), iu_ne (by omega), g33]; exact h33⟩
    have all : PW G x0 l mX12_readsSign (d + 1) (ZM G x0 Q) k n 82 [(0, .ref (x0 + 144)), (1, .int (zI (tx p)))] [] T I J := by
      by_cases hst : 0 < strg (tx p)
      · rcases strg_pos.mp hst with e | e | e | e
        · refine s_iload_n (i := 1) dX12_readsSign_82 rfl rfl ?_
          refine s_bipush (v := 38) dX12_readsSign_83 (by decide) ?_
          refine s_icmp_eq (tgt := 116) dX12_readsSign_85 (by decide) (fun h85 => ?_) (fun h85 => absurd (by rw [e]; rfl) h85)
          exact go hst
        · refine s_iload_n (i := 1) dX12_readsSign_82 rfl rfl ?_
          refine s_bipush (v := 38) dX12_readsSign_83 (by decide) ?_
          refine s_icmp_eq (tgt := 116) dX12_readsSign_85 (by decide) (fun h85 => absurd h85 (fun h => by rw [zl38, zI_eq (by omega) (by omega) (by omega) (by omega)] at h; omega)) (fun h85 => ?_)
          refine s_iload_n (i := 1) dX12_readsSign_88 rfl rfl ?_
          refine s_bipush (v := 124) dX12_readsSign_89 (by decide) ?_
          refine s_icmp_eq (tgt := 116) dX12_readsSign_91 (by decide) (fun h91 => absurd h91 (fun h => by rw [zl124, zI_eq (by omega) (by omega) (by omega) (by omega)] at h; omega)) (fun h91 => ?_)
          refine s_iload_n (i := 1) dX12_readsSign_94 rfl rfl ?_
          refine s_bipush (v := 45) dX12_readsSign_95 (by decide) ?_
          refine s_icmp_eq (tgt := 116) dX12_readsSign_97 (by decide) (fun h97 => ?_) (fun h97 => absurd (by rw [e]; rfl) h97)
          exact go hst
        · refine s_iload_n (i := 1) dX12_readsSign_82 rfl rfl ?_
          refine s_bipush (v := 38) dX12_readsSign_83 (by decide) ?_
          refine s_icmp_eq (tgt := 116) dX12_readsSign_85 (by decide) (fun h85 => absurd h85 (fun h => by rw [zl38, zI_eq (by omega) (by omega) (by omega) (by omega)] at h; omega)) (fun h85 => ?_)
          refine s_iload_n (i := 1) dX12_readsSign_88 rfl rfl ?_
          refine s_bipush (v := 124) dX12_readsSign_89 (by decide) ?_
          refine s_icmp_eq (tgt := 116) dX12_readsSign_91 (by decide) (fun h91 => absurd h91 (fun h => by rw [zl124, zI_eq (by omega) (by omega) (by omega) (by omega)] at h; omega)) (fun h91 => ?_)
          refine s_iload_n (i := 1) dX12_readsSign_94 rfl rfl ?_
          refine s_bipush (v := 45) dX12_readsSign_95 (by decide) ?_
          refine s_icmp_eq (tgt := 116) dX12_readsSign_97 (by decide) (fun h97 => absurd h97 (fun h => by rw [zl45, zI_eq (by omega) (by omega) (by omega) (by omega)] at h; omega)) (fun h97 => ?_)
          refine s_iload_n (i := 1) dX12_readsSign_100 rfl rfl ?_
          refine s_bipush (v := 94) dX12_readsSign_101 (by decide) ?_
          refine s_icmp_eq (tgt := 116) dX12_readsSign_103 (by decide) (fun h103 => ?_) (fun h103 => absurd (by rw [e]; rfl) h103)
          exact go hst
        · refine s_iload_n (i := 1) dX12_readsSign_82 rfl rfl ?_
          refine s_bipush (v := 38) dX12_readsSign_83 (by decide) ?_
          refine s_icmp_eq (tgt := 116) dX12_readsSign_85 (by decide) (fun h85 => absurd h85 (fun h => by rw [zl38, zI_eq (by omega) (by omega) (by omega) (by omega)] at h; omega)) (fun h85 => ?_)
          refine s_iload_n (i := 1) dX12_readsSign_88 rfl rfl ?_
          refine s_bipush (v := 124) dX12_readsSign_89 (by decide) ?_
          refine s_icmp_eq (tgt := 116) dX12_readsSign_91 (by decide) (fun h91 => ?_) (fun h91 => absurd (by rw [e]; rfl) h91)
          exact go hst
      · have hes : estep (out, w, dp, false) (tx p) = none := by
          unfold estep
          rw [if_neg h32, if_neg (by simp), if_neg c1, if_neg hst]
        have hno := mt strg_pos.mpr hst
        refine s_iload_n (i := 1) dX12_readsSign_82 rfl rfl ?_
        refine s_bipush (v := 38) dX12_readsSign_83 (by decide) ?_
        refine s_icmp_eq (tgt := 116) dX12_readsSign_85 (by decide) (fun h85 => absurd h85 (fun h => by rw [zl38, zI_eq (by omega) (by omega) (by omega) (by omega)] at h; omega)) (fun h85 => ?_)
        refine s_iload_n (i := 1) dX12_readsSign_88 rfl rfl ?_
        refine s_bipush (v := 124) dX12_readsSign_89 (by decide) ?_
        refine s_icmp_eq (tgt := 116) dX12_readsSign_91 (by decide) (fun h91 => absurd h91 (fun h => by rw [zl124, zI_eq (by omega) (by omega) (by omega) (by omega)] at h; omega)) (fun h91 => ?_)
        refine s_iload_n (i := 1) dX12_readsSign_94 rfl rfl ?_
        refine s_bipush (v := 45) dX12_readsSign_95 (by decide) ?_
        refine s_icmp_eq (tgt := 116) dX12_readsSign_97 (by decide) (fun h97 => absurd h97 (fun h => by rw [zl45, zI_eq (by omega) (by omega) (by omega) (by omega)] at h; omega)) (fun h97 => ?_)
        refine s_iload_n (i := 1) dX12_readsSign_100 rfl rfl ?_
        refine s_bipush (v := 94) dX12_readsSign_101 (by decide) ?_
        refine s_icmp_eq (tgt := 116) dX12_readsSign_103 (by decide) (fun h103 => absurd h103 (fun h => by rw [zl94, zI_eq (by omega) (by omega) (by omega) (by omega)] at h; omega)) (fun h103 => ?_)
        refine s_aload_n (i := 0) dX12_readsSign_106 rfl rfl ?_
        refine s_aload_n (i := 0) dX12_readsSign_107 rfl rfl ?_
        refine s_getI dX12_readsSign_108 fl_X12_173 (by assumption) (by assumption) ?_
        rw [h19]
        refine s_cV_I (My := mX12_fails) dX12_readsSign_111 wM_X12_183 cb_yX12_fails ci_yX12_fails (by assumption) (by assumption) (Nat.le_of_ble_eq_true rfl) (by decide) (s_d (by omega) (m_fails (d := 0) hM h20 (by omega) (fun I1 hf1 hj1 h1 => ?_)))
        refine s_iconst (v := 0) dX12_readsSign_114 (by decide) ?_
        refine s_zret dX12_readsSign_115 rfl (by first | exact Or.inl rfl | exact Or.inr rfl) ?_
        rw [if_pos rfl] at h1
        exact hn I1 hes (frX.of (j := 20) (by omega) hf1 hj1) (by rw [hj1 19 (by omega)]; exact h19) h1 (XM.of (j := 20) (by omega) ⟨hO, hW, h33⟩ hf1 hj1)
    by_cases c2 : tx p = 41
    · refine s_aload_n (i := 0) dX12_readsSign_0 rfl rfl ?_
      refine s_cV_ (My := mX12_next) dX12_readsSign_1 wM_X12_176 cb_yX12_next ci_yX12_next (by assumption) (by assumption) (Nat.le_of_ble_eq_true rfl) (by decide) (s_d (by omega) (m_next (d := 0) hM hT htl hX h19 (by omega) ?_))
      rw [hch]
      refine s_istore_n (i := 1) dX12_readsSign_4 rfl (by decide) (by simp only [sl, sl2, rm, Value.category, reduceIte, Nat.reduceAdd, Nat.reduceEqDiff, reduceCtorEq]; rfl) ?_
      refine s_iload_n (i := 1) dX12_readsSign_5 rfl rfl ?_
      refine s_bipush (v := 41) dX12_readsSign_6 (by decide) ?_
      refine s_icmp_ne (tgt := 82) dX12_readsSign_8 (by decide) (fun h8 => absurd h8 (fun h => h (by rw [c2]; rfl))) (fun h8 => ?_)
      refine s_aload_n (i := 0) dX12_readsSign_11 rfl rfl ?_
      refine s_getI dX12_readsSign_12 fl_X12_246 (by assumption) (by assumption) ?_
      rw [h33]
      refine s_if_le (tgt := 82) dX12_readsSign_15 (by decide) (fun h15 => ?_) (fun h15 => absurd (by rw [z0]; exact (zI_le (by omega) (by omega) (by omega) (by omega)).mpr (by omega)) h15)
      exact all
    · refine s_aload_n (i := 0) dX12_readsSign_0 rfl rfl ?_
      refine s_cV_ (My := mX12_next) dX12_readsSign_1 wM_X12_176 cb_yX12_next ci_yX12_next (by assumption) (by assumption) (Nat.le_of_ble_eq_true rfl) (by decide) (s_d (by omega) (m_next (d := 0) hM hT htl hX h19 (by omega) ?_))
      rw [hch]
      refine s_istore_n (i := 1) dX12_readsSign_4 rfl (by decide) (by simp only [sl, sl2, rm, Value.category, reduceIte, Nat.reduceAdd, Nat.reduceEqDiff, reduceCtorEq]; rfl) ?_
      refine s_iload_n (i := 1) dX12_readsSign_5 rfl rfl ?_
      refine s_bipush (v := 41) dX12_readsSign_6 (by decide) ?_
      refine s_icmp_ne (tgt := 82) dX12_readsSign_8 (by decide) (fun h8 => ?_) (fun h8 => absurd h8 (fun h => by rw [zl41, zI_eq (by omega) (by omega) (by omega) (by omega)] at h; omega))
      exact all
