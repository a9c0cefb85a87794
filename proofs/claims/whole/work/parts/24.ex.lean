/-! expressions -/
def strg (s : Int) : Int := if s = 38 then 2 else if s = 45 then 1 else if s = 94 then 1 else if s = 124 then 1 else 0
theorem strg_bd (s : Int) : 0 ≤ strg s ∧ strg s ≤ 2 := by unfold strg; split <;> (try split) <;> (try split) <;> (try split) <;> omega
/-- the waiting signs, the latest first, that bind at least so strongly go behind what is out -/
def rel (st : Int) : List Int → List Int → List Int × List Int
  | [], out => ([], out)
  | t :: w, out => if st ≤ strg t then rel st w (out ++ [t]) else (t :: w, out)
theorem rel_len (st : Int) : ∀ w out, (rel st w out).1.length + (rel st w out).2.length = w.length + out.length ∧ out.length ≤ (rel st w out).2.length := by
  intro w
  induction w with
  | nil => intro out; simp [rel]
  | cons t w ih =>
    intro out
    simp only [rel]
    split
    · have := ih (out ++ [t])
      rw [List.length_append, List.length_singleton] at this
      rw [List.length_cons]
      omega
    · simp
/-- a row that holds a list -/
def RowL (T : fT) (I : fI) (r cap : Nat) (L : List Int) : Prop := RowIs T I r cap (fun q => L.getD q 0) L.length
theorem RowL.fr {T : fT} {I I' : fI} {r cap : Nat} {L : List Int} (h : RowL T I r cap L) (h1 : I' r = I r) (h2 : I' (r + 1) = I (r + 1)) : RowL T I' r cap L := RowIs.fr h h1 h2
theorem RowL.snoc {T : fT} {I : fI} {r cap : Nat} {L : List Int} {v : Int} (h : RowIs T I r cap (fun q => if q = L.length then v else L.getD q 0) (L.length + 1)) : RowL T I r cap (L ++ [v]) := by
  unfold RowL
  rw [List.length_append, List.length_singleton]
  refine h.cong (fun q hq => ?_)
  by_cases hc : q = L.length
  · rw [if_pos hc, hc]
    simp [List.getD_eq_getElem?_getD]
  · rw [if_neg hc]
    simp only [List.getD_eq_getElem?_getD]
    rw [List.getElem?_append_left (by omega)]
theorem RowL.take {T : fT} {I : fI} {r cap : Nat} {L L2 : List Int} (h : RowL T I r cap L) (n : Nat) (hn : n = L.length - 1) {I' : fI} (h1 : I' (r + 1) = I (r + 1)) (h2 : (I' r 1).toInt = n) (hL : L = L2 ++ L.drop n) (hl2 : L2.length = n) : RowL T I' r cap L2 := by
  refine ⟨h.1, by have := h.2.1; omega, by rw [h2, hl2], fun k hk => ?_⟩
  rw [h1, h.2.2.2 k (by omega)]
  dsimp only
  rw [hL]
  simp only [List.getD_eq_getElem?_getD]
  rw [List.getElem?_append_left hk]
def ExAt (T : fT) : Prop := 120 ≤ T.1 ∧ T.2.1 115 = 3 ∧ T.2.2.2 115 0 = some 116 ∧ T.2.2.2 115 1 = some 118 ∧ RowAt T 116 100 ∧ RowAt T 118 100 ∧ RowAt T 40 100
theorem ExAt.tq {T T' : fT} (h : ExAt T) (q : Tq T T') : ExAt T' := by
  obtain ⟨a1, a2, a3, a4, a5, a6, a7⟩ := h
  obtain ⟨q1, q2, q3, q4⟩ := id q
  exact ⟨by omega, by rw [q2]; exact a2, by rw [q4 _ _ (by omega) (by omega)]; exact a3, by rw [q4 _ _ (by omega) (by omega)]; exact a4, a5.tq q, a6.tq q, a7.tq q⟩
def ExIs (T : fT) (I : fI) (out w : List Int) (dp : Nat) (due : Bool) : Prop := RowL T I 116 100 out ∧ RowL T I 118 100 w.reverse ∧ (I 115 2).toInt = dp ∧ I 115 3 = if due then 1 else 0
set_option maxRecDepth 100000 in
set_option maxHeartbeats 4000000 in
theorem c_strength {G : fG} {x0 : Nat} {l : Launch} {d k n : Nat} {T : fT} {I : fI} {J : fJ} {Q : Option Value → fT → fI → fJ → Prop} {x : Int32} (hq : Q (some (.int (zI (strg x.toInt)))) T I J) : PW G x0 l mX3_strengthOf d (ZM G x0 Q) k n 0 [(0, .int x)] [] T I J := by
  unfold strg at hq
  refine s_iload_n (i := 0) dX3_strengthOf_0 rfl rfl ?_
  rcases (show x.toInt = 38 ∨ x.toInt = 45 ∨ x.toInt = 94 ∨ x.toInt = 124 ∨ (¬ x.toInt = 38 ∧ ¬ x.toInt = 45 ∧ ¬ x.toInt = 94 ∧ ¬ x.toInt = 124) by omega) with h1 | h1 | h1 | h1 | h1
  · refine s_look (off := 43) (tgt := 44) dX3_strengthOf_1 (by decide) (by rw [h1]; rfl) (by decide) ?_
    refine s_iconst (v := 2) dX3_strengthOf_44 (by decide) ?_
    refine s_iret dX3_strengthOf_45 rfl ?_
    rw [if_pos h1] at hq; exact hq
  · refine s_look (off := 45) (tgt := 46) dX3_strengthOf_1 (by decide) (by rw [h1]; rfl) (by decide) ?_
    refine s_iconst (v := 1) dX3_strengthOf_46 (by decide) ?_
    refine s_iret dX3_strengthOf_47 rfl ?_
    first
    | (rw [if_neg (by omega), if_pos h1] at hq; exact hq)
    | (rw [if_neg (by omega), if_neg (by omega), if_pos h1] at hq; exact hq)
    | (rw [if_neg (by omega), if_neg (by omega), if_neg (by omega), if_pos h1] at hq; exact hq)
  · refine s_look (off := 45) (tgt := 46) dX3_strengthOf_1 (by decide) (by rw [h1]; rfl) (by decide) ?_
    refine s_iconst (v := 1) dX3_strengthOf_46 (by decide) ?_
    refine s_iret dX3_strengthOf_47 rfl ?_
    first
    | (rw [if_neg (by omega), if_pos h1] at hq; exact hq)
    | (rw [if_neg (by omega), if_neg (by omega), if_pos h1] at hq; exact hq)
    | (rw [if_neg (by omega), if_neg (by omega), if_neg (by omega), if_pos h1] at hq; exact hq)
  · refine s_look (off := 45) (tgt := 46) dX3_strengthOf_1 (by decide) (by rw [h1]; rfl) (by decide) ?_
    refine s_iconst (v := 1) dX3_strengthOf_46 (by decide) ?_
    refine s_iret dX3_strengthOf_47 rfl ?_
    first
    | (rw [if_neg (by omega), if_pos h1] at hq; exact hq)
    | (rw [if_neg (by omega), if_neg (by omega), if_pos h1] at hq; exact hq)
    | (rw [if_neg (by omega), if_neg (by omega), if_neg (by omega), if_pos h1] at hq; exact hq)
  · refine s_look (off := 47) (tgt := 48) dX3_strengthOf_1 (by decide) (by rw [Op.lookupswitch.offset_cons, if_neg (by omega)]; rw [Op.lookupswitch.offset_cons, if_neg (by omega)]; rw [Op.lookupswitch.offset_cons, if_neg (by omega)]; rw [Op.lookupswitch.offset_cons, if_neg (by omega)]; rfl) (by decide) ?_
    refine s_iconst (v := 0) dX3_strengthOf_48 (by decide) ?_
    refine s_iret dX3_strengthOf_49 rfl ?_
    rw [if_neg (by omega), if_neg (by omega), if_neg (by omega), if_neg (by omega)] at hq; exact hq
set_option maxRecDepth 100000 in
set_option maxHeartbeats 4000000 in
theorem l_rel {G : fG} {x0 : Nat} {l : Launch} {d k n : Nat} {T : fT} {J : fJ} {Q : Option Value → fT → fI → fJ → Prop} {st : Int} (hE : ExAt T) (hst : 0 ≤ st ∧ st ≤ 2) : ∀ (w out : List Int) (I : fI), out.length + w.length ≤ 100 → (∀ t, t ∈ w → 0 ≤ t ∧ t ≤ 127) → RowL T I 116 100 out → RowL T I 118 100 w.reverse → (hq : ∀ I', fr I I' [116, 117, 118] → RowL T I' 116 100 (rel st w out).2 → RowL T I' 118 100 (rel st w out).1.reverse → Q none T I' J) → PW G x0 l mX3_releaseFrom (d + 1) (ZM G x0 Q) k n 0 [(0, .ref (x0 + 115)), (1, .int (zI st))] [] T I J := by
  obtain ⟨x1, x2, x3, x4, x5, x6, x7⟩ := id hE
  have e115 : (115 : Nat) < T.1 := by omega
  have e116 : (116 : Nat) < T.1 := by omega
  have e118 : (118 : Nat) < T.1 := by omega
  have e40 : (40 : Nat) < T.1 := by omega
  have k116 : T.2.1 116 = 9 := x5.2.2.1
  have k118 : T.2.1 118 = 9 := x6.2.2.1
  have k40 : T.2.1 40 = 9 := x7.2.2.1
  intro w
  induction w with
  | nil =>
    intro out I hl hw h1 h2 hq
    have hs : I 118 1 = zI 0 := RowIs.sz h2
    refine s_aload_n (i := 0) dX3_releaseFrom_0 rfl rfl ?_
    refine s_getR dX3_releaseFrom_1 fl_X3_20 (by assumption) (by assumption) (by assumption) ?_
    refine s_getI dX3_releaseFrom_4 fl_X3_23 (by assumption) (by assumption) ?_
    refine s_if_le (tgt := 72) dX3_releaseFrom_7 (by decide) (fun h7 => ?_) (fun h7 => absurd (by rw [hs, z0, zI_le (by omega) (by omega) (by omega) (by omega)]; omega) h7)
    refine s_ret dX3_releaseFrom_72 rfl ?_
    exact hq I (fr_refl I _) h1 h2
  | cons t w ih =>
    intro out I hl hw h1 h2 hq
    rw [List.length_cons] at hl
    have hlr : ((t :: w).reverse.length : Nat) = w.length + 1 := by simp
    have hs : I 118 1 = zI ((w.length + 1 : Nat) : Int) := by have := RowIs.sz h2; rw [hlr] at this; exact this
    have htop : ((t :: w).reverse).getD w.length 0 = t := by simp [List.getD_eq_getElem?_getD, List.getElem?_append_right]
    have htb := hw t List.mem_cons_self
    have hsb := strg_bd t
    refine s_aload_n (i := 0) dX3_releaseFrom_0 rfl rfl ?_
    refine s_getR dX3_releaseFrom_1 fl_X3_20 (by assumption) (by assumption) (by assumption) ?_
    refine s_getI dX3_releaseFrom_4 fl_X3_23 (by assumption) (by assumption) ?_
    refine s_if_le (tgt := 72) dX3_releaseFrom_7 (by decide) (fun h7 => absurd h7 (by rw [hs, z0, zI_le (by omega) (by omega) (by omega) (by omega)]; omega)) (fun h7 => ?_)
    refine s_aload_n (i := 0) dX3_releaseFrom_10 rfl rfl ?_
    refine s_getR dX3_releaseFrom_11 fl_X3_20 (by assumption) (by assumption) (by assumption) ?_
    refine s_aload_n (i := 0) dX3_releaseFrom_14 rfl rfl ?_
    refine s_getR dX3_releaseFrom_15 fl_X3_20 (by assumption) (by assumption) (by assumption) ?_
    refine s_getI dX3_releaseFrom_18 fl_X3_23 (by assumption) (by assumption) ?_
    refine s_iconst (v := 1) dX3_releaseFrom_21 (by decide) ?_
    refine s_isub dX3_releaseFrom_22 ?_
    refine s_topi (y := zI w.length) (by rw [hs, z1, zI_sub]; congr 1; omega) ?_
    refine s_cV_I (My := mX9_get) dX3_releaseFrom_23 wM_X3_34 cb_yX9_get ci_yX9_get (by assumption) (by assumption) (Nat.le_of_ble_eq_true rfl) (by decide) (c_getn h2 (by rw [hlr]; omega) ?_)
    refine s_topi (y := zI t) (by rw [htop]) ?_
    refine s_cS_I (My := mX3_strengthOf) dX3_releaseFrom_26 wM_X3_54 cb_yX3_strengthOf wT_yX3_strengthOf (Nat.le_of_ble_eq_true rfl) (by decide) (c_strength ?_)
    refine s_iload_n (i := 1) dX3_releaseFrom_29 rfl rfl ?_
    refine s_st (st2 := [.int (zI st), .int (zI (strg t))]) (by rw [zI_t (by omega) (by omega)]; rfl) ?_
    refine s_icmp_lt (tgt := 72) dX3_releaseFrom_30 (by decide) (fun c30 => ?_) (fun c30 => ?_)
    · refine s_ret dX3_releaseFrom_72 rfl ?_
      rw [zI_lt (by omega) (by omega) (by omega) (by omega)] at c30
      simp only [rel] at hq
      rw [if_neg (by omega)] at hq
      exact hq I (fr_refl I _) h1 h2
    · rw [zI_lt (by omega) (by omega) (by omega) (by omega)] at c30
      simp only [rel] at hq
      rw [if_pos (by omega)] at hq
      refine s_aload_n (i := 0) dX3_releaseFrom_33 rfl rfl ?_
      refine s_getR dX3_releaseFrom_34 fl_X3_14 (by assumption) (by assumption) (by assumption) ?_
      refine s_aload_n (i := 0) dX3_releaseFrom_37 rfl rfl ?_
      refine s_getR dX3_releaseFrom_38 fl_X3_20 (by assumption) (by assumption) (by assumption) ?_
      refine s_aload_n (i := 0) dX3_releaseFrom_41 rfl rfl ?_
      refine s_getR dX3_releaseFrom_42 fl_X3_20 (by assumption) (by assumption) (by assumption) ?_
      refine s_getI dX3_releaseFrom_45 fl_X3_23 (by assumption) (by assumption) ?_
      refine s_iconst (v := 1) dX3_releaseFrom_48 (by decide) ?_
      refine s_isub dX3_releaseFrom_49 ?_
      refine s_topi (y := zI w.length) (by rw [hs, z1, zI_sub]; congr 1; omega) ?_
      refine s_cV_I (My := mX9_get) dX3_releaseFrom_50 wM_X3_34 cb_yX9_get ci_yX9_get (by assumption) (by assumption) (Nat.le_of_ble_eq_true rfl) (by decide) (c_getn h2 (by rw [hlr]; omega) ?_)
      refine s_topi (y := zI t) (by rw [htop]) ?_
      refine s_cV_I (My := mX9_append) dX3_releaseFrom_53 wM_X3_51 cb_yX9_append ci_yX9_append (by assumption) (by assumption) (Nat.le_of_ble_eq_true rfl) (by decide) (c_append h1 (by omega) (fun I1 hf1 hR1 => ?_))
      refine s_aload_n (i := 0) dX3_releaseFrom_56 rfl rfl ?_
      refine s_getR dX3_releaseFrom_57 fl_X3_20 (by assumption) (by assumption) (by assumption) ?_
      refine s_dup dX3_releaseFrom_60 rfl ?_
      refine s_getI dX3_releaseFrom_61 fl_X3_23 (by assumption) (by assumption) ?_
      refine s_iconst (v := 1) dX3_releaseFrom_64 (by decide) ?_
      refine s_isub dX3_releaseFrom_65 ?_
      refine s_topi (y := zI w.length) (by rw [hf1 118 (by simp), hs, z1, zI_sub]; congr 1; omega) ?_
      refine s_putI dX3_releaseFrom_66 fp_X3_23 (by assumption) (by assumption) ?_
      refine s_goto (tgt := 0) dX3_releaseFrom_69 (by decide) ?_
      rw [zI_t (by omega) (by omega)] at hR1
      have hR2 : RowL T (iu I1 118 1 (zI w.length)) 116 100 (out ++ [t]) := RowL.fr (RowL.snoc hR1) (iu_ne (by omega)) (iu_ne (by omega))
      have hW2 : RowL T (iu I1 118 1 (zI w.length)) 118 100 w.reverse := RowL.take h2 w.length (by simp) ((iu_ne (by omega)).trans (hf1 119 (by simp))) (by rw [iu_at]; exact zI_t (by omega) (by omega)) (by simp) (by simp)
      exact ih (out ++ [t]) _ (by rw [List.length_append, List.length_singleton]; omega) (fun q hq => hw q (List.mem_cons_of_mem _ hq)) hR2 hW2 (fun I' hf r1 r2 => hq I' (fr_trans (fr_trans (fr_sub hf1 (fun b hb => by simp at hb ⊢; omega)) (fr_iu (by simp))) hf) r1 r2)
