/-! a window: ends with their ranks, the first the best -/
def WinAt (T : fT) (v : Nat) : Prop := v + 2 < T.1 ∧ T.2.1 v = 10 ∧ T.2.2.2 v 1 = some (v + 1) ∧ T.2.2.2 v 2 = some (v + 2) ∧ T.2.1 (v + 1) = 13 ∧ T.2.2.1 (v + 1) = 64 ∧ T.2.1 (v + 2) = 13 ∧ T.2.2.1 (v + 2) = 64
def wsl (fi q : Nat) : Nat := (fi + q) % 64
def WinIs (T : fT) (I : fI) (v wd : Nat) (D : List (Int × Int)) (ps : Int) : Prop := WinAt T v ∧ (I v 0).toInt = wd ∧ D.length ≤ 64 ∧ (I v 4).toInt = D.length ∧ (I v 5).toInt = ps ∧ ∃ fi : Nat, fi < 64 ∧ (I v 3).toInt = fi ∧ ∀ q e, D[q]? = some e → (I (v + 1) (wsl fi q)).toInt = e.1 ∧ (I (v + 2) (wsl fi q)).toInt = e.2
theorem WinIs.fr {T : fT} {I I' : fI} {v wd : Nat} {D : List (Int × Int)} {ps : Int} (h : WinIs T I v wd D ps) (h0 : I' v = I v) (h1 : I' (v + 1) = I (v + 1)) (h2 : I' (v + 2) = I (v + 2)) : WinIs T I' v wd D ps := by
  unfold WinIs at *
  rw [h0, h1, h2]
  exact h
/-- without the last ones that aren't better -/
def popb (own : Int) (D : List (Int × Int)) : List (Int × Int) := (D.reverse.dropWhile (fun e => decide (own ≤ e.2))).reverse
theorem popb_nil (own : Int) : popb own [] = [] := rfl
theorem popb_snoc (own : Int) (D : List (Int × Int)) (e : Int × Int) : popb own (D ++ [e]) = if own ≤ e.2 then popb own D else D ++ [e] := by
  unfold popb
  rw [List.reverse_append, List.reverse_singleton, List.singleton_append, List.dropWhile_cons]
  by_cases h : own ≤ e.2
  · rw [if_pos (by simpa using h), if_pos h]
  · rw [if_neg (by simpa using h), if_neg h]
    simp
set_option maxRecDepth 100000 in
set_option maxHeartbeats 200000 in
theorem c_wEmpty {G : fG} {x0 : Nat} {l : Launch} {d k n : Nat} {T : fT} {I : fI} {J : fJ} {Q : Option Value → fT → fI → fJ → Prop} {v wd : Nat} (hA : WinAt T v) (hwd : (I v 0).toInt = wd) (hq : ∀ I', fr I I' [v] → WinIs T I' v wd [] 0 → Q none T I' J) : PW G x0 l mX10_makeEmpty d (ZM G x0 Q) k n 0 [(0, .ref (x0 + v))] [] T I J := by
  obtain ⟨a1, a2, a3, a4, a5, a6, a7, a8⟩ := id hA
  have ev : v < T.1 := by omega
  refine s_aload_n (i := 0) dX10_makeEmpty_0 rfl rfl ?_
  refine s_iconst (v := 0) dX10_makeEmpty_1 (by decide) ?_
  refine s_putI dX10_makeEmpty_2 fp_X10_22 (by assumption) (by assumption) ?_
  refine s_aload_n (i := 0) dX10_makeEmpty_5 rfl rfl ?_
  refine s_iconst (v := 0) dX10_makeEmpty_6 (by decide) ?_
  refine s_putI dX10_makeEmpty_7 fp_X10_25 (by assumption) (by assumption) ?_
  refine s_aload_n (i := 0) dX10_makeEmpty_10 rfl rfl ?_
  refine s_iconst (v := 0) dX10_makeEmpty_11 (by decide) ?_
  refine s_putI dX10_makeEmpty_12 fp_X10_28 (by assumption) (by assumption) ?_
  refine s_ret dX10_makeEmpty_15 rfl ?_
  exact hq _ (fr_trans (fr_trans (fr_iu (by simp)) (fr_iu (by simp))) (fr_iu (by simp))) ⟨hA, by rw [iu_j (by omega), iu_j (by omega), iu_j (by omega)]; exact hwd, by simp, by rw [iu_j (by omega), iu_at]; rfl, by rw [iu_at]; rfl, 0, by omega, by rw [iu_j (by omega), iu_j (by omega), iu_at]; rfl, fun q e he => by simp at he⟩
set_option maxRecDepth 100000 in
set_option maxHeartbeats 200000 in
theorem c_slot {G : fG} {x0 : Nat} {l : Launch} {d k n : Nat} {T : fT} {I : fI} {J : fJ} {Q : Option Value → fT → fI → fJ → Prop} {v fi q : Nat} (hA : WinAt T v) (hf : I v 3 = zI fi) (hfi : fi < 64) (hq0 : q ≤ 1000) (hq : Q (some (.int (zI (wsl fi q)))) T I J) : PW G x0 l mX10_slot d (ZM G x0 Q) k n 0 [(0, .ref (x0 + v)), (1, .int (zI q))] [] T I J := by
  obtain ⟨a1, a2, a3, a4, a5, a6, a7, a8⟩ := id hA
  have ev : v < T.1 := by omega
  refine s_aload_n (i := 0) dX10_slot_0 rfl rfl ?_
  refine s_getI dX10_slot_1 fl_X10_22 (by assumption) (by assumption) ?_
  refine s_iload_n (i := 1) dX10_slot_4 rfl rfl ?_
  refine s_iadd dX10_slot_5 ?_
  refine s_bipush (v := 64) dX10_slot_6 (by decide) ?_
  refine s_irem dX10_slot_8 (by decide) ?_
  refine s_iret dX10_slot_9 rfl ?_
  rw [hf, zI_add]
  show Q (some (.int (zI _ - zI _ / zI 64 * zI 64))) T I J
  rw [zI_rem (by omega) (by omega) (by omega) (by omega)]
  exact hq
set_option maxRecDepth 100000 in
set_option maxHeartbeats 200000 in
theorem c_wPass {G : fG} {x0 : Nat} {l : Launch} {d k n : Nat} {T : fT} {I : fI} {J : fJ} {Q : Option Value → fT → fI → fJ → Prop} {v wd : Nat} {D : List (Int × Int)} {ps : Int} {b : Nat} (hW : WinIs T I v wd D ps) (hb : b ≤ 20 ∧ wd ≤ 20) (hps : 0 ≤ ps ∧ ps ≤ 1000000) (hq : ∀ I', fr I I' [v] → WinIs T I' v wd D (ps + (if wd < b then (wd : Int) + 28 else wd)) → Q none T I' J) : PW G x0 l mX10_passGap d (ZM G x0 Q) k n 0 [(0, .ref (x0 + v)), (1, .int (zI b))] [] T I J := by
  obtain ⟨hA, w0, w1, w2, w3, fi, w4, w5, w6⟩ := id hW
  obtain ⟨a1, a2, a3, a4, a5, a6, a7, a8⟩ := id hA
  have ev : v < T.1 := by omega
  have ev1 : v + 1 < T.1 := by omega
  have ev2 : v + 2 < T.1 := by omega
  refine s_aload_n (i := 0) dX10_passGap_0 rfl rfl ?_
  refine s_dup dX10_passGap_1 rfl ?_
  refine s_getI dX10_passGap_2 fl_X10_28 (by assumption) (by assumption) ?_
  refine s_iload_n (i := 1) dX10_passGap_5 rfl rfl ?_
  refine s_aload_n (i := 0) dX10_passGap_6 rfl rfl ?_
  refine s_getI dX10_passGap_7 fl_X10_18 (by assumption) (by assumption) ?_
  refine s_icmp_le (tgt := 23) dX10_passGap_10 (by decide) (fun c10 => ?_) (fun c10 => ?_)
  · refine s_aload_n (i := 0) dX10_passGap_23 rfl rfl ?_
    refine s_getI dX10_passGap_24 fl_X10_18 (by assumption) (by assumption) ?_
    refine s_iadd dX10_passGap_27 ?_
    refine s_putI dX10_passGap_28 fp_X10_28 (by assumption) (by assumption) ?_
    refine s_ret dX10_passGap_31 rfl ?_
    rw [t_zI w0, zI_le (by omega) (by omega) (by omega) (by omega)] at c10
    first
    | (refine hq _ (fr_iu (by simp)) ⟨hA, by rw [iu_j (by omega)]; exact w0, w1, by rw [iu_j (by omega)]; exact w2, ?_, fi, w4, by rw [iu_j (by omega)]; exact w5, fun q e he => by rw [iu_b (by omega), iu_b (by omega)]; exact w6 q e he⟩
       rw [if_neg (by omega), iu_at, t_zI w0, t_zI w3, zI_add, zI_t (by omega) (by omega)])
    | (refine hq _ (fr_iu (by simp)) ⟨hA, by rw [iu_j (by omega)]; exact w0, w1, by rw [iu_j (by omega)]; exact w2, ?_, fi, w4, by rw [iu_j (by omega)]; exact w5, fun q e he => by rw [iu_b (by omega), iu_b (by omega)]; exact w6 q e he⟩
       rw [if_pos (by omega), iu_at, t_zI w0, t_zI w3]
       show (zI ps + (zI wd + zI 28)).toInt = _
       rw [zI_add, zI_add, zI_t (by omega) (by omega)])
  · refine s_aload_n (i := 0) dX10_passGap_13 rfl rfl ?_
    refine s_getI dX10_passGap_14 fl_X10_18 (by assumption) (by assumption) ?_
    refine s_bipush (v := 28) dX10_passGap_17 (by decide) ?_
    refine s_iadd dX10_passGap_19 ?_
    refine s_goto (tgt := 27) dX10_passGap_20 (by decide) ?_
    refine s_iadd dX10_passGap_27 ?_
    refine s_putI dX10_passGap_28 fp_X10_28 (by assumption) (by assumption) ?_
    refine s_ret dX10_passGap_31 rfl ?_
    rw [t_zI w0, zI_le (by omega) (by omega) (by omega) (by omega)] at c10
    first
    | (refine hq _ (fr_iu (by simp)) ⟨hA, by rw [iu_j (by omega)]; exact w0, w1, by rw [iu_j (by omega)]; exact w2, ?_, fi, w4, by rw [iu_j (by omega)]; exact w5, fun q e he => by rw [iu_b (by omega), iu_b (by omega)]; exact w6 q e he⟩
       rw [if_neg (by omega), iu_at, t_zI w0, t_zI w3, zI_add, zI_t (by omega) (by omega)])
    | (refine hq _ (fr_iu (by simp)) ⟨hA, by rw [iu_j (by omega)]; exact w0, w1, by rw [iu_j (by omega)]; exact w2, ?_, fi, w4, by rw [iu_j (by omega)]; exact w5, fun q e he => by rw [iu_b (by omega), iu_b (by omega)]; exact w6 q e he⟩
       rw [if_pos (by omega), iu_at, t_zI w0, t_zI w3]
       show (zI ps + (zI wd + zI 28)).toInt = _
       rw [zI_add, zI_add, zI_t (by omega) (by omega)])
set_option maxRecDepth 100000 in
set_option maxHeartbeats 200000 in
theorem c_wLeast {G : fG} {x0 : Nat} {l : Launch} {d k n : Nat} {T : fT} {I : fI} {J : fJ} {Q : Option Value → fT → fI → fJ → Prop} {v wd : Nat} {D : List (Int × Int)} {ps : Int} {e : Int × Int} (hW : WinIs T I v wd D ps) (he : D[0]? = some e) (hq : Q (some (.int (zI (e.2 + 256 * (32 + ps) + 1)))) T I J) : PW G x0 l mX10_leastRank d (ZM G x0 Q) k n 0 [(0, .ref (x0 + v))] [] T I J := by
  obtain ⟨hA, w0, w1, w2, w3, fi, w4, w5, w6⟩ := id hW
  obtain ⟨a1, a2, a3, a4, a5, a6, a7, a8⟩ := id hA
  have ev : v < T.1 := by omega
  have ev1 : v + 1 < T.1 := by omega
  have ev2 : v + 2 < T.1 := by omega
  have hs0 : wsl fi 0 = fi := by unfold wsl; omega
  have hw := w6 0 e he
  rw [hs0] at hw
  have hnf : (zI fi).toNatClampNeg = fi := by rw [zI_n (by omega) (by omega)]; simp
  refine s_aload_n (i := 0) dX10_leastRank_0 rfl rfl ?_
  refine s_getR dX10_leastRank_1 fl_X10_15 (by assumption) (by assumption) (by assumption) ?_
  refine s_aload_n (i := 0) dX10_leastRank_4 rfl rfl ?_
  refine s_getI dX10_leastRank_5 fl_X10_22 (by assumption) (by assumption) ?_
  refine s_topi (t_zI w5) ?_
  refine s_iald dX10_leastRank_8 (by assumption) (by assumption) (by rw [a8]; exact z_in (by omega) (by omega) (by omega)) ?_
  refine s_sipush (v := 256) dX10_leastRank_9 (by decide) ?_
  refine s_bipush (v := 32) dX10_leastRank_12 (by decide) ?_
  refine s_aload_n (i := 0) dX10_leastRank_14 rfl rfl ?_
  refine s_getI dX10_leastRank_15 fl_X10_28 (by assumption) (by assumption) ?_
  refine s_iadd dX10_leastRank_18 ?_
  refine s_imul dX10_leastRank_19 ?_
  refine s_iadd dX10_leastRank_20 ?_
  refine s_iconst (v := 1) dX10_leastRank_21 (by decide) ?_
  refine s_iadd dX10_leastRank_22 ?_
  refine s_iret dX10_leastRank_23 rfl ?_
  rw [hnf, t_zI hw.2, t_zI w3]
  show Q (some (.int (zI e.2 + zI 256 * (zI 32 + zI ps) + zI 1))) T I J
  rw [zI_add, zI_mul, zI_add, zI_add]
  exact hq
set_option maxRecDepth 100000 in
set_option maxHeartbeats 200000 in
theorem c_wEnd {G : fG} {x0 : Nat} {l : Launch} {d k n : Nat} {T : fT} {I : fI} {J : fJ} {Q : Option Value → fT → fI → fJ → Prop} {v wd : Nat} {D : List (Int × Int)} {ps : Int} {e : Int × Int} (hW : WinIs T I v wd D ps) (he : D[0]? = some e) (hq : Q (some (.int (zI e.1))) T I J) : PW G x0 l mX10_endOfLeast d (ZM G x0 Q) k n 0 [(0, .ref (x0 + v))] [] T I J := by
  obtain ⟨hA, w0, w1, w2, w3, fi, w4, w5, w6⟩ := id hW
  obtain ⟨a1, a2, a3, a4, a5, a6, a7, a8⟩ := id hA
  have ev : v < T.1 := by omega
  have ev1 : v + 1 < T.1 := by omega
  have ev2 : v + 2 < T.1 := by omega
  have hs0 : wsl fi 0 = fi := by unfold wsl; omega
  have hw := w6 0 e he
  rw [hs0] at hw
  have hnf : (zI fi).toNatClampNeg = fi := by rw [zI_n (by omega) (by omega)]; simp
  refine s_aload_n (i := 0) dX10_endOfLeast_0 rfl rfl ?_
  refine s_getR dX10_endOfLeast_1 fl_X10_9 (by assumption) (by assumption) (by assumption) ?_
  refine s_aload_n (i := 0) dX10_endOfLeast_4 rfl rfl ?_
  refine s_getI dX10_endOfLeast_5 fl_X10_22 (by assumption) (by assumption) ?_
  refine s_topi (t_zI w5) ?_
  refine s_iald dX10_endOfLeast_8 (by assumption) (by assumption) (by rw [a6]; exact z_in (by omega) (by omega) (by omega)) ?_
  refine s_iret dX10_endOfLeast_9 rfl ?_
  rw [hnf, t_zI hw.1]
  exact hq
set_option maxRecDepth 100000 in
set_option maxHeartbeats 200000 in
theorem l_wPop {G : fG} {x0 : Nat} {l : Launch} {d k n : Nat} {T : fT} {J : fJ} {Q : Option Value → fT → fI → fJ → Prop} {v wd : Nat} {en own ps : Int} (hen : 0 ≤ en ∧ en ≤ 1000) (hown : -1000000000 ≤ own ∧ own ≤ 1000000000) : ∀ (L : Nat) (D : List (Int × Int)) (I : fI), D.length = L → L < 64 → (∀ e, e ∈ D → -1000000000 ≤ e.2 ∧ e.2 ≤ 1000000000) → WinIs T I v wd D ps → (hq : ∀ I', fr I I' [v, v + 1, v + 2] → WinIs T I' v wd (popb own D ++ [(en, own)]) ps → Q none T I' J) → PW G x0 l mX10_admit (d + 1) (ZM G x0 Q) k n 53 [(0, .ref (x0 + v)), (1, .int (zI en)), (3, .int (zI own))] [] T I J := by
  have fin : ∀ (D : List (Int × Int)) (I : fI), D.length < 64 → popb own D = D → WinIs T I v wd D ps → (hq : ∀ I', fr I I' [v, v + 1, v + 2] → WinIs T I' v wd (popb own D ++ [(en, own)]) ps → Q none T I' J) → PW G x0 l mX10_admit (d + 1) (ZM G x0 Q) k n 92 [(0, .ref (x0 + v)), (1, .int (zI en)), (3, .int (zI own))] [] T I J := by
    intro D I hl hpo hW hq
    rw [hpo] at hq
    obtain ⟨hA, w0, w1, w2, w3, fi, w4, w5, w6⟩ := id hW
    obtain ⟨a1, a2, a3, a4, a5, a6, a7, a8⟩ := id hA
    have ev : v < T.1 := by omega
    have ev1 : v + 1 < T.1 := by omega
    have ev2 : v + 2 < T.1 := by omega
    have hns : (zI (wsl fi D.length)).toNatClampNeg = wsl fi D.length := by rw [zI_n (by omega) (by have : wsl fi D.length < 64 := Nat.mod_lt _ (by omega); omega)]; simp
    have hsl : wsl fi D.length < 64 := Nat.mod_lt _ (by omega)
    refine s_aload_n (i := 0) dX10_admit_92 rfl rfl ?_
    refine s_getR dX10_admit_93 fl_X10_9 (by assumption) (by assumption) (by assumption) ?_
    refine s_aload_n (i := 0) dX10_admit_96 rfl rfl ?_
    refine s_aload_n (i := 0) dX10_admit_97 rfl rfl ?_
    refine s_getI dX10_admit_98 fl_X10_25 (by assumption) (by assumption) ?_
    refine s_topi (t_zI w2) ?_
    refine s_cV_I (My := mX10_slot) dX10_admit_101 wM_X10_33 cb_yX10_slot ci_yX10_slot (by assumption) (by assumption) (Nat.le_of_ble_eq_true rfl) (by decide) (s_d (by omega) (c_slot (d := 0) hA (t_zI w5) w4 (by omega) ?_))
    refine s_iload_n (i := 1) dX10_admit_104 rfl rfl ?_
    refine s_iast dX10_admit_105 (by assumption) (by assumption) (by rw [a6]; exact z_in (by omega) (by omega) (by omega)) ?_
    rw [hns]
    refine s_aload_n (i := 0) dX10_admit_106 rfl rfl ?_
    refine s_getR dX10_admit_107 fl_X10_15 (by assumption) (by assumption) (by assumption) ?_
    refine s_aload_n (i := 0) dX10_admit_110 rfl rfl ?_
    refine s_aload_n (i := 0) dX10_admit_111 rfl rfl ?_
    refine s_getI dX10_admit_112 fl_X10_25 (by assumption) (by assumption) ?_
    refine s_topi (y := zI D.length) (by rw [iu_b (by omega)]; exact t_zI w2) ?_
    refine s_cV_I (My := mX10_slot) dX10_admit_115 wM_X10_33 cb_yX10_slot ci_yX10_slot (by assumption) (by assumption) (Nat.le_of_ble_eq_true rfl) (by decide) (s_d (by omega) (c_slot (d := 0) (fi := fi) hA (by rw [iu_b (by omega)]; exact t_zI w5) w4 (by omega) ?_))
    refine s_iload_n (i := 3) dX10_admit_118 rfl rfl ?_
    refine s_iast dX10_admit_119 (by assumption) (by assumption) (by rw [a8]; exact z_in (by omega) (by omega) (by omega)) ?_
    rw [hns]
    refine s_aload_n (i := 0) dX10_admit_120 rfl rfl ?_
    refine s_dup dX10_admit_121 rfl ?_
    refine s_getI dX10_admit_122 fl_X10_25 (by assumption) (by assumption) ?_
    refine s_iconst (v := 1) dX10_admit_125 (by decide) ?_
    refine s_iadd dX10_admit_126 ?_
    refine s_putI dX10_admit_127 fp_X10_25 (by assumption) (by assumption) ?_
    refine s_ret dX10_admit_130 rfl ?_
    refine hq _ (fr_trans (fr_trans (fr_iu (by simp)) (fr_iu (by simp))) (fr_iu (by simp))) ⟨hA, ?_, ?_, ?_, ?_, fi, w4, ?_, ?_⟩
    · rw [iu_j (by omega), iu_b (by omega), iu_b (by omega)]; exact w0
    · rw [List.length_append, List.length_singleton]; omega
    · rw [iu_at, iu_b (by omega), iu_b (by omega), t_zI w2, z1, zI_add, zI_t (by omega) (by omega), List.length_append, List.length_singleton]; omega
    · rw [iu_j (by omega), iu_b (by omega), iu_b (by omega)]; exact w3
    · rw [iu_j (by omega), iu_b (by omega), iu_b (by omega)]; exact w5
    · intro q e he
      have hql := (List.getElem?_eq_some_iff.mp he).1
      rw [List.length_append, List.length_singleton] at hql
      by_cases hqe : q = D.length
      · subst hqe
        simp at he
        subst he
        exact ⟨by rw [iu_b (by omega), iu_b (by omega), iu_at]; exact zI_t (by omega) (by omega), by rw [iu_b (by omega), iu_at]; exact zI_t (by omega) (by omega)⟩
      · rw [List.getElem?_append_left (by omega)] at he
        have hne : wsl fi q ≠ wsl fi D.length := by unfold wsl; omega
        obtain ⟨z1, z2⟩ := w6 q e he
        exact ⟨by rw [iu_b (by omega), iu_b (by omega), iu_j hne]; exact z1, by rw [iu_b (by omega), iu_j hne, iu_b (by omega)]; exact z2⟩
  intro L
  induction L with
  | zero =>
    intro D I hL hlt hb hW hq
    have hD : D = [] := List.length_eq_zero_iff.mp hL
    subst hD
    obtain ⟨hA, w0, w1, w2, w3, fi, w4, w5, w6⟩ := id hW
    obtain ⟨a1, a2, a3, a4, a5, a6, a7, a8⟩ := id hA
    have ev : v < T.1 := by omega
    have ev1 : v + 1 < T.1 := by omega
    have ev2 : v + 2 < T.1 := by omega
    refine s_aload_n (i := 0) dX10_admit_53 rfl rfl ?_
    refine s_getI dX10_admit_54 fl_X10_25 (by assumption) (by assumption) ?_
    refine s_if_le (tgt := 92) dX10_admit_57 (by decide) (fun h57 => ?_) (fun h57 => absurd (by rw [t_zI w2]; decide) h57)
    exact fin [] I (by simp) rfl hW hq
  | succ L ih =>
    intro D I hL hlt hb hW hq
    obtain ⟨D0, e, rfl⟩ : ∃ D0 e, D = D0 ++ [e] := by
      have hne : D ≠ [] := fun h => by rw [h] at hL; simp at hL
      exact ⟨D.dropLast, D.getLast hne, (List.dropLast_concat_getLast hne).symm⟩
    have hl0 : D0.length = L := by rw [List.length_append, List.length_singleton] at hL; omega
    obtain ⟨hA, w0, w1, w2, w3, fi, w4, w5, w6⟩ := id hW
    obtain ⟨a1, a2, a3, a4, a5, a6, a7, a8⟩ := id hA
    have ev : v < T.1 := by omega
    have ev1 : v + 1 < T.1 := by omega
    have ev2 : v + 2 < T.1 := by omega
    rw [List.length_append, List.length_singleton] at w2
    have hlast := w6 L e (by rw [← hl0]; simp)
    have heb := hb e (by simp)
    have hsl : wsl fi L < 64 := Nat.mod_lt _ (by omega)
    have hns : (zI (wsl fi L)).toNatClampNeg = wsl fi L := by rw [zI_n (by omega) (by omega)]; simp
    have hps := popb_snoc own D0 e
    refine s_aload_n (i := 0) dX10_admit_53 rfl rfl ?_
    refine s_getI dX10_admit_54 fl_X10_25 (by assumption) (by assumption) ?_
    refine s_if_le (tgt := 92) dX10_admit_57 (by decide) (fun h57 => absurd h57 (by rw [t_zI w2, z0, zI_le (by omega) (by omega) (by omega) (by omega)]; omega)) (fun h57 => ?_)
    refine s_aload_n (i := 0) dX10_admit_60 rfl rfl ?_
    refine s_getR dX10_admit_61 fl_X10_15 (by assumption) (by assumption) (by assumption) ?_
    refine s_aload_n (i := 0) dX10_admit_64 rfl rfl ?_
    refine s_aload_n (i := 0) dX10_admit_65 rfl rfl ?_
    refine s_getI dX10_admit_66 fl_X10_25 (by assumption) (by assumption) ?_
    refine s_iconst (v := 1) dX10_admit_69 (by decide) ?_
    refine s_isub dX10_admit_70 ?_
    refine s_topi (y := zI L) (by rw [t_zI w2, z1, zI_sub]; congr 1; omega) ?_
    refine s_cV_I (My := mX10_slot) dX10_admit_71 wM_X10_33 cb_yX10_slot ci_yX10_slot (by assumption) (by assumption) (Nat.le_of_ble_eq_true rfl) (by decide) (s_d (by omega) (c_slot (d := 0) hA (t_zI w5) w4 (by omega) ?_))
    refine s_iald dX10_admit_74 (by assumption) (by assumption) (by rw [a8]; exact z_in (by omega) (by omega) (by omega)) ?_
    refine s_topi (y := zI e.2) (by rw [hns]; exact t_zI hlast.2) ?_
    refine s_iload_n (i := 3) dX10_admit_75 rfl rfl ?_
    refine s_icmp_lt (tgt := 92) dX10_admit_76 (by decide) (fun c76 => ?_) (fun c76 => ?_)
    · rw [zI_lt (by omega) (by omega) (by omega) (by omega)] at c76
      rw [if_neg (by omega)] at hps
      exact fin (D0 ++ [e]) I (by rw [List.length_append, List.length_singleton]; omega) hps hW hq
    · rw [zI_lt (by omega) (by omega) (by omega) (by omega)] at c76
      rw [if_pos (by omega)] at hps
      rw [hps] at hq
      refine s_aload_n (i := 0) dX10_admit_79 rfl rfl ?_
      refine s_dup dX10_admit_80 rfl ?_
      refine s_getI dX10_admit_81 fl_X10_25 (by assumption) (by assumption) ?_
      refine s_iconst (v := 1) dX10_admit_84 (by decide) ?_
      refine s_isub dX10_admit_85 ?_
      refine s_topi (y := zI D0.length) (by rw [t_zI w2, z1, zI_sub]; congr 1; omega) ?_
      refine s_putI dX10_admit_86 fp_X10_25 (by assumption) (by assumption) ?_
      refine s_goto (tgt := 53) dX10_admit_89 (by decide) ?_
      refine ih D0 _ hl0 (by omega) (fun q hq => hb q (List.mem_append_left _ hq)) ⟨hA, by rw [iu_j (by omega)]; exact w0, by omega, by rw [iu_at]; exact zI_t (by omega) (by omega), by rw [iu_j (by omega)]; exact w3, fi, w4, by rw [iu_j (by omega)]; exact w5, fun q e2 he2 => ?_⟩ (fun I' hf h2 => hq I' (fr_trans (fr_iu (by simp)) hf) h2)
      rw [iu_b (by omega), iu_b (by omega)]
      have hql := (List.getElem?_eq_some_iff.mp he2).1
      exact w6 q e2 (by rw [List.getElem?_append_left hql]; exact he2)
/-- without the first one, if it is too far -/
def expf (en : Int) (D : List (Int × Int)) : List (Int × Int) := match D with
  | [] => []
  | e :: r => if en + 64 ≤ e.1 then r else e :: r
set_option maxRecDepth 100000 in
set_option maxHeartbeats 200000 in
theorem c_admit {G : fG} {x0 : Nat} {l : Launch} {d k n : Nat} {T : fT} {I : fI} {J : fJ} {Q : Option Value → fT → fI → fJ → Prop} {v wd : Nat} {D : List (Int × Int)} {en rk ps : Int} (hW : WinIs T I v wd D ps) (hen : 0 ≤ en ∧ en ≤ 1000) (hrk : 0 ≤ rk ∧ rk ≤ 100000000) (hps : 0 ≤ ps ∧ ps ≤ 1000000) (hb : ∀ e, e ∈ D → -1000000000 ≤ e.2 ∧ e.2 ≤ 1000000000 ∧ 0 ≤ e.1 ∧ e.1 ≤ 1000) (hl : (expf en D).length < 64) (hq : ∀ I', fr I I' [v, v + 1, v + 2] → WinIs T I' v wd (popb (rk - 256 * ps) (expf en D) ++ [(en, rk - 256 * ps)]) ps → Q none T I' J) : PW G x0 l mX10_admit (d + 1) (ZM G x0 Q) k n 0 [(0, .ref (x0 + v)), (1, .int (zI en)), (2, .int (zI rk))] [] T I J := by
  obtain ⟨hA, w0, w1, w2, w3, fi, w4, w5, w6⟩ := id hW
  obtain ⟨a1, a2, a3, a4, a5, a6, a7, a8⟩ := id hA
  have ev : v < T.1 := by omega
  have ev1 : v + 1 < T.1 := by omega
  have ev2 : v + 2 < T.1 := by omega
  have hnf : (zI fi).toNatClampNeg = fi := by rw [zI_n (by omega) (by omega)]; simp
  refine s_iload_n (i := 2) dX10_admit_0 rfl rfl ?_
  refine s_sipush (v := 256) dX10_admit_1 (by decide) ?_
  refine s_aload_n (i := 0) dX10_admit_4 rfl rfl ?_
  refine s_getI dX10_admit_5 fl_X10_28 (by assumption) (by assumption) ?_
  refine s_imul dX10_admit_8 ?_
  refine s_isub dX10_admit_9 ?_
  refine s_topi (y := zI (rk - 256 * ps)) (by rw [t_zI w3]; show zI rk - zI 256 * zI ps = _; rw [zI_mul, zI_sub]) ?_
  refine s_istore_n (i := 3) dX10_admit_10 rfl (by decide) (by simp only [sl, sl2, rm, Value.category, reduceIte, Nat.reduceAdd, Nat.reduceEqDiff, reduceCtorEq]; rfl) ?_
  refine s_aload_n (i := 0) dX10_admit_11 rfl rfl ?_
  refine s_getI dX10_admit_12 fl_X10_25 (by assumption) (by assumption) ?_
  refine s_if_le (tgt := 53) dX10_admit_15 (by decide) (fun c15 => ?_) (fun c15 => ?_)
  · refine s_lv (lv' := [(0, .ref (x0 + v)), (1, .int (zI en)), (3, .int (zI (rk - 256 * ps)))]) ⟨rfl, rfl, rfl, trivial⟩ ?_
    first
    | (have hex : expf en D = D := by
         cases D with
         | nil => rfl
         | cons e r =>
           exfalso
           rw [List.length_cons] at w1 w2
           rw [t_zI w2, z0, zI_le (by omega) (by omega) (by omega) (by omega)] at c15
           omega
       rw [hex] at hl hq
       exact l_wPop hen (by omega) D.length D I rfl hl (fun e he => ⟨(hb e he).1, (hb e he).2.1⟩) hW hq)
    | (rw [zI_lt (by omega) (by omega) (by omega) (by omega)] at c31
       have hex : expf en (e :: r) = e :: r := by simp only [expf]; rw [if_neg (by omega)]
       rw [hex] at hl hq
       exact l_wPop hen (by omega) (e :: r).length (e :: r) I rfl hl (fun e he => ⟨(hb e he).1, (hb e he).2.1⟩) hW hq)
    | (have hfl : wsl fi 1 < 64 := Nat.mod_lt _ (by omega)
       refine l_wPop hen (by omega) r.length r _ rfl hl (fun e he => ⟨(hb e (List.mem_cons_of_mem _ he)).1, (hb e (List.mem_cons_of_mem _ he)).2.1⟩) ⟨hA, by rw [iu_j (by omega), iu_j (by omega)]; exact w0, by omega, by rw [iu_at]; exact zI_t (by omega) (by omega), by rw [iu_j (by omega), iu_j (by omega)]; exact w3, wsl fi 1, hfl, by rw [iu_j (by omega), iu_at]; exact zI_t (by omega) (by omega), fun q e2 he2 => ?_⟩ (fun I' hf h2 => hq I' (fr_trans (fr_trans (fr_iu (by simp)) (fr_iu (by simp))) hf) h2)
       rw [iu_b (by omega), iu_b (by omega), iu_b (by omega), iu_b (by omega), show wsl (wsl fi 1) q = wsl fi (q + 1) from by unfold wsl; omega]
       exact w6 (q + 1) e2 (by rw [List.getElem?_cons_succ]; exact he2))
  · obtain ⟨e, r, rfl⟩ : ∃ e r, D = e :: r := by
      cases D with
      | nil => rw [t_zI w2] at c15; exact absurd (by decide) c15
      | cons e r => exact ⟨e, r, rfl⟩
    have hs0 : wsl fi 0 = fi := by unfold wsl; omega
    have hw := w6 0 e rfl
    rw [hs0] at hw
    have hbe := hb e List.mem_cons_self
    rw [List.length_cons] at w1 w2
    refine s_aload_n (i := 0) dX10_admit_18 rfl rfl ?_
    refine s_getR dX10_admit_19 fl_X10_9 (by assumption) (by assumption) (by assumption) ?_
    refine s_aload_n (i := 0) dX10_admit_22 rfl rfl ?_
    refine s_getI dX10_admit_23 fl_X10_22 (by assumption) (by assumption) ?_
    refine s_topi (t_zI w5) ?_
    refine s_iald dX10_admit_26 (by assumption) (by assumption) (by rw [a6]; exact z_in (by omega) (by omega) (by omega)) ?_
    refine s_iload_n (i := 1) dX10_admit_27 rfl rfl ?_
    refine s_bipush (v := 64) dX10_admit_28 (by decide) ?_
    refine s_iadd dX10_admit_30 ?_
    refine s_st (st2 := [.int (zI (en + 64)), .int (zI e.1)]) (by rw [hnf, t_zI hw.1]; show [Value.int (zI en + zI 64), _] = _; rw [zI_add]) ?_
    refine s_icmp_lt (tgt := 53) dX10_admit_31 (by decide) (fun c31 => ?_) (fun c31 => ?_)
    · refine s_lv (lv' := [(0, .ref (x0 + v)), (1, .int (zI en)), (3, .int (zI (rk - 256 * ps)))]) ⟨rfl, rfl, rfl, trivial⟩ ?_
      first
      | (have hex : expf en D = D := by
           cases D with
           | nil => rfl
           | cons e r =>
             exfalso
             rw [List.length_cons] at w1 w2
             rw [t_zI w2, z0, zI_le (by omega) (by omega) (by omega) (by omega)] at c15
             omega
         rw [hex] at hl hq
         exact l_wPop hen (by omega) D.length D I rfl hl (fun e he => ⟨(hb e he).1, (hb e he).2.1⟩) hW hq)
      | (rw [zI_lt (by omega) (by omega) (by omega) (by omega)] at c31
         have hex : expf en (e :: r) = e :: r := by simp only [expf]; rw [if_neg (by omega)]
         rw [hex] at hl hq
         exact l_wPop hen (by omega) (e :: r).length (e :: r) I rfl hl (fun e he => ⟨(hb e he).1, (hb e he).2.1⟩) hW hq)
      | (have hfl : wsl fi 1 < 64 := Nat.mod_lt _ (by omega)
         refine l_wPop hen (by omega) r.length r _ rfl hl (fun e he => ⟨(hb e (List.mem_cons_of_mem _ he)).1, (hb e (List.mem_cons_of_mem _ he)).2.1⟩) ⟨hA, by rw [iu_j (by omega), iu_j (by omega)]; exact w0, by omega, by rw [iu_at]; exact zI_t (by omega) (by omega), by rw [iu_j (by omega), iu_j (by omega)]; exact w3, wsl fi 1, hfl, by rw [iu_j (by omega), iu_at]; exact zI_t (by omega) (by omega), fun q e2 he2 => ?_⟩ (fun I' hf h2 => hq I' (fr_trans (fr_trans (fr_iu (by simp)) (fr_iu (by simp))) hf) h2)
         rw [iu_b (by omega), iu_b (by omega), iu_b (by omega), iu_b (by omega), show wsl (wsl fi 1) q = wsl fi (q + 1) from by unfold wsl; omega]
         exact w6 (q + 1) e2 (by rw [List.getElem?_cons_succ]; exact he2))
    · rw [zI_lt (by omega) (by omega) (by omega) (by omega)] at c31
      have hex : expf en (e :: r) = r := by simp only [expf]; rw [if_pos (by omega)]
      rw [hex] at hl hq
      refine s_aload_n (i := 0) dX10_admit_34 rfl rfl ?_
      refine s_aload_n (i := 0) dX10_admit_35 rfl rfl ?_
      refine s_iconst (v := 1) dX10_admit_36 (by decide) ?_
      refine s_cV_I (My := mX10_slot) dX10_admit_37 wM_X10_33 cb_yX10_slot ci_yX10_slot (by assumption) (by assumption) (Nat.le_of_ble_eq_true rfl) (by decide) (s_d (by omega) (c_slot (d := 0) (q := 1) hA (t_zI w5) w4 (by omega) ?_))
      refine s_putI dX10_admit_40 fp_X10_22 (by assumption) (by assumption) ?_
      refine s_aload_n (i := 0) dX10_admit_43 rfl rfl ?_
      refine s_dup dX10_admit_44 rfl ?_
      refine s_getI dX10_admit_45 fl_X10_25 (by assumption) (by assumption) ?_
      refine s_iconst (v := 1) dX10_admit_48 (by decide) ?_
      refine s_isub dX10_admit_49 ?_
      refine s_topi (y := zI r.length) (by rw [iu_j (by omega), t_zI w2, z1, zI_sub]; congr 1; omega) ?_
      refine s_putI dX10_admit_50 fp_X10_25 (by assumption) (by assumption) ?_
      refine s_lv (lv' := [(0, .ref (x0 + v)), (1, .int (zI en)), (3, .int (zI (rk - 256 * ps)))]) ⟨rfl, rfl, rfl, trivial⟩ ?_
      first
      | (have hex : expf en D = D := by
           cases D with
           | nil => rfl
           | cons e r =>
             exfalso
             rw [List.length_cons] at w1 w2
             rw [t_zI w2, z0, zI_le (by omega) (by omega) (by omega) (by omega)] at c15
             omega
         rw [hex] at hl hq
         exact l_wPop hen (by omega) D.length D I rfl hl (fun e he => ⟨(hb e he).1, (hb e he).2.1⟩) hW hq)
      | (rw [zI_lt (by omega) (by omega) (by omega) (by omega)] at c31
         have hex : expf en (e :: r) = e :: r := by simp only [expf]; rw [if_neg (by omega)]
         rw [hex] at hl hq
         exact l_wPop hen (by omega) (e :: r).length (e :: r) I rfl hl (fun e he => ⟨(hb e he).1, (hb e he).2.1⟩) hW hq)
      | (have hfl : wsl fi 1 < 64 := Nat.mod_lt _ (by omega)
         refine l_wPop hen (by omega) r.length r _ rfl hl (fun e he => ⟨(hb e (List.mem_cons_of_mem _ he)).1, (hb e (List.mem_cons_of_mem _ he)).2.1⟩) ⟨hA, by rw [iu_j (by omega), iu_j (by omega)]; exact w0, by omega, by rw [iu_at]; exact zI_t (by omega) (by omega), by rw [iu_j (by omega), iu_j (by omega)]; exact w3, wsl fi 1, hfl, by rw [iu_j (by omega), iu_at]; exact zI_t (by omega) (by omega), fun q e2 he2 => ?_⟩ (fun I' hf h2 => hq I' (fr_trans (fr_trans (fr_iu (by simp)) (fr_iu (by simp))) hf) h2)
         rw [iu_b (by omega), iu_b (by omega), iu_b (by omega), iu_b (by omega), show wsl (wsl fi 1) q = wsl fi (q + 1) from by unfold wsl; omega]
         exact w6 (q + 1) e2 (by rw [List.getElem?_cons_succ]; exact he2))
