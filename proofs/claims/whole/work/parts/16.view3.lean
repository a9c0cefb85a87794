/-- a block's property, by its number -/
def bprop (g : Nat → Int) (f len : Nat) (z : Int) : Int := if z = 0 then f else if z = 1 then len else if z = 2 then g f else if z = 3 then bw g f len else if z = 4 then bexc g f len else if z = 5 then bcost g f len else if z = 6 then wordsN g f len else -2
set_option maxRecDepth 100000 in
set_option maxHeartbeats 4000000 in
theorem c_prop {G : fG} {x0 : Nat} {l : Launch} {d k n : Nat} {T : fT} {I : fI} {J : fJ} {Q : Option Value → fT → fI → fJ → Prop} {v r cap m f len : Nat} {g : Nat → Int} {x : Int32} (hV : ViewIs T I v r g f len) (hR : RowIs T I r cap g m) (hfl : f + len ≤ m) (hl : 1 ≤ len) (hl2 : len ≤ 1000) (hq : Q (some (.int (zI (bprop g f len x.toInt)))) T I J) : PW G x0 l mX0_property (d + 1) (ZM G x0 Q) k n 0 [(0, .ref (x0 + v)), (1, .int x)] [] T I J := by
  obtain ⟨hA, hVr, v2, v3, v4, v5, v6⟩ := id hV
  obtain ⟨a1, a2, a3, a4, a5, a6⟩ := id hA
  obtain ⟨k1, k2, k3, k4, k5, k6, k7⟩ := id hR.1
  unfold bprop at hq
  refine s_iload_n (i := 1) dX0_property_0 rfl rfl ?_
  rcases (show (x.toInt < 0 ∨ 6 < x.toInt) ∨ x.toInt = 0 ∨ x.toInt = 1 ∨ x.toInt = 2 ∨ x.toInt = 3 ∨ x.toInt = 4 ∨ x.toInt = 5 ∨ x.toInt = 6 by omega) with h1 | h1 | h1 | h1 | h1 | h1 | h1 | h1
  · refine s_tabOut (tgt := 86) dX0_property_1 h1 (by decide) ?_
    refine s_bipush (v := -2) dX0_property_86 (by decide) ?_
    refine s_iret dX0_property_88 rfl ?_
    rw [if_neg (by omega), if_neg (by omega), if_neg (by omega), if_neg (by omega), if_neg (by omega), if_neg (by omega), if_neg (by omega)] at hq
    exact hq
  · refine s_tabIn (off := 43) (tgt := 44) dX0_property_1 (by omega) (by omega) (by rw [h1]; rfl) (by decide) ?_
    refine s_aload_n (i := 0) dX0_property_44 rfl rfl ?_
    refine s_getI dX0_property_45 fl_X0_19 (by assumption) (by assumption) ?_
    refine s_iret dX0_property_48 rfl ?_
    rw [if_pos h1] at hq
    rw [t_zI v2]
    exact hq
  · refine s_tabIn (off := 48) (tgt := 49) dX0_property_1 (by omega) (by omega) (by rw [h1]; rfl) (by decide) ?_
    refine s_aload_n (i := 0) dX0_property_49 rfl rfl ?_
    refine s_getI dX0_property_50 fl_X0_23 (by assumption) (by assumption) ?_
    refine s_iret dX0_property_53 rfl ?_
    rw [if_neg (by omega), if_pos h1] at hq
    rw [t_zI v3]
    exact hq
  · refine s_tabIn (off := 53) (tgt := 54) dX0_property_1 (by omega) (by omega) (by rw [h1]; rfl) (by decide) ?_
    refine s_aload_n (i := 0) dX0_property_54 rfl rfl ?_
    refine s_getR dX0_property_55 fl_X0_15 (by assumption) (by assumption) (by assumption) ?_
    refine s_aload_n (i := 0) dX0_property_58 rfl rfl ?_
    refine s_getI dX0_property_59 fl_X0_19 (by assumption) (by assumption) ?_
    refine s_topi (t_zI v2) ?_
    refine s_cV_I (My := mX9_get) dX0_property_62 wM_X0_63 cb_yX9_get ci_yX9_get (by assumption) (by assumption) (Nat.le_of_ble_eq_true rfl) (by decide) (c_getz hR (by omega) (by omega) ?_)
    refine s_iret dX0_property_65 rfl ?_
    rw [if_neg (by omega), if_neg (by omega), if_pos h1] at hq
    exact hq
  · refine s_tabIn (off := 65) (tgt := 66) dX0_property_1 (by omega) (by omega) (by rw [h1]; rfl) (by decide) ?_
    refine s_aload_n (i := 0) dX0_property_66 rfl rfl ?_
    refine s_getI dX0_property_67 fl_X0_51 (by assumption) (by assumption) ?_
    refine s_iret dX0_property_70 rfl ?_
    rw [if_neg (by omega), if_neg (by omega), if_neg (by omega), if_pos h1] at hq
    rw [t_zI v4]
    exact hq
  · refine s_tabIn (off := 70) (tgt := 71) dX0_property_1 (by omega) (by omega) (by rw [h1]; rfl) (by decide) ?_
    refine s_aload_n (i := 0) dX0_property_71 rfl rfl ?_
    refine s_getI dX0_property_72 fl_X0_54 (by assumption) (by assumption) ?_
    refine s_iret dX0_property_75 rfl ?_
    rw [if_neg (by omega), if_neg (by omega), if_neg (by omega), if_neg (by omega), if_pos h1] at hq
    rw [t_zI v5]
    exact hq
  · refine s_tabIn (off := 75) (tgt := 76) dX0_property_1 (by omega) (by omega) (by rw [h1]; rfl) (by decide) ?_
    refine s_aload_n (i := 0) dX0_property_76 rfl rfl ?_
    refine s_getI dX0_property_77 fl_X0_60 (by assumption) (by assumption) ?_
    refine s_iret dX0_property_80 rfl ?_
    rw [if_neg (by omega), if_neg (by omega), if_neg (by omega), if_neg (by omega), if_neg (by omega), if_pos h1] at hq
    rw [t_zI v6]
    exact hq
  · refine s_tabIn (off := 80) (tgt := 81) dX0_property_1 (by omega) (by omega) (by rw [h1]; rfl) (by decide) ?_
    refine s_aload_n (i := 0) dX0_property_81 rfl rfl ?_
    refine s_cV_ (My := mX0_words) dX0_property_82 wM_X0_66 cb_yX0_words ci_yX0_words (by assumption) (by assumption) (Nat.le_of_ble_eq_true rfl) (by decide) (s_d (by omega) (c_words (d := 0) hV hl hl2 ?_))
    refine s_iret dX0_property_85 rfl ?_
    rw [if_neg (by omega), if_neg (by omega), if_neg (by omega), if_neg (by omega), if_neg (by omega), if_neg (by omega), if_pos h1] at hq
    exact hq
