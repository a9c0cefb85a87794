/-! the model made -/
def MoN (T : fT) (I : fI) : Prop := OwnA T I 144 12 0 (sR 31 161 (sR 29 160 (sR 26 159 (sR 25 158 (sR 24 157 (sR 21 156 (sR 17 155 (sR 16 154 (sR 15 153 (sR 14 152 (sR 12 151 (sR 11 150 (sR 8 149 (sR 4 148 (sR 3 147 (sR 1 146 (sR 0 145 nR))))))))))))))))) (sV 10 (-1) (sV 9 (-1) zV)) ∧ OwnA T I 145 13 2412 nR zV ∧ OwnA T I 146 13 19296 nR zV ∧ OwnA T I 147 13 4 nR zV ∧ OwnA T I 148 13 4 nR zV ∧ OwnA T I 149 13 1200 nR zV ∧ OwnA T I 150 13 21 nR zV ∧ OwnA T I 151 13 200 nR zV ∧ OwnA T I 152 13 201 nR zV ∧ OwnA T I 153 13 201 nR zV ∧ OwnA T I 154 13 201 nR zV ∧ OwnA T I 155 13 100 nR zV ∧ OwnA T I 156 13 200 nR zV ∧ OwnA T I 157 13 28800 nR zV ∧ OwnA T I 158 13 24 nR zV ∧ OwnA T I 159 13 1200 nR zV ∧ OwnA T I 160 13 100 nR zV ∧ OwnA T I 161 13 100 nR zV
set_option maxRecDepth 100000 in
set_option maxHeartbeats 4000000 in
theorem i_Mo {G : fG} {x0 : Nat} {l : Launch} {d k n : Nat} {Q : Option Value → fT → fI → fJ → Prop} {T : fT} {I : fI} {J : fJ} (hT : T.1 = 145) (ow : Own T I 144 12 0 nR zV) (hq : ∀ (T' : fT) (I' : fI) (J' : fJ), T'.1 = 162 → (∀ a, a < 144 → sm T T' I I' a) → MoN T' I' → Q none T' I' J') : PW G x0 l mX12_init (d + 1) (ZM G x0 Q) (k + 17) (n + 54264) 0 [(0, .ref (x0 + 144))] [] T I J := by
  have hac : ∀ a, a < 144 → sm T T I I a := fun a _ => sm.rf T I a
  refine s_aload_n (i := 0) dX12_init_0 rfl rfl ?_
  refine s_objInit dX12_init_1 wM_X12_1 (Nat.le_of_ble_eq_true rfl) ?_
  refine s_aload_n (i := 0) dX12_init_4 rfl rfl ?_
  refine s_sipush (v := 2412) dX12_init_5 (by decide) ?_
  refine s_kn (k' := (k + 16) + 1) (n' := (n + 51852) + 2412) (by omega) (by omega) ?_
  refine n_newI (N := 145) (len := 2412) hT dX12_init_8 (by decide) (by decide) (by decide) (fun T1 I1 J1 hT1 hs fa1 => ?_)
  replace hac := fun (a : Nat) (h : a < 144) => (hac a h).tr (hs a (by omega))
  replace ow := ow.sm (hs 144 (by omega))
  replace hT : T1.1 = 146 := by omega
  clear hT1 hs
  refine n_putR (v := 145) dX12_init_10 fp_X12_7 (Or.inr ⟨rfl, rfl⟩) rfl rfl (by omega) ow (fun T2 hN2 hs ow1 => ?_)
  replace hT := hN2.trans hT
  replace fa1 := fa1.sm (fun a h1 h2 => hs a (by omega))
  replace hac := fun (a : Nat) (h : a < 144) => (hac a h).tr (hs a (by omega))
  replace ow := ow1
  clear ow1 hs
  clear hN2
  refine s_aload_n (i := 0) dX12_init_13 rfl rfl ?_
  refine s_sipush (v := 19296) dX12_init_14 (by decide) ?_
  refine s_kn (k' := (k + 15) + 1) (n' := (n + 32556) + 19296) (by omega) (by omega) ?_
  refine n_newI (N := 146) (len := 19296) hT dX12_init_17 (by decide) (by decide) (by decide) (fun T3 I3 J3 hT1 hs fa2 => ?_)
  replace fa1 := fa1.sm (fun a h1 h2 => hs a (by omega))
  replace hac := fun (a : Nat) (h : a < 144) => (hac a h).tr (hs a (by omega))
  replace ow := ow.sm (hs 144 (by omega))
  replace hT : T3.1 = 147 := by omega
  clear hT1 hs
  refine n_putR (v := 146) dX12_init_19 fp_X12_13 (Or.inr ⟨rfl, rfl⟩) rfl rfl (by omega) ow (fun T4 hN2 hs ow1 => ?_)
  replace hT := hN2.trans hT
  replace fa1 := fa1.sm (fun a h1 h2 => hs a (by omega))
  replace fa2 := fa2.sm (fun a h1 h2 => hs a (by omega))
  replace hac := fun (a : Nat) (h : a < 144) => (hac a h).tr (hs a (by omega))
  replace ow := ow1
  clear ow1 hs
  clear hN2
  refine s_aload_n (i := 0) dX12_init_22 rfl rfl ?_
  refine s_iconst (v := 4) dX12_init_23 (by decide) ?_
  refine s_kn (k' := (k + 14) + 1) (n' := (n + 32552) + 4) (by omega) (by omega) ?_
  refine n_newI (N := 147) (len := 4) hT dX12_init_24 (by decide) (by decide) (by decide) (fun T5 I5 J5 hT1 hs fa3 => ?_)
  replace fa1 := fa1.sm (fun a h1 h2 => hs a (by omega))
  replace fa2 := fa2.sm (fun a h1 h2 => hs a (by omega))
  replace hac := fun (a : Nat) (h : a < 144) => (hac a h).tr (hs a (by omega))
  replace ow := ow.sm (hs 144 (by omega))
  replace hT : T5.1 = 148 := by omega
  clear hT1 hs
  refine n_putR (v := 147) dX12_init_26 fp_X12_16 (Or.inr ⟨rfl, rfl⟩) rfl rfl (by omega) ow (fun T6 hN2 hs ow1 => ?_)
  replace hT := hN2.trans hT
  replace fa1 := fa1.sm (fun a h1 h2 => hs a (by omega))
  replace fa2 := fa2.sm (fun a h1 h2 => hs a (by omega))
  replace fa3 := fa3.sm (fun a h1 h2 => hs a (by omega))
  replace hac := fun (a : Nat) (h : a < 144) => (hac a h).tr (hs a (by omega))
  replace ow := ow1
  clear ow1 hs
  clear hN2
  refine s_aload_n (i := 0) dX12_init_29 rfl rfl ?_
  refine s_iconst (v := 4) dX12_init_30 (by decide) ?_
  refine s_kn (k' := (k + 13) + 1) (n' := (n + 32548) + 4) (by omega) (by omega) ?_
  refine n_newI (N := 148) (len := 4) hT dX12_init_31 (by decide) (by decide) (by decide) (fun T7 I7 J7 hT1 hs fa4 => ?_)
  replace fa1 := fa1.sm (fun a h1 h2 => hs a (by omega))
  replace fa2 := fa2.sm (fun a h1 h2 => hs a (by omega))
  replace fa3 := fa3.sm (fun a h1 h2 => hs a (by omega))
  replace hac := fun (a : Nat) (h : a < 144) => (hac a h).tr (hs a (by omega))
  replace ow := ow.sm (hs 144 (by omega))
  replace hT : T7.1 = 149 := by omega
  clear hT1 hs
  refine n_putR (v := 148) dX12_init_33 fp_X12_19 (Or.inr ⟨rfl, rfl⟩) rfl rfl (by omega) ow (fun T8 hN2 hs ow1 => ?_)
  replace hT := hN2.trans hT
  replace fa1 := fa1.sm (fun a h1 h2 => hs a (by omega))
  replace fa2 := fa2.sm (fun a h1 h2 => hs a (by omega))
  replace fa3 := fa3.sm (fun a h1 h2 => hs a (by omega))
  replace fa4 := fa4.sm (fun a h1 h2 => hs a (by omega))
  replace hac := fun (a : Nat) (h : a < 144) => (hac a h).tr (hs a (by omega))
  replace ow := ow1
  clear ow1 hs
  clear hN2
  refine s_aload_n (i := 0) dX12_init_36 rfl rfl ?_
  refine s_sipush (v := 1200) dX12_init_37 (by decide) ?_
  refine s_kn (k' := (k + 12) + 1) (n' := (n + 31348) + 1200) (by omega) (by omega) ?_
  refine n_newI (N := 149) (len := 1200) hT dX12_init_40 (by decide) (by decide) (by decide) (fun T9 I9 J9 hT1 hs fa5 => ?_)
  replace fa1 := fa1.sm (fun a h1 h2 => hs a (by omega))
  replace fa2 := fa2.sm (fun a h1 h2 => hs a (by omega))
  replace fa3 := fa3.sm (fun a h1 h2 => hs a (by omega))
  replace fa4 := fa4.sm (fun a h1 h2 => hs a (by omega))
  replace hac := fun (a : Nat) (h : a < 144) => (hac a h).tr (hs a (by omega))
  replace ow := ow.sm (hs 144 (by omega))
  replace hT : T9.1 = 150 := by omega
  clear hT1 hs
  refine n_putR (v := 149) dX12_init_42 fp_X12_22 (Or.inr ⟨rfl, rfl⟩) rfl rfl (by omega) ow (fun T10 hN2 hs ow1 => ?_)
  replace hT := hN2.trans hT
  replace fa1 := fa1.sm (fun a h1 h2 => hs a (by omega))
  replace fa2 := fa2.sm (fun a h1 h2 => hs a (by omega))
  replace fa3 := fa3.sm (fun a h1 h2 => hs a (by omega))
  replace fa4 := fa4.sm (fun a h1 h2 => hs a (by omega))
  replace fa5 := fa5.sm (fun a h1 h2 => hs a (by omega))
  replace hac := fun (a : Nat) (h : a < 144) => (hac a h).tr (hs a (by omega))
  replace ow := ow1
  clear ow1 hs
  clear hN2
  refine s_aload_n (i := 0) dX12_init_45 rfl rfl ?_
  refine s_iconst (v := -1) dX12_init_46 (by decide) ?_
  refine n_putI dX12_init_47 fp_X12_25 (by omega) ow (fun I11 hs ow1 => ?_)
  replace fa1 := fa1.sm (fun a h1 h2 => hs a (by omega))
  replace fa2 := fa2.sm (fun a h1 h2 => hs a (by omega))
  replace fa3 := fa3.sm (fun a h1 h2 => hs a (by omega))
  replace fa4 := fa4.sm (fun a h1 h2 => hs a (by omega))
  replace fa5 := fa5.sm (fun a h1 h2 => hs a (by omega))
  replace hac := fun (a : Nat) (h : a < 144) => (hac a h).tr (hs a (by omega))
  replace ow := ow1
  clear ow1 hs
  refine s_aload_n (i := 0) dX12_init_50 rfl rfl ?_
  refine s_iconst (v := -1) dX12_init_51 (by decide) ?_
  refine n_putI dX12_init_52 fp_X12_29 (by omega) ow (fun I12 hs ow1 => ?_)
  replace fa1 := fa1.sm (fun a h1 h2 => hs a (by omega))
  replace fa2 := fa2.sm (fun a h1 h2 => hs a (by omega))
  replace fa3 := fa3.sm (fun a h1 h2 => hs a (by omega))
  replace fa4 := fa4.sm (fun a h1 h2 => hs a (by omega))
  replace fa5 := fa5.sm (fun a h1 h2 => hs a (by omega))
  replace hac := fun (a : Nat) (h : a < 144) => (hac a h).tr (hs a (by omega))
  replace ow := ow1
  clear ow1 hs
  refine s_aload_n (i := 0) dX12_init_55 rfl rfl ?_
  refine s_bipush (v := 21) dX12_init_56 (by decide) ?_
  refine s_kn (k' := (k + 11) + 1) (n' := (n + 31327) + 21) (by omega) (by omega) ?_
  refine n_newI (N := 150) (len := 21) hT dX12_init_58 (by decide) (by decide) (by decide) (fun T13 I13 J13 hT1 hs fa6 => ?_)
  replace fa1 := fa1.sm (fun a h1 h2 => hs a (by omega))
  replace fa2 := fa2.sm (fun a h1 h2 => hs a (by omega))
  replace fa3 := fa3.sm (fun a h1 h2 => hs a (by omega))
  replace fa4 := fa4.sm (fun a h1 h2 => hs a (by omega))
  replace fa5 := fa5.sm (fun a h1 h2 => hs a (by omega))
  replace hac := fun (a : Nat) (h : a < 144) => (hac a h).tr (hs a (by omega))
  replace ow := ow.sm (hs 144 (by omega))
  replace hT : T13.1 = 151 := by omega
  clear hT1 hs
  refine n_putR (v := 150) dX12_init_60 fp_X12_32 (Or.inr ⟨rfl, rfl⟩) rfl rfl (by omega) ow (fun T14 hN2 hs ow1 => ?_)
  replace hT := hN2.trans hT
  replace fa1 := fa1.sm (fun a h1 h2 => hs a (by omega))
  replace fa2 := fa2.sm (fun a h1 h2 => hs a (by omega))
  replace fa3 := fa3.sm (fun a h1 h2 => hs a (by omega))
  replace fa4 := fa4.sm (fun a h1 h2 => hs a (by omega))
  replace fa5 := fa5.sm (fun a h1 h2 => hs a (by omega))
  replace fa6 := fa6.sm (fun a h1 h2 => hs a (by omega))
  replace hac := fun (a : Nat) (h : a < 144) => (hac a h).tr (hs a (by omega))
  replace ow := ow1
  clear ow1 hs
  clear hN2
  refine s_aload_n (i := 0) dX12_init_63 rfl rfl ?_
  refine s_sipush (v := 200) dX12_init_64 (by decide) ?_
  refine s_kn (k' := (k + 10) + 1) (n' := (n + 31127) + 200) (by omega) (by omega) ?_
  refine n_newI (N := 151) (len := 200) hT dX12_init_67 (by decide) (by decide) (by decide) (fun T15 I15 J15 hT1 hs fa7 => ?_)
  replace fa1 := fa1.sm (fun a h1 h2 => hs a (by omega))
  replace fa2 := fa2.sm (fun a h1 h2 => hs a (by omega))
  replace fa3 := fa3.sm (fun a h1 h2 => hs a (by omega))
  replace fa4 := fa4.sm (fun a h1 h2 => hs a (by omega))
  replace fa5 := fa5.sm (fun a h1 h2 => hs a (by omega))
  replace fa6 := fa6.sm (fun a h1 h2 => hs a (by omega))
  replace hac := fun (a : Nat) (h : a < 144) => (hac a h).tr (hs a (by omega))
  replace ow := ow.sm (hs 144 (by omega))
  replace hT : T15.1 = 152 := by omega
  clear hT1 hs
  refine n_putR (v := 151) dX12_init_69 fp_X12_35 (Or.inr ⟨rfl, rfl⟩) rfl rfl (by omega) ow (fun T16 hN2 hs ow1 => ?_)
  replace hT := hN2.trans hT
  replace fa1 := fa1.sm (fun a h1 h2 => hs a (by omega))
  replace fa2 := fa2.sm (fun a h1 h2 => hs a (by omega))
  replace fa3 := fa3.sm (fun a h1 h2 => hs a (by omega))
  replace fa4 := fa4.sm (fun a h1 h2 => hs a (by omega))
  replace fa5 := fa5.sm (fun a h1 h2 => hs a (by omega))
  replace fa6 := fa6.sm (fun a h1 h2 => hs a (by omega))
  replace fa7 := fa7.sm (fun a h1 h2 => hs a (by omega))
  replace hac := fun (a : Nat) (h : a < 144) => (hac a h).tr (hs a (by omega))
  replace ow := ow1
  clear ow1 hs
  clear hN2
  refine s_aload_n (i := 0) dX12_init_72 rfl rfl ?_
  refine s_sipush (v := 201) dX12_init_73 (by decide) ?_
  refine s_kn (k' := (k + 9) + 1) (n' := (n + 30926) + 201) (by omega) (by omega) ?_
  refine n_newI (N := 152) (len := 201) hT dX12_init_76 (by decide) (by decide) (by decide) (fun T17 I17 J17 hT1 hs fa8 => ?_)
  replace fa1 := fa1.sm (fun a h1 h2 => hs a (by omega))
  replace fa2 := fa2.sm (fun a h1 h2 => hs a (by omega))
  replace fa3 := fa3.sm (fun a h1 h2 => hs a (by omega))
  replace fa4 := fa4.sm (fun a h1 h2 => hs a (by omega))
  replace fa5 := fa5.sm (fun a h1 h2 => hs a (by omega))
  replace fa6 := fa6.sm (fun a h1 h2 => hs a (by omega))
  replace fa7 := fa7.sm (fun a h1 h2 => hs a (by omega))
  replace hac := fun (a : Nat) (h : a < 144) => (hac a h).tr (hs a (by omega))
  replace ow := ow.sm (hs 144 (by omega))
  replace hT : T17.1 = 153 := by omega
  clear hT1 hs
  refine n_putR (v := 152) dX12_init_78 fp_X12_38 (Or.inr ⟨rfl, rfl⟩) rfl rfl (by omega) ow (fun T18 hN2 hs ow1 => ?_)
  replace hT := hN2.trans hT
  replace fa1 := fa1.sm (fun a h1 h2 => hs a (by omega))
  replace fa2 := fa2.sm (fun a h1 h2 => hs a (by omega))
  replace fa3 := fa3.sm (fun a h1 h2 => hs a (by omega))
  replace fa4 := fa4.sm (fun a h1 h2 => hs a (by omega))
  replace fa5 := fa5.sm (fun a h1 h2 => hs a (by omega))
  replace fa6 := fa6.sm (fun a h1 h2 => hs a (by omega))
  replace fa7 := fa7.sm (fun a h1 h2 => hs a (by omega))
  replace fa8 := fa8.sm (fun a h1 h2 => hs a (by omega))
  replace hac := fun (a : Nat) (h : a < 144) => (hac a h).tr (hs a (by omega))
  replace ow := ow1
  clear ow1 hs
  clear hN2
  refine s_aload_n (i := 0) dX12_init_81 rfl rfl ?_
  refine s_sipush (v := 201) dX12_init_82 (by decide) ?_
  refine s_kn (k' := (k + 8) + 1) (n' := (n + 30725) + 201) (by omega) (by omega) ?_
  refine n_newI (N := 153) (len := 201) hT dX12_init_85 (by decide) (by decide) (by decide) (fun T19 I19 J19 hT1 hs fa9 => ?_)
  replace fa1 := fa1.sm (fun a h1 h2 => hs a (by omega))
  replace fa2 := fa2.sm (fun a h1 h2 => hs a (by omega))
  replace fa3 := fa3.sm (fun a h1 h2 => hs a (by omega))
  replace fa4 := fa4.sm (fun a h1 h2 => hs a (by omega))
  replace fa5 := fa5.sm (fun a h1 h2 => hs a (by omega))
  replace fa6 := fa6.sm (fun a h1 h2 => hs a (by omega))
  replace fa7 := fa7.sm (fun a h1 h2 => hs a (by omega))
  replace fa8 := fa8.sm (fun a h1 h2 => hs a (by omega))
  replace hac := fun (a : Nat) (h : a < 144) => (hac a h).tr (hs a (by omega))
  replace ow := ow.sm (hs 144 (by omega))
  replace hT : T19.1 = 154 := by omega
  clear hT1 hs
  refine n_putR (v := 153) dX12_init_87 fp_X12_41 (Or.inr ⟨rfl, rfl⟩) rfl rfl (by omega) ow (fun T20 hN2 hs ow1 => ?_)
  replace hT := hN2.trans hT
  replace fa1 := fa1.sm (fun a h1 h2 => hs a (by omega))
  replace fa2 := fa2.sm (fun a h1 h2 => hs a (by omega))
  replace fa3 := fa3.sm (fun a h1 h2 => hs a (by omega))
  replace fa4 := fa4.sm (fun a h1 h2 => hs a (by omega))
  replace fa5 := fa5.sm (fun a h1 h2 => hs a (by omega))
  replace fa6 := fa6.sm (fun a h1 h2 => hs a (by omega))
  replace fa7 := fa7.sm (fun a h1 h2 => hs a (by omega))
  replace fa8 := fa8.sm (fun a h1 h2 => hs a (by omega))
  replace fa9 := fa9.sm (fun a h1 h2 => hs a (by omega))
  replace hac := fun (a : Nat) (h : a < 144) => (hac a h).tr (hs a (by omega))
  replace ow := ow1
  clear ow1 hs
  clear hN2
  refine s_aload_n (i := 0) dX12_init_90 rfl rfl ?_
  refine s_sipush (v := 201) dX12_init_91 (by decide) ?_
  refine s_kn (k' := (k + 7) + 1) (n' := (n + 30524) + 201) (by omega) (by omega) ?_
  refine n_newI (N := 154) (len := 201) hT dX12_init_94 (by decide) (by decide) (by decide) (fun T21 I21 J21 hT1 hs fa10 => ?_)
  replace fa1 := fa1.sm (fun a h1 h2 => hs a (by omega))
  replace fa2 := fa2.sm (fun a h1 h2 => hs a (by omega))
  replace fa3 := fa3.sm (fun a h1 h2 => hs a (by omega))
  replace fa4 := fa4.sm (fun a h1 h2 => hs a (by omega))
  replace fa5 := fa5.sm (fun a h1 h2 => hs a (by omega))
  replace fa6 := fa6.sm (fun a h1 h2 => hs a (by omega))
  replace fa7 := fa7.sm (fun a h1 h2 => hs a (by omega))
  replace fa8 := fa8.sm (fun a h1 h2 => hs a (by omega))
  replace fa9 := fa9.sm (fun a h1 h2 => hs a (by omega))
  replace hac := fun (a : Nat) (h : a < 144) => (hac a h).tr (hs a (by omega))
  replace ow := ow.sm (hs 144 (by omega))
  replace hT : T21.1 = 155 := by omega
  clear hT1 hs
  refine n_putR (v := 154) dX12_init_96 fp_X12_44 (Or.inr ⟨rfl, rfl⟩) rfl rfl (by omega) ow (fun T22 hN2 hs ow1 => ?_)
  replace hT := hN2.trans hT
  replace fa1 := fa1.sm (fun a h1 h2 => hs a (by omega))
  replace fa2 := fa2.sm (fun a h1 h2 => hs a (by omega))
  replace fa3 := fa3.sm (fun a h1 h2 => hs a (by omega))
  replace fa4 := fa4.sm (fun a h1 h2 => hs a (by omega))
  replace fa5 := fa5.sm (fun a h1 h2 => hs a (by omega))
  replace fa6 := fa6.sm (fun a h1 h2 => hs a (by omega))
  replace fa7 := fa7.sm (fun a h1 h2 => hs a (by omega))
  replace fa8 := fa8.sm (fun a h1 h2 => hs a (by omega))
  replace fa9 := fa9.sm (fun a h1 h2 => hs a (by omega))
  replace fa10 := fa10.sm (fun a h1 h2 => hs a (by omega))
  replace hac := fun (a : Nat) (h : a < 144) => (hac a h).tr (hs a (by omega))
  replace ow := ow1
  clear ow1 hs
  clear hN2
  refine s_aload_n (i := 0) dX12_init_99 rfl rfl ?_
  refine s_bipush (v := 100) dX12_init_100 (by decide) ?_
  refine s_kn (k' := (k + 6) + 1) (n' := (n + 30424) + 100) (by omega) (by omega) ?_
  refine n_newI (N := 155) (len := 100) hT dX12_init_102 (by decide) (by decide) (by decide) (fun T23 I23 J23 hT1 hs fa11 => ?_)
  replace fa1 := fa1.sm (fun a h1 h2 => hs a (by omega))
  replace fa2 := fa2.sm (fun a h1 h2 => hs a (by omega))
  replace fa3 := fa3.sm (fun a h1 h2 => hs a (by omega))
  replace fa4 := fa4.sm (fun a h1 h2 => hs a (by omega))
  replace fa5 := fa5.sm (fun a h1 h2 => hs a (by omega))
  replace fa6 := fa6.sm (fun a h1 h2 => hs a (by omega))
  replace fa7 := fa7.sm (fun a h1 h2 => hs a (by omega))
  replace fa8 := fa8.sm (fun a h1 h2 => hs a (by omega))
  replace fa9 := fa9.sm (fun a h1 h2 => hs a (by omega))
  replace fa10 := fa10.sm (fun a h1 h2 => hs a (by omega))
  replace hac := fun (a : Nat) (h : a < 144) => (hac a h).tr (hs a (by omega))
  replace ow := ow.sm (hs 144 (by omega))
  replace hT : T23.1 = 156 := by omega
  clear hT1 hs
  refine n_putR (v := 155) dX12_init_104 fp_X12_47 (Or.inr ⟨rfl, rfl⟩) rfl rfl (by omega) ow (fun T24 hN2 hs ow1 => ?_)
  replace hT := hN2.trans hT
  replace fa1 := fa1.sm (fun a h1 h2 => hs a (by omega))
  replace fa2 := fa2.sm (fun a h1 h2 => hs a (by omega))
  replace fa3 := fa3.sm (fun a h1 h2 => hs a (by omega))
  replace fa4 := fa4.sm (fun a h1 h2 => hs a (by omega))
  replace fa5 := fa5.sm (fun a h1 h2 => hs a (by omega))
  replace fa6 := fa6.sm (fun a h1 h2 => hs a (by omega))
  replace fa7 := fa7.sm (fun a h1 h2 => hs a (by omega))
  replace fa8 := fa8.sm (fun a h1 h2 => hs a (by omega))
  replace fa9 := fa9.sm (fun a h1 h2 => hs a (by omega))
  replace fa10 := fa10.sm (fun a h1 h2 => hs a (by omega))
  replace fa11 := fa11.sm (fun a h1 h2 => hs a (by omega))
  replace hac := fun (a : Nat) (h : a < 144) => (hac a h).tr (hs a (by omega))
  replace ow := ow1
  clear ow1 hs
  clear hN2
  refine s_aload_n (i := 0) dX12_init_107 rfl rfl ?_
  refine s_sipush (v := 200) dX12_init_108 (by decide) ?_
  refine s_kn (k' := (k + 5) + 1) (n' := (n + 30224) + 200) (by omega) (by omega) ?_
  refine n_newI (N := 156) (len := 200) hT dX12_init_111 (by decide) (by decide) (by decide) (fun T25 I25 J25 hT1 hs fa12 => ?_)
  replace fa1 := fa1.sm (fun a h1 h2 => hs a (by omega))
  replace fa2 := fa2.sm (fun a h1 h2 => hs a (by omega))
  replace fa3 := fa3.sm (fun a h1 h2 => hs a (by omega))
  replace fa4 := fa4.sm (fun a h1 h2 => hs a (by omega))
  replace fa5 := fa5.sm (fun a h1 h2 => hs a (by omega))
  replace fa6 := fa6.sm (fun a h1 h2 => hs a (by omega))
  replace fa7 := fa7.sm (fun a h1 h2 => hs a (by omega))
  replace fa8 := fa8.sm (fun a h1 h2 => hs a (by omega))
  replace fa9 := fa9.sm (fun a h1 h2 => hs a (by omega))
  replace fa10 := fa10.sm (fun a h1 h2 => hs a (by omega))
  replace fa11 := fa11.sm (fun a h1 h2 => hs a (by omega))
  replace hac := fun (a : Nat) (h : a < 144) => (hac a h).tr (hs a (by omega))
  replace ow := ow.sm (hs 144 (by omega))
  replace hT : T25.1 = 157 := by omega
  clear hT1 hs
  refine n_putR (v := 156) dX12_init_113 fp_X12_50 (Or.inr ⟨rfl, rfl⟩) rfl rfl (by omega) ow (fun T26 hN2 hs ow1 => ?_)
  replace hT := hN2.trans hT
  replace fa1 := fa1.sm (fun a h1 h2 => hs a (by omega))
  replace fa2 := fa2.sm (fun a h1 h2 => hs a (by omega))
  replace fa3 := fa3.sm (fun a h1 h2 => hs a (by omega))
  replace fa4 := fa4.sm (fun a h1 h2 => hs a (by omega))
  replace fa5 := fa5.sm (fun a h1 h2 => hs a (by omega))
  replace fa6 := fa6.sm (fun a h1 h2 => hs a (by omega))
  replace fa7 := fa7.sm (fun a h1 h2 => hs a (by omega))
  replace fa8 := fa8.sm (fun a h1 h2 => hs a (by omega))
  replace fa9 := fa9.sm (fun a h1 h2 => hs a (by omega))
  replace fa10 := fa10.sm (fun a h1 h2 => hs a (by omega))
  replace fa11 := fa11.sm (fun a h1 h2 => hs a (by omega))
  replace fa12 := fa12.sm (fun a h1 h2 => hs a (by omega))
  replace hac := fun (a : Nat) (h : a < 144) => (hac a h).tr (hs a (by omega))
  replace ow := ow1
  clear ow1 hs
  clear hN2
  refine s_aload_n (i := 0) dX12_init_116 rfl rfl ?_
  refine s_sipush (v := 28800) dX12_init_117 (by decide) ?_
  refine s_kn (k' := (k + 4) + 1) (n' := (n + 1424) + 28800) (by omega) (by omega) ?_
  refine n_newI (N := 157) (len := 28800) hT dX12_init_120 (by decide) (by decide) (by decide) (fun T27 I27 J27 hT1 hs fa13 => ?_)
  replace fa1 := fa1.sm (fun a h1 h2 => hs a (by omega))
  replace fa2 := fa2.sm (fun a h1 h2 => hs a (by omega))
  replace fa3 := fa3.sm (fun a h1 h2 => hs a (by omega))
  replace fa4 := fa4.sm (fun a h1 h2 => hs a (by omega))
  replace fa5 := fa5.sm (fun a h1 h2 => hs a (by omega))
  replace fa6 := fa6.sm (fun a h1 h2 => hs a (by omega))
  replace fa7 := fa7.sm (fun a h1 h2 => hs a (by omega))
  replace fa8 := fa8.sm (fun a h1 h2 => hs a (by omega))
  replace fa9 := fa9.sm (fun a h1 h2 => hs a (by omega))
  replace fa10 := fa10.sm (fun a h1 h2 => hs a (by omega))
  replace fa11 := fa11.sm (fun a h1 h2 => hs a (by omega))
  replace fa12 := fa12.sm (fun a h1 h2 => hs a (by omega))
  replace hac := fun (a : Nat) (h : a < 144) => (hac a h).tr (hs a (by omega))
  replace ow := ow.sm (hs 144 (by omega))
  replace hT : T27.1 = 158 := by omega
  clear hT1 hs
  refine n_putR (v := 157) dX12_init_122 fp_X12_53 (Or.inr ⟨rfl, rfl⟩) rfl rfl (by omega) ow (fun T28 hN2 hs ow1 => ?_)
  replace hT := hN2.trans hT
  replace fa1 := fa1.sm (fun a h1 h2 => hs a (by omega))
  replace fa2 := fa2.sm (fun a h1 h2 => hs a (by omega))
  replace fa3 := fa3.sm (fun a h1 h2 => hs a (by omega))
  replace fa4 := fa4.sm (fun a h1 h2 => hs a (by omega))
  replace fa5 := fa5.sm (fun a h1 h2 => hs a (by omega))
  replace fa6 := fa6.sm (fun a h1 h2 => hs a (by omega))
  replace fa7 := fa7.sm (fun a h1 h2 => hs a (by omega))
  replace fa8 := fa8.sm (fun a h1 h2 => hs a (by omega))
  replace fa9 := fa9.sm (fun a h1 h2 => hs a (by omega))
  replace fa10 := fa10.sm (fun a h1 h2 => hs a (by omega))
  replace fa11 := fa11.sm (fun a h1 h2 => hs a (by omega))
  replace fa12 := fa12.sm (fun a h1 h2 => hs a (by omega))
  replace fa13 := fa13.sm (fun a h1 h2 => hs a (by omega))
  replace hac := fun (a : Nat) (h : a < 144) => (hac a h).tr (hs a (by omega))
  replace ow := ow1
  clear ow1 hs
  clear hN2
  refine s_aload_n (i := 0) dX12_init_125 rfl rfl ?_
  refine s_bipush (v := 24) dX12_init_126 (by decide) ?_
  refine s_kn (k' := (k + 3) + 1) (n' := (n + 1400) + 24) (by omega) (by omega) ?_
  refine n_newI (N := 158) (len := 24) hT dX12_init_128 (by decide) (by decide) (by decide) (fun T29 I29 J29 hT1 hs fa14 => ?_)
  replace fa1 := fa1.sm (fun a h1 h2 => hs a (by omega))
  replace fa2 := fa2.sm (fun a h1 h2 => hs a (by omega))
  replace fa3 := fa3.sm (fun a h1 h2 => hs a (by omega))
  replace fa4 := fa4.sm (fun a h1 h2 => hs a (by omega))
  replace fa5 := fa5.sm (fun a h1 h2 => hs a (by omega))
  replace fa6 := fa6.sm (fun a h1 h2 => hs a (by omega))
  replace fa7 := fa7.sm (fun a h1 h2 => hs a (by omega))
  replace fa8 := fa8.sm (fun a h1 h2 => hs a (by omega))
  replace fa9 := fa9.sm (fun a h1 h2 => hs a (by omega))
  replace fa10 := fa10.sm (fun a h1 h2 => hs a (by omega))
  replace fa11 := fa11.sm (fun a h1 h2 => hs a (by omega))
  replace fa12 := fa12.sm (fun a h1 h2 => hs a (by omega))
  replace fa13 := fa13.sm (fun a h1 h2 => hs a (by omega))
  replace hac := fun (a : Nat) (h : a < 144) => (hac a h).tr (hs a (by omega))
  replace ow := ow.sm (hs 144 (by omega))
  replace hT : T29.1 = 159 := by omega
  clear hT1 hs
  refine n_putR (v := 158) dX12_init_130 fp_X12_56 (Or.inr ⟨rfl, rfl⟩) rfl rfl (by omega) ow (fun T30 hN2 hs ow1 => ?_)
  replace hT := hN2.trans hT
  replace fa1 := fa1.sm (fun a h1 h2 => hs a (by omega))
  replace fa2 := fa2.sm (fun a h1 h2 => hs a (by omega))
  replace fa3 := fa3.sm (fun a h1 h2 => hs a (by omega))
  replace fa4 := fa4.sm (fun a h1 h2 => hs a (by omega))
  replace fa5 := fa5.sm (fun a h1 h2 => hs a (by omega))
  replace fa6 := fa6.sm (fun a h1 h2 => hs a (by omega))
  replace fa7 := fa7.sm (fun a h1 h2 => hs a (by omega))
  replace fa8 := fa8.sm (fun a h1 h2 => hs a (by omega))
  replace fa9 := fa9.sm (fun a h1 h2 => hs a (by omega))
  replace fa10 := fa10.sm (fun a h1 h2 => hs a (by omega))
  replace fa11 := fa11.sm (fun a h1 h2 => hs a (by omega))
  replace fa12 := fa12.sm (fun a h1 h2 => hs a (by omega))
  replace fa13 := fa13.sm (fun a h1 h2 => hs a (by omega))
  replace fa14 := fa14.sm (fun a h1 h2 => hs a (by omega))
  replace hac := fun (a : Nat) (h : a < 144) => (hac a h).tr (hs a (by omega))
  replace ow := ow1
  clear ow1 hs
  clear hN2
  refine s_aload_n (i := 0) dX12_init_133 rfl rfl ?_
  refine s_sipush (v := 1200) dX12_init_134 (by decide) ?_
  refine s_kn (k' := (k + 2) + 1) (n' := (n + 200) + 1200) (by omega) (by omega) ?_
  refine n_newI (N := 159) (len := 1200) hT dX12_init_137 (by decide) (by decide) (by decide) (fun T31 I31 J31 hT1 hs fa15 => ?_)
  replace fa1 := fa1.sm (fun a h1 h2 => hs a (by omega))
  replace fa2 := fa2.sm (fun a h1 h2 => hs a (by omega))
  replace fa3 := fa3.sm (fun a h1 h2 => hs a (by omega))
  replace fa4 := fa4.sm (fun a h1 h2 => hs a (by omega))
  replace fa5 := fa5.sm (fun a h1 h2 => hs a (by omega))
  replace fa6 := fa6.sm (fun a h1 h2 => hs a (by omega))
  replace fa7 := fa7.sm (fun a h1 h2 => hs a (by omega))
  replace fa8 := fa8.sm (fun a h1 h2 => hs a (by omega))
  replace fa9 := fa9.sm (fun a h1 h2 => hs a (by omega))
  replace fa10 := fa10.sm (fun a h1 h2 => hs a (by omega))
  replace fa11 := fa11.sm (fun a h1 h2 => hs a (by omega))
  replace fa12 := fa12.sm (fun a h1 h2 => hs a (by omega))
  replace fa13 := fa13.sm (fun a h1 h2 => hs a (by omega))
  replace fa14 := fa14.sm (fun a h1 h2 => hs a (by omega))
  replace hac := fun (a : Nat) (h : a < 144) => (hac a h).tr (hs a (by omega))
  replace ow := ow.sm (hs 144 (by omega))
  replace hT : T31.1 = 160 := by omega
  clear hT1 hs
  refine n_putR (v := 159) dX12_init_139 fp_X12_59 (Or.inr ⟨rfl, rfl⟩) rfl rfl (by omega) ow (fun T32 hN2 hs ow1 => ?_)
  replace hT := hN2.trans hT
  replace fa1 := fa1.sm (fun a h1 h2 => hs a (by omega))
  replace fa2 := fa2.sm (fun a h1 h2 => hs a (by omega))
  replace fa3 := fa3.sm (fun a h1 h2 => hs a (by omega))
  replace fa4 := fa4.sm (fun a h1 h2 => hs a (by omega))
  replace fa5 := fa5.sm (fun a h1 h2 => hs a (by omega))
  replace fa6 := fa6.sm (fun a h1 h2 => hs a (by omega))
  replace fa7 := fa7.sm (fun a h1 h2 => hs a (by omega))
  replace fa8 := fa8.sm (fun a h1 h2 => hs a (by omega))
  replace fa9 := fa9.sm (fun a h1 h2 => hs a (by omega))
  replace fa10 := fa10.sm (fun a h1 h2 => hs a (by omega))
  replace fa11 := fa11.sm (fun a h1 h2 => hs a (by omega))
  replace fa12 := fa12.sm (fun a h1 h2 => hs a (by omega))
  replace fa13 := fa13.sm (fun a h1 h2 => hs a (by omega))
  replace fa14 := fa14.sm (fun a h1 h2 => hs a (by omega))
  replace fa15 := fa15.sm (fun a h1 h2 => hs a (by omega))
  replace hac := fun (a : Nat) (h : a < 144) => (hac a h).tr (hs a (by omega))
  replace ow := ow1
  clear ow1 hs
  clear hN2
  refine s_aload_n (i := 0) dX12_init_142 rfl rfl ?_
  refine s_bipush (v := 100) dX12_init_143 (by decide) ?_
  refine s_kn (k' := (k + 1) + 1) (n' := (n + 100) + 100) (by omega) (by omega) ?_
  refine n_newI (N := 160) (len := 100) hT dX12_init_145 (by decide) (by decide) (by decide) (fun T33 I33 J33 hT1 hs fa16 => ?_)
  replace fa1 := fa1.sm (fun a h1 h2 => hs a (by omega))
  replace fa2 := fa2.sm (fun a h1 h2 => hs a (by omega))
  replace fa3 := fa3.sm (fun a h1 h2 => hs a (by omega))
  replace fa4 := fa4.sm (fun a h1 h2 => hs a (by omega))
  replace fa5 := fa5.sm (fun a h1 h2 => hs a (by omega))
  replace fa6 := fa6.sm (fun a h1 h2 => hs a (by omega))
  replace fa7 := fa7.sm (fun a h1 h2 => hs a (by omega))
  replace fa8 := fa8.sm (fun a h1 h2 => hs a (by omega))
  replace fa9 := fa9.sm (fun a h1 h2 => hs a (by omega))
  replace fa10 := fa10.sm (fun a h1 h2 => hs a (by omega))
  replace fa11 := fa11.sm (fun a h1 h2 => hs a (by omega))
  replace fa12 := fa12.sm (fun a h1 h2 => hs a (by omega))
  replace fa13 := fa13.sm (fun a h1 h2 => hs a (by omega))
  replace fa14 := fa14.sm (fun a h1 h2 => hs a (by omega))
  replace fa15 := fa15.sm (fun a h1 h2 => hs a (by omega))
  replace hac := fun (a : Nat) (h : a < 144) => (hac a h).tr (hs a (by omega))
  replace ow := ow.sm (hs 144 (by omega))
  replace hT : T33.1 = 161 := by omega
  clear hT1 hs
  refine n_putR (v := 160) dX12_init_147 fp_X12_62 (Or.inr ⟨rfl, rfl⟩) rfl rfl (by omega) ow (fun T34 hN2 hs ow1 => ?_)
  replace hT := hN2.trans hT
  replace fa1 := fa1.sm (fun a h1 h2 => hs a (by omega))
  replace fa2 := fa2.sm (fun a h1 h2 => hs a (by omega))
  replace fa3 := fa3.sm (fun a h1 h2 => hs a (by omega))
  replace fa4 := fa4.sm (fun a h1 h2 => hs a (by omega))
  replace fa5 := fa5.sm (fun a h1 h2 => hs a (by omega))
  replace fa6 := fa6.sm (fun a h1 h2 => hs a (by omega))
  replace fa7 := fa7.sm (fun a h1 h2 => hs a (by omega))
  replace fa8 := fa8.sm (fun a h1 h2 => hs a (by omega))
  replace fa9 := fa9.sm (fun a h1 h2 => hs a (by omega))
  replace fa10 := fa10.sm (fun a h1 h2 => hs a (by omega))
  replace fa11 := fa11.sm (fun a h1 h2 => hs a (by omega))
  replace fa12 := fa12.sm (fun a h1 h2 => hs a (by omega))
  replace fa13 := fa13.sm (fun a h1 h2 => hs a (by omega))
  replace fa14 := fa14.sm (fun a h1 h2 => hs a (by omega))
  replace fa15 := fa15.sm (fun a h1 h2 => hs a (by omega))
  replace fa16 := fa16.sm (fun a h1 h2 => hs a (by omega))
  replace hac := fun (a : Nat) (h : a < 144) => (hac a h).tr (hs a (by omega))
  replace ow := ow1
  clear ow1 hs
  clear hN2
  refine s_aload_n (i := 0) dX12_init_150 rfl rfl ?_
  refine s_bipush (v := 100) dX12_init_151 (by decide) ?_
  refine s_kn (k' := (k + 0) + 1) (n' := (n + 0) + 100) (by omega) (by omega) ?_
  refine n_newI (N := 161) (len := 100) hT dX12_init_153 (by decide) (by decide) (by decide) (fun T35 I35 J35 hT1 hs fa17 => ?_)
  replace fa1 := fa1.sm (fun a h1 h2 => hs a (by omega))
  replace fa2 := fa2.sm (fun a h1 h2 => hs a (by omega))
  replace fa3 := fa3.sm (fun a h1 h2 => hs a (by omega))
  replace fa4 := fa4.sm (fun a h1 h2 => hs a (by omega))
  replace fa5 := fa5.sm (fun a h1 h2 => hs a (by omega))
  replace fa6 := fa6.sm (fun a h1 h2 => hs a (by omega))
  replace fa7 := fa7.sm (fun a h1 h2 => hs a (by omega))
  replace fa8 := fa8.sm (fun a h1 h2 => hs a (by omega))
  replace fa9 := fa9.sm (fun a h1 h2 => hs a (by omega))
  replace fa10 := fa10.sm (fun a h1 h2 => hs a (by omega))
  replace fa11 := fa11.sm (fun a h1 h2 => hs a (by omega))
  replace fa12 := fa12.sm (fun a h1 h2 => hs a (by omega))
  replace fa13 := fa13.sm (fun a h1 h2 => hs a (by omega))
  replace fa14 := fa14.sm (fun a h1 h2 => hs a (by omega))
  replace fa15 := fa15.sm (fun a h1 h2 => hs a (by omega))
  replace fa16 := fa16.sm (fun a h1 h2 => hs a (by omega))
  replace hac := fun (a : Nat) (h : a < 144) => (hac a h).tr (hs a (by omega))
  replace ow := ow.sm (hs 144 (by omega))
  replace hT : T35.1 = 162 := by omega
  clear hT1 hs
  refine n_putR (v := 161) dX12_init_155 fp_X12_65 (Or.inr ⟨rfl, rfl⟩) rfl rfl (by omega) ow (fun T36 hN2 hs ow1 => ?_)
  replace hT := hN2.trans hT
  replace fa1 := fa1.sm (fun a h1 h2 => hs a (by omega))
  replace fa2 := fa2.sm (fun a h1 h2 => hs a (by omega))
  replace fa3 := fa3.sm (fun a h1 h2 => hs a (by omega))
  replace fa4 := fa4.sm (fun a h1 h2 => hs a (by omega))
  replace fa5 := fa5.sm (fun a h1 h2 => hs a (by omega))
  replace fa6 := fa6.sm (fun a h1 h2 => hs a (by omega))
  replace fa7 := fa7.sm (fun a h1 h2 => hs a (by omega))
  replace fa8 := fa8.sm (fun a h1 h2 => hs a (by omega))
  replace fa9 := fa9.sm (fun a h1 h2 => hs a (by omega))
  replace fa10 := fa10.sm (fun a h1 h2 => hs a (by omega))
  replace fa11 := fa11.sm (fun a h1 h2 => hs a (by omega))
  replace fa12 := fa12.sm (fun a h1 h2 => hs a (by omega))
  replace fa13 := fa13.sm (fun a h1 h2 => hs a (by omega))
  replace fa14 := fa14.sm (fun a h1 h2 => hs a (by omega))
  replace fa15 := fa15.sm (fun a h1 h2 => hs a (by omega))
  replace fa16 := fa16.sm (fun a h1 h2 => hs a (by omega))
  replace fa17 := fa17.sm (fun a h1 h2 => hs a (by omega))
  replace hac := fun (a : Nat) (h : a < 144) => (hac a h).tr (hs a (by omega))
  replace ow := ow1
  clear ow1 hs
  clear hN2
  refine s_ret dX12_init_158 rfl ?_
  exact hq T36 I35 J35 hT hac ⟨ow, fa1, fa2, fa3, fa4, fa5, fa6, fa7, fa8, fa9, fa10, fa11, fa12, fa13, fa14, fa15, fa16, fa17⟩
/-! the start -/
def S0 : ASt := (fun _ => L0, [], ([], 0, 0), (fun _ => 0, 0), none)
theorem S0_ok : SOk S0 := ⟨fun _ _ => LOk.zero, fun e he => absurd he List.not_mem_nil, ⟨List.nodup_nil, fun e he => absurd he List.not_mem_nil, by show (0 : Nat) < 100000; omega, by show (0 : Nat) < 100000; omega⟩, fun q h => absurd h (Nat.not_lt_zero q), Nat.zero_le _, fun r h => by cases h⟩
theorem z32 : ((0 : Int32)).toInt = 0 := by decide
theorem RowN.at {T : fT} {I : fI} {b cap : Nat} (h : RowN T I b cap) (hb : b + 1 < T.1) (hc : cap < 100000) : RowAt T b cap := ⟨by omega, hb, h.1.1, h.2.1, by rw [h.1.2.2.1]; rfl, h.2.2.1, hc⟩
theorem RowN.is {T : fT} {I : fI} {b cap : Nat} (h : RowN T I b cap) (hb : b + 1 < T.1) (hc : cap < 100000) (g : Nat → Int) : RowIs T I b cap g 0 := ⟨h.at hb hc, Nat.zero_le _, by rw [h.1.2.2.2]; exact z32, fun k hk => absurd hk (Nat.not_lt_zero k)⟩
theorem CutN.at {T : fT} {I : fI} {b : Nat} (h : CutN T I b) (hb : b + 3 < T.1) : CutAt T b := ⟨by omega, h.1.1, by rw [h.1.2.2.1]; rfl, by rw [h.1.2.2.1]; rfl, hb, h.2.2.1, h.2.2.2.1, h.2.1.at (by omega) (by omega)⟩
theorem CutN.is {T : fT} {I : fI} {b : Nat} (h : CutN T I b) (hb : b + 3 < T.1) : CutL T I b L0 := ⟨h.at hb, h.2.1.is (by omega) (by omega) _, Nat.zero_le _, by rw [h.1.2.2.2]; exact z32, fun j hj => absurd hj (Nat.not_lt_zero j)⟩
theorem WinN.at {T : fT} {I : fI} {b : Nat} {x : Int32} (h : WinN T I b x) (hb : b + 2 < T.1) : WinAt T b := ⟨hb, h.1.1, by rw [h.1.2.2.1]; rfl, by rw [h.1.2.2.1]; rfl, h.2.1.1, h.2.1.2.1, h.2.2.1, h.2.2.2.1⟩
theorem PlN.cls {T : fT} {I : fI} (h : PlN T I) (hT : 162 ≤ T.1) : ClsIs T I S0 := by
  obtain ⟨p0, p1, ⟨his, cac, tx, vi, pac, gl, nr, ex⟩, cs⟩ := h
  have r40 := tx.at (by omega) (by omega)
  have o0 : ∀ j, T.2.2.2 0 j = _ := p0.2.2.1
  refine ⟨⟨⟨hT, p0.1, ?_, ?_, ?_, ?_, ?_, ?_, ?_, ?_, ?_⟩, ⟨by omega, p1.1, p1.2.1, fun i hi => ⟨?_, (cs i hi).at (by omega)⟩⟩, r40, ⟨by omega, vi.1.1, ?_, by omega, vi.2.1, vi.2.2.1⟩, ⟨by omega, pac.1.1, ?_, ?_, ?_, pac.2.1.1, pac.2.1.2.1, pac.2.2.1.1, pac.2.2.1.2.1, pac.2.2.2.1.1, pac.2.2.2.1.2.1, fun i hi => ⟨?_, (pac.2.2.2.2 i hi).at (by omega)⟩⟩, ⟨by omega, gl.1⟩, ⟨by omega, nr.1.1, ?_, nr.2.at (by omega) (by omega), r40⟩, ⟨by omega, ex.1.1, ?_, ?_, ex.2.1.at (by omega) (by omega), ex.2.2.at (by omega) (by omega), r40⟩⟩, fun i hi => (cs i hi).is (by omega), ⟨⟨by omega, his.1.1, ?_, ?_, his.2.1.1, his.2.1.2.1, his.2.2.1.1, his.2.2.1.2.1, fun i hi => ⟨?_, (his.2.2.2 i hi).at (by omega)⟩⟩, Nat.zero_le _, ?_, 0, by omega, ?_, fun q e h => by simp [S0] at h⟩, ⟨⟨by omega, cac.1.1, ?_, ?_, cac.2.1.1, cac.2.1.2.1, cac.2.2.1, cac.2.2.2.1⟩, Nat.zero_le _, ?_, ?_, ?_, fun q e h => by simp [S0] at h⟩, tx.is (by omega) (by omega) _, fun w hw => ?_, ?_⟩
  · rw [o0]; rfl
  · rw [o0]; rfl
  · rw [o0]; rfl
  · rw [o0]; rfl
  · rw [o0]; rfl
  · rw [o0]; rfl
  · rw [o0]; rfl
  · rw [o0]; rfl
  · rw [o0]; rfl
  · rw [p1.2.2.1]; unfold aR; rw [if_pos hi]
  · rw [vi.1.2.2.1]; rfl
  · rw [pac.1.2.2.1]; rfl
  · rw [pac.1.2.2.1]; rfl
  · rw [pac.1.2.2.1]; rfl
  · rw [pac.2.2.2.1.2.2.1]; unfold aR; rw [if_pos hi]
  · rw [nr.1.2.2.1]; rfl
  · rw [ex.1.2.2.1]; rfl
  · rw [ex.1.2.2.1]; rfl
  · rw [his.1.2.2.1]; rfl
  · rw [his.1.2.2.1]; rfl
  · rw [his.2.2.1.2.2.1]; unfold aR; rw [if_pos hi]
  · rw [his.1.2.2.2]; exact z32
  · rw [his.1.2.2.2]; exact z32
  · rw [cac.1.2.2.1]; rfl
  · rw [cac.1.2.2.1]; rfl
  · rw [cac.1.2.2.2]; exact z32
  · rw [cac.1.2.2.2]; exact z32
  · rw [cac.1.2.2.2]; exact z32
  · rw [(pac.2.2.2.2 w hw).1.2.2.2]
    show (zI (w : Int)).toInt = w
    exact zI_t (by omega) (by omega)
  · show T.2.2.2 0 9 = none
    rw [o0]; rfl
theorem MoN.mod {T : fT} {I : fI} (h : MoN T I) (hT : 162 ≤ T.1) : MIs T I S0 := by
  obtain ⟨ow, a145, a146, a147, a148, a149, a150, a151, a152, a153, a154, a155, a156, a157, a158, a159, a160, a161⟩ := h
  have o0 : ∀ j, T.2.2.2 144 j = _ := ow.2.2.1
  have v0 : ∀ j, I 144 j = _ := ow.2.2.2
  refine ⟨⟨hT, ow.1, fun e he => ?_⟩, fun i hi => ⟨?_, fun q h => absurd h (Nat.not_lt_zero q), ?_, fun q h => absurd h (Nat.not_lt_zero q)⟩, ⟨Nat.zero_le _, ?_, fun q h => absurd h (Nat.not_lt_zero q)⟩, ⟨Nat.zero_le _, ?_, ?_, ?_, fun q e h => by simp [S0] at h⟩, ⟨?_, fun q h => absurd h (Nat.not_lt_zero q)⟩, ⟨?_, ?_⟩⟩
  · simp only [mTab, List.mem_cons, List.not_mem_nil, or_false] at he
    rcases he with rfl | rfl | rfl | rfl | rfl | rfl | rfl | rfl | rfl | rfl | rfl | rfl | rfl | rfl | rfl | rfl | rfl
    · exact ⟨by rw [o0]; rfl, a145.1, a145.2.1⟩
    · exact ⟨by rw [o0]; rfl, a146.1, a146.2.1⟩
    · exact ⟨by rw [o0]; rfl, a147.1, a147.2.1⟩
    · exact ⟨by rw [o0]; rfl, a148.1, a148.2.1⟩
    · exact ⟨by rw [o0]; rfl, a149.1, a149.2.1⟩
    · exact ⟨by rw [o0]; rfl, a150.1, a150.2.1⟩
    · exact ⟨by rw [o0]; rfl, a151.1, a151.2.1⟩
    · exact ⟨by rw [o0]; rfl, a152.1, a152.2.1⟩
    · exact ⟨by rw [o0]; rfl, a153.1, a153.2.1⟩
    · exact ⟨by rw [o0]; rfl, a154.1, a154.2.1⟩
    · exact ⟨by rw [o0]; rfl, a155.1, a155.2.1⟩
    · exact ⟨by rw [o0]; rfl, a156.1, a156.2.1⟩
    · exact ⟨by rw [o0]; rfl, a157.1, a157.2.1⟩
    · exact ⟨by rw [o0]; rfl, a158.1, a158.2.1⟩
    · exact ⟨by rw [o0]; rfl, a159.1, a159.2.1⟩
    · exact ⟨by rw [o0]; rfl, a160.1, a160.2.1⟩
    · exact ⟨by rw [o0]; rfl, a161.1, a161.2.1⟩
  · rw [a145.2.2.2]; rfl
  · rw [a145.2.2.2]; rfl
  · rw [v0]; rfl
  · rw [v0]; rfl
  · rw [v0]; rfl
  · rw [v0]; rfl
  · rw [v0]; rfl
  · rw [v0]; exact zm1
  · rw [v0]; exact zm1
