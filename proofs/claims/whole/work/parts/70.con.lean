/-! cells made -/
def sm (T T' : fT) (I I' : fI) (a : Nat) : Prop := T'.2.1 a = T.2.1 a ∧ T'.2.2.1 a = T.2.2.1 a ∧ T'.2.2.2 a = T.2.2.2 a ∧ I' a = I a
theorem sm.rf (T : fT) (I : fI) (a : Nat) : sm T T I I a := ⟨rfl, rfl, rfl, rfl⟩
theorem sm.tr {T T1 T2 : fT} {I I1 I2 : fI} {a : Nat} (h : sm T T1 I I1 a) (h2 : sm T1 T2 I1 I2 a) : sm T T2 I I2 a := ⟨h2.1.trans h.1, h2.2.1.trans h.2.1, h2.2.2.1.trans h.2.2.1, h2.2.2.2.trans h.2.2.2⟩
def nR : Nat → Option Nat := fun _ => none
def zV : Nat → Int32 := fun _ => 0
def sR (j v : Nat) (R : Nat → Option Nat) : Nat → Option Nat := fun q => if q = j then some v else R q
def sV (j : Nat) (v : Int32) (V : Nat → Int32) : Nat → Int32 := fun q => if q = j then v else V q
/-- a cell as it is -/
def Own (T : fT) (I : fI) (a kd len : Nat) (R : Nat → Option Nat) (V : Nat → Int32) : Prop := T.2.1 a = kd ∧ T.2.2.1 a = len ∧ (∀ j, T.2.2.2 a j = R j) ∧ ∀ j, I a j = V j
def OwnA (T : fT) (I : fI) (a kd len : Nat) (R : Nat → Option Nat) (V : Nat → Int32) : Prop := Own T I a kd len R V
theorem Own.sm {T T' : fT} {I I' : fI} {a kd len : Nat} {R : Nat → Option Nat} {V : Nat → Int32} (h : Own T I a kd len R V) (hs : sm T T' I I' a) : Own T' I' a kd len R V := ⟨hs.1.trans h.1, hs.2.1.trans h.2.1, fun j => by rw [hs.2.2.1]; exact h.2.2.1 j, fun j => by rw [hs.2.2.2]; exact h.2.2.2 j⟩
theorem OwnA.sm {T T' : fT} {I I' : fI} {b kd len : Nat} {R : Nat → Option Nat} {V : Nat → Int32} (h : OwnA T I b kd len R V) (hs : ∀ a, b ≤ a → a < b + 1 → sm T T' I I' a) : OwnA T' I' b kd len R V := Own.sm h (hs b (Nat.le_refl _) (by omega))
section
variable {G : fG} {x0 : Nat} {l : Launch} {M : fM} {d : Nat} {Z : fZ} {k n pc : Nat} {lv : List (Nat × Value)} {st : List Value} {T : fT} {I : fI} {J : fJ}
theorem n_new {idx ci N S : Nat} {C : String} (hN : T.1 = N) (hd : decode M.2.1 pc = .ok (.new idx, 3)) (hcl : Cond.classLink M.1.cls idx C ∈ WL) (hcf : cf ci S C) (kk : ∀ (T' : fT) (I' : fI) (J' : fJ), T'.1 = N + 1 → (∀ a, a < N → sm T T' I I' a) → Own T' I' N ci 0 nR zV → PW G x0 l M d Z k n (pc + 3) lv (.ref (x0 + N) :: st) T' I' J') : PW G x0 l M d Z (k + 1) (n + S) pc lv st T I J := by
  subst hN
  exact s_new hd hcl hcf (kk _ _ _ rfl (fun a ha => ⟨ku_ne (by omega), ku_ne (by omega), vz_ne (by omega), ia_ne (by omega)⟩) ⟨ku_eq, ku_eq, fun j => by show vz T.2.2.2 T.1 T.1 j = none; rw [vz_eq], fun j => by rw [ia_eq]; rfl⟩)
theorem n_newI {N len : Nat} {nn : Int32} (hN : T.1 = N) (hd : decode M.2.1 pc = .ok (.newarray .int, 2)) (hn : ¬ nn < 0) (hl : nn.toNatClampNeg = len) (hby : len * 4 ≤ 536870912) (kk : ∀ (T' : fT) (I' : fI) (J' : fJ), T'.1 = N + 1 → (∀ a, a < N → sm T T' I I' a) → OwnA T' I' N 13 len nR zV → PW G x0 l M d Z k n (pc + 2) lv (.ref (x0 + N) :: st) T' I' J') : PW G x0 l M d Z (k + 1) (n + len) pc lv (.int nn :: st) T I J := by
  subst hN
  exact s_newI hd hn hl hby (kk _ _ _ rfl (fun a ha => ⟨ku_ne (by omega), ku_ne (by omega), vz_ne (by omega), ia_ne (by omega)⟩) ⟨ku_eq, ku_eq, fun j => by show vz T.2.2.2 T.1 T.1 j = none; rw [vz_eq], fun j => by rw [ia_eq]; rfl⟩)
theorem n_newJ {N len : Nat} {nn : Int32} (hN : T.1 = N) (hd : decode M.2.1 pc = .ok (.newarray .long, 2)) (hn : ¬ nn < 0) (hl : nn.toNatClampNeg = len) (hby : len * 8 ≤ 536870912) (kk : ∀ (T' : fT) (I' : fI) (J' : fJ), T'.1 = N + 1 → (∀ a, a < N → sm T T' I I' a) → OwnA T' I' N 14 len nR zV → PW G x0 l M d Z k n (pc + 2) lv (.ref (x0 + N) :: st) T' I' J') : PW G x0 l M d Z (k + 1) (n + len) pc lv (.int nn :: st) T I J := by
  subst hN
  exact s_newJ hd hn hl hby (kk _ _ _ rfl (fun a ha => ⟨ku_ne (by omega), ku_ne (by omega), vz_ne (by omega), ia_ne (by omega)⟩) ⟨ku_eq, ku_eq, fun j => by show vz T.2.2.2 T.1 T.1 j = none; rw [vz_eq], fun j => by rw [ia_eq]; rfl⟩)
theorem n_newAC {idx N len : Nat} {nn : Int32} (hN : T.1 = N) (hd : decode M.2.1 pc = .ok (.anewarray idx, 3)) (hcl : Cond.classLink M.1.cls idx "PackedLists$CutList" ∈ WL) (hn : ¬ nn < 0) (hl : nn.toNatClampNeg = len) (hby : len * 4 ≤ 536870912) (kk : ∀ (T' : fT) (I' : fI) (J' : fJ), T'.1 = N + 1 → (∀ a, a < N → sm T T' I I' a) → OwnA T' I' N 15 len nR zV → PW G x0 l M d Z k n (pc + 3) lv (.ref (x0 + N) :: st) T' I' J') : PW G x0 l M d Z (k + 1) (n + len) pc lv (.int nn :: st) T I J := by
  subst hN
  exact s_newAC hd hcl hn hl hby (kk _ _ _ rfl (fun a ha => ⟨ku_ne (by omega), ku_ne (by omega), vz_ne (by omega), ia_ne (by omega)⟩) ⟨ku_eq, ku_eq, fun j => by show vz T.2.2.2 T.1 T.1 j = none; rw [vz_eq], fun j => by rw [ia_eq]; rfl⟩)
theorem n_newAW {idx N len : Nat} {nn : Int32} (hN : T.1 = N) (hd : decode M.2.1 pc = .ok (.anewarray idx, 3)) (hcl : Cond.classLink M.1.cls idx "PackedLists$Window" ∈ WL) (hn : ¬ nn < 0) (hl : nn.toNatClampNeg = len) (hby : len * 4 ≤ 536870912) (kk : ∀ (T' : fT) (I' : fI) (J' : fJ), T'.1 = N + 1 → (∀ a, a < N → sm T T' I I' a) → OwnA T' I' N 16 len nR zV → PW G x0 l M d Z k n (pc + 3) lv (.ref (x0 + N) :: st) T' I' J') : PW G x0 l M d Z (k + 1) (n + len) pc lv (.int nn :: st) T I J := by
  subst hN
  exact s_newAW hd hcl hn hl hby (kk _ _ _ rfl (fun a ha => ⟨ku_ne (by omega), ku_ne (by omega), vz_ne (by omega), ia_ne (by omega)⟩) ⟨ku_eq, ku_eq, fun j => by show vz T.2.2.2 T.1 T.1 j = none; rw [vz_eq], fun j => by rw [ia_eq]; rfl⟩)
theorem n_putR {idx ci len j a v : Nat} {ty : FieldType} {fin : Bool} {R : Nat → Option Nat} {V : Nat → Int32} (hd : decode M.2.1 pc = .ok (.putfield idx, 3)) (hf : fp M.1.cls idx ci j 1 ty fin) (hfin : fin = false ∨ (M.1.name = "<init>" ∧ (vwCl[ci]?.map (fun q => q.1)) = some M.1.cls)) (hty : narrow ty (.ref (x0 + v)) = .ref (x0 + v)) (hft : fits ty (.ref (x0 + v)) = true) (ha : a < T.1) (ho : Own T I a ci len R V) (kk : ∀ T' : fT, T'.1 = T.1 → (∀ b, b ≠ a → sm T T' I I b) → Own T' I a ci len (sR j v R) V → PW G x0 l M d Z k n (pc + 3) lv st T' I J) : PW G x0 l M d Z k n pc lv (.ref (x0 + v) :: .ref (x0 + a) :: st) T I J :=
  s_putR hd hf hfin hty hft ha ho.1 (kk _ rfl (fun b hb => ⟨rfl, rfl, vu_ne hb, rfl⟩) ⟨ho.1, ho.2.1, fun q => by
    show vu T.2.2.2 a j (some v) a q = sR j v R q
    unfold vu sR
    rw [if_pos rfl]
    split
    · rfl
    · exact ho.2.2.1 q, ho.2.2.2⟩)
theorem iu_own {T : fT} {I : fI} {a kd len j : Nat} {R : Nat → Option Nat} {V : Nat → Int32} {v : Int32} (ho : Own T I a kd len R V) : Own T (iu I a j v) a kd len R (sV j v V) := ⟨ho.1, ho.2.1, ho.2.2.1, fun q => by
  unfold iu sV
  rw [if_pos rfl]
  split
  · rfl
  · exact ho.2.2.2 q⟩
theorem n_putI {idx ci len j a : Nat} {x : Int32} {R : Nat → Option Nat} {V : Nat → Int32} (hd : decode M.2.1 pc = .ok (.putfield idx, 3)) (hf : fp M.1.cls idx ci j 0 .int false) (ha : a < T.1) (ho : Own T I a ci len R V) (kk : ∀ I' : fI, (∀ b, b ≠ a → sm T T I I' b) → Own T I' a ci len R (sV j x V) → PW G x0 l M d Z k n (pc + 3) lv st T I' J) : PW G x0 l M d Z k n pc lv (.int x :: .ref (x0 + a) :: st) T I J :=
  s_putI hd hf ha ho.1 (kk _ (fun b hb => ⟨rfl, rfl, rfl, iu_ne hb⟩) (iu_own ho))
theorem n_putIF {idx ci len j a : Nat} {x : Int32} {R : Nat → Option Nat} {V : Nat → Int32} (hd : decode M.2.1 pc = .ok (.putfield idx, 3)) (hf : fp M.1.cls idx ci j 0 .int true) (hfin : M.1.name = "<init>" ∧ (vwCl[ci]?.map (fun q => q.1)) = some M.1.cls) (ha : a < T.1) (ho : Own T I a ci len R V) (kk : ∀ I' : fI, (∀ b, b ≠ a → sm T T I I' b) → Own T I' a ci len R (sV j x V) → PW G x0 l M d Z k n (pc + 3) lv st T I' J) : PW G x0 l M d Z k n pc lv (.int x :: .ref (x0 + a) :: st) T I J :=
  s_putFI hd hf hfin ha ho.1 (kk _ (fun b hb => ⟨rfl, rfl, rfl, iu_ne hb⟩) (iu_own ho))
theorem n_astC {a v i len : Nat} {x : Int32} {R : Nat → Option Nat} {V : Nat → Int32} (hd : decode M.2.1 pc = .ok (.aastore, 1)) (ha : a < T.1) (ho : Own T I a 15 len R V) (hva : v < T.1) (hkv : T.2.1 v = 2) (hx : x = zI (i : Int)) (hi : i < len) (hl : len ≤ 1000) (kk : ∀ T' : fT, T'.1 = T.1 → (∀ b, b ≠ a → sm T T' I I b) → Own T' I a 15 len (sR i v R) V → PW G x0 l M d Z k n (pc + 1) lv st T' I J) : PW G x0 l M d Z k n pc lv (.ref (x0 + v) :: .int x :: .ref (x0 + a) :: st) T I J := by
  subst hx
  refine s_astC hd ha ho.1 hva hkv (by rw [ho.2.1]; exact z_in (by omega) (by omega) (by omega)) ?_
  rw [zI_n (by omega) (by omega), Int.toNat_natCast]
  exact kk _ rfl (fun b hb => ⟨rfl, rfl, vu_ne hb, rfl⟩) ⟨ho.1, ho.2.1, fun q => by
    show vu T.2.2.2 a i (some v) a q = sR i v R q
    unfold vu sR
    rw [if_pos rfl]
    split
    · rfl
    · exact ho.2.2.1 q, ho.2.2.2⟩
theorem n_astW {a v i len : Nat} {x : Int32} {R : Nat → Option Nat} {V : Nat → Int32} (hd : decode M.2.1 pc = .ok (.aastore, 1)) (ha : a < T.1) (ho : Own T I a 16 len R V) (hva : v < T.1) (hkv : T.2.1 v = 10) (hx : x = zI (i : Int)) (hi : i < len) (hl : len ≤ 1000) (kk : ∀ T' : fT, T'.1 = T.1 → (∀ b, b ≠ a → sm T T' I I b) → Own T' I a 16 len (sR i v R) V → PW G x0 l M d Z k n (pc + 1) lv st T' I J) : PW G x0 l M d Z k n pc lv (.ref (x0 + v) :: .int x :: .ref (x0 + a) :: st) T I J := by
  subst hx
  refine s_astW hd ha ho.1 hva hkv (by rw [ho.2.1]; exact z_in (by omega) (by omega) (by omega)) ?_
  rw [zI_n (by omega) (by omega), Int.toNat_natCast]
  exact kk _ rfl (fun b hb => ⟨rfl, rfl, vu_ne hb, rfl⟩) ⟨ho.1, ho.2.1, fun q => by
    show vu T.2.2.2 a i (some v) a q = sR i v R q
    unfold vu sR
    rw [if_pos rfl]
    split
    · rfl
    · exact ho.2.2.1 q, ho.2.2.2⟩
end
def RowN (T : fT) (I : fI) (b cap : Nat) : Prop := OwnA T I b 9 0 (sR 0 (b + 1) nR) zV ∧ OwnA T I (b + 1) 13 cap nR zV
theorem RowN.sm {T T' : fT} {I I' : fI} {b cap : Nat} (h : RowN T I b cap) (hs : ∀ a, b ≤ a → a < b + 2 → sm T T' I I' a) : RowN T' I' b cap := ⟨h.1.sm (fun a h1 h2 => hs a (by omega) (by omega)), h.2.sm (fun a h1 h2 => hs a (by omega) (by omega))⟩
def GalN (T : fT) (I : fI) (b : Nat) : Prop := OwnA T I b 4 0 nR zV
theorem GalN.sm {T T' : fT} {I I' : fI} {b : Nat} (h : GalN T I b) (hs : ∀ a, b ≤ a → a < b + 1 → sm T T' I I' a) : GalN T' I' b := OwnA.sm h (fun a h1 h2 => hs a (by omega) (by omega))
def CutN (T : fT) (I : fI) (b : Nat) : Prop := OwnA T I b 2 0 (sR 1 (b + 3) (sR 0 (b + 1) nR)) zV ∧ RowN T I (b + 1) 200 ∧ OwnA T I (b + 3) 13 200 nR zV
theorem CutN.sm {T T' : fT} {I I' : fI} {b : Nat} (h : CutN T I b) (hs : ∀ a, b ≤ a → a < b + 4 → sm T T' I I' a) : CutN T' I' b := ⟨h.1.sm (fun a h1 h2 => hs a (by omega) (by omega)), h.2.1.sm (fun a h1 h2 => hs a (by omega) (by omega)), h.2.2.sm (fun a h1 h2 => hs a (by omega) (by omega))⟩
def CacN (T : fT) (I : fI) (b : Nat) : Prop := OwnA T I b 1 0 (sR 1 (b + 2) (sR 0 (b + 1) nR)) zV ∧ OwnA T I (b + 1) 13 4 nR zV ∧ OwnA T I (b + 2) 13 4 nR zV
theorem CacN.sm {T T' : fT} {I I' : fI} {b : Nat} (h : CacN T I b) (hs : ∀ a, b ≤ a → a < b + 3 → sm T T' I I' a) : CacN T' I' b := ⟨h.1.sm (fun a h1 h2 => hs a (by omega) (by omega)), h.2.1.sm (fun a h1 h2 => hs a (by omega) (by omega)), h.2.2.sm (fun a h1 h2 => hs a (by omega) (by omega))⟩
def ViewN (T : fT) (I : fI) (b : Nat) : Prop := OwnA T I b 0 0 (sR 0 (b + 1) nR) zV ∧ OwnA T I (b + 1) 13 21 nR zV
theorem ViewN.sm {T T' : fT} {I I' : fI} {b : Nat} (h : ViewN T I b) (hs : ∀ a, b ≤ a → a < b + 2 → sm T T' I I' a) : ViewN T' I' b := ⟨h.1.sm (fun a h1 h2 => hs a (by omega) (by omega)), h.2.sm (fun a h1 h2 => hs a (by omega) (by omega))⟩
def NrN (T : fT) (I : fI) (b : Nat) : Prop := OwnA T I b 7 0 (sR 0 (b + 1) nR) zV ∧ RowN T I (b + 1) 200
theorem NrN.sm {T T' : fT} {I I' : fI} {b : Nat} (h : NrN T I b) (hs : ∀ a, b ≤ a → a < b + 3 → sm T T' I I' a) : NrN T' I' b := ⟨h.1.sm (fun a h1 h2 => hs a (by omega) (by omega)), h.2.sm (fun a h1 h2 => hs a (by omega) (by omega))⟩
def ExN (T : fT) (I : fI) (b : Nat) : Prop := OwnA T I b 3 0 (sR 1 (b + 3) (sR 0 (b + 1) nR)) zV ∧ RowN T I (b + 1) 100 ∧ RowN T I (b + 3) 100
theorem ExN.sm {T T' : fT} {I I' : fI} {b : Nat} (h : ExN T I b) (hs : ∀ a, b ≤ a → a < b + 5 → sm T T' I I' a) : ExN T' I' b := ⟨h.1.sm (fun a h1 h2 => hs a (by omega) (by omega)), h.2.1.sm (fun a h1 h2 => hs a (by omega) (by omega)), h.2.2.sm (fun a h1 h2 => hs a (by omega) (by omega))⟩
def WinN (T : fT) (I : fI) (b : Nat) (x : Int32) : Prop := OwnA T I b 10 0 (sR 2 (b + 2) (sR 1 (b + 1) nR)) (sV 0 x zV) ∧ OwnA T I (b + 1) 13 64 nR zV ∧ OwnA T I (b + 2) 13 64 nR zV
theorem WinN.sm {T T' : fT} {I I' : fI} {b : Nat} {x : Int32} (h : WinN T I b x) (hs : ∀ a, b ≤ a → a < b + 3 → sm T T' I I' a) : WinN T' I' b x := ⟨h.1.sm (fun a h1 h2 => hs a (by omega) (by omega)), h.2.1.sm (fun a h1 h2 => hs a (by omega) (by omega)), h.2.2.sm (fun a h1 h2 => hs a (by omega) (by omega))⟩
def JoiN (T : fT) (I : fI) (b : Nat) : Prop := OwnA T I b 6 0 (sR 7 (b + 12) (sR 6 (b + 11) (sR 5 (b + 9) (sR 4 (b + 7) (sR 3 (b + 6) (sR 2 (b + 4) (sR 1 (b + 2) (sR 0 (b + 1) nR)))))))) zV ∧ GalN T I (b + 1) ∧ RowN T I (b + 2) 1200 ∧ RowN T I (b + 4) 1200 ∧ OwnA T I (b + 6) 13 1200 nR zV ∧ RowN T I (b + 7) 1200 ∧ RowN T I (b + 9) 1200 ∧ OwnA T I (b + 11) 14 100 nR zV ∧ OwnA T I (b + 12) 13 6 nR zV
theorem JoiN.sm {T T' : fT} {I I' : fI} {b : Nat} (h : JoiN T I b) (hs : ∀ a, b ≤ a → a < b + 13 → sm T T' I I' a) : JoiN T' I' b := ⟨h.1.sm (fun a h1 h2 => hs a (by omega) (by omega)), h.2.1.sm (fun a h1 h2 => hs a (by omega) (by omega)), h.2.2.1.sm (fun a h1 h2 => hs a (by omega) (by omega)), h.2.2.2.1.sm (fun a h1 h2 => hs a (by omega) (by omega)), h.2.2.2.2.1.sm (fun a h1 h2 => hs a (by omega) (by omega)), h.2.2.2.2.2.1.sm (fun a h1 h2 => hs a (by omega) (by omega)), h.2.2.2.2.2.2.1.sm (fun a h1 h2 => hs a (by omega) (by omega)), h.2.2.2.2.2.2.2.1.sm (fun a h1 h2 => hs a (by omega) (by omega)), h.2.2.2.2.2.2.2.2.sm (fun a h1 h2 => hs a (by omega) (by omega))⟩
set_option maxRecDepth 100000 in
set_option maxHeartbeats 1000000 in
theorem i_Row {G : fG} {x0 : Nat} {l : Launch} {d k n : Nat} {T : fT} {I : fI} {J : fJ} {Q : Option Value → fT → fI → fJ → Prop} {b : Nat} {cap : Nat} {x : Int32} (hT : T.1 = b + 1) (hx : (¬ x < 0 ∧ x.toNatClampNeg = cap ∧ cap ≤ 100000)) (ow : Own T I b 9 0 nR zV) (hq : ∀ (T' : fT) (I' : fI) (J' : fJ), T'.1 = b + 2 → (∀ a, a < b → sm T T' I I' a) → RowN T' I' b cap → Q none T' I' J') : PW G x0 l mX9_init (d + 1) (ZM G x0 Q) (k + 1) (n + cap) 0 [(0, .ref (x0 + b)), (1, .int x)] [] T I J := by
  obtain ⟨x1, x2, x3⟩ := hx
  have hm : (if (0 : Int32) < x then x else 0) = x := by
    split
    · rfl
    · next h => exact (Int32.le_antisymm (Int32.not_lt.mp h) (Int32.not_lt.mp x1)).symm
  refine s_aload_n (i := 0) dX9_init_0 rfl rfl ?_
  refine s_objInit dX9_init_1 wM_X9_3 (Nat.le_of_ble_eq_true rfl) ?_
  refine s_aload_n (i := 0) dX9_init_4 rfl rfl ?_
  refine s_iconst (v := 0) dX9_init_5 (by decide) ?_
  refine s_iload_n (i := 1) dX9_init_6 rfl rfl ?_
  refine s_max dX9_init_7 wM_X9_9 (Nat.le_of_ble_eq_true rfl) ?_
  rw [hm]
  refine n_newI (N := b + 1) (len := cap) hT dX9_init_10 x1 x2 (by omega) (fun T1 I1 J1 hT1 hs fa => ?_)
  have ow1 := ow.sm (hs b (by omega))
  refine n_putR (v := b + 1) dX9_init_12 fp_X9_15 (Or.inr ⟨rfl, rfl⟩) rfl rfl (by omega) ow1 (fun T2 hN2 hs2 ow2 => ?_)
  refine s_ret dX9_init_15 rfl ?_
  exact hq T2 I1 J1 (by omega) (fun a h => (hs a (by omega)).tr (hs2 a (by omega))) ⟨ow2, fa.sm (fun a h1 h2 => hs2 a (by omega))⟩
set_option maxRecDepth 100000 in
set_option maxHeartbeats 1000000 in
theorem i_Gal {G : fG} {x0 : Nat} {l : Launch} {d k n : Nat} {T : fT} {I : fI} {J : fJ} {Q : Option Value → fT → fI → fJ → Prop} {b : Nat} (hT : T.1 = b + 1) (ow : Own T I b 4 0 nR zV) (hq : ∀ (T' : fT) (I' : fI) (J' : fJ), T'.1 = b + 1 → (∀ a, a < b → sm T T' I I' a) → GalN T' I' b → Q none T' I' J') : PW G x0 l mX4_init (d + 1) (ZM G x0 Q) (k + 0) (n + 0) 0 [(0, .ref (x0 + b))] [] T I J := by
  have hac : ∀ a, a < b → sm T T I I a := fun a _ => sm.rf T I a
  refine s_aload_n (i := 0) dX4_init_0 rfl rfl ?_
  refine s_objInit dX4_init_1 wM_X4_1 (Nat.le_of_ble_eq_true rfl) ?_
  refine s_ret dX4_init_4 rfl ?_
  exact hq T I J hT hac ow
set_option maxRecDepth 100000 in
set_option maxHeartbeats 1000000 in
theorem i_Cut {G : fG} {x0 : Nat} {l : Launch} {d k n : Nat} {T : fT} {I : fI} {J : fJ} {Q : Option Value → fT → fI → fJ → Prop} {b : Nat} (hT : T.1 = b + 1) (ow : Own T I b 2 0 nR zV) (hq : ∀ (T' : fT) (I' : fI) (J' : fJ), T'.1 = b + 4 → (∀ a, a < b → sm T T' I I' a) → CutN T' I' b → Q none T' I' J') : PW G x0 l mX2_init (d + 2) (ZM G x0 Q) (k + 3) (n + 402) 0 [(0, .ref (x0 + b))] [] T I J := by
  have hac : ∀ a, a < b → sm T T I I a := fun a _ => sm.rf T I a
  refine s_aload_n (i := 0) dX2_init_0 rfl rfl ?_
  refine s_objInit dX2_init_1 wM_X2_3 (Nat.le_of_ble_eq_true rfl) ?_
  refine s_aload_n (i := 0) dX2_init_4 rfl rfl ?_
  refine s_kn (k' := (k + 2) + 1) (n' := (n + 400) + 2) (by omega) (by omega) ?_
  refine n_new (N := b + 1) hT dX2_init_5 wL_X2_9 cf_X9 (fun T1 I1 J1 hT' hs oc => ?_)
  replace hac := fun (a : Nat) (h : a < b) => (hac a h).tr (hs a (by omega))
  replace ow := ow.sm (hs b (by omega))
  replace hT : T1.1 = b + 2 := by omega
  clear hT' hs
  refine s_dup dX2_init_8 rfl ?_
  refine s_sipush (v := 200) dX2_init_9 (by decide) ?_
  refine s_kn (k' := (k + 1) + 1) (n' := (n + 200) + 200) (by omega) (by omega) ?_
  refine s_cI_I (k' := 1) (n' := 200) (My := mX9_init) dX2_init_12 wM_X2_11 cb_yX9_init wI_yX9_init rfl rfl (Nat.le_of_ble_eq_true rfl) (by decide) (s_d (by omega) (s_kn (k' := 0 + 1) (n' := 0 + 200) (by omega) (by omega) (i_Row (d := 0) (cap := 200) (b := b + 1) (by omega) (by decide) oc (fun T2 I2 J2 hT1 hs fc1 => ?_))))
  replace hac := fun (a : Nat) (h : a < b) => (hac a h).tr (hs a (by omega))
  replace ow := ow.sm (hs b (by omega))
  replace hT : T2.1 = b + 3 := by omega
  clear hT1 hs oc
  refine n_putR (v := b + 1) dX2_init_15 fp_X2_14 (Or.inr ⟨rfl, rfl⟩) rfl rfl (by omega) ow (fun T3 hN2 hs ow1 => ?_)
  replace hT := hN2.trans hT
  replace fc1 := fc1.sm (fun a h1 h2 => hs a (by omega))
  replace hac := fun (a : Nat) (h : a < b) => (hac a h).tr (hs a (by omega))
  replace ow := ow1
  clear ow1 hs
  clear hN2
  refine s_aload_n (i := 0) dX2_init_18 rfl rfl ?_
  refine s_sipush (v := 200) dX2_init_19 (by decide) ?_
  refine s_kn (k' := (k + 0) + 1) (n' := (n + 0) + 200) (by omega) (by omega) ?_
  refine n_newI (N := b + 3) (len := 200) hT dX2_init_22 (by decide) (by decide) (by decide) (fun T4 I4 J4 hT1 hs fa3 => ?_)
  replace fc1 := fc1.sm (fun a h1 h2 => hs a (by omega))
  replace hac := fun (a : Nat) (h : a < b) => (hac a h).tr (hs a (by omega))
  replace ow := ow.sm (hs b (by omega))
  replace hT : T4.1 = b + 4 := by omega
  clear hT1 hs
  refine n_putR (v := b + 3) dX2_init_24 fp_X2_20 (Or.inr ⟨rfl, rfl⟩) rfl rfl (by omega) ow (fun T5 hN2 hs ow1 => ?_)
  replace hT := hN2.trans hT
  replace fc1 := fc1.sm (fun a h1 h2 => hs a (by omega))
  replace fa3 := fa3.sm (fun a h1 h2 => hs a (by omega))
  replace hac := fun (a : Nat) (h : a < b) => (hac a h).tr (hs a (by omega))
  replace ow := ow1
  clear ow1 hs
  clear hN2
  refine s_ret dX2_init_27 rfl ?_
  exact hq T5 I4 J4 hT hac ⟨ow, fc1, fa3⟩
set_option maxRecDepth 100000 in
set_option maxHeartbeats 1000000 in
theorem i_Cac {G : fG} {x0 : Nat} {l : Launch} {d k n : Nat} {T : fT} {I : fI} {J : fJ} {Q : Option Value → fT → fI → fJ → Prop} {b : Nat} (hT : T.1 = b + 1) (ow : Own T I b 1 0 nR zV) (hq : ∀ (T' : fT) (I' : fI) (J' : fJ), T'.1 = b + 3 → (∀ a, a < b → sm T T' I I' a) → CacN T' I' b → Q none T' I' J') : PW G x0 l mX1_init (d + 1) (ZM G x0 Q) (k + 2) (n + 8) 0 [(0, .ref (x0 + b))] [] T I J := by
  have hac : ∀ a, a < b → sm T T I I a := fun a _ => sm.rf T I a
  refine s_aload_n (i := 0) dX1_init_0 rfl rfl ?_
  refine s_objInit dX1_init_1 wM_X1_3 (Nat.le_of_ble_eq_true rfl) ?_
  refine s_aload_n (i := 0) dX1_init_4 rfl rfl ?_
  refine s_iconst (v := 4) dX1_init_5 (by decide) ?_
  refine s_kn (k' := (k + 1) + 1) (n' := (n + 4) + 4) (by omega) (by omega) ?_
  refine n_newI (N := b + 1) (len := 4) hT dX1_init_6 (by decide) (by decide) (by decide) (fun T1 I1 J1 hT1 hs fa1 => ?_)
  replace hac := fun (a : Nat) (h : a < b) => (hac a h).tr (hs a (by omega))
  replace ow := ow.sm (hs b (by omega))
  replace hT : T1.1 = b + 2 := by omega
  clear hT1 hs
  refine n_putR (v := b + 1) dX1_init_8 fp_X1_9 (Or.inr ⟨rfl, rfl⟩) rfl rfl (by omega) ow (fun T2 hN2 hs ow1 => ?_)
  replace hT := hN2.trans hT
  replace fa1 := fa1.sm (fun a h1 h2 => hs a (by omega))
  replace hac := fun (a : Nat) (h : a < b) => (hac a h).tr (hs a (by omega))
  replace ow := ow1
  clear ow1 hs
  clear hN2
  refine s_aload_n (i := 0) dX1_init_11 rfl rfl ?_
  refine s_iconst (v := 4) dX1_init_12 (by decide) ?_
  refine s_kn (k' := (k + 0) + 1) (n' := (n + 0) + 4) (by omega) (by omega) ?_
  refine n_newI (N := b + 2) (len := 4) hT dX1_init_13 (by decide) (by decide) (by decide) (fun T3 I3 J3 hT1 hs fa2 => ?_)
  replace fa1 := fa1.sm (fun a h1 h2 => hs a (by omega))
  replace hac := fun (a : Nat) (h : a < b) => (hac a h).tr (hs a (by omega))
  replace ow := ow.sm (hs b (by omega))
  replace hT : T3.1 = b + 3 := by omega
  clear hT1 hs
  refine n_putR (v := b + 2) dX1_init_15 fp_X1_15 (Or.inr ⟨rfl, rfl⟩) rfl rfl (by omega) ow (fun T4 hN2 hs ow1 => ?_)
  replace hT := hN2.trans hT
  replace fa1 := fa1.sm (fun a h1 h2 => hs a (by omega))
  replace fa2 := fa2.sm (fun a h1 h2 => hs a (by omega))
  replace hac := fun (a : Nat) (h : a < b) => (hac a h).tr (hs a (by omega))
  replace ow := ow1
  clear ow1 hs
  clear hN2
  refine s_ret dX1_init_18 rfl ?_
  exact hq T4 I3 J3 hT hac ⟨ow, fa1, fa2⟩
set_option maxRecDepth 100000 in
set_option maxHeartbeats 1000000 in
theorem i_View {G : fG} {x0 : Nat} {l : Launch} {d k n : Nat} {T : fT} {I : fI} {J : fJ} {Q : Option Value → fT → fI → fJ → Prop} {b : Nat} (hT : T.1 = b + 1) (ow : Own T I b 0 0 nR zV) (hq : ∀ (T' : fT) (I' : fI) (J' : fJ), T'.1 = b + 2 → (∀ a, a < b → sm T T' I I' a) → ViewN T' I' b → Q none T' I' J') : PW G x0 l mX0_init (d + 1) (ZM G x0 Q) (k + 1) (n + 21) 0 [(0, .ref (x0 + b))] [] T I J := by
  have hac : ∀ a, a < b → sm T T I I a := fun a _ => sm.rf T I a
  refine s_aload_n (i := 0) dX0_init_0 rfl rfl ?_
  refine s_objInit dX0_init_1 wM_X0_3 (Nat.le_of_ble_eq_true rfl) ?_
  refine s_aload_n (i := 0) dX0_init_4 rfl rfl ?_
  refine s_bipush (v := 21) dX0_init_5 (by decide) ?_
  refine s_kn (k' := (k + 0) + 1) (n' := (n + 0) + 21) (by omega) (by omega) ?_
  refine n_newI (N := b + 1) (len := 21) hT dX0_init_7 (by decide) (by decide) (by decide) (fun T1 I1 J1 hT1 hs fa1 => ?_)
  replace hac := fun (a : Nat) (h : a < b) => (hac a h).tr (hs a (by omega))
  replace ow := ow.sm (hs b (by omega))
  replace hT : T1.1 = b + 2 := by omega
  clear hT1 hs
  refine n_putR (v := b + 1) dX0_init_9 fp_X0_9 (Or.inr ⟨rfl, rfl⟩) rfl rfl (by omega) ow (fun T2 hN2 hs ow1 => ?_)
  replace hT := hN2.trans hT
  replace fa1 := fa1.sm (fun a h1 h2 => hs a (by omega))
  replace hac := fun (a : Nat) (h : a < b) => (hac a h).tr (hs a (by omega))
  replace ow := ow1
  clear ow1 hs
  clear hN2
  refine s_ret dX0_init_12 rfl ?_
  exact hq T2 I1 J1 hT hac ⟨ow, fa1⟩
set_option maxRecDepth 100000 in
set_option maxHeartbeats 1000000 in
theorem i_Nr {G : fG} {x0 : Nat} {l : Launch} {d k n : Nat} {T : fT} {I : fI} {J : fJ} {Q : Option Value → fT → fI → fJ → Prop} {b : Nat} (hT : T.1 = b + 1) (ow : Own T I b 7 0 nR zV) (hq : ∀ (T' : fT) (I' : fI) (J' : fJ), T'.1 = b + 3 → (∀ a, a < b → sm T T' I I' a) → NrN T' I' b → Q none T' I' J') : PW G x0 l mX7_init (d + 2) (ZM G x0 Q) (k + 2) (n + 202) 0 [(0, .ref (x0 + b))] [] T I J := by
  have hac : ∀ a, a < b → sm T T I I a := fun a _ => sm.rf T I a
  refine s_aload_n (i := 0) dX7_init_0 rfl rfl ?_
  refine s_objInit dX7_init_1 wM_X7_3 (Nat.le_of_ble_eq_true rfl) ?_
  refine s_aload_n (i := 0) dX7_init_4 rfl rfl ?_
  refine s_kn (k' := (k + 1) + 1) (n' := (n + 200) + 2) (by omega) (by omega) ?_
  refine n_new (N := b + 1) hT dX7_init_5 wL_X7_9 cf_X9 (fun T1 I1 J1 hT' hs oc => ?_)
  replace hac := fun (a : Nat) (h : a < b) => (hac a h).tr (hs a (by omega))
  replace ow := ow.sm (hs b (by omega))
  replace hT : T1.1 = b + 2 := by omega
  clear hT' hs
  refine s_dup dX7_init_8 rfl ?_
  refine s_sipush (v := 200) dX7_init_9 (by decide) ?_
  refine s_kn (k' := (k + 0) + 1) (n' := (n + 0) + 200) (by omega) (by omega) ?_
  refine s_cI_I (k' := 1) (n' := 200) (My := mX9_init) dX7_init_12 wM_X7_11 cb_yX9_init wI_yX9_init rfl rfl (Nat.le_of_ble_eq_true rfl) (by decide) (s_d (by omega) (s_kn (k' := 0 + 1) (n' := 0 + 200) (by omega) (by omega) (i_Row (d := 0) (cap := 200) (b := b + 1) (by omega) (by decide) oc (fun T2 I2 J2 hT1 hs fc1 => ?_))))
  replace hac := fun (a : Nat) (h : a < b) => (hac a h).tr (hs a (by omega))
  replace ow := ow.sm (hs b (by omega))
  replace hT : T2.1 = b + 3 := by omega
  clear hT1 hs oc
  refine n_putR (v := b + 1) dX7_init_15 fp_X7_14 (Or.inr ⟨rfl, rfl⟩) rfl rfl (by omega) ow (fun T3 hN2 hs ow1 => ?_)
  replace hT := hN2.trans hT
  replace fc1 := fc1.sm (fun a h1 h2 => hs a (by omega))
  replace hac := fun (a : Nat) (h : a < b) => (hac a h).tr (hs a (by omega))
  replace ow := ow1
  clear ow1 hs
  clear hN2
  refine s_ret dX7_init_18 rfl ?_
  exact hq T3 I2 J2 hT hac ⟨ow, fc1⟩
set_option maxRecDepth 100000 in
set_option maxHeartbeats 1000000 in
theorem i_Ex {G : fG} {x0 : Nat} {l : Launch} {d k n : Nat} {T : fT} {I : fI} {J : fJ} {Q : Option Value → fT → fI → fJ → Prop} {b : Nat} (hT : T.1 = b + 1) (ow : Own T I b 3 0 nR zV) (hq : ∀ (T' : fT) (I' : fI) (J' : fJ), T'.1 = b + 5 → (∀ a, a < b → sm T T' I I' a) → ExN T' I' b → Q none T' I' J') : PW G x0 l mX3_init (d + 2) (ZM G x0 Q) (k + 4) (n + 204) 0 [(0, .ref (x0 + b))] [] T I J := by
  have hac : ∀ a, a < b → sm T T I I a := fun a _ => sm.rf T I a
  refine s_aload_n (i := 0) dX3_init_0 rfl rfl ?_
  refine s_objInit dX3_init_1 wM_X3_3 (Nat.le_of_ble_eq_true rfl) ?_
  refine s_aload_n (i := 0) dX3_init_4 rfl rfl ?_
  refine s_kn (k' := (k + 3) + 1) (n' := (n + 202) + 2) (by omega) (by omega) ?_
  refine n_new (N := b + 1) hT dX3_init_5 wL_X3_9 cf_X9 (fun T1 I1 J1 hT' hs oc => ?_)
  replace hac := fun (a : Nat) (h : a < b) => (hac a h).tr (hs a (by omega))
  replace ow := ow.sm (hs b (by omega))
  replace hT : T1.1 = b + 2 := by omega
  clear hT' hs
  refine s_dup dX3_init_8 rfl ?_
  refine s_bipush (v := 100) dX3_init_9 (by decide) ?_
  refine s_kn (k' := (k + 2) + 1) (n' := (n + 102) + 100) (by omega) (by omega) ?_
  refine s_cI_I (k' := 1) (n' := 100) (My := mX9_init) dX3_init_11 wM_X3_11 cb_yX9_init wI_yX9_init rfl rfl (Nat.le_of_ble_eq_true rfl) (by decide) (s_d (by omega) (s_kn (k' := 0 + 1) (n' := 0 + 100) (by omega) (by omega) (i_Row (d := 0) (cap := 100) (b := b + 1) (by omega) (by decide) oc (fun T2 I2 J2 hT1 hs fc1 => ?_))))
  replace hac := fun (a : Nat) (h : a < b) => (hac a h).tr (hs a (by omega))
  replace ow := ow.sm (hs b (by omega))
  replace hT : T2.1 = b + 3 := by omega
  clear hT1 hs oc
  refine n_putR (v := b + 1) dX3_init_14 fp_X3_14 (Or.inr ⟨rfl, rfl⟩) rfl rfl (by omega) ow (fun T3 hN2 hs ow1 => ?_)
  replace hT := hN2.trans hT
  replace fc1 := fc1.sm (fun a h1 h2 => hs a (by omega))
  replace hac := fun (a : Nat) (h : a < b) => (hac a h).tr (hs a (by omega))
  replace ow := ow1
  clear ow1 hs
  clear hN2
  refine s_aload_n (i := 0) dX3_init_17 rfl rfl ?_
  refine s_kn (k' := (k + 1) + 1) (n' := (n + 100) + 2) (by omega) (by omega) ?_
  refine n_new (N := b + 3) hT dX3_init_18 wL_X3_9 cf_X9 (fun T4 I4 J4 hT' hs oc => ?_)
  replace fc1 := fc1.sm (fun a h1 h2 => hs a (by omega))
  replace hac := fun (a : Nat) (h : a < b) => (hac a h).tr (hs a (by omega))
  replace ow := ow.sm (hs b (by omega))
  replace hT : T4.1 = b + 4 := by omega
  clear hT' hs
  refine s_dup dX3_init_21 rfl ?_
  refine s_bipush (v := 100) dX3_init_22 (by decide) ?_
  refine s_kn (k' := (k + 0) + 1) (n' := (n + 0) + 100) (by omega) (by omega) ?_
  refine s_cI_I (k' := 1) (n' := 100) (My := mX9_init) dX3_init_24 wM_X3_11 cb_yX9_init wI_yX9_init rfl rfl (Nat.le_of_ble_eq_true rfl) (by decide) (s_d (by omega) (s_kn (k' := 0 + 1) (n' := 0 + 100) (by omega) (by omega) (i_Row (d := 0) (cap := 100) (b := b + 3) (by omega) (by decide) oc (fun T5 I5 J5 hT1 hs fc3 => ?_))))
  replace fc1 := fc1.sm (fun a h1 h2 => hs a (by omega))
  replace hac := fun (a : Nat) (h : a < b) => (hac a h).tr (hs a (by omega))
  replace ow := ow.sm (hs b (by omega))
  replace hT : T5.1 = b + 5 := by omega
  clear hT1 hs oc
  refine n_putR (v := b + 3) dX3_init_27 fp_X3_20 (Or.inr ⟨rfl, rfl⟩) rfl rfl (by omega) ow (fun T6 hN2 hs ow1 => ?_)
  replace hT := hN2.trans hT
  replace fc1 := fc1.sm (fun a h1 h2 => hs a (by omega))
  replace fc3 := fc3.sm (fun a h1 h2 => hs a (by omega))
  replace hac := fun (a : Nat) (h : a < b) => (hac a h).tr (hs a (by omega))
  replace ow := ow1
  clear ow1 hs
  clear hN2
  refine s_ret dX3_init_30 rfl ?_
  exact hq T6 I5 J5 hT hac ⟨ow, fc1, fc3⟩
set_option maxRecDepth 100000 in
set_option maxHeartbeats 1000000 in
theorem i_Win {G : fG} {x0 : Nat} {l : Launch} {d k n : Nat} {T : fT} {I : fI} {J : fJ} {Q : Option Value → fT → fI → fJ → Prop} {b : Nat} {x : Int32} (hT : T.1 = b + 1) (ow : Own T I b 10 0 nR zV) (hq : ∀ (T' : fT) (I' : fI) (J' : fJ), T'.1 = b + 3 → (∀ a, a < b → sm T T' I I' a) → WinN T' I' b x → Q none T' I' J') : PW G x0 l mX10_init (d + 1) (ZM G x0 Q) (k + 2) (n + 128) 0 [(0, .ref (x0 + b)), (1, .int x)] [] T I J := by
  have hac : ∀ a, a < b → sm T T I I a := fun a _ => sm.rf T I a
  refine s_aload_n (i := 0) dX10_init_0 rfl rfl ?_
  refine s_objInit dX10_init_1 wM_X10_3 (Nat.le_of_ble_eq_true rfl) ?_
  refine s_aload_n (i := 0) dX10_init_4 rfl rfl ?_
  refine s_bipush (v := 64) dX10_init_5 (by decide) ?_
  refine s_kn (k' := (k + 1) + 1) (n' := (n + 64) + 64) (by omega) (by omega) ?_
  refine n_newI (N := b + 1) (len := 64) hT dX10_init_7 (by decide) (by decide) (by decide) (fun T1 I1 J1 hT1 hs fa1 => ?_)
  replace hac := fun (a : Nat) (h : a < b) => (hac a h).tr (hs a (by omega))
  replace ow := ow.sm (hs b (by omega))
  replace hT : T1.1 = b + 2 := by omega
  clear hT1 hs
  refine n_putR (v := b + 1) dX10_init_9 fp_X10_9 (Or.inr ⟨rfl, rfl⟩) rfl rfl (by omega) ow (fun T2 hN2 hs ow1 => ?_)
  replace hT := hN2.trans hT
  replace fa1 := fa1.sm (fun a h1 h2 => hs a (by omega))
  replace hac := fun (a : Nat) (h : a < b) => (hac a h).tr (hs a (by omega))
  replace ow := ow1
  clear ow1 hs
  clear hN2
  refine s_aload_n (i := 0) dX10_init_12 rfl rfl ?_
  refine s_bipush (v := 64) dX10_init_13 (by decide) ?_
  refine s_kn (k' := (k + 0) + 1) (n' := (n + 0) + 64) (by omega) (by omega) ?_
  refine n_newI (N := b + 2) (len := 64) hT dX10_init_15 (by decide) (by decide) (by decide) (fun T3 I3 J3 hT1 hs fa2 => ?_)
  replace fa1 := fa1.sm (fun a h1 h2 => hs a (by omega))
  replace hac := fun (a : Nat) (h : a < b) => (hac a h).tr (hs a (by omega))
  replace ow := ow.sm (hs b (by omega))
  replace hT : T3.1 = b + 3 := by omega
  clear hT1 hs
  refine n_putR (v := b + 2) dX10_init_17 fp_X10_15 (Or.inr ⟨rfl, rfl⟩) rfl rfl (by omega) ow (fun T4 hN2 hs ow1 => ?_)
  replace hT := hN2.trans hT
  replace fa1 := fa1.sm (fun a h1 h2 => hs a (by omega))
  replace fa2 := fa2.sm (fun a h1 h2 => hs a (by omega))
  replace hac := fun (a : Nat) (h : a < b) => (hac a h).tr (hs a (by omega))
  replace ow := ow1
  clear ow1 hs
  clear hN2
  refine s_aload_n (i := 0) dX10_init_20 rfl rfl ?_
  refine s_iload_n (i := 1) dX10_init_21 rfl rfl ?_
  refine n_putIF dX10_init_22 fp_X10_18 ⟨rfl, rfl⟩ (by omega) ow (fun I5 hs ow1 => ?_)
  replace fa1 := fa1.sm (fun a h1 h2 => hs a (by omega))
  replace fa2 := fa2.sm (fun a h1 h2 => hs a (by omega))
  replace hac := fun (a : Nat) (h : a < b) => (hac a h).tr (hs a (by omega))
  replace ow := ow1
  clear ow1 hs
  refine s_ret dX10_init_25 rfl ?_
  exact hq T4 I5 J3 hT hac ⟨ow, fa1, fa2⟩
set_option maxRecDepth 100000 in
set_option maxHeartbeats 1000000 in
theorem i_Joi {G : fG} {x0 : Nat} {l : Launch} {d k n : Nat} {T : fT} {I : fI} {J : fJ} {Q : Option Value → fT → fI → fJ → Prop} {b : Nat} (hT : T.1 = b + 1) (ow : Own T I b 6 0 nR zV) (hq : ∀ (T' : fT) (I' : fI) (J' : fJ), T'.1 = b + 13 → (∀ a, a < b → sm T T' I I' a) → JoiN T' I' b → Q none T' I' J') : PW G x0 l mX6_init (d + 2) (ZM G x0 Q) (k + 12) (n + 6116) 0 [(0, .ref (x0 + b))] [] T I J := by
  have hac : ∀ a, a < b → sm T T I I a := fun a _ => sm.rf T I a
  refine s_aload_n (i := 0) dX6_init_0 rfl rfl ?_
  refine s_objInit dX6_init_1 wM_X6_3 (Nat.le_of_ble_eq_true rfl) ?_
  refine s_aload_n (i := 0) dX6_init_4 rfl rfl ?_
  refine s_kn (k' := (k + 11) + 1) (n' := (n + 6114) + 2) (by omega) (by omega) ?_
  refine n_new (N := b + 1) hT dX6_init_5 wL_X6_9 cf_X4 (fun T1 I1 J1 hT' hs oc => ?_)
  replace hac := fun (a : Nat) (h : a < b) => (hac a h).tr (hs a (by omega))
  replace ow := ow.sm (hs b (by omega))
  replace hT : T1.1 = b + 2 := by omega
  clear hT' hs
  refine s_dup dX6_init_8 rfl ?_
  refine s_kn (k' := (k + 11) + 0) (n' := (n + 6114) + 0) (by omega) (by omega) ?_
  refine s_cIN_ (k' := 0) (n' := 0) (My := mX4_init) dX6_init_9 wX_X6_11 cb_yX4_init wI_yX4_init rfl rfl (Nat.le_of_ble_eq_true rfl) (by decide) (s_d (by omega) (s_kn (k' := 0 + 0) (n' := 0 + 0) (by omega) (by omega) (i_Gal (d := 0) (b := b + 1) (by omega) oc (fun T2 I2 J2 hT1 hs fc1 => ?_))))
  replace hac := fun (a : Nat) (h : a < b) => (hac a h).tr (hs a (by omega))
  replace ow := ow.sm (hs b (by omega))
  replace hT : T2.1 = b + 2 := by omega
  clear hT1 hs oc
  refine n_putR (v := b + 1) dX6_init_12 fp_X6_12 (Or.inr ⟨rfl, rfl⟩) rfl rfl (by omega) ow (fun T3 hN2 hs ow1 => ?_)
  replace hT := hN2.trans hT
  replace fc1 := fc1.sm (fun a h1 h2 => hs a (by omega))
  replace hac := fun (a : Nat) (h : a < b) => (hac a h).tr (hs a (by omega))
  replace ow := ow1
  clear ow1 hs
  clear hN2
  refine s_aload_n (i := 0) dX6_init_15 rfl rfl ?_
  refine s_kn (k' := (k + 10) + 1) (n' := (n + 6112) + 2) (by omega) (by omega) ?_
  refine n_new (N := b + 2) hT dX6_init_16 wL_X6_18 cf_X9 (fun T4 I4 J4 hT' hs oc => ?_)
  replace fc1 := fc1.sm (fun a h1 h2 => hs a (by omega))
  replace hac := fun (a : Nat) (h : a < b) => (hac a h).tr (hs a (by omega))
  replace ow := ow.sm (hs b (by omega))
  replace hT : T4.1 = b + 3 := by omega
  clear hT' hs
  refine s_dup dX6_init_19 rfl ?_
  refine s_sipush (v := 1200) dX6_init_20 (by decide) ?_
  refine s_kn (k' := (k + 9) + 1) (n' := (n + 4912) + 1200) (by omega) (by omega) ?_
  refine s_cI_I (k' := 1) (n' := 1200) (My := mX9_init) dX6_init_23 wM_X6_20 cb_yX9_init wI_yX9_init rfl rfl (Nat.le_of_ble_eq_true rfl) (by decide) (s_d (by omega) (s_kn (k' := 0 + 1) (n' := 0 + 1200) (by omega) (by omega) (i_Row (d := 0) (cap := 1200) (b := b + 2) (by omega) (by decide) oc (fun T5 I5 J5 hT1 hs fc2 => ?_))))
  replace fc1 := fc1.sm (fun a h1 h2 => hs a (by omega))
  replace hac := fun (a : Nat) (h : a < b) => (hac a h).tr (hs a (by omega))
  replace ow := ow.sm (hs b (by omega))
  replace hT : T5.1 = b + 4 := by omega
  clear hT1 hs oc
  refine n_putR (v := b + 2) dX6_init_26 fp_X6_23 (Or.inr ⟨rfl, rfl⟩) rfl rfl (by omega) ow (fun T6 hN2 hs ow1 => ?_)
  replace hT := hN2.trans hT
  replace fc1 := fc1.sm (fun a h1 h2 => hs a (by omega))
  replace fc2 := fc2.sm (fun a h1 h2 => hs a (by omega))
  replace hac := fun (a : Nat) (h : a < b) => (hac a h).tr (hs a (by omega))
  replace ow := ow1
  clear ow1 hs
  clear hN2
  refine s_aload_n (i := 0) dX6_init_29 rfl rfl ?_
  refine s_kn (k' := (k + 8) + 1) (n' := (n + 4910) + 2) (by omega) (by omega) ?_
  refine n_new (N := b + 4) hT dX6_init_30 wL_X6_18 cf_X9 (fun T7 I7 J7 hT' hs oc => ?_)
  replace fc1 := fc1.sm (fun a h1 h2 => hs a (by omega))
  replace fc2 := fc2.sm (fun a h1 h2 => hs a (by omega))
  replace hac := fun (a : Nat) (h : a < b) => (hac a h).tr (hs a (by omega))
  replace ow := ow.sm (hs b (by omega))
  replace hT : T7.1 = b + 5 := by omega
  clear hT' hs
  refine s_dup dX6_init_33 rfl ?_
  refine s_sipush (v := 1200) dX6_init_34 (by decide) ?_
  refine s_kn (k' := (k + 7) + 1) (n' := (n + 3710) + 1200) (by omega) (by omega) ?_
  refine s_cI_I (k' := 1) (n' := 1200) (My := mX9_init) dX6_init_37 wM_X6_20 cb_yX9_init wI_yX9_init rfl rfl (Nat.le_of_ble_eq_true rfl) (by decide) (s_d (by omega) (s_kn (k' := 0 + 1) (n' := 0 + 1200) (by omega) (by omega) (i_Row (d := 0) (cap := 1200) (b := b + 4) (by omega) (by decide) oc (fun T8 I8 J8 hT1 hs fc4 => ?_))))
  replace fc1 := fc1.sm (fun a h1 h2 => hs a (by omega))
  replace fc2 := fc2.sm (fun a h1 h2 => hs a (by omega))
  replace hac := fun (a : Nat) (h : a < b) => (hac a h).tr (hs a (by omega))
  replace ow := ow.sm (hs b (by omega))
  replace hT : T8.1 = b + 6 := by omega
  clear hT1 hs oc
  refine n_putR (v := b + 4) dX6_init_40 fp_X6_27 (Or.inr ⟨rfl, rfl⟩) rfl rfl (by omega) ow (fun T9 hN2 hs ow1 => ?_)
  replace hT := hN2.trans hT
  replace fc1 := fc1.sm (fun a h1 h2 => hs a (by omega))
  replace fc2 := fc2.sm (fun a h1 h2 => hs a (by omega))
  replace fc4 := fc4.sm (fun a h1 h2 => hs a (by omega))
  replace hac := fun (a : Nat) (h : a < b) => (hac a h).tr (hs a (by omega))
  replace ow := ow1
  clear ow1 hs
  clear hN2
  refine s_aload_n (i := 0) dX6_init_43 rfl rfl ?_
  refine s_sipush (v := 1200) dX6_init_44 (by decide) ?_
  refine s_kn (k' := (k + 6) + 1) (n' := (n + 2510) + 1200) (by omega) (by omega) ?_
  refine n_newI (N := b + 6) (len := 1200) hT dX6_init_47 (by decide) (by decide) (by decide) (fun T10 I10 J10 hT1 hs fa6 => ?_)
  replace fc1 := fc1.sm (fun a h1 h2 => hs a (by omega))
  replace fc2 := fc2.sm (fun a h1 h2 => hs a (by omega))
  replace fc4 := fc4.sm (fun a h1 h2 => hs a (by omega))
  replace hac := fun (a : Nat) (h : a < b) => (hac a h).tr (hs a (by omega))
  replace ow := ow.sm (hs b (by omega))
  replace hT : T10.1 = b + 7 := by omega
  clear hT1 hs
  refine n_putR (v := b + 6) dX6_init_49 fp_X6_30 (Or.inr ⟨rfl, rfl⟩) rfl rfl (by omega) ow (fun T11 hN2 hs ow1 => ?_)
  replace hT := hN2.trans hT
  replace fc1 := fc1.sm (fun a h1 h2 => hs a (by omega))
  replace fc2 := fc2.sm (fun a h1 h2 => hs a (by omega))
  replace fc4 := fc4.sm (fun a h1 h2 => hs a (by omega))
  replace fa6 := fa6.sm (fun a h1 h2 => hs a (by omega))
  replace hac := fun (a : Nat) (h : a < b) => (hac a h).tr (hs a (by omega))
  replace ow := ow1
  clear ow1 hs
  clear hN2
  refine s_aload_n (i := 0) dX6_init_52 rfl rfl ?_
  refine s_kn (k' := (k + 5) + 1) (n' := (n + 2508) + 2) (by omega) (by omega) ?_
  refine n_new (N := b + 7) hT dX6_init_53 wL_X6_18 cf_X9 (fun T12 I12 J12 hT' hs oc => ?_)
  replace fc1 := fc1.sm (fun a h1 h2 => hs a (by omega))
  replace fc2 := fc2.sm (fun a h1 h2 => hs a (by omega))
  replace fc4 := fc4.sm (fun a h1 h2 => hs a (by omega))
  replace fa6 := fa6.sm (fun a h1 h2 => hs a (by omega))
  replace hac := fun (a : Nat) (h : a < b) => (hac a h).tr (hs a (by omega))
  replace ow := ow.sm (hs b (by omega))
  replace hT : T12.1 = b + 8 := by omega
  clear hT' hs
  refine s_dup dX6_init_56 rfl ?_
  refine s_sipush (v := 1200) dX6_init_57 (by decide) ?_
  refine s_kn (k' := (k + 4) + 1) (n' := (n + 1308) + 1200) (by omega) (by omega) ?_
  refine s_cI_I (k' := 1) (n' := 1200) (My := mX9_init) dX6_init_60 wM_X6_20 cb_yX9_init wI_yX9_init rfl rfl (Nat.le_of_ble_eq_true rfl) (by decide) (s_d (by omega) (s_kn (k' := 0 + 1) (n' := 0 + 1200) (by omega) (by omega) (i_Row (d := 0) (cap := 1200) (b := b + 7) (by omega) (by decide) oc (fun T13 I13 J13 hT1 hs fc7 => ?_))))
  replace fc1 := fc1.sm (fun a h1 h2 => hs a (by omega))
  replace fc2 := fc2.sm (fun a h1 h2 => hs a (by omega))
  replace fc4 := fc4.sm (fun a h1 h2 => hs a (by omega))
  replace fa6 := fa6.sm (fun a h1 h2 => hs a (by omega))
  replace hac := fun (a : Nat) (h : a < b) => (hac a h).tr (hs a (by omega))
  replace ow := ow.sm (hs b (by omega))
  replace hT : T13.1 = b + 9 := by omega
  clear hT1 hs oc
  refine n_putR (v := b + 7) dX6_init_63 fp_X6_34 (Or.inr ⟨rfl, rfl⟩) rfl rfl (by omega) ow (fun T14 hN2 hs ow1 => ?_)
  replace hT := hN2.trans hT
  replace fc1 := fc1.sm (fun a h1 h2 => hs a (by omega))
  replace fc2 := fc2.sm (fun a h1 h2 => hs a (by omega))
  replace fc4 := fc4.sm (fun a h1 h2 => hs a (by omega))
  replace fa6 := fa6.sm (fun a h1 h2 => hs a (by omega))
  replace fc7 := fc7.sm (fun a h1 h2 => hs a (by omega))
  replace hac := fun (a : Nat) (h : a < b) => (hac a h).tr (hs a (by omega))
  replace ow := ow1
  clear ow1 hs
  clear hN2
  refine s_aload_n (i := 0) dX6_init_66 rfl rfl ?_
  refine s_kn (k' := (k + 3) + 1) (n' := (n + 1306) + 2) (by omega) (by omega) ?_
  refine n_new (N := b + 9) hT dX6_init_67 wL_X6_18 cf_X9 (fun T15 I15 J15 hT' hs oc => ?_)
  replace fc1 := fc1.sm (fun a h1 h2 => hs a (by omega))
  replace fc2 := fc2.sm (fun a h1 h2 => hs a (by omega))
  replace fc4 := fc4.sm (fun a h1 h2 => hs a (by omega))
  replace fa6 := fa6.sm (fun a h1 h2 => hs a (by omega))
  replace fc7 := fc7.sm (fun a h1 h2 => hs a (by omega))
  replace hac := fun (a : Nat) (h : a < b) => (hac a h).tr (hs a (by omega))
  replace ow := ow.sm (hs b (by omega))
  replace hT : T15.1 = b + 10 := by omega
  clear hT' hs
  refine s_dup dX6_init_70 rfl ?_
  refine s_sipush (v := 1200) dX6_init_71 (by decide) ?_
  refine s_kn (k' := (k + 2) + 1) (n' := (n + 106) + 1200) (by omega) (by omega) ?_
  refine s_cI_I (k' := 1) (n' := 1200) (My := mX9_init) dX6_init_74 wM_X6_20 cb_yX9_init wI_yX9_init rfl rfl (Nat.le_of_ble_eq_true rfl) (by decide) (s_d (by omega) (s_kn (k' := 0 + 1) (n' := 0 + 1200) (by omega) (by omega) (i_Row (d := 0) (cap := 1200) (b := b + 9) (by omega) (by decide) oc (fun T16 I16 J16 hT1 hs fc9 => ?_))))
  replace fc1 := fc1.sm (fun a h1 h2 => hs a (by omega))
  replace fc2 := fc2.sm (fun a h1 h2 => hs a (by omega))
  replace fc4 := fc4.sm (fun a h1 h2 => hs a (by omega))
  replace fa6 := fa6.sm (fun a h1 h2 => hs a (by omega))
  replace fc7 := fc7.sm (fun a h1 h2 => hs a (by omega))
  replace hac := fun (a : Nat) (h : a < b) => (hac a h).tr (hs a (by omega))
  replace ow := ow.sm (hs b (by omega))
  replace hT : T16.1 = b + 11 := by omega
  clear hT1 hs oc
  refine n_putR (v := b + 9) dX6_init_77 fp_X6_37 (Or.inr ⟨rfl, rfl⟩) rfl rfl (by omega) ow (fun T17 hN2 hs ow1 => ?_)
  replace hT := hN2.trans hT
  replace fc1 := fc1.sm (fun a h1 h2 => hs a (by omega))
  replace fc2 := fc2.sm (fun a h1 h2 => hs a (by omega))
  replace fc4 := fc4.sm (fun a h1 h2 => hs a (by omega))
  replace fa6 := fa6.sm (fun a h1 h2 => hs a (by omega))
  replace fc7 := fc7.sm (fun a h1 h2 => hs a (by omega))
  replace fc9 := fc9.sm (fun a h1 h2 => hs a (by omega))
  replace hac := fun (a : Nat) (h : a < b) => (hac a h).tr (hs a (by omega))
  replace ow := ow1
  clear ow1 hs
  clear hN2
  refine s_aload_n (i := 0) dX6_init_80 rfl rfl ?_
  refine s_bipush (v := 100) dX6_init_81 (by decide) ?_
  refine s_kn (k' := (k + 1) + 1) (n' := (n + 6) + 100) (by omega) (by omega) ?_
  refine n_newJ (N := b + 11) (len := 100) hT dX6_init_83 (by decide) (by decide) (by decide) (fun T18 I18 J18 hT1 hs fa11 => ?_)
  replace fc1 := fc1.sm (fun a h1 h2 => hs a (by omega))
  replace fc2 := fc2.sm (fun a h1 h2 => hs a (by omega))
  replace fc4 := fc4.sm (fun a h1 h2 => hs a (by omega))
  replace fa6 := fa6.sm (fun a h1 h2 => hs a (by omega))
  replace fc7 := fc7.sm (fun a h1 h2 => hs a (by omega))
  replace fc9 := fc9.sm (fun a h1 h2 => hs a (by omega))
  replace hac := fun (a : Nat) (h : a < b) => (hac a h).tr (hs a (by omega))
  replace ow := ow.sm (hs b (by omega))
  replace hT : T18.1 = b + 12 := by omega
  clear hT1 hs
  refine n_putR (v := b + 11) dX6_init_85 fp_X6_40 (Or.inr ⟨rfl, rfl⟩) rfl rfl (by omega) ow (fun T19 hN2 hs ow1 => ?_)
  replace hT := hN2.trans hT
  replace fc1 := fc1.sm (fun a h1 h2 => hs a (by omega))
  replace fc2 := fc2.sm (fun a h1 h2 => hs a (by omega))
  replace fc4 := fc4.sm (fun a h1 h2 => hs a (by omega))
  replace fa6 := fa6.sm (fun a h1 h2 => hs a (by omega))
  replace fc7 := fc7.sm (fun a h1 h2 => hs a (by omega))
  replace fc9 := fc9.sm (fun a h1 h2 => hs a (by omega))
  replace fa11 := fa11.sm (fun a h1 h2 => hs a (by omega))
  replace hac := fun (a : Nat) (h : a < b) => (hac a h).tr (hs a (by omega))
  replace ow := ow1
  clear ow1 hs
  clear hN2
  refine s_aload_n (i := 0) dX6_init_88 rfl rfl ?_
  refine s_bipush (v := 6) dX6_init_89 (by decide) ?_
  refine s_kn (k' := (k + 0) + 1) (n' := (n + 0) + 6) (by omega) (by omega) ?_
  refine n_newI (N := b + 12) (len := 6) hT dX6_init_91 (by decide) (by decide) (by decide) (fun T20 I20 J20 hT1 hs fa12 => ?_)
  replace fc1 := fc1.sm (fun a h1 h2 => hs a (by omega))
  replace fc2 := fc2.sm (fun a h1 h2 => hs a (by omega))
  replace fc4 := fc4.sm (fun a h1 h2 => hs a (by omega))
  replace fa6 := fa6.sm (fun a h1 h2 => hs a (by omega))
  replace fc7 := fc7.sm (fun a h1 h2 => hs a (by omega))
  replace fc9 := fc9.sm (fun a h1 h2 => hs a (by omega))
  replace fa11 := fa11.sm (fun a h1 h2 => hs a (by omega))
  replace hac := fun (a : Nat) (h : a < b) => (hac a h).tr (hs a (by omega))
  replace ow := ow.sm (hs b (by omega))
  replace hT : T20.1 = b + 13 := by omega
  clear hT1 hs
  refine n_putR (v := b + 12) dX6_init_93 fp_X6_44 (Or.inr ⟨rfl, rfl⟩) rfl rfl (by omega) ow (fun T21 hN2 hs ow1 => ?_)
  replace hT := hN2.trans hT
  replace fc1 := fc1.sm (fun a h1 h2 => hs a (by omega))
  replace fc2 := fc2.sm (fun a h1 h2 => hs a (by omega))
  replace fc4 := fc4.sm (fun a h1 h2 => hs a (by omega))
  replace fa6 := fa6.sm (fun a h1 h2 => hs a (by omega))
  replace fc7 := fc7.sm (fun a h1 h2 => hs a (by omega))
  replace fc9 := fc9.sm (fun a h1 h2 => hs a (by omega))
  replace fa11 := fa11.sm (fun a h1 h2 => hs a (by omega))
  replace fa12 := fa12.sm (fun a h1 h2 => hs a (by omega))
  replace hac := fun (a : Nat) (h : a < b) => (hac a h).tr (hs a (by omega))
  replace ow := ow1
  clear ow1 hs
  clear hN2
  refine s_ret dX6_init_96 rfl ?_
  exact hq T21 I20 J20 hT hac ⟨ow, fc1, fc2, fc4, fa6, fc7, fc9, fa11, fa12⟩
