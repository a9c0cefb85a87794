/-! the model: its objects, what its cells hold -/
theorem zl2 : (2 : Int32) = zI 2 := rfl
theorem zl3 : (3 : Int32) = zI 3 := rfl
theorem zl4 : (4 : Int32) = zI 4 := rfl
theorem zl5 : (5 : Int32) = zI 5 := rfl
theorem zl6 : (6 : Int32) = zI 6 := rfl
theorem zl7 : (7 : Int32) = zI 7 := rfl
theorem zl8 : (8 : Int32) = zI 8 := rfl
theorem zl9 : (9 : Int32) = zI 9 := rfl
theorem zl10 : (10 : Int32) = zI 10 := rfl
theorem zl20 : (20 : Int32) = zI 20 := rfl
theorem zl28 : (28 : Int32) = zI 28 := rfl
theorem zl31 : (31 : Int32) = zI 31 := rfl
theorem zl32 : (32 : Int32) = zI 32 := rfl
theorem zl33 : (33 : Int32) = zI 33 := rfl
theorem zl48 : (48 : Int32) = zI 48 := rfl
theorem zl57 : (57 : Int32) = zI 57 := rfl
theorem zl64 : (64 : Int32) = zI 64 := rfl
theorem zl100 : (100 : Int32) = zI 100 := rfl
theorem zl127 : (127 : Int32) = zI 127 := rfl
theorem zl200 : (200 : Int32) = zI 200 := rfl
theorem zl201 : (201 : Int32) = zI 201 := rfl
theorem zl202 : (202 : Int32) = zI 202 := rfl
theorem zl402 : (402 : Int32) = zI 402 := rfl
theorem zl1200 : (1200 : Int32) = zI 1200 := rfl
theorem zl2412 : (2412 : Int32) = zI 2412 := rfl
theorem zl16884 : (16884 : Int32) = zI 16884 := rfl
def mTab : List (Nat × Nat × Nat) := [(0, 145, 2412), (1, 146, 19296), (3, 147, 4), (4, 148, 4), (8, 149, 1200), (11, 150, 21), (12, 151, 200), (14, 152, 201), (15, 153, 201), (16, 154, 201), (17, 155, 100), (21, 156, 200), (24, 157, 28800), (25, 158, 24), (26, 159, 1200), (29, 160, 100), (31, 161, 100)]
def MObj (T : fT) : Prop := 162 ≤ T.1 ∧ T.2.1 144 = 12 ∧ ∀ e, e ∈ mTab → T.2.2.2 144 e.1 = some e.2.1 ∧ T.2.1 e.2.1 = 13 ∧ T.2.2.1 e.2.1 = e.2.2
theorem MObj.o {T : fT} (h : MObj T) : 144 < T.1 ∧ T.2.1 144 = 12 := ⟨by have := h.1; omega, h.2.1⟩
theorem MObj.a145 {T : fT} (h : MObj T) : T.2.2.2 144 0 = some 145 ∧ 145 < T.1 ∧ T.2.1 145 = 13 ∧ T.2.2.1 145 = 2412 := by
  have h1 := h.2.2 (0, 145, 2412) (by decide)
  exact ⟨h1.1, by have := h.1; omega, h1.2.1, h1.2.2⟩
theorem MObj.a146 {T : fT} (h : MObj T) : T.2.2.2 144 1 = some 146 ∧ 146 < T.1 ∧ T.2.1 146 = 13 ∧ T.2.2.1 146 = 19296 := by
  have h1 := h.2.2 (1, 146, 19296) (by decide)
  exact ⟨h1.1, by have := h.1; omega, h1.2.1, h1.2.2⟩
theorem MObj.a147 {T : fT} (h : MObj T) : T.2.2.2 144 3 = some 147 ∧ 147 < T.1 ∧ T.2.1 147 = 13 ∧ T.2.2.1 147 = 4 := by
  have h1 := h.2.2 (3, 147, 4) (by decide)
  exact ⟨h1.1, by have := h.1; omega, h1.2.1, h1.2.2⟩
theorem MObj.a148 {T : fT} (h : MObj T) : T.2.2.2 144 4 = some 148 ∧ 148 < T.1 ∧ T.2.1 148 = 13 ∧ T.2.2.1 148 = 4 := by
  have h1 := h.2.2 (4, 148, 4) (by decide)
  exact ⟨h1.1, by have := h.1; omega, h1.2.1, h1.2.2⟩
theorem MObj.a149 {T : fT} (h : MObj T) : T.2.2.2 144 8 = some 149 ∧ 149 < T.1 ∧ T.2.1 149 = 13 ∧ T.2.2.1 149 = 1200 := by
  have h1 := h.2.2 (8, 149, 1200) (by decide)
  exact ⟨h1.1, by have := h.1; omega, h1.2.1, h1.2.2⟩
theorem MObj.a150 {T : fT} (h : MObj T) : T.2.2.2 144 11 = some 150 ∧ 150 < T.1 ∧ T.2.1 150 = 13 ∧ T.2.2.1 150 = 21 := by
  have h1 := h.2.2 (11, 150, 21) (by decide)
  exact ⟨h1.1, by have := h.1; omega, h1.2.1, h1.2.2⟩
theorem MObj.a151 {T : fT} (h : MObj T) : T.2.2.2 144 12 = some 151 ∧ 151 < T.1 ∧ T.2.1 151 = 13 ∧ T.2.2.1 151 = 200 := by
  have h1 := h.2.2 (12, 151, 200) (by decide)
  exact ⟨h1.1, by have := h.1; omega, h1.2.1, h1.2.2⟩
theorem MObj.a152 {T : fT} (h : MObj T) : T.2.2.2 144 14 = some 152 ∧ 152 < T.1 ∧ T.2.1 152 = 13 ∧ T.2.2.1 152 = 201 := by
  have h1 := h.2.2 (14, 152, 201) (by decide)
  exact ⟨h1.1, by have := h.1; omega, h1.2.1, h1.2.2⟩
theorem MObj.a153 {T : fT} (h : MObj T) : T.2.2.2 144 15 = some 153 ∧ 153 < T.1 ∧ T.2.1 153 = 13 ∧ T.2.2.1 153 = 201 := by
  have h1 := h.2.2 (15, 153, 201) (by decide)
  exact ⟨h1.1, by have := h.1; omega, h1.2.1, h1.2.2⟩
theorem MObj.a154 {T : fT} (h : MObj T) : T.2.2.2 144 16 = some 154 ∧ 154 < T.1 ∧ T.2.1 154 = 13 ∧ T.2.2.1 154 = 201 := by
  have h1 := h.2.2 (16, 154, 201) (by decide)
  exact ⟨h1.1, by have := h.1; omega, h1.2.1, h1.2.2⟩
theorem MObj.a155 {T : fT} (h : MObj T) : T.2.2.2 144 17 = some 155 ∧ 155 < T.1 ∧ T.2.1 155 = 13 ∧ T.2.2.1 155 = 100 := by
  have h1 := h.2.2 (17, 155, 100) (by decide)
  exact ⟨h1.1, by have := h.1; omega, h1.2.1, h1.2.2⟩
theorem MObj.a156 {T : fT} (h : MObj T) : T.2.2.2 144 21 = some 156 ∧ 156 < T.1 ∧ T.2.1 156 = 13 ∧ T.2.2.1 156 = 200 := by
  have h1 := h.2.2 (21, 156, 200) (by decide)
  exact ⟨h1.1, by have := h.1; omega, h1.2.1, h1.2.2⟩
theorem MObj.a157 {T : fT} (h : MObj T) : T.2.2.2 144 24 = some 157 ∧ 157 < T.1 ∧ T.2.1 157 = 13 ∧ T.2.2.1 157 = 28800 := by
  have h1 := h.2.2 (24, 157, 28800) (by decide)
  exact ⟨h1.1, by have := h.1; omega, h1.2.1, h1.2.2⟩
theorem MObj.a158 {T : fT} (h : MObj T) : T.2.2.2 144 25 = some 158 ∧ 158 < T.1 ∧ T.2.1 158 = 13 ∧ T.2.2.1 158 = 24 := by
  have h1 := h.2.2 (25, 158, 24) (by decide)
  exact ⟨h1.1, by have := h.1; omega, h1.2.1, h1.2.2⟩
theorem MObj.a159 {T : fT} (h : MObj T) : T.2.2.2 144 26 = some 159 ∧ 159 < T.1 ∧ T.2.1 159 = 13 ∧ T.2.2.1 159 = 1200 := by
  have h1 := h.2.2 (26, 159, 1200) (by decide)
  exact ⟨h1.1, by have := h.1; omega, h1.2.1, h1.2.2⟩
theorem MObj.a160 {T : fT} (h : MObj T) : T.2.2.2 144 29 = some 160 ∧ 160 < T.1 ∧ T.2.1 160 = 13 ∧ T.2.2.1 160 = 100 := by
  have h1 := h.2.2 (29, 160, 100) (by decide)
  exact ⟨h1.1, by have := h.1; omega, h1.2.1, h1.2.2⟩
theorem MObj.a161 {T : fT} (h : MObj T) : T.2.2.2 144 31 = some 161 ∧ 161 < T.1 ∧ T.2.1 161 = 13 ∧ T.2.2.1 161 = 100 := by
  have h1 := h.2.2 (31, 161, 100) (by decide)
  exact ⟨h1.1, by have := h.1; omega, h1.2.1, h1.2.2⟩
section
variable {G : fG} {x0 : Nat} {l : Launch} {M : fM} {d : Nat} {Z : fZ} {k n pc : Nat} {lv : List (Nat × Value)} {st : List Value} {T : fT} {I : fI} {J : fJ}
theorem s_ildn {a j N : Nat} {i : Int32} (hd : decode M.2.1 pc = .ok (.iaload, 1)) (ha : a < T.1) (hk : T.2.1 a = 13) (hl : T.2.2.1 a = N) (hi : i = zI (j : Int)) (hj : j < N) (hN : N ≤ 1000000) (kk : PW G x0 l M d Z k n (pc + 1) lv (.int (I a j) :: st) T I J) : PW G x0 l M d Z k n pc lv (.int i :: .ref (x0 + a) :: st) T I J := by
  subst hi
  refine s_iald hd ha hk (by rw [hl]; exact z_in (by omega) (by omega) (by omega)) ?_
  rw [zI_n (by omega) (by omega), Int.toNat_natCast]
  exact kk
theorem s_istn {a j N : Nat} {i x : Int32} (hd : decode M.2.1 pc = .ok (.iastore, 1)) (ha : a < T.1) (hk : T.2.1 a = 13) (hl : T.2.2.1 a = N) (hi : i = zI (j : Int)) (hj : j < N) (hN : N ≤ 1000000) (kk : PW G x0 l M d Z k n (pc + 1) lv st T (iu I a j x) J) : PW G x0 l M d Z k n pc lv (.int x :: .int i :: .ref (x0 + a) :: st) T I J := by
  subst hi
  refine s_iast hd ha hk (by rw [hl]; exact z_in (by omega) (by omega) (by omega)) ?_
  rw [zI_n (by omega) (by omega), Int.toNat_natCast]
  exact kk
end
/-- a list as the model holds it -/
def ML (f : Nat → Int32) (b : Nat) (L : LSt) : Prop := f b = zI L.2.1 ∧ (∀ q, q < L.2.1 → f (b + 1 + q) = zI (L.1 q)) ∧ f (b + 201) = zI L.2.2.2 ∧ ∀ j, j < L.2.2.2 → f (b + 202 + j) = zI (bl L j)
def MLs (f : Nat → Int32) (b : Nat) (Ls : Nat → LSt) : Prop := ∀ i, i < 6 → ML f (b + 402 * i) (Ls i)
theorem MLs.at0 {f : Nat → Int32} {Ls : Nat → LSt} (h : MLs f 0 Ls) {i : Nat} (hi : i < 6) : ML f (402 * i) (Ls i) := by
  have := h i hi
  rw [Nat.zero_add] at this
  exact this
def prevs (Ls : Nat → LSt) : List (Nat × LSt) → Nat → Nat → LSt
  | [], _ => Ls
  | e :: _, 0 => updL Ls e.1 e.2
  | e :: H, k + 1 => prevs (updL Ls e.1 e.2) H k
def PastIs (f : Nat → Int32) (Ls : Nat → LSt) (H : List (Nat × LSt)) : Prop := ∀ k, k < H.length → MLs f (2412 * (H.length - 1 - k)) (prevs Ls H k)
def CacheM (I : fI) (C : List (Int × Int) × Nat × Nat) : Prop := C.1.length ≤ 4 ∧ I 144 5 = zI C.1.length ∧ I 144 6 = zI C.2.1 ∧ I 144 7 = zI C.2.2 ∧ ∀ q e, C.1.reverse[q]? = some e → I 147 q = zI e.1 ∧ I 148 q = zI e.2
def ResM (I : fI) (r : Option (List Int × Int)) : Prop := match r with
  | none => I 144 9 = zI (-1) ∧ I 144 10 = zI (-1)
  | some r => I 144 9 = zI r.1.length ∧ I 144 10 = zI r.2 ∧ ∀ q, q < r.1.length → I 149 q = zI (lfn r.1 q)
def TextM (I : fI) (t : (Nat → Int) × Nat) : Prop := I 144 18 = zI t.2 ∧ ∀ q, q < t.2 → I 155 q = zI (t.1 q)
def MIs (T : fT) (I : fI) (S : ASt) : Prop := MObj T ∧ MLs (I 145) 0 S.1 ∧ (S.2.1.length ≤ 8 ∧ I 144 2 = zI S.2.1.length ∧ PastIs (I 146) S.1 S.2.1) ∧ CacheM I S.2.2.1 ∧ TextM I S.2.2.2.1 ∧ ResM I S.2.2.2.2
/-- only what is reckoned with changes -/
def frS (I I' : fI) : Prop := (∀ b, (b < 144 ∨ b = 145 ∨ b = 146 ∨ b = 147 ∨ b = 148 ∨ b = 149 ∨ b = 155 ∨ 162 ≤ b) → I' b = I b) ∧ ∀ j, (j ≤ 10 ∨ j = 18) → I' 144 j = I 144 j
/-- the model leaves the class alone -/
def frC (I I' : fI) : Prop := ∀ b, (b < 144 ∨ 162 ≤ b) → I' b = I b
theorem frS.refl (I : fI) : frS I I := ⟨fun _ _ => rfl, fun _ _ => rfl⟩
theorem frS.trans {I I1 I2 : fI} (h : frS I I1) (h2 : frS I1 I2) : frS I I2 := ⟨fun b hb => (h2.1 b hb).trans (h.1 b hb), fun j hj => (h2.2 j hj).trans (h.2 j hj)⟩
theorem frS.of {I I' : fI} {S : List Nat} (h : fr I I' S) (hS : ∀ b, b ∈ S → 149 < b ∧ b < 162 ∧ b ≠ 155) : frS I I' := ⟨fun b hb => h b (fun q => by have := hS b q; omega), fun j _ => by rw [h 144 (fun q => by have := hS 144 q; omega)]⟩
theorem frS.c {I I' : fI} (h : frS I I') : frC I I' := fun b hb => h.1 b (by omega)
theorem frC.refl (I : fI) : frC I I := fun _ _ => rfl
theorem frC.trans {I I1 I2 : fI} (h : frC I I1) (h2 : frC I1 I2) : frC I I2 := fun b hb => (h2 b hb).trans (h b hb)
theorem frC.of {I I' : fI} {S : List Nat} (h : fr I I' S) (hS : ∀ b, b ∈ S → 144 ≤ b ∧ b < 162) : frC I I' := fun b hb => h b (fun q => by have := hS b q; omega)
theorem MIs.fr {T : fT} {I I' : fI} {S : ASt} (h : MIs T I S) (hf : frS I I') : MIs T I' S := by
  obtain ⟨h1, h2, ⟨h3, h4, h5⟩, ⟨h6, h7, h8, h9, h10⟩, ⟨h11, h12⟩, h13⟩ := h
  obtain ⟨f1, f2⟩ := hf
  refine ⟨h1, by rw [f1 145 (by omega)]; exact h2, ⟨h3, by rw [f2 2 (by omega)]; exact h4, by rw [f1 146 (by omega)]; exact h5⟩, ⟨h6, by rw [f2 5 (by omega)]; exact h7, by rw [f2 6 (by omega)]; exact h8, by rw [f2 7 (by omega)]; exact h9, by rw [f1 147 (by omega), f1 148 (by omega)]; exact h10⟩, ⟨by rw [f2 18 (by omega)]; exact h11, by rw [f1 155 (by omega)]; exact h12⟩, ?_⟩
  cases hr : S.2.2.2.2 with
  | none => rw [hr] at h13; exact ⟨by rw [f2 9 (by omega)]; exact h13.1, by rw [f2 10 (by omega)]; exact h13.2⟩
  | some r => rw [hr] at h13; exact ⟨by rw [f2 9 (by omega)]; exact h13.1, by rw [f2 10 (by omega)]; exact h13.2.1, by rw [f1 149 (by omega)]; exact h13.2.2⟩
theorem MIs.L {T : fT} {I : fI} {S : ASt} (h : MIs T I S) {i : Nat} (hi : i < 6) : ML (I 145) (402 * i) (S.1 i) := h.2.1.at0 hi
set_option maxRecDepth 100000 in
set_option maxHeartbeats 1000000 in
theorem m_in {G : fG} {x0 : Nat} {l : Launch} {d k n : Nat} {T : fT} {I : fI} {J : fJ} {Q : Option Value → fT → fI → fJ → Prop} {x a b : Int32} (hy : a.toInt ≤ x.toInt ∧ x.toInt ≤ b.toInt → Q (some (.int 1)) T I J) (hn : ¬ (a.toInt ≤ x.toInt ∧ x.toInt ≤ b.toInt) → Q (some (.int 0)) T I J) : PW G x0 l mX12_in d (ZM G x0 Q) k n 0 [(0, .int x), (1, .int a), (2, .int b)] [] T I J := by
  refine s_iload_n (i := 0) dX12_in_0 rfl rfl ?_
  refine s_iload_n (i := 1) dX12_in_1 rfl rfl ?_
  refine s_icmp_lt (tgt := 14) dX12_in_2 (by decide) (fun c2 => ?_) (fun c2 => ?_)
  · refine s_iconst (v := 0) dX12_in_14 (by decide) ?_
    refine s_zret dX12_in_15 rfl (by first | exact Or.inl rfl | exact Or.inr rfl) ?_
    rw [t_lt'] at c2
    try rw [t_lt'] at c7
    first
    | exact hy (by omega)
    | exact hn (by omega)
  · refine s_iload_n (i := 0) dX12_in_5 rfl rfl ?_
    refine s_iload_n (i := 2) dX12_in_6 rfl rfl ?_
    refine s_icmp_gt (tgt := 14) dX12_in_7 (by decide) (fun c7 => ?_) (fun c7 => ?_)
    · refine s_iconst (v := 0) dX12_in_14 (by decide) ?_
      refine s_zret dX12_in_15 rfl (by first | exact Or.inl rfl | exact Or.inr rfl) ?_
      rw [t_lt'] at c2
      try rw [t_lt'] at c7
      first
      | exact hy (by omega)
      | exact hn (by omega)
    · refine s_iconst (v := 1) dX12_in_10 (by decide) ?_
      refine s_goto (tgt := 15) dX12_in_11 (by decide) ?_
      refine s_zret dX12_in_15 rfl (by first | exact Or.inl rfl | exact Or.inr rfl) ?_
      rw [t_lt'] at c2
      try rw [t_lt'] at c7
      first
      | exact hy (by omega)
      | exact hn (by omega)
set_option maxRecDepth 100000 in
set_option maxHeartbeats 1000000 in
theorem m_isList {G : fG} {x0 : Nat} {l : Launch} {d k n : Nat} {T : fT} {I : fI} {J : fJ} {Q : Option Value → fT → fI → fJ → Prop} {x : Int32} (hy : 0 ≤ x.toInt ∧ x.toInt < 6 → Q (some (.int 1)) T I J) (hn : ¬ (0 ≤ x.toInt ∧ x.toInt < 6) → Q (some (.int 0)) T I J) : PW G x0 l mX12_isList (d + 1) (ZM G x0 Q) k n 0 [(0, .int x)] [] T I J := by
  have ea : ((0 : Int32)).toInt = 0 := by decide
  have eb : ((5 : Int32)).toInt = 5 := by decide
  refine s_iload_n (i := 0) dX12_isList_0 rfl rfl ?_
  refine s_iconst (v := 0) dX12_isList_1 (by decide) ?_
  refine s_iconst (v := 5) dX12_isList_2 (by decide) ?_
  refine s_cS_III (My := mX12_in) dX12_isList_3 wM_X12_68 cb_yX12_in wT_yX12_in (Nat.le_of_ble_eq_true rfl) (by decide) (m_in ?_ ?_)
  · intro hx
    rw [ea, eb] at hx
    refine s_zret dX12_isList_6 rfl (by first | exact Or.inl rfl | exact Or.inr rfl) ?_
    exact hy (by omega)
  · intro hx
    rw [ea, eb] at hx
    refine s_zret dX12_isList_6 rfl (by first | exact Or.inl rfl | exact Or.inr rfl) ?_
    exact hn (by omega)
set_option maxRecDepth 100000 in
set_option maxHeartbeats 1000000 in
theorem m_isValue {G : fG} {x0 : Nat} {l : Launch} {d k n : Nat} {T : fT} {I : fI} {J : fJ} {Q : Option Value → fT → fI → fJ → Prop} {x : Int32} (hy : 0 ≤ x.toInt ∧ x.toInt ≤ 999999 → Q (some (.int 1)) T I J) (hn : ¬ (0 ≤ x.toInt ∧ x.toInt ≤ 999999) → Q (some (.int 0)) T I J) : PW G x0 l mX12_isValue (d + 1) (ZM G x0 Q) k n 0 [(0, .int x)] [] T I J := by
  have ea : ((0 : Int32)).toInt = 0 := by decide
  have eb : ((999999 : Int32)).toInt = 999999 := by decide
  refine s_iload_n (i := 0) dX12_isValue_0 rfl rfl ?_
  refine s_iconst (v := 0) dX12_isValue_1 (by decide) ?_
  refine s_ldc dX12_isValue_2 wK_X12_72 ?_
  refine s_cS_III (My := mX12_in) dX12_isValue_4 wM_X12_68 cb_yX12_in wT_yX12_in (Nat.le_of_ble_eq_true rfl) (by decide) (m_in ?_ ?_)
  · intro hx
    rw [ea, eb] at hx
    refine s_zret dX12_isValue_7 rfl (by first | exact Or.inl rfl | exact Or.inr rfl) ?_
    exact hy (by omega)
  · intro hx
    rw [ea, eb] at hx
    refine s_zret dX12_isValue_7 rfl (by first | exact Or.inl rfl | exact Or.inr rfl) ?_
    exact hn (by omega)
set_option maxRecDepth 100000 in
set_option maxHeartbeats 1000000 in
theorem m_many {G : fG} {x0 : Nat} {l : Launch} {d k n : Nat} {T : fT} {I : fI} {J : fJ} {Q : Option Value → fT → fI → fJ → Prop} {li : Nat} (hM : MObj T) (hli : li < 6) (hq : Q (some (.int (I 145 (402 * li)))) T I J) : PW G x0 l mX12_many d (ZM G x0 Q) k n 0 [(0, .ref (x0 + 144)), (1, .int (zI li))] [] T I J := by
  obtain ⟨o1, o2⟩ := hM.o
  obtain ⟨r145, b145, k145, n145⟩ := hM.a145
  refine s_aload_n (i := 0) dX12_many_0 rfl rfl ?_
  refine s_getR dX12_many_1 fl_X12_7 (by assumption) (by assumption) (by assumption) ?_
  refine s_sipush (v := 402) dX12_many_4 (by decide) ?_
  refine s_iload_n (i := 1) dX12_many_7 rfl rfl ?_
  refine s_imul dX12_many_8 ?_
  refine s_ildn (j := 402 * li) dX12_many_9 (by assumption) (by assumption) (by assumption) (by first | with_reducible rfl | ((try simp only [z0, z1, zm1, zm2, zm3, zm4, zl2, zl3, zl4, zl5, zl6, zl7, zl8, zl9, zl10, zl20, zl28, zl31, zl32, zl33, zl48, zl57, zl64, zl100, zl127, zl200, zl201, zl202, zl402, zl1200, zl2412, zl16884, zI_add, zI_sub, zI_mul, zI_inc, zI_dec]) <;> (congr 1 <;> omega))) (by omega) (by decide) ?_
  refine s_iret dX12_many_10 rfl ?_
  exact hq
set_option maxRecDepth 100000 in
set_option maxHeartbeats 1000000 in
theorem m_blocks {G : fG} {x0 : Nat} {l : Launch} {d k n : Nat} {T : fT} {I : fI} {J : fJ} {Q : Option Value → fT → fI → fJ → Prop} {li : Nat} (hM : MObj T) (hli : li < 6) (hq : Q (some (.int (I 145 (402 * li + 201)))) T I J) : PW G x0 l mX12_blocks d (ZM G x0 Q) k n 0 [(0, .ref (x0 + 144)), (1, .int (zI li))] [] T I J := by
  obtain ⟨o1, o2⟩ := hM.o
  obtain ⟨r145, b145, k145, n145⟩ := hM.a145
  refine s_aload_n (i := 0) dX12_blocks_0 rfl rfl ?_
  refine s_getR dX12_blocks_1 fl_X12_7 (by assumption) (by assumption) (by assumption) ?_
  refine s_sipush (v := 402) dX12_blocks_4 (by decide) ?_
  refine s_iload_n (i := 1) dX12_blocks_7 rfl rfl ?_
  refine s_imul dX12_blocks_8 ?_
  refine s_sipush (v := 201) dX12_blocks_9 (by decide) ?_
  refine s_iadd dX12_blocks_12 ?_
  refine s_ildn (j := 402 * li + 201) dX12_blocks_13 (by assumption) (by assumption) (by assumption) (by first | with_reducible rfl | ((try simp only [z0, z1, zm1, zm2, zm3, zm4, zl2, zl3, zl4, zl5, zl6, zl7, zl8, zl9, zl10, zl20, zl28, zl31, zl32, zl33, zl48, zl57, zl64, zl100, zl127, zl200, zl201, zl202, zl402, zl1200, zl2412, zl16884, zI_add, zI_sub, zI_mul, zI_inc, zI_dec]) <;> (congr 1 <;> omega))) (by omega) (by decide) ?_
  refine s_iret dX12_blocks_14 rfl ?_
  exact hq
set_option maxRecDepth 100000 in
set_option maxHeartbeats 1000000 in
theorem m_number {G : fG} {x0 : Nat} {l : Launch} {d k n : Nat} {T : fT} {I : fI} {J : fJ} {Q : Option Value → fT → fI → fJ → Prop} {li i : Nat} (hM : MObj T) (hli : li < 6) (hi : i ≤ 400) (hq : Q (some (.int (I 145 (402 * li + 1 + i)))) T I J) : PW G x0 l mX12_number d (ZM G x0 Q) k n 0 [(0, .ref (x0 + 144)), (1, .int (zI li)), (2, .int (zI i))] [] T I J := by
  obtain ⟨o1, o2⟩ := hM.o
  obtain ⟨r145, b145, k145, n145⟩ := hM.a145
  refine s_aload_n (i := 0) dX12_number_0 rfl rfl ?_
  refine s_getR dX12_number_1 fl_X12_7 (by assumption) (by assumption) (by assumption) ?_
  refine s_sipush (v := 402) dX12_number_4 (by decide) ?_
  refine s_iload_n (i := 1) dX12_number_7 rfl rfl ?_
  refine s_imul dX12_number_8 ?_
  refine s_iconst (v := 1) dX12_number_9 (by decide) ?_
  refine s_iadd dX12_number_10 ?_
  refine s_iload_n (i := 2) dX12_number_11 rfl rfl ?_
  refine s_iadd dX12_number_12 ?_
  refine s_ildn (j := 402 * li + 1 + i) dX12_number_13 (by assumption) (by assumption) (by assumption) (by first | with_reducible rfl | ((try simp only [z0, z1, zm1, zm2, zm3, zm4, zl2, zl3, zl4, zl5, zl6, zl7, zl8, zl9, zl10, zl20, zl28, zl31, zl32, zl33, zl48, zl57, zl64, zl100, zl127, zl200, zl201, zl202, zl402, zl1200, zl2412, zl16884, zI_add, zI_sub, zI_mul, zI_inc, zI_dec]) <;> (congr 1 <;> omega))) (by omega) (by decide) ?_
  refine s_iret dX12_number_14 rfl ?_
  exact hq
set_option maxRecDepth 100000 in
set_option maxHeartbeats 1000000 in
theorem m_length {G : fG} {x0 : Nat} {l : Launch} {d k n : Nat} {T : fT} {I : fI} {J : fJ} {Q : Option Value → fT → fI → fJ → Prop} {li i : Nat} (hM : MObj T) (hli : li < 6) (hi : i < 200) (hq : Q (some (.int (I 145 (402 * li + 202 + i)))) T I J) : PW G x0 l mX12_length d (ZM G x0 Q) k n 0 [(0, .ref (x0 + 144)), (1, .int (zI li)), (2, .int (zI i))] [] T I J := by
  obtain ⟨o1, o2⟩ := hM.o
  obtain ⟨r145, b145, k145, n145⟩ := hM.a145
  refine s_aload_n (i := 0) dX12_length_0 rfl rfl ?_
  refine s_getR dX12_length_1 fl_X12_7 (by assumption) (by assumption) (by assumption) ?_
  refine s_sipush (v := 402) dX12_length_4 (by decide) ?_
  refine s_iload_n (i := 1) dX12_length_7 rfl rfl ?_
  refine s_imul dX12_length_8 ?_
  refine s_sipush (v := 202) dX12_length_9 (by decide) ?_
  refine s_iadd dX12_length_12 ?_
  refine s_iload_n (i := 2) dX12_length_13 rfl rfl ?_
  refine s_iadd dX12_length_14 ?_
  refine s_ildn (j := 402 * li + 202 + i) dX12_length_15 (by assumption) (by assumption) (by assumption) (by first | with_reducible rfl | ((try simp only [z0, z1, zm1, zm2, zm3, zm4, zl2, zl3, zl4, zl5, zl6, zl7, zl8, zl9, zl10, zl20, zl28, zl31, zl32, zl33, zl48, zl57, zl64, zl100, zl127, zl200, zl201, zl202, zl402, zl1200, zl2412, zl16884, zI_add, zI_sub, zI_mul, zI_inc, zI_dec]) <;> (congr 1 <;> omega))) (by omega) (by decide) ?_
  refine s_iret dX12_length_16 rfl ?_
  exact hq
set_option maxRecDepth 100000 in
set_option maxHeartbeats 1000000 in
theorem m_isBlock {G : fG} {x0 : Nat} {l : Launch} {d k n : Nat} {T : fT} {I : fI} {J : fJ} {Q : Option Value → fT → fI → fJ → Prop} {x y : Int32} {S : ASt} (hS : MIs T I S) (hk : SOk S) (hy : ∀ li j : Nat, x = zI li → y = zI j → li < 6 → j < (S.1 li).2.2.2 → Q (some (.int 1)) T I J) (hn : ¬ ((0 ≤ x.toInt ∧ x.toInt < 6) ∧ 0 ≤ y.toInt ∧ y.toInt < (S.1 x.toInt.toNat).2.2.2) → Q (some (.int 0)) T I J) : PW G x0 l mX12_isBlock (d + 2) (ZM G x0 Q) k n 0 [(0, .ref (x0 + 144)), (1, .int x), (2, .int y)] [] T I J := by
  have hM := hS.1
  obtain ⟨o1, o2⟩ := hM.o
  refine s_iload_n (i := 1) dX12_isBlock_0 rfl rfl ?_
  refine s_cS_I (My := mX12_isList) dX12_isBlock_1 wM_X12_73 cb_yX12_isList wT_yX12_isList (Nat.le_of_ble_eq_true rfl) (by decide) (m_isList (d := d) ?_ ?_)
  · intro hx
    obtain ⟨li, hli, rfl⟩ := lidx hx
    have hxt : (zI (li : Int)).toInt = li := zI_t (by omega) (by omega)
    have hL := hk.1 li hli
    have hnm := hL.nbm
    have hm := hL.1
    have hnb := (hS.L hli).2.2.1
    rw [hxt, Int.toNat_natCast] at hn
    have e0 : ((0 : Int32)).toInt = 0 := by decide
    have e1 : (zI (((S.1 li).2.2.2 : Int) - 1)).toInt = ((S.1 li).2.2.2 : Int) - 1 := zI_t (by omega) (by omega)
    refine s_if_eq (tgt := 26) dX12_isBlock_4 (by decide) (fun c4 => absurd c4 (by decide)) (fun c4 => ?_)
    refine s_iload_n (i := 2) dX12_isBlock_7 rfl rfl ?_
    refine s_iconst (v := 0) dX12_isBlock_8 (by decide) ?_
    refine s_aload_n (i := 0) dX12_isBlock_9 rfl rfl ?_
    refine s_iload_n (i := 1) dX12_isBlock_10 rfl rfl ?_
    refine s_cV_I (My := mX12_blocks) dX12_isBlock_11 wM_X12_77 cb_yX12_blocks ci_yX12_blocks (by assumption) (by assumption) (Nat.le_of_ble_eq_true rfl) (by decide) (s_d (by omega) (m_blocks (d := 0) hM hli ?_))
    rw [hnb]
    refine s_iconst (v := 1) dX12_isBlock_14 (by decide) ?_
    refine s_isub dX12_isBlock_15 ?_
    refine s_topi (y := zI (((S.1 li).2.2.2 : Int) - 1)) (by first | with_reducible rfl | ((try simp only [z0, z1, zm1, zm2, zm3, zm4, zl2, zl3, zl4, zl5, zl6, zl7, zl8, zl9, zl10, zl20, zl28, zl31, zl32, zl33, zl48, zl57, zl64, zl100, zl127, zl200, zl201, zl202, zl402, zl1200, zl2412, zl16884, zI_add, zI_sub, zI_mul, zI_inc, zI_dec]) <;> (congr 1 <;> omega))) ?_
    refine s_cS_III (My := mX12_in) dX12_isBlock_16 wM_X12_68 cb_yX12_in wT_yX12_in (Nat.le_of_ble_eq_true rfl) (by decide) (s_d (by omega) (m_in (d := 0) ?_ ?_))
    · intro hc
      rw [e0, e1] at hc
      refine s_if_eq (tgt := 26) dX12_isBlock_19 (by decide) (fun h19 => absurd h19 (by decide)) (fun h19 => ?_)
      refine s_iconst (v := 1) dX12_isBlock_22 (by decide) ?_
      refine s_goto (tgt := 27) dX12_isBlock_23 (by decide) ?_
      refine s_zret dX12_isBlock_27 rfl (by first | exact Or.inl rfl | exact Or.inr rfl) ?_
      exact hy li y.toInt.toNat rfl (t_zI (by omega)) hli (by omega)
    · intro hc
      rw [e0, e1] at hc
      refine s_if_eq (tgt := 26) dX12_isBlock_19 (by decide) (fun h19 => ?_) (fun h19 => absurd (rfl) h19)
      refine s_iconst (v := 0) dX12_isBlock_26 (by decide) ?_
      refine s_zret dX12_isBlock_27 rfl (by first | exact Or.inl rfl | exact Or.inr rfl) ?_
      exact hn (fun h => by omega)
  · intro hx
    refine s_if_eq (tgt := 26) dX12_isBlock_4 (by decide) (fun c4 => ?_) (fun c4 => absurd (rfl) c4)
    refine s_iconst (v := 0) dX12_isBlock_26 (by decide) ?_
    refine s_zret dX12_isBlock_27 rfl (by first | exact Or.inl rfl | exact Or.inr rfl) ?_
    exact hn (fun h => hx h.1)
theorem LOk.bf0 {L : LSt} (h : LOk L) : bf L 0 = 0 := by unfold bf; rw [h.2.2.2.1]; rfl
theorem LOk.bfs {L : LSt} (h : LOk L) {j : Nat} (hj : j + 1 < L.2.2.2) : bf L (j + 1) = bf L j + bl L j := by
  have h1 := (h.blk (j := j) (by omega)).2.2.1
  have h2 := (h.blk (j := j + 1) hj).2.1
  rw [show ((j + 1 : Nat) : Int) = (j : Int) + 1 by omega] at h2
  omega
theorem LOk.bfl {L : LSt} (h : LOk L) {j : Nat} (hj : j + 1 = L.2.2.2) : bf L j + bl L j = L.2.1 := by
  have h1 := (h.blk (j := j) (by omega)).2.2.1
  rw [stf_natS, if_neg (by omega)] at h1
  omega
theorem LOk.mono {L : LSt} (h : LOk L) : ∀ t i, i + t < L.2.2.2 → bf L i ≤ bf L (i + t) := by
  intro t
  induction t with
  | zero => intro i _; exact Nat.le_refl _
  | succ t ih =>
    intro i hi
    have h1 := ih i (by omega)
    have h2 := h.bfs (j := i + t) (by omega)
    rw [show i + (t + 1) = i + t + 1 by omega]
    omega
/-- the block that holds an index -/
theorem LB.idx {L : LSt} (h : LOk L) {q j : Nat} (hq : q < L.2.1) (hB : LB L.1 L.2.2.1 L.2.2.2 (L.1 q) j) : j < L.2.2.2 ∧ bf L j ≤ q ∧ q < bf L j + bl L j := by
  obtain ⟨b1, b2, b3, b4⟩ := hB
  have hj : j < L.2.2.2 := by omega
  have hb := h.blk hj
  have e1 : (L.2.2.1 j).toNat = bf L j := rfl
  refine ⟨hj, ?_, ?_⟩
  · have h1 := b3 j (Int.le_refl _)
    rw [e1] at h1
    rcases Nat.lt_or_ge q (bf L j) with c | c
    · have := h.2.1 q (bf L j) c (by omega)
      omega
    · exact c
  · rcases Nat.lt_or_ge (j + 1) L.2.2.2 with c | c
    · have h1 := b4 (j + 1) (by omega) c
      rw [show (L.2.2.1 (j + 1)).toNat = bf L (j + 1) from rfl, h.bfs c] at h1
      rcases Nat.lt_or_ge q (bf L j + bl L j) with e | e
      · exact e
      · rcases Nat.lt_or_ge (bf L j + bl L j) q with e2 | e2
        · have := h.2.1 _ q e2 hq
          omega
        · rw [show bf L j + bl L j = q by omega] at h1
          omega
    · have := h.bfl (j := j) (by omega)
      omega
set_option maxRecDepth 100000 in
set_option maxHeartbeats 1000000 in
theorem ml_begin {G : fG} {x0 : Nat} {l : Launch} {d k n : Nat} {T : fT} {I : fI} {J : fJ} {Q : Option Value → fT → fI → fJ → Prop} {li j : Nat} {L : LSt} (hM : MObj T) (hli : li < 6) (hL : LOk L) (hm : ML (I 145) (402 * li) L) (hj : j < L.2.2.2) (hq : Q (some (.int (zI (bf L j)))) T I J) : ∀ (t i : Nat), i + t = j → PW G x0 l mX12_begin (d + 1) (ZM G x0 Q) k n 5 [(0, .ref (x0 + 144)), (1, .int (zI li)), (2, .int (zI j)), (3, .int (zI (bf L i))), (4, .int (zI i))] [] T I J := by
  obtain ⟨o1, o2⟩ := hM.o
  have hnm := hL.nbm
  have hmm := hL.1
  intro t
  induction t with
  | zero =>
    intro i ht
    have hij : i = j := by omega
    subst hij
    refine s_iload dX12_begin_5 rfl ?_
    refine s_iload_n (i := 2) dX12_begin_7 rfl rfl ?_
    refine s_icmp_ge (tgt := 27) dX12_begin_8 (by decide) (fun h8 => ?_) (fun h8 => absurd ((zI_le (by omega) (by omega) (by omega) (by omega)).mpr (by omega)) h8)
    refine s_iload_n (i := 3) dX12_begin_27 rfl rfl ?_
    refine s_iret dX12_begin_28 rfl ?_
    exact hq
  | succ t ih =>
    intro i ht
    refine s_iload dX12_begin_5 rfl ?_
    refine s_iload_n (i := 2) dX12_begin_7 rfl rfl ?_
    refine s_icmp_ge (tgt := 27) dX12_begin_8 (by decide) (fun h8 => absurd h8 (fun h => by rw [zI_le (by omega) (by omega) (by omega) (by omega)] at h; omega)) (fun h8 => ?_)
    refine s_iload_n (i := 3) dX12_begin_11 rfl rfl ?_
    refine s_aload_n (i := 0) dX12_begin_12 rfl rfl ?_
    refine s_iload_n (i := 1) dX12_begin_13 rfl rfl ?_
    refine s_iload dX12_begin_14 rfl ?_
    refine s_cV_II (My := mX12_length) dX12_begin_16 wM_X12_81 cb_yX12_length ci_yX12_length (by assumption) (by assumption) (Nat.le_of_ble_eq_true rfl) (by decide) (s_d (by omega) (m_length (d := 0) hM hli (by omega) ?_))
    rw [hm.2.2.2 i (by omega)]
    refine s_iadd dX12_begin_19 ?_
    refine s_topi (y := zI ((bf L (i + 1) : Nat) : Int)) (by rw [zI_add, hL.bfs (j := i) (by omega)]; congr 1) ?_
    refine s_istore_n (i := 3) dX12_begin_20 rfl (by decide) (by simp only [sl, sl2, rm, Value.category, reduceIte, Nat.reduceAdd, Nat.reduceEqDiff, reduceCtorEq]; rfl) ?_
    refine s_iinc dX12_begin_21 rfl (zI_inc _) (by decide) (by simp only [sl, sl2, rm, Value.category, reduceIte, Nat.reduceAdd, Nat.reduceEqDiff, reduceCtorEq]; rfl) ?_
    refine s_goto (tgt := 5) dX12_begin_24 (by decide) ?_
    exact ih (i + 1) (by omega)
set_option maxRecDepth 100000 in
set_option maxHeartbeats 1000000 in
theorem m_begin {G : fG} {x0 : Nat} {l : Launch} {d k n : Nat} {T : fT} {I : fI} {J : fJ} {Q : Option Value → fT → fI → fJ → Prop} {li j : Nat} {L : LSt} (hM : MObj T) (hli : li < 6) (hL : LOk L) (hm : ML (I 145) (402 * li) L) (hj : j < L.2.2.2) (hq : Q (some (.int (zI (bf L j)))) T I J) : PW G x0 l mX12_begin (d + 1) (ZM G x0 Q) k n 0 [(0, .ref (x0 + 144)), (1, .int (zI li)), (2, .int (zI j))] [] T I J := by
  have h := ml_begin (G := G) (x0 := x0) (l := l) (d := d) (k := k) (n := n) hM hli hL hm hj hq j 0 (by omega)
  rw [hL.bf0] at h
  refine s_iconst (v := 0) dX12_begin_0 (by decide) ?_
  refine s_istore_n (i := 3) dX12_begin_1 rfl (by decide) (by simp only [sl, sl2, rm, Value.category, reduceIte, Nat.reduceAdd, Nat.reduceEqDiff, reduceCtorEq]; rfl) ?_
  refine s_iconst (v := 0) dX12_begin_2 (by decide) ?_
  refine s_istore dX12_begin_3 (by decide) (by simp only [sl, sl2, rm, Value.category, reduceIte, Nat.reduceAdd, Nat.reduceEqDiff, reduceCtorEq]; rfl) ?_
  exact h
set_option maxRecDepth 100000 in
set_option maxHeartbeats 1000000 in
theorem ml_blockOf {G : fG} {x0 : Nat} {l : Launch} {d k n : Nat} {T : fT} {I : fI} {J : fJ} {Q : Option Value → fT → fI → fJ → Prop} {li j q : Nat} {L : LSt} (hM : MObj T) (hli : li < 6) (hL : LOk L) (hm : ML (I 145) (402 * li) L) (hj : j < L.2.2.2) (h1 : bf L j ≤ q) (h2 : q < bf L j + bl L j) (hq : Q (some (.int (zI j))) T I J) : ∀ (t i : Nat), i + t = j → PW G x0 l mX12_blockOf (d + 2) (ZM G x0 Q) k n 2 [(0, .ref (x0 + 144)), (1, .int (zI li)), (2, .int (zI q)), (3, .int (zI i))] [] T I J := by
  obtain ⟨o1, o2⟩ := hM.o
  have hnm := hL.nbm
  have hmm := hL.1
  intro t
  induction t with
  | zero =>
    intro i ht
    have hij : i = j := by omega
    subst hij
    have hb := hL.blk hj
    refine s_aload_n (i := 0) dX12_blockOf_2 rfl rfl ?_
    refine s_iload_n (i := 1) dX12_blockOf_3 rfl rfl ?_
    refine s_iload_n (i := 3) dX12_blockOf_4 rfl rfl ?_
    refine s_cV_II (My := mX12_begin) dX12_blockOf_5 wM_X12_85 cb_yX12_begin ci_yX12_begin (by assumption) (by assumption) (Nat.le_of_ble_eq_true rfl) (by decide) (s_d (by omega) (m_begin (d := 0) hM hli hL hm (by omega) ?_))
    refine s_aload_n (i := 0) dX12_blockOf_8 rfl rfl ?_
    refine s_iload_n (i := 1) dX12_blockOf_9 rfl rfl ?_
    refine s_iload_n (i := 3) dX12_blockOf_10 rfl rfl ?_
    refine s_cV_II (My := mX12_length) dX12_blockOf_11 wM_X12_81 cb_yX12_length ci_yX12_length (by assumption) (by assumption) (Nat.le_of_ble_eq_true rfl) (by decide) (s_d (by omega) (m_length (d := 0) hM hli (by omega) ?_))
    rw [hm.2.2.2 i (by omega)]
    refine s_iadd dX12_blockOf_14 ?_
    refine s_topi (y := zI ((bf L i + bl L i : Nat) : Int)) (by first | with_reducible rfl | ((try simp only [z0, z1, zm1, zm2, zm3, zm4, zl2, zl3, zl4, zl5, zl6, zl7, zl8, zl9, zl10, zl20, zl28, zl31, zl32, zl33, zl48, zl57, zl64, zl100, zl127, zl200, zl201, zl202, zl402, zl1200, zl2412, zl16884, zI_add, zI_sub, zI_mul, zI_inc, zI_dec]) <;> (congr 1 <;> omega))) ?_
    refine s_iload_n (i := 2) dX12_blockOf_15 rfl rfl ?_
    refine s_icmp_gt (tgt := 25) dX12_blockOf_16 (by decide) (fun h16 => ?_) (fun h16 => absurd ((zI_lt (by omega) (by omega) (by omega) (by omega)).mpr (by omega)) h16)
    refine s_iload_n (i := 3) dX12_blockOf_25 rfl rfl ?_
    refine s_iret dX12_blockOf_26 rfl ?_
    exact hq
  | succ t ih =>
    intro i ht
    have hb := hL.blk (j := i) (by omega)
    have hb2 := hL.bfs (j := i) (by omega)
    have hb3 := hL.mono t (i + 1) (by omega)
    rw [show i + 1 + t = j by omega] at hb3
    have hb4 := (hL.blk hj).2.2.2.2.2
    refine s_aload_n (i := 0) dX12_blockOf_2 rfl rfl ?_
    refine s_iload_n (i := 1) dX12_blockOf_3 rfl rfl ?_
    refine s_iload_n (i := 3) dX12_blockOf_4 rfl rfl ?_
    refine s_cV_II (My := mX12_begin) dX12_blockOf_5 wM_X12_85 cb_yX12_begin ci_yX12_begin (by assumption) (by assumption) (Nat.le_of_ble_eq_true rfl) (by decide) (s_d (by omega) (m_begin (d := 0) hM hli hL hm (by omega) ?_))
    refine s_aload_n (i := 0) dX12_blockOf_8 rfl rfl ?_
    refine s_iload_n (i := 1) dX12_blockOf_9 rfl rfl ?_
    refine s_iload_n (i := 3) dX12_blockOf_10 rfl rfl ?_
    refine s_cV_II (My := mX12_length) dX12_blockOf_11 wM_X12_81 cb_yX12_length ci_yX12_length (by assumption) (by assumption) (Nat.le_of_ble_eq_true rfl) (by decide) (s_d (by omega) (m_length (d := 0) hM hli (by omega) ?_))
    rw [hm.2.2.2 i (by omega)]
    refine s_iadd dX12_blockOf_14 ?_
    refine s_topi (y := zI ((bf L i + bl L i : Nat) : Int)) (by first | with_reducible rfl | ((try simp only [z0, z1, zm1, zm2, zm3, zm4, zl2, zl3, zl4, zl5, zl6, zl7, zl8, zl9, zl10, zl20, zl28, zl31, zl32, zl33, zl48, zl57, zl64, zl100, zl127, zl200, zl201, zl202, zl402, zl1200, zl2412, zl16884, zI_add, zI_sub, zI_mul, zI_inc, zI_dec]) <;> (congr 1 <;> omega))) ?_
    refine s_iload_n (i := 2) dX12_blockOf_15 rfl rfl ?_
    refine s_icmp_gt (tgt := 25) dX12_blockOf_16 (by decide) (fun h16 => absurd h16 (fun h => by rw [zI_lt (by omega) (by omega) (by omega) (by omega)] at h; omega)) (fun h16 => ?_)
    refine s_iinc dX12_blockOf_19 rfl (zI_inc _) (by decide) (by simp only [sl, sl2, rm, Value.category, reduceIte, Nat.reduceAdd, Nat.reduceEqDiff, reduceCtorEq]; rfl) ?_
    refine s_goto (tgt := 2) dX12_blockOf_22 (by decide) ?_
    exact ih (i + 1) (by omega)
set_option maxRecDepth 100000 in
set_option maxHeartbeats 1000000 in
theorem m_blockOf {G : fG} {x0 : Nat} {l : Launch} {d k n : Nat} {T : fT} {I : fI} {J : fJ} {Q : Option Value → fT → fI → fJ → Prop} {li j q : Nat} {L : LSt} (hM : MObj T) (hli : li < 6) (hL : LOk L) (hm : ML (I 145) (402 * li) L) (hj : j < L.2.2.2) (h1 : bf L j ≤ q) (h2 : q < bf L j + bl L j) (hq : Q (some (.int (zI j))) T I J) : PW G x0 l mX12_blockOf (d + 2) (ZM G x0 Q) k n 0 [(0, .ref (x0 + 144)), (1, .int (zI li)), (2, .int (zI q))] [] T I J := by
  refine s_iconst (v := 0) dX12_blockOf_0 (by decide) ?_
  refine s_istore_n (i := 3) dX12_blockOf_1 rfl (by decide) (by simp only [sl, sl2, rm, Value.category, reduceIte, Nat.reduceAdd, Nat.reduceEqDiff, reduceCtorEq]; rfl) ?_
  exact ml_blockOf hM hli hL hm hj h1 h2 hq j 0 (by omega)
set_option maxRecDepth 100000 in
set_option maxHeartbeats 1000000 in
theorem ml_bits {G : fG} {x0 : Nat} {l : Launch} {d k n : Nat} {T : fT} {I : fI} {J : fJ} {Q : Option Value → fT → fI → fJ → Prop} {x : Int} (h0 : 0 ≤ x) (h1 : x < 1048576) (hq : Q (some (.int (zI (nbt x.toNat)))) T I J) : ∀ (z i : Nat), 20 - i ≤ z → i ≤ nbt x.toNat → PW G x0 l mX12_bitsOf d (ZM G x0 Q) k n 2 [(0, .int (zI x)), (1, .int (zI i))] [] T I J := by
  have hb : nbt x.toNat ≤ 20 := nbt_le.mpr (by omega)
  intro z
  induction z with
  | zero =>
    intro i hz hi
    have hp : (0 : Int) < 2 ^ (i : Int).toNat := Int.pow_pos (by omega)
    have h3 : x < 2 ^ (i : Int).toNat := by
      have h4 := nbt_le (x := x.toNat) (w := i) |>.mp (by omega)
      have h5 : ((x.toNat : Nat) : Int) < ((2 ^ i : Nat) : Int) := Int.ofNat_lt.mpr h4
      rw [Int.toNat_of_nonneg h0] at h5
      simpa using h5
    have h4 : x / 2 ^ (i : Int).toNat = 0 := Int.ediv_eq_zero_of_lt h0 h3
    refine s_iload_n (i := 0) dX12_bitsOf_2 rfl rfl ?_
    refine s_iload_n (i := 1) dX12_bitsOf_3 rfl rfl ?_
    refine s_ishr dX12_bitsOf_4 ?_
    refine s_topi (zI_shr h0 (by omega) (by omega) (by omega)) ?_
    rw [h4]
    refine s_if_le (tgt := 14) dX12_bitsOf_5 (by decide) (fun h5 => ?_) (fun h5 => absurd (by decide) h5)
    refine s_iload_n (i := 1) dX12_bitsOf_14 rfl rfl ?_
    refine s_iret dX12_bitsOf_15 rfl ?_
    rw [show (i : Int) = nbt x.toNat by omega]; exact hq
  | succ z ih =>
    intro i hz hi
    refine s_iload_n (i := 0) dX12_bitsOf_2 rfl rfl ?_
    refine s_iload_n (i := 1) dX12_bitsOf_3 rfl rfl ?_
    refine s_ishr dX12_bitsOf_4 ?_
    refine s_topi (zI_shr h0 (by omega) (by omega) (by omega)) ?_
    have hp : (0 : Int) < 2 ^ (i : Int).toNat := Int.pow_pos (by omega)
    have hle : x / 2 ^ (i : Int).toNat ≤ x := Int.ediv_le_self _ h0
    have hnn : 0 ≤ x / 2 ^ (i : Int).toNat := Int.ediv_nonneg h0 (by omega)
    refine s_if_le (tgt := 14) dX12_bitsOf_5 (by decide) (fun c11 => ?_) (fun c11 => ?_)
    · refine s_iload_n (i := 1) dX12_bitsOf_14 rfl rfl ?_
      refine s_iret dX12_bitsOf_15 rfl ?_
      have e : i = nbt x.toNat := by
        refine Nat.le_antisymm hi ?_
        rw [nbt_le]
        rw [z0, zI_le (by omega) (by omega) (by omega) (by omega)] at c11
        have h3 : x < 2 ^ (i : Int).toNat := by
          rcases Int.lt_or_le x (2 ^ (i : Int).toNat) with h | h
          · exact h
          · have : 1 ≤ x / 2 ^ (i : Int).toNat := (Int.le_ediv_iff_mul_le hp).mpr (by omega)
            omega
        have h4 : (x.toNat : Int) < ((2 ^ i : Nat) : Int) := by
          rw [Int.toNat_of_nonneg h0]
          simpa using h3
        omega
      rw [e]
      exact hq
    · refine s_iinc dX12_bitsOf_8 rfl (zI_inc _) (by decide) (by simp only [sl, sl2, rm, Value.category, reduceIte, Nat.reduceAdd, Nat.reduceEqDiff, reduceCtorEq]; rfl) ?_
      refine s_goto (tgt := 2) dX12_bitsOf_11 (by decide) ?_
      have h2 : i < nbt x.toNat := by
        rw [lt_nbt]
        rw [z0, zI_le (by omega) (by omega) (by omega) (by omega)] at c11
        have h3 : (2 : Int) ^ (i : Int).toNat ≤ x := by
          have := (Int.le_ediv_iff_mul_le hp).mp (show 1 ≤ x / 2 ^ (i : Int).toNat by omega)
          omega
        have h4 : ((2 ^ i : Nat) : Int) ≤ (x.toNat : Int) := by
          rw [Int.toNat_of_nonneg h0]
          simpa using h3
        omega
      exact ih (i + 1) (by omega) (by omega)
set_option maxRecDepth 100000 in
set_option maxHeartbeats 1000000 in
theorem m_bits {G : fG} {x0 : Nat} {l : Launch} {d k n : Nat} {T : fT} {I : fI} {J : fJ} {Q : Option Value → fT → fI → fJ → Prop} {x : Int} (h0 : 0 ≤ x) (h1 : x < 1048576) (hq : Q (some (.int (zI (nbt x.toNat)))) T I J) : PW G x0 l mX12_bitsOf d (ZM G x0 Q) k n 0 [(0, .int (zI x))] [] T I J := by
  refine s_iconst (v := 0) dX12_bitsOf_0 (by decide) ?_
  refine s_istore_n (i := 1) dX12_bitsOf_1 rfl (by decide) (by simp only [sl, sl2, rm, Value.category, reduceIte, Nat.reduceAdd, Nat.reduceEqDiff, reduceCtorEq]; rfl) ?_
  exact ml_bits h0 h1 hq 20 0 (by omega) (Nat.zero_le _)
set_option maxRecDepth 100000 in
set_option maxHeartbeats 1000000 in
theorem m_gap {G : fG} {x0 : Nat} {l : Launch} {d k n : Nat} {T : fT} {I : fI} {J : fJ} {Q : Option Value → fT → fI → fJ → Prop} {li i : Nat} {L : LSt} (hM : MObj T) (hli : li < 6) (hL : LOk L) (hm : ML (I 145) (402 * li) L) (h1 : 1 ≤ i) (h2 : i < L.2.1) (hq : Q (some (.int (zI (gp L.1 i)))) T I J) : PW G x0 l mX12_gap (d + 1) (ZM G x0 Q) k n 0 [(0, .ref (x0 + 144)), (1, .int (zI li)), (2, .int (zI i))] [] T I J := by
  obtain ⟨o1, o2⟩ := hM.o
  have hmm := hL.1
  have hg := hL.gap i h1 h2
  have e : ((gp L.1 i : Nat) : Int) = L.1 i - L.1 (i - 1) - 1 := by unfold gp; omega
  refine s_aload_n (i := 0) dX12_gap_0 rfl rfl ?_
  refine s_iload_n (i := 1) dX12_gap_1 rfl rfl ?_
  refine s_iload_n (i := 2) dX12_gap_2 rfl rfl ?_
  refine s_cV_II (My := mX12_number) dX12_gap_3 wM_X12_103 cb_yX12_number ci_yX12_number (by assumption) (by assumption) (Nat.le_of_ble_eq_true rfl) (by decide) (s_d (by omega) (m_number (d := 0) hM hli (by omega) ?_))
  rw [hm.2.1 i h2]
  refine s_aload_n (i := 0) dX12_gap_6 rfl rfl ?_
  refine s_iload_n (i := 1) dX12_gap_7 rfl rfl ?_
  refine s_iload_n (i := 2) dX12_gap_8 rfl rfl ?_
  refine s_iconst (v := 1) dX12_gap_9 (by decide) ?_
  refine s_isub dX12_gap_10 ?_
  refine s_topi (y := zI ((i - 1 : Nat) : Int)) (by first | with_reducible rfl | ((try simp only [z0, z1, zm1, zm2, zm3, zm4, zl2, zl3, zl4, zl5, zl6, zl7, zl8, zl9, zl10, zl20, zl28, zl31, zl32, zl33, zl48, zl57, zl64, zl100, zl127, zl200, zl201, zl202, zl402, zl1200, zl2412, zl16884, zI_add, zI_sub, zI_mul, zI_inc, zI_dec]) <;> (congr 1 <;> omega))) ?_
  refine s_cV_II (My := mX12_number) dX12_gap_11 wM_X12_103 cb_yX12_number ci_yX12_number (by assumption) (by assumption) (Nat.le_of_ble_eq_true rfl) (by decide) (s_d (by omega) (m_number (d := 0) (i := i - 1) hM hli (by omega) ?_))
  rw [hm.2.1 (i - 1) (by omega)]
  refine s_isub dX12_gap_14 ?_
  refine s_iconst (v := 1) dX12_gap_15 (by decide) ?_
  refine s_isub dX12_gap_16 ?_
  refine s_topi (y := zI (gp L.1 i)) (by first | with_reducible rfl | ((try simp only [z0, z1, zm1, zm2, zm3, zm4, zl2, zl3, zl4, zl5, zl6, zl7, zl8, zl9, zl10, zl20, zl28, zl31, zl32, zl33, zl48, zl57, zl64, zl100, zl127, zl200, zl201, zl202, zl402, zl1200, zl2412, zl16884, zI_add, zI_sub, zI_mul, zI_inc, zI_dec]) <;> (congr 1 <;> omega))) ?_
  refine s_iret dX12_gap_17 rfl ?_
  exact hq
