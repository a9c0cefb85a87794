/-! FLAT MEMORY. The world is a list of cells at x0, x0 + 1, ..; cell a has a kind (0..12 an object of that class of vwCl, 13 int[], 14 long[], 15 CutList[], 16 Window[]), a length, references V a j, ints I a j, longs J a j. -/
abbrev fG : Type := va_G × ClassId × ClassId × ClassId × ClassId × Nat
abbrev fT : Type := Nat × (Nat → Nat) × (Nat → Nat) × (Nat → Nat → Option Nat)
abbrev fI : Type := Nat → Nat → Int32
abbrev fJ : Type := Nat → Nat → Int64
abbrev fM : Type := fM0
def fm_ty (c : Nat) : List Nat := match c with
  | 0 => [1, 1, 0, 0, 0, 0, 0]
  | 1 => [1, 1, 0, 0, 0]
  | 2 => [1, 1, 0]
  | 3 => [1, 1, 0, 0]
  | 4 => [0, 0]
  | 5 => [1, 1, 0, 0]
  | 6 => [1, 1, 1, 1, 1, 1, 1, 1]
  | 7 => [1, 1, 0, 0]
  | 8 => [1, 1, 1]
  | 9 => [1, 0]
  | 10 => [0, 1, 1, 0, 0, 0]
  | 11 => [1, 1, 1, 1, 1, 1, 1, 1, 1, 1]
  | 12 => [1, 1, 0, 1, 1, 0, 0, 0, 1, 0, 0, 1, 1, 0, 1, 1, 1, 1, 0, 0, 0, 1, 0, 0, 1, 1, 1, 0, 0, 1, 0, 1, 0, 0, 2]
  | _ => []
def fm_v (x0 : Nat) (r : Option Nat) (i : Int32) (j : Int64) (t : Nat) : Value := match t with
  | 0 => .int i
  | 1 => va_rf (r.map (fun z => x0 + z))
  | _ => .long j
def fm_fs (x0 : Nat) (v : Nat → Option Nat) (i : Nat → Int32) (j : Nat → Int64) : Nat → List Nat → List Value
  | _, [] => []
  | q, t :: r => fm_v x0 (v q) (i q) (j q) t :: fm_fs x0 v i j (q + 1) r
theorem fm_fs_get (x0 : Nat) (v : Nat → Option Nat) (i : Nat → Int32) (j : Nat → Int64) (ts : List Nat) : ∀ (q k : Nat), (fm_fs x0 v i j q ts)[k]? = ts[k]?.map (fun t => fm_v x0 (v (q + k)) (i (q + k)) (j (q + k)) t) := by
  induction ts with
  | nil => intro q k; simp [fm_fs]
  | cons t r ih =>
    intro q k
    cases k with
    | zero => simp [fm_fs]
    | succ k =>
      simp only [fm_fs, List.getElem?_cons_succ]
      rw [ih (q + 1) k, show q + 1 + k = q + (k + 1) by omega]
theorem fm_fs_len (x0 : Nat) (v : Nat → Option Nat) (i : Nat → Int32) (j : Nat → Int64) (ts : List Nat) : ∀ q : Nat, (fm_fs x0 v i j q ts).length = ts.length := by
  induction ts with
  | nil => intro q; rfl
  | cons t r ih => intro q; simp [fm_fs, ih]
/-- one field written -/
theorem fm_fs_set {x0 : Nat} {v v' : Nat → Option Nat} {i i' : Nat → Int32} {j j' : Nat → Int64} {ts : List Nat} {k t : Nat} {w : Value} (ht : ts[k]? = some t) (hw : fm_v x0 (v' k) (i' k) (j' k) t = w)
    (ho : ∀ q, q ≠ k → v' q = v q ∧ i' q = i q ∧ j' q = j q) : (fm_fs x0 v i j 0 ts).set k w = fm_fs x0 v' i' j' 0 ts := by
  apply List.ext_getElem?
  intro q
  rw [fm_fs_get]
  by_cases hq : q = k
  · subst hq
    rw [List.getElem?_set_self (by rw [fm_fs_len]; exact (List.getElem?_eq_some_iff.mp ht).1), ht]
    simp [hw]
  · rw [List.getElem?_set_ne (Ne.symm hq), fm_fs_get]
    obtain ⟨h1, h2, h3⟩ := ho q hq
    simp [h1, h2, h3]
def fm_E (G : fG) (x0 : Nat) (T : fT) (I : fI) (J : fJ) (a : Nat) : va_E :=
  if T.2.1 a = 13 then .inl (G.2.1, T.2.2.1 a, .inl (I a))
  else if T.2.1 a = 14 then .inl (G.2.2.1, T.2.2.1 a, .inr (.inl (J a)))
  else if T.2.1 a = 15 then .inl (G.2.2.2.1, T.2.2.1 a, .inr (.inr (.inr (.inr (fun j => (T.2.2.2 a j).map (fun z => x0 + z))))))
  else if T.2.1 a = 16 then .inl (G.2.2.2.2.1, T.2.2.1 a, .inr (.inr (.inr (.inr (fun j => (T.2.2.2 a j).map (fun z => x0 + z))))))
  else .inr (T.2.1 a, fm_fs x0 (T.2.2.2 a) (I a) (J a) 0 (fm_ty (T.2.1 a)))
theorem fm_E_obj {G : fG} {x0 : Nat} {T : fT} {I : fI} {J : fJ} {a c : Nat} (h : T.2.1 a = c) (hc : c < 13) : fm_E G x0 T I J a = .inr (c, fm_fs x0 (T.2.2.2 a) (I a) (J a) 0 (fm_ty c)) := by
  unfold fm_E
  rw [if_neg (by omega), if_neg (by omega), if_neg (by omega), if_neg (by omega), h]
theorem fm_E_int {G : fG} {x0 : Nat} {T : fT} {I : fI} {J : fJ} {a : Nat} (h : T.2.1 a = 13) : fm_E G x0 T I J a = .inl (G.2.1, T.2.2.1 a, .inl (I a)) := by
  unfold fm_E
  rw [if_pos h]
theorem fm_E_long {G : fG} {x0 : Nat} {T : fT} {I : fI} {J : fJ} {a : Nat} (h : T.2.1 a = 14) : fm_E G x0 T I J a = .inl (G.2.2.1, T.2.2.1 a, .inr (.inl (J a))) := by
  unfold fm_E
  rw [if_neg (by omega), if_pos h]
theorem fm_E_cut {G : fG} {x0 : Nat} {T : fT} {I : fI} {J : fJ} {a : Nat} (h : T.2.1 a = 15) : fm_E G x0 T I J a = .inl (G.2.2.2.1, T.2.2.1 a, .inr (.inr (.inr (.inr (fun j => (T.2.2.2 a j).map (fun z => x0 + z)))))) := by
  unfold fm_E
  rw [if_neg (by omega), if_neg (by omega), if_pos h]
theorem fm_E_win {G : fG} {x0 : Nat} {T : fT} {I : fI} {J : fJ} {a : Nat} (h : T.2.1 a = 16) : fm_E G x0 T I J a = .inl (G.2.2.2.2.1, T.2.2.1 a, .inr (.inr (.inr (.inr (fun j => (T.2.2.2 a j).map (fun z => x0 + z)))))) := by
  unfold fm_E
  rw [if_neg (by omega), if_neg (by omega), if_neg (by omega), if_pos h]
/-- a cell is the same where what it is made of is the same -/
theorem fm_E_same {G : fG} {x0 : Nat} {T T' : fT} {I I' : fI} {J J' : fJ} {a : Nat} (h1 : T'.2.1 a = T.2.1 a) (h2 : T'.2.2.1 a = T.2.2.1 a) (h3 : T'.2.2.2 a = T.2.2.2 a) (h4 : I' a = I a) (h5 : J' a = J a) : fm_E G x0 T' I' J' a = fm_E G x0 T I J a := by
  unfold fm_E
  rw [h1, h2, h3, h4, h5]
def fm_W (G : fG) (x0 : Nat) (T : fT) (I : fI) (J : fJ) : va_W := (List.range T.1).map (fun a => (x0 + a, fm_E G x0 T I J a))
theorem fm_at {G : fG} {x0 : Nat} {T : fT} {I : fI} {J : fJ} {a : Nat} (h : a < T.1) {e : va_E} (he : fm_E G x0 T I J a = e) : (fm_W G x0 T I J)[a]? = some (x0 + a, e) := by
  unfold fm_W
  rw [List.getElem?_map, List.getElem?_range h, ← he]
  rfl
theorem fm_at_inv {G : fG} {x0 : Nat} {T : fT} {I : fI} {J : fJ} {k : Nat} {q : Nat × va_E} (h : (fm_W G x0 T I J)[k]? = some q) : k < T.1 ∧ q = (x0 + k, fm_E G x0 T I J k) := by
  have hl : k < T.1 := by
    have := (List.getElem?_eq_some_iff.mp h).1
    simpa [fm_W] using this
  have h2 := fm_at (G := G) (x0 := x0) (I := I) (J := J) hl rfl
  exact ⟨hl, Option.some.inj (h.symm.trans h2)⟩
theorem fm_set {G : fG} {x0 : Nat} {T T' : fT} {I I' : fI} {J J' : fJ} {a : Nat} {e : va_E} (h : a < T.1) (hN : T'.1 = T.1) (he : fm_E G x0 T' I' J' a = e) (ho : ∀ b, b ≠ a → fm_E G x0 T' I' J' b = fm_E G x0 T I J b) : (fm_W G x0 T I J).set a (x0 + a, e) = fm_W G x0 T' I' J' := by
  apply List.ext_getElem?
  intro q
  by_cases hq : q = a
  · subst hq
    rw [List.getElem?_set_self (by simpa [fm_W] using h), fm_at (by omega) he]
  · rw [List.getElem?_set_ne (Ne.symm hq)]
    unfold fm_W
    rw [hN, List.getElem?_map, List.getElem?_map]
    by_cases hl : q < T.1
    · rw [List.getElem?_range hl]
      simp [ho q hq]
    · rw [List.getElem?_eq_none (by simp; omega)]
      rfl
theorem fm_push {G : fG} {x0 : Nat} {T T' : fT} {I I' : fI} {J J' : fJ} {e : va_E} (hN : T'.1 = T.1 + 1) (he : fm_E G x0 T' I' J' T.1 = e) (ho : ∀ b, b < T.1 → fm_E G x0 T' I' J' b = fm_E G x0 T I J b) : fm_W G x0 T I J ++ [(x0 + T.1, e)] = fm_W G x0 T' I' J' := by
  unfold fm_W
  rw [hN, List.range_succ, List.map_append]
  congr 1
  · apply List.map_congr_left
    intro b hb
    rw [ho b (List.mem_range.mp hb)]
  · simp [he]
abbrev fm_A (x0 : Nat) : Nat → Prop := fun q => x0 ≤ q
theorem fm_D {G : fG} {x0 : Nat} {T : fT} {I : fI} {J : fJ} : va_D (fm_A x0) (fm_W G x0 T I J) := by
  refine ⟨fun i j p q hi hj hpq => ?_, fun k q hk => ?_⟩
  · obtain ⟨-, rfl⟩ := fm_at_inv hi
    obtain ⟨-, rfl⟩ := fm_at_inv hj
    dsimp only at hpq
    omega
  · obtain ⟨-, rfl⟩ := fm_at_inv hk
    exact Nat.le_add_right _ _
def fm_H (G : fG) (x0 : Nat) (T : fT) (I : fI) (J : fJ) (H : Heap) : Prop := va_P G.1 vwCl (fm_W G x0 T I J) H ∧ H.size = x0 + T.1
abbrev fm_tys (G : fG) : List (ClassId × FieldType) := [(G.2.1, .int), (G.2.2.1, .long), (G.2.2.2.1, .object "PackedLists$CutList"), (G.2.2.2.2.1, .object "PackedLists$Window")]
/-- writes of one int, one array of ints -/
def iu (I : fI) (a j : Nat) (w : Int32) : fI := fun b q => if b = a then (if q = j then w else I b q) else I b q
def ia (I : fI) (a : Nat) (f : Nat → Int32) : fI := fun b => if b = a then f else I b
def ju (J : fJ) (a j : Nat) (w : Int64) : fJ := fun b q => if b = a then (if q = j then w else J b q) else J b q
def ja (J : fJ) (a : Nat) (f : Nat → Int64) : fJ := fun b => if b = a then f else J b
def vu (V : Nat → Nat → Option Nat) (a j : Nat) (w : Option Nat) : Nat → Nat → Option Nat := fun b q => if b = a then (if q = j then w else V b q) else V b q
def vz (V : Nat → Nat → Option Nat) (a : Nat) : Nat → Nat → Option Nat := fun b => if b = a then (fun _ => none) else V b
def ku (K : Nat → Nat) (a c : Nat) : Nat → Nat := fun b => if b = a then c else K b
theorem iu_ne {I : fI} {a j b : Nat} {w : Int32} (h : b ≠ a) : iu I a j w b = I b := by funext q; simp [iu, h]
theorem ia_ne {I : fI} {a b : Nat} {f : Nat → Int32} (h : b ≠ a) : ia I a f b = I b := by simp [ia, h]
theorem ia_eq {I : fI} {a : Nat} {f : Nat → Int32} : ia I a f a = f := by simp [ia]
theorem ju_ne {J : fJ} {a j b : Nat} {w : Int64} (h : b ≠ a) : ju J a j w b = J b := by funext q; simp [ju, h]
theorem ja_ne {J : fJ} {a b : Nat} {f : Nat → Int64} (h : b ≠ a) : ja J a f b = J b := by simp [ja, h]
theorem ja_eq {J : fJ} {a : Nat} {f : Nat → Int64} : ja J a f a = f := by simp [ja]
theorem vu_ne {V : Nat → Nat → Option Nat} {a j b : Nat} {w : Option Nat} (h : b ≠ a) : vu V a j w b = V b := by funext q; simp [vu, h]
theorem vz_ne {V : Nat → Nat → Option Nat} {a b : Nat} (h : b ≠ a) : vz V a b = V b := by simp [vz, h]
theorem vz_eq {V : Nat → Nat → Option Nat} {a : Nat} : vz V a a = fun _ => none := by simp [vz]
theorem ku_ne {K : Nat → Nat} {a b c : Nat} (h : b ≠ a) : ku K a c b = K b := by simp [ku, h]
theorem ku_eq {K : Nat → Nat} {a c : Nat} : ku K a c a = c := by simp [ku]
/-! locals -/
def lk : List (Nat × Value) → Nat → Option Value
  | [], _ => none
  | (j, v) :: r, i => if j = i then some v else lk r i
theorem lk_mem {lv : List (Nat × Value)} {i : Nat} {v : Value} (h : lk lv i = some v) : (i, v) ∈ lv := by
  induction lv with
  | nil => simp [lk] at h
  | cons q r ih =>
    obtain ⟨j, w⟩ := q
    unfold lk at h
    split at h
    · next hj => subst hj; cases h; exact List.mem_cons_self
    · exact List.mem_cons_of_mem _ (ih h)
/-- without the place i, and without a long whose second half is there -/
def rm : List (Nat × Value) → Nat → List (Nat × Value)
  | [], _ => []
  | (j, v) :: r, i => if j = i then rm r i else if j + 1 = i then (if v.category = 2 then rm r i else (j, v) :: rm r i) else (j, v) :: rm r i
def sl : List (Nat × Value) → Nat → Value → List (Nat × Value)
  | [], i, x => [(i, x)]
  | (j, v) :: r, i, x => if j = i then (i, x) :: rm r i else if j + 1 = i then (if v.category = 2 then sl r i x else (j, v) :: sl r i x) else (j, v) :: sl r i x
theorem rm_mem {lv : List (Nat × Value)} {i : Nat} {q : Nat × Value} (h : q ∈ rm lv i) : q ∈ lv ∧ q.1 ≠ i ∧ ¬ (q.1 + 1 = i ∧ q.2.category = 2) := by
  induction lv with
  | nil => simp [rm] at h
  | cons p r ih =>
    obtain ⟨j, w⟩ := p
    unfold rm at h
    split at h
    · exact ⟨List.mem_cons_of_mem _ (ih h).1, (ih h).2⟩
    · next hj =>
      split at h
      · next hj2 =>
        split at h
        · exact ⟨List.mem_cons_of_mem _ (ih h).1, (ih h).2⟩
        · next hc =>
          rcases List.mem_cons.mp h with rfl | h
          · exact ⟨List.mem_cons_self, hj, fun z => hc z.2⟩
          · exact ⟨List.mem_cons_of_mem _ (ih h).1, (ih h).2⟩
      · next hj2 =>
        rcases List.mem_cons.mp h with rfl | h
        · exact ⟨List.mem_cons_self, hj, fun z => hj2 z.1⟩
        · exact ⟨List.mem_cons_of_mem _ (ih h).1, (ih h).2⟩
theorem sl_mem {lv : List (Nat × Value)} {i : Nat} {x : Value} {q : Nat × Value} (h : q ∈ sl lv i x) : q = (i, x) ∨ (q ∈ lv ∧ q.1 ≠ i ∧ ¬ (q.1 + 1 = i ∧ q.2.category = 2)) := by
  induction lv with
  | nil => exact Or.inl (List.mem_singleton.mp h)
  | cons p r ih =>
    obtain ⟨j, w⟩ := p
    have up : ∀ {q : Nat × Value}, (q = (i, x) ∨ (q ∈ r ∧ q.1 ≠ i ∧ ¬ (q.1 + 1 = i ∧ q.2.category = 2))) → (q = (i, x) ∨ (q ∈ (j, w) :: r ∧ q.1 ≠ i ∧ ¬ (q.1 + 1 = i ∧ q.2.category = 2))) := fun h => h.elim Or.inl (fun z => Or.inr ⟨List.mem_cons_of_mem _ z.1, z.2⟩)
    unfold sl at h
    split at h
    · rcases List.mem_cons.mp h with rfl | h
      · exact Or.inl rfl
      · exact up (Or.inr (rm_mem h))
    · next hj =>
      split at h
      · next hj2 =>
        split at h
        · exact up (ih h)
        · next hc =>
          rcases List.mem_cons.mp h with rfl | h
          · exact Or.inr ⟨List.mem_cons_self, hj, fun z => hc z.2⟩
          · exact up (ih h)
      · next hj2 =>
        rcases List.mem_cons.mp h with rfl | h
        · exact Or.inr ⟨List.mem_cons_self, hj, fun z => hj2 z.1⟩
        · exact up (ih h)
theorem sl_has1 {ls : Array Slot} {nL : Nat} {lv : List (Nat × Value)} {i : Nat} {x : Value} (h : lv_has ls nL ((i, x) :: lv.filter (fun q => !(q.1 == i) && !(q.1 + 1 == i && q.2.category == 2)))) : lv_has ls nL (sl lv i x) := by
  refine ⟨h.1, h.2.1, fun q hq => h.2.2 q ?_⟩
  rcases sl_mem hq with rfl | ⟨h1, h2, h3⟩
  · exact List.mem_cons_self
  · refine List.mem_cons_of_mem _ (List.mem_filter.mpr ⟨h1, ?_⟩)
    simp only [Bool.and_eq_true, Bool.not_eq_true', beq_eq_false_iff_ne, ne_eq, Bool.and_eq_false_imp, beq_iff_eq]
    exact ⟨h2, fun z1 z2 => h3 ⟨z1, z2⟩⟩
def sl2 (lv : List (Nat × Value)) (i : Nat) (x : Value) : List (Nat × Value) := sl (rm lv (i + 1)) i x
theorem sl_has2 {ls : Array Slot} {nL : Nat} {lv : List (Nat × Value)} {i : Nat} {x : Value} (h : lv_has ls nL ((i, x) :: lv.filter (fun q => !(q.1 == i) && (!(q.1 == i + 1) && !(q.1 + 1 == i && q.2.category == 2))))) : lv_has ls nL (sl2 lv i x) := by
  refine ⟨h.1, h.2.1, fun q hq => h.2.2 q ?_⟩
  rcases sl_mem hq with rfl | ⟨h1, h2, h3⟩
  · exact List.mem_cons_self
  · obtain ⟨g1, g2, -⟩ := rm_mem h1
    refine List.mem_cons_of_mem _ (List.mem_filter.mpr ⟨g1, ?_⟩)
    simp only [Bool.and_eq_true, Bool.not_eq_true', beq_eq_false_iff_ne, ne_eq, Bool.and_eq_false_imp, beq_iff_eq]
    exact ⟨h2, g2, fun z1 z2 => h3 ⟨z1, z2⟩⟩
def lvs (lv : List (Nat × Value)) : List (Nat × Value) → Prop
  | [] => True
  | (i, v) :: r => lk lv i = some v ∧ lvs lv r
theorem lvs_mem {lv lv' : List (Nat × Value)} (h : lvs lv lv') : ∀ q ∈ lv', q ∈ lv := by
  induction lv' with
  | nil => intro q hq; cases hq
  | cons p r ih =>
    obtain ⟨i, v⟩ := p
    intro q hq
    rcases List.mem_cons.mp hq with rfl | hq
    · exact lk_mem h.1
    · exact ih h.2 q hq
/-! what holds around: nest mates' links, the static table, the classes of arrays of references -/
def fm_nest : List Cond := [.methodLinkNest RX5 21 yX2_init RX11, .methodLinkNest RX11 24 yX1_init RX11, .methodLinkNest RX11 40 yX0_init RX11, .methodLinkNest RX11 54 yX4_init RX11, .methodLinkNest RX11 61 yX7_init RX11, .methodLinkNest RX11 68 yX3_init RX11, .methodLinkNest RX11 73 yX2_init RX11, .methodLinkNest RX8 64 yX11_bitsOf RX11, .methodLinkNest RX0 38 yX11_bitsOf RX11, .methodLinkNest RX11 222 yX6_init RX11, .methodLinkNest RX6 11 yX4_init RX11]
def fm_tab (j : Nat) : Int64 := match j with
  | 0 => -6148914691236517206
  | 1 => -3689348814741910324
  | 2 => -1085102592571150096
  | 3 => -71777214294589696
  | 4 => -281470681808896
  | _ => -4294967296
def fm_X (tt x0 : Nat) (U : State) (H : Heap) : Prop := (∀ w ∈ fm_nest, va_Nw w U) ∧ (va_Z "PackedLists$Joiner" "TABLES" "[J" (.ref tt) (fm_A x0) U H ∧ va_T .long tt 6 (fun j => .long (fm_tab j)) (fm_A x0) U H) ∧ va_AO "PackedLists$CutList" U ∧ va_AO "PackedLists$Window" U
theorem fm_nest_warm {s U : State} (hW : s.WarmedH U.vm) (h : ∀ w ∈ fm_nest, va_Nw w s) : ∀ w ∈ fm_nest, va_Nw w U := by
  intro w hw
  have h1 := h w hw
  simp only [fm_nest, List.mem_cons, List.not_mem_nil, or_false] at hw
  rcases hw with rfl | rfl | rfl | rfl | rfl | rfl | rfl | rfl | rfl | rfl | rfl <;> exact va_Nw.warmM hW h1
theorem fm_nest_on {w : Cond} (hw : w ∈ fm_nest) : w.onTables = true := by
  simp only [fm_nest, List.mem_cons, List.not_mem_nil, or_false] at hw
  rcases hw with rfl | rfl | rfl | rfl | rfl | rfl | rfl | rfl | rfl | rfl | rfl <;> rfl
theorem fm_X_warm {tt x0 : Nat} {s U : State} {H H1 : Heap} (hW : s.WarmedH U.vm) (hk : ∀ a : Nat, a < H.size → ¬ fm_A x0 a → H1[a]? = H[a]?) (h : fm_X tt x0 s H) : fm_X tt x0 U H1 := by
  obtain ⟨h1, ⟨h2, h3⟩, h4, h5⟩ := h
  exact ⟨fm_nest_warm hW h1, ⟨va_Z.moved hW.alike (h2.kept hk), va_T.moved hW.alike (h3.kept hk)⟩, h4.moved hW.alike, h5.moved hW.alike⟩
theorem fm_X_vm {tt x0 : Nat} {s U : State} {H : Heap} (hvm : s.vm = U.vm) (h : fm_X tt x0 s H) : fm_X tt x0 U H := by
  obtain ⟨h1, ⟨h2, h3⟩, h4, h5⟩ := h
  have al : s.vm.Alike U.vm := by rw [hvm]; exact Vm.Alike.refl _
  exact ⟨fun w hw => va_Nw.same (fm_nest_on hw) hvm (h1 w hw), ⟨va_Z.moved al h2, va_T.moved al h3⟩, h4.moved al, h5.moved al⟩
/-! the judgement -/
abbrev fZ : Type := State → Array Value → List Frame → Room → State → Prop
def fm_V (G : fG) (x0 : Nat) (M : fM) (d : Nat) (p : Program) (s : State) (m : MethodId) (args : Array Value) (meth : Method) (c : Code) (R : Room) : Prop :=
  p.tables.exec = Jvm.exec ∧ c.code = M.2.1 ∧ meth.sig.returnType = M.2.2.2 ∧ c.maxLocals = M.2.2.1 ∧ meth.name = M.1.name ∧ s.vm.findClass M.1.cls = some m.cls ∧ (∀ w ∈ WL, w.before args s = true) ∧ meth.locks = false ∧ va_K G.1 vwCl (fm_tys G) s ∧ fm_X G.2.2.2.2.2 x0 s s.heap ∧ x0 ≤ s.heap.size ∧ d ≤ R.frames ∧ 37 * d ≤ R.locals
def PW (G : fG) (x0 : Nat) (l : Launch) (M : fM) (d : Nat) (Z : fZ) (k n pc : Nat) (lv : List (Nat × Value)) (st : List Value) (T : fT) (I : fI) (J : fJ) : Prop :=
  ∀ (p : Program) (e : Env) (s : State) (m : MethodId) (args : Array Value) (below : List Frame) (meth : Method) (c : Code) (R : Room) (H : Heap) (locs : List Loc) (cells slots : Nat) (ls : Array Slot),
    fm_V G x0 M d p s m args meth c R → cells + k ≤ R.cells → slots + n ≤ R.slots → fm_H G x0 T I J H → va_S (fm_A x0) s.heap H locs → lv_has ls M.2.2.1 lv →
    W p l e R s m args below meth c H locs cells slots (Z s args below R) (F0 m pc ls st)
def fm_Q (G : fG) (x0 : Nat) (Q : Option Value → fT → fI → fJ → Prop) : Array Value → State → Outcome → State → Prop := fun _ st oc t => (∃ (r : Option Value) (T : fT) (I : fI) (J : fJ), oc = .returned r ∧ Q r T I J ∧ fm_H G x0 T I J t.heap) ∧ va_F (fm_A x0) st t
def ZM (G : fG) (x0 : Nat) (Q : Option Value → fT → fI → fJ → Prop) : fZ := fun s args below R => MQ below (fm_Q G x0 Q) args s R.cells R.slots (fm_A x0)
section FM
variable {G : fG} {x0 : Nat} {l : Launch} {M : fM} {d : Nat} {Z : fZ} {k n pc : Nat} {lv : List (Nat × Value)} {st : List Value} {T : fT} {I : fI} {J : fJ}
theorem s_lv {lv' : List (Nat × Value)} (h : lvs lv lv') (kk : PW G x0 l M d Z k n pc lv' st T I J) : PW G x0 l M d Z k n pc lv st T I J := fun p e s m args below meth c R H locs cells slots ls hv h1 h2 hH hS hl =>
  kk p e s m args below meth c R H locs cells slots ls hv h1 h2 hH hS ⟨hl.1, hl.2.1, fun q hq => hl.2.2 q (lvs_mem h q hq)⟩
theorem s_kn {k' n' : Nat} (hk : k' ≤ k) (hn : n' ≤ n) (kk : PW G x0 l M d Z k' n' pc lv st T I J) : PW G x0 l M d Z k n pc lv st T I J := fun p e s m args below meth c R H locs cells slots ls hv h1 h2 hH hS hl =>
  kk p e s m args below meth c R H locs cells slots ls hv (by omega) (by omega) hH hS hl
theorem s_d {d' : Nat} (hd : d' ≤ d) (kk : PW G x0 l M d' Z k n pc lv st T I J) : PW G x0 l M d Z k n pc lv st T I J := by
  intro p e s m args below meth c R H locs cells slots ls hv h1 h2 hH hS hl
  obtain ⟨a1, a2, a3, a4, a5, a6, a7, a8, a9, a10, a11, a12, a13⟩ := hv
  exact kk p e s m args below meth c R H locs cells slots ls ⟨a1, a2, a3, a4, a5, a6, a7, a8, a9, a10, a11, by omega, by omega⟩ h1 h2 hH hS hl

theorem s_iconst {z : Int} {v : Int32} (hd : decode M.2.1 pc = .ok (.iconst z, 1)) (hz : Int32.ofInt z = v) (kk : PW G x0 l M d Z k n (pc + 1) lv (.int v :: st) T I J) : PW G x0 l M d Z k n pc lv st T I J := fun p e s m args below meth c R H locs cells slots ls hv h1 h2 hH hS hl => lv_iconst hv.1 hv.2.1 hd hz (kk p e s m args below meth c R H locs cells slots ls hv h1 h2 hH hS hl)
theorem s_bipush {z : Int} {v : Int32} (hd : decode M.2.1 pc = .ok (.bipush z, 2)) (hz : (Int8.ofInt z).toInt32 = v) (kk : PW G x0 l M d Z k n (pc + 2) lv (.int v :: st) T I J) : PW G x0 l M d Z k n pc lv st T I J := fun p e s m args below meth c R H locs cells slots ls hv h1 h2 hH hS hl => lv_bipush hv.1 hv.2.1 hd hz (kk p e s m args below meth c R H locs cells slots ls hv h1 h2 hH hS hl)
theorem s_sipush {z : Int} {v : Int32} (hd : decode M.2.1 pc = .ok (.sipush z, 3)) (hz : (Int16.ofInt z).toInt32 = v) (kk : PW G x0 l M d Z k n (pc + 3) lv (.int v :: st) T I J) : PW G x0 l M d Z k n pc lv st T I J := fun p e s m args below meth c R H locs cells slots ls hv h1 h2 hH hS hl => lv_sipush hv.1 hv.2.1 hd hz (kk p e s m args below meth c R H locs cells slots ls hv h1 h2 hH hS hl)
theorem s_iload_n {q : Fin 4} {i : Nat} {x : Int32} (hd : decode M.2.1 pc = .ok (.iload_n q, 1)) (hi : (q : Nat) = i) (hk : lk lv i = some (.int x)) (kk : PW G x0 l M d Z k n (pc + 1) lv (.int x :: st) T I J) : PW G x0 l M d Z k n pc lv st T I J := fun p e s m args below meth c R H locs cells slots ls hv h1 h2 hH hS hl => lv_iload_n hv.1 hv.2.1 hd hi (hl.2.2 _ (lk_mem hk)) (kk p e s m args below meth c R H locs cells slots ls hv h1 h2 hH hS hl)
theorem s_iload {i : Nat} {x : Int32} (hd : decode M.2.1 pc = .ok (.iload i, 2)) (hk : lk lv i = some (.int x)) (kk : PW G x0 l M d Z k n (pc + 2) lv (.int x :: st) T I J) : PW G x0 l M d Z k n pc lv st T I J := fun p e s m args below meth c R H locs cells slots ls hv h1 h2 hH hS hl => lv_iload hv.1 hv.2.1 hd (hl.2.2 _ (lk_mem hk)) (kk p e s m args below meth c R H locs cells slots ls hv h1 h2 hH hS hl)
theorem s_istore_n {q : Fin 4} {i : Nat} {x : Int32} {lv' : List (Nat × Value)} (hd : decode M.2.1 pc = .ok (.istore_n q, 1)) (hi : (q : Nat) = i) (hn : i < M.2.2.1) (hs : sl lv i (.int x) = lv') (kk : PW G x0 l M d Z k n (pc + 1) lv' st T I J) : PW G x0 l M d Z k n pc lv (.int x :: st) T I J := fun p e s m args below meth c R H locs cells slots ls hv h1 h2 hH hS hl => lv_istore_n hv.1 hv.2.1 hd hi hl hn rfl (fun ls2 hl2 => kk p e s m args below meth c R H locs cells slots ls2 hv h1 h2 hH hS (hs ▸ sl_has1 hl2))
theorem s_istore {i : Nat} {x : Int32} {lv' : List (Nat × Value)} (hd : decode M.2.1 pc = .ok (.istore i, 2)) (hn : i < M.2.2.1) (hs : sl lv i (.int x) = lv') (kk : PW G x0 l M d Z k n (pc + 2) lv' st T I J) : PW G x0 l M d Z k n pc lv (.int x :: st) T I J := fun p e s m args below meth c R H locs cells slots ls hv h1 h2 hH hS hl => lv_istore hv.1 hv.2.1 hd hl hn rfl (fun ls2 hl2 => kk p e s m args below meth c R H locs cells slots ls2 hv h1 h2 hH hS (hs ▸ sl_has1 hl2))
theorem s_lload_n {q : Fin 4} {i : Nat} {x : Int64} (hd : decode M.2.1 pc = .ok (.lload_n q, 1)) (hi : (q : Nat) = i) (hk : lk lv i = some (.long x)) (kk : PW G x0 l M d Z k n (pc + 1) lv (.long x :: st) T I J) : PW G x0 l M d Z k n pc lv st T I J := fun p e s m args below meth c R H locs cells slots ls hv h1 h2 hH hS hl => lv_lload_n hv.1 hv.2.1 hd hi (hl.2.2 _ (lk_mem hk)) (kk p e s m args below meth c R H locs cells slots ls hv h1 h2 hH hS hl)
theorem s_lload {i : Nat} {x : Int64} (hd : decode M.2.1 pc = .ok (.lload i, 2)) (hk : lk lv i = some (.long x)) (kk : PW G x0 l M d Z k n (pc + 2) lv (.long x :: st) T I J) : PW G x0 l M d Z k n pc lv st T I J := fun p e s m args below meth c R H locs cells slots ls hv h1 h2 hH hS hl => lv_lload hv.1 hv.2.1 hd (hl.2.2 _ (lk_mem hk)) (kk p e s m args below meth c R H locs cells slots ls hv h1 h2 hH hS hl)
theorem s_lstore_n {q : Fin 4} {i : Nat} {x : Int64} {lv' : List (Nat × Value)} (hd : decode M.2.1 pc = .ok (.lstore_n q, 1)) (hi : (q : Nat) = i) (hn : i + 1 < M.2.2.1) (hs : sl2 lv i (.long x) = lv') (kk : PW G x0 l M d Z k n (pc + 1) lv' st T I J) : PW G x0 l M d Z k n pc lv (.long x :: st) T I J := fun p e s m args below meth c R H locs cells slots ls hv h1 h2 hH hS hl => lv_lstore_n hv.1 hv.2.1 hd hi hl hn rfl (fun ls2 hl2 => kk p e s m args below meth c R H locs cells slots ls2 hv h1 h2 hH hS (hs ▸ sl_has2 hl2))
theorem s_lstore {i : Nat} {x : Int64} {lv' : List (Nat × Value)} (hd : decode M.2.1 pc = .ok (.lstore i, 2)) (hn : i + 1 < M.2.2.1) (hs : sl2 lv i (.long x) = lv') (kk : PW G x0 l M d Z k n (pc + 2) lv' st T I J) : PW G x0 l M d Z k n pc lv (.long x :: st) T I J := fun p e s m args below meth c R H locs cells slots ls hv h1 h2 hH hS hl => lv_lstore hv.1 hv.2.1 hd hl hn rfl (fun ls2 hl2 => kk p e s m args below meth c R H locs cells slots ls2 hv h1 h2 hH hS (hs ▸ sl_has2 hl2))
theorem s_aload_n {q : Fin 4} {i : Nat} {x : Nat} (hd : decode M.2.1 pc = .ok (.aload_n q, 1)) (hi : (q : Nat) = i) (hk : lk lv i = some (.ref x)) (kk : PW G x0 l M d Z k n (pc + 1) lv (.ref x :: st) T I J) : PW G x0 l M d Z k n pc lv st T I J := fun p e s m args below meth c R H locs cells slots ls hv h1 h2 hH hS hl => lv_aload_n hv.1 hv.2.1 hd hi (hl.2.2 _ (lk_mem hk)) (kk p e s m args below meth c R H locs cells slots ls hv h1 h2 hH hS hl)
theorem s_aload {i : Nat} {x : Nat} (hd : decode M.2.1 pc = .ok (.aload i, 2)) (hk : lk lv i = some (.ref x)) (kk : PW G x0 l M d Z k n (pc + 2) lv (.ref x :: st) T I J) : PW G x0 l M d Z k n pc lv st T I J := fun p e s m args below meth c R H locs cells slots ls hv h1 h2 hH hS hl => lv_aload hv.1 hv.2.1 hd (hl.2.2 _ (lk_mem hk)) (kk p e s m args below meth c R H locs cells slots ls hv h1 h2 hH hS hl)
theorem s_astore_n {q : Fin 4} {i : Nat} {x : Nat} {lv' : List (Nat × Value)} (hd : decode M.2.1 pc = .ok (.astore_n q, 1)) (hi : (q : Nat) = i) (hn : i < M.2.2.1) (hs : sl lv i (.ref x) = lv') (kk : PW G x0 l M d Z k n (pc + 1) lv' st T I J) : PW G x0 l M d Z k n pc lv (.ref x :: st) T I J := fun p e s m args below meth c R H locs cells slots ls hv h1 h2 hH hS hl => lv_astore_n hv.1 hv.2.1 hd hi hl hn rfl (fun ls2 hl2 => kk p e s m args below meth c R H locs cells slots ls2 hv h1 h2 hH hS (hs ▸ sl_has1 hl2))
theorem s_astore {i : Nat} {x : Nat} {lv' : List (Nat × Value)} (hd : decode M.2.1 pc = .ok (.astore i, 2)) (hn : i < M.2.2.1) (hs : sl lv i (.ref x) = lv') (kk : PW G x0 l M d Z k n (pc + 2) lv' st T I J) : PW G x0 l M d Z k n pc lv (.ref x :: st) T I J := fun p e s m args below meth c R H locs cells slots ls hv h1 h2 hH hS hl => lv_astore hv.1 hv.2.1 hd hl hn rfl (fun ls2 hl2 => kk p e s m args below meth c R H locs cells slots ls2 hv h1 h2 hH hS (hs ▸ sl_has1 hl2))
theorem s_iinc {i : Nat} {z : Int} {x v : Int32} {lv' : List (Nat × Value)} (hd : decode M.2.1 pc = .ok (.iinc i z, 3)) (hk : lk lv i = some (.int x)) (hz : x + Int32.ofInt z = v) (hn : i < M.2.2.1) (hs : sl lv i (.int v) = lv') (kk : PW G x0 l M d Z k n (pc + 3) lv' st T I J) : PW G x0 l M d Z k n pc lv st T I J := by
  intro p e s m args below meth c R H locs cells slots ls hv h1 h2 hH hS hl
  obtain ⟨q, hq⟩ := List.getElem?_of_mem (lk_mem hk)
  exact lv_iinc hv.1 hv.2.1 hd hl hq hz hn rfl (fun ls2 hl2 => kk p e s m args below meth c R H locs cells slots ls2 hv h1 h2 hH hS (hs ▸ sl_has1 hl2))
theorem s_iadd {x y : Int32} (hd : decode M.2.1 pc = .ok (.iadd, 1))  (kk : PW G x0 l M d Z k n (pc + 1) lv (.int (x + y) :: st) T I J) : PW G x0 l M d Z k n pc lv (.int y :: .int x :: st) T I J := fun p e s m args below meth c R H locs cells slots ls hv h1 h2 hH hS hl => lv_iadd hv.1 hv.2.1 hd (kk p e s m args below meth c R H locs cells slots ls hv h1 h2 hH hS hl)
theorem s_isub {x y : Int32} (hd : decode M.2.1 pc = .ok (.isub, 1))  (kk : PW G x0 l M d Z k n (pc + 1) lv (.int (x - y) :: st) T I J) : PW G x0 l M d Z k n pc lv (.int y :: .int x :: st) T I J := fun p e s m args below meth c R H locs cells slots ls hv h1 h2 hH hS hl => lv_isub hv.1 hv.2.1 hd (kk p e s m args below meth c R H locs cells slots ls hv h1 h2 hH hS hl)
theorem s_imul {x y : Int32} (hd : decode M.2.1 pc = .ok (.imul, 1))  (kk : PW G x0 l M d Z k n (pc + 1) lv (.int (x * y) :: st) T I J) : PW G x0 l M d Z k n pc lv (.int y :: .int x :: st) T I J := fun p e s m args below meth c R H locs cells slots ls hv h1 h2 hH hS hl => lv_imul hv.1 hv.2.1 hd (kk p e s m args below meth c R H locs cells slots ls hv h1 h2 hH hS hl)
theorem s_iand {x y : Int32} (hd : decode M.2.1 pc = .ok (.iand, 1))  (kk : PW G x0 l M d Z k n (pc + 1) lv (.int (x &&& y) :: st) T I J) : PW G x0 l M d Z k n pc lv (.int y :: .int x :: st) T I J := fun p e s m args below meth c R H locs cells slots ls hv h1 h2 hH hS hl => lv_iand hv.1 hv.2.1 hd (kk p e s m args below meth c R H locs cells slots ls hv h1 h2 hH hS hl)
theorem s_ior {x y : Int32} (hd : decode M.2.1 pc = .ok (.ior, 1))  (kk : PW G x0 l M d Z k n (pc + 1) lv (.int (x ||| y) :: st) T I J) : PW G x0 l M d Z k n pc lv (.int y :: .int x :: st) T I J := fun p e s m args below meth c R H locs cells slots ls hv h1 h2 hH hS hl => lv_ior hv.1 hv.2.1 hd (kk p e s m args below meth c R H locs cells slots ls hv h1 h2 hH hS hl)
theorem s_ishl {x y : Int32} (hd : decode M.2.1 pc = .ok (.ishl, 1))  (kk : PW G x0 l M d Z k n (pc + 1) lv (.int (x <<< (y &&& 31)) :: st) T I J) : PW G x0 l M d Z k n pc lv (.int y :: .int x :: st) T I J := fun p e s m args below meth c R H locs cells slots ls hv h1 h2 hH hS hl => lv_ishl hv.1 hv.2.1 hd (kk p e s m args below meth c R H locs cells slots ls hv h1 h2 hH hS hl)
theorem s_ishr {x y : Int32} (hd : decode M.2.1 pc = .ok (.ishr, 1))  (kk : PW G x0 l M d Z k n (pc + 1) lv (.int (x >>> (y &&& 31)) :: st) T I J) : PW G x0 l M d Z k n pc lv (.int y :: .int x :: st) T I J := fun p e s m args below meth c R H locs cells slots ls hv h1 h2 hH hS hl => lv_ishr hv.1 hv.2.1 hd (kk p e s m args below meth c R H locs cells slots ls hv h1 h2 hH hS hl)
theorem s_idiv {x y : Int32} (hd : decode M.2.1 pc = .ok (.idiv, 1)) (hne : ¬ y = 0) (kk : PW G x0 l M d Z k n (pc + 1) lv (.int (x / y) :: st) T I J) : PW G x0 l M d Z k n pc lv (.int y :: .int x :: st) T I J := fun p e s m args below meth c R H locs cells slots ls hv h1 h2 hH hS hl => lv_idiv hv.1 hv.2.1 hd hne (kk p e s m args below meth c R H locs cells slots ls hv h1 h2 hH hS hl)
theorem s_irem {x y : Int32} (hd : decode M.2.1 pc = .ok (.irem, 1)) (hne : ¬ y = 0) (kk : PW G x0 l M d Z k n (pc + 1) lv (.int (x - x / y * y) :: st) T I J) : PW G x0 l M d Z k n pc lv (.int y :: .int x :: st) T I J := fun p e s m args below meth c R H locs cells slots ls hv h1 h2 hH hS hl => lv_irem hv.1 hv.2.1 hd hne (kk p e s m args below meth c R H locs cells slots ls hv h1 h2 hH hS hl)
theorem s_ineg {x : Int32} (hd : decode M.2.1 pc = .ok (.ineg, 1))  (kk : PW G x0 l M d Z k n (pc + 1) lv (.int (-x) :: st) T I J) : PW G x0 l M d Z k n pc lv (.int x :: st) T I J := fun p e s m args below meth c R H locs cells slots ls hv h1 h2 hH hS hl => lv_ineg hv.1 hv.2.1 hd (kk p e s m args below meth c R H locs cells slots ls hv h1 h2 hH hS hl)
theorem s_i2l {x : Int32} (hd : decode M.2.1 pc = .ok (.i2l, 1))  (kk : PW G x0 l M d Z k n (pc + 1) lv (.long x.toInt64 :: st) T I J) : PW G x0 l M d Z k n pc lv (.int x :: st) T I J := fun p e s m args below meth c R H locs cells slots ls hv h1 h2 hH hS hl => lv_i2l hv.1 hv.2.1 hd rfl (kk p e s m args below meth c R H locs cells slots ls hv h1 h2 hH hS hl)
theorem s_ladd {x y : Int64} (hd : decode M.2.1 pc = .ok (.ladd, 1))  (kk : PW G x0 l M d Z k n (pc + 1) lv (.long (x + y) :: st) T I J) : PW G x0 l M d Z k n pc lv (.long y :: .long x :: st) T I J := fun p e s m args below meth c R H locs cells slots ls hv h1 h2 hH hS hl => lv_ladd hv.1 hv.2.1 hd (kk p e s m args below meth c R H locs cells slots ls hv h1 h2 hH hS hl)
theorem s_lmul {x y : Int64} (hd : decode M.2.1 pc = .ok (.lmul, 1))  (kk : PW G x0 l M d Z k n (pc + 1) lv (.long (x * y) :: st) T I J) : PW G x0 l M d Z k n pc lv (.long y :: .long x :: st) T I J := fun p e s m args below meth c R H locs cells slots ls hv h1 h2 hH hS hl => lv_lmul hv.1 hv.2.1 hd (kk p e s m args below meth c R H locs cells slots ls hv h1 h2 hH hS hl)
theorem s_land {x y : Int64} (hd : decode M.2.1 pc = .ok (.land, 1))  (kk : PW G x0 l M d Z k n (pc + 1) lv (.long (x &&& y) :: st) T I J) : PW G x0 l M d Z k n pc lv (.long y :: .long x :: st) T I J := fun p e s m args below meth c R H locs cells slots ls hv h1 h2 hH hS hl => lv_land hv.1 hv.2.1 hd (kk p e s m args below meth c R H locs cells slots ls hv h1 h2 hH hS hl)
theorem s_lor {x y : Int64} (hd : decode M.2.1 pc = .ok (.lor, 1))  (kk : PW G x0 l M d Z k n (pc + 1) lv (.long (x ||| y) :: st) T I J) : PW G x0 l M d Z k n pc lv (.long y :: .long x :: st) T I J := fun p e s m args below meth c R H locs cells slots ls hv h1 h2 hH hS hl => lv_lor hv.1 hv.2.1 hd (kk p e s m args below meth c R H locs cells slots ls hv h1 h2 hH hS hl)
theorem s_lxor {x y : Int64} (hd : decode M.2.1 pc = .ok (.lxor, 1))  (kk : PW G x0 l M d Z k n (pc + 1) lv (.long (x ^^^ y) :: st) T I J) : PW G x0 l M d Z k n pc lv (.long y :: .long x :: st) T I J := fun p e s m args below meth c R H locs cells slots ls hv h1 h2 hH hS hl => lv_lxor hv.1 hv.2.1 hd (kk p e s m args below meth c R H locs cells slots ls hv h1 h2 hH hS hl)
theorem s_lshl {x : Int64} {y : Int32} (hd : decode M.2.1 pc = .ok (.lshl, 1))  (kk : PW G x0 l M d Z k n (pc + 1) lv (.long (x <<< (y.toInt64 &&& 63)) :: st) T I J) : PW G x0 l M d Z k n pc lv (.int y :: .long x :: st) T I J := fun p e s m args below meth c R H locs cells slots ls hv h1 h2 hH hS hl => lv_lshl hv.1 hv.2.1 hd rfl (kk p e s m args below meth c R H locs cells slots ls hv h1 h2 hH hS hl)
theorem s_lshr {x : Int64} {y : Int32} (hd : decode M.2.1 pc = .ok (.lshr, 1))  (kk : PW G x0 l M d Z k n (pc + 1) lv (.long (x >>> (y.toInt64 &&& 63)) :: st) T I J) : PW G x0 l M d Z k n pc lv (.int y :: .long x :: st) T I J := fun p e s m args below meth c R H locs cells slots ls hv h1 h2 hH hS hl => lv_lshr hv.1 hv.2.1 hd rfl (kk p e s m args below meth c R H locs cells slots ls hv h1 h2 hH hS hl)
theorem s_lushr {x : Int64} {y : Int32} (hd : decode M.2.1 pc = .ok (.lushr, 1))  (kk : PW G x0 l M d Z k n (pc + 1) lv (.long ((x.toUInt64 >>> (y.toInt64.toUInt64 &&& Int64.toUInt64 63)).toInt64) :: st) T I J) : PW G x0 l M d Z k n pc lv (.int y :: .long x :: st) T I J := fun p e s m args below meth c R H locs cells slots ls hv h1 h2 hH hS hl => lv_lushr hv.1 hv.2.1 hd rfl (kk p e s m args below meth c R H locs cells slots ls hv h1 h2 hH hS hl)
theorem s_lcmp {x y : Int64} (hd : decode M.2.1 pc = .ok (.lcmp, 1))  (kk : PW G x0 l M d Z k n (pc + 1) lv (.int (lg_cmp x y) :: st) T I J) : PW G x0 l M d Z k n pc lv (.long y :: .long x :: st) T I J := fun p e s m args below meth c R H locs cells slots ls hv h1 h2 hH hS hl => W.lcmp hv.1 hv.2.1 hd (kk p e s m args below meth c R H locs cells slots ls hv h1 h2 hH hS hl)
theorem s_lconst {z : Fin 2} {v : Int64} (hd : decode M.2.1 pc = .ok (.lconst z, 1)) (hz : Int64.ofNat (z : Nat) = v) (kk : PW G x0 l M d Z k n (pc + 1) lv (.long v :: st) T I J) : PW G x0 l M d Z k n pc lv st T I J := fun p e s m args below meth c R H locs cells slots ls hv h1 h2 hH hS hl => lv_lconst hv.1 hv.2.1 hd hz (kk p e s m args below meth c R H locs cells slots ls hv h1 h2 hH hS hl)
theorem s_dup {va : Value} (hd : decode M.2.1 pc = .ok (.dup, 1)) (hva : va.category = 1) (kk : PW G x0 l M d Z k n (pc + 1) lv (va :: va :: st) T I J) : PW G x0 l M d Z k n pc lv (va :: st) T I J := fun p e s m args below meth c R H locs cells slots ls hv h1 h2 hH hS hl => lv_dup hv.1 hv.2.1 hd hva (kk p e s m args below meth c R H locs cells slots ls hv h1 h2 hH hS hl)
theorem s_dup2 {va vb : Value} (hd : decode M.2.1 pc = .ok (.dup2, 1)) (hva : va.category = 1) (hvb : vb.category = 1) (kk : PW G x0 l M d Z k n (pc + 1) lv (va :: vb :: va :: vb :: st) T I J) : PW G x0 l M d Z k n pc lv (va :: vb :: st) T I J := fun p e s m args below meth c R H locs cells slots ls hv h1 h2 hH hS hl => lv_dup2_11 hv.1 hv.2.1 hd hva hvb (kk p e s m args below meth c R H locs cells slots ls hv h1 h2 hH hS hl)
theorem s_ldc {idx : Nat} {v : Int32} (hd : decode M.2.1 pc = .ok (.ldc idx, 2)) (hw : Cond.constant M.1.cls idx v ∈ WL) (kk : PW G x0 l M d Z k n (pc + 2) lv (.int v :: st) T I J) : PW G x0 l M d Z k n pc lv st T I J := fun p e s m args below meth c R H locs cells slots ls hv h1 h2 hH hS hl => lv_ldc hv.1 hv.2.1 hv.2.2.2.2.2.1 (hv.2.2.2.2.2.2.1 _ hw) hd (kk p e s m args below meth c R H locs cells slots ls hv h1 h2 hH hS hl)
theorem s_ldc2 {idx : Nat} {v : Int64} (hd : decode M.2.1 pc = .ok (.ldc2_w idx, 3)) (hw : Cond.constantLong M.1.cls idx v ∈ WL) (kk : PW G x0 l M d Z k n (pc + 3) lv (.long v :: st) T I J) : PW G x0 l M d Z k n pc lv st T I J := fun p e s m args below meth c R H locs cells slots ls hv h1 h2 hH hS hl => lv_ldc2 hv.1 hv.2.1 hv.2.2.2.2.2.1 (hv.2.2.2.2.2.2.1 _ hw) hd (kk p e s m args below meth c R H locs cells slots ls hv h1 h2 hH hS hl)
theorem s_if_eq {x : Int32} {off : Int} {tgt : Nat} (hd : decode M.2.1 pc = .ok (.ifCond .eq off, 3)) (ht : (pc : Int) + off = (tgt : Int)) (kt : x = 0 → PW G x0 l M d Z k n tgt lv st T I J) (kf : ¬ x = 0 → PW G x0 l M d Z k n (pc + 3) lv st T I J) : PW G x0 l M d Z k n pc lv (.int x :: st) T I J := fun p e s m args below meth c R H locs cells slots ls hv h1 h2 hH hS hl => lv_if_eq hv.1 hv.2.1 hd ht (fun hc => kt hc p e s m args below meth c R H locs cells slots ls hv h1 h2 hH hS hl) (fun hc => kf hc p e s m args below meth c R H locs cells slots ls hv h1 h2 hH hS hl)
theorem s_icmp_eq {x y : Int32} {off : Int} {tgt : Nat} (hd : decode M.2.1 pc = .ok (.if_icmp .eq off, 3)) (ht : (pc : Int) + off = (tgt : Int)) (kt : x = y → PW G x0 l M d Z k n tgt lv st T I J) (kf : ¬ x = y → PW G x0 l M d Z k n (pc + 3) lv st T I J) : PW G x0 l M d Z k n pc lv (.int y :: .int x :: st) T I J := fun p e s m args below meth c R H locs cells slots ls hv h1 h2 hH hS hl => lv_icmp_eq hv.1 hv.2.1 hd ht (fun hc => kt hc p e s m args below meth c R H locs cells slots ls hv h1 h2 hH hS hl) (fun hc => kf hc p e s m args below meth c R H locs cells slots ls hv h1 h2 hH hS hl)
theorem s_if_ne {x : Int32} {off : Int} {tgt : Nat} (hd : decode M.2.1 pc = .ok (.ifCond .ne off, 3)) (ht : (pc : Int) + off = (tgt : Int)) (kt : ¬ x = 0 → PW G x0 l M d Z k n tgt lv st T I J) (kf : x = 0 → PW G x0 l M d Z k n (pc + 3) lv st T I J) : PW G x0 l M d Z k n pc lv (.int x :: st) T I J := fun p e s m args below meth c R H locs cells slots ls hv h1 h2 hH hS hl => lv_if_ne hv.1 hv.2.1 hd ht (fun hc => kt hc p e s m args below meth c R H locs cells slots ls hv h1 h2 hH hS hl) (fun hc => kf hc p e s m args below meth c R H locs cells slots ls hv h1 h2 hH hS hl)
theorem s_icmp_ne {x y : Int32} {off : Int} {tgt : Nat} (hd : decode M.2.1 pc = .ok (.if_icmp .ne off, 3)) (ht : (pc : Int) + off = (tgt : Int)) (kt : ¬ x = y → PW G x0 l M d Z k n tgt lv st T I J) (kf : x = y → PW G x0 l M d Z k n (pc + 3) lv st T I J) : PW G x0 l M d Z k n pc lv (.int y :: .int x :: st) T I J := fun p e s m args below meth c R H locs cells slots ls hv h1 h2 hH hS hl => lv_icmp_ne hv.1 hv.2.1 hd ht (fun hc => kt hc p e s m args below meth c R H locs cells slots ls hv h1 h2 hH hS hl) (fun hc => kf hc p e s m args below meth c R H locs cells slots ls hv h1 h2 hH hS hl)
theorem s_if_lt {x : Int32} {off : Int} {tgt : Nat} (hd : decode M.2.1 pc = .ok (.ifCond .lt off, 3)) (ht : (pc : Int) + off = (tgt : Int)) (kt : x < 0 → PW G x0 l M d Z k n tgt lv st T I J) (kf : ¬ x < 0 → PW G x0 l M d Z k n (pc + 3) lv st T I J) : PW G x0 l M d Z k n pc lv (.int x :: st) T I J := fun p e s m args below meth c R H locs cells slots ls hv h1 h2 hH hS hl => lv_if_lt hv.1 hv.2.1 hd ht (fun hc => kt hc p e s m args below meth c R H locs cells slots ls hv h1 h2 hH hS hl) (fun hc => kf hc p e s m args below meth c R H locs cells slots ls hv h1 h2 hH hS hl)
theorem s_icmp_lt {x y : Int32} {off : Int} {tgt : Nat} (hd : decode M.2.1 pc = .ok (.if_icmp .lt off, 3)) (ht : (pc : Int) + off = (tgt : Int)) (kt : x < y → PW G x0 l M d Z k n tgt lv st T I J) (kf : ¬ x < y → PW G x0 l M d Z k n (pc + 3) lv st T I J) : PW G x0 l M d Z k n pc lv (.int y :: .int x :: st) T I J := fun p e s m args below meth c R H locs cells slots ls hv h1 h2 hH hS hl => lv_icmp_lt hv.1 hv.2.1 hd ht (fun hc => kt hc p e s m args below meth c R H locs cells slots ls hv h1 h2 hH hS hl) (fun hc => kf hc p e s m args below meth c R H locs cells slots ls hv h1 h2 hH hS hl)
theorem s_if_ge {x : Int32} {off : Int} {tgt : Nat} (hd : decode M.2.1 pc = .ok (.ifCond .ge off, 3)) (ht : (pc : Int) + off = (tgt : Int)) (kt : 0 ≤ x → PW G x0 l M d Z k n tgt lv st T I J) (kf : ¬ 0 ≤ x → PW G x0 l M d Z k n (pc + 3) lv st T I J) : PW G x0 l M d Z k n pc lv (.int x :: st) T I J := fun p e s m args below meth c R H locs cells slots ls hv h1 h2 hH hS hl => lv_if_ge hv.1 hv.2.1 hd ht (fun hc => kt hc p e s m args below meth c R H locs cells slots ls hv h1 h2 hH hS hl) (fun hc => kf hc p e s m args below meth c R H locs cells slots ls hv h1 h2 hH hS hl)
theorem s_icmp_ge {x y : Int32} {off : Int} {tgt : Nat} (hd : decode M.2.1 pc = .ok (.if_icmp .ge off, 3)) (ht : (pc : Int) + off = (tgt : Int)) (kt : y ≤ x → PW G x0 l M d Z k n tgt lv st T I J) (kf : ¬ y ≤ x → PW G x0 l M d Z k n (pc + 3) lv st T I J) : PW G x0 l M d Z k n pc lv (.int y :: .int x :: st) T I J := fun p e s m args below meth c R H locs cells slots ls hv h1 h2 hH hS hl => lv_icmp_ge hv.1 hv.2.1 hd ht (fun hc => kt hc p e s m args below meth c R H locs cells slots ls hv h1 h2 hH hS hl) (fun hc => kf hc p e s m args below meth c R H locs cells slots ls hv h1 h2 hH hS hl)
theorem s_if_gt {x : Int32} {off : Int} {tgt : Nat} (hd : decode M.2.1 pc = .ok (.ifCond .gt off, 3)) (ht : (pc : Int) + off = (tgt : Int)) (kt : 0 < x → PW G x0 l M d Z k n tgt lv st T I J) (kf : ¬ 0 < x → PW G x0 l M d Z k n (pc + 3) lv st T I J) : PW G x0 l M d Z k n pc lv (.int x :: st) T I J := fun p e s m args below meth c R H locs cells slots ls hv h1 h2 hH hS hl => lv_if_gt hv.1 hv.2.1 hd ht (fun hc => kt hc p e s m args below meth c R H locs cells slots ls hv h1 h2 hH hS hl) (fun hc => kf hc p e s m args below meth c R H locs cells slots ls hv h1 h2 hH hS hl)
theorem s_icmp_gt {x y : Int32} {off : Int} {tgt : Nat} (hd : decode M.2.1 pc = .ok (.if_icmp .gt off, 3)) (ht : (pc : Int) + off = (tgt : Int)) (kt : y < x → PW G x0 l M d Z k n tgt lv st T I J) (kf : ¬ y < x → PW G x0 l M d Z k n (pc + 3) lv st T I J) : PW G x0 l M d Z k n pc lv (.int y :: .int x :: st) T I J := fun p e s m args below meth c R H locs cells slots ls hv h1 h2 hH hS hl => lv_icmp_gt hv.1 hv.2.1 hd ht (fun hc => kt hc p e s m args below meth c R H locs cells slots ls hv h1 h2 hH hS hl) (fun hc => kf hc p e s m args below meth c R H locs cells slots ls hv h1 h2 hH hS hl)
theorem s_if_le {x : Int32} {off : Int} {tgt : Nat} (hd : decode M.2.1 pc = .ok (.ifCond .le off, 3)) (ht : (pc : Int) + off = (tgt : Int)) (kt : x ≤ 0 → PW G x0 l M d Z k n tgt lv st T I J) (kf : ¬ x ≤ 0 → PW G x0 l M d Z k n (pc + 3) lv st T I J) : PW G x0 l M d Z k n pc lv (.int x :: st) T I J := fun p e s m args below meth c R H locs cells slots ls hv h1 h2 hH hS hl => lv_if_le hv.1 hv.2.1 hd ht (fun hc => kt hc p e s m args below meth c R H locs cells slots ls hv h1 h2 hH hS hl) (fun hc => kf hc p e s m args below meth c R H locs cells slots ls hv h1 h2 hH hS hl)
theorem s_icmp_le {x y : Int32} {off : Int} {tgt : Nat} (hd : decode M.2.1 pc = .ok (.if_icmp .le off, 3)) (ht : (pc : Int) + off = (tgt : Int)) (kt : x ≤ y → PW G x0 l M d Z k n tgt lv st T I J) (kf : ¬ x ≤ y → PW G x0 l M d Z k n (pc + 3) lv st T I J) : PW G x0 l M d Z k n pc lv (.int y :: .int x :: st) T I J := fun p e s m args below meth c R H locs cells slots ls hv h1 h2 hH hS hl => lv_icmp_le hv.1 hv.2.1 hd ht (fun hc => kt hc p e s m args below meth c R H locs cells slots ls hv h1 h2 hH hS hl) (fun hc => kf hc p e s m args below meth c R H locs cells slots ls hv h1 h2 hH hS hl)
theorem s_goto {off : Int} {tgt : Nat} (hd : decode M.2.1 pc = .ok (.goto off, 3)) (ht : (pc : Int) + off = (tgt : Int)) (kk : PW G x0 l M d Z k n tgt lv st T I J) : PW G x0 l M d Z k n pc lv st T I J := fun p e s m args below meth c R H locs cells slots ls hv h1 h2 hH hS hl => lv_goto hv.1 hv.2.1 hd ht (kk p e s m args below meth c R H locs cells slots ls hv h1 h2 hH hS hl)
theorem s_ifnonnull {x : Nat} {off : Int} {tgt : Nat} (hd : decode M.2.1 pc = .ok (.ifnonnull off, 3)) (ht : (pc : Int) + off = (tgt : Int)) (kk : PW G x0 l M d Z k n tgt lv st T I J) : PW G x0 l M d Z k n pc lv (.ref x :: st) T I J := fun p e s m args below meth c R H locs cells slots ls hv h1 h2 hH hS hl => lv_ifnonnull hv.1 hv.2.1 hd ht (kk p e s m args below meth c R H locs cells slots ls hv h1 h2 hH hS hl)
theorem s_ifnonnullN {off : Int} (hd : decode M.2.1 pc = .ok (.ifnonnull off, 3)) (kk : PW G x0 l M d Z k n (pc + 3) lv st T I J) : PW G x0 l M d Z k n pc lv (.null :: st) T I J := fun p e s m args below meth c R H locs cells slots ls hv h1 h2 hH hS hl => lv_ifnonnullN hv.1 hv.2.1 hd (kk p e s m args below meth c R H locs cells slots ls hv h1 h2 hH hS hl)
theorem s_ifnull {x : Nat} {off : Int} (hd : decode M.2.1 pc = .ok (.ifnull off, 3)) (kk : PW G x0 l M d Z k n (pc + 3) lv st T I J) : PW G x0 l M d Z k n pc lv (.ref x :: st) T I J := fun p e s m args below meth c R H locs cells slots ls hv h1 h2 hH hS hl => lv_ifnull hv.1 hv.2.1 hd (kk p e s m args below meth c R H locs cells slots ls hv h1 h2 hH hS hl)
theorem s_ifnullN {off : Int} {tgt : Nat} (hd : decode M.2.1 pc = .ok (.ifnull off, 3)) (ht : (pc : Int) + off = (tgt : Int)) (kk : PW G x0 l M d Z k n tgt lv st T I J) : PW G x0 l M d Z k n pc lv (.null :: st) T I J := fun p e s m args below meth c R H locs cells slots ls hv h1 h2 hH hS hl => lv_ifnullN hv.1 hv.2.1 hd ht (kk p e s m args below meth c R H locs cells slots ls hv h1 h2 hH hS hl)
theorem s_tabOut {dflt lo hi : Int} {offs : Array Int} {len : Nat} {x : Int32} {tgt : Nat} (hd : decode M.2.1 pc = .ok (.tableswitch dflt lo hi offs, len)) (h : x.toInt < lo ∨ hi < x.toInt) (ht : (pc : Int) + dflt = (tgt : Int)) (kk : PW G x0 l M d Z k n tgt lv st T I J) : PW G x0 l M d Z k n pc lv (.int x :: st) T I J := fun p e s m args below meth c R H locs cells slots ls hv h1 h2 hH hS hl => lv_tableOut hv.1 hv.2.1 hd h ht (kk p e s m args below meth c R H locs cells slots ls hv h1 h2 hH hS hl)
theorem s_tabIn {dflt lo hi : Int} {offs : Array Int} {len : Nat} {x : Int32} {off : Int} {tgt : Nat} (hd : decode M.2.1 pc = .ok (.tableswitch dflt lo hi offs, len)) (g1 : ¬ x.toInt < lo) (g2 : ¬ hi < x.toInt) (ho : offs[(x.toInt - lo).toNat]? = some off) (ht : (pc : Int) + off = (tgt : Int)) (kk : PW G x0 l M d Z k n tgt lv st T I J) : PW G x0 l M d Z k n pc lv (.int x :: st) T I J := fun p e s m args below meth c R H locs cells slots ls hv h1 h2 hH hS hl => lv_tableIn hv.1 hv.2.1 hd g1 g2 ho ht (kk p e s m args below meth c R H locs cells slots ls hv h1 h2 hH hS hl)
theorem s_look {dflt : Int} {ps : Array (Int × Int)} {len : Nat} {x : Int32} {off : Int} {tgt : Nat} (hd : decode M.2.1 pc = .ok (.lookupswitch dflt ps, len)) (hp : (ps.toList.zip (ps.toList.drop 1)).all (fun (a, next) => a.1 < next.1) = true) (ho : Op.lookupswitch.offset ps.toList dflt x.toInt = off) (ht : (pc : Int) + off = (tgt : Int)) (kk : PW G x0 l M d Z k n tgt lv st T I J) : PW G x0 l M d Z k n pc lv (.int x :: st) T I J := fun p e s m args below meth c R H locs cells slots ls hv h1 h2 hH hS hl => lv_lookup hv.1 hv.2.1 hd hp ho ht (kk p e s m args below meth c R H locs cells slots ls hv h1 h2 hH hS hl)
/-- a field: own's entry idx is slot j, of kind kd (0 int, 1 reference, 2 long), of class ci -/
def fl (own : String) (idx ci j kd : Nat) : Prop := ∃ (C : String) (Tb : u_T) (N : Nat), vwCl[ci]? = some (C, Tb, N) ∧ j < N ∧ ci < 13 ∧ (∀ w ∈ u_ws C Tb N, w ∈ WL) ∧ Cond.fieldLink own idx (Tb j).1 (Tb j).2.1 (Tb j).2.2.1 ∈ WL ∧ (fm_ty ci)[j]? = some kd
def fp (own : String) (idx ci j kd : Nat) (ty : FieldType) (fin : Bool) : Prop := ∃ (C : String) (Tb : u_T) (N : Nat) (ty0 : Nat → FieldType), vwCl[ci]? = some (C, Tb, N) ∧ j < N ∧ ci < 13 ∧ (∀ w ∈ u_ws C Tb N, w ∈ WL) ∧ Cond.fieldLink own idx (Tb j).1 (Tb j).2.1 (Tb j).2.2.1 ∈ WL ∧ (fm_ty ci)[j]? = some kd ∧ (∀ k, k < N → parseFieldDescriptor (Tb k).2.2.1 = some (ty0 k)) ∧ (∀ a, a < N → ∀ b, b < N → a ≠ b → (Tb a).2.1 ≠ (Tb b).2.1) ∧ (Tb j).2.2.2 = fin ∧ (Tb j).1 = C ∧ parseFieldDescriptor (Tb j).2.2.1 = some ty
theorem s_getV {idx ci j kd a : Nat} (hd : decode M.2.1 pc = .ok (.getfield idx, 3)) (hf : fl M.1.cls idx ci j kd) (ha : a < T.1) (hk : T.2.1 a = ci) (kk : PW G x0 l M d Z k n (pc + 3) lv (fm_v x0 (T.2.2.2 a j) (I a j) (J a j) kd :: st) T I J) : PW G x0 l M d Z k n pc lv (.ref (x0 + a) :: st) T I J := by
  intro p e s m args below meth c R H locs cells slots ls hv h1 h2 hH hS hl
  obtain ⟨C, Tb, N, hc, hj, h13, hin, hlink, hty⟩ := hf
  obtain ⟨hx, hb, hr, hml, hnme, hown, hts, hlk, hK, hX, hx0, hfr, hlo⟩ := id hv
  exact va_get hx hb hts hin hown hK hH.1 a (fm_at ha (fm_E_obj hk h13)) hc j hj (hts _ hlink) (fun _ h => h) (by rw [fm_fs_get, hty]; simp) hd (kk p e s m args below meth c R H locs cells slots ls hv h1 h2 hH hS hl)
theorem s_getI {idx ci j a : Nat} (hd : decode M.2.1 pc = .ok (.getfield idx, 3)) (hf : fl M.1.cls idx ci j 0) (ha : a < T.1) (hk : T.2.1 a = ci) (kk : PW G x0 l M d Z k n (pc + 3) lv (.int (I a j) :: st) T I J) : PW G x0 l M d Z k n pc lv (.ref (x0 + a) :: st) T I J := s_getV hd hf ha hk kk
theorem s_getJ {idx ci j a : Nat} (hd : decode M.2.1 pc = .ok (.getfield idx, 3)) (hf : fl M.1.cls idx ci j 2) (ha : a < T.1) (hk : T.2.1 a = ci) (kk : PW G x0 l M d Z k n (pc + 3) lv (.long (J a j) :: st) T I J) : PW G x0 l M d Z k n pc lv (.ref (x0 + a) :: st) T I J := s_getV hd hf ha hk kk
theorem s_getR {idx ci j a v : Nat} (hd : decode M.2.1 pc = .ok (.getfield idx, 3)) (hf : fl M.1.cls idx ci j 1) (ha : a < T.1) (hk : T.2.1 a = ci) (hr : T.2.2.2 a j = some v) (kk : PW G x0 l M d Z k n (pc + 3) lv (.ref (x0 + v) :: st) T I J) : PW G x0 l M d Z k n pc lv (.ref (x0 + a) :: st) T I J := s_getV hd hf ha hk (by rw [hr]; exact kk)
theorem s_getN {idx ci j a : Nat} (hd : decode M.2.1 pc = .ok (.getfield idx, 3)) (hf : fl M.1.cls idx ci j 1) (ha : a < T.1) (hk : T.2.1 a = ci) (hr : T.2.2.2 a j = none) (kk : PW G x0 l M d Z k n (pc + 3) lv (.null :: st) T I J) : PW G x0 l M d Z k n pc lv (.ref (x0 + a) :: st) T I J := s_getV hd hf ha hk (by rw [hr]; exact kk)
/-- a field written, in any way that changes nothing else -/
theorem s_put {idx ci j kd a : Nat} {w : Value} {T' : fT} {I' : fI} {J' : fJ} {ty : FieldType} {fin : Bool} (hd : decode M.2.1 pc = .ok (.putfield idx, 3)) (hf : fp M.1.cls idx ci j kd ty fin) (hfin : fin = false ∨ (M.1.name = "<init>" ∧ (vwCl[ci]?.map (fun q => q.1)) = some M.1.cls)) (ha : a < T.1) (hk : T.2.1 a = ci) (hn : narrow ty w = w) (hft : fits ty w = true)
    (g1 : T'.1 = T.1) (g2 : T'.2.1 = T.2.1) (g3 : T'.2.2.1 = T.2.2.1) (ho : ∀ b, b ≠ a → T'.2.2.2 b = T.2.2.2 b ∧ I' b = I b ∧ J' b = J b) (hoj : ∀ q, q ≠ j → T'.2.2.2 a q = T.2.2.2 a q ∧ I' a q = I a q ∧ J' a q = J a q) (hw : fm_v x0 (T'.2.2.2 a j) (I' a j) (J' a j) kd = w)
    (kk : PW G x0 l M d Z k n (pc + 3) lv st T' I' J') : PW G x0 l M d Z k n pc lv (w :: .ref (x0 + a) :: st) T I J := by
  intro p e s m args below meth c R H locs cells slots ls hv h1 h2 hH hS hl
  obtain ⟨C, Tb, N, ty0, hc, hj, h13, hin, hlink, hkd, hty, hnm, hfi, hdecl, hpd⟩ := hf
  obtain ⟨hx, hb, hr, hml, hnme, hown, hts, hlk, hK, hX, hx0, hfr, hlo⟩ := id hv
  have he := fm_at (G := G) (x0 := x0) (I := I) (J := J) ha (fm_E_obj hk h13)
  have hap := va_apart (own := M.1.cls) hts hin ty0 hty hnm hK hc
  obtain ⟨r, gg1, cell, q1, q2, q3, q4⟩ := hH.1 a _ he
  have hr' : r = (C, Tb, N) := Option.some.inj (gg1.symm.trans hc)
  subst hr'
  obtain ⟨hSl, hfc, kC, hkC, hkind⟩ := hK.1 ci _ hc
  obtain ⟨cf, kf, fi, f, hi, hsl⟩ := hSl j hj
  have hlay := hts _ (hin _ (u_in_lay hj))
  have hst := (u_facts hfc hkC (u_lays hts hin hj) hi).1
  have hlen : j < (fm_fs x0 (T.2.2.2 a) (I a) (J a) 0 (fm_ty ci)).length := by rw [fm_fs_len]; exact (List.getElem?_eq_some_iff.mp hkd).1
  have fin2 : ∀ (H' : Heap) (locs' : List Loc), H'[x0 + a]? = some (cell.setSlot f.slot w) → H'.size = H.size → (∀ q, q ≠ x0 + a → H'[q]? = H[q]?) → va_S (fm_A x0) s.heap H' locs' → W p l e R s m args below meth c H' locs' cells slots (Z s args below R) (F0 m (pc + 3) ls st) := by
    intro H' locs' e1 e2 e3 hS2
    rw [hsl] at e1
    have hP2 : va_P G.1 vwCl ((fm_W G x0 T I J).set a (x0 + a, .inr (ci, (fm_fs x0 (T.2.2.2 a) (I a) (J a) 0 (fm_ty ci)).set j w))) H' := hH.1.set fm_D he ⟨_, hc, t_OB.to (V := updV (vp_V (fm_fs x0 (T.2.2.2 a) (I a) (J a) 0 (fm_ty ci))) j w) ⟨_, e1, q2, q3, t_set q4 hap hj w⟩ (fun q _ => vp_updV_set hlen w q)⟩ e3
    rw [fm_fs_set hkd hw hoj, fm_set (T' := T') (I' := I') (J' := J') ha g1 (fm_E_obj (by rw [g2]; exact hk) h13) (fun b hb => fm_E_same (by rw [g2]) (by rw [g3]) (ho b hb).1 (ho b hb).2.1 (ho b hb).2.2)] at hP2
    exact kk p e s m args below meth c R H' locs' cells slots ls hv h1 h2 ⟨hP2, by rw [e2, g1]; exact hH.2⟩ hS2 hl
  rcases hfin with hf0 | ⟨hin2, hcl⟩
  · unfold u_lay at hlay
    rw [if_neg (by rw [hfi, hf0]; decide)] at hlay
    have h6 := u_store hfc hkC hkind hlay hi hpd hn hft
    exact W.putK hx hb (f := f) ⟨hown, hts _ hlink, ⟨_, _, _, hi⟩, hst⟩ (by rw [q2]; exact h6) q1 q3 (by rw [hsl]; exact k2_hasslot (q4 j hj)) rfl rfl hd fun H' e1 e2 e3 => fin2 H' _ e1 e2 e3 (hS.put e2 e3 (Nat.le_add_right _ _))
  · cases fin with
    | false =>
      unfold u_lay at hlay
      rw [if_neg (by rw [hfi]; decide)] at hlay
      have h6 := u_store hfc hkC hkind hlay hi hpd hn hft
      exact W.putK hx hb (f := f) ⟨hown, hts _ hlink, ⟨_, _, _, hi⟩, hst⟩ (by rw [q2]; exact h6) q1 q3 (by rw [hsl]; exact k2_hasslot (q4 j hj)) rfl rfl hd fun H' e1 e2 e3 => fin2 H' _ e1 e2 e3 (hS.put e2 e3 (Nat.le_add_right _ _))
    | true =>
      unfold u_lay at hlay
      rw [if_pos hfi] at hlay
      have hCo : C = M.1.cls := by rw [hc] at hcl; exact Option.some.inj hcl
      have hcf : m.cls = cf := by
        obtain ⟨_, _, c', _, _, _, -, -, hf', -, -, -, hown2, -⟩ := Cond.laysFinal_spec hlay
        have e1 : c' = cf := by have := hi.symm.trans hf'; simp at this; exact this.1.symm
        rw [hdecl, hCo] at hown2
        rw [← e1]; exact Option.some.inj (hown.symm.trans hown2)
      have h6 := u_fits hfc hkC hkind (Or.inr hlay) hi hpd hn hft
      exact W.putFinK hx hb hown (hts _ hlink) hi hst hcf (hnme.trans hin2) (by rw [q2]; exact h6) q1 q3 (by rw [hsl]; exact k2_hasslot (q4 j hj)) rfl rfl hd fun H' e1 e2 e3 => fin2 H' _ e1 e2 e3 (hS.put e2 e3 (Nat.le_add_right _ _))
theorem s_putI {idx ci j a : Nat} {x : Int32} (hd : decode M.2.1 pc = .ok (.putfield idx, 3)) (hf : fp M.1.cls idx ci j 0 .int false) (ha : a < T.1) (hk : T.2.1 a = ci) (kk : PW G x0 l M d Z k n (pc + 3) lv st T (iu I a j x) J) : PW G x0 l M d Z k n pc lv (.int x :: .ref (x0 + a) :: st) T I J :=
  s_put (T' := T) (I' := iu I a j x) (J' := J) hd hf (Or.inl rfl) ha hk rfl rfl rfl rfl rfl (fun b hb => ⟨rfl, iu_ne hb, rfl⟩) (fun q hq => ⟨rfl, by simp [iu, hq], rfl⟩) (by simp [fm_v, iu]) kk
theorem s_putFI {idx ci j a : Nat} {x : Int32} (hd : decode M.2.1 pc = .ok (.putfield idx, 3)) (hf : fp M.1.cls idx ci j 0 .int true) (hfin : M.1.name = "<init>" ∧ (vwCl[ci]?.map (fun q => q.1)) = some M.1.cls) (ha : a < T.1) (hk : T.2.1 a = ci) (kk : PW G x0 l M d Z k n (pc + 3) lv st T (iu I a j x) J) : PW G x0 l M d Z k n pc lv (.int x :: .ref (x0 + a) :: st) T I J :=
  s_put (T' := T) (I' := iu I a j x) (J' := J) hd hf (Or.inr hfin) ha hk rfl rfl rfl rfl rfl (fun b hb => ⟨rfl, iu_ne hb, rfl⟩) (fun q hq => ⟨rfl, by simp [iu, hq], rfl⟩) (by simp [fm_v, iu]) kk
theorem s_putZ {idx ci j a : Nat} {x : Int32} (hd : decode M.2.1 pc = .ok (.putfield idx, 3)) (hf : fp M.1.cls idx ci j 0 .boolean false) (hx : x = 0 ∨ x = 1) (ha : a < T.1) (hk : T.2.1 a = ci) (kk : PW G x0 l M d Z k n (pc + 3) lv st T (iu I a j x) J) : PW G x0 l M d Z k n pc lv (.int x :: .ref (x0 + a) :: st) T I J :=
  s_put (T' := T) (I' := iu I a j x) (J' := J) hd hf (Or.inl rfl) ha hk (by rcases hx with rfl | rfl <;> decide) (by rcases hx with rfl | rfl <;> decide) rfl rfl rfl (fun b hb => ⟨rfl, iu_ne hb, rfl⟩) (fun q hq => ⟨rfl, by simp [iu, hq], rfl⟩) (by simp [fm_v, iu]) kk
theorem s_putJ {idx ci j a : Nat} {x : Int64} (hd : decode M.2.1 pc = .ok (.putfield idx, 3)) (hf : fp M.1.cls idx ci j 2 .long false) (ha : a < T.1) (hk : T.2.1 a = ci) (kk : PW G x0 l M d Z k n (pc + 3) lv st T I (ju J a j x)) : PW G x0 l M d Z k n pc lv (.long x :: .ref (x0 + a) :: st) T I J :=
  s_put (T' := T) (I' := I) (J' := ju J a j x) hd hf (Or.inl rfl) ha hk rfl rfl rfl rfl rfl (fun b hb => ⟨rfl, rfl, ju_ne hb⟩) (fun q hq => ⟨rfl, rfl, by simp [ju, hq]⟩) (by simp [fm_v, ju]) kk
theorem s_putR {idx ci j a v : Nat} {ty : FieldType} {fin : Bool} (hd : decode M.2.1 pc = .ok (.putfield idx, 3)) (hf : fp M.1.cls idx ci j 1 ty fin) (hfin : fin = false ∨ (M.1.name = "<init>" ∧ (vwCl[ci]?.map (fun q => q.1)) = some M.1.cls)) (hty : narrow ty (.ref (x0 + v)) = .ref (x0 + v)) (hft : fits ty (.ref (x0 + v)) = true) (ha : a < T.1) (hk : T.2.1 a = ci) (kk : PW G x0 l M d Z k n (pc + 3) lv st (T.1, T.2.1, T.2.2.1, vu T.2.2.2 a j (some v)) I J) : PW G x0 l M d Z k n pc lv (.ref (x0 + v) :: .ref (x0 + a) :: st) T I J :=
  s_put (T' := (T.1, T.2.1, T.2.2.1, vu T.2.2.2 a j (some v))) (I' := I) (J' := J) hd hf hfin ha hk hty hft rfl rfl rfl (fun b hb => ⟨vu_ne hb, rfl, rfl⟩) (fun q hq => ⟨by simp [vu, hq], rfl, rfl⟩) (by simp [fm_v, vu, va_rf]) kk
theorem s_iald {a : Nat} {i : Int32} (hd : decode M.2.1 pc = .ok (.iaload, 1)) (ha : a < T.1) (hk : T.2.1 a = 13) (hin : vp_in i (T.2.2.1 a)) (kk : PW G x0 l M d Z k n (pc + 1) lv (.int (I a i.toNatClampNeg) :: st) T I J) : PW G x0 l M d Z k n pc lv (.int i :: .ref (x0 + a) :: st) T I J := fun p e s m args below meth c R H locs cells slots ls hv h1 h2 hH hS hl =>
  va_iald hv.1 hv.2.1 hv.2.2.2.2.2.2.2.2.1 hH.1 a 0 (fm_at ha (fm_E_int hk)) rfl hin hd (kk p e s m args below meth c R H locs cells slots ls hv h1 h2 hH hS hl)
theorem s_lald {a : Nat} {i : Int32} (hd : decode M.2.1 pc = .ok (.laload, 1)) (ha : a < T.1) (hk : T.2.1 a = 14) (hin : vp_in i (T.2.2.1 a)) (kk : PW G x0 l M d Z k n (pc + 1) lv (.long (J a i.toNatClampNeg) :: st) T I J) : PW G x0 l M d Z k n pc lv (.int i :: .ref (x0 + a) :: st) T I J := fun p e s m args below meth c R H locs cells slots ls hv h1 h2 hH hS hl =>
  va_lald hv.1 hv.2.1 hv.2.2.2.2.2.2.2.2.1 hH.1 a 1 (fm_at ha (fm_E_long hk)) rfl hin hd (kk p e s m args below meth c R H locs cells slots ls hv h1 h2 hH hS hl)
theorem s_aldC {a v : Nat} {i : Int32} (hd : decode M.2.1 pc = .ok (.aaload, 1)) (ha : a < T.1) (hk : T.2.1 a = 15) (hin : vp_in i (T.2.2.1 a)) (hr : T.2.2.2 a i.toNatClampNeg = some v) (kk : PW G x0 l M d Z k n (pc + 1) lv (.ref (x0 + v) :: st) T I J) : PW G x0 l M d Z k n pc lv (.int i :: .ref (x0 + a) :: st) T I J := fun p e s m args below meth c R H locs cells slots ls hv h1 h2 hH hS hl =>
  va_aldq hv.1 hv.2.1 hv.2.2.2.2.2.2.2.2.1 hH.1 a 2 (fm_at ha (fm_E_cut hk)) rfl hin hd (by simp only [hr]; exact kk p e s m args below meth c R H locs cells slots ls hv h1 h2 hH hS hl)
theorem s_aldW {a v : Nat} {i : Int32} (hd : decode M.2.1 pc = .ok (.aaload, 1)) (ha : a < T.1) (hk : T.2.1 a = 16) (hin : vp_in i (T.2.2.1 a)) (hr : T.2.2.2 a i.toNatClampNeg = some v) (kk : PW G x0 l M d Z k n (pc + 1) lv (.ref (x0 + v) :: st) T I J) : PW G x0 l M d Z k n pc lv (.int i :: .ref (x0 + a) :: st) T I J := fun p e s m args below meth c R H locs cells slots ls hv h1 h2 hH hS hl =>
  va_aldq hv.1 hv.2.1 hv.2.2.2.2.2.2.2.2.1 hH.1 a 3 (fm_at ha (fm_E_win hk)) rfl hin hd (by simp only [hr]; exact kk p e s m args below meth c R H locs cells slots ls hv h1 h2 hH hS hl)
theorem s_alen {a : Nat} {v : Int32} (hd : decode M.2.1 pc = .ok (.arraylength, 1)) (ha : a < T.1) (hk : 13 ≤ T.2.1 a ∧ T.2.1 a ≤ 16) (hlen : Int32.ofNat (T.2.2.1 a) = v) (kk : PW G x0 l M d Z k n (pc + 1) lv (.int v :: st) T I J) : PW G x0 l M d Z k n pc lv (.ref (x0 + a) :: st) T I J := by
  intro p e s m args below meth c R H locs cells slots ls hv h1 h2 hH hS hl
  have hK := hv.2.2.2.2.2.2.2.2.1
  rcases (show T.2.1 a = 13 ∨ T.2.1 a = 14 ∨ T.2.1 a = 15 ∨ T.2.1 a = 16 by omega) with hk | hk | hk | hk
  · exact va_alen hv.1 hv.2.1 hK hH.1 a 0 (fm_at ha (fm_E_int hk)) rfl hlen hd (kk p e s m args below meth c R H locs cells slots ls hv h1 h2 hH hS hl)
  · exact va_alen hv.1 hv.2.1 hK hH.1 a 1 (fm_at ha (fm_E_long hk)) rfl hlen hd (kk p e s m args below meth c R H locs cells slots ls hv h1 h2 hH hS hl)
  · exact va_alen hv.1 hv.2.1 hK hH.1 a 2 (fm_at ha (fm_E_cut hk)) rfl hlen hd (kk p e s m args below meth c R H locs cells slots ls hv h1 h2 hH hS hl)
  · exact va_alen hv.1 hv.2.1 hK hH.1 a 3 (fm_at ha (fm_E_win hk)) rfl hlen hd (kk p e s m args below meth c R H locs cells slots ls hv h1 h2 hH hS hl)
theorem s_iast {a : Nat} {i x : Int32} (hd : decode M.2.1 pc = .ok (.iastore, 1)) (ha : a < T.1) (hk : T.2.1 a = 13) (hin : vp_in i (T.2.2.1 a)) (kk : PW G x0 l M d Z k n (pc + 1) lv st T (iu I a i.toNatClampNeg x) J) : PW G x0 l M d Z k n pc lv (.int x :: .int i :: .ref (x0 + a) :: st) T I J := by
  intro p e s m args below meth c R H locs cells slots ls hv h1 h2 hH hS hl
  obtain ⟨hx, hb, hr, hml, hnme, hown, hts, hlk, hK, hX, hx0, hfr, hlo⟩ := id hv
  have he := fm_at (G := G) (x0 := x0) (I := I) (J := J) ha (fm_E_int hk)
  refine W.iast hx hb (hH.1 a _ he) ((hK.2 0 _ rfl).1 (T.2.2.1 a) (fun j => .int (I a j))) (fun q => by cases q) (by show ¬ (i < 0 ∨ (arrV _ _ _).slots.size ≤ _); rw [arrV_size]; exact hin) rfl rfl hd fun H1 e1 z oq => ?_
  have hP2 : va_P G.1 vwCl ((fm_W G x0 T I J).set a (x0 + a, .inl (G.2.1, T.2.2.1 a, .inl (iu I a i.toNatClampNeg x a)))) H1 := by
    refine hH.1.set fm_D he ?_ oq
    show H1[x0 + a]? = some (vp_cell _ _)
    rw [e1]
    rw [vp_cell_i, vp_cell_i, arrV_store]
    congr 2
    funext q
    by_cases hq : q = i.toNatClampNeg
    · subst hq
      simp [updV, iu]
    · simp [updV, iu, hq]
  rw [fm_set (T' := T) (I' := iu I a i.toNatClampNeg x) (J' := J) ha rfl (fm_E_int hk) (fun b hb => fm_E_same rfl rfl rfl (iu_ne hb) rfl)] at hP2
  exact kk p e s m args below meth c R H1 _ cells slots ls hv h1 h2 ⟨hP2, by rw [z]; exact hH.2⟩ (hS.put z oq (Nat.le_add_right _ _)) hl
theorem s_last {a : Nat} {i : Int32} {x : Int64} (hd : decode M.2.1 pc = .ok (.lastore, 1)) (ha : a < T.1) (hk : T.2.1 a = 14) (hin : vp_in i (T.2.2.1 a)) (kk : PW G x0 l M d Z k n (pc + 1) lv st T I (ju J a i.toNatClampNeg x)) : PW G x0 l M d Z k n pc lv (.long x :: .int i :: .ref (x0 + a) :: st) T I J := by
  intro p e s m args below meth c R H locs cells slots ls hv h1 h2 hH hS hl
  obtain ⟨hx, hb, hr, hml, hnme, hown, hts, hlk, hK, hX, hx0, hfr, hlo⟩ := id hv
  have he := fm_at (G := G) (x0 := x0) (I := I) (J := J) ha (fm_E_long hk)
  refine W.last hx hb (hH.1 a _ he) ((hK.2 1 _ rfl).1 (T.2.2.1 a) (fun j => .long (J a j))) (fun q => by cases q) (by show ¬ (i < 0 ∨ (arrV _ _ _).slots.size ≤ _); rw [arrV_size]; exact hin) rfl rfl hd fun H1 e1 z oq => ?_
  have hP2 : va_P G.1 vwCl ((fm_W G x0 T I J).set a (x0 + a, .inl (G.2.2.1, T.2.2.1 a, .inr (.inl (ju J a i.toNatClampNeg x a))))) H1 := by
    refine hH.1.set fm_D he ?_ oq
    show H1[x0 + a]? = some (vp_cell _ _)
    rw [e1]
    rw [vp_cell_l, vp_cell_l, arrV_store]
    congr 2
    funext q
    by_cases hq : q = i.toNatClampNeg
    · subst hq
      simp [updV, ju]
    · simp [updV, ju, hq]
  rw [fm_set (T' := T) (I' := I) (J' := ju J a i.toNatClampNeg x) ha rfl (fm_E_long hk) (fun b hb => fm_E_same rfl rfl rfl rfl (ju_ne hb))] at hP2
  exact kk p e s m args below meth c R H1 _ cells slots ls hv h1 h2 ⟨hP2, by rw [z]; exact hH.2⟩ (hS.put z oq (Nat.le_add_right _ _)) hl
end FM

