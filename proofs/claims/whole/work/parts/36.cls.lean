theorem s_ldcw {G : fG} {x0 : Nat} {l : Launch} {M : fM} {d : Nat} {Z : fZ} {k n pc : Nat} {lv : List (Nat × Value)} {st : List Value} {T : fT} {I : fI} {J : fJ} {idx : Nat} {v : Int32} (hd : decode M.2.1 pc = .ok (.ldc_w idx, 3)) (hw : Cond.constant M.1.cls idx v ∈ WL) (kk : PW G x0 l M d Z k n (pc + 3) lv (.int v :: st) T I J) : PW G x0 l M d Z k n pc lv st T I J := fun p e s m args below meth c R H locs cells slots ls hv h1 h2 hH hS hl => lv_ldcw hv.1 hv.2.1 hv.2.2.2.2.2.1 (hv.2.2.2.2.2.2.1 _ hw) hd (kk p e s m args below meth c R H locs cells slots ls hv h1 h2 hH hS hl)
/-! the state of the store, and how the class holds it -/
abbrev ASt : Type := (Nat → LSt) × List (Nat × LSt) × (List (Int × Int) × Nat × Nat) × ((Nat → Int) × Nat) × Option (List Int × Int)
def BlOk (s : Nat → Int) (nb m : Nat) : Prop := ∀ j : Nat, j < nb → s j < stf s nb m ((j : Int) + 1) ∧ stf s nb m ((j : Int) + 1) ≤ s j + 64
/-- a list as it should be -/
def LOk (L : LSt) : Prop := L.2.1 ≤ 200 ∧ Sorted L.1 L.2.1 ∧ (∀ q, q < L.2.1 → 0 ≤ L.1 q ∧ L.1 q ≤ 999999) ∧ L.2.2.1 0 = 0 ∧ StOk L.2.2.1 L.2.2.2 L.2.1 ∧ BlOk L.2.2.1 L.2.2.2 L.2.1 ∧ (0 < L.2.1 → 0 < L.2.2.2)
def bf (L : LSt) (j : Nat) : Nat := (L.2.2.1 j).toNat
def bl (L : LSt) (j : Nat) : Nat := (stf L.2.2.1 L.2.2.2 L.2.1 ((j : Int) + 1) - L.2.2.1 j).toNat
theorem LOk.gap {L : LSt} (h : LOk L) : GapOk L.1 L.2.1 := fun i h1 h2 => by
  obtain ⟨a1, a2, a3, -⟩ := h
  have := a2 (i - 1) i (by omega) h2
  have := a3 i h2
  have := a3 (i - 1) (by omega)
  omega
theorem LOk.blk {L : LSt} (h : LOk L) {j : Nat} (hj : j < L.2.2.2) : L.2.2.1 j = (bf L j : Int) ∧ stf L.2.2.1 L.2.2.2 L.2.1 (j : Int) = (bf L j : Int) ∧ stf L.2.2.1 L.2.2.2 L.2.1 ((j : Int) + 1) = ((bf L j + bl L j : Nat) : Int) ∧ 1 ≤ bl L j ∧ bl L j ≤ 64 ∧ bf L j + bl L j ≤ L.2.1 := by
  obtain ⟨a1, a2, a3, a4, a5, a6, a7⟩ := h
  have h1 := a5.1 j hj
  have h2 := a6 j hj
  have h3 : stf L.2.2.1 L.2.2.2 L.2.1 (j : Int) = L.2.2.1 j := by
    unfold stf
    rw [if_pos (by omega)]
    simp
  have h4 : stf L.2.2.1 L.2.2.2 L.2.1 ((j : Int) + 1) ≤ L.2.1 := by
    unfold stf
    split
    · have := (a5.1 ((j : Int) + 1).toNat (by omega)).2; omega
    · exact Int.le_refl _
  rw [h3]
  unfold bf bl
  omega
theorem LOk.nb {L : LSt} (h : LOk L) : ∀ j, j < L.2.2.2 → (j : Int) ≤ L.2.2.1 j := by
  obtain ⟨a1, a2, a3, a4, a5, a6, a7⟩ := h
  intro j
  induction j with
  | zero => intro _; omega
  | succ j ih =>
    intro hj
    have := ih (by omega)
    have := a5.2 j (j + 1) (by omega) hj
    omega
theorem LOk.nbm {L : LSt} (h : LOk L) : L.2.2.2 ≤ L.2.1 := by
  rcases Nat.eq_zero_or_pos L.2.2.2 with e | e
  · omega
  · have h1 := h.nb (L.2.2.2 - 1) (by omega)
    have h2 := h.2.2.2.2.1.1 (L.2.2.2 - 1) (by omega)
    omega
/-- what does not change of the class's objects -/
def CObj (T : fT) : Prop := (162 ≤ T.1 ∧ T.2.1 0 = 11 ∧ T.2.2.2 0 0 = some 1 ∧ T.2.2.2 0 1 = some 2 ∧ T.2.2.2 0 2 = some 37 ∧ T.2.2.2 0 3 = some 40 ∧ T.2.2.2 0 4 = some 42 ∧ T.2.2.2 0 5 = some 44 ∧ T.2.2.2 0 6 = some 111 ∧ T.2.2.2 0 7 = some 112 ∧ T.2.2.2 0 8 = some 115) ∧ ListsAt T ∧ RowAt T 40 100 ∧ ViewAt T 42 ∧ PackAt T ∧ GalAt T 111 ∧ NrAt0 T ∧ ExAt T
theorem GalAt.tq {T T' : fT} {a : Nat} (h : GalAt T a) (q : Tq T T') : GalAt T' a := ⟨by have := q.1; have := h.1; omega, by rw [q.2.1]; exact h.2⟩
theorem NrAt0.tq {T T' : fT} (h : NrAt0 T) (q : Tq T T') : NrAt0 T' := by
  obtain ⟨a1, a2, a3, a4, a5⟩ := h
  have h4 := a4.tq q
  have h5 := a5.tq q
  obtain ⟨q1, q2, q3, q4⟩ := q
  exact ⟨by omega, by rw [q2]; exact a2, by rw [q4 _ _ (by omega) (by omega)]; exact a3, h4, h5⟩
theorem CObj.tq {T T' : fT} (h : CObj T) (q : Tq T T') : CObj T' := by
  obtain ⟨⟨a1, a2, a3, a4, a5, a6, a7, a8, a9, a10, a11⟩, b1, b2, b3, b4, b5, b6, b7⟩ := h
  have v : ∀ j, T'.2.2.2 0 j = T.2.2.2 0 j := fun j => q.2.2.2 _ _ (by omega) (by omega)
  refine ⟨⟨by have := q.1; omega, by rw [q.2.1]; exact a2, ?_, ?_, ?_, ?_, ?_, ?_, ?_, ?_, ?_⟩, b1.tq q, b2.tq q, b3.tq q, b4.tq q, b5.tq q, b6.tq q, b7.tq q⟩ <;> rw [v] <;> assumption
def Lst (T : fT) (I : fI) (Ls : Nat → LSt) : Prop := ∀ i, i < 6 → CutL T I (120 + 4 * i) (Ls i)
theorem Lst.tq {T T' : fT} {I : fI} {Ls : Nat → LSt} (h : Lst T I Ls) (q : Tq T T') : Lst T' I Ls := fun i hi => CutIs.tq (h i hi) q ⟨by omega, by omega⟩
theorem Lst.fr {T : fT} {I I' : fI} {Ls : Nat → LSt} (h : Lst T I Ls) (hf : ∀ b, 120 ≤ b → b < 144 → I' b = I b) : Lst T I' Ls := fun i hi => CutIs.fr (h i hi) (hf _ (by omega) (by omega)) (hf _ (by omega) (by omega)) (hf _ (by omega) (by omega)) (hf _ (by omega) (by omega))
def PackW (I : fI) : Prop := ∀ w, w < 21 → (I (48 + 3 * w) 0).toInt = w
def ResIs (T : fT) (I : fI) : Option (List Int × Int) → Prop
  | none => T.2.2.2 0 9 = none
  | some r => T.2.2.2 0 9 = some 162 ∧ JoinAt T ∧ RowL T I 164 1200 r.1 ∧ I 163 1 = zI r.2
theorem ResIs.tq {T T' : fT} {I : fI} {r : Option (List Int × Int)} (h : ResIs T I r) (q : Tq T T') : ResIs T' I r := by
  cases r with
  | none => show T'.2.2.2 0 9 = none; rw [q.2.2.2 0 9 (by omega) (by omega)]; exact h
  | some r => exact ⟨by rw [q.2.2.2 0 9 (by omega) (by omega)]; exact h.1, h.2.1.tq q, RowIs.tq h.2.2.1 q, h.2.2.2⟩
theorem ResIs.fr {T : fT} {I I' : fI} {r : Option (List Int × Int)} (h : ResIs T I r) (h1 : I' 163 = I 163) (h2 : I' 164 = I 164) (h3 : I' 165 = I 165) : ResIs T I' r := by
  cases r with
  | none => exact h
  | some r => exact ⟨h.1, h.2.1, RowL.fr h.2.2.1 h2 h3, by rw [h1]; exact h.2.2.2⟩
def ClsIs (T : fT) (I : fI) (S : ASt) : Prop := CObj T ∧ Lst T I S.1 ∧ HistIs T I S.2.1 ∧ CacheIs T I S.2.2.1.1 S.2.2.1.2.1 S.2.2.1.2.2 ∧ RowTx T I S.2.2.2.1.1 S.2.2.2.1.2 ∧ PackW I ∧ ResIs T I S.2.2.2.2
theorem ClsIs.tq {T T' : fT} {I : fI} {S : ASt} (h : ClsIs T I S) (q : Tq T T') : ClsIs T' I S := ⟨h.1.tq q, h.2.1.tq q, h.2.2.1.tq q, h.2.2.2.1.tq q, RowIs.tq h.2.2.2.2.1 q, h.2.2.2.2.2.1, h.2.2.2.2.2.2.tq q⟩
theorem histS_lt {b : Nat} (h : b ∈ histS) : b < 37 := by
  revert h
  unfold histS
  intro h
  simp at h
  omega
theorem ClsIs.fr {T : fT} {I I' : fI} {S : ASt} (h : ClsIs T I S) (hf : ∀ b, b < 42 ∨ (120 ≤ b ∧ b < 144) ∨ (162 ≤ b ∧ b < 166) → I' b = I b) (hw : ∀ w, w < 21 → I' (48 + 3 * w) 0 = I (48 + 3 * w) 0) : ClsIs T I' S := ⟨h.1, h.2.1.fr (fun b h1 h2 => hf b (by omega)), h.2.2.1.fr (fun b hb => hf b (by have := histS_lt hb; omega)), h.2.2.2.1.fr (hf _ (by omega)) (hf _ (by omega)) (hf _ (by omega)), RowIs.fr h.2.2.2.2.1 (hf _ (by omega)) (hf _ (by omega)), fun w h1 => by rw [hw w h1]; exact h.2.2.2.2.2.1 w h1, h.2.2.2.2.2.2.fr (hf _ (by omega)) (hf _ (by omega)) (hf _ (by omega))⟩
/-- the class leaves the model alone -/
def frM (I I' : fI) : Prop := ∀ b, 144 ≤ b → b < 162 → I' b = I b
theorem frM.refl (I : fI) : frM I I := fun _ _ _ => rfl
theorem frM.trans {I I1 I2 : fI} (h : frM I I1) (h2 : frM I1 I2) : frM I I2 := fun b a c => (h2 b a c).trans (h b a c)
theorem frM.of {I I' : fI} {S : List Nat} (h : fr I I' S) (hS : ∀ b, b ∈ S → b < 144 ∨ 162 ≤ b) : frM I I' := fun b a c => h b (fun q => by have := hS b q; omega)
def updL (Ls : Nat → LSt) (i : Nat) (L : LSt) : Nat → LSt := fun j => if j = i then L else Ls j
theorem updL_at {Ls : Nat → LSt} {i : Nat} {L : LSt} : updL Ls i L i = L := if_pos rfl
theorem updL_ne {Ls : Nat → LSt} {i j : Nat} {L : LSt} (h : j ≠ i) : updL Ls i L j = Ls j := if_neg h
theorem Lst.upd {T : fT} {I I' : fI} {Ls : Nat → LSt} {i : Nat} {L : LSt} (h : Lst T I Ls) (hi : i < 6) (hf : ∀ b, 120 ≤ b → b < 144 → (b < 120 + 4 * i ∨ 120 + 4 * i + 4 ≤ b) → I' b = I b) (hL : CutL T I' (120 + 4 * i) L) : Lst T I' (updL Ls i L) := fun j hj => by
  by_cases e : j = i
  · subst e; rw [updL_at]; exact hL
  · rw [updL_ne e]
    exact CutIs.fr (h j hj) (hf _ (by omega) (by omega) (by omega)) (hf _ (by omega) (by omega) (by omega)) (hf _ (by omega) (by omega) (by omega)) (hf _ (by omega) (by omega) (by omega))
theorem lidx {x : Int32} (h : 0 ≤ x.toInt ∧ x.toInt < 6) : ∃ li : Nat, li < 6 ∧ x = zI li := ⟨x.toInt.toNat, by omega, t_zI (by omega)⟩
/-- a state as it should be -/
def SOk (S : ASt) : Prop := (∀ i, i < 6 → LOk (S.1 i)) ∧ (∀ e, e ∈ S.2.1 → e.1 < 6 ∧ LOk e.2) ∧ (S.2.2.1.1.Nodup ∧ (∀ e, e ∈ S.2.2.1.1 → 0 ≤ e.1 ∧ e.1 < 6 ∧ 0 ≤ e.2 ∧ e.2 < (S.1 e.1.toNat).2.2.2) ∧ S.2.2.1.2.1 < 100000 ∧ S.2.2.1.2.2 < 100000) ∧ TxOk S.2.2.2.1.1 S.2.2.2.1.2 ∧ S.2.2.2.1.2 ≤ 100 ∧ ∀ r, S.2.2.2.2 = some r → srt r.1 ∧ (∀ v, v ∈ r.1 → 0 ≤ v ∧ v ≤ 999999) ∧ r.1.length ≤ 1200
set_option maxRecDepth 100000 in
set_option maxHeartbeats 1000000 in
theorem c_isList {G : fG} {x0 : Nat} {l : Launch} {d k n : Nat} {T : fT} {I : fI} {J : fJ} {Q : Option Value → fT → fI → fJ → Prop} {x : Int32} (hy : 0 ≤ x.toInt ∧ x.toInt < 6 → Q (some (.int 1)) T I J) (hn : ¬ (0 ≤ x.toInt ∧ x.toInt < 6) → Q (some (.int 0)) T I J) : PW G x0 l mX11_isList d (ZM G x0 Q) k n 0 [(0, .int x)] [] T I J := by
  refine s_iload_n (i := 0) dX11_isList_0 rfl rfl ?_
  refine s_if_lt (tgt := 14) dX11_isList_1 (by decide) (fun c1 => ?_) (fun c1 => ?_)
  · refine s_iconst (v := 0) dX11_isList_14 (by decide) ?_
    refine s_zret dX11_isList_15 rfl (by first | exact Or.inl rfl | exact Or.inr rfl) ?_
    rw [t_lt0] at c1
    try rw [t_le', show ((6 : Int32).toInt) = 6 from by decide] at c7
    first
    | exact hy (by omega)
    | exact hn (by omega)
  · refine s_iload_n (i := 0) dX11_isList_4 rfl rfl ?_
    refine s_bipush (v := 6) dX11_isList_5 (by decide) ?_
    refine s_icmp_ge (tgt := 14) dX11_isList_7 (by decide) (fun c7 => ?_) (fun c7 => ?_)
    · refine s_iconst (v := 0) dX11_isList_14 (by decide) ?_
      refine s_zret dX11_isList_15 rfl (by first | exact Or.inl rfl | exact Or.inr rfl) ?_
      rw [t_lt0] at c1
      try rw [t_le', show ((6 : Int32).toInt) = 6 from by decide] at c7
      first
      | exact hy (by omega)
      | exact hn (by omega)
    · refine s_iconst (v := 1) dX11_isList_10 (by decide) ?_
      refine s_goto (tgt := 15) dX11_isList_11 (by decide) ?_
      refine s_zret dX11_isList_15 rfl (by first | exact Or.inl rfl | exact Or.inr rfl) ?_
      rw [t_lt0] at c1
      try rw [t_le', show ((6 : Int32).toInt) = 6 from by decide] at c7
      first
      | exact hy (by omega)
      | exact hn (by omega)
set_option maxRecDepth 100000 in
set_option maxHeartbeats 1000000 in
theorem c_isValue {G : fG} {x0 : Nat} {l : Launch} {d k n : Nat} {T : fT} {I : fI} {J : fJ} {Q : Option Value → fT → fI → fJ → Prop} {x : Int32} (hy : 0 ≤ x.toInt ∧ x.toInt ≤ 999999 → Q (some (.int 1)) T I J) (hn : ¬ (0 ≤ x.toInt ∧ x.toInt ≤ 999999) → Q (some (.int 0)) T I J) : PW G x0 l mX11_isValue d (ZM G x0 Q) k n 0 [(0, .int x)] [] T I J := by
  refine s_iload_n (i := 0) dX11_isValue_0 rfl rfl ?_
  refine s_if_lt (tgt := 15) dX11_isValue_1 (by decide) (fun c1 => ?_) (fun c1 => ?_)
  · refine s_iconst (v := 0) dX11_isValue_15 (by decide) ?_
    refine s_zret dX11_isValue_16 rfl (by first | exact Or.inl rfl | exact Or.inr rfl) ?_
    rw [t_lt0] at c1
    try rw [t_lt', show ((999999 : Int32).toInt) = 999999 from by decide] at c7
    first
    | exact hy (by omega)
    | exact hn (by omega)
  · refine s_iload_n (i := 0) dX11_isValue_4 rfl rfl ?_
    refine s_ldcw dX11_isValue_5 wK_X11_277 ?_
    refine s_icmp_gt (tgt := 15) dX11_isValue_8 (by decide) (fun c7 => ?_) (fun c7 => ?_)
    · refine s_iconst (v := 0) dX11_isValue_15 (by decide) ?_
      refine s_zret dX11_isValue_16 rfl (by first | exact Or.inl rfl | exact Or.inr rfl) ?_
      rw [t_lt0] at c1
      try rw [t_lt', show ((999999 : Int32).toInt) = 999999 from by decide] at c7
      first
      | exact hy (by omega)
      | exact hn (by omega)
    · refine s_iconst (v := 1) dX11_isValue_11 (by decide) ?_
      refine s_goto (tgt := 16) dX11_isValue_12 (by decide) ?_
      refine s_zret dX11_isValue_16 rfl (by first | exact Or.inl rfl | exact Or.inr rfl) ?_
      rw [t_lt0] at c1
      try rw [t_lt', show ((999999 : Int32).toInt) = 999999 from by decide] at c7
      first
      | exact hy (by omega)
      | exact hn (by omega)
set_option maxRecDepth 100000 in
set_option maxHeartbeats 1000000 in
theorem c_isPacking {G : fG} {x0 : Nat} {l : Launch} {d k n : Nat} {T : fT} {I : fI} {J : fJ} {Q : Option Value → fT → fI → fJ → Prop} {x : Int32} (hy : 0 ≤ x.toInt ∧ x.toInt ≤ 64 → Q (some (.int 1)) T I J) (hn : ¬ (0 ≤ x.toInt ∧ x.toInt ≤ 64) → Q (some (.int 0)) T I J) : PW G x0 l mX11_isPacking d (ZM G x0 Q) k n 0 [(0, .int x)] [] T I J := by
  refine s_iload_n (i := 0) dX11_isPacking_0 rfl rfl ?_
  refine s_if_lt (tgt := 14) dX11_isPacking_1 (by decide) (fun c1 => ?_) (fun c1 => ?_)
  · refine s_iconst (v := 0) dX11_isPacking_14 (by decide) ?_
    refine s_zret dX11_isPacking_15 rfl (by first | exact Or.inl rfl | exact Or.inr rfl) ?_
    rw [t_lt0] at c1
    try rw [t_lt', show ((64 : Int32).toInt) = 64 from by decide] at c7
    first
    | exact hy (by omega)
    | exact hn (by omega)
  · refine s_iload_n (i := 0) dX11_isPacking_4 rfl rfl ?_
    refine s_bipush (v := 64) dX11_isPacking_5 (by decide) ?_
    refine s_icmp_gt (tgt := 14) dX11_isPacking_7 (by decide) (fun c7 => ?_) (fun c7 => ?_)
    · refine s_iconst (v := 0) dX11_isPacking_14 (by decide) ?_
      refine s_zret dX11_isPacking_15 rfl (by first | exact Or.inl rfl | exact Or.inr rfl) ?_
      rw [t_lt0] at c1
      try rw [t_lt', show ((64 : Int32).toInt) = 64 from by decide] at c7
      first
      | exact hy (by omega)
      | exact hn (by omega)
    · refine s_iconst (v := 1) dX11_isPacking_10 (by decide) ?_
      refine s_goto (tgt := 15) dX11_isPacking_11 (by decide) ?_
      refine s_zret dX11_isPacking_15 rfl (by first | exact Or.inl rfl | exact Or.inr rfl) ?_
      rw [t_lt0] at c1
      try rw [t_lt', show ((64 : Int32).toInt) = 64 from by decide] at c7
      first
      | exact hy (by omega)
      | exact hn (by omega)
set_option maxRecDepth 100000 in
set_option maxHeartbeats 1000000 in
theorem c_isBlock {G : fG} {x0 : Nat} {l : Launch} {d k n : Nat} {T : fT} {I : fI} {J : fJ} {Q : Option Value → fT → fI → fJ → Prop} {x y : Int32} {S : ASt} (hS : ClsIs T I S) (hy : ∀ li j : Nat, x = zI li → y = zI j → li < 6 → j < (S.1 li).2.2.2 → Q (some (.int 1)) T I J) (hn : ¬ ((0 ≤ x.toInt ∧ x.toInt < 6) ∧ 0 ≤ y.toInt ∧ y.toInt < (S.1 x.toInt.toNat).2.2.2) → Q (some (.int 0)) T I J) : PW G x0 l mX11_isBlock (d + 1) (ZM G x0 Q) k n 0 [(0, .ref (x0 + 0)), (1, .int x), (2, .int y)] [] T I J := by
  obtain ⟨⟨o1, o2, o3, o4, o5, o6, o7, o8, o9, o10, o11⟩, hLA, hTA, hVA, hPA, hGA, hNA, hEA⟩ := id hS.1
  obtain ⟨la1, la2, la3, la4⟩ := id hLA
  have e0 : (0 : Nat) < T.1 := by omega
  have e1 : (1 : Nat) < T.1 := by omega
  refine s_iload_n (i := 1) dX11_isBlock_0 rfl rfl ?_
  refine s_cS_I (My := mX11_isList) dX11_isBlock_1 wM_X11_74 cb_yX11_isList wT_yX11_isList (Nat.le_of_ble_eq_true rfl) (by decide) (c_isList ?_ ?_)
  · intro hx
    obtain ⟨li, hli, rfl⟩ := lidx hx
    have hxt : (zI (li : Int)).toInt = li := zI_t (by omega) (by omega)
    have hnl : (zI li).toNatClampNeg = li := by rw [zI_n (by omega) (by omega)]; simp
    have hL := hS.2.1 li hli
    obtain ⟨lb1, lb2⟩ := la4 li hli
    obtain ⟨k1, k2, -⟩ := id lb2
    have hnb := hL.2.2.2.1
    refine s_if_eq (tgt := 28) dX11_isBlock_4 (by decide) (fun c4 => absurd c4 (by decide)) (fun c4 => ?_)
    refine s_iload_n (i := 2) dX11_isBlock_7 rfl rfl ?_
    refine s_if_lt (tgt := 28) dX11_isBlock_8 (by decide) (fun c8 => ?_) (fun c8 => ?_)
    · refine s_iconst (v := 0) dX11_isBlock_28 (by decide) ?_
      refine s_zret dX11_isBlock_29 rfl (by first | exact Or.inl rfl | exact Or.inr rfl) ?_
      rw [t_lt0] at c8
      try rw [t_le', hnb] at c21
      first
      | exact hy li y.toInt.toNat rfl (t_zI (by omega)) hli (by omega)
      | (rw [hxt, Int.toNat_natCast] at hn
         exact hn (fun h => by omega))
    · refine s_iload_n (i := 2) dX11_isBlock_11 rfl rfl ?_
      refine s_aload_n (i := 0) dX11_isBlock_12 rfl rfl ?_
      refine s_getR dX11_isBlock_13 fl_X11_11 (by assumption) (by assumption) (by assumption) ?_
      refine s_iload_n (i := 1) dX11_isBlock_16 rfl rfl ?_
      refine s_aldC dX11_isBlock_17 (by assumption) (by assumption) (by rw [la3]; exact z_in (by omega) (by omega) (by omega)) (by rw [hnl]; exact lb1) ?_
      refine s_getI dX11_isBlock_18 fl_X11_147 (by assumption) (by assumption) ?_
      refine s_icmp_ge (tgt := 28) dX11_isBlock_21 (by decide) (fun c21 => ?_) (fun c21 => ?_)
      · refine s_iconst (v := 0) dX11_isBlock_28 (by decide) ?_
        refine s_zret dX11_isBlock_29 rfl (by first | exact Or.inl rfl | exact Or.inr rfl) ?_
        rw [t_lt0] at c8
        try rw [t_le', hnb] at c21
        first
        | exact hy li y.toInt.toNat rfl (t_zI (by omega)) hli (by omega)
        | (rw [hxt, Int.toNat_natCast] at hn
           exact hn (fun h => by omega))
      · refine s_iconst (v := 1) dX11_isBlock_24 (by decide) ?_
        refine s_goto (tgt := 29) dX11_isBlock_25 (by decide) ?_
        refine s_zret dX11_isBlock_29 rfl (by first | exact Or.inl rfl | exact Or.inr rfl) ?_
        rw [t_lt0] at c8
        try rw [t_le', hnb] at c21
        first
        | exact hy li y.toInt.toNat rfl (t_zI (by omega)) hli (by omega)
        | (rw [hxt, Int.toNat_natCast] at hn
           exact hn (fun h => by omega))
  · intro hx
    refine s_if_eq (tgt := 28) dX11_isBlock_4 (by decide) (fun h4 => ?_) (fun h4 => absurd (rfl) h4)
    refine s_iconst (v := 0) dX11_isBlock_28 (by decide) ?_
    refine s_zret dX11_isBlock_29 rfl (by first | exact Or.inl rfl | exact Or.inr rfl) ?_
    exact hn (fun h => hx h.1)
set_option maxRecDepth 100000 in
set_option maxHeartbeats 1000000 in
theorem c_begin {G : fG} {x0 : Nat} {l : Launch} {d k n : Nat} {T : fT} {I : fI} {J : fJ} {Q : Option Value → fT → fI → fJ → Prop} {li : Nat} {S : ASt} (hS : ClsIs T I S) (hli : li < 6) (hq : ∀ I', frM I I' → ClsIs T I' (S.1, ((li, S.1 li) :: S.2.1).take 8, (S.2.2.1.1.filter (fun e => decide (e.1 ≠ (li : Int))), S.2.2.1.2), S.2.2.2) → (∀ b, 40 ≤ b → I' b = I b) → Q none T I' J) : PW G x0 l mX11_beginChange (d + 4) (ZM G x0 Q) k n 0 [(0, .ref (x0 + 0)), (1, .int (zI li))] [] T I J := by
  obtain ⟨⟨o1, o2, o3, o4, o5, o6, o7, o8, o9, o10, o11⟩, hLA, hTA, hVA, hPA, hGA, hNA, hEA⟩ := id hS.1
  obtain ⟨la1, la2, la3, la4⟩ := id hLA
  have e0 : (0 : Nat) < T.1 := by omega
  have e1 : (1 : Nat) < T.1 := by omega
  have hxt : (zI (li : Int)).toInt = li := zI_t (by omega) (by omega)
  have hnl : (zI li).toNatClampNeg = li := by rw [zI_n (by omega) (by omega)]; simp
  have hL := hS.2.1 li hli
  obtain ⟨lb1, lb2⟩ := la4 li hli
  obtain ⟨k1, k2, -⟩ := id lb2
  obtain ⟨h1, h2, -⟩ := id hS.2.2.1.1
  obtain ⟨q1, q2, -⟩ := id hS.2.2.2.1.1
  have e2 : (2 : Nat) < T.1 := by omega
  have e37 : (37 : Nat) < T.1 := by omega
  refine s_aload_n (i := 0) dX11_beginChange_0 rfl rfl ?_
  refine s_getR dX11_beginChange_1 fl_X11_18 (by assumption) (by assumption) (by assumption) ?_
  refine s_iload_n (i := 1) dX11_beginChange_4 rfl rfl ?_
  refine s_aload_n (i := 0) dX11_beginChange_5 rfl rfl ?_
  refine s_getR dX11_beginChange_6 fl_X11_11 (by assumption) (by assumption) (by assumption) ?_
  refine s_iload_n (i := 1) dX11_beginChange_9 rfl rfl ?_
  refine s_aldC dX11_beginChange_10 (by assumption) (by assumption) (by rw [la3]; exact z_in (by omega) (by omega) (by omega)) (by rw [hnl]; exact lb1) ?_
  refine s_cV_IR (My := mX5_record) dX11_beginChange_11 wM_X11_278 cb_yX5_record ci_yX5_record (by assumption) (by assumption) (Nat.le_of_ble_eq_true rfl) (by decide) (s_d (by omega) (c_record (d := 0) hS.2.2.1 hL (by omega) hli (fun I1 hf1 hH1 => ?_)))
  refine s_aload_n (i := 0) dX11_beginChange_14 rfl rfl ?_
  refine s_getR dX11_beginChange_15 fl_X11_25 (by assumption) (by assumption) (by assumption) ?_
  refine s_iload_n (i := 1) dX11_beginChange_18 rfl rfl ?_
  refine s_cV_I (My := mX1_forget) dX11_beginChange_19 wM_X11_282 cb_yX1_forget ci_yX1_forget (by assumption) (by assumption) (Nat.le_of_ble_eq_true rfl) (by decide) (s_d (by omega) (c_forget (d := 0) (hS.2.2.2.1.fr (hf1 _ (fun h => by have := histS_lt h; omega)) (hf1 _ (fun h => by have := histS_lt h; omega)) (hf1 _ (fun h => by have := histS_lt h; omega))) (fun I2 hf2 hC2 => ?_)))
  refine s_ret dX11_beginChange_22 rfl ?_
  rw [hxt] at hC2
  have hb : ∀ b, 40 ≤ b → I2 b = I b := fun b hb => (hf2 b (by simp; omega)).trans (hf1 b (fun h => by have := histS_lt h; omega))
  exact hq I2 (fun b h1 h2 => hb b (by omega)) ⟨hS.1, hS.2.1.fr (fun b h1 h2 => hb b (by omega)), hH1.fr (fun b h => hf2 b (by have := histS_lt h; simp; omega)), hC2, RowIs.fr hS.2.2.2.2.1 (hb _ (by omega)) (hb _ (by omega)), fun w hw => by rw [hb _ (by omega)]; exact hS.2.2.2.2.2.1 w hw, hS.2.2.2.2.2.2.fr (hb _ (by omega)) (hb _ (by omega)) (hb _ (by omega))⟩ hb
