/-! from the entry of the law -/
theorem tm_1 {k : Nat} {w : Cond} (h : tables_1_1[k]? = some w) : w ∈ lw_tbl := List.mem_append_right _ (List.mem_append_left _ (List.mem_of_getElem? h))
theorem tm_2 {k : Nat} {w : Cond} (h : tables_1_2[k]? = some w) : w ∈ lw_tbl := List.mem_append_right _ (List.mem_append_right _ (List.mem_append_left _ (List.mem_of_getElem? h)))
theorem tm_3 {k : Nat} {w : Cond} (h : tables_1_3[k]? = some w) : w ∈ lw_tbl := List.mem_append_right _ (List.mem_append_right _ (List.mem_append_right _ (List.mem_append_left _ (List.mem_of_getElem? h))))
theorem tm_4 {k : Nat} {w : Cond} (h : tables_1_4[k]? = some w) : w ∈ lw_tbl := List.mem_append_right _ (List.mem_append_right _ (List.mem_append_right _ (List.mem_append_right _ (List.mem_append_left _ (List.mem_of_getElem? h)))))
theorem tm_5 {k : Nat} {w : Cond} (h : tables_1_5[k]? = some w) : w ∈ lw_tbl := List.mem_append_right _ (List.mem_append_right _ (List.mem_append_right _ (List.mem_append_right _ (List.mem_append_right _ (List.mem_append_left _ (List.mem_of_getElem? h))))))
theorem tm_6 {k : Nat} {w : Cond} (h : tables_1_6[k]? = some w) : w ∈ lw_tbl := List.mem_append_right _ (List.mem_append_right _ (List.mem_append_right _ (List.mem_append_right _ (List.mem_append_right _ (List.mem_append_right _ (List.mem_of_getElem? h))))))
theorem nest_all {b : Nat} {s : State} (hts : ∀ w ∈ lw_tbl, w.before #[Value.ref b] s = true) : ∀ w ∈ fm_nest, va_Nw w s := by
  intro w hw
  have on := fm_nest_on hw
  simp only [fm_nest, List.mem_cons, List.not_mem_nil, or_false] at hw
  rcases hw with rfl | rfl | rfl | rfl | rfl | rfl | rfl | rfl | rfl | rfl | rfl
  · exact va_Nw.of on (hts _ (tm_1 (k := 35) (by decide +kernel)))
  · exact va_Nw.of on (hts _ (tm_1 (k := 94) (by decide +kernel)))
  · exact va_Nw.of on (hts _ (tm_1 (k := 121) (by decide +kernel)))
  · exact va_Nw.of on (hts _ (tm_1 (k := 195) (by decide +kernel)))
  · exact va_Nw.of on (hts _ (tm_1 (k := 211) (by decide +kernel)))
  · exact va_Nw.of on (hts _ (tm_1 (k := 233) (by decide +kernel)))
  · exact va_Nw.of on (hts _ (tm_2 (k := 13) (by decide +kernel)))
  · exact va_Nw.of on (hts _ (tm_2 (k := 164) (by decide +kernel)))
  · exact va_Nw.of on (hts _ (tm_2 (k := 223) (by decide +kernel)))
  · exact va_Nw.of on (hts _ (tm_3 (k := 179) (by decide +kernel)))
  · exact va_Nw.of on (hts _ (tm_3 (k := 184) (by decide +kernel)))
theorem tab_all {b : Nat} {s : State} {A : Nat → Prop} (hts : ∀ w ∈ lw_tbl, w.before #[Value.ref b] s = true) (hgv : (Jvm.Cond.and given_1 narrow_1).before #[Value.ref b] s = true) (hA : ∀ a : Nat, a < s.heap.size → ¬ A a) : ∃ tt : Nat, va_Z "PackedLists$Joiner" "TABLES" "[J" (.ref tt) A s s.heap ∧ va_T .long tt 6 (fun j => .long (fm_tab j)) A s s.heap := by
  have hs := flat_of_before _ hgv
  have harr : (Cond.arrayOf (Term.static "PackedLists$Joiner" "TABLES" "[J") .long).before #[Value.ref b] s = true := hs _ (by decide +kernel)
  have hlen : (Cond.eq (Term.length (Term.static "PackedLists$Joiner" "TABLES" "[J")) (Term.int 6)).before #[Value.ref b] s = true := hs _ (by decide +kernel)
  have q0 : (Cond.eq (Term.elem (Term.static "PackedLists$Joiner" "TABLES" "[J") (Term.int 0)) (Term.long (fm_tab 0))).before #[Value.ref b] s = true := hs _ (by decide +kernel)
  have q1 : (Cond.eq (Term.elem (Term.static "PackedLists$Joiner" "TABLES" "[J") (Term.int 1)) (Term.long (fm_tab 1))).before #[Value.ref b] s = true := hs _ (by decide +kernel)
  have q2 : (Cond.eq (Term.elem (Term.static "PackedLists$Joiner" "TABLES" "[J") (Term.int 2)) (Term.long (fm_tab 2))).before #[Value.ref b] s = true := hs _ (by decide +kernel)
  have q3 : (Cond.eq (Term.elem (Term.static "PackedLists$Joiner" "TABLES" "[J") (Term.int 3)) (Term.long (fm_tab 3))).before #[Value.ref b] s = true := hs _ (by decide +kernel)
  have q4 : (Cond.eq (Term.elem (Term.static "PackedLists$Joiner" "TABLES" "[J") (Term.int 4)) (Term.long (fm_tab 4))).before #[Value.ref b] s = true := hs _ (by decide +kernel)
  have q5 : (Cond.eq (Term.elem (Term.static "PackedLists$Joiner" "TABLES" "[J") (Term.int 5)) (Term.long (fm_tab 5))).before #[Value.ref b] s = true := hs _ (by decide +kernel)
  obtain ⟨tt, h1, h2⟩ := va_Tof (tm := Term.static "PackedLists$Joiner" "TABLES" "[J") (ty := .long) (N := 6) (f := fun j => .long (fm_tab j)) (A := A) (by decide) harr (va_eqt hlen) (fun j hj => by
    rcases (show j = 0 ∨ j = 1 ∨ j = 2 ∨ j = 3 ∨ j = 4 ∨ j = 5 by omega) with rfl | rfl | rfl | rfl | rfl | rfl
    · exact va_eqtl q0
    · exact va_eqtl q1
    · exact va_eqtl q2
    · exact va_eqtl q3
    · exact va_eqtl q4
    · exact va_eqtl q5) hA
  exact ⟨tt, va_Zref (hts _ (tm_3 (k := 238) (by decide +kernel))) (hts _ (WL_tbl wN_X6)) h1 hA, h2⟩
theorem whole_start {p : Program} {e : Env} {s : State} {m : MethodId} {below : List Frame} {meth : Method} {c : Code} (l : Launch) (hflags : l.flags = flags0) {b L : Nat} {xs : Nat → Int32} (hL : L ≤ 2560) (C0 : lw_At p s m meth c b L xs) : W p l e room_1 s m #[Value.ref b] below meth c s.heap [] 0 0 (lw_Z below #[Value.ref b] s) (entryFrame m ([Value.ref b] : List Value).toArray 4) := by
  obtain ⟨hx, hb, hr, hml, hown, hts, hX, hbl, hlocks, hgv⟩ := id C0
  have hWL : ∀ w ∈ WL, w.before #[Value.ref b] s = true := fun w hw => hts w (WL_tbl hw)
  have hA : ∀ a : Nat, a < s.heap.size → ¬ fm_A s.heap.size a := fun a h h2 => absurd h (Nat.not_lt.mpr h2)
  obtain ⟨c0, i0, h0⟩ := u_known (C := RX0) (T := TX0) (N := 7) (n := 7) hWL iw_X0 (hWL _ wA_X0)
  obtain ⟨c1, i1, h1⟩ := u_known (C := RX1) (T := TX1) (N := 5) (n := 5) hWL iw_X1 (hWL _ wA_X1)
  obtain ⟨c2, i2, h2⟩ := u_known (C := RX2) (T := TX2) (N := 3) (n := 3) hWL iw_X2 (hWL _ wA_X2)
  obtain ⟨c3, i3, h3⟩ := u_known (C := RX3) (T := TX3) (N := 4) (n := 4) hWL iw_X3 (hWL _ wA_X3)
  obtain ⟨c4, i4, h4⟩ := u_known (C := RX4) (T := TX4) (N := 2) (n := 2) hWL iw_X4 (hWL _ wA_X4)
  obtain ⟨c5, i5, h5⟩ := u_known (C := RX5) (T := TX5) (N := 4) (n := 4) hWL iw_X5 (hWL _ wA_X5)
  obtain ⟨c6, i6, h6⟩ := u_known (C := RX6) (T := TX6) (N := 8) (n := 8) hWL iw_X6 (hWL _ wA_X6)
  obtain ⟨c7, i7, h7⟩ := u_known (C := RX7) (T := TX7) (N := 4) (n := 4) hWL iw_X7 (hWL _ wA_X7)
  obtain ⟨c8, i8, h8⟩ := u_known (C := RX8) (T := TX8) (N := 3) (n := 3) hWL iw_X8 (hWL _ wA_X8)
  obtain ⟨c9, i9, h9⟩ := u_known (C := RX9) (T := TX9) (N := 2) (n := 2) hWL iw_X9 (hWL _ wA_X9)
  obtain ⟨c10, i10, h10⟩ := u_known (C := RX10) (T := TX10) (N := 6) (n := 6) hWL iw_X10 (hWL _ wA_X10)
  obtain ⟨c11, i11, h11⟩ := u_known (C := RX11) (T := TX11) (N := 10) (n := 10) hWL iw_X11 (hWL _ wA_X11)
  obtain ⟨c12, i12, h12⟩ := u_known (C := RX12) (T := TX12) (N := 35) (n := 35) hWL iw_X12 (hWL _ wA_X12)
  obtain ⟨cI, kI, pI, fI1, fI2, fI3⟩ := Cond.arrayClass_spec (hWL _ wR_int)
  obtain ⟨cJ, kJ, pJ, fJ1, fJ2, fJ3⟩ := Cond.arrayClass_spec (hWL _ wR_long)
  have aoC : va_AO "PackedLists$CutList" s := va_AO.of (hts _ (tm_1 (k := 26) (by decide +kernel)))
  have aoW : va_AO "PackedLists$Window" s := va_AO.of (hts _ (tm_1 (k := 158) (by decide +kernel)))
  obtain ⟨pC, cC, kC, gC1, -, gC3, gC4, gC5⟩ := Cond.arrayOver_spec aoC
  obtain ⟨pW, cW, kW, gW1, -, gW3, gW4, gW5⟩ := Cond.arrayOver_spec aoW
  obtain ⟨tt, z1, z2⟩ := tab_all hts hgv hA
  obtain ⟨G, hG⟩ : ∃ G : fG, G = ((fun k => match k with | 0 => c0 | 1 => c1 | 2 => c2 | 3 => c3 | 4 => c4 | 5 => c5 | 6 => c6 | 7 => c7 | 8 => c8 | 9 => c9 | 10 => c10 | 11 => c11 | _ => c12, fun k => match k with | 0 => i0 | 1 => i1 | 2 => i2 | 3 => i3 | 4 => i4 | 5 => i5 | 6 => i6 | 7 => i7 | 8 => i8 | 9 => i9 | 10 => i10 | 11 => i11 | _ => i12), cI, cJ, cC, cW, tt) := ⟨_, rfl⟩
  have hK : va_K G.1 vwCl (fm_tys G) s := by
    subst hG
    refine ⟨fun k q hq => ?_, fun k q hq => ?_⟩
    · match k, hq with
      | 0, hq => cases hq; exact h0
      | 1, hq => cases hq; exact h1
      | 2, hq => cases hq; exact h2
      | 3, hq => cases hq; exact h3
      | 4, hq => cases hq; exact h4
      | 5, hq => cases hq; exact h5
      | 6, hq => cases hq; exact h6
      | 7, hq => cases hq; exact h7
      | 8, hq => cases hq; exact h8
      | 9, hq => cases hq; exact h9
      | 10, hq => cases hq; exact h10
      | 11, hq => cases hq; exact h11
      | 12, hq => cases hq; exact h12
      | k + 13, hq => simp [vwCl] at hq
    · match k, hq with
      | 0, hq => cases hq; exact ⟨fun n z => ⟨fun k h => (by cases h), kI, fI2, pI, fI3⟩, fI1⟩
      | 1, hq => cases hq; exact ⟨fun n z => ⟨fun k h => (by cases h), kJ, fJ2, pJ, fJ3⟩, fJ1⟩
      | 2, hq => cases hq; exact ⟨fun n z => ⟨fun k h => (by cases h), kC, gC3, pC, gC4⟩, ⟨kC, pC, gC3, gC4, gC1, gC5⟩⟩
      | 3, hq => cases hq; exact ⟨fun n z => ⟨fun k h => (by cases h), kW, gW3, pW, gW4⟩, ⟨kW, pW, gW3, gW4, gW1, gW5⟩⟩
      | k + 4, hq => simp [fm_tys] at hq
  have hG6 : G.2.2.2.2.2 = tt := by rw [hG]
  have hV : fm_V G s.heap.size (mLaw meth.name) 12 p s m #[Value.ref b] meth c room_1 := ⟨hx, hb, hr, hml, rfl, hown, hWL, hlocks, hK, by rw [hG6]; exact ⟨nest_all hts, ⟨z1, z2⟩, aoC, aoW⟩, Nat.le_refl _, by decide, by decide⟩
  have hl := lv_entry ([.ref b]) (n := 4) (Nat.le_of_ble_eq_true rfl)
  rw [lg_entry_eq]
  generalize (lg_sl ([.ref b]) ++ List.replicate (4 - (lg_sl ([.ref b])).length) Slot.unset).toArray = ls at hl ⊢
  have hl : lv_has ls 4 [(0, .ref b)] := hl
  have hH : fm_H G s.heap.size ((0, fun _ => 0, fun _ => 0, fun _ _ => none) : fT) (fun _ _ => 0) (fun _ _ => 0) s.heap := ⟨fun k q h => by simp [fm_W] at h, rfl⟩
  have hw := l_start (G := G) (x0 := s.heap.size) (l := l) (nm := meth.name) (b := b) (L := L) (xs := xs) (I := fun _ _ => 0) (J := fun _ _ => 0) hL (T := ((0, fun _ => 0, fun _ => 0, fun _ _ => none) : fT)) rfl p e s m #[Value.ref b] below meth c room_1 s.heap [] 0 0 ls hV (Nat.le_of_ble_eq_true rfl) (Nat.le_of_ble_eq_true rfl) hH va_S.rf hl
  exact fun T hT X => by
    obtain ⟨t, a1, a2⟩ := hw T hT X
    exact ⟨t, a1, a2 ⟨hX, hbl, rfl, rfl, rfl⟩⟩
