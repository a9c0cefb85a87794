/-! the class's query -/
def Tg (T T' : fT) : Prop := T.1 ≤ T'.1 ∧ (∀ a, a < 162 → T'.2.1 a = T.2.1 a ∧ T'.2.2.1 a = T.2.2.1 a) ∧ ∀ a j, a < 162 → ¬ (a = 0 ∧ j = 9) → T'.2.2.2 a j = T.2.2.2 a j
theorem RowAt.tg {T T' : fT} {r cap : Nat} (h : RowAt T r cap) (q : Tg T T') (hr : 1 ≤ r ∧ r + 1 < 162) : RowAt T' r cap := by
  obtain ⟨a1, a2, a3, a4, a5, a6, a7⟩ := h
  obtain ⟨q1, q2, q3⟩ := q
  exact ⟨by omega, by omega, by rw [(q2 r (by omega)).1]; exact a3, by rw [(q2 (r + 1) (by omega)).1]; exact a4, by rw [q3 r 0 (by omega) (by omega)]; exact a5, by rw [(q2 (r + 1) (by omega)).2]; exact a6, a7⟩
theorem CutAt.tg {T T' : fT} {c : Nat} (h : CutAt T c) (q : Tg T T') (hr : 1 ≤ c ∧ c + 3 < 162) : CutAt T' c := by
  obtain ⟨a1, a2, a3, a4, a5, a6, a7, a8⟩ := h
  have b8 := a8.tg q (by omega)
  obtain ⟨q1, q2, q3⟩ := q
  exact ⟨by omega, by rw [(q2 c (by omega)).1]; exact a2, by rw [q3 c 0 (by omega) (by omega)]; exact a3, by rw [q3 c 1 (by omega) (by omega)]; exact a4, by omega, by rw [(q2 (c + 3) (by omega)).1]; exact a6, by rw [(q2 (c + 3) (by omega)).2]; exact a7, b8⟩
theorem WinAt.tg {T T' : fT} {v : Nat} (h : WinAt T v) (q : Tg T T') (hr : 1 ≤ v ∧ v + 2 < 162) : WinAt T' v := by
  obtain ⟨a1, a2, a3, a4, a5, a6, a7, a8⟩ := h
  obtain ⟨q1, q2, q3⟩ := q
  exact ⟨by omega, by rw [(q2 v (by omega)).1]; exact a2, by rw [q3 v 1 (by omega) (by omega)]; exact a3, by rw [q3 v 2 (by omega) (by omega)]; exact a4, by rw [(q2 (v + 1) (by omega)).1]; exact a5, by rw [(q2 (v + 1) (by omega)).2]; exact a6, by rw [(q2 (v + 2) (by omega)).1]; exact a7, by rw [(q2 (v + 2) (by omega)).2]; exact a8⟩
theorem CObj.tg {T T' : fT} (h : CObj T) (q : Tg T T') : CObj T' := by
  obtain ⟨⟨a1, a2, a3, a4, a5, a6, a7, a8, a9, a10, a11⟩, ⟨b1, b2, b3, b4⟩, c1, ⟨d1, d2, d3, d4, d5, d6⟩, ⟨p1, p2, p3, p4, p5, p6, p7, p8, p9, p10, p11, p12⟩, ⟨g1, g2⟩, ⟨n1, n2, n3, n4, n5⟩, ⟨e1, e2, e3, e4, e5, e6, e7⟩⟩ := h
  obtain ⟨q1, q2, q3⟩ := id q
  have K := fun a (h : a < 162) => (q2 a h).1
  have L := fun a (h : a < 162) => (q2 a h).2
  refine ⟨⟨by omega, by rw [K 0 (by omega)]; exact a2, ?_, ?_, ?_, ?_, ?_, ?_, ?_, ?_, ?_⟩, ⟨by omega, by rw [K 1 (by omega)]; exact b2, by rw [L 1 (by omega)]; exact b3, fun i hi => ⟨by rw [q3 1 i (by omega) (by omega)]; exact (b4 i hi).1, (b4 i hi).2.tg q (by omega)⟩⟩, c1.tg q (by omega), ⟨by omega, by rw [K 42 (by omega)]; exact d2, by rw [q3 42 0 (by omega) (by omega)]; exact d3, by omega, by rw [K 43 (by omega)]; exact d5, by rw [L 43 (by omega)]; exact d6⟩, ⟨by omega, by rw [K 44 (by omega)]; exact p2, by rw [q3 44 0 (by omega) (by omega)]; exact p3, by rw [q3 44 1 (by omega) (by omega)]; exact p4, by rw [q3 44 2 (by omega) (by omega)]; exact p5, by rw [K 45 (by omega)]; exact p6, by rw [L 45 (by omega)]; exact p7, by rw [K 46 (by omega)]; exact p8, by rw [L 46 (by omega)]; exact p9, by rw [K 47 (by omega)]; exact p10, by rw [L 47 (by omega)]; exact p11, fun i hi => ⟨by rw [q3 47 i (by omega) (by omega)]; exact (p12 i hi).1, (p12 i hi).2.tg q (by omega)⟩⟩, ⟨by omega, by rw [K 111 (by omega)]; exact g2⟩, ⟨by omega, by rw [K 112 (by omega)]; exact n2, by rw [q3 112 0 (by omega) (by omega)]; exact n3, n4.tg q (by omega), n5.tg q (by omega)⟩, ⟨by omega, by rw [K 115 (by omega)]; exact e2, by rw [q3 115 0 (by omega) (by omega)]; exact e3, by rw [q3 115 1 (by omega) (by omega)]; exact e4, e5.tg q (by omega), e6.tg q (by omega), e7.tg q (by omega)⟩⟩
  all_goals first | (rw [q3 0 0 (by omega) (by omega)]; assumption) | (rw [q3 0 1 (by omega) (by omega)]; assumption) | (rw [q3 0 2 (by omega) (by omega)]; assumption) | (rw [q3 0 3 (by omega) (by omega)]; assumption) | (rw [q3 0 4 (by omega) (by omega)]; assumption) | (rw [q3 0 5 (by omega) (by omega)]; assumption) | (rw [q3 0 6 (by omega) (by omega)]; assumption) | (rw [q3 0 7 (by omega) (by omega)]; assumption) | (rw [q3 0 8 (by omega) (by omega)]; assumption)
def ClsX (T : fT) (I : fI) (S : ASt) : Prop := CObj T ∧ Lst T I S.1 ∧ HistIs T I S.2.1 ∧ CacheIs T I S.2.2.1.1 S.2.2.1.2.1 S.2.2.1.2.2 ∧ RowTx T I S.2.2.2.1.1 S.2.2.2.1.2 ∧ PackW I
theorem ClsIs.x {T : fT} {I : fI} {S : ASt} (h : ClsIs T I S) : ClsX T I S := ⟨h.1, h.2.1, h.2.2.1, h.2.2.2.1, h.2.2.2.2.1, h.2.2.2.2.2.1⟩
theorem ClsX.fr {T : fT} {I I' : fI} {S : ASt} (h : ClsX T I S) (hf : ∀ b, b < 144 → ¬ (42 ≤ b ∧ b < 48) → ¬ (111 ≤ b ∧ b < 120) → I' b = I b) : ClsX T I' S := ⟨h.1, h.2.1.fr (fun b h1 h2 => hf b (by omega) (by omega) (by omega)), h.2.2.1.fr (fun b hb => hf b (by have := histS_lt hb; omega) (by have := histS_lt hb; omega) (by have := histS_lt hb; omega)), h.2.2.2.1.fr (hf _ (by omega) (by omega) (by omega)) (hf _ (by omega) (by omega) (by omega)) (hf _ (by omega) (by omega) (by omega)), RowIs.fr h.2.2.2.2.1 (hf _ (by omega) (by omega) (by omega)) (hf _ (by omega) (by omega) (by omega)), fun w h1 => by rw [hf _ (by omega) (by omega) (by omega)]; exact h.2.2.2.2.2 w h1⟩
theorem RowIs.tg {T T' : fT} {I : fI} {r cap m : Nat} {g : Nat → Int} (h : RowIs T I r cap g m) (q : Tg T T') (hr : 1 ≤ r ∧ r + 1 < 162) : RowIs T' I r cap g m := ⟨h.1.tg q hr, h.2⟩
theorem CutL.tg {T T' : fT} {I : fI} {c : Nat} {L : LSt} (h : CutL T I c L) (q : Tg T T') (hr : 1 ≤ c ∧ c + 3 < 162) : CutL T' I c L := ⟨h.1.tg q hr, RowIs.tg h.2.1 q (by omega), h.2.2⟩
theorem hslot_lt {La q : Nat} : hslot La q < 8 := by unfold hslot; omega
theorem ClsX.tg {T T' : fT} {I : fI} {S : ASt} (h : ClsX T I S) (q : Tg T T') : ClsX T' I S := by
  obtain ⟨h1, h2, ⟨⟨i1, i2, i3, i4, i5, i6, i7, i8, i9⟩, j1, j2, La, k1, k2, k3⟩, ⟨⟨c1, c2, c3, c4, c5, c6, c7, c8⟩, c9⟩, h5, h6⟩ := h
  obtain ⟨q1, q2, q3⟩ := id q
  have K := fun a (h : a < 162) => (q2 a h).1
  have L := fun a (h : a < 162) => (q2 a h).2
  exact ⟨h1.tg q, fun i hi => CutL.tg (h2 i hi) q (by omega), ⟨⟨by omega, by rw [K 2 (by omega)]; exact i2, by rw [q3 2 0 (by omega) (by omega)]; exact i3, by rw [q3 2 1 (by omega) (by omega)]; exact i4, by rw [K 3 (by omega)]; exact i5, by rw [L 3 (by omega)]; exact i6, by rw [K 4 (by omega)]; exact i7, by rw [L 4 (by omega)]; exact i8, fun s hs => ⟨by rw [q3 4 s (by omega) (by omega)]; exact (i9 s hs).1, (i9 s hs).2.tg q (by omega)⟩⟩, j1, j2, La, k1, k2, fun p e he => ⟨(k3 p e he).1, CutL.tg (k3 p e he).2 q (by have := @hslot_lt La p; omega)⟩⟩, ⟨⟨by omega, by rw [K 37 (by omega)]; exact c2, by rw [q3 37 0 (by omega) (by omega)]; exact c3, by rw [q3 37 1 (by omega) (by omega)]; exact c4, by rw [K 38 (by omega)]; exact c5, by rw [L 38 (by omega)]; exact c6, by rw [K 39 (by omega)]; exact c7, by rw [L 39 (by omega)]; exact c8⟩, c9⟩, RowIs.tg h5 q (by omega), h6⟩
theorem JoiN.at {T : fT} {I : fI} (h : JoiN T I 162) (hT : 175 ≤ T.1) : JoinAt T := by
  obtain ⟨ow, gl, r2, r4, a6, r7, r9, a11, a12⟩ := h
  have o0 : ∀ j, T.2.2.2 162 j = _ := ow.2.2.1
  refine ⟨hT, ow.1, ?_, ?_, ?_, ?_, ?_, ?_, ?_, ?_, ⟨by omega, gl.1⟩, r2.at (by omega) (by omega), r4.at (by omega) (by omega), r7.at (by omega) (by omega), r9.at (by omega) (by omega), a6.1, a6.2.1, a11.1, a11.2.1, a12.1, a12.2.1⟩ <;> rw [o0] <;> rfl
theorem JoinAt.tg {T T' : fT} (h : JoinAt T) (h1 : T'.1 = T.1) (h2 : T'.2.1 = T.2.1) (h3 : T'.2.2.1 = T.2.2.1) (h4 : ∀ a, a ≠ 0 → T'.2.2.2 a = T.2.2.2 a) : JoinAt T' := by
  unfold JoinAt GalAt RowAt at *
  rw [h1, h2, h3, h4 162 (by omega), h4 164 (by omega), h4 166 (by omega), h4 169 (by omega), h4 171 (by omega)]
  exact h
theorem Hgt_P {P : List Int} (h : Hgt P = some 1) : (∀ v, v ∈ P → 0 ≤ v ∧ v ≤ 127) ∧ 0 < P.length ∧ ∀ c, P.head? = some c → 65 ≤ c ∧ c < 71 := by
  refine ⟨fun v hv => ?_, ?_, fun c hc => ?_⟩
  · obtain ⟨q, hq, rfl⟩ := List.getElem_of_mem hv
    obtain ⟨a, -, hc⟩ := Hgt_at h hq
    rw [lfn_at hq] at hc
    rcases hc with ⟨h1, h2, -⟩ | ⟨h1, -⟩
    · omega
    · have := strg_pos.mp h1; omega
  · cases P with
    | nil => cases h
    | cons c P => simp
  · cases P with
    | nil => cases hc
    | cons c' P =>
      cases hc
      obtain ⟨a, ha, hcs⟩ := Hgt_at h (i := 0) (by simp)
      have h0 : a = 0 := by
        rw [List.take_zero] at ha
        exact (Option.some.inj ha).symm
      rcases hcs with ⟨h1, h2, -⟩ | ⟨-, h2, -⟩
      · exact ⟨h1, h2⟩
      · omega
def Tm (T T' : fT) : Prop := T.1 ≤ T'.1 ∧ ∀ a, 144 ≤ a → a < 162 → T'.2.1 a = T.2.1 a ∧ T'.2.2.1 a = T.2.2.1 a ∧ T'.2.2.2 a = T.2.2.2 a
theorem Tm.refl (T : fT) : Tm T T := ⟨Nat.le_refl _, fun _ _ _ => ⟨rfl, rfl, rfl⟩⟩
theorem Tq.m {T T' : fT} (h : Tq T T') : Tm T T' := ⟨by rw [h.1]; exact Nat.le_refl _, fun a h1 h2 => ⟨by rw [h.2.1], by rw [h.2.2.1], funext (fun j => h.2.2.2 a j (by omega) (by omega))⟩⟩
theorem MObj.m {T T' : fT} (h : MObj T) (q : Tm T T') : MObj T' := by
  obtain ⟨h1, h2, h3⟩ := h
  obtain ⟨q1, q2⟩ := q
  refine ⟨by omega, by rw [(q2 144 (by omega) (by omega)).1]; exact h2, fun e he => ?_⟩
  have hb : 144 ≤ e.2.1 ∧ e.2.1 < 162 := by
    simp only [mTab, List.mem_cons, List.not_mem_nil, or_false] at he
    rcases he with rfl | rfl | rfl | rfl | rfl | rfl | rfl | rfl | rfl | rfl | rfl | rfl | rfl | rfl | rfl | rfl | rfl <;> decide
  obtain ⟨k1, k2, k3⟩ := h3 e he
  exact ⟨by rw [(q2 144 (by omega) (by omega)).2.2]; exact k1, by rw [(q2 e.2.1 hb.1 hb.2).1]; exact k2, by rw [(q2 e.2.1 hb.1 hb.2).2.1]; exact k3⟩
theorem MIs.m {T T' : fT} {I I' : fI} {S : ASt} (h : MIs T I S) (q : Tm T T') (hf : frM I I') : MIs T' I' S := by
  have f : ∀ b, 144 ≤ b → b < 162 → I' b = I b := hf
  obtain ⟨h1, h2, ⟨h3, h4, h5⟩, ⟨h6, h7, h8, h9, h10⟩, ⟨h11, h12⟩, h13⟩ := h
  refine ⟨h1.m q, by rw [f 145 (by omega) (by omega)]; exact h2, ⟨h3, by rw [f 144 (by omega) (by omega)]; exact h4, by rw [f 146 (by omega) (by omega)]; exact h5⟩, ⟨h6, by rw [f 144 (by omega) (by omega)]; exact h7, by rw [f 144 (by omega) (by omega)]; exact h8, by rw [f 144 (by omega) (by omega)]; exact h9, by rw [f 147 (by omega) (by omega), f 148 (by omega) (by omega)]; exact h10⟩, ⟨by rw [f 144 (by omega) (by omega)]; exact h11, by rw [f 155 (by omega) (by omega)]; exact h12⟩, ?_⟩
  exact h13.fr (by rw [f 144 (by omega) (by omega)]) (by rw [f 144 (by omega) (by omega)]) (f 149 (by omega) (by omega))
set_option maxRecDepth 100000 in
set_option maxHeartbeats 1000000 in
theorem l_query41 {G : fG} {x0 : Nat} {l : Launch} {d k n : Nat} {T : fT} {I : fI} {J : fJ} {Q : Option Value → fT → fI → fJ → Prop} {e1 : Int32} {S : ASt} {P : List Int} (hX : ClsX T I S) (hk : SOk S) (h9 : T.2.2.2 0 9 = some 162) (hJ : JoinAt T) (hR : RowL T I 116 100 P) (hP : Hgt P = some 1) (hq : ∀ (I' : fI) (J' : fJ) (AL : List Int) (TS : List Int64) (pr : Int), AllOf (gS S) (mS S) AL → (TS, pr) = P.foldl (jst (gS S) (mS S) AL) ([], 0) → frM I I' → ClsIs T I' (setR S (rowT (gS S) (mS S) AL (TS.getD 0 0), pr)) → Q (some (.int (zI (rowT (gS S) (mS S) AL (TS.getD 0 0)).length))) T I' J') : PW G x0 l mX11_query (d + 6) (ZM G x0 Q) k n 41 [(0, .ref (x0 + 0)), (1, .int e1)] [] T I J := by
  have hC := hX.1
  obtain ⟨⟨o1, o2, o3, o4, o5, o6, o7, o8, o9, o10, o11⟩, hLA, hTA, hVA, hPA, hGA, hNA, hEA⟩ := id hC
  have e0 : (0 : Nat) < T.1 := by omega
  obtain ⟨x1, x2, x3, x4, x5, x6, x7⟩ := id hEA
  have e115 : (115 : Nat) < T.1 := by omega
  obtain ⟨p1, p2, p3⟩ := Hgt_P hP
  have j1 := hJ.1
  have j2 := hJ.2.1
  have j4 := hJ.2.2.2.1
  have e162 : (162 : Nat) < T.1 := by omega
  have e164 : (164 : Nat) < T.1 := by omega
  have k164 : T.2.1 164 = 9 := hJ.2.2.2.2.2.2.2.2.2.2.2.1.2.2.1
  refine s_aload_n (i := 0) dX11_query_41 rfl rfl ?_
  refine s_getR dX11_query_42 fl_X11_124 (by assumption) (by assumption) (by assumption) ?_
  refine s_aload_n (i := 0) dX11_query_45 rfl rfl ?_
  refine s_getR dX11_query_46 fl_X11_69 (by assumption) (by assumption) (by assumption) ?_
  refine s_getR dX11_query_49 fl_X11_223 (by assumption) (by assumption) (by assumption) ?_
  refine s_aload_n (i := 0) dX11_query_52 rfl rfl ?_
  refine s_getR dX11_query_53 fl_X11_11 (by assumption) (by assumption) (by assumption) ?_
  refine s_cV_RR (My := mX6_carryOut) dX11_query_56 wM_X11_226 cb_yX6_carryOut ci_yX6_carryOut (by assumption) (by assumption) (Nat.le_of_ble_eq_true rfl) (by decide) (s_d (by omega) (c_carry (d := 0) (P := P) hJ hLA hk.v6 (fun i hi => (hX.2.1 i hi).2.1) hR p1 p2 p3 (fun I1 J1 AL TS pr hA hTS hf1 hp1 _ hR1 => ?_)))
  refine s_aload_n (i := 0) dX11_query_59 rfl rfl ?_
  refine s_getR dX11_query_60 fl_X11_124 (by assumption) (by assumption) (by assumption) ?_
  refine s_getR dX11_query_63 fl_X11_128 (by assumption) (by assumption) (by assumption) ?_
  refine s_getI dX11_query_66 fl_X11_87 (by assumption) (by assumption) ?_
  rw [RowIs.sz hR1]
  refine s_iret dX11_query_69 rfl ?_
  refine hq I1 J1 AL TS pr hA hTS (fun b h1 h2 => hf1 b (by simp [carS]; omega)) ?_
  have hX1 : ClsX T I1 S := hX.fr (fun b h1 h2 h3 => hf1 b (by simp [carS]; omega))
  exact ⟨hX1.1, hX1.2.1, hX1.2.2.1, hX1.2.2.2.1, hX1.2.2.2.2.1, hX1.2.2.2.2.2, h9, hJ, hR1, hp1⟩
set_option maxRecDepth 100000 in
set_option maxHeartbeats 1000000 in
theorem c_query {G : fG} {x0 : Nat} {l : Launch} {d k n : Nat} {T : fT} {I : fI} {J : fJ} {Q : Option Value → fT → fI → fJ → Prop} {S : ASt} (hS : ClsIs T I S) (hk : SOk S) (hN : S.2.2.2.2 = none → T.1 = 162) (hq : ∀ (T' : fT) (I' : fI) (J' : fJ) (a : Int) (S' : ASt), rQuery S a S' → Tm T T' → frM I I' → ClsIs T' I' S' → (S'.2.2.2.2 = none → T' = T) → Q (some (.int (zI a))) T' I' J') : PW G x0 l mX11_query (d + 6) (ZM G x0 Q) (k + 13) (n + 6124) 0 [(0, .ref (x0 + 0))] [] T I J := by
  have hC := hS.1
  obtain ⟨⟨o1, o2, o3, o4, o5, o6, o7, o8, o9, o10, o11⟩, hLA, hTA, hVA, hPA, hGA, hNA, hEA⟩ := id hC
  have e0 : (0 : Nat) < T.1 := by omega
  obtain ⟨x1, x2, x3, x4, x5, x6, x7⟩ := id hEA
  have e115 : (115 : Nat) < T.1 := by omega
  have htl := hk.2.2.2.2.1
  have hTx := hk.2.2.2.1
  refine s_aload_n (i := 0) dX11_query_0 rfl rfl ?_
  refine s_getR dX11_query_1 fl_X11_69 (by assumption) (by assumption) (by assumption) ?_
  refine s_aload_n (i := 0) dX11_query_4 rfl rfl ?_
  refine s_getR dX11_query_5 fl_X11_34 (by assumption) (by assumption) (by assumption) ?_
  refine s_cV_R (My := mX3_read) dX11_query_8 wM_X11_221 cb_yX3_read ci_yX3_read (by assumption) (by assumption) (Nat.le_of_ble_eq_true rfl) (by decide) (s_d (by omega) (c_xread (d := 0) hEA hTx hS.2.2.2.2.1 (fun I1 r hr hf1 hrr => ?_)))
  have hrb := exprOf_bd hr
  have hS1 : ClsIs T I1 S := hS.fr (fun b hb => hf1 b (by simp [exS]; omega)) (fun w hw => by rw [hf1 _ (by simp [exS]; omega)])
  have hM1 : frM I I1 := fun b h1 h2 => hf1 b (by simp [exS]; omega)
  have hX1 := hS1.x
  by_cases e : r.1 = -1
  · have hR := hrr e
    obtain ⟨hH, -⟩ := exprOf_hgt hTx (by rw [← hr]; exact e)
    rw [← hr] at hH
    have fin : ∀ (T' : fT) (I' I2 : fI) (J' : fJ) (AL : List Int) (TS : List Int64) (pr : Int), Tm T T' → frM I I2 → AllOf (gS S) (mS S) AL → (TS, pr) = r.2.foldl (jst (gS S) (mS S) AL) ([], 0) → frM I2 I' → ClsIs T' I' (setR S (rowT (gS S) (mS S) AL (TS.getD 0 0), pr)) → Q (some (.int (zI (rowT (gS S) (mS S) AL (TS.getD 0 0)).length))) T' I' J' := by
      intro T' I' I2 J' AL TS pr hTm hf2 hA hTS hf hC'
      refine hq T' I' J' _ _ (Or.inr ⟨by rw [← hr]; exact e, AL, TS, pr, hA, by rw [← hr]; exact hTS, rfl, rfl⟩) hTm (hf2.trans hf) hC' (fun h => by cases h)
    cases hr2 : S.2.2.2.2 with
    | none =>
      have hT := hN hr2
      have hn9 : T.2.2.2 0 9 = none := by
        have h6 := hS.2.2.2.2.2.2
        rw [hr2] at h6
        exact h6
      refine s_istore_n (i := 1) dX11_query_11 rfl (by decide) (by simp only [sl, sl2, rm, Value.category, reduceIte, Nat.reduceAdd, Nat.reduceEqDiff, reduceCtorEq]; rfl) ?_
      refine s_iload_n (i := 1) dX11_query_12 rfl rfl ?_
      refine s_iconst (v := -1) dX11_query_13 (by decide) ?_
      refine s_icmp_eq (tgt := 23) dX11_query_14 (by decide) (fun h14 => ?_) (fun h14 => absurd (by rw [e]; exact zm1.symm) h14)
      refine s_aload_n (i := 0) dX11_query_23 rfl rfl ?_
      refine s_getN dX11_query_24 fl_X11_124 (by assumption) (by assumption) hn9 ?_
      refine s_ifnonnullN dX11_query_27 ?_
      refine s_aload_n (i := 0) dX11_query_30 rfl rfl ?_
      refine s_kn (k' := (k + 12) + 1) (n' := (n + 6116) + 8) (by omega) (by omega) ?_
      refine n_new (N := 162) hT dX11_query_31 wL_X11_129 cf_X6 (fun T2 I2 J2 hT2 hs2 oc => ?_)
      refine s_dup dX11_query_34 rfl ?_
      refine s_kn (k' := k + 12) (n' := n + 6116) (by omega) (by omega) ?_
      refine s_cIN_ (k' := 12) (n' := 6116) (My := mX6_init) dX11_query_35 wX_X11_222 cb_yX6_init wI_yX6_init rfl rfl (Nat.le_of_ble_eq_true rfl) (by decide) (s_d (by omega) (s_kn (k' := 0 + 12) (n' := 0 + 6116) (by omega) (by omega) (i_Joi (d := 0) (b := 162) (by omega) oc (fun T3 I3 J3 hT3 hs3 jn => ?_))))
      have hs : ∀ a, a < 162 → sm T T3 I1 I3 a := fun a h => (hs2 a h).tr (hs3 a h)
      refine s_putR dX11_query_38 fp_X11_124 (Or.inl rfl) rfl rfl (by omega) (by rw [(hs 0 (by omega)).1]; exact o2) ?_
      obtain ⟨T4, hT4⟩ : ∃ T4 : fT, T4 = (T3.1, T3.2.1, T3.2.2.1, vu T3.2.2.2 0 9 (some 162)) := ⟨_, rfl⟩
      rw [← hT4]
      have v4 : ∀ a, a ≠ 0 → T4.2.2.2 a = T3.2.2.2 a := fun a h => by rw [hT4]; exact vu_ne h
      have hg : Tg T T4 := ⟨by rw [hT4]; show T.1 ≤ T3.1; omega, fun a h => by rw [hT4]; exact ⟨(hs a h).1, (hs a h).2.1⟩, fun a j h1 h2 => by
        by_cases c : a = 0
        · subst c
          rw [hT4]
          show vu T3.2.2.2 0 9 (some 162) 0 j = _
          rw [← (hs 0 (by omega)).2.2.1]
          unfold vu
          rw [if_pos rfl, if_neg (fun h => h2 ⟨rfl, h⟩)]
        · rw [v4 a c, (hs a h1).2.2.1]⟩
      have hJ4 : JoinAt T4 := (jn.at (by omega)).tg (by rw [hT4]) (by rw [hT4]) (by rw [hT4]) v4
      have hX4 : ClsX T4 I3 S := (hX1.tg hg).fr (fun b h1 h2 h3 => (hs b (by omega)).2.2.2)
      have hR4 : RowL T4 I3 116 100 r.2 := RowIs.fr (RowIs.tg hR hg (by omega)) (hs 116 (by omega)).2.2.2 (hs 117 (by omega)).2.2.2
      have hTm : Tm T T4 := ⟨hg.1, fun a h1 h2 => ⟨(hg.2.1 a h2).1, (hg.2.1 a h2).2, by rw [v4 a (by omega)]; exact (hs a h2).2.2.1⟩⟩
      exact l_query41 (d := d) hX4 hk (by rw [hT4]; simp [vu]) hJ4 hR4 hH (fun I' J' AL TS pr hA hTS hf hC' => fin T4 I' I3 J' AL TS pr hTm (hM1.trans (fun b h1 h2 => (hs b h2).2.2.2)) hA hTS hf hC')
    | some r0 =>
      have h6 := hS1.2.2.2.2.2.2
      rw [hr2] at h6
      obtain ⟨h61, h62, -⟩ := h6
      refine s_istore_n (i := 1) dX11_query_11 rfl (by decide) (by simp only [sl, sl2, rm, Value.category, reduceIte, Nat.reduceAdd, Nat.reduceEqDiff, reduceCtorEq]; rfl) ?_
      refine s_iload_n (i := 1) dX11_query_12 rfl rfl ?_
      refine s_iconst (v := -1) dX11_query_13 (by decide) ?_
      refine s_icmp_eq (tgt := 23) dX11_query_14 (by decide) (fun h14 => ?_) (fun h14 => absurd (by rw [e]; exact zm1.symm) h14)
      refine s_aload_n (i := 0) dX11_query_23 rfl rfl ?_
      refine s_getR dX11_query_24 fl_X11_124 (by assumption) (by assumption) (by assumption) ?_
      refine s_ifnonnull (tgt := 41) dX11_query_27 (by decide) ?_
      exact s_kn (k' := k) (n' := n) (by omega) (by omega) (l_query41 (d := d) hX1 hk h61 h62 hR hH (fun I' J' AL TS pr hA hTS hf hC' => fin T I' I1 J' AL TS pr (Tm.refl T) hM1 hA hTS hf hC'))
  · refine s_istore_n (i := 1) dX11_query_11 rfl (by decide) (by simp only [sl, sl2, rm, Value.category, reduceIte, Nat.reduceAdd, Nat.reduceEqDiff, reduceCtorEq]; rfl) ?_
    refine s_iload_n (i := 1) dX11_query_12 rfl rfl ?_
    refine s_iconst (v := -1) dX11_query_13 (by decide) ?_
    refine s_icmp_eq (tgt := 23) dX11_query_14 (by decide) (fun h14 => absurd h14 (fun h => by rw [zm1, zI_eq (by omega) (by omega) (by omega) (by omega)] at h; omega)) (fun h14 => ?_)
    refine s_sipush (v := -2000) dX11_query_17 (by decide) ?_
    refine s_iload_n (i := 1) dX11_query_20 rfl rfl ?_
    refine s_isub dX11_query_21 ?_
    refine s_topi (y := zI (-2000 - r.1)) (by rw [zm2000, zI_sub]) ?_
    refine s_iret dX11_query_22 rfl ?_
    exact hq T I1 J _ S (Or.inl ⟨by rw [← hr]; exact e, by rw [← hr], rfl⟩) (Tm.refl T) hM1 hS1 (fun _ => rfl)
