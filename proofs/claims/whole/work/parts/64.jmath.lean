/-! what galloping and merging find -/
def inT (g : Nat → Int) (m i : Nat) (v : Int) : Prop := ∃ q, i ≤ q ∧ q < m ∧ g q = v
theorem inT_hd {g : Nat → Int} {m i : Nat} (h : i < m) : inT g m i (g i) := ⟨i, Nat.le_refl _, h, rfl⟩
theorem inT_end {g : Nat → Int} {m i : Nat} {v : Int} (h : m ≤ i) : ¬ inT g m i v := fun ⟨q, h1, h2, _⟩ => by omega
theorem inT_ne {g : Nat → Int} {m i : Nat} {v : Int} (h : v ≠ g i) : inT g m i v ↔ inT g m (i + 1) v := by
  constructor
  · intro ⟨q, h1, h2, h3⟩
    refine ⟨q, ?_, h2, h3⟩
    rcases Nat.lt_or_ge i q with c | c
    · exact c
    · have : q = i := by omega
      subst this
      exact absurd h3.symm h
  · intro ⟨q, h1, h2, h3⟩
    exact ⟨q, by omega, h2, h3⟩
theorem inT_gt {g : Nat → Int} {m i : Nat} {v : Int} (hs : Sorted g m) (h : inT g m (i + 1) v) : g i < v := by
  obtain ⟨q, h1, h2, rfl⟩ := h
  exact hs i q (by omega) h2
theorem inT_ge {g : Nat → Int} {m i : Nat} {v : Int} (hs : Sorted g m) (h : inT g m i v) : g i ≤ v := by
  obtain ⟨q, h1, h2, rfl⟩ := h
  rcases Nat.lt_or_ge i q with c | c
  · exact Int.le_of_lt (hs i q c h2)
  · have : q = i := by omega
    subst this
    exact Int.le_refl _
theorem inT_from {g : Nat → Int} {m i j : Nat} {v : Int} (hij : i ≤ j) (h : ∀ q, i ≤ q → q < j → g q ≠ v) : inT g m i v ↔ inT g m j v := by
  constructor
  · intro ⟨q, h1, h2, h3⟩
    refine ⟨q, ?_, h2, h3⟩
    rcases Nat.lt_or_ge q j with c | c
    · exact absurd h3 (h q h1 c)
    · exact c
  · intro ⟨q, h1, h2, h3⟩
    exact ⟨q, by omega, h2, h3⟩
theorem gbin_lt {g : Nat → Int} {m : Nat} {t : Int} (hs : Sorted g m) : ∀ z lo hi, hi - lo ≤ z + 1 → lo < hi → hi ≤ m → g lo < t → ∀ q, q < (gbin g t z lo hi).1 → g q < t := by
  have last : ∀ lo q, q ≤ lo → lo < m → g lo < t → g q < t := by
    intro lo q h1 h2 h3
    rcases Nat.lt_or_ge q lo with c | c
    · have := hs q lo c h2; omega
    · have : q = lo := by omega
      subst this
      exact h3
  intro z
  induction z with
  | zero =>
    intro lo hi h1 h2 h3 h4 q hq
    simp only [gbin] at hq
    exact last lo q (by omega) (by omega) h4
  | succ z ih =>
    intro lo hi h1 h2 h3 h4 q hq
    simp only [gbin] at hq
    by_cases c : lo + 1 < hi
    · rw [if_pos c] at hq
      by_cases c2 : t ≤ g ((lo + hi) / 2)
      · rw [if_pos c2] at hq
        exact ih lo ((lo + hi) / 2) (by omega) (by omega) (by omega) h4 q hq
      · rw [if_neg c2] at hq
        exact ih ((lo + hi) / 2) hi (by omega) (by omega) h3 (by omega) q hq
    · rw [if_neg c] at hq
      exact last lo q (by dsimp only at hq; omega) (by omega) h4
theorem gexp_lt {g : Nat → Int} {m : Nat} {t : Int} {p : Nat} (hs : Sorted g m) : ∀ z s lo, m - (p + s) ≤ z → 1 ≤ s → lo < m → p ≤ lo → lo < p + s → g lo < t → ∀ q, q < (gexp g m t p z s lo).1 → g q < t := by
  intro z
  induction z with
  | zero =>
    intro s lo h1 h2 h3 h4 h5 h6 q hq
    simp only [gexp] at hq
    exact gbin_lt hs m lo m (by omega) h3 (Nat.le_refl _) h6 q hq
  | succ z ih =>
    intro s lo h1 h2 h3 h4 h5 h6 q hq
    simp only [gexp] at hq
    by_cases c : p + s < m
    · rw [if_pos c] at hq
      by_cases c2 : t ≤ g (p + s)
      · rw [if_pos c2] at hq
        exact gbin_lt hs m lo (p + s) (by omega) (by omega) (by omega) h6 q hq
      · rw [if_neg c2] at hq
        exact ih (2 * s) (p + s) (by omega) (by omega) c (by omega) (by omega) (by omega) q hq
    · rw [if_neg c] at hq
      exact gbin_lt hs m lo m (by omega) h3 (Nat.le_refl _) h6 q hq
theorem gal_lt {g : Nat → Int} {m p : Nat} {t : Int} (hs : Sorted g m) (hp : p < m) (h : g p < t) : ∀ q, q < (gal g m p t).1 → g q < t := by
  intro q hq
  unfold gal at hq
  rw [if_neg (by omega)] at hq
  exact gexp_lt hs m 1 p (by omega) (Nat.le_refl 1) hp (Nat.le_refl _) (by omega) h q hq
theorem gintL_spec {g1 g2 : Nat → Int} {m1 m2 : Nat} (h1 : Sorted g1 m1) (h2 : Sorted g2 m2) : ∀ z i j, (m1 - i) + (m2 - j) ≤ z → i ≤ m1 → j ≤ m2 → (∀ v, v ∈ gintL g1 m1 g2 m2 z i j ↔ inT g1 m1 i v ∧ inT g2 m2 j v) ∧ srt (gintL g1 m1 g2 m2 z i j) := by
  intro z
  induction z with
  | zero =>
    intro i j hz hi hj
    refine ⟨fun v => ⟨fun h => absurd h List.not_mem_nil, fun h => absurd h.1 (inT_end (by omega))⟩, List.Pairwise.nil⟩
  | succ z ih =>
    intro i j hz hi hj
    simp only [gintL]
    by_cases c : i < m1 ∧ j < m2
    · obtain ⟨c1, c2⟩ := c
      rw [if_pos ⟨c1, c2⟩]
      by_cases e : g1 i = g2 j
      · rw [if_pos e]
        obtain ⟨k1, k2⟩ := ih (i + 1) (j + 1) (by omega) (by omega) (by omega)
        refine ⟨fun v => ?_, List.pairwise_cons.mpr ⟨fun v hv => inT_gt h1 ((k1 v).mp hv).1, k2⟩⟩
        rw [List.mem_cons]
        by_cases ev : v = g1 i
        · rw [ev]
          exact ⟨fun _ => ⟨inT_hd c1, by rw [e]; exact inT_hd c2⟩, fun _ => Or.inl rfl⟩
        · rw [inT_ne ev, inT_ne (show v ≠ g2 j by omega), ← k1 v]
          exact ⟨fun h => h.resolve_left ev, Or.inr⟩
      · rw [if_neg e]
        by_cases e2 : g1 i < g2 j
        · rw [if_pos e2]
          have hg := gal_gt c1 e2
          have hl := gal_lt h1 c1 e2
          obtain ⟨k1, k2⟩ := ih (gal g1 m1 i (g2 j)).1 j (by omega) (by omega) hj
          refine ⟨fun v => ?_, k2⟩
          rw [k1 v]
          constructor
          · intro ⟨a, b⟩
            refine ⟨?_, b⟩
            rw [inT_from (j := (gal g1 m1 i (g2 j)).1) (by omega)]
            · exact a
            · intro q _ hq; have := hl q hq; have := inT_ge h2 b; omega
          · intro ⟨a, b⟩
            refine ⟨?_, b⟩
            rw [inT_from (j := (gal g1 m1 i (g2 j)).1) (by omega)] at a
            · exact a
            · intro q _ hq; have := hl q hq; have := inT_ge h2 b; omega
        · rw [if_neg e2]
          have hg := gal_gt c2 (show g2 j < g1 i by omega)
          have hl := gal_lt h2 c2 (show g2 j < g1 i by omega)
          obtain ⟨k1, k2⟩ := ih i (gal g2 m2 j (g1 i)).1 (by omega) hi (by omega)
          refine ⟨fun v => ?_, k2⟩
          rw [k1 v]
          constructor
          · intro ⟨a, b⟩
            refine ⟨a, ?_⟩
            rw [inT_from (j := (gal g2 m2 j (g1 i)).1) (by omega)]
            · exact b
            · intro q _ hq; have := hl q hq; have := inT_ge h1 a; omega
          · intro ⟨a, b⟩
            refine ⟨a, ?_⟩
            rw [inT_from (j := (gal g2 m2 j (g1 i)).1) (by omega)] at b
            · exact b
            · intro q _ hq; have := hl q hq; have := inT_ge h1 a; omega
    · rw [if_neg c]
      refine ⟨fun v => ⟨fun h => absurd h List.not_mem_nil, fun h => ?_⟩, List.Pairwise.nil⟩
      by_cases c1 : i < m1
      · exact absurd h.2 (inT_end (by omega))
      · exact absurd h.1 (inT_end (by omega))
def mrgL (s : Int) (g1 : Nat → Int) (m1 : Nat) (g2 : Nat → Int) (m2 : Nat) : Nat → Nat → Nat → List Int
  | 0, _, _ => []
  | z + 1, i, j => if i < m1 ∧ (j = m2 ∨ g1 i < g2 j) then g1 i :: mrgL s g1 m1 g2 m2 z (i + 1) j
    else if j < m2 ∧ (i = m1 ∨ g2 j < g1 i) then (if s = 45 then mrgL s g1 m1 g2 m2 z i (j + 1) else g2 j :: mrgL s g1 m1 g2 m2 z i (j + 1))
    else if i < m1 ∧ j < m2 then (if s = 124 then g1 i :: mrgL s g1 m1 g2 m2 z (i + 1) (j + 1) else mrgL s g1 m1 g2 m2 z (i + 1) (j + 1)) else []
def opS (s : Int) (p q : Prop) : Prop := if s = 124 then p ∨ q else if s = 45 then p ∧ ¬ q else (p ∧ ¬ q) ∨ (¬ p ∧ q)
theorem opS_l {s : Int} {p q : Prop} (hp : p) (hq : ¬ q) : opS s p q := by
  unfold opS
  split
  · exact Or.inl hp
  · split
    · exact ⟨hp, hq⟩
    · exact Or.inl ⟨hp, hq⟩
theorem opS_r {s : Int} {p q : Prop} (hp : ¬ p) (hq : q) : opS s p q ↔ s ≠ 45 := by
  unfold opS
  by_cases e : s = 124
  · rw [if_pos e]; exact ⟨fun _ => by omega, fun _ => Or.inr hq⟩
  · rw [if_neg e]
    by_cases e2 : s = 45
    · rw [if_pos e2]; exact ⟨fun h => absurd h.1 hp, fun h => absurd e2 h⟩
    · rw [if_neg e2]; exact ⟨fun _ => e2, fun _ => Or.inr ⟨hp, hq⟩⟩
theorem opS_b {s : Int} {p q : Prop} (hp : p) (hq : q) : opS s p q ↔ s = 124 := by
  unfold opS
  by_cases e : s = 124
  · rw [if_pos e]; exact ⟨fun _ => e, fun _ => Or.inl hp⟩
  · rw [if_neg e]
    by_cases e2 : s = 45
    · rw [if_pos e2]; exact ⟨fun h => absurd hq h.2, fun h => absurd h e⟩
    · rw [if_neg e2]; exact ⟨fun h => h.elim (fun h => absurd hq h.2) (fun h => absurd hp h.1), fun h => absurd h e⟩
theorem opS_or {s : Int} {p q : Prop} (h : opS s p q) : p ∨ q := by
  unfold opS at h
  split at h
  · exact h
  · split at h
    · exact Or.inl h.1
    · exact h.elim (fun h => Or.inl h.1) (fun h => Or.inr h.2)
theorem mrgL_spec {s : Int} {g1 g2 : Nat → Int} {m1 m2 : Nat} (h1 : Sorted g1 m1) (h2 : Sorted g2 m2) : ∀ z i j, (m1 - i) + (m2 - j) ≤ z → i ≤ m1 → j ≤ m2 → (∀ v, v ∈ mrgL s g1 m1 g2 m2 z i j ↔ opS s (inT g1 m1 i v) (inT g2 m2 j v)) ∧ srt (mrgL s g1 m1 g2 m2 z i j) := by
  intro z
  induction z with
  | zero =>
    intro i j hz hi hj
    refine ⟨fun v => ⟨fun h => absurd h List.not_mem_nil, fun h => ?_⟩, List.Pairwise.nil⟩
    exact (opS_or h).elim (fun h => absurd h (inT_end (by omega))) (fun h => absurd h (inT_end (by omega)))
  | succ z ih =>
    intro i j hz hi hj
    simp only [mrgL]
    by_cases c : i < m1 ∧ (j = m2 ∨ g1 i < g2 j)
    · rw [if_pos c]
      obtain ⟨c1, c2⟩ := c
      obtain ⟨k1, k2⟩ := ih (i + 1) j (by omega) (by omega) hj
      have hlow : ∀ v, inT g2 m2 j v → g1 i < v := fun v hv => by
        rcases c2 with e | e
        · exact absurd hv (inT_end (by omega))
        · have := inT_ge h2 hv; omega
      refine ⟨fun v => ?_, List.pairwise_cons.mpr ⟨fun v hv => ?_, k2⟩⟩
      · rw [List.mem_cons]
        by_cases ev : v = g1 i
        · rw [ev]
          exact ⟨fun _ => opS_l (inT_hd c1) (fun h => by have := hlow _ h; omega), fun _ => Or.inl rfl⟩
        · rw [inT_ne ev, ← k1 v]
          exact ⟨fun h => h.resolve_left ev, Or.inr⟩
      · exact (opS_or ((k1 v).mp hv)).elim (fun h => inT_gt h1 h) (fun h => hlow v h)
    · rw [if_neg c]
      by_cases d : j < m2 ∧ (i = m1 ∨ g2 j < g1 i)
      · rw [if_pos d]
        obtain ⟨c1, c2⟩ := d
        obtain ⟨k1, k2⟩ := ih i (j + 1) (by omega) hi (by omega)
        have hlow : ∀ v, inT g1 m1 i v → g2 j < v := fun v hv => by
          rcases c2 with e | e
          · exact absurd hv (inT_end (by omega))
          · have := inT_ge h1 hv; omega
        have hn : ¬ inT g1 m1 i (g2 j) := fun h => by have := hlow _ h; omega
        by_cases e : s = 45
        · rw [if_pos e]
          refine ⟨fun v => ?_, k2⟩
          rw [k1 v]
          by_cases ev : v = g2 j
          · rw [ev, opS_r hn (inT_hd c1)]
            exact ⟨fun h => absurd (opS_or h) (fun h => h.elim hn (fun h => by have := inT_gt h2 h; omega)), fun h => absurd e h⟩
          · rw [inT_ne (g := g2) ev]
        · rw [if_neg e]
          refine ⟨fun v => ?_, List.pairwise_cons.mpr ⟨fun v hv => ?_, k2⟩⟩
          · rw [List.mem_cons]
            by_cases ev : v = g2 j
            · rw [ev, opS_r hn (inT_hd c1)]
              exact ⟨fun _ => e, fun _ => Or.inl rfl⟩
            · rw [inT_ne (g := g2) ev, ← k1 v]
              exact ⟨fun h => h.resolve_left ev, Or.inr⟩
          · exact (opS_or ((k1 v).mp hv)).elim (fun h => hlow v h) (fun h => inT_gt h2 h)
      · rw [if_neg d]
        by_cases f : i < m1 ∧ j < m2
        · rw [if_pos f]
          obtain ⟨c1, c2⟩ := f
          have e : g1 i = g2 j := by omega
          obtain ⟨k1, k2⟩ := ih (i + 1) (j + 1) (by omega) (by omega) (by omega)
          have hb : inT g2 m2 j (g1 i) := by rw [e]; exact inT_hd c2
          by_cases es : s = 124
          · rw [if_pos es]
            refine ⟨fun v => ?_, List.pairwise_cons.mpr ⟨fun v hv => ?_, k2⟩⟩
            · rw [List.mem_cons]
              by_cases ev : v = g1 i
              · rw [ev, opS_b (inT_hd c1) hb]
                exact ⟨fun _ => es, fun _ => Or.inl rfl⟩
              · rw [inT_ne ev, inT_ne (g := g2) (show v ≠ g2 j by omega), ← k1 v]
                exact ⟨fun h => h.resolve_left ev, Or.inr⟩
            · exact (opS_or ((k1 v).mp hv)).elim (fun h => inT_gt h1 h) (fun h => by rw [e]; exact inT_gt h2 h)
          · rw [if_neg es]
            refine ⟨fun v => ?_, k2⟩
            rw [k1 v]
            by_cases ev : v = g1 i
            · rw [ev, opS_b (inT_hd c1) hb]
              exact ⟨fun h => absurd (opS_or h) (fun h => h.elim (fun h => by have := inT_gt h1 h; omega) (fun h => by have := inT_gt h2 h; omega)), fun h => absurd h es⟩
            · rw [inT_ne ev, inT_ne (g := g2) (show v ≠ g2 j by omega)]
        · rw [if_neg f]
          refine ⟨fun v => ⟨fun h => absurd h List.not_mem_nil, fun h => ?_⟩, List.Pairwise.nil⟩
          exact (opS_or h).elim (fun h => absurd h (inT_end (by omega))) (fun h => absurd h (inT_end (by omega)))
/-! rows by tables -/
theorem inT_lfn {L : List Int} {v : Int} : inT (lfn L) L.length 0 v ↔ v ∈ L := by
  constructor
  · intro ⟨q, _, h2, h3⟩
    rw [← h3, lfn_at h2]
    exact List.getElem_mem h2
  · intro h
    obtain ⟨q, h1, h2⟩ := List.getElem_of_mem h
    exact ⟨q, Nat.zero_le _, h1, by rw [lfn_at h1]; exact h2⟩
theorem mk6_bit (g : Nat → Nat → Int) (m : Nat → Nat) (v : Int) : ∀ n i, i < n → (mk6 g m v n).testBit i = inL (g i) (m i) v := by
  intro n
  induction n with
  | zero => intro i h; exact absurd h (Nat.not_lt_zero i)
  | succ n ih =>
    intro i hi
    have hl := mk6_lt g m v n
    simp only [mk6]
    rcases Nat.lt_or_ge i n with c | c
    · split
      · rw [Nat.add_comm, Nat.testBit_two_pow_add_gt c]; exact ih i c
      · exact ih i c
    · have : i = n := by omega
      subst this
      split
      · next h => rw [Nat.add_comm, Nat.testBit_two_pow_add_eq, Nat.testBit_lt_two_pow hl, h]; rfl
      · next h => rw [Nat.testBit_lt_two_pow hl]; simpa using h
theorem rowT_mem {g : Nat → Nat → Int} {m : Nat → Nat} {AL : List Int} {t : Int64} {v : Int} : v ∈ rowT g m AL t ↔ v ∈ AL ∧ tbit t (mk6 g m v 6) = true := by
  unfold rowT
  rw [List.mem_filter]
theorem rowT_srt {g : Nat → Nat → Int} {m : Nat → Nat} {AL : List Int} {t : Int64} (h : srt AL) : srt (rowT g m AL t) := List.Pairwise.sublist List.filter_sublist h
theorem rowT_len {g : Nat → Nat → Int} {m : Nat → Nat} {AL : List Int} {t : Int64} : (rowT g m AL t).length ≤ AL.length := List.length_filter_le _ _
theorem rowT_and {g : Nat → Nat → Int} {m : Nat → Nat} {AL : List Int} {a b : Int64} (h : srt AL) : gintL (lfn (rowT g m AL a)) (rowT g m AL a).length (lfn (rowT g m AL b)) (rowT g m AL b).length ((rowT g m AL a).length + (rowT g m AL b).length) 0 0 = rowT g m AL (a &&& b) := by
  obtain ⟨k1, k2⟩ := gintL_spec (srt_sorted (rowT_srt (g := g) (m := m) (t := a) h)) (srt_sorted (rowT_srt (g := g) (m := m) (t := b) h)) ((rowT g m AL a).length + (rowT g m AL b).length) 0 0 (by omega) (Nat.zero_le _) (Nat.zero_le _)
  refine srt_ext k2 (rowT_srt h) (fun v => ?_)
  rw [k1 v, inT_lfn, inT_lfn, rowT_mem, rowT_mem, rowT_mem, tbit_and, Bool.and_eq_true]
  exact ⟨fun ⟨⟨x, y⟩, ⟨_, z⟩⟩ => ⟨x, y, z⟩, fun ⟨x, y, z⟩ => ⟨⟨x, y⟩, ⟨x, z⟩⟩⟩
theorem rowT_mrg {g : Nat → Nat → Int} {m : Nat → Nat} {AL : List Int} {a b : Int64} {s : Int} (h : srt AL) (hs : s = 124 ∨ s = 45 ∨ s = 94) : mrgL s (lfn (rowT g m AL a)) (rowT g m AL a).length (lfn (rowT g m AL b)) (rowT g m AL b).length ((rowT g m AL a).length + (rowT g m AL b).length) 0 0 = rowT g m AL (jop s a b) := by
  obtain ⟨k1, k2⟩ := mrgL_spec (s := s) (srt_sorted (rowT_srt (g := g) (m := m) (t := a) h)) (srt_sorted (rowT_srt (g := g) (m := m) (t := b) h)) ((rowT g m AL a).length + (rowT g m AL b).length) 0 0 (by omega) (Nat.zero_le _) (Nat.zero_le _)
  refine srt_ext k2 (rowT_srt h) (fun v => ?_)
  have h64 := mk6_lt g m v 6
  have hm1 := tbit_m1 (mk6 g m v 6) h64
  rw [k1 v, inT_lfn, inT_lfn, rowT_mem, rowT_mem, rowT_mem]
  by_cases hv : v ∈ AL
  · unfold opS jop
    rcases hs with rfl | rfl | rfl
    · rw [if_pos rfl, if_pos rfl, tbit_or]
      cases tbit a (mk6 g m v 6) <;> cases tbit b (mk6 g m v 6) <;> simp [hv]
    · rw [if_neg (by decide), if_pos rfl, if_neg (by decide), if_pos rfl, tbit_and, tbit_xor, hm1]
      cases tbit a (mk6 g m v 6) <;> cases tbit b (mk6 g m v 6) <;> simp [hv]
    · rw [if_neg (by decide), if_neg (by decide), if_neg (by decide), if_neg (by decide), if_pos rfl, tbit_xor]
      cases tbit a (mk6 g m v 6) <;> cases tbit b (mk6 g m v 6) <;> simp [hv]
  · exact ⟨fun h => absurd (opS_or h) (fun h => h.elim (fun h => hv h.1) (fun h => hv h.1)), fun h => absurd h.1 hv⟩
theorem rowT_list {g : Nat → Nat → Int} {m : Nat → Nat} {AL : List Int} (hA : AllOf g m AL) (hV : Val6 g m) {i : Nat} (hi : i < 6) : rowT g m AL (fm_tab i) = (List.range (m i)).map (g i) := by
  obtain ⟨a1, a2, a3⟩ := hA
  obtain ⟨v1, v2, v3⟩ := hV i hi
  have hs : srt ((List.range (m i)).map (g i)) := by
    unfold srt
    rw [List.pairwise_iff_getElem]
    intro x y hx hy hxy
    rw [List.length_map, List.length_range] at hx hy
    rw [List.getElem_map, List.getElem_map, List.getElem_range, List.getElem_range]
    exact v2 x y hxy hy
  refine srt_ext (rowT_srt a1) hs (fun v => ?_)
  rw [rowT_mem, tbit_tab i hi _ (mk6_lt g m v 6), mk6_bit g m v 6 i hi, a2 v, List.mem_map]
  constructor
  · intro ⟨_, h⟩
    unfold inL at h
    obtain ⟨q, h1, h2⟩ := of_decide_eq_true h
    exact ⟨q, List.mem_range.mpr h1, h2⟩
  · intro ⟨q, h1, h2⟩
    have h : inL (g i) (m i) v = true := decide_eq_true ⟨q, List.mem_range.mp h1, h2⟩
    exact ⟨⟨i, hi, h⟩, h⟩
