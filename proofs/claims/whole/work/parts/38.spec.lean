/-! lists after a change -/
theorem stf_nat (s : Nat → Int) (nb m j : Nat) : stf s nb m (j : Int) = if j < nb then s j else (m : Int) := by
  unfold stf
  by_cases h : j < nb
  · rw [if_pos h, if_pos (by omega)]; simp
  · rw [if_neg h, if_neg (by omega)]
theorem stf_natS (s : Nat → Int) (nb m j : Nat) : stf s nb m ((j : Int) + 1) = if j + 1 < nb then s (j + 1) else (m : Int) := by
  rw [show ((j : Int) + 1) = ((j + 1 : Nat) : Int) by omega, stf_nat]
theorem BlOk.of {s : Nat → Int} {nb m : Nat} (h : ∀ j, j < nb → s j < (if j + 1 < nb then s (j + 1) else (m : Int)) ∧ (if j + 1 < nb then s (j + 1) else (m : Int)) ≤ s j + 64) : BlOk s nb m := fun j hj => by rw [stf_natS]; exact h j hj
theorem BlOk.to {s : Nat → Int} {nb m : Nat} (h : BlOk s nb m) {j : Nat} (hj : j < nb) : s j < (if j + 1 < nb then s (j + 1) else (m : Int)) ∧ (if j + 1 < nb then s (j + 1) else (m : Int)) ≤ s j + 64 := by
  have := h j hj
  rw [stf_natS] at this
  exact this
theorem StOk.of {s : Nat → Int} {nb m : Nat} (h0 : 0 < nb → 0 ≤ s 0) (h : ∀ j, j < nb → s j < (if j + 1 < nb then s (j + 1) else (m : Int))) : StOk s nb m := by
  have mono : ∀ t i, i + t < nb → s i ≤ s (i + t) := by
    intro t
    induction t with
    | zero => intro i _; exact Int.le_refl _
    | succ t ih =>
      intro i hi
      have h1 := ih i (by omega)
      have h2 := h (i + t) (by omega)
      rw [if_pos (by omega)] at h2
      rw [show i + (t + 1) = i + t + 1 by omega]
      omega
  refine ⟨fun j hj => ⟨?_, ?_⟩, fun i j hij hj => ?_⟩
  · have h1 := mono j 0 (by omega)
    have h2 := h0 (by omega)
    rw [Nat.zero_add] at h1
    omega
  · have h1 := mono (nb - 1 - j) j (by omega)
    have h2 := h (nb - 1) (by omega)
    rw [if_neg (by omega)] at h2
    rw [show j + (nb - 1 - j) = nb - 1 by omega] at h1
    omega
  · have h1 := h i (by omega)
    rw [if_pos (by omega)] at h1
    have h2 := mono (j - i - 1) (i + 1) (by omega)
    rw [show i + 1 + (j - i - 1) = j by omega] at h2
    omega
theorem insS_ok {s : Nat → Int} {nb m jj : Nat} (h0 : s 0 = 0) (hB : BlOk s nb m) (hj : jj < nb) : (insS s nb m jj).1 0 = 0 ∧ StOk (insS s nb m jj).1 (insS s nb m jj).2 (m + 1) ∧ BlOk (insS s nb m jj).1 (insS s nb m jj).2 (m + 1) ∧ 0 < (insS s nb m jj).2 := by
  have B := fun (j : Nat) (h : j < nb) => hB.to h
  have Bj := B jj hj
  have hu : ∀ j, j < nb → j ≠ jj → mvS s jj 1 j < (if j + 1 < nb then mvS s jj 1 (j + 1) else ((m + 1 : Nat) : Int)) ∧ (if j + 1 < nb then mvS s jj 1 (j + 1) else ((m + 1 : Nat) : Int)) ≤ mvS s jj 1 j + 64 := by
    intro j h1 h2
    have b := B j h1
    unfold mvS
    by_cases e : j + 1 < nb
    · rw [if_pos e] at b ⊢
      rcases Nat.lt_or_ge j jj with h | h
      · rw [if_neg (by omega), if_neg (by omega)]; omega
      · rw [if_pos (by omega), if_pos (by omega)]; omega
    · rw [if_neg e] at b ⊢
      rcases Nat.lt_or_ge j jj with h | h
      · omega
      · rw [if_pos (by omega)]; omega
  have hjj : mvS s jj 1 jj = s jj := by unfold mvS; rw [if_neg (by omega)]
  have hend : (if jj + 1 < nb then mvS s jj 1 (jj + 1) else ((m + 1 : Nat) : Int)) = (if jj + 1 < nb then s (jj + 1) else (m : Int)) + 1 := by
    unfold mvS
    by_cases e : jj + 1 < nb
    · rw [if_pos e, if_pos e, if_pos (by omega)]
    · rw [if_neg e, if_neg e]; omega
  have hu0 : mvS s jj 1 0 = 0 := by unfold mvS; rw [if_neg (by omega)]; exact h0
  unfold insS
  rw [stf_natS, stf_nat, if_pos hj, hend, hjj]
  generalize hX : (if jj + 1 < nb then s (jj + 1) else (m : Int)) = X at Bj hend
  by_cases hc : X + 1 - s jj ≤ 64
  · rw [if_pos hc]
    have key : ∀ j, j < nb → mvS s jj 1 j < (if j + 1 < nb then mvS s jj 1 (j + 1) else ((m + 1 : Nat) : Int)) ∧ (if j + 1 < nb then mvS s jj 1 (j + 1) else ((m + 1 : Nat) : Int)) ≤ mvS s jj 1 j + 64 := by
      intro j h1
      by_cases e : j = jj
      · subst e; rw [hend, hjj]; omega
      · exact hu j h1 e
    exact ⟨hu0, StOk.of (fun _ => by dsimp only; omega) (fun j h => (key j h).1), BlOk.of key, by dsimp only; omega⟩
  · rw [if_neg hc]
    have v : ∀ i, i ≤ jj → ins (mvS s jj 1) (jj + 1) (s jj + 32) i = mvS s jj 1 i := fun i hi => by unfold ins; rw [if_pos (by omega)]
    have v1 : ins (mvS s jj 1) (jj + 1) (s jj + 32) (jj + 1) = s jj + 32 := by unfold ins; rw [if_neg (by omega), if_pos rfl]
    have v2 : ∀ i, jj < i → ins (mvS s jj 1) (jj + 1) (s jj + 32) (i + 1) = mvS s jj 1 i := fun i hi => by unfold ins; rw [if_neg (by omega), if_neg (by omega), Nat.add_sub_cancel]
    have key : ∀ j, j < nb + 1 → ins (mvS s jj 1) (jj + 1) (s jj + 32) j < (if j + 1 < nb + 1 then ins (mvS s jj 1) (jj + 1) (s jj + 32) (j + 1) else ((m + 1 : Nat) : Int)) ∧ (if j + 1 < nb + 1 then ins (mvS s jj 1) (jj + 1) (s jj + 32) (j + 1) else ((m + 1 : Nat) : Int)) ≤ ins (mvS s jj 1) (jj + 1) (s jj + 32) j + 64 := by
      intro j h1
      rcases Nat.lt_trichotomy j jj with h | h | h
      · have := hu j (by omega) (by omega)
        rw [if_pos (by omega)] at this ⊢
        rw [v j (by omega), v (j + 1) (by omega)]
        exact this
      · subst h
        rw [if_pos (by omega), v1, v j (by omega), hjj]
        omega
      · rcases Nat.lt_or_ge (jj + 1) j with h2 | h2
        · obtain ⟨i, rfl⟩ : ∃ i, j = i + 1 := ⟨j - 1, by omega⟩
          have := hu i (by omega) (by omega)
          rw [v2 i (by omega)]
          by_cases e : i + 1 < nb
          · rw [if_pos e] at this
            rw [if_pos (by omega), v2 (i + 1) (by omega)]
            exact this
          · rw [if_neg e] at this
            rw [if_neg (by omega)]
            exact this
        · have : j = jj + 1 := by omega
          subst this
          rw [v1]
          by_cases e : jj + 1 < nb
          · rw [if_pos e] at hend
            rw [if_pos (by omega), v2 (jj + 1) (by omega), hend]
            omega
          · rw [if_neg e] at hend
            rw [if_neg (by omega), hend]
            omega
    exact ⟨by dsimp only; rw [v 0 (by omega)]; exact hu0, StOk.of (fun _ => by dsimp only; rw [v 0 (by omega)]; omega) (fun j h => (key j h).1), BlOk.of key, by dsimp only; omega⟩
theorem delS_ok {s : Nat → Int} {nb m jj : Nat} (h0 : s 0 = 0) (hB : BlOk s nb m) (hj : jj < nb) (hm : 0 < m) : StOk (delS s nb m jj).1 (delS s nb m jj).2 (m - 1) ∧ BlOk (delS s nb m jj).1 (delS s nb m jj).2 (m - 1) ∧ (0 < (delS s nb m jj).2 → (delS s nb m jj).1 0 = 0) ∧ (0 < m - 1 → 0 < (delS s nb m jj).2) := by
  have B := fun (j : Nat) (h : j < nb) => hB.to h
  have Bj := B jj hj
  have hu : ∀ j, j < nb → j ≠ jj → mvS s jj (-1) j < (if j + 1 < nb then mvS s jj (-1) (j + 1) else ((m - 1 : Nat) : Int)) ∧ (if j + 1 < nb then mvS s jj (-1) (j + 1) else ((m - 1 : Nat) : Int)) ≤ mvS s jj (-1) j + 64 := by
    intro j h1 h2
    have b := B j h1
    unfold mvS
    by_cases e : j + 1 < nb
    · rw [if_pos e] at b ⊢
      rcases Nat.lt_or_ge j jj with h | h
      · rw [if_neg (by omega), if_neg (by omega)]; omega
      · rw [if_pos (by omega), if_pos (by omega)]; omega
    · rw [if_neg e] at b ⊢
      rcases Nat.lt_or_ge j jj with h | h
      · omega
      · rw [if_pos (by omega)]; omega
  have hjj : mvS s jj (-1) jj = s jj := by unfold mvS; rw [if_neg (by omega)]
  have hend : (if jj + 1 < nb then mvS s jj (-1) (jj + 1) else ((m - 1 : Nat) : Int)) = (if jj + 1 < nb then s (jj + 1) else (m : Int)) - 1 := by
    unfold mvS
    by_cases e : jj + 1 < nb
    · rw [if_pos e, if_pos e, if_pos (by omega)]; omega
    · rw [if_neg e, if_neg e]; omega
  have hu0 : mvS s jj (-1) 0 = 0 := by unfold mvS; rw [if_neg (by omega)]; exact h0
  unfold delS
  rw [stf_natS, stf_nat, if_pos hj, hend, hjj]
  generalize hX : (if jj + 1 < nb then s (jj + 1) else (m : Int)) = X at Bj hend
  by_cases hc : X - 1 = s jj
  · rw [if_pos hc]
    have v : ∀ i, i < jj → del (mvS s jj (-1)) jj i = mvS s jj (-1) i := fun i hi => by unfold del; rw [if_pos hi]
    have v2 : ∀ i, jj ≤ i → del (mvS s jj (-1)) jj i = mvS s jj (-1) (i + 1) := fun i hi => by unfold del; rw [if_neg (by omega)]
    have key : ∀ j, j < nb - 1 → del (mvS s jj (-1)) jj j < (if j + 1 < nb - 1 then del (mvS s jj (-1)) jj (j + 1) else ((m - 1 : Nat) : Int)) ∧ (if j + 1 < nb - 1 then del (mvS s jj (-1)) jj (j + 1) else ((m - 1 : Nat) : Int)) ≤ del (mvS s jj (-1)) jj j + 64 := by
      intro j h1
      rcases Nat.lt_or_ge j jj with h | h
      · rw [v j h]
        have := hu j (by omega) (by omega)
        rw [if_pos (by omega)] at this
        rcases Nat.lt_or_ge (j + 1) jj with h2 | h2
        · rw [if_pos (by omega), v _ h2]; exact this
        · have e : j + 1 = jj := by omega
          rw [e, hjj] at this
          by_cases e2 : j + 1 < nb - 1
          · rw [if_pos (by omega)] at hend
            rw [if_pos e2, v2 _ (by omega), e, hend, hc]
            exact this
          · rw [if_neg (by omega)] at hend
            rw [if_neg e2, hend, hc]
            exact this
      · rw [v2 j h]
        have := hu (j + 1) (by omega) (by omega)
        by_cases e2 : j + 1 < nb - 1
        · rw [if_pos (by omega)] at this
          rw [if_pos e2, v2 _ (by omega)]; exact this
        · rw [if_neg (by omega)] at this
          rw [if_neg e2]; exact this
    have z0 : 0 < nb - 1 → del (mvS s jj (-1)) jj 0 = 0 := fun hp => by
      rcases Nat.eq_zero_or_pos jj with e | e
      · subst e
        rw [v2 0 (Nat.le_refl 0)]
        rw [if_pos (by omega)] at hend
        rw [hend, hc, h0]
      · rw [v 0 e]; exact hu0
    refine ⟨StOk.of (fun hp => by have := z0 hp; dsimp only; omega) (fun j h => (key j h).1), BlOk.of key, z0, fun hp => ?_⟩
    dsimp only
    rcases Nat.lt_or_ge 1 nb with h | h
    · omega
    · exfalso
      have e : jj = 0 := by omega
      subst e
      rw [if_neg (by omega)] at hX
      omega
  · rw [if_neg hc]
    have key : ∀ j, j < nb → mvS s jj (-1) j < (if j + 1 < nb then mvS s jj (-1) (j + 1) else ((m - 1 : Nat) : Int)) ∧ (if j + 1 < nb then mvS s jj (-1) (j + 1) else ((m - 1 : Nat) : Int)) ≤ mvS s jj (-1) j + 64 := by
      intro j h1
      by_cases e : j = jj
      · subst e; rw [hend, hjj]; omega
      · exact hu j h1 e
    exact ⟨StOk.of (fun _ => by dsimp only; omega) (fun j h => (key j h).1), BlOk.of key, fun _ => hu0, fun _ => by dsimp only; omega⟩
theorem ins_sorted {g : Nat → Int} {m p : Nat} {v : Int} (hs : Sorted g m) (hF : FA g m v p) (hn : ∀ q, q < m → g q ≠ v) : Sorted (ins g p v) (m + 1) := by
  obtain ⟨f1, f2, f3⟩ := hF
  intro a b hab hb
  unfold ins
  have lt1 : ∀ k, k < p → g k < v := f2
  have lt2 : ∀ k, p ≤ k → k < m → v < g k := fun k h1 h2 => by have := f3 k h1 h2; have := hn k h2; omega
  rcases Nat.lt_trichotomy b p with h | h | h
  · rw [if_pos (by omega), if_pos h]; exact hs a b hab (by omega)
  · rw [if_pos (by omega), if_neg (by omega), if_pos h]; exact lt1 a (by omega)
  · rw [if_neg (show ¬ b < p by omega), if_neg (show ¬ b = p by omega)]
    rcases Nat.lt_trichotomy a p with h2 | h2 | h2
    · rw [if_pos h2]
      have := lt1 a h2
      have := lt2 (b - 1) (by omega) (by omega)
      omega
    · rw [if_neg (by omega), if_pos h2]; exact lt2 (b - 1) (by omega) (by omega)
    · rw [if_neg (by omega), if_neg (by omega)]; exact hs (a - 1) (b - 1) (by omega) (by omega)
theorem del_sorted {g : Nat → Int} {m p : Nat} (hs : Sorted g m) : Sorted (del g p) (m - 1) := by
  intro a b hab hb
  unfold del
  split <;> split
  · exact hs _ _ (by omega) (by omega)
  · exact hs _ _ (by omega) (by omega)
  · omega
  · exact hs _ _ (by omega) (by omega)
def insL (L : LSt) (p : Nat) (v : Int) (jj : Nat) : LSt := (ins L.1 p v, L.2.1 + 1, (insS L.2.2.1 (if L.2.2.2 = 0 then 1 else L.2.2.2) L.2.1 jj).1, (insS L.2.2.1 (if L.2.2.2 = 0 then 1 else L.2.2.2) L.2.1 jj).2)
def delL (L : LSt) (q0 jj : Nat) : LSt := (del L.1 q0, L.2.1 - 1, if (delS L.2.2.1 L.2.2.2 L.2.1 jj).2 = 0 then (fun _ => 0) else (delS L.2.2.1 L.2.2.2 L.2.1 jj).1, (delS L.2.2.1 L.2.2.2 L.2.1 jj).2)
theorem LOk.insOk {L : LSt} (h : LOk L) {p : Nat} {v j : Int} (hm : L.2.1 < 200) (hv : 0 ≤ v ∧ v ≤ 999999) (hF : FA L.1 L.2.1 v p) (hn : ∀ q, q < L.2.1 → L.1 q ≠ v) (hB : LB L.1 L.2.2.1 L.2.2.2 v j) : LOk (insL L p v j.toNat) := by
  obtain ⟨a1, a2, a3, a4, a5, a6, a7⟩ := h
  have key : (insS L.2.2.1 (if L.2.2.2 = 0 then 1 else L.2.2.2) L.2.1 j.toNat).1 0 = 0 ∧ StOk (insS L.2.2.1 (if L.2.2.2 = 0 then 1 else L.2.2.2) L.2.1 j.toNat).1 (insS L.2.2.1 (if L.2.2.2 = 0 then 1 else L.2.2.2) L.2.1 j.toNat).2 (L.2.1 + 1) ∧ BlOk (insS L.2.2.1 (if L.2.2.2 = 0 then 1 else L.2.2.2) L.2.1 j.toNat).1 (insS L.2.2.1 (if L.2.2.2 = 0 then 1 else L.2.2.2) L.2.1 j.toNat).2 (L.2.1 + 1) ∧ 0 < (insS L.2.2.1 (if L.2.2.2 = 0 then 1 else L.2.2.2) L.2.1 j.toNat).2 := by
    obtain ⟨b1, b2, -⟩ := hB
    rcases Nat.eq_zero_or_pos L.2.2.2 with e | e
    · have hm0 : L.2.1 = 0 := by omega
      rw [if_pos e, show j.toNat = 0 by omega, hm0]
      have hmv : mvS L.2.2.1 0 1 0 = 0 := by unfold mvS; rw [if_neg (by omega)]; exact a4
      have hi : insS L.2.2.1 1 0 0 = (mvS L.2.2.1 0 1, 1) := by
        have e1 : stf (mvS L.2.2.1 0 1) 1 (0 + 1) (((0 : Nat) : Int) + 1) = 1 := by rw [stf_natS, if_neg (by omega)]; rfl
        have e2 : stf (mvS L.2.2.1 0 1) 1 (0 + 1) ((0 : Nat) : Int) = 0 := by rw [stf_nat, if_pos (by omega)]; exact hmv
        unfold insS
        rw [e1, e2, if_pos (by omega)]
      rw [hi]
      dsimp only
      have kk : ∀ j, j < 1 → mvS L.2.2.1 0 1 j < (if j + 1 < 1 then mvS L.2.2.1 0 1 (j + 1) else ((0 + 1 : Nat) : Int)) ∧ (if j + 1 < 1 then mvS L.2.2.1 0 1 (j + 1) else ((0 + 1 : Nat) : Int)) ≤ mvS L.2.2.1 0 1 j + 64 := by
        intro j hj
        have : j = 0 := by omega
        subst this
        rw [if_neg (by omega), hmv]
        omega
      exact ⟨hmv, StOk.of (fun _ => by omega) (fun j h => (kk j h).1), BlOk.of kk, by omega⟩
    · rw [if_neg (by omega)]
      exact insS_ok a4 a6 (by omega)
  refine ⟨by dsimp only [insL]; omega, ins_sorted a2 hF hn, fun q hq => ?_, key.1, key.2.1, key.2.2.1, fun _ => key.2.2.2⟩
  dsimp only [insL] at hq ⊢
  unfold ins
  have f1 := hF.1
  split
  · exact a3 q (by omega)
  · split
    · exact hv
    · exact a3 (q - 1) (by omega)
theorem LOk.delOk {L : LSt} (h : LOk L) {q0 jj : Nat} (hq : q0 < L.2.1) (hj : jj < L.2.2.2) : LOk (delL L q0 jj) := by
  obtain ⟨a1, a2, a3, a4, a5, a6, a7⟩ := h
  obtain ⟨k1, k2, k3, k4⟩ := delS_ok a4 a6 hj (by omega)
  have hv : ∀ q, q < L.2.1 - 1 → 0 ≤ del L.1 q0 q ∧ del L.1 q0 q ≤ 999999 := fun q hq => by
    unfold del
    split
    · exact a3 q (by omega)
    · exact a3 (q + 1) (by omega)
  by_cases e : (delS L.2.2.1 L.2.2.2 L.2.1 jj).2 = 0
  · have he : delL L q0 jj = (del L.1 q0, L.2.1 - 1, fun _ => 0, 0) := by unfold delL; rw [if_pos e, e]
    rw [he]
    exact ⟨by dsimp only; omega, del_sorted a2, hv, rfl, ⟨fun j hj => absurd hj (Nat.not_lt_zero j), fun i j _ hj => absurd hj (Nat.not_lt_zero j)⟩, fun j hj => absurd hj (Nat.not_lt_zero j), fun hp => absurd (k4 hp) (by omega)⟩
  · have he : delL L q0 jj = (del L.1 q0, L.2.1 - 1, (delS L.2.2.1 L.2.2.2 L.2.1 jj).1, (delS L.2.2.1 L.2.2.2 L.2.1 jj).2) := by unfold delL; rw [if_neg e]
    rw [he]
    exact ⟨by dsimp only; omega, del_sorted a2, hv, k3 (by omega), k1, k2, fun hp => k4 hp⟩
def cbyL (L : LSt) (len nb : Nat) : LSt := (L.1, L.2.1, fun j => (j : Int) * (len : Int), nb)
theorem LOk.cby {L : LSt} (h : LOk L) {len nb : Nat} (hl : 1 ≤ len ∧ len ≤ 64) (h1 : L.2.1 ≤ nb * len) (h2 : nb = 0 ∨ (nb - 1) * len < L.2.1) : LOk (cbyL L len nb) := by
  obtain ⟨a1, a2, a3, a4, a5, a6, a7⟩ := h
  have key : ∀ j, j < nb → ((j : Int) * (len : Int)) < (if j + 1 < nb then (((j + 1 : Nat) : Int) * (len : Int)) else (L.2.1 : Int)) ∧ (if j + 1 < nb then (((j + 1 : Nat) : Int) * (len : Int)) else (L.2.1 : Int)) ≤ ((j : Int) * (len : Int)) + 64 := by
    intro j hj
    have e : ((j + 1 : Nat) : Int) * (len : Int) = (j : Int) * (len : Int) + len := by rw [Int.natCast_add, Int.add_mul]; omega
    by_cases c : j + 1 < nb
    · rw [if_pos c, e]; omega
    · rw [if_neg c]
      have hj' : j = nb - 1 := by omega
      have h3 : nb * len = (nb - 1) * len + len := by
        obtain ⟨q, rfl⟩ : ∃ q, nb = q + 1 := ⟨nb - 1, by omega⟩
        rw [Nat.add_sub_cancel, Nat.succ_mul]
      have h4 : (j : Int) * (len : Int) = (((nb - 1) * len : Nat) : Int) := by rw [hj', Int.natCast_mul]
      rw [h4]
      omega
  refine ⟨a1, a2, a3, by show ((0 : Nat) : Int) * (len : Int) = 0; simp, StOk.of (fun _ => by show 0 ≤ ((0 : Nat) : Int) * (len : Int); simp) (fun j hj => (key j hj).1), BlOk.of key, fun hp => ?_⟩
  dsimp only [cbyL] at hp ⊢
  rcases Nat.eq_zero_or_pos nb with e | e
  · subst e; omega
  · exact e
/-! what the calls do -/
def L0 : LSt := (fun _ => 0, 0, fun _ => 0, 0)
theorem LOk.zero : LOk L0 := ⟨by decide, fun a b _ h => absurd h (Nat.not_lt_zero b), fun q h => absurd h (Nat.not_lt_zero q), rfl, ⟨fun j h => absurd h (Nat.not_lt_zero j), fun i j _ h => absurd h (Nat.not_lt_zero j)⟩, fun j h => absurd h (Nat.not_lt_zero j), fun h => absurd h (Nat.lt_irrefl 0)⟩
/-- a change of a list -/
def chg (S : ASt) (li : Nat) (L : LSt) : ASt := (updL S.1 li L, ((li, S.1 li) :: S.2.1).take 8, (S.2.2.1.1.filter (fun e => decide (e.1 ≠ (li : Int))), S.2.2.1.2), S.2.2.2)
theorem SOk.chgOk {S : ASt} (h : SOk S) {li : Nat} {L : LSt} (hli : li < 6) (hL : LOk L) : SOk (chg S li L) := by
  obtain ⟨h1, h2, ⟨h3, h4, h5, h6⟩, h7⟩ := h
  refine ⟨fun i hi => ?_, fun e he => ?_, ⟨h3.sublist List.filter_sublist, fun e he => ?_, h5, h6⟩, h7⟩
  · show LOk (updL S.1 li L i)
    by_cases e : i = li
    · rw [e, updL_at]; exact hL
    · rw [updL_ne e]; exact h1 i hi
  · rcases List.mem_cons.mp (List.mem_of_mem_take he) with rfl | he
    · exact ⟨hli, h1 li hli⟩
    · exact h2 e he
  · rw [show (chg S li L).2.2.1.1 = S.2.2.1.1.filter (fun e => decide (e.1 ≠ (li : Int))) from rfl, List.mem_filter] at he
    have a := h4 e he.1
    have b := of_decide_eq_true he.2
    refine ⟨a.1, a.2.1, a.2.2.1, ?_⟩
    show e.2 < ((updL S.1 li L e.1.toNat).2.2.2 : Int)
    rw [updL_ne (by omega)]
    exact a.2.2.2
def rAdd (S : ASt) (x y : Int) (a : Int) (S' : ASt) : Prop := (¬ ((0 ≤ x ∧ x < 6) ∧ 0 ≤ y ∧ y ≤ 999999) ∧ a = -2 ∧ S' = S) ∨ ∃ li : Nat, li < 6 ∧ x = li ∧ (0 ≤ y ∧ y ≤ 999999) ∧ (((∃ q, q < (S.1 li).2.1 ∧ (S.1 li).1 q = y) ∧ a = -3 ∧ S' = S) ∨ ((∀ q, q < (S.1 li).2.1 → (S.1 li).1 q ≠ y) ∧ ((200 ≤ (S.1 li).2.1 ∧ a = -4 ∧ S' = S) ∨ ((S.1 li).2.1 < 200 ∧ ∃ (p : Nat) (j : Int), FA (S.1 li).1 (S.1 li).2.1 y p ∧ LB (S.1 li).1 (S.1 li).2.2.1 (S.1 li).2.2.2 y j ∧ a = p ∧ S' = chg S li (insL (S.1 li) p y j.toNat)))))
def rRem (S : ASt) (x y : Int) (a : Int) (S' : ASt) : Prop := (¬ ((0 ≤ x ∧ x < 6) ∧ 0 ≤ y ∧ y ≤ 999999) ∧ a = -2 ∧ S' = S) ∨ ∃ li : Nat, li < 6 ∧ x = li ∧ (0 ≤ y ∧ y ≤ 999999) ∧ (((∀ q, q < (S.1 li).2.1 → (S.1 li).1 q ≠ y) ∧ a = -3 ∧ S' = S) ∨ ∃ q j : Nat, q < (S.1 li).2.1 ∧ (S.1 li).1 q = y ∧ LB (S.1 li).1 (S.1 li).2.2.1 (S.1 li).2.2.2 y j ∧ a = q ∧ S' = chg S li (delL (S.1 li) q j))
/-- the list packed anew -/
def rCut (L : LSt) (y : Int) (L' : LSt) : Prop := (y = 0 ∧ ∃ (R : Nat → Int) (E : Nat → Nat) (nb : Nat), Plan L.1 L.2.1 R E ∧ pst E nb = L.2.1 ∧ (∀ j, j < nb → pst E j < L.2.1) ∧ L' = planL L.1 L.2.1 E nb) ∨ ∃ len nb : Nat, y = len ∧ (1 ≤ len ∧ len ≤ 64) ∧ L.2.1 ≤ nb * len ∧ (nb = 0 ∨ (nb - 1) * len < L.2.1) ∧ L' = cbyL L len nb
theorem rCut.ok {L L' : LSt} {y : Int} (h : rCut L y L') (hL : LOk L) : LOk L' := by
  rcases h with ⟨-, R, E, nb, h1, h2, h3, rfl⟩ | ⟨len, nb, -, h1, h2, h3, rfl⟩
  · exact LOk.plan hL.1 hL.2.1 hL.2.2.1 h1 h2 h3
  · exact hL.cby h1 h2 h3
def rPack (S : ASt) (x y : Int) (a : Int) (S' : ASt) : Prop := (¬ ((0 ≤ x ∧ x < 6) ∧ 0 ≤ y ∧ y ≤ 64) ∧ a = -2 ∧ S' = S) ∨ ∃ (li : Nat) (L' : LSt), li < 6 ∧ x = li ∧ (0 ≤ y ∧ y ≤ 64) ∧ rCut (S.1 li) y L' ∧ a = sumB L' 5 L'.2.2.2 ∧ S' = chg S li L'
def rClear (S : ASt) (x : Int) (a : Int) (S' : ASt) : Prop := (¬ (0 ≤ x ∧ x < 6) ∧ a = -2 ∧ S' = S) ∨ ∃ li : Nat, li < 6 ∧ x = li ∧ a = (S.1 li).2.1 ∧ S' = chg S li L0
def setT (S : ASt) (t : (Nat → Int) × Nat) : ASt := (S.1, S.2.1, S.2.2.1, t, S.2.2.2.2)
def rLoad (S : ASt) (x : Int) (a : Int) (S' : ASt) : Prop := (¬ (0 ≤ x ∧ x < 6) ∧ a = -2 ∧ S' = S) ∨ ∃ (li : Nat) (r : Int × Nat × (Nat → Int)), li < 6 ∧ x = li ∧ r = numsOf S.2.2.2.1.1 S.2.2.2.1.2 ∧ ((r.1 ≠ -1 ∧ a = -2000 - r.1 ∧ S' = S) ∨ (r.1 = -1 ∧ a = r.2.1 ∧ ∃ (R : Nat → Int) (E : Nat → Nat) (nb : Nat), Plan r.2.2 r.2.1 R E ∧ pst E nb = r.2.1 ∧ (∀ j, j < nb → pst E j < r.2.1) ∧ S' = setT (chg S li (planL r.2.2 r.2.1 E nb)) (S.2.2.2.1.1, 0)))
def rStore (S : ASt) (x : Int) (a : Int) (S' : ASt) : Prop := (¬ (0 ≤ x ∧ x < 6) ∧ a = -2 ∧ S' = S) ∨ ∃ li : Nat, li < 6 ∧ x = li ∧ ((S.2.2.2.2 = none ∧ a = -3 ∧ S' = S) ∨ ∃ r, S.2.2.2.2 = some r ∧ ((200 < r.1.length ∧ a = -4 ∧ S' = S) ∨ (r.1.length ≤ 200 ∧ a = r.1.length ∧ ∃ (R : Nat → Int) (E : Nat → Nat) (nb : Nat), Plan (lfn r.1) r.1.length R E ∧ pst E nb = r.1.length ∧ (∀ j, j < nb → pst E j < r.1.length) ∧ S' = chg S li (planL (lfn r.1) r.1.length E nb))))
def rUndo (S : ASt) (a : Int) (S' : ASt) : Prop := (S.2.1 = [] ∧ a = -3 ∧ S' = S) ∨ ∃ li L H, S.2.1 = (li, L) :: H ∧ a = H.length ∧ S' = (updL S.1 li L, H, ([], S.2.2.1.2), S.2.2.2)
def rType (S : ASt) (x : Int) (a : Int) (S' : ASt) : Prop := (¬ (0 ≤ x ∧ x ≤ 127) ∧ a = -2 ∧ S' = S) ∨ ((0 ≤ x ∧ x ≤ 127) ∧ ((100 ≤ S.2.2.2.1.2 ∧ a = -4 ∧ S' = S) ∨ (S.2.2.2.1.2 < 100 ∧ a = S.2.2.2.1.2 + 1 ∧ S' = setT S (fun q => if q = S.2.2.2.1.2 then x else S.2.2.2.1.1 q, S.2.2.2.1.2 + 1))))
def rErase (S : ASt) (a : Int) (S' : ASt) : Prop := a = S.2.2.2.1.2 ∧ S' = setT S (S.2.2.2.1.1, 0)
theorem rAdd.ok {S S' : ASt} {x y a : Int} (h : rAdd S x y a S') (hS : SOk S) : SOk S' := by
  rcases h with ⟨-, -, rfl⟩ | ⟨li, h1, -, h2, ⟨-, -, rfl⟩ | ⟨h3, ⟨-, -, rfl⟩ | ⟨h4, p, j, h5, h6, -, rfl⟩⟩⟩
  · exact hS
  · exact hS
  · exact hS
  · exact hS.chgOk h1 ((hS.1 li h1).insOk h4 h2 h5 h3 h6)
theorem rRem.ok {S S' : ASt} {x y a : Int} (h : rRem S x y a S') (hS : SOk S) : SOk S' := by
  rcases h with ⟨-, -, rfl⟩ | ⟨li, h1, -, h2, ⟨-, -, rfl⟩ | ⟨q, j, h3, h4, h5, -, rfl⟩⟩
  · exact hS
  · exact hS
  · exact hS.chgOk h1 ((hS.1 li h1).delOk h3 (by have := h5.2.1; omega))
theorem rPack.ok {S S' : ASt} {x y a : Int} (h : rPack S x y a S') (hS : SOk S) : SOk S' := by
  rcases h with ⟨-, -, rfl⟩ | ⟨li, L', h1, -, h2, h3, -, rfl⟩
  · exact hS
  · exact hS.chgOk h1 (h3.ok (hS.1 li h1))
theorem rClear.ok {S S' : ASt} {x a : Int} (h : rClear S x a S') (hS : SOk S) : SOk S' := by
  rcases h with ⟨-, -, rfl⟩ | ⟨li, h1, -, -, rfl⟩
  · exact hS
  · exact hS.chgOk h1 LOk.zero
theorem SOk.setOk {S : ASt} (h : SOk S) {t : (Nat → Int) × Nat} (h1 : TxOk t.1 t.2) (h2 : t.2 ≤ 100) : SOk (setT S t) := ⟨h.1, h.2.1, h.2.2.1, h1, h2, h.2.2.2.2.2⟩
theorem rUndo.ok {S S' : ASt} {a : Int} (h : rUndo S a S') (hS : SOk S) : SOk S' := by
  rcases h with ⟨-, -, rfl⟩ | ⟨li, L, H, h1, -, rfl⟩
  · exact hS
  · have hh := hS.2.1
    rw [h1] at hh
    refine ⟨fun i hi => ?_, fun e he => hh e (List.mem_cons_of_mem _ he), ⟨List.nodup_nil, fun e he => absurd he List.not_mem_nil, hS.2.2.1.2.2⟩, hS.2.2.2⟩
    show LOk (updL S.1 li L i)
    by_cases e : i = li
    · rw [e, updL_at]; exact (hh _ List.mem_cons_self).2
    · rw [updL_ne e]; exact hS.1 i hi
theorem rType.ok {S S' : ASt} {x a : Int} (h : rType S x a S') (hS : SOk S) : SOk S' := by
  rcases h with ⟨-, -, rfl⟩ | ⟨h1, ⟨-, -, rfl⟩ | ⟨h2, -, rfl⟩⟩
  · exact hS
  · exact hS
  · refine hS.setOk (fun q hq => ?_) (by dsimp only; omega)
    dsimp only at hq ⊢
    split
    · exact h1
    · exact hS.2.2.2.1 q (by omega)
theorem rErase.ok {S S' : ASt} {a : Int} (h : rErase S a S') (hS : SOk S) : SOk S' := by
  obtain ⟨-, rfl⟩ := h
  exact hS.setOk (fun q hq => absurd hq (Nat.not_lt_zero q)) (Nat.zero_le _)
theorem lfn_at {L : List Int} {q : Nat} (h : q < L.length) : lfn L q = L[q] := by
  unfold lfn
  rw [List.getD_eq_getElem?_getD, List.getElem?_eq_getElem h, Option.getD_some]
theorem rStore.ok {S S' : ASt} {x a : Int} (h : rStore S x a S') (hS : SOk S) : SOk S' := by
  rcases h with ⟨-, -, rfl⟩ | ⟨li, h1, -, ⟨-, -, rfl⟩ | ⟨r, hr, ⟨-, -, rfl⟩ | ⟨h2, -, R, E, nb, h3, h4, h5, rfl⟩⟩⟩
  · exact hS
  · exact hS
  · exact hS
  · obtain ⟨r1, r2, r3⟩ := hS.2.2.2.2.2 r hr
    refine hS.chgOk h1 (LOk.plan h2 (fun a b hab hb => ?_) (fun q hq => ?_) h3 h4 h5)
    · have := List.pairwise_iff_getElem.mp r1 a b (by omega) hb hab
      rw [lfn_at (by omega), lfn_at hb]
      exact this
    · rw [lfn_at hq]
      exact r2 _ (List.getElem_mem hq)
