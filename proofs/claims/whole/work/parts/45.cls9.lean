/-! digests -/
def mixV (h v : Int64) : Int64 := 31 * h + v
def zL (z : Int) : Int64 := (zI z).toInt64
def mixN (f : Nat → Int64) : Nat → Int64 → Int64
  | 0, h => h
  | n + 1, h => mixV (mixN f n h) (f n)
theorem mixN_congr {f f' : Nat → Int64} : ∀ (n : Nat) (h : Int64), (∀ q, q < n → f q = f' q) → mixN f n h = mixN f' n h := by
  intro n
  induction n with
  | zero => intro h _; rfl
  | succ n ih => intro h hq; simp only [mixN]; rw [ih h (fun q hq' => hq q (by omega)), hq n (by omega)]
/-- the exceptions, an index and a high part each, of z places from i on -/
def mixE (p : Nat → Bool) (hv : Nat → Int) : Nat → Nat → Int64 → Int64
  | 0, _, h => h
  | z + 1, i, h => if p i then mixE p hv z (i + 1) (mixV (mixV h (zL i)) (zL (hv i))) else mixE p hv z (i + 1) h
def hiV (g : Nat → Int) (f len i : Nat) : Int := ((gp g (f + i) / 2 ^ bw g f len : Nat) : Int)
def dgB (g : Nat → Int) (f len : Nat) (h : Int64) : Int64 := mixE (isE g f len) (hiV g f len) (len - 1) 1 (mixN (wordV g f len) (wordsN g f len) (mixN (fun q => zL (bprop g f len q)) 7 h))
def dgBs (S : ASt) (li : Nat) : Nat → Int64 → Int64
  | 0, h => h
  | j + 1, h => mixV (dgB (S.1 li).1 (bf (S.1 li) j) (bl (S.1 li) j) (dgBs S li j h)) (zL (fCached S li j))
def dgL (S : ASt) (li : Nat) (h : Int64) : Int64 := dgBs S li (S.1 li).2.2.2 (mixN (fun q => zL (fList S li q)) 6 h)
def dgLs (S : ASt) : Nat → Int64 → Int64
  | 0, h => h
  | i + 1, h => dgL S i (dgLs S i h)
def dgRs (S : ASt) : Nat → Int64 → Int64
  | 0, h => h
  | i + 1, h => mixN (fun q => zL ((S.1 i).1 q)) (S.1 i).2.1 (dgRs S i h)
def dgR (r : Option (List Int × Int)) (h : Int64) : Int64 := match r with
  | none => h
  | some r => mixN (fun q => zL (lfn r.1 q)) r.1.length h
def fDig (S : ASt) : Int64 := mixN (fun q => zL (S.2.2.2.1.1 q)) S.2.2.2.1.2 (dgR S.2.2.2.2 (dgRs S 6 (dgLs S 6 (mixN (fun q => zL (fCount S q)) 10 619))))
set_option maxRecDepth 100000 in
set_option maxHeartbeats 1000000 in
theorem c_mix {G : fG} {x0 : Nat} {l : Launch} {d k n : Nat} {T : fT} {I : fI} {J : fJ} {Q : Option Value → fT → fI → fJ → Prop} {h v : Int64} (hq : Q (some (.long (mixV h v))) T I J) : PW G x0 l mX11_mix d (ZM G x0 Q) k n 0 [(0, .long h), (2, .long v)] [] T I J := by
  refine s_ldc2 dX11_mix_0 wK_X11_268 ?_
  refine s_lload_n (i := 0) dX11_mix_3 rfl rfl ?_
  refine s_lmul dX11_mix_4 ?_
  refine s_lload_n (i := 2) dX11_mix_5 rfl rfl ?_
  refine s_ladd dX11_mix_6 ?_
  refine s_lret dX11_mix_7 rfl ?_
  exact hq
set_option maxRecDepth 100000 in
set_option maxHeartbeats 1000000 in
theorem l_mixRow {G : fG} {x0 : Nat} {l : Launch} {d k n : Nat} {T : fT} {I : fI} {J : fJ} {Q : Option Value → fT → fI → fJ → Prop} {r cap m : Nat} {g : Nat → Int} {h h0 : Int64} (hR : RowIs T I r cap g m) (hq : Q (some (.long (mixN (fun q => zL (g q)) m h))) T I J) : ∀ (t i : Nat), i + t = m →
    PW G x0 l mX11_mixRow (d + 1) (ZM G x0 Q) k n 5 [(0, .long h0), (2, .ref (x0 + r)), (3, .long (mixN (fun q => zL (g q)) i h)), (5, .int (zI i))] [] T I J := by
  obtain ⟨k1, k2, k3, k4, k5, k6, k7⟩ := id hR.1
  have hms := hR.2.2.1
  have hmc := hR.2.1
  intro t
  induction t with
  | zero =>
    intro i ht
    have him : i = m := by omega
    subst him
    refine s_iload dX11_mixRow_5 rfl ?_
    refine s_aload_n (i := 2) dX11_mixRow_7 rfl rfl ?_
    refine s_getI dX11_mixRow_8 fl_X11_87 (by assumption) (by assumption) ?_
    refine s_icmp_ge (tgt := 32) dX11_mixRow_11 (by decide) (fun h11 => ?_) (fun h11 => absurd (by rw [t_zI hms]; exact (zI_le (by omega) (by omega) (by omega) (by omega)).mpr (by omega)) h11)
    refine s_lload_n (i := 3) dX11_mixRow_32 rfl rfl ?_
    refine s_lret dX11_mixRow_33 rfl ?_
    exact hq
  | succ t ih =>
    intro i ht
    refine s_iload dX11_mixRow_5 rfl ?_
    refine s_aload_n (i := 2) dX11_mixRow_7 rfl rfl ?_
    refine s_getI dX11_mixRow_8 fl_X11_87 (by assumption) (by assumption) ?_
    refine s_icmp_ge (tgt := 32) dX11_mixRow_11 (by decide) (fun h11 => absurd h11 (fun h => by rw [t_zI hms, zI_le (by omega) (by omega) (by omega) (by omega)] at h; omega)) (fun h11 => ?_)
    refine s_lload_n (i := 3) dX11_mixRow_14 rfl rfl ?_
    refine s_aload_n (i := 2) dX11_mixRow_15 rfl rfl ?_
    refine s_iload dX11_mixRow_16 rfl ?_
    refine s_cV_I (My := mX9_get) dX11_mixRow_18 wM_X11_150 cb_yX9_get ci_yX9_get (by assumption) (by assumption) (Nat.le_of_ble_eq_true rfl) (by decide) (s_d (by omega) (c_getn (d := 0) hR (by omega) ?_))
    refine s_i2l dX11_mixRow_21 ?_
    refine s_cS_JJ (My := mX11_mix) dX11_mixRow_22 wM_X11_256 cb_yX11_mix wT_yX11_mix (Nat.le_of_ble_eq_true rfl) (by decide) (s_d (by omega) (c_mix (d := 0) ?_))
    refine s_lstore_n (i := 3) dX11_mixRow_25 rfl (by decide) (by simp only [sl, sl2, rm, Value.category, reduceIte, Nat.reduceAdd, Nat.reduceEqDiff, reduceCtorEq]; rfl) ?_
    refine s_iinc dX11_mixRow_26 rfl (zI_inc _) (by decide) (by simp only [sl, sl2, rm, Value.category, reduceIte, Nat.reduceAdd, Nat.reduceEqDiff, reduceCtorEq]; rfl) ?_
    refine s_goto (tgt := 5) dX11_mixRow_29 (by decide) ?_
    refine s_lv (lv' := [(0, .long h0), (2, .ref (x0 + r)), (3, .long _), (5, .int _)]) ⟨rfl, rfl, rfl, rfl, trivial⟩ ?_
    exact ih (i + 1) (by omega)
set_option maxRecDepth 100000 in
set_option maxHeartbeats 1000000 in
theorem c_mixRow {G : fG} {x0 : Nat} {l : Launch} {d k n : Nat} {T : fT} {I : fI} {J : fJ} {Q : Option Value → fT → fI → fJ → Prop} {r cap m : Nat} {g : Nat → Int} {h : Int64} (hR : RowIs T I r cap g m) (hq : Q (some (.long (mixN (fun q => zL (g q)) m h))) T I J) : PW G x0 l mX11_mixRow (d + 1) (ZM G x0 Q) k n 0 [(0, .long h), (2, .ref (x0 + r))] [] T I J := by
  refine s_lload_n (i := 0) dX11_mixRow_0 rfl rfl ?_
  refine s_lstore_n (i := 3) dX11_mixRow_1 rfl (by decide) (by simp only [sl, sl2, rm, Value.category, reduceIte, Nat.reduceAdd, Nat.reduceEqDiff, reduceCtorEq]; rfl) ?_
  refine s_iconst (v := 0) dX11_mixRow_2 (by decide) ?_
  refine s_istore dX11_mixRow_3 (by decide) (by simp only [sl, sl2, rm, Value.category, reduceIte, Nat.reduceAdd, Nat.reduceEqDiff, reduceCtorEq]; rfl) ?_
  exact l_mixRow hR hq m 0 (by omega)
set_option maxRecDepth 100000 in
set_option maxHeartbeats 1000000 in
theorem l_mixB3 {G : fG} {x0 : Nat} {l : Launch} {d k n : Nat} {T : fT} {I : fI} {J : fJ} {Q : Option Value → fT → fI → fJ → Prop} {r cap m f len : Nat} {g : Nat → Int} {h0 : Int64} (hV : ViewIs T I 42 r g f len) (hR : RowIs T I r cap g m) (hg : GapOk g m) (hm : m ≤ 200) (hfl : f + len ≤ m) (hl : 1 ≤ len) (hl2 : len ≤ 64) : ∀ (t i : Nat) (h : Int64), i + t = len → 1 ≤ i → Q (some (.long (mixE (isE g f len) (hiV g f len) t i h))) T I J →
    PW G x0 l mX11_mixBlock (d + 2) (ZM G x0 Q) k n 62 [(0, .long h0), (2, .ref (x0 + 42)), (3, .long (h)), (5, .int (zI i))] [] T I J := by
  obtain ⟨hA, hVr, v2, v3, v4, v5, v6⟩ := id hV
  obtain ⟨a1, a2, a3, a4, a5, a6⟩ := id hA
  intro t
  induction t with
  | zero =>
    intro i h ht hi hq
    refine s_iload dX11_mixBlock_62 rfl ?_
    refine s_aload_n (i := 2) dX11_mixBlock_64 rfl rfl ?_
    refine s_getI dX11_mixBlock_65 fl_X11_174 (by assumption) (by assumption) ?_
    refine s_icmp_ge (tgt := 104) dX11_mixBlock_68 (by decide) (fun h68 => ?_) (fun h68 => absurd (by rw [t_zI v3, zI_le (by omega) (by omega) (by omega) (by omega)]; omega) h68)
    refine s_lload_n (i := 3) dX11_mixBlock_104 rfl rfl ?_
    refine s_lret dX11_mixBlock_105 rfl ?_
    exact hq
  | succ t ih =>
    intro i h ht hi hq
    have hgz := gapz_in hg (i := f + i) (by omega) (by omega)
    have hdv : gp g (f + i) / 2 ^ bw g f len ≤ gp g (f + i) := Nat.div_le_self _ _
    have hp := high_pos (g := g) (f := f) (len := len) (i := i)
    obtain ⟨hi', hhi⟩ : ∃ hi', gp g (f + i) / 2 ^ bw g f len = hi' := ⟨_, rfl⟩
    have hhv : hiV g f len i = (hi' : Int) := by unfold hiV; rw [hhi]
    rw [hhi] at hdv hp
    simp only [mixE] at hq
    refine s_iload dX11_mixBlock_62 rfl ?_
    refine s_aload_n (i := 2) dX11_mixBlock_64 rfl rfl ?_
    refine s_getI dX11_mixBlock_65 fl_X11_174 (by assumption) (by assumption) ?_
    refine s_icmp_ge (tgt := 104) dX11_mixBlock_68 (by decide) (fun c68 => absurd c68 (by rw [t_zI v3, zI_le (by omega) (by omega) (by omega) (by omega)]; omega)) (fun c68 => ?_)
    refine s_aload_n (i := 2) dX11_mixBlock_71 rfl rfl ?_
    refine s_iload dX11_mixBlock_72 rfl ?_
    refine s_cV_I (My := mX0_highPart) dX11_mixBlock_74 wM_X11_177 cb_yX0_highPart ci_yX0_highPart (by assumption) (by assumption) (Nat.le_of_ble_eq_true rfl) (by decide) (s_d (by omega) (c_high (d := 0) hV hR hg (by omega) hfl hi (by omega) ?_))
    rw [hhi]
    refine s_istore dX11_mixBlock_77 (by decide) (by simp only [sl, sl2, rm, Value.category, reduceIte, Nat.reduceAdd, Nat.reduceEqDiff, reduceCtorEq]; rfl) ?_
    refine s_iload dX11_mixBlock_79 rfl ?_
    refine s_if_le (tgt := 98) dX11_mixBlock_81 (by decide) (fun c81 => ?_) (fun c81 => ?_)
    · refine s_iinc dX11_mixBlock_98 rfl (zI_inc _) (by decide) (by simp only [sl, sl2, rm, Value.category, reduceIte, Nat.reduceAdd, Nat.reduceEqDiff, reduceCtorEq]; rfl) ?_
      refine s_goto (tgt := 62) dX11_mixBlock_101 (by decide) ?_
      rw [z0, zI_le (by omega) (by omega) (by omega) (by omega)] at c81
      rw [if_neg (fun h => by have := hp.mpr h; omega)] at hq
      refine s_lv (lv' := [(0, .long h0), (2, .ref (x0 + 42)), (3, .long h), (5, .int (zI ((i + 1 : Nat) : Int)))]) ⟨rfl, rfl, rfl, rfl, trivial⟩ ?_
      exact ih (i + 1) h (by omega) (by omega) hq
    · rw [z0, zI_le (by omega) (by omega) (by omega) (by omega)] at c81
      rw [if_pos (hp.mp (by omega)), hhv] at hq
      refine s_lload_n (i := 3) dX11_mixBlock_84 rfl rfl ?_
      refine s_iload dX11_mixBlock_85 rfl ?_
      refine s_i2l dX11_mixBlock_87 ?_
      refine s_cS_JJ (My := mX11_mix) dX11_mixBlock_88 wM_X11_256 cb_yX11_mix wT_yX11_mix (Nat.le_of_ble_eq_true rfl) (by decide) (s_d (by omega) (c_mix (d := 0) ?_))
      refine s_iload dX11_mixBlock_91 rfl ?_
      refine s_i2l dX11_mixBlock_93 ?_
      refine s_cS_JJ (My := mX11_mix) dX11_mixBlock_94 wM_X11_256 cb_yX11_mix wT_yX11_mix (Nat.le_of_ble_eq_true rfl) (by decide) (s_d (by omega) (c_mix (d := 0) ?_))
      refine s_lstore_n (i := 3) dX11_mixBlock_97 rfl (by decide) (by simp only [sl, sl2, rm, Value.category, reduceIte, Nat.reduceAdd, Nat.reduceEqDiff, reduceCtorEq]; rfl) ?_
      refine s_iinc dX11_mixBlock_98 rfl (zI_inc _) (by decide) (by simp only [sl, sl2, rm, Value.category, reduceIte, Nat.reduceAdd, Nat.reduceEqDiff, reduceCtorEq]; rfl) ?_
      refine s_goto (tgt := 62) dX11_mixBlock_101 (by decide) ?_
      refine s_lv (lv' := [(0, .long h0), (2, .ref (x0 + 42)), (3, .long _), (5, .int (zI ((i + 1 : Nat) : Int)))]) ⟨rfl, rfl, rfl, rfl, trivial⟩ ?_
      exact ih (i + 1) _ (by omega) (by omega) hq
theorem wordsN_le {g : Nat → Int} {f len : Nat} (hl2 : len ≤ 64) : wordsN g f len ≤ 1000 := by
  have := bw_le g f len
  have h2 : bw g f len * (len - 1) ≤ 20 * 64 := Nat.mul_le_mul this (by omega)
  unfold wordsN
  generalize bw g f len * (len - 1) = P at h2
  omega
set_option maxRecDepth 100000 in
set_option maxHeartbeats 1000000 in
theorem l_mixB2 {G : fG} {x0 : Nat} {l : Launch} {d k n : Nat} {T : fT} {I : fI} {J : fJ} {Q : Option Value → fT → fI → fJ → Prop} {r cap m f len : Nat} {g : Nat → Int} {h0 h : Int64} (hV : ViewIs T I 42 r g f len) (hR : RowIs T I r cap g m) (hg : GapOk g m) (hm : m ≤ 200) (hfl : f + len ≤ m) (hl : 1 ≤ len) (hl2 : len ≤ 64) (hq : Q (some (.long (mixE (isE g f len) (hiV g f len) (len - 1) 1 (mixN (wordV g f len) (wordsN g f len) h)))) T I J) : ∀ (t i : Nat), i + t = wordsN g f len →
    PW G x0 l mX11_mixBlock (d + 2) (ZM G x0 Q) k n 33 [(0, .long h0), (2, .ref (x0 + 42)), (3, .long (mixN (wordV g f len) i h)), (5, .int (zI i))] [] T I J := by
  obtain ⟨hA, hVr, v2, v3, v4, v5, v6⟩ := id hV
  obtain ⟨a1, a2, a3, a4, a5, a6⟩ := id hA
  have hwl := wordsN_le (g := g) (f := f) hl2
  intro t
  induction t with
  | zero =>
    intro i ht
    have him : i = wordsN g f len := by omega
    subst him
    refine s_iload dX11_mixBlock_33 rfl ?_
    refine s_aload_n (i := 2) dX11_mixBlock_35 rfl rfl ?_
    refine s_cV_ (My := mX0_words) dX11_mixBlock_36 wM_X11_166 cb_yX0_words ci_yX0_words (by assumption) (by assumption) (Nat.le_of_ble_eq_true rfl) (by decide) (s_d (by omega) (c_words (d := 0) (r := r) hV hl (by omega) ?_))
    refine s_icmp_ge (tgt := 59) dX11_mixBlock_39 (by decide) (fun h39 => ?_) (fun h39 => absurd (by exact (zI_le (by omega) (by omega) (by omega) (by omega)).mpr (by omega)) h39)
    refine s_iconst (v := 1) dX11_mixBlock_59 (by decide) ?_
    refine s_istore dX11_mixBlock_60 (by decide) (by simp only [sl, sl2, rm, Value.category, reduceIte, Nat.reduceAdd, Nat.reduceEqDiff, reduceCtorEq]; rfl) ?_
    exact l_mixB3 hV hR hg hm hfl hl hl2 (len - 1) 1 _ (by omega) (by omega) hq
  | succ t ih =>
    intro i ht
    refine s_iload dX11_mixBlock_33 rfl ?_
    refine s_aload_n (i := 2) dX11_mixBlock_35 rfl rfl ?_
    refine s_cV_ (My := mX0_words) dX11_mixBlock_36 wM_X11_166 cb_yX0_words ci_yX0_words (by assumption) (by assumption) (Nat.le_of_ble_eq_true rfl) (by decide) (s_d (by omega) (c_words (d := 0) (r := r) hV hl (by omega) ?_))
    refine s_icmp_ge (tgt := 59) dX11_mixBlock_39 (by decide) (fun h39 => absurd h39 (fun h => by rw [zI_le (by omega) (by omega) (by omega) (by omega)] at h; omega)) (fun h39 => ?_)
    refine s_lload_n (i := 3) dX11_mixBlock_42 rfl rfl ?_
    refine s_aload_n (i := 2) dX11_mixBlock_43 rfl rfl ?_
    refine s_iload dX11_mixBlock_44 rfl ?_
    refine s_cV_I (My := mX0_wordAt) dX11_mixBlock_46 wM_X11_170 cb_yX0_wordAt ci_yX0_wordAt (by assumption) (by assumption) (Nat.le_of_ble_eq_true rfl) (by decide) (s_d (by omega) (c_word (d := 0) hV hR hg (by omega) hfl hl (by omega) (by omega) ?_))
    refine s_cS_JJ (My := mX11_mix) dX11_mixBlock_49 wM_X11_256 cb_yX11_mix wT_yX11_mix (Nat.le_of_ble_eq_true rfl) (by decide) (s_d (by omega) (c_mix (d := 0) ?_))
    refine s_lstore_n (i := 3) dX11_mixBlock_52 rfl (by decide) (by simp only [sl, sl2, rm, Value.category, reduceIte, Nat.reduceAdd, Nat.reduceEqDiff, reduceCtorEq]; rfl) ?_
    refine s_iinc dX11_mixBlock_53 rfl (zI_inc _) (by decide) (by simp only [sl, sl2, rm, Value.category, reduceIte, Nat.reduceAdd, Nat.reduceEqDiff, reduceCtorEq]; rfl) ?_
    refine s_goto (tgt := 33) dX11_mixBlock_56 (by decide) ?_
    refine s_lv (lv' := [(0, .long h0), (2, .ref (x0 + 42)), (3, .long _), (5, .int _)]) ⟨rfl, rfl, rfl, rfl, trivial⟩ ?_
    exact ih (i + 1) (by omega)
set_option maxRecDepth 100000 in
set_option maxHeartbeats 1000000 in
theorem l_mixB1 {G : fG} {x0 : Nat} {l : Launch} {d k n : Nat} {T : fT} {I : fI} {J : fJ} {Q : Option Value → fT → fI → fJ → Prop} {r cap m f len : Nat} {g : Nat → Int} {h0 h : Int64} (hV : ViewIs T I 42 r g f len) (hR : RowIs T I r cap g m) (hg : GapOk g m) (hm : m ≤ 200) (hfl : f + len ≤ m) (hl : 1 ≤ len) (hl2 : len ≤ 64) (hq : Q (some (.long (dgB g f len h))) T I J) : ∀ (t i : Nat), i + t = 7 →
    PW G x0 l mX11_mixBlock (d + 2) (ZM G x0 Q) k n 5 [(0, .long h0), (2, .ref (x0 + 42)), (3, .long (mixN (fun q => zL (bprop g f len q)) i h)), (5, .int (zI i))] [] T I J := by
  obtain ⟨hA, hVr, v2, v3, v4, v5, v6⟩ := id hV
  obtain ⟨a1, a2, a3, a4, a5, a6⟩ := id hA
  intro t
  induction t with
  | zero =>
    intro i ht
    have him : i = 7 := by omega
    subst him
    refine s_iload dX11_mixBlock_5 rfl ?_
    refine s_bipush (v := 6) dX11_mixBlock_7 (by decide) ?_
    refine s_icmp_gt (tgt := 30) dX11_mixBlock_9 (by decide) (fun h9 => ?_) (fun h9 => absurd (by decide) h9)
    refine s_iconst (v := 0) dX11_mixBlock_30 (by decide) ?_
    refine s_istore dX11_mixBlock_31 (by decide) (by simp only [sl, sl2, rm, Value.category, reduceIte, Nat.reduceAdd, Nat.reduceEqDiff, reduceCtorEq]; rfl) ?_
    exact l_mixB2 hV hR hg hm hfl hl hl2 hq (wordsN g f len) 0 (by omega)
  | succ t ih =>
    intro i ht
    have hit : (zI (i : Int)).toInt = i := zI_t (by omega) (by omega)
    refine s_iload dX11_mixBlock_5 rfl ?_
    refine s_bipush (v := 6) dX11_mixBlock_7 (by decide) ?_
    refine s_icmp_gt (tgt := 30) dX11_mixBlock_9 (by decide) (fun h9 => absurd h9 (fun h => by have := (zI_lt (a := 6) (b := i) (by omega) (by omega) (by omega) (by omega)).mp h; omega)) (fun h9 => ?_)
    refine s_lload_n (i := 3) dX11_mixBlock_12 rfl rfl ?_
    refine s_aload_n (i := 2) dX11_mixBlock_13 rfl rfl ?_
    refine s_iload dX11_mixBlock_14 rfl ?_
    refine s_cV_I (My := mX0_property) dX11_mixBlock_16 wM_X11_161 cb_yX0_property ci_yX0_property (by assumption) (by assumption) (Nat.le_of_ble_eq_true rfl) (by decide) (s_d (by omega) (c_prop (d := 0) hV hR hfl hl (by omega) ?_))
    rw [hit]
    refine s_i2l dX11_mixBlock_19 ?_
    refine s_cS_JJ (My := mX11_mix) dX11_mixBlock_20 wM_X11_256 cb_yX11_mix wT_yX11_mix (Nat.le_of_ble_eq_true rfl) (by decide) (s_d (by omega) (c_mix (d := 0) ?_))
    refine s_lstore_n (i := 3) dX11_mixBlock_23 rfl (by decide) (by simp only [sl, sl2, rm, Value.category, reduceIte, Nat.reduceAdd, Nat.reduceEqDiff, reduceCtorEq]; rfl) ?_
    refine s_iinc dX11_mixBlock_24 rfl (zI_inc _) (by decide) (by simp only [sl, sl2, rm, Value.category, reduceIte, Nat.reduceAdd, Nat.reduceEqDiff, reduceCtorEq]; rfl) ?_
    refine s_goto (tgt := 5) dX11_mixBlock_27 (by decide) ?_
    refine s_lv (lv' := [(0, .long h0), (2, .ref (x0 + 42)), (3, .long _), (5, .int _)]) ⟨rfl, rfl, rfl, rfl, trivial⟩ ?_
    exact ih (i + 1) (by omega)
set_option maxRecDepth 100000 in
set_option maxHeartbeats 1000000 in
theorem c_mixBlock {G : fG} {x0 : Nat} {l : Launch} {d k n : Nat} {T : fT} {I : fI} {J : fJ} {Q : Option Value → fT → fI → fJ → Prop} {r cap m f len : Nat} {g : Nat → Int} {h : Int64} (hV : ViewIs T I 42 r g f len) (hR : RowIs T I r cap g m) (hg : GapOk g m) (hm : m ≤ 200) (hfl : f + len ≤ m) (hl : 1 ≤ len) (hl2 : len ≤ 64) (hq : Q (some (.long (dgB g f len h))) T I J) : PW G x0 l mX11_mixBlock (d + 2) (ZM G x0 Q) k n 0 [(0, .long h), (2, .ref (x0 + 42))] [] T I J := by
  refine s_lload_n (i := 0) dX11_mixBlock_0 rfl rfl ?_
  refine s_lstore_n (i := 3) dX11_mixBlock_1 rfl (by decide) (by simp only [sl, sl2, rm, Value.category, reduceIte, Nat.reduceAdd, Nat.reduceEqDiff, reduceCtorEq]; rfl) ?_
  refine s_iconst (v := 0) dX11_mixBlock_2 (by decide) ?_
  refine s_istore dX11_mixBlock_3 (by decide) (by simp only [sl, sl2, rm, Value.category, reduceIte, Nat.reduceAdd, Nat.reduceEqDiff, reduceCtorEq]; rfl) ?_
  exact l_mixB1 hV hR hg hm hfl hl hl2 hq 7 0 (by omega)
set_option maxRecDepth 100000 in
set_option maxHeartbeats 1000000 in
theorem l_mixBs {G : fG} {x0 : Nat} {l : Launch} {d k n : Nat} {J : fJ} {Q : Option Value → fT → fI → fJ → Prop} {li : Nat} {h0 h : Int64} {S : ASt} (hk : SOk S) (hli : li < 6) : ∀ (t j : Nat) (T : fT) (I : fI), j + t = (S.1 li).2.2.2 → ClsIs T I S → (hq : ∀ (T' : fT) (I' : fI), Tq T T' → fr I I' roS → Q (some (.long (dgBs S li (S.1 li).2.2.2 h))) T' I' J) →
    PW G x0 l mX11_mixBlocks (d + 4) (ZM G x0 Q) k n 36 [(0, .ref (x0 + 0)), (1, .long h0), (3, .int (zI li)), (4, .long (dgBs S li j h)), (6, .int (zI j))] [] T I J := by
  intro t
  induction t with
  | zero =>
    intro j T I ht hS hq
    obtain ⟨⟨o1, o2, o3, o4, o5, o6, o7, o8, o9, o10, o11⟩, hLA, hTA, hVA, hPA, hGA, hNA, hEA⟩ := id hS.1
    obtain ⟨la1, la2, la3, la4⟩ := id hLA
    have e0 : (0 : Nat) < T.1 := by omega
    have e1 : (1 : Nat) < T.1 := by omega
    have e2 : (2 : Nat) < T.1 := by omega
    have e37 : (37 : Nat) < T.1 := by omega
    have e40 : (40 : Nat) < T.1 := by omega
    have e42 : (42 : Nat) < T.1 := by omega
    have e44 : (44 : Nat) < T.1 := by omega
    have e112 : (112 : Nat) < T.1 := by omega
    have v42 := hVA.2.1
    have v44 := hPA.2.1
    have v2 := hS.2.2.1.1.2.1
    have v37 := hS.2.2.2.1.1.2.1
    have v40 := hTA.2.2.1
    have v112 := hNA.2.1
    have hxt : (zI (li : Int)).toInt = li := zI_t (by omega) (by omega)
    have hnl : (zI li).toNatClampNeg = li := by rw [zI_n (by omega) (by omega)]; simp
    obtain ⟨lb1, lb2⟩ := la4 li hli
    obtain ⟨k1, k2, k3, k4, k5, k6, k7, k8⟩ := id lb2
    obtain ⟨r1, r2, r3, r4, r5, r6, r7⟩ := id k8
    have hC := hS.2.1 li hli
    have hL := hk.1 li hli
    have hnm := hL.nbm
    have hm := hL.1
    have hj : j = (S.1 li).2.2.2 := by omega
    subst hj
    refine s_iload dX11_mixBlocks_36 rfl ?_
    refine s_aload_n (i := 0) dX11_mixBlocks_38 rfl rfl ?_
    refine s_getR dX11_mixBlocks_39 fl_X11_11 (by assumption) (by assumption) (by assumption) ?_
    refine s_iload_n (i := 3) dX11_mixBlocks_42 rfl rfl ?_
    refine s_aldC dX11_mixBlocks_43 (by assumption) (by assumption) (by rw [la3]; exact z_in (by omega) (by omega) (by omega)) (by rw [hnl]; exact lb1) ?_
    refine s_getI dX11_mixBlocks_44 fl_X11_147 (by assumption) (by assumption) ?_
    refine s_icmp_ge (tgt := 90) dX11_mixBlocks_47 (by decide) (fun h47 => ?_) (fun h47 => absurd (by rw [t_zI hC.2.2.2.1, zI_le (by omega) (by omega) (by omega) (by omega)]; omega) h47)
    refine s_lload dX11_mixBlocks_90 rfl ?_
    refine s_lret dX11_mixBlocks_92 rfl ?_
    exact hq T I (Tq.refl T) (fr_refl I _)
  | succ t ih =>
    intro j T I ht hS hq
    obtain ⟨⟨o1, o2, o3, o4, o5, o6, o7, o8, o9, o10, o11⟩, hLA, hTA, hVA, hPA, hGA, hNA, hEA⟩ := id hS.1
    obtain ⟨la1, la2, la3, la4⟩ := id hLA
    have e0 : (0 : Nat) < T.1 := by omega
    have e1 : (1 : Nat) < T.1 := by omega
    have e2 : (2 : Nat) < T.1 := by omega
    have e37 : (37 : Nat) < T.1 := by omega
    have e40 : (40 : Nat) < T.1 := by omega
    have e42 : (42 : Nat) < T.1 := by omega
    have e44 : (44 : Nat) < T.1 := by omega
    have e112 : (112 : Nat) < T.1 := by omega
    have v42 := hVA.2.1
    have v44 := hPA.2.1
    have v2 := hS.2.2.1.1.2.1
    have v37 := hS.2.2.2.1.1.2.1
    have v40 := hTA.2.2.1
    have v112 := hNA.2.1
    have hj : j < (S.1 li).2.2.2 := by omega
    have hxt : (zI (li : Int)).toInt = li := zI_t (by omega) (by omega)
    have hnl : (zI li).toNatClampNeg = li := by rw [zI_n (by omega) (by omega)]; simp
    have hxn : (zI (li : Int)).toInt.toNat = li := by rw [hxt]; simp
    obtain ⟨lb1, lb2⟩ := la4 li hli
    obtain ⟨k1, k2, k3, k4, k5, k6, k7, k8⟩ := id lb2
    have hC := hS.2.1 li hli
    have hL := hk.1 li hli
    have hnm := hL.nbm
    have hm := hL.1
    have hyt : (zI (j : Int)).toInt = j := zI_t (by omega) (by omega)
    have hyn : (zI (j : Int)).toInt.toNat = j := by rw [hyt]; simp
    have hb := hL.blk hj
    have hB : isB S (zI (li : Int)).toInt (zI (j : Int)).toInt := ⟨by omega, by rw [hxn]; omega⟩
    refine s_iload dX11_mixBlocks_36 rfl ?_
    refine s_aload_n (i := 0) dX11_mixBlocks_38 rfl rfl ?_
    refine s_getR dX11_mixBlocks_39 fl_X11_11 (by assumption) (by assumption) (by assumption) ?_
    refine s_iload_n (i := 3) dX11_mixBlocks_42 rfl rfl ?_
    refine s_aldC dX11_mixBlocks_43 (by assumption) (by assumption) (by rw [la3]; exact z_in (by omega) (by omega) (by omega)) (by rw [hnl]; exact lb1) ?_
    refine s_getI dX11_mixBlocks_44 fl_X11_147 (by assumption) (by assumption) ?_
    refine s_icmp_ge (tgt := 90) dX11_mixBlocks_47 (by decide) (fun h47 => absurd h47 (fun h => by rw [t_zI hC.2.2.2.1, zI_le (by omega) (by omega) (by omega) (by omega)] at h; omega)) (fun h47 => ?_)
    refine s_lload dX11_mixBlocks_50 rfl ?_
    refine s_aload_n (i := 0) dX11_mixBlocks_52 rfl rfl ?_
    refine s_aload_n (i := 0) dX11_mixBlocks_53 rfl rfl ?_
    refine s_getR dX11_mixBlocks_54 fl_X11_11 (by assumption) (by assumption) (by assumption) ?_
    refine s_iload_n (i := 3) dX11_mixBlocks_57 rfl rfl ?_
    refine s_aldC dX11_mixBlocks_58 (by assumption) (by assumption) (by rw [la3]; exact z_in (by omega) (by omega) (by omega)) (by rw [hnl]; exact lb1) ?_
    refine s_iload dX11_mixBlocks_59 rfl ?_
    refine s_cV_RI (My := mX11_measured) dX11_mixBlocks_61 wM_X11_157 cb_yX11_measured ci_yX11_measured (by assumption) (by assumption) (Nat.le_of_ble_eq_true rfl) (by decide) (s_d (by omega) (c_measured (d := 0) hS.1 hli hC hL hj (fun T1 I1 hT1 hf1 hV1 => ?_)))
    have hR1 : RowIs T1 I1 (120 + 4 * li + 1) 200 (S.1 li).1 (S.1 li).2.1 := RowIs.tq (hC.2.1.fr (hf1 _ (by simp; omega)) (hf1 _ (by simp; omega))) hT1
    have e42' : (42 : Nat) < T1.1 := by rw [hT1.1]; exact e42
    have v42' : T1.2.1 42 = 0 := by rw [hT1.2.1]; exact v42
    have hS1 : ClsIs T1 I1 S := cls_ro hS hT1 (ro_of hf1)
    have e0' : (0 : Nat) < T1.1 := by rw [hT1.1]; exact e0
    have o2' : T1.2.1 0 = 11 := by rw [hT1.2.1]; exact o2
    refine s_cS_JR (My := mX11_mixBlock) dX11_mixBlocks_64 wM_X11_270 cb_yX11_mixBlock wT_yX11_mixBlock (Nat.le_of_ble_eq_true rfl) (by decide) (s_d (by omega) (c_mixBlock (d := 0) hV1 hR1 hL.gap hm hb.2.2.2.2.2 hb.2.2.2.1 hb.2.2.2.2.1 ?_))
    refine s_lstore dX11_mixBlocks_67 (by decide) (by simp only [sl, sl2, rm, Value.category, reduceIte, Nat.reduceAdd, Nat.reduceEqDiff, reduceCtorEq]; rfl) ?_
    refine s_lload dX11_mixBlocks_69 rfl ?_
    refine s_aload_n (i := 0) dX11_mixBlocks_71 rfl rfl ?_
    refine s_iload_n (i := 3) dX11_mixBlocks_72 rfl rfl ?_
    refine s_iload dX11_mixBlocks_73 rfl ?_
    refine s_cV_II (My := mX11_cached) dX11_mixBlocks_75 wM_X11_274 cb_yX11_cached ci_yX11_cached (by assumption) (by assumption) (Nat.le_of_ble_eq_true rfl) (by decide) (s_d (by omega) (c_cached (d := 0) hS1 hk (fun T2 I2 hT2 hf2 => ?_)))
    rw [hxt, hyt]
    refine s_i2l dX11_mixBlocks_78 ?_
    refine s_cS_JJ (My := mX11_mix) dX11_mixBlocks_79 wM_X11_256 cb_yX11_mix wT_yX11_mix (Nat.le_of_ble_eq_true rfl) (by decide) (s_d (by omega) (c_mix (d := 0) ?_))
    refine s_lstore dX11_mixBlocks_82 (by decide) (by simp only [sl, sl2, rm, Value.category, reduceIte, Nat.reduceAdd, Nat.reduceEqDiff, reduceCtorEq]; rfl) ?_
    refine s_iinc dX11_mixBlocks_84 rfl (zI_inc _) (by decide) (by simp only [sl, sl2, rm, Value.category, reduceIte, Nat.reduceAdd, Nat.reduceEqDiff, reduceCtorEq]; rfl) ?_
    refine s_goto (tgt := 36) dX11_mixBlocks_87 (by decide) ?_
    refine s_lv (lv' := [(0, .ref (x0 + 0)), (1, .long h0), (3, .int (zI li)), (4, .long _), (6, .int _)]) ⟨rfl, rfl, rfl, rfl, rfl, trivial⟩ ?_
    exact ih (j + 1) T2 I2 (by omega) (cls_ro hS1 hT2 hf2) (fun T3 I3 hT3 hf3 => hq T3 I3 ((hT1.trans hT2).trans hT3) (fr_trans (fr_trans (ro_of hf1) hf2) hf3))
set_option maxRecDepth 100000 in
set_option maxHeartbeats 1000000 in
theorem l_mixBl {G : fG} {x0 : Nat} {l : Launch} {d k n : Nat} {J : fJ} {Q : Option Value → fT → fI → fJ → Prop} {li : Nat} {h0 h : Int64} {S : ASt} (hk : SOk S) (hli : li < 6) : ∀ (t i : Nat) (T : fT) (I : fI), i + t = 6 → ClsIs T I S → (hq : ∀ (T' : fT) (I' : fI), Tq T T' → fr I I' roS → Q (some (.long (dgL S li h))) T' I' J) →
    PW G x0 l mX11_mixBlocks (d + 6) (ZM G x0 Q) k n 6 [(0, .ref (x0 + 0)), (1, .long h0), (3, .int (zI li)), (4, .long (mixN (fun q => zL (fList S li q)) i h)), (6, .int (zI i))] [] T I J := by
  have hxt : (zI (li : Int)).toInt = li := zI_t (by omega) (by omega)
  intro t
  induction t with
  | zero =>
    intro i T I ht hS hq
    have him : i = 6 := by omega
    subst him
    refine s_iload dX11_mixBlocks_6 rfl ?_
    refine s_iconst (v := 5) dX11_mixBlocks_8 (by decide) ?_
    refine s_icmp_gt (tgt := 33) dX11_mixBlocks_9 (by decide) (fun h9 => ?_) (fun h9 => absurd (by decide) h9)
    refine s_iconst (v := 0) dX11_mixBlocks_33 (by decide) ?_
    refine s_istore dX11_mixBlocks_34 (by decide) (by simp only [sl, sl2, rm, Value.category, reduceIte, Nat.reduceAdd, Nat.reduceEqDiff, reduceCtorEq]; rfl) ?_
    exact s_d (by omega) (l_mixBs (d := 0) hk hli (S.1 li).2.2.2 0 T I (by omega) hS hq)
  | succ t ih =>
    intro i T I ht hS hq
    obtain ⟨⟨o1, o2, o3, o4, o5, o6, o7, o8, o9, o10, o11⟩, -⟩ := id hS.1
    have e0 : (0 : Nat) < T.1 := by omega
    have hit : (zI (i : Int)).toInt = i := zI_t (by omega) (by omega)
    refine s_iload dX11_mixBlocks_6 rfl ?_
    refine s_iconst (v := 5) dX11_mixBlocks_8 (by decide) ?_
    refine s_icmp_gt (tgt := 33) dX11_mixBlocks_9 (by decide) (fun h9 => absurd h9 (fun h => by have := (zI_lt (a := 5) (b := i) (by omega) (by omega) (by omega) (by omega)).mp h; omega)) (fun h9 => ?_)
    refine s_lload dX11_mixBlocks_12 rfl ?_
    refine s_aload_n (i := 0) dX11_mixBlocks_14 rfl rfl ?_
    refine s_iload_n (i := 3) dX11_mixBlocks_15 rfl rfl ?_
    refine s_iload dX11_mixBlocks_16 rfl ?_
    refine s_cV_II (My := mX11_list) dX11_mixBlocks_18 wM_X11_240 cb_yX11_list ci_yX11_list (by assumption) (by assumption) (Nat.le_of_ble_eq_true rfl) (by decide) (s_d (by omega) (c_list (d := 0) hS hk (fun T1 I1 hT1 hf1 => ?_)))
    rw [hit, hxt]
    refine s_i2l dX11_mixBlocks_21 ?_
    refine s_cS_JJ (My := mX11_mix) dX11_mixBlocks_22 wM_X11_256 cb_yX11_mix wT_yX11_mix (Nat.le_of_ble_eq_true rfl) (by decide) (s_d (by omega) (c_mix (d := 0) ?_))
    refine s_lstore dX11_mixBlocks_25 (by decide) (by simp only [sl, sl2, rm, Value.category, reduceIte, Nat.reduceAdd, Nat.reduceEqDiff, reduceCtorEq]; rfl) ?_
    refine s_iinc dX11_mixBlocks_27 rfl (zI_inc _) (by decide) (by simp only [sl, sl2, rm, Value.category, reduceIte, Nat.reduceAdd, Nat.reduceEqDiff, reduceCtorEq]; rfl) ?_
    refine s_goto (tgt := 6) dX11_mixBlocks_30 (by decide) ?_
    refine s_lv (lv' := [(0, .ref (x0 + 0)), (1, .long h0), (3, .int (zI li)), (4, .long _), (6, .int _)]) ⟨rfl, rfl, rfl, rfl, rfl, trivial⟩ ?_
    exact ih (i + 1) T1 I1 (by omega) (cls_ro hS hT1 hf1) (fun T2 I2 hT2 hf2 => hq T2 I2 (hT1.trans hT2) (fr_trans hf1 hf2))
set_option maxRecDepth 100000 in
set_option maxHeartbeats 1000000 in
theorem c_mixBlocks {G : fG} {x0 : Nat} {l : Launch} {d k n : Nat} {T : fT} {I : fI} {J : fJ} {Q : Option Value → fT → fI → fJ → Prop} {li : Nat} {h : Int64} {S : ASt} (hS : ClsIs T I S) (hk : SOk S) (hli : li < 6) (hq : ∀ (T' : fT) (I' : fI), Tq T T' → fr I I' roS → Q (some (.long (dgL S li h))) T' I' J) :
    PW G x0 l mX11_mixBlocks (d + 6) (ZM G x0 Q) k n 0 [(0, .ref (x0 + 0)), (1, .long h), (3, .int (zI li))] [] T I J := by
  refine s_lload_n (i := 1) dX11_mixBlocks_0 rfl rfl ?_
  refine s_lstore dX11_mixBlocks_1 (by decide) (by simp only [sl, sl2, rm, Value.category, reduceIte, Nat.reduceAdd, Nat.reduceEqDiff, reduceCtorEq]; rfl) ?_
  refine s_iconst (v := 0) dX11_mixBlocks_3 (by decide) ?_
  refine s_istore dX11_mixBlocks_4 (by decide) (by simp only [sl, sl2, rm, Value.category, reduceIte, Nat.reduceAdd, Nat.reduceEqDiff, reduceCtorEq]; rfl) ?_
  exact l_mixBl hk hli 6 0 T I (by omega) hS hq
set_option maxRecDepth 100000 in
set_option maxHeartbeats 1000000 in
theorem l_dig4 {G : fG} {x0 : Nat} {l : Launch} {d k n : Nat} {T : fT} {I : fI} {J : fJ} {Q : Option Value → fT → fI → fJ → Prop} {h : Int64} {x3 : Int32} {S : ASt} (hS : ClsIs T I S) (hk : SOk S) (hq : Q (some (.long (mixN (fun q => zL (S.2.2.2.1.1 q)) S.2.2.2.1.2 (dgR S.2.2.2.2 h)))) T I J) :
    PW G x0 l mX11_digest (d + 7) (ZM G x0 Q) k n 78 [(0, .ref (x0 + 0)), (1, .long h), (3, .int x3)] [] T I J := by
  obtain ⟨⟨o1, o2, o3, o4, o5, o6, o7, o8, o9, o10, o11⟩, hLA, hTA, hVA, hPA, hGA, hNA, hEA⟩ := id hS.1
  obtain ⟨la1, la2, la3, la4⟩ := id hLA
  have e0 : (0 : Nat) < T.1 := by omega
  have e1 : (1 : Nat) < T.1 := by omega
  have e2 : (2 : Nat) < T.1 := by omega
  have e37 : (37 : Nat) < T.1 := by omega
  have e40 : (40 : Nat) < T.1 := by omega
  have e42 : (42 : Nat) < T.1 := by omega
  have e44 : (44 : Nat) < T.1 := by omega
  have e112 : (112 : Nat) < T.1 := by omega
  have v42 := hVA.2.1
  have v44 := hPA.2.1
  have v2 := hS.2.2.1.1.2.1
  have v37 := hS.2.2.2.1.1.2.1
  have v40 := hTA.2.2.1
  have v112 := hNA.2.1
  cases hr : S.2.2.2.2 with
  | none =>
    have hj := hS.2.2.2.2.2.2
    rw [hr] at hj
    have hj0 : T.2.2.2 0 9 = none := hj
    rw [hr] at hq
    simp only [dgR] at hq
    refine s_aload_n (i := 0) dX11_digest_78 rfl rfl ?_
    refine s_getN dX11_digest_79 fl_X11_124 (by assumption) (by assumption) hj0 ?_
    refine s_ifnullN (tgt := 97) dX11_digest_82 (by decide) ?_
    refine s_lload_n (i := 1) dX11_digest_97 rfl rfl ?_
    refine s_aload_n (i := 0) dX11_digest_98 rfl rfl ?_
    refine s_getR dX11_digest_99 fl_X11_34 (by assumption) (by assumption) (by assumption) ?_
    refine s_cS_JR (My := mX11_mixRow) dX11_digest_102 wM_X11_264 cb_yX11_mixRow wT_yX11_mixRow (Nat.le_of_ble_eq_true rfl) (by decide) (s_d (by omega) (c_mixRow (d := 0) hS.2.2.2.2.1 ?_))
    refine s_lret dX11_digest_105 rfl ?_
    exact hq
  | some r =>
    have hj := hS.2.2.2.2.2.2
    rw [hr] at hj
    obtain ⟨j0, hJA, hJR, hJp⟩ := hj
    obtain ⟨hr1, hr2, hr3⟩ := hk.2.2.2.2.2 r hr
    have j1 : T.2.1 162 = 6 := hJA.2.1
    have j2 : T.2.2.2 162 1 = some 164 := hJA.2.2.2.1
    have j3 : T.2.2.2 162 0 = some 163 := hJA.2.2.1
    have e162 : (162 : Nat) < T.1 := by have := hJA.1; omega
    have e163 : (163 : Nat) < T.1 := by have := hJA.1; omega
    have e164 : (164 : Nat) < T.1 := by have := hJA.1; omega
    have j4 : T.2.1 164 = 9 := hJR.1.2.2.1
    have j5 : T.2.1 163 = 4 := hJA.2.2.2.2.2.2.2.2.2.2.1.2
    rw [hr] at hq
    simp only [dgR] at hq
    refine s_aload_n (i := 0) dX11_digest_78 rfl rfl ?_
    refine s_getR dX11_digest_79 fl_X11_124 (by assumption) (by assumption) (by assumption) ?_
    refine s_ifnull dX11_digest_82 ?_
    refine s_lload_n (i := 1) dX11_digest_85 rfl rfl ?_
    refine s_aload_n (i := 0) dX11_digest_86 rfl rfl ?_
    refine s_getR dX11_digest_87 fl_X11_124 (by assumption) (by assumption) (by assumption) ?_
    refine s_getR dX11_digest_90 fl_X11_128 (by assumption) (by assumption) (by assumption) ?_
    refine s_cS_JR (My := mX11_mixRow) dX11_digest_93 wM_X11_264 cb_yX11_mixRow wT_yX11_mixRow (Nat.le_of_ble_eq_true rfl) (by decide) (s_d (by omega) (c_mixRow (d := 0) hJR ?_))
    refine s_lstore_n (i := 1) dX11_digest_96 rfl (by decide) (by simp only [sl, sl2, rm, Value.category, reduceIte, Nat.reduceAdd, Nat.reduceEqDiff, reduceCtorEq]; rfl) ?_
    refine s_lload_n (i := 1) dX11_digest_97 rfl rfl ?_
    refine s_aload_n (i := 0) dX11_digest_98 rfl rfl ?_
    refine s_getR dX11_digest_99 fl_X11_34 (by assumption) (by assumption) (by assumption) ?_
    refine s_cS_JR (My := mX11_mixRow) dX11_digest_102 wM_X11_264 cb_yX11_mixRow wT_yX11_mixRow (Nat.le_of_ble_eq_true rfl) (by decide) (s_d (by omega) (c_mixRow (d := 0) hS.2.2.2.2.1 ?_))
    refine s_lret dX11_digest_105 rfl ?_
    exact hq
set_option maxRecDepth 100000 in
set_option maxHeartbeats 1000000 in
theorem l_dig3 {G : fG} {x0 : Nat} {l : Launch} {d k n : Nat} {T : fT} {I : fI} {J : fJ} {Q : Option Value → fT → fI → fJ → Prop} {h : Int64} {S : ASt} (hS : ClsIs T I S) (hk : SOk S) (hq : Q (some (.long (mixN (fun q => zL (S.2.2.2.1.1 q)) S.2.2.2.1.2 (dgR S.2.2.2.2 (dgRs S 6 h))))) T I J) : ∀ (t i : Nat), i + t = 6 →
    PW G x0 l mX11_digest (d + 7) (ZM G x0 Q) k n 52 [(0, .ref (x0 + 0)), (1, .long (dgRs S i h)), (3, .int (zI i))] [] T I J := by
  intro t
  induction t with
  | zero =>
    intro i ht
    have him : i = 6 := by omega
    subst him
    refine s_iload_n (i := 3) dX11_digest_52 rfl rfl ?_
    refine s_bipush (v := 6) dX11_digest_53 (by decide) ?_
    refine s_icmp_ge (tgt := 78) dX11_digest_55 (by decide) (fun h55 => ?_) (fun h55 => absurd (by decide) h55)
    exact l_dig4 hS hk hq
  | succ t ih =>
    intro i ht
    obtain ⟨⟨o1, o2, o3, o4, o5, o6, o7, o8, o9, o10, o11⟩, hLA, hTA, hVA, hPA, hGA, hNA, hEA⟩ := id hS.1
    obtain ⟨la1, la2, la3, la4⟩ := id hLA
    have e0 : (0 : Nat) < T.1 := by omega
    have e1 : (1 : Nat) < T.1 := by omega
    have e2 : (2 : Nat) < T.1 := by omega
    have e37 : (37 : Nat) < T.1 := by omega
    have e40 : (40 : Nat) < T.1 := by omega
    have e42 : (42 : Nat) < T.1 := by omega
    have e44 : (44 : Nat) < T.1 := by omega
    have e112 : (112 : Nat) < T.1 := by omega
    have v42 := hVA.2.1
    have v44 := hPA.2.1
    have v2 := hS.2.2.1.1.2.1
    have v37 := hS.2.2.2.1.1.2.1
    have v40 := hTA.2.2.1
    have v112 := hNA.2.1
    obtain ⟨li, rfl⟩ : ∃ li, li = i := ⟨i, rfl⟩
    have hli : li < 6 := by omega
    have hxt : (zI (li : Int)).toInt = li := zI_t (by omega) (by omega)
    have hnl : (zI li).toNatClampNeg = li := by rw [zI_n (by omega) (by omega)]; simp
    obtain ⟨lb1, lb2⟩ := la4 li hli
    obtain ⟨k1, k2, k3, k4, k5, k6, k7, k8⟩ := id lb2
    obtain ⟨r1, r2, r3, r4, r5, r6, r7⟩ := id k8
    have hC := hS.2.1 li hli
    have hL := hk.1 li hli
    refine s_iload_n (i := 3) dX11_digest_52 rfl rfl ?_
    refine s_bipush (v := 6) dX11_digest_53 (by decide) ?_
    refine s_icmp_ge (tgt := 78) dX11_digest_55 (by decide) (fun h55 => absurd h55 (fun h => by have := (zI_le (a := 6) (b := li) (by omega) (by omega) (by omega) (by omega)).mp h; omega)) (fun h55 => ?_)
    refine s_lload_n (i := 1) dX11_digest_58 rfl rfl ?_
    refine s_aload_n (i := 0) dX11_digest_59 rfl rfl ?_
    refine s_getR dX11_digest_60 fl_X11_11 (by assumption) (by assumption) (by assumption) ?_
    refine s_iload_n (i := 3) dX11_digest_63 rfl rfl ?_
    refine s_aldC dX11_digest_64 (by assumption) (by assumption) (by rw [la3]; exact z_in (by omega) (by omega) (by omega)) (by rw [hnl]; exact lb1) ?_
    refine s_getR dX11_digest_65 fl_X11_81 (by assumption) (by assumption) (by assumption) ?_
    refine s_cS_JR (My := mX11_mixRow) dX11_digest_68 wM_X11_264 cb_yX11_mixRow wT_yX11_mixRow (Nat.le_of_ble_eq_true rfl) (by decide) (s_d (by omega) (c_mixRow (d := 0) hC.2.1 ?_))
    refine s_lstore_n (i := 1) dX11_digest_71 rfl (by decide) (by simp only [sl, sl2, rm, Value.category, reduceIte, Nat.reduceAdd, Nat.reduceEqDiff, reduceCtorEq]; rfl) ?_
    refine s_iinc dX11_digest_72 rfl (zI_inc _) (by decide) (by simp only [sl, sl2, rm, Value.category, reduceIte, Nat.reduceAdd, Nat.reduceEqDiff, reduceCtorEq]; rfl) ?_
    refine s_goto (tgt := 52) dX11_digest_75 (by decide) ?_
    refine s_lv (lv' := [(0, .ref (x0 + 0)), (1, .long _), (3, .int _)]) ⟨rfl, rfl, rfl, trivial⟩ ?_
    exact ih (li + 1) (by omega)
set_option maxRecDepth 100000 in
set_option maxHeartbeats 1000000 in
theorem l_dig2 {G : fG} {x0 : Nat} {l : Launch} {d k n : Nat} {J : fJ} {Q : Option Value → fT → fI → fJ → Prop} {h : Int64} {S : ASt} (hk : SOk S) : ∀ (t i : Nat) (T : fT) (I : fI), i + t = 6 → ClsIs T I S → (hq : ∀ (T' : fT) (I' : fI), Tq T T' → fr I I' roS → Q (some (.long (mixN (fun q => zL (S.2.2.2.1.1 q)) S.2.2.2.1.2 (dgR S.2.2.2.2 (dgRs S 6 (dgLs S 6 h)))))) T' I' J) →
    PW G x0 l mX11_digest (d + 7) (ZM G x0 Q) k n 31 [(0, .ref (x0 + 0)), (1, .long (dgLs S i h)), (3, .int (zI i))] [] T I J := by
  intro t
  induction t with
  | zero =>
    intro i T I ht hS hq
    have him : i = 6 := by omega
    subst him
    refine s_iload_n (i := 3) dX11_digest_31 rfl rfl ?_
    refine s_bipush (v := 6) dX11_digest_32 (by decide) ?_
    refine s_icmp_ge (tgt := 50) dX11_digest_34 (by decide) (fun h34 => ?_) (fun h34 => absurd (by decide) h34)
    refine s_iconst (v := 0) dX11_digest_50 (by decide) ?_
    refine s_istore_n (i := 3) dX11_digest_51 rfl (by decide) (by simp only [sl, sl2, rm, Value.category, reduceIte, Nat.reduceAdd, Nat.reduceEqDiff, reduceCtorEq]; rfl) ?_
    exact l_dig3 hS hk (hq T I (Tq.refl T) (fr_refl I _)) 6 0 (by omega)
  | succ t ih =>
    intro i T I ht hS hq
    obtain ⟨⟨o1, o2, o3, o4, o5, o6, o7, o8, o9, o10, o11⟩, -⟩ := id hS.1
    have e0 : (0 : Nat) < T.1 := by omega
    refine s_iload_n (i := 3) dX11_digest_31 rfl rfl ?_
    refine s_bipush (v := 6) dX11_digest_32 (by decide) ?_
    refine s_icmp_ge (tgt := 50) dX11_digest_34 (by decide) (fun h34 => absurd h34 (fun h => by have := (zI_le (a := 6) (b := i) (by omega) (by omega) (by omega) (by omega)).mp h; omega)) (fun h34 => ?_)
    refine s_aload_n (i := 0) dX11_digest_37 rfl rfl ?_
    refine s_lload_n (i := 1) dX11_digest_38 rfl rfl ?_
    refine s_iload_n (i := 3) dX11_digest_39 rfl rfl ?_
    refine s_cV_JI (My := mX11_mixBlocks) dX11_digest_40 wM_X11_260 cb_yX11_mixBlocks ci_yX11_mixBlocks (by assumption) (by assumption) (Nat.le_of_ble_eq_true rfl) (by decide) (s_d (by omega) (c_mixBlocks (d := 0) hS hk (by omega) (fun T1 I1 hT1 hf1 => ?_)))
    refine s_lstore_n (i := 1) dX11_digest_43 rfl (by decide) (by simp only [sl, sl2, rm, Value.category, reduceIte, Nat.reduceAdd, Nat.reduceEqDiff, reduceCtorEq]; rfl) ?_
    refine s_iinc dX11_digest_44 rfl (zI_inc _) (by decide) (by simp only [sl, sl2, rm, Value.category, reduceIte, Nat.reduceAdd, Nat.reduceEqDiff, reduceCtorEq]; rfl) ?_
    refine s_goto (tgt := 31) dX11_digest_47 (by decide) ?_
    refine s_lv (lv' := [(0, .ref (x0 + 0)), (1, .long _), (3, .int _)]) ⟨rfl, rfl, rfl, trivial⟩ ?_
    exact ih (i + 1) T1 I1 (by omega) (cls_ro hS hT1 hf1) (fun T2 I2 hT2 hf2 => hq T2 I2 (hT1.trans hT2) (fr_trans hf1 hf2))
set_option maxRecDepth 100000 in
set_option maxHeartbeats 1000000 in
theorem l_dig1 {G : fG} {x0 : Nat} {l : Launch} {d k n : Nat} {J : fJ} {Q : Option Value → fT → fI → fJ → Prop} {S : ASt} (hk : SOk S) : ∀ (t i : Nat) (T : fT) (I : fI), i + t = 10 → ClsIs T I S → (hq : ∀ (T' : fT) (I' : fI), Tq T T' → fr I I' roS → Q (some (.long (fDig S))) T' I' J) →
    PW G x0 l mX11_digest (d + 7) (ZM G x0 Q) k n 6 [(0, .ref (x0 + 0)), (1, .long (mixN (fun q => zL (fCount S q)) i 619)), (3, .int (zI i))] [] T I J := by
  intro t
  induction t with
  | zero =>
    intro i T I ht hS hq
    have him : i = 10 := by omega
    subst him
    refine s_iload_n (i := 3) dX11_digest_6 rfl rfl ?_
    refine s_bipush (v := 9) dX11_digest_7 (by decide) ?_
    refine s_icmp_gt (tgt := 29) dX11_digest_9 (by decide) (fun h9 => ?_) (fun h9 => absurd (by decide) h9)
    refine s_iconst (v := 0) dX11_digest_29 (by decide) ?_
    refine s_istore_n (i := 3) dX11_digest_30 rfl (by decide) (by simp only [sl, sl2, rm, Value.category, reduceIte, Nat.reduceAdd, Nat.reduceEqDiff, reduceCtorEq]; rfl) ?_
    exact l_dig2 hk 6 0 T I (by omega) hS hq
  | succ t ih =>
    intro i T I ht hS hq
    obtain ⟨⟨o1, o2, o3, o4, o5, o6, o7, o8, o9, o10, o11⟩, -⟩ := id hS.1
    have e0 : (0 : Nat) < T.1 := by omega
    have hit : (zI (i : Int)).toInt = i := zI_t (by omega) (by omega)
    refine s_iload_n (i := 3) dX11_digest_6 rfl rfl ?_
    refine s_bipush (v := 9) dX11_digest_7 (by decide) ?_
    refine s_icmp_gt (tgt := 29) dX11_digest_9 (by decide) (fun h9 => absurd h9 (fun h => by have := (zI_lt (a := 9) (b := i) (by omega) (by omega) (by omega) (by omega)).mp h; omega)) (fun h9 => ?_)
    refine s_lload_n (i := 1) dX11_digest_12 rfl rfl ?_
    refine s_aload_n (i := 0) dX11_digest_13 rfl rfl ?_
    refine s_iload_n (i := 3) dX11_digest_14 rfl rfl ?_
    refine s_cV_I (My := mX11_count) dX11_digest_15 wM_X11_253 cb_yX11_count ci_yX11_count (by assumption) (by assumption) (Nat.le_of_ble_eq_true rfl) (by decide) (s_d (by omega) (c_count (d := 0) hS hk (fun T1 I1 hT1 hf1 => ?_)))
    rw [hit]
    refine s_i2l dX11_digest_18 ?_
    refine s_cS_JJ (My := mX11_mix) dX11_digest_19 wM_X11_256 cb_yX11_mix wT_yX11_mix (Nat.le_of_ble_eq_true rfl) (by decide) (s_d (by omega) (c_mix (d := 0) ?_))
    refine s_lstore_n (i := 1) dX11_digest_22 rfl (by decide) (by simp only [sl, sl2, rm, Value.category, reduceIte, Nat.reduceAdd, Nat.reduceEqDiff, reduceCtorEq]; rfl) ?_
    refine s_iinc dX11_digest_23 rfl (zI_inc _) (by decide) (by simp only [sl, sl2, rm, Value.category, reduceIte, Nat.reduceAdd, Nat.reduceEqDiff, reduceCtorEq]; rfl) ?_
    refine s_goto (tgt := 6) dX11_digest_26 (by decide) ?_
    refine s_lv (lv' := [(0, .ref (x0 + 0)), (1, .long _), (3, .int _)]) ⟨rfl, rfl, rfl, trivial⟩ ?_
    exact ih (i + 1) T1 I1 (by omega) (cls_ro hS hT1 hf1) (fun T2 I2 hT2 hf2 => hq T2 I2 (hT1.trans hT2) (fr_trans hf1 hf2))
set_option maxRecDepth 100000 in
set_option maxHeartbeats 1000000 in
theorem c_digest {G : fG} {x0 : Nat} {l : Launch} {d k n : Nat} {T : fT} {I : fI} {J : fJ} {Q : Option Value → fT → fI → fJ → Prop} {S : ASt} (hS : ClsIs T I S) (hk : SOk S) (hq : ∀ (T' : fT) (I' : fI), Tq T T' → fr I I' roS → Q (some (.long (fDig S))) T' I' J) : PW G x0 l mX11_digest (d + 7) (ZM G x0 Q) k n 0 [(0, .ref (x0 + 0))] [] T I J := by
  refine s_ldc2 dX11_digest_0 wK_X11_251 ?_
  refine s_lstore_n (i := 1) dX11_digest_3 rfl (by decide) (by simp only [sl, sl2, rm, Value.category, reduceIte, Nat.reduceAdd, Nat.reduceEqDiff, reduceCtorEq]; rfl) ?_
  refine s_iconst (v := 0) dX11_digest_4 (by decide) ?_
  refine s_istore_n (i := 3) dX11_digest_5 rfl (by decide) (by simp only [sl, sl2, rm, Value.category, reduceIte, Nat.reduceAdd, Nat.reduceEqDiff, reduceCtorEq]; rfl) ?_
  exact l_dig1 hk 10 0 T I (by omega) hS hq
