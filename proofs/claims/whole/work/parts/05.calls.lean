theorem wC_objectInit : Cond.code objectInit ⟨#[0xb1]⟩ 1 none ∈ WL := tw_1 (k := 24) (by decide +kernel) (by decide +kernel)
theorem wC_max : Cond.code Lib.Math.max.name Lib.Math.max.code 2 (some .int) ∈ WL := tw_1 (k := 47) (by decide +kernel) (by decide +kernel)
theorem wC_min : Cond.code Lib.Math.min.name Lib.Math.min.code 2 (some .int) ∈ WL := tw_2 (k := 86) (by decide +kernel) (by decide +kernel)
section FMC
variable {G : fG} {x0 : Nat} {l : Launch} {M : fM} {d : Nat} {Z : fZ} {k n pc : Nat} {lv : List (Nat × Value)} {st : List Value} {T : fT} {I : fI} {J : fJ}
theorem fm_alloc {T' : fT} {I' : fI} {J' : fJ} {H H1 : Heap} {e : va_E} (hH : fm_H G x0 T I J H) (o1 : ∀ q, q < x0 + T.1 → H1[q]? = H[q]?) (z1 : H1.size = x0 + T.1 + 1) (hat : va_at G.1 vwCl (x0 + T.1, e) H1) (hN : T'.1 = T.1 + 1) (he : fm_E G x0 T' I' J' T.1 = e) (ho : ∀ b, b < T.1 → fm_E G x0 T' I' J' b = fm_E G x0 T I J b) : fm_H G x0 T' I' J' H1 := by
  have hk : ∀ (q : Nat) (x : Nat × va_E), (fm_W G x0 T I J)[q]? = some x → H1[x.1]? = H[x.1]? := fun q x hx => o1 x.1 (by have := (hH.1 q x hx).lt; rw [hH.2] at this; exact this)
  have hP2 : va_P G.1 vwCl (fm_W G x0 T I J ++ [(x0 + T.1, e)]) H1 := by
    refine (hH.1.kept hk).app (fun q x hx => ?_)
    have hz : q < 1 := (List.getElem?_eq_some_iff.mp hx).1
    rw [show q = 0 by omega] at hx
    cases hx
    exact hat
  rw [fm_push hN he ho] at hP2
  exact ⟨hP2, by rw [z1, hN]; omega⟩
theorem fm_S_grow {s : State} {H H1 : Heap} {locs : List Loc} (hS : va_S (fm_A x0) s.heap H locs) (hz : H.size = x0 + T.1) (o1 : ∀ q, q < x0 + T.1 → H1[q]? = H[q]?) (z1 : H1.size = x0 + T.1 + 1) : va_S (fm_A x0) s.heap H1 locs :=
  ⟨Nat.le_trans hS.1 (by omega), fun q g1 g2 => (o1 q (by have := hS.1; omega)).trans (hS.2.1 q g1 g2), hS.2.2⟩
theorem s_newI {nn : Int32} {N' : Nat} (hd : decode M.2.1 pc = .ok (.newarray .int, 2)) (hn : ¬ nn < 0) (hN : nn.toNatClampNeg = N') (hby : N' * 4 ≤ 536870912) (kk : PW G x0 l M d Z k n (pc + 2) lv (.ref (x0 + T.1) :: st) (T.1 + 1, ku T.2.1 T.1 13, ku T.2.2.1 T.1 N', vz T.2.2.2 T.1) (ia I T.1 (fun _ => 0)) (ja J T.1 (fun _ => 0))) : PW G x0 l M d Z (k + 1) (n + N') pc lv (.int nn :: st) T I J := by
  intro p e s m args below meth c R H locs cells slots ls hv h1 h2 hH hS hl
  obtain ⟨hx, hb, hr, hml, hnme, hown, hts, hlk, hK, hX, hx0, hfr, hlo⟩ := id hv
  refine va_newaK (atype := .int) hx hb (hts _ wR_int) rfl hd rfl hn hN hby (by omega) (by omega) hH.2 fun H1 cA e1 z1 o1 hAr hNm => ?_
  have hcA : cA = G.2.1 := Option.some.inj (hNm.symm.trans (hK.2 0 _ rfl).2)
  subst hcA
  have hH2 := fm_alloc (T' := (T.1 + 1, ku T.2.1 T.1 13, ku T.2.2.1 T.1 N', vz T.2.2.2 T.1)) (I' := ia I T.1 (fun _ => 0)) (J' := ja J T.1 (fun _ => 0)) (e := .inl (G.2.1, N', .inl (fun _ => 0))) hH o1 z1 (by show H1[x0 + T.1]? = some (vp_cell _ _); rw [e1, vp_cell_i]; rfl) rfl (by rw [fm_E_int ku_eq]; simp only [ku_eq, ia_eq]) (fun b hb => fm_E_same (ku_ne (by omega)) (ku_ne (by omega)) (vz_ne (by omega)) (ia_ne (by omega)) (ja_ne (by omega)))
  exact kk p e s m args below meth c R H1 locs (cells + 1) (slots + N') ls hv (by omega) (by omega) hH2 (fm_S_grow hS hH.2 o1 z1) hl
theorem s_newJ {nn : Int32} {N' : Nat} (hd : decode M.2.1 pc = .ok (.newarray .long, 2)) (hn : ¬ nn < 0) (hN : nn.toNatClampNeg = N') (hby : N' * 8 ≤ 536870912) (kk : PW G x0 l M d Z k n (pc + 2) lv (.ref (x0 + T.1) :: st) (T.1 + 1, ku T.2.1 T.1 14, ku T.2.2.1 T.1 N', vz T.2.2.2 T.1) (ia I T.1 (fun _ => 0)) (ja J T.1 (fun _ => 0))) : PW G x0 l M d Z (k + 1) (n + N') pc lv (.int nn :: st) T I J := by
  intro p e s m args below meth c R H locs cells slots ls hv h1 h2 hH hS hl
  obtain ⟨hx, hb, hr, hml, hnme, hown, hts, hlk, hK, hX, hx0, hfr, hlo⟩ := id hv
  refine va_newaK (atype := .long) hx hb (hts _ wR_long) rfl hd rfl hn hN hby (by omega) (by omega) hH.2 fun H1 cA e1 z1 o1 hAr hNm => ?_
  have hcA : cA = G.2.2.1 := Option.some.inj (hNm.symm.trans (hK.2 1 _ rfl).2)
  subst hcA
  have hH2 := fm_alloc (T' := (T.1 + 1, ku T.2.1 T.1 14, ku T.2.2.1 T.1 N', vz T.2.2.2 T.1)) (I' := ia I T.1 (fun _ => 0)) (J' := ja J T.1 (fun _ => 0)) (e := .inl (G.2.2.1, N', .inr (.inl (fun _ => 0)))) hH o1 z1 (by show H1[x0 + T.1]? = some (vp_cell _ _); rw [e1, vp_cell_l]; rfl) rfl (by rw [fm_E_long ku_eq]; simp only [ku_eq, ja_eq]) (fun b hb => fm_E_same (ku_ne (by omega)) (ku_ne (by omega)) (vz_ne (by omega)) (ia_ne (by omega)) (ja_ne (by omega)))
  exact kk p e s m args below meth c R H1 locs (cells + 1) (slots + N') ls hv (by omega) (by omega) hH2 (fm_S_grow hS hH.2 o1 z1) hl

theorem s_newAC {idx : Nat} {nn : Int32} {N' : Nat} (hd : decode M.2.1 pc = .ok (.anewarray idx, 3)) (hcl : Cond.classLink M.1.cls idx "PackedLists$CutList" ∈ WL) (hn : ¬ nn < 0) (hN : nn.toNatClampNeg = N') (hby : N' * 4 ≤ 536870912) (kk : PW G x0 l M d Z k n (pc + 3) lv (.ref (x0 + T.1) :: st) (T.1 + 1, ku T.2.1 T.1 15, ku T.2.2.1 T.1 N', vz T.2.2.2 T.1) (ia I T.1 (fun _ => 0)) (ja J T.1 (fun _ => 0))) : PW G x0 l M d Z (k + 1) (n + N') pc lv (.int nn :: st) T I J := by
  intro p e s m args below meth c R H locs cells slots ls hv h1 h2 hH hS hl
  obtain ⟨hx, hb, hr, hml, hnme, hown, hts, hlk, hK, hX, hx0, hfr, hlo⟩ := id hv
  subst hN
  refine W.anew hx hb hown (hts _ hcl) (va_AO.use hX.2.2.1) rfl hd rfl hn hby (by omega) (by omega) fun cA kA comp f1 f2 f3 f4 => ?_
  generalize hH1 : H.push ({ cls := cA, slots := Array.replicate nn.toNatClampNeg .null, vm := .none } : Cell) = H1
  have z1 : H1.size = x0 + T.1 + 1 := by rw [← hH1, Array.size_push, hH.2]
  have e1 : H1[x0 + T.1]? = some (arrV cA nn.toNatClampNeg (fun _ => .null)) := by rw [← hH1, ← hH.2, Array.getElem?_push_size, ← arrV_new]
  have o1 : ∀ q : Nat, q < x0 + T.1 → H1[q]? = H[q]? := fun q hq => by rw [← hH1, Array.getElem?_push, if_neg (Nat.ne_of_lt (by rw [hH.2]; exact hq))]
  have hcA : cA = G.2.2.2.1 := by
    obtain ⟨_, _, _, _, _, g⟩ := (hK.2 2 _ rfl).2
    exact Option.some.inj (f1.symm.trans g)
  subst hcA
  have hH2 := fm_alloc (T' := (T.1 + 1, ku T.2.1 T.1 15, ku T.2.2.1 T.1 nn.toNatClampNeg, vz T.2.2.2 T.1)) (I' := ia I T.1 (fun _ => 0)) (J' := ja J T.1 (fun _ => 0)) (e := .inl (G.2.2.2.1, nn.toNatClampNeg, .inr (.inr (.inr (.inr (fun _ => none)))))) hH o1 z1 (by show H1[x0 + T.1]? = some (vp_cell _ _); rw [e1]; rfl) rfl (by rw [fm_E_cut ku_eq]; simp only [ku_eq, vz_eq]; rfl) (fun b hb => fm_E_same (ku_ne (by omega)) (ku_ne (by omega)) (vz_ne (by omega)) (ia_ne (by omega)) (ja_ne (by omega)))
  rw [hH.2]
  exact kk p e s m args below meth c R H1 locs (cells + 1) (slots + nn.toNatClampNeg) ls hv (by omega) (by omega) hH2 (fm_S_grow hS hH.2 o1 z1) hl
theorem s_astC {a v : Nat} {i : Int32} (hd : decode M.2.1 pc = .ok (.aastore, 1)) (ha : a < T.1) (hk : T.2.1 a = 15) (hva : v < T.1) (hkv : T.2.1 v = 2) (hin : vp_in i (T.2.2.1 a)) (kk : PW G x0 l M d Z k n (pc + 1) lv st (T.1, T.2.1, T.2.2.1, vu T.2.2.2 a i.toNatClampNeg (some v)) I J) : PW G x0 l M d Z k n pc lv (.ref (x0 + v) :: .int i :: .ref (x0 + a) :: st) T I J := by
  intro p e s m args below meth c R H locs cells slots ls hv h1 h2 hH hS hl
  obtain ⟨hx, hb, hr, hml, hnme, hown, hts, hlk, hK, hX, hx0, hfr, hlo⟩ := id hv
  have he := fm_at (G := G) (x0 := x0) (I := I) (J := J) ha (fm_E_cut hk)
  have hlt : i.toNatClampNeg < T.2.2.1 a := Nat.not_le.mp fun q => hin (Or.inr q)
  have h0 : ¬ i < 0 := fun q => hin (Or.inl q)
  obtain ⟨r', hr', cellV, g1, g2, g3, -⟩ := hH.1 v _ (fm_at hva (fm_E_obj hkv (by omega)))
  have hcls := (hK.1 2 _ rfl).2
  obtain ⟨kA, comp, k1, k2, k3, -⟩ := (hK.2 2 _ rfl).2
  have hcomp : comp = G.1.1 2 := Option.some.inj (k3.symm.trans hcls.1)
  subst hcomp
  obtain ⟨kC, hkC, -⟩ := hcls.2
  refine W.aast hx hb (hH.1 a _ he) (fun q h => by cases h) (fun h => by cases h) k1 k2 rfl hkC ⟨h0, by show _ < (arrV _ _ _).slots.size; rw [arrV_size]; exact hlt⟩ g1 (fun q h => by rw [g3] at h; cases h) (by rw [g2]; exact hkC) (by rw [g2]; exact va_assign hcls) rfl rfl hd fun H1 e1 z oq => ?_
  have hP2 : va_P G.1 vwCl ((fm_W G x0 T I J).set a (x0 + a, .inl (G.2.2.2.1, T.2.2.1 a, .inr (.inr (.inr (.inr (fun j => (vu T.2.2.2 a i.toNatClampNeg (some v) a j).map (fun z => x0 + z)))))))) H1 := by
    refine hH.1.set fm_D he ?_ oq
    show H1[x0 + a]? = some (vp_cell _ _)
    rw [e1]
    rw [vp_cell_q, vp_cell_q, arrV_store]
    congr 2
    funext q
    by_cases hq : q = i.toNatClampNeg
    · subst hq
      simp [updV, vu, va_rf]
    · simp [updV, vu, hq]
  rw [fm_set (T' := (T.1, T.2.1, T.2.2.1, vu T.2.2.2 a i.toNatClampNeg (some v))) (I' := I) (J' := J) ha rfl (fm_E_cut hk) (fun b hb => fm_E_same rfl rfl (vu_ne hb) rfl rfl)] at hP2
  exact kk p e s m args below meth c R H1 _ cells slots ls hv h1 h2 ⟨hP2, by rw [z]; exact hH.2⟩ (hS.put z oq (Nat.le_add_right _ _)) hl

theorem s_newAW {idx : Nat} {nn : Int32} {N' : Nat} (hd : decode M.2.1 pc = .ok (.anewarray idx, 3)) (hcl : Cond.classLink M.1.cls idx "PackedLists$Window" ∈ WL) (hn : ¬ nn < 0) (hN : nn.toNatClampNeg = N') (hby : N' * 4 ≤ 536870912) (kk : PW G x0 l M d Z k n (pc + 3) lv (.ref (x0 + T.1) :: st) (T.1 + 1, ku T.2.1 T.1 16, ku T.2.2.1 T.1 N', vz T.2.2.2 T.1) (ia I T.1 (fun _ => 0)) (ja J T.1 (fun _ => 0))) : PW G x0 l M d Z (k + 1) (n + N') pc lv (.int nn :: st) T I J := by
  intro p e s m args below meth c R H locs cells slots ls hv h1 h2 hH hS hl
  obtain ⟨hx, hb, hr, hml, hnme, hown, hts, hlk, hK, hX, hx0, hfr, hlo⟩ := id hv
  subst hN
  refine W.anew hx hb hown (hts _ hcl) (va_AO.use hX.2.2.2) rfl hd rfl hn hby (by omega) (by omega) fun cA kA comp f1 f2 f3 f4 => ?_
  generalize hH1 : H.push ({ cls := cA, slots := Array.replicate nn.toNatClampNeg .null, vm := .none } : Cell) = H1
  have z1 : H1.size = x0 + T.1 + 1 := by rw [← hH1, Array.size_push, hH.2]
  have e1 : H1[x0 + T.1]? = some (arrV cA nn.toNatClampNeg (fun _ => .null)) := by rw [← hH1, ← hH.2, Array.getElem?_push_size, ← arrV_new]
  have o1 : ∀ q : Nat, q < x0 + T.1 → H1[q]? = H[q]? := fun q hq => by rw [← hH1, Array.getElem?_push, if_neg (Nat.ne_of_lt (by rw [hH.2]; exact hq))]
  have hcA : cA = G.2.2.2.2.1 := by
    obtain ⟨_, _, _, _, _, g⟩ := (hK.2 3 _ rfl).2
    exact Option.some.inj (f1.symm.trans g)
  subst hcA
  have hH2 := fm_alloc (T' := (T.1 + 1, ku T.2.1 T.1 16, ku T.2.2.1 T.1 nn.toNatClampNeg, vz T.2.2.2 T.1)) (I' := ia I T.1 (fun _ => 0)) (J' := ja J T.1 (fun _ => 0)) (e := .inl (G.2.2.2.2.1, nn.toNatClampNeg, .inr (.inr (.inr (.inr (fun _ => none)))))) hH o1 z1 (by show H1[x0 + T.1]? = some (vp_cell _ _); rw [e1]; rfl) rfl (by rw [fm_E_win ku_eq]; simp only [ku_eq, vz_eq]; rfl) (fun b hb => fm_E_same (ku_ne (by omega)) (ku_ne (by omega)) (vz_ne (by omega)) (ia_ne (by omega)) (ja_ne (by omega)))
  rw [hH.2]
  exact kk p e s m args below meth c R H1 locs (cells + 1) (slots + nn.toNatClampNeg) ls hv (by omega) (by omega) hH2 (fm_S_grow hS hH.2 o1 z1) hl
theorem s_astW {a v : Nat} {i : Int32} (hd : decode M.2.1 pc = .ok (.aastore, 1)) (ha : a < T.1) (hk : T.2.1 a = 16) (hva : v < T.1) (hkv : T.2.1 v = 10) (hin : vp_in i (T.2.2.1 a)) (kk : PW G x0 l M d Z k n (pc + 1) lv st (T.1, T.2.1, T.2.2.1, vu T.2.2.2 a i.toNatClampNeg (some v)) I J) : PW G x0 l M d Z k n pc lv (.ref (x0 + v) :: .int i :: .ref (x0 + a) :: st) T I J := by
  intro p e s m args below meth c R H locs cells slots ls hv h1 h2 hH hS hl
  obtain ⟨hx, hb, hr, hml, hnme, hown, hts, hlk, hK, hX, hx0, hfr, hlo⟩ := id hv
  have he := fm_at (G := G) (x0 := x0) (I := I) (J := J) ha (fm_E_win hk)
  have hlt : i.toNatClampNeg < T.2.2.1 a := Nat.not_le.mp fun q => hin (Or.inr q)
  have h0 : ¬ i < 0 := fun q => hin (Or.inl q)
  obtain ⟨r', hr', cellV, g1, g2, g3, -⟩ := hH.1 v _ (fm_at hva (fm_E_obj hkv (by omega)))
  have hcls := (hK.1 10 _ rfl).2
  obtain ⟨kA, comp, k1, k2, k3, -⟩ := (hK.2 3 _ rfl).2
  have hcomp : comp = G.1.1 10 := Option.some.inj (k3.symm.trans hcls.1)
  subst hcomp
  obtain ⟨kC, hkC, -⟩ := hcls.2
  refine W.aast hx hb (hH.1 a _ he) (fun q h => by cases h) (fun h => by cases h) k1 k2 rfl hkC ⟨h0, by show _ < (arrV _ _ _).slots.size; rw [arrV_size]; exact hlt⟩ g1 (fun q h => by rw [g3] at h; cases h) (by rw [g2]; exact hkC) (by rw [g2]; exact va_assign hcls) rfl rfl hd fun H1 e1 z oq => ?_
  have hP2 : va_P G.1 vwCl ((fm_W G x0 T I J).set a (x0 + a, .inl (G.2.2.2.2.1, T.2.2.1 a, .inr (.inr (.inr (.inr (fun j => (vu T.2.2.2 a i.toNatClampNeg (some v) a j).map (fun z => x0 + z)))))))) H1 := by
    refine hH.1.set fm_D he ?_ oq
    show H1[x0 + a]? = some (vp_cell _ _)
    rw [e1]
    rw [vp_cell_q, vp_cell_q, arrV_store]
    congr 2
    funext q
    by_cases hq : q = i.toNatClampNeg
    · subst hq
      simp [updV, vu, va_rf]
    · simp [updV, vu, hq]
  rw [fm_set (T' := (T.1, T.2.1, T.2.2.1, vu T.2.2.2 a i.toNatClampNeg (some v))) (I' := I) (J' := J) ha rfl (fm_E_win hk) (fun b hb => fm_E_same rfl rfl (vu_ne hb) rfl rfl)] at hP2
  exact kk p e s m args below meth c R H1 _ cells slots ls hv h1 h2 ⟨hP2, by rw [z]; exact hH.2⟩ (hS.put z oq (Nat.le_add_right _ _)) hl

/-- a class whose objects can be made -/
def cf (ci N : Nat) (C : String) : Prop := ∃ (Tb : u_T) (ty : Nat → FieldType), vwCl[ci]? = some (C, Tb, N) ∧ ci < 13 ∧ (∀ w ∈ u_ws C Tb N, w ∈ WL) ∧ (∀ k, k < N → parseFieldDescriptor (Tb k).2.2.1 = some (ty k)) ∧ Cond.instantiable C N ∈ WL ∧ Cond.initialized C ∈ WL ∧ ∀ j, j < N → defaultValue (ty j) = vp_V (fm_fs 0 (fun _ => none) (fun _ => 0) (fun _ => 0) 0 (fm_ty ci)) j
theorem fm_fs_x0 (x0 : Nat) (ts : List Nat) : ∀ q : Nat, fm_fs x0 (fun _ => none) (fun _ => 0) (fun _ => 0) q ts = fm_fs 0 (fun _ => none) (fun _ => 0) (fun _ => 0) q ts := by
  induction ts with
  | nil => intro q; rfl
  | cons t r ih => intro q; simp only [fm_fs, ih]; congr 1
theorem s_new {idx ci N : Nat} {C : String} (hd : decode M.2.1 pc = .ok (.new idx, 3)) (hcl : Cond.classLink M.1.cls idx C ∈ WL) (hcf : cf ci N C) (kk : PW G x0 l M d Z k n (pc + 3) lv (.ref (x0 + T.1) :: st) (T.1 + 1, ku T.2.1 T.1 ci, ku T.2.2.1 T.1 0, vz T.2.2.2 T.1) (ia I T.1 (fun _ => 0)) (ja J T.1 (fun _ => 0))) : PW G x0 l M d Z (k + 1) (n + N) pc lv st T I J := by
  intro p e s m args below meth c R H locs cells slots ls hv h1 h2 hH hS hl
  obtain ⟨hx, hb, hr, hml, hnme, hown, hts, hlk, hK, hX, hx0, hfr, hlo⟩ := id hv
  obtain ⟨Tb, ty, hc, h13, hin, hty, hia, hii, hfs⟩ := hcf
  have hKn := hK.1 ci _ hc
  refine W.newcK hx hb hown (hts _ hcl) (hts _ hia) (hts _ hii) rfl hd (by omega) (by omega) hKn.2.1 hH.2 fun H1 kC hkC e1 z1 o1 => ?_
  have hH2 := fm_alloc (T' := (T.1 + 1, ku T.2.1 T.1 ci, ku T.2.2.1 T.1 0, vz T.2.2.2 T.1)) (I' := ia I T.1 (fun _ => 0)) (J' := ja J T.1 (fun _ => 0)) (e := .inr (ci, fm_fs x0 (fun _ => none) (fun _ => 0) (fun _ => 0) 0 (fm_ty ci))) hH o1 z1 ⟨_, hc, (u_born ty hts hin hKn hkC e1 hty).to (by rw [fm_fs_x0]; exact hfs)⟩ rfl (by rw [fm_E_obj ku_eq h13]; simp only [vz_eq, ia_eq, ja_eq]) (fun b hb => fm_E_same (ku_ne (by omega)) (ku_ne (by omega)) (vz_ne (by omega)) (ia_ne (by omega)) (ja_ne (by omega)))
  exact kk p e s m args below meth c R H1 locs (cells + 1) (slots + N) ls hv (by omega) (by omega) hH2 (fm_S_grow hS hH.2 o1 z1) hl
/-- System.arraycopy of ints -/
theorem s_copy {idx a0 a : Nat} {sp dp nn : Int32} (hd : decode M.2.1 pc = .ok (.invokestatic idx, 3)) (hw : Cond.methodLink M.1.cls idx arraycopyName ∈ WL) (ha0 : a0 < T.1) (hk0 : T.2.1 a0 = 13) (ha : a < T.1) (hk : T.2.1 a = 13) (g1 : ¬ sp < 0) (g2 : ¬ dp < 0) (g3 : ¬ nn < 0) (g4 : sp.toNatClampNeg + nn.toNatClampNeg ≤ T.2.2.1 a0) (g5 : dp.toNatClampNeg + nn.toNatClampNeg ≤ T.2.2.1 a) (hst : (st.map fun v => v.category).sum ≤ 8)
    (kk : PW G x0 l M (d + 1) Z k n (pc + 3) lv st T (ia I a (va_cpy (I a0) (I a) sp.toNatClampNeg dp.toNatClampNeg nn.toNatClampNeg)) J) : PW G x0 l M (d + 1) Z k n pc lv (.int nn :: .int dp :: .ref (x0 + a) :: .int sp :: .ref (x0 + a0) :: st) T I J := by
  intro p e s m args below meth c R H locs cells slots ls hv h1 h2 hH hS hl
  obtain ⟨hx, hb, hr, hml, hnme, hown, hts, hlk, hK, hX, hx0, hfr, hlo⟩ := id hv
  have he0 := fm_at (G := G) (x0 := x0) (I := I) (J := J) ha0 (fm_E_int hk0)
  have he := fm_at (G := G) (x0 := x0) (I := I) (J := J) ha (fm_E_int hk)
  have nz : ∀ z : Int32, ¬ z < 0 → z.toInt = (z.toNatClampNeg : Int) := by
    intro z hz
    have hz0 : (0 : Int) ≤ z.toInt := by
      have := Int32.not_lt.mp hz
      simpa using Int32.le_iff_toInt_le.mp this
    show z.toInt = ((z.toInt.toNat : Nat) : Int)
    omega
  intro T0 hT X
  have hc0 : H[x0 + a0]? = some (vp_cell G.2.1 (T.2.2.1 a0, .inl (I a0))) := hH.1 a0 _ he0
  have hc1 : H[x0 + a]? = some (vp_cell G.2.1 (T.2.2.1 a, .inl (I a))) := hH.1 a _ he
  obtain ⟨-, k0, hkk0, cm0, hkd0⟩ := (hK.2 0 _ rfl).1 (T.2.2.1 a0) (fun j => .int (I a0 j))
  obtain ⟨-, k1, hkk1, cm1, hkd1⟩ := (hK.2 0 _ rfl).1 (T.2.2.1 a) (fun j => .int (I a j))
  obtain ⟨vm', X', step⟩ := X.arraycopy hx hown (hts _ hw) (hts _ wV_arraycopyName) (hts _ wT_arraycopyName) (hts _ wN_J10) (src := x0 + a0) (dst := x0 + a) (cs := vp_cell G.2.1 (T.2.2.1 a0, .inl (I a0))) (cd := vp_cell G.2.1 (T.2.2.1 a, .inl (I a))) (srcPos := sp) (destPos := dp) (n := nn) (by rw [hT]; exact hc0) (by rw [hT]; exact hc1)
    (fun _ h => by cases h) (fun _ h => by cases h) (fun h => by cases h) (fun h => by cases h) hkk0 hkk1 hkd0 hkd1 (by rfl) g1 g2 g3
    (by rw [nz sp g1, nz nn g3]; show ¬ _ > ((arrV G.2.1 (T.2.2.1 a0) (fun j => .int (I a0 j))).slots.size : Int); rw [arrV_size]; omega)
    (by rw [nz dp g2, nz nn g3]; show ¬ _ > ((arrV G.2.1 (T.2.2.1 a) (fun j => .int (I a j))).slots.size : Int); rw [arrV_size]; omega)
    (fun vm₁ _ i hi => by
      have e0 : (vp_cell G.2.1 (T.2.2.1 a0, .inl (I a0))).slots.getD (sp.toNatClampNeg + i) .null = .int (I a0 (sp.toNatClampNeg + i)) := by
        show (arrV G.2.1 (T.2.2.1 a0) (fun j => .int (I a0 j))).slots.getD _ _ = _
        rw [Array.getD_eq_getD_getElem?, arrV_read _ _ (by omega)]
        rfl
      refine ⟨?_, ?_⟩
      · rw [e0]; rfl
      · rw [e0]; exact trivial)
    (g := F0 m pc ls (.int nn :: .int dp :: .ref (x0 + a) :: .int sp :: .ref (x0 + a0) :: st)) rfl (by rw [hml]; exact hl.1) (rest := st) rfl (by rw [hb]; exact hd) (by omega) (by show 2 * 0 + _ + (nativeFrameWords "java/lang/System" "arraycopy" 5 + 11) ≤ _; have hnw : nativeFrameWords "java/lang/System" "arraycopy" 5 = 7 := (by decide +kernel); rw [hnw]; omega)
  have e1 : copied (vp_cell G.2.1 (T.2.2.1 a0, .inl (I a0))) (vp_cell G.2.1 (T.2.2.1 a, .inl (I a))) sp dp nn = vp_cell G.2.1 (T.2.2.1 a, .inl (va_cpy (I a0) (I a) sp.toNatClampNeg dp.toNatClampNeg nn.toNatClampNeg)) := va_copied (fun z => .int z) G.2.1 G.2.1 (I a0) (I a) g4
  rw [e1] at X' step
  have hlt : x0 + a < H.size := (Array.getElem?_eq_some_iff.mp hc1).1
  generalize hce : vp_cell G.2.1 (T.2.2.1 a, .inl (va_cpy (I a0) (I a) sp.toNatClampNeg dp.toNatClampNeg nn.toNatClampNeg)) = cell at X' step
  have hheap : ((T0.setVm vm').setCell (x0 + a) cell).heap = H.setIfInBounds (x0 + a) cell := by rw [← hT]; rfl
  have oq : ∀ q : Nat, q ≠ x0 + a → (H.setIfInBounds (x0 + a) cell)[q]? = H[q]? := fun q hq => by simp [Array.getElem?_setIfInBounds, Ne.symm hq]
  have hP2 : va_P G.1 vwCl ((fm_W G x0 T I J).set a (x0 + a, .inl (G.2.1, T.2.2.1 a, .inl (va_cpy (I a0) (I a) sp.toNatClampNeg dp.toNatClampNeg nn.toNatClampNeg)))) (H.setIfInBounds (x0 + a) cell) := hH.1.set fm_D he (show (H.setIfInBounds (x0 + a) cell)[x0 + a]? = some _ by rw [hce]; simp [Array.getElem?_setIfInBounds, hlt]) oq
  rw [fm_set (T' := T) (I' := ia I a (va_cpy (I a0) (I a) sp.toNatClampNeg dp.toNatClampNeg nn.toNatClampNeg)) (J' := J) ha rfl (by rw [fm_E_int hk, ia_eq]) (fun b hb => fm_E_same rfl rfl rfl (ia_ne hb) rfl)] at hP2
  obtain ⟨t, a1, b1⟩ := kk p e s m args below meth c R _ _ cells slots ls hv h1 h2 ⟨hP2, by simp; exact hH.2⟩ ⟨by simp; exact hS.1, fun q y1 y2 => by
      rw [oq q (fun e => y2 (by rw [e]; exact Nat.le_add_right _ _))]
      exact hS.2.1 q y1 y2, fun q hq => by
      rcases List.mem_append.mp hq with h | h
      · exact hS.2.2 q h
      · obtain ⟨z, -, hz⟩ := List.mem_map.mp h
        rw [← hz]
        exact Nat.le_add_right _ _⟩ hl _ hheap X'
  exact ⟨t, step t a1, b1⟩
theorem s_max {idx : Nat} {x y : Int32} (hd : decode M.2.1 pc = .ok (.invokestatic idx, 3)) (hw : Cond.methodLink M.1.cls idx yJ9_max_7cf53 ∈ WL) (hst : (st.map fun v => v.category).sum ≤ 8) (kk : PW G x0 l M (d + 1) Z k n (pc + 3) lv (.int (if x < y then y else x) :: st) T I J) : PW G x0 l M (d + 1) Z k n pc lv (.int y :: .int x :: st) T I J := by
  intro p e s m args below meth c R H locs cells slots ls hv h1 h2 hH hS hl
  obtain ⟨hx, hb, hr, hml, hnme, hown, hts, hlk, hK, hX, hx0, hfr, hlo⟩ := id hv
  exact va_mmax hx hb (by rw [hml]; exact hl.1.symm) hown (hts _ hw) (hts _ wT_yJ9_max_7cf53) (hts _ wN_J9) (hts _ wC_max) (by omega) (by omega) (by omega) (by omega) hd (kk p e s m args below meth c R H locs cells slots ls hv h1 h2 hH hS hl)
theorem s_min {idx : Nat} {x y : Int32} (hd : decode M.2.1 pc = .ok (.invokestatic idx, 3)) (hw : Cond.methodLink M.1.cls idx yJ9_min_7cf53 ∈ WL) (hst : (st.map fun v => v.category).sum ≤ 8) (kk : PW G x0 l M (d + 1) Z k n (pc + 3) lv (.int (if x > y then y else x) :: st) T I J) : PW G x0 l M (d + 1) Z k n pc lv (.int y :: .int x :: st) T I J := by
  intro p e s m args below meth c R H locs cells slots ls hv h1 h2 hH hS hl
  obtain ⟨hx, hb, hr, hml, hnme, hown, hts, hlk, hK, hX, hx0, hfr, hlo⟩ := id hv
  exact va_mmin hx hb (by rw [hml]; exact hl.1.symm) hown (hts _ hw) (hts _ wT_yJ9_min_7cf53) (hts _ wN_J9) (hts _ wC_min) (by omega) (by omega) (by omega) (by omega) hd (kk p e s m args below meth c R H locs cells slots ls hv h1 h2 hH hS hl)
theorem s_objInit {idx a : Nat} (hd : decode M.2.1 pc = .ok (.invokespecial idx, 3)) (hw : Cond.methodLink M.1.cls idx objectInit ∈ WL) (hst : (st.map fun v => v.category).sum ≤ 8) (kk : PW G x0 l M (d + 1) Z k n (pc + 3) lv st T I J) : PW G x0 l M (d + 1) Z k n pc lv (.ref a :: st) T I J := by
  intro p e s m args below meth c R H locs cells slots ls hv h1 h2 hH hS hl
  obtain ⟨hx, hb, hr, hml, hnme, hown, hts, hlk, hK, hX, hx0, hfr, hlo⟩ := id hv
  exact W.objInit hx hb hown (hts _ hw) (hts _ wI_objectInit) (hts _ wC_objectInit) rfl (by rw [hml]; exact hl.1) rfl hd (by omega) (by show 2 * 0 + _ + 12 ≤ _; omega) (kk p e s m args below meth c R H locs cells slots ls hv h1 h2 hH hS hl)
/-- the static table of Joiner, and a word of it -/
theorem s_gets {idx : Nat} (hd : decode M.2.1 pc = .ok (.getstatic idx, 3)) (hw : Cond.fieldLink M.1.cls idx "PackedLists$Joiner" "TABLES" "[J" ∈ WL) (kk : PW G x0 l M d Z k n (pc + 3) lv (.ref G.2.2.2.2.2 :: st) T I J) : PW G x0 l M d Z k n pc lv st T I J := by
  intro p e s m args below meth c R H locs cells slots ls hv h1 h2 hH hS hl
  obtain ⟨hx, hb, hr, hml, hnme, hown, hts, hlk, hK, hX, hx0, hfr, hlo⟩ := id hv
  exact va_gets hx hb hX.2.1.1 hS hown (hts _ hw) (fun _ h => h) hd (kk p e s m args below meth c R H locs cells slots ls hv h1 h2 hH hS hl)
theorem s_tabld {i : Int32} (hd : decode M.2.1 pc = .ok (.laload, 1)) (hin : vp_in i 6) (kk : PW G x0 l M d Z k n (pc + 1) lv (.long (fm_tab i.toNatClampNeg) :: st) T I J) : PW G x0 l M d Z k n pc lv (.int i :: .ref G.2.2.2.2.2 :: st) T I J := fun p e s m args below meth c R H locs cells slots ls hv h1 h2 hH hS hl =>
  va_tl hv.1 hv.2.1 hv.2.2.2.2.2.2.2.2.2.1.2.1.2 hS hin rfl hd (kk p e s m args below meth c R H locs cells slots ls hv h1 h2 hH hS hl)
/-! returns -/
theorem fm_end {Q : Option Value → fT → fI → fJ → Prop} {s : State} {H : Heap} {locs : List Loc} {r : Option Value} (hH : fm_H G x0 T I J H) (hS : va_S (fm_A x0) s.heap H locs) (hq : Q r T I J) {args : Array Value} : ∀ t : State, t.heap = H → s.WarmedH t.vm → fm_Q G x0 Q args s (.returned r) t := fun t ht _ => ⟨⟨r, T, I, J, rfl, hq, by rw [ht]; exact hH⟩, hS.F ht⟩
theorem s_iret {Q : Option Value → fT → fI → fJ → Prop} {v : Int32} (hd : decode M.2.1 pc = .ok (.ireturn, 1)) (hr : M.2.2.2 = some .int) (hq : Q (some (.int v)) T I J) : PW G x0 l M d (ZM G x0 Q) k n pc lv [.int v] T I J := fun p e s m args below meth c R H locs cells slots ls hv h1 h2 hH hS hl =>
  W.widen (by omega) (by omega) (W.iret hv.1 hv.2.1 (hv.2.2.1.trans hr) (fm_end hH hS hq) hS.2.2 hd hv.2.2.2.2.2.2.2.1)
theorem s_zret {Q : Option Value → fT → fI → fJ → Prop} {v : Int32} (hd : decode M.2.1 pc = .ok (.ireturn, 1)) (hr : M.2.2.2 = some .boolean) (hz : v = 0 ∨ v = 1) (hq : Q (some (.int v)) T I J) : PW G x0 l M d (ZM G x0 Q) k n pc lv [.int v] T I J := fun p e s m args below meth c R H locs cells slots ls hv h1 h2 hH hS hl =>
  W.widen (by omega) (by omega) (W.zret hv.1 hv.2.1 (hv.2.2.1.trans hr) (by rcases hz with rfl | rfl <;> decide) (fm_end hH hS hq) hS.2.2 hd hv.2.2.2.2.2.2.2.1)
theorem s_lret {Q : Option Value → fT → fI → fJ → Prop} {v : Int64} (hd : decode M.2.1 pc = .ok (.lreturn, 1)) (hr : M.2.2.2 = some .long) (hq : Q (some (.long v)) T I J) : PW G x0 l M d (ZM G x0 Q) k n pc lv [.long v] T I J := fun p e s m args below meth c R H locs cells slots ls hv h1 h2 hH hS hl =>
  W.widen (by omega) (by omega) (W.lret hv.1 hv.2.1 (hv.2.2.1.trans hr) (fm_end hH hS hq) hS.2.2 hd hv.2.2.2.2.2.2.2.1)
theorem s_ret {Q : Option Value → fT → fI → fJ → Prop} (hd : decode M.2.1 pc = .ok (.return_, 1)) (hr : M.2.2.2 = none) (hq : Q none T I J) : PW G x0 l M d (ZM G x0 Q) k n pc lv [] T I J := fun p e s m args below meth c R H locs cells slots ls hv h1 h2 hH hS hl =>
  W.widen (by omega) (by omega) (W.vret hv.1 hv.2.1 (hv.2.2.1.trans hr) (fm_end hH hS hq) hS.2.2 hd hv.2.2.2.2.2.2.2.1)
theorem s_aret {Q : Option Value → fT → fI → fJ → Prop} {a : Nat} {nm : String} (hd : decode M.2.1 pc = .ok (.areturn, 1)) (hr : M.2.2.2 = some (.object nm)) (hq : Q (some (.ref a)) T I J) : PW G x0 l M d (ZM G x0 Q) k n pc lv [.ref a] T I J := fun p e s m args below meth c R H locs cells slots ls hv h1 h2 hH hS hl =>
  W.widen (by omega) (by omega) (W.aret hv.1 hv.2.1 (hv.2.2.1.trans hr) (Or.inl ⟨_, rfl⟩) (Or.inr ⟨_, rfl⟩) (fm_end hH hS hq) hS.2.2 hd hv.2.2.2.2.2.2.2.1)
/-! calls -/
def rts (r : Option Value) (st : List Value) : List Value := match r with
  | none => st
  | some v => v :: st
def fm_P (G : fG) (x0 : Nat) (args : List Value) (T : fT) (I : fI) (J : fJ) : Array Value → State → Prop := va_Pc args (fun U => fm_H G x0 T I J U.heap ∧ va_K G.1 vwCl (fm_tys G) U ∧ fm_X G.2.2.2.2.2 x0 U U.heap ∧ x0 ≤ U.heap.size)
abbrev fm_room (d k n : Nat) : Room := { frames := d, cells := k, slots := n, locals := 37 * d }
abbrev fm_ws (M : fM) : List Cond := Cond.code M.1 M.2.1 M.2.2.1 M.2.2.2 :: WL
theorem fq_met {args : List Value} {Q : Option Value → fT → fI → fJ → Prop} (hy : plainName M.1.cls = true) (hargs : (lg_sl args).length ≤ M.2.2.1) (h : PW G x0 l M d (ZM G x0 Q) k n 0 (lv_args 0 args) [] T I J) : Met l M.1 (fm_ws M) (fm_room d k n) (fm_P G x0 args T I J) (fm_Q G x0 Q) k n (fm_A x0) := by
  refine Met.ofW (cc := M.2.1) (maxL := M.2.2.1) (ret := M.2.2.2) hy rfl ?_
  intro p e s m args' below meth c s₁ B hml hv
  obtain ⟨rfl, hH, hK, hX, hx0⟩ := hv
  have hts := atoms_spec (ws := fm_ws M) B.pre
  have hown : s.vm.findClass M.1.cls = some m.cls := findClass_of_methodNamed B.named
  have hnm : meth.name = M.1.name := (name_of_methodNamed B.named B.method).1
  rw [lg_entry_eq]
  exact h p e s m _ below meth c _ s.heap [] 0 0 _ ⟨B.exec, B.bytes, B.returns, hml, hnm, hown, fun w hw => hts w (List.mem_cons_of_mem _ hw), B.notSynchronized, hK, hX, hx0, Nat.le_refl _, Nat.le_refl _⟩ (Nat.le_of_eq (Nat.zero_add _)) (Nat.le_of_eq (Nat.zero_add _)) hH va_S.rf (lv_entry args hargs)
theorem fm_blind {args : List Value} : FrameBlind (fm_P G x0 args T I J) := fun a U g mk q => ⟨q.1, q.2.1, va_K.moved (u := U) (U := U.calling g mk a) (Vm.Alike.refl U.vm) q.2.2.1, fm_X_vm (s := U) (U := U.calling g mk a) rfl q.2.2.2.1, q.2.2.2.2⟩
theorem fm_call {p : Program} {e : Env} {s : State} {m : MethodId} {args : Array Value} {below : List Frame} {meth : Method} {c : Code} {R : Room} {H : Heap} {locs : List Loc} {cells slots mc ms : Nat} {ls : Array Slot} {st0 : List Value} {a : Array Value} {Q' : Option Value → fT → fI → fJ → Prop} {Qz : State → Prop} (hr : va_Run p l e R s m args below meth c H locs cells slots mc ms (F0 m pc ls st0) st (fm_Q G x0 Q' a) (fm_A x0)) (hS : va_S (fm_A x0) s.heap H locs)
    (kk : ∀ (v : Option Value) (T1 : fT) (I1 : fI) (J1 : fJ) (H1 : Heap) (locs1 : List Loc), Q' v T1 I1 J1 → fm_H G x0 T1 I1 J1 H1 → va_S (fm_A x0) s.heap H1 locs1 → W p l e R s m args below meth c H1 locs1 (cells + mc) (slots + ms) Qz (F0 m (pc + 3) ls (rts v st))) : W p l e R s m args below meth c H locs cells slots Qz (F0 m pc ls st0) := by
  intro T0 hT X
  obtain ⟨v, st₀, t, T', L, h0, X', hL, e1, e2, ⟨⟨r, T1, I1, J1, hv, hq, hH⟩, hz, hk⟩, stp⟩ := hr T0 hT X
  cases hv
  rw [h0] at hz hk
  obtain ⟨t2, a1, b1⟩ := kk v T1 I1 J1 T'.heap (locs ++ L) hq (by rw [e1]; exact hH) ⟨Nat.le_trans hS.1 (by rw [e1]; exact hz), fun q h1 h2 => by rw [e1, hk q (Nat.lt_of_lt_of_le h1 hS.1) h2]; exact hS.2.1 q h1 h2, fun q hq => by
      rcases List.mem_append.mp hq with h | h
      · exact hS.2.2 q h
      · exact hL q h⟩ T' rfl X'
  refine ⟨t2, stp t2 ?_, b1⟩
  cases v <;> exact a1
/-- what a call site rests on -/
def cb (My : fM) (na : Nat) : Prop := Cond.initialized My.1.cls ∈ WL ∧ Cond.code My.1 My.2.1 My.2.2.1 My.2.2.2 ∈ WL ∧ My.1.cls ≠ "java/lang/invoke/MethodHandle" ∧ My.1.cls ≠ "java/lang/invoke/VarHandle" ∧ (parseMethodDescriptor My.1.desc).map (fun d => d.parameters.length) = some na ∧ plainName My.1.cls = true ∧ My.2.2.1 ≤ 18
def ci (My : fM) (c : Nat) : Prop := Cond.instanceMethod My.1 ∈ WL ∧ Cond.selects My.1.cls My.1 My.1 ∈ WL ∧ c < 13 ∧ ∃ (Tb : u_T) (N : Nat), vwCl[c]? = some (My.1.cls, Tb, N)
theorem fm_good {My : fM} {na : Nat} (h : cb My na) : GoodIn WL (fm_ws My) := by
  intro w hw
  rcases List.mem_cons.mp hw with rfl | hw
  · exact ⟨h.2.1, WL_good h.2.1⟩
  · exact ⟨hw, WL_good hw⟩
theorem s_callV {idx c b na k' n' : Nat} {My : fM} {As : List Value} (hd : decode M.2.1 pc = .ok (.invokevirtual idx, 3)) (hw : Cond.methodLink M.1.cls idx My.1 ∈ WL) (hc : cb My na) (hi : ci My c) (hb : b < T.1) (hk : T.2.1 b = c) (hna : As.length = na) (hst : (st.map fun v => v.category).sum ≤ 8) (hargs : (lg_sl (.ref (x0 + b) :: As)).length ≤ My.2.2.1)
    (h : PW G x0 l My d (ZM G x0 (fun r T I J => PW G x0 l M (d + 1) Z k n (pc + 3) lv (rts r st) T I J)) k' n' 0 (lv_args 0 (.ref (x0 + b) :: As)) [] T I J) : PW G x0 l M (d + 1) Z (k + k') (n + n') pc lv (As.reverse ++ .ref (x0 + b) :: st) T I J := by
  intro p e s m args below meth c0 R H locs cells slots ls hv h1 h2 hH hS hl
  obtain ⟨hx, hb0, hr, hml, hnme, hown, hts, hlk, hK, hX, hx0, hfr, hlo⟩ := id hv
  obtain ⟨hi1, hi2, h13, Tb, N, hcl⟩ := hi
  have hM := fq_met hc.2.2.2.2.2.1 hargs h
  have hcb : CallB R s args M.1.cls idx My.1 My.2.1 My.2.2.1 My.2.2.2 (fm_ws My) (fm_room d k' n') k' n' na := callB_of na hts (fm_good hc) rfl rfl rfl (hts _ hc.1) (hts _ hw) ⟨hc.2.2.1, hc.2.2.2.1, hc.2.2.2.2.1⟩ ⟨by show d + 1 ≤ _; omega, by have := hc.2.2.2.2.2.2; show 8 + (My.2.2.1 + 11) + 37 * d ≤ _; omega⟩
  refine fm_call (va_runV (As := As) (rest := st) ⟨hx, hb0, hml, hown, hts⟩ hM ⟨hcb, hts _ hi1, hts _ hi2⟩ ⟨fm_blind, va_recv hK hH.1 hcl (fm_at hb (fm_E_obj hk h13)), fun U hU hW => ⟨rfl, by rw [hU]; exact hH, va_K.moved hW.alike hK, ?_, ?_⟩⟩ rfl hna hl.1 rfl (lv_room hst) hd ⟨by omega, by omega⟩) hS (fun v T1 I1 J1 H1 locs1 hq hH1 hS1 => hq p e s m args below meth c0 R H1 locs1 _ _ ls hv (by omega) (by omega) hH1 hS1 hl)
  · rw [hU]; exact fm_X_warm hW (fun a g1 g2 => hS.2.1 a g1 g2) hX
  · rw [hU, hH.2]; exact Nat.le_add_right _ _
theorem s_callS {idx na k' n' : Nat} {My : fM} {As : List Value} (hd : decode M.2.1 pc = .ok (.invokestatic idx, 3)) (hw : Cond.methodLink M.1.cls idx My.1 ∈ WL) (hc : cb My na) (hs : Cond.static My.1 ∈ WL) (hna : As.length = na) (hst : (st.map fun v => v.category).sum ≤ 8) (hargs : (lg_sl As).length ≤ My.2.2.1)
    (h : PW G x0 l My d (ZM G x0 (fun r T I J => PW G x0 l M (d + 1) Z k n (pc + 3) lv (rts r st) T I J)) k' n' 0 (lv_args 0 As) [] T I J) : PW G x0 l M (d + 1) Z (k + k') (n + n') pc lv (As.reverse ++ st) T I J := by
  intro p e s m args below meth c0 R H locs cells slots ls hv h1 h2 hH hS hl
  obtain ⟨hx, hb0, hr, hml, hnme, hown, hts, hlk, hK, hX, hx0, hfr, hlo⟩ := id hv
  have hM := fq_met hc.2.2.2.2.2.1 hargs h
  have hcb : CallB R s args M.1.cls idx My.1 My.2.1 My.2.2.1 My.2.2.2 (fm_ws My) (fm_room d k' n') k' n' na := callB_of na hts (fm_good hc) rfl rfl rfl (hts _ hc.1) (hts _ hw) ⟨hc.2.2.1, hc.2.2.2.1, hc.2.2.2.2.1⟩ ⟨by show d + 1 ≤ _; omega, by have := hc.2.2.2.2.2.2; show 8 + (My.2.2.1 + 11) + 37 * d ≤ _; omega⟩
  refine fm_call (va_runS (As := As) (rest := st) ⟨hx, hb0, hml, hown, hts⟩ hM ⟨hcb, hts _ hs⟩ ⟨fm_blind, fun U hU hW => ⟨rfl, by rw [hU]; exact hH, va_K.moved hW.alike hK, ?_, ?_⟩⟩ rfl hna hl.1 rfl (lv_room hst) hd ⟨by omega, by omega⟩) hS (fun v T1 I1 J1 H1 locs1 hq hH1 hS1 => hq p e s m args below meth c0 R H1 locs1 _ _ ls hv (by omega) (by omega) hH1 hS1 hl)
  · rw [hU]; exact fm_X_warm hW (fun a g1 g2 => hS.2.1 a g1 g2) hX
  · rw [hU, hH.2]; exact Nat.le_add_right _ _
theorem s_callI {idx b na k' n' : Nat} {My : fM} {As : List Value} (hd : decode M.2.1 pc = .ok (.invokespecial idx, 3)) (hw : Cond.methodLink M.1.cls idx My.1 ∈ WL) (hc : cb My na) (hi : Cond.instanceMethod My.1 ∈ WL) (hnm : My.1.name = "<init>") (hrt : My.2.2.2 = none) (hna : As.length = na) (hst : (st.map fun v => v.category).sum ≤ 8) (hargs : (lg_sl (.ref (x0 + b) :: As)).length ≤ My.2.2.1)
    (h : PW G x0 l My d (ZM G x0 (fun r T I J => PW G x0 l M (d + 1) Z k n (pc + 3) lv (rts r st) T I J)) k' n' 0 (lv_args 0 (.ref (x0 + b) :: As)) [] T I J) : PW G x0 l M (d + 1) Z (k + k') (n + n') pc lv (As.reverse ++ .ref (x0 + b) :: st) T I J := by
  intro p e s m args below meth c0 R H locs cells slots ls hv h1 h2 hH hS hl
  obtain ⟨hx, hb0, hr, hml, hnme, hown, hts, hlk, hK, hX, hx0, hfr, hlo⟩ := id hv
  have hM := fq_met hc.2.2.2.2.2.1 hargs h
  have hcb : CallB R s args M.1.cls idx My.1 My.2.1 My.2.2.1 My.2.2.2 (fm_ws My) (fm_room d k' n') k' n' na := callB_of na hts (fm_good hc) rfl rfl rfl (hts _ hc.1) (hts _ hw) ⟨hc.2.2.1, hc.2.2.2.1, hc.2.2.2.2.1⟩ ⟨by show d + 1 ≤ _; omega, by have := hc.2.2.2.2.2.2; show 8 + (My.2.2.1 + 11) + 37 * d ≤ _; omega⟩
  rw [hrt] at hcb
  refine fm_call (va_runI (As := As) (rest := st) ⟨hx, hb0, hml, hown, hts⟩ hM ⟨hcb, hnm, hts _ hi⟩ ⟨fm_blind, fun U hU hW => ⟨rfl, by rw [hU]; exact hH, va_K.moved hW.alike hK, ?_, ?_⟩⟩ rfl hna hl.1 rfl (lv_room hst) hd ⟨by omega, by omega⟩) hS (fun v T1 I1 J1 H1 locs1 hq hH1 hS1 => hq p e s m args below meth c0 R H1 locs1 _ _ ls hv (by omega) (by omega) hH1 hS1 hl)
  · rw [hU]; exact fm_X_warm hW (fun a g1 g2 => hS.2.1 a g1 g2) hX
  · rw [hU, hH.2]; exact Nat.le_add_right _ _
theorem s_callIN {idx b na k' n' : Nat} {My : fM} {host : String} {As : List Value} (hd : decode M.2.1 pc = .ok (.invokespecial idx, 3)) (hw : Cond.methodLinkNest M.1.cls idx My.1 host ∈ fm_nest) (hc : cb My na) (hi : Cond.instanceMethod My.1 ∈ WL) (hnm : My.1.name = "<init>") (hrt : My.2.2.2 = none) (hna : As.length = na) (hst : (st.map fun v => v.category).sum ≤ 8) (hargs : (lg_sl (.ref (x0 + b) :: As)).length ≤ My.2.2.1)
    (h : PW G x0 l My d (ZM G x0 (fun r T I J => PW G x0 l M (d + 1) Z k n (pc + 3) lv (rts r st) T I J)) k' n' 0 (lv_args 0 (.ref (x0 + b) :: As)) [] T I J) : PW G x0 l M (d + 1) Z (k + k') (n + n') pc lv (As.reverse ++ .ref (x0 + b) :: st) T I J := by
  intro p e s m args below meth c0 R H locs cells slots ls hv h1 h2 hH hS hl
  obtain ⟨hx, hb0, hr, hml, hnme, hown, hts, hlk, hK, hX, hx0, hfr, hlo⟩ := id hv
  have hM := fq_met hc.2.2.2.2.2.1 hargs h
  have hcb : va_CN R s args M.1.cls idx My.1 host My.2.1 My.2.2.1 My.2.2.2 (fm_ws My) (fm_room d k' n') k' n' na := va_cnB na hts (fm_good hc) rfl rfl rfl (hX.1 _ hw) (hts _ hc.1) ⟨hc.2.2.1, hc.2.2.2.1, hc.2.2.2.2.1⟩ ⟨by show d + 1 ≤ _; omega, by have := hc.2.2.2.2.2.2; show 8 + (My.2.2.1 + 11) + 37 * d ≤ _; omega⟩
  rw [hrt] at hcb
  refine fm_call (va_runIN (As := As) (rest := st) ⟨hx, hb0, hml, hown, hts⟩ hM ⟨hcb, hnm, hts _ hi⟩ ⟨fm_blind, fun U hU hW => ⟨rfl, by rw [hU]; exact hH, va_K.moved hW.alike hK, ?_, ?_⟩⟩ rfl hna hl.1 rfl (lv_room hst) hd ⟨by omega, by omega⟩) hS (fun v T1 I1 J1 H1 locs1 hq hH1 hS1 => hq p e s m args below meth c0 R H1 locs1 _ _ ls hv (by omega) (by omega) hH1 hS1 hl)
  · rw [hU]; exact fm_X_warm hW (fun a g1 g2 => hS.2.1 a g1 g2) hX
  · rw [hU, hH.2]; exact Nat.le_add_right _ _
theorem s_callSN {idx na k' n' : Nat} {My : fM} {host : String} {As : List Value} (hd : decode M.2.1 pc = .ok (.invokestatic idx, 3)) (hw : Cond.methodLinkNest M.1.cls idx My.1 host ∈ fm_nest) (hc : cb My na) (hs : Cond.static My.1 ∈ WL) (hna : As.length = na) (hst : (st.map fun v => v.category).sum ≤ 8) (hargs : (lg_sl As).length ≤ My.2.2.1)
    (h : PW G x0 l My d (ZM G x0 (fun r T I J => PW G x0 l M (d + 1) Z k n (pc + 3) lv (rts r st) T I J)) k' n' 0 (lv_args 0 As) [] T I J) : PW G x0 l M (d + 1) Z (k + k') (n + n') pc lv (As.reverse ++ st) T I J := by
  intro p e s m args below meth c0 R H locs cells slots ls hv h1 h2 hH hS hl
  obtain ⟨hx, hb0, hr, hml, hnme, hown, hts, hlk, hK, hX, hx0, hfr, hlo⟩ := id hv
  have hM := fq_met hc.2.2.2.2.2.1 hargs h
  have hcb : va_CN R s args M.1.cls idx My.1 host My.2.1 My.2.2.1 My.2.2.2 (fm_ws My) (fm_room d k' n') k' n' na := va_cnB na hts (fm_good hc) rfl rfl rfl (hX.1 _ hw) (hts _ hc.1) ⟨hc.2.2.1, hc.2.2.2.1, hc.2.2.2.2.1⟩ ⟨by show d + 1 ≤ _; omega, by have := hc.2.2.2.2.2.2; show 8 + (My.2.2.1 + 11) + 37 * d ≤ _; omega⟩
  refine fm_call (va_runSN (As := As) (rest := st) ⟨hx, hb0, hml, hown, hts⟩ hM ⟨hcb, hts _ hs, trivial⟩ ⟨fm_blind, fun U hU hW => ⟨rfl, by rw [hU]; exact hH, va_K.moved hW.alike hK, ?_, ?_⟩⟩ rfl hna hl.1 rfl (lv_room hst) hd ⟨by omega, by omega⟩) hS (fun v T1 I1 J1 H1 locs1 hq hH1 hS1 => hq p e s m args below meth c0 R H1 locs1 _ _ ls hv (by omega) (by omega) hH1 hS1 hl)
  · rw [hU]; exact fm_X_warm hW (fun a g1 g2 => hS.2.1 a g1 g2) hX
  · rw [hU, hH.2]; exact Nat.le_add_right _ _
end FMC

