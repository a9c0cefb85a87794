/-! THE CLAIM OUT OF ONE WALK OF THE LAW'S BODY. Your part is whole_start (and what it stands on); all else here is the same for every law, but numbers. -/
def R_law : String := "PackedListsLaw"
def lw_P (b : Addr) (xs : List Int32) (args : Array Value) (s : State) : Prop := args = #[.ref b] ∧ s.IntsAt b xs ∧ xs.length ≤ 2560 ∧ (Jvm.Cond.and given_1 narrow_1).before args s = true
def lw_Q (_ : Array Value) (s : State) (o : Outcome) (t : State) : Prop := o = .returned (some (.int 1)) ∧ Framed s o t [] 600000 7302250
def lw_Z (below : List Frame) (a : Array Value) (s : State) : State → Prop := fun t => ∃ o, t.status = .running ∧ Ended t below o ∧ lw_Q a s o t
/-- the law's own end, with 1 on the stack, nothing written that was there before, its room as the claim has it -/
theorem lw_ret {p : Program} {l : Launch} {e : Env} {s : State} {m : MethodId} {below : List Frame} {meth : Method} {c : Code} {b : Nat} (hx : p.tables.exec = Jvm.exec) (hb : c.code = code) (hr : meth.sig.returnType = ret) (hlocks : meth.locks = false) {pc : Nat} {H : Heap} {ls : Array Slot} (hdg : decode code pc = .ok (.ireturn, 1)) : W p l e room_1 s m #[Value.ref b] below meth c H [] 600000 7302250 (lw_Z below #[Value.ref b] s) (F0 m pc ls [.int 1]) := by
  intro T hT X
  obtain ⟨fs, hret, hrun, hended, hW, hframe⟩ := X.leave (v := some (.int 1)) (hlocks := hlocks) (fun h => by rw [hr] at h; cases h)
  have hmeth' : T.vm.method? m = some meth := X.method'
  refine ⟨T.setFrames fs, ?_, .returned (some (.int 1)), hrun, hended, rfl, ⟨_, rfl⟩, hW, hframe⟩
  jvm_step X.here [X.here.top, hx, hb, hdg, hmeth', hr, ret, narrow_b1]
  (try refine ⟨rfl, ?_⟩); (try refine ⟨rfl, ?_⟩)
  first | (intro acts; rw [hret _ acts rfl rfl rfl]) | rw [hret _ _ rfl rfl rfl]
  exact Steps.refl _
/-- what holds at the law's entry: the machine, the code, the tables' words (any of lw_tbl by 'hts w (by decide +kernel)'), the script of L ints xs at the cell b, what the Statement gives of the start (any of its parts by flat_of_before) -/
def lw_At (p : Program) (s : State) (m : MethodId) (meth : Method) (c : Code) (b L : Nat) (xs : Nat → Int32) : Prop :=
  p.tables.exec = Jvm.exec ∧ c.code = code ∧ meth.sig.returnType = ret ∧ c.maxLocals = 4 ∧ s.vm.findClass R_law = some m.cls ∧ (∀ w ∈ lw_tbl, w.before #[Value.ref b] s = true) ∧ va_X b L xs s s.heap ∧ b < s.heap.size ∧ meth.locks = false ∧ (Jvm.Cond.and given_1 narrow_1).before #[Value.ref b] s = true
/-! the law's own rules: the script, the end -/
def mLaw (nm : String) : fM := (⟨RL, nm, "([I)Z"⟩, code, 4, ret)
def ZC (b L : Nat) (xs : Nat → Int32) (x0 : Nat) (s : State) (args : Array Value) (R : Room) : Prop := va_X b L xs s s.heap ∧ b < s.heap.size ∧ x0 = s.heap.size ∧ R = room_1 ∧ args = #[Value.ref b]
def ZL (b L : Nat) (xs : Nat → Int32) (x0 : Nat) : fZ := fun s args below R t => ZC b L xs x0 s args R → lw_Z below args s t
section
variable {G : fG} {x0 : Nat} {l : Launch} {d : Nat} {k n pc : Nat} {lv : List (Nat × Value)} {st : List Value} {T : fT} {I : fI} {J : fJ} {nm : String} {b L : Nat} {xs : Nat → Int32}
theorem s_slen (hd : decode code pc = .ok (.arraylength, 1)) (kk : PW G x0 l (mLaw nm) d (ZL b L xs x0) k n (pc + 1) lv (.int (zI (L : Int)) :: st) T I J) : PW G x0 l (mLaw nm) d (ZL b L xs x0) k n pc lv (.ref b :: st) T I J := by
  intro p e s m args below meth c R H locs cells slots ls hv h1 h2 hH hS hl
  by_cases hc : ZC b L xs x0 s args R
  · exact va_slen hv.1 hv.2.1 hc.1 hc.2.1 (fun h => by have := hc.2.1; have := hc.2.2.1; have h : x0 ≤ b := h; omega) hS hd (kk p e s m args below meth c R H locs cells slots ls hv h1 h2 hH hS hl)
  · exact fun T hT X => ⟨_, Steps.refl _, fun h => absurd h hc⟩
theorem s_sld {i : Int32} {j : Nat} (hd : decode code pc = .ok (.iaload, 1)) (hi : i = zI (j : Int)) (hj : j < L) (hL : L ≤ 2560) (kk : PW G x0 l (mLaw nm) d (ZL b L xs x0) k n (pc + 1) lv (.int (xs j) :: st) T I J) : PW G x0 l (mLaw nm) d (ZL b L xs x0) k n pc lv (.int i :: .ref b :: st) T I J := by
  intro p e s m args below meth c R H locs cells slots ls hv h1 h2 hH hS hl
  by_cases hc : ZC b L xs x0 s args R
  · subst hi
    refine va_sld hv.1 hv.2.1 hc.1 hc.2.1 (fun h => by have := hc.2.1; have := hc.2.2.1; have h : x0 ≤ b := h; omega) hS (z_in (by omega) (by omega) (by omega)) hd ?_
    rw [zI_n (by omega) (by omega), Int.toNat_natCast]
    exact kk p e s m args below meth c R H locs cells slots ls hv h1 h2 hH hS hl
  · exact fun T hT X => ⟨_, Steps.refl _, fun h => absurd h hc⟩
theorem s_lend (hd : decode code pc = .ok (.ireturn, 1)) : PW G x0 l (mLaw nm) d (ZL b L xs x0) k n pc lv [.int 1] T I J := by
  intro p e s m args below meth c R H locs cells slots ls hv h1 h2 hH hS hl
  by_cases hc : ZC b L xs x0 s args R
  · obtain ⟨c1, c2, c3, rfl, rfl⟩ := hc
    have h1' : cells + k ≤ 600000 := h1
    have h2' : slots + n ≤ 7302250 := h2
    have hw : W p l e room_1 s m #[Value.ref b] below meth c H locs cells slots (lw_Z below #[Value.ref b] s) (F0 m pc ls [.int 1]) := W.widen (by omega) (by omega) (va_forget (fun q hq => by have h := hS.2.2 q hq; have h : x0 ≤ q.base := h; omega) (lw_ret hv.1 hv.2.1 hv.2.2.1 hv.2.2.2.2.2.2.2.1 hd))
    exact fun T hT X => by
      obtain ⟨t, a1, a2⟩ := hw T hT X
      exact ⟨t, a1, fun _ => a2⟩
  · exact fun T hT X => ⟨_, Steps.refl _, fun h => absurd h hc⟩
end
theorem lg_self (x : Int64) : lg_cmp x x = 0 := by
  unfold lg_cmp
  rw [if_neg (by simp), if_pos rfl]
/-! what a call keeps -/
def Kpt (S S' : ASt) : Prop := SOk S' ∧ S'.2.2.1.2.1 ≤ S.2.2.1.2.1 + 1 ∧ S'.2.2.1.2.2 ≤ S.2.2.1.2.2 + 1 ∧ (S'.2.2.2.2 = none → S.2.2.2.2 = none)
theorem Kpt.of {S S' : ASt} (h : SOk S') (h2 : S'.2.2.1.2 = S.2.2.1.2) (h3 : S'.2.2.2.2 = none → S.2.2.2.2 = none) : Kpt S S' := ⟨h, by rw [h2]; omega, by rw [h2]; omega, h3⟩
theorem rAdd.st {S S' : ASt} {x y a : Int} (h : rAdd S x y a S') (hS : SOk S) : Kpt S S' := by
  have hk := h.ok hS
  rcases h with ⟨-, -, rfl⟩ | ⟨li, h1, -, h2, ⟨-, -, rfl⟩ | ⟨h3, ⟨-, -, rfl⟩ | ⟨h4, p, j, h5, h6, -, rfl⟩⟩⟩ <;> exact Kpt.of hk rfl (fun h => h)
theorem rRem.st {S S' : ASt} {x y a : Int} (h : rRem S x y a S') (hS : SOk S) : Kpt S S' := by
  have hk := h.ok hS
  rcases h with ⟨-, -, rfl⟩ | ⟨li, h1, -, h2, ⟨-, -, rfl⟩ | ⟨q, j, h3, h4, h5, -, rfl⟩⟩ <;> exact Kpt.of hk rfl (fun h => h)
theorem rPack.st {S S' : ASt} {x y a : Int} (h : rPack S x y a S') (hS : SOk S) : Kpt S S' := by
  have hk := h.ok hS
  rcases h with ⟨-, -, rfl⟩ | ⟨li, L', h1, -, h2, h3, -, rfl⟩ <;> exact Kpt.of hk rfl (fun h => h)
theorem rLoad.st {S S' : ASt} {x a : Int} (h : rLoad S x a S') (hS : SOk S) : Kpt S S' := by
  have hk := h.ok hS
  rcases h with ⟨-, -, rfl⟩ | ⟨li, r, h1, -, h2, ⟨-, -, rfl⟩ | ⟨h3, -, R, E, nb, h4, h5, h6, rfl⟩⟩ <;> exact Kpt.of hk rfl (fun h => h)
theorem rStore.st {S S' : ASt} {x a : Int} (h : rStore S x a S') (hS : SOk S) : Kpt S S' := by
  have hk := h.ok hS
  rcases h with ⟨-, -, rfl⟩ | ⟨li, h1, -, ⟨-, -, rfl⟩ | ⟨r, hr, ⟨-, -, rfl⟩ | ⟨h2, -, R, E, nb, h3, h4, h5, rfl⟩⟩⟩ <;> exact Kpt.of hk rfl (fun h => h)
theorem rClear.st {S S' : ASt} {x a : Int} (h : rClear S x a S') (hS : SOk S) : Kpt S S' := by
  have hk := h.ok hS
  rcases h with ⟨-, -, rfl⟩ | ⟨li, h1, -, -, rfl⟩ <;> exact Kpt.of hk rfl (fun h => h)
theorem rUndo.st {S S' : ASt} {a : Int} (h : rUndo S a S') (hS : SOk S) : Kpt S S' := by
  have hk := h.ok hS
  rcases h with ⟨-, -, rfl⟩ | ⟨li, L, H, h1, -, rfl⟩ <;> exact Kpt.of hk rfl (fun h => h)
theorem rType.st {S S' : ASt} {x a : Int} (h : rType S x a S') (hS : SOk S) : Kpt S S' := by
  have hk := h.ok hS
  rcases h with ⟨-, -, rfl⟩ | ⟨h1, ⟨-, -, rfl⟩ | ⟨h2, -, rfl⟩⟩ <;> exact Kpt.of hk rfl (fun h => h)
theorem rErase.st {S S' : ASt} {a : Int} (h : rErase S a S') (hS : SOk S) : Kpt S S' := by
  have hk := h.ok hS
  obtain ⟨-, rfl⟩ := h
  exact Kpt.of hk rfl (fun h => h)
theorem rQuery.st {S S' : ASt} {a : Int} (h : rQuery S a S') (hS : SOk S) : Kpt S S' := by
  have hk := h.ok hS
  rcases h with ⟨-, -, rfl⟩ | ⟨-, AL, TS, pr, h1, -, -, rfl⟩
  · exact Kpt.of hk rfl (fun h => h)
  · exact Kpt.of hk rfl (fun h => by cases h)
theorem rLook.cnt {C C' : List (Int × Int) × Nat × Nat} {e : Int × Int} (h : rLook C e C') : C'.2.1 ≤ C.2.1 + 1 ∧ C'.2.2 ≤ C.2.2 + 1 := by
  rcases h with ⟨p, -, rfl⟩ | ⟨-, rfl⟩
  · exact ⟨Nat.le_refl _, by show C.2.2 ≤ C.2.2 + 1; omega⟩
  · exact ⟨by show C.2.1 ≤ C.2.1 + 1; omega, Nat.le_refl _⟩
theorem rAt.st {S S' : ASt} {x y a : Int} (h : rAt S x y a S') (hS : SOk S) (h1 : S.2.2.1.2.1 ≤ 50000) (h2 : S.2.2.1.2.2 ≤ 50000) : Kpt S S' := by
  rcases h with ⟨-, -, rfl⟩ | ⟨li, q, j, C', g1, -, -, g2, -, g3, g4, rfl⟩
  · exact Kpt.of hS rfl (fun h => h)
  · have hc := g4.cnt
    have hj := g3.2.1
    exact ⟨hS.look g1 (by omega) g4 (by omega) (by omega), hc.1, hc.2, fun h => h⟩
theorem rFind.st {S S' : ASt} {x y z a : Int} (h : rFind S x y z a S') (hS : SOk S) (h1 : S.2.2.1.2.1 ≤ 50000) (h2 : S.2.2.1.2.2 ≤ 50000) : Kpt S S' := by
  rcases h with ⟨-, -, rfl⟩ | ⟨li, p, j, g1, -, -, -, g3, -, -, ⟨-, rfl⟩ | ⟨C', g4, g5, rfl⟩⟩
  · exact Kpt.of hS rfl (fun h => h)
  · exact Kpt.of hS rfl (fun h => h)
  · have hc := g5.cnt
    have hj := g3.1
    have hj2 := g3.2.1
    exact ⟨hS.look g1 (by omega) g5 (by omega) (by omega), hc.1, hc.2, fun h => h⟩
theorem ClsIs.c {T : fT} {I I' : fI} {S : ASt} (h : ClsIs T I S) (hf : frC I I') : ClsIs T I' S := h.fr (fun b hb => hf b (by omega)) (fun w hw => by rw [hf _ (by omega)])
/-- between two calls: both hold one state -/
def LI (T : fT) (I : fI) (S : ASt) (i : Nat) : Prop := ClsIs T I S ∧ MIs T I S ∧ SOk S ∧ (S.2.2.2.2 = none → T.1 = 162) ∧ S.2.2.1.2.1 ≤ i ∧ S.2.2.1.2.2 ≤ i
theorem LI.ro {T T' : fT} {I I1 I2 : fI} {S : ASt} {i : Nat} (h : LI T I S i) (hq : Tq T T') (h1 : fr I I1 roS) (h2 : frS I1 I2) : LI T' I2 S (i + 5) := ⟨(cls_ro h.1 hq h1).c h2.c, (h.2.1.m hq.m (frM.ro h1)).fr h2, h.2.2.1, fun e => by rw [hq.1]; exact h.2.2.2.1 e, by have := h.2.2.2.2.1; omega, by have := h.2.2.2.2.2; omega⟩
theorem LI.st {T T' : fT} {I I1 I2 : fI} {S S' : ASt} {i : Nat} (h : LI T I S i) (hs : Kpt S S') (hT : S'.2.2.2.2 = none → T'.1 = T.1) (hC : ClsIs T' I1 S') (hf : frC I1 I2) (hM : MIs T' I2 S') : LI T' I2 S' (i + 5) := ⟨hC.c hf, hM, hs.1, fun e => by rw [hT e]; exact h.2.2.2.1 (hs.2.2.2 e), by have := h.2.2.2.2.1; have := hs.2.1; omega, by have := h.2.2.2.2.2; have := hs.2.2.1; omega⟩
