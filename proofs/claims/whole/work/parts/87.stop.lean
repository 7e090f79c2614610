/-! ## the making of a Stop: its fields as a Throwable -/
theorem inGX9t : ∀ w ∈ u_ws RX9 TX9 8, w ∈ GT := fun w hw => GT_in (List.mem_append_right _ ((by decide +kernel : ∀ w ∈ u_ws RX9 TX9 8, w ∈ tables_1) w hw)) ((by decide +kernel : ∀ w ∈ u_ws RX9 TX9 8, goodWord w = true) w hw)
/-- the cell of the Stop with all its eight fields -/
def tE (G : Gm) (U : State) (H : Heap) : Prop := ∃ (sl : Nat → Nat) (V : Nat → Value), u_Kn U RX9 TX9 8 (G.2.1.1 9) sl ∧ (∀ j, j < 2 → sl (6 + j) = G.2.1.2 9 j) ∧ t_OB (G.1 + 112) (G.2.1.1 9) 8 sl H V
theorem tE.step {G : Gm} {s U : State} {H : Heap} (h : tE G s H) (hW : s.WarmedH U.vm) : tE G U H := by
  obtain ⟨sl, V, h1, h2, h3⟩ := h
  exact ⟨sl, V, u_Kn_moved hW.alike h1, h2, h3⟩
def kPe (G : Gm) (av : List Value) (M : Mm) : Array Value → State → Prop := fun a U => kPc G av M a U ∧ tE G U U.heap
def SpE (l : Launch) (G : Gm) (Y : MI) (av : List Value) (M : Mm) : Prop :=
  kx_Met l Y.1 (Y.word :: GT) Y.2.2.2.2 (kPe G av M) (kRR G (RetV M) noT) Y.2.2.2.2.cells Y.2.2.2.2.slots (fun q => G.1 ≤ q)
theorem kPe_blind (G : Gm) (av : List Value) (M : Mm) : FrameBlind (kPe G av M) := fun a U g mk h => ⟨kPc_blind G av M a U g mk h.1, h.2.step (State.WarmedH.refl U)⟩
theorem SpE.of {l : Launch} {G : Gm} {Y : MI} {av : List Value} {M : Mm} (hy : plainName Y.1.cls = true) (hl : (lg_sl av).length ≤ Y.2.2.1)
    (body : ∀ X : CX, X.l = l → Cx X G Y → ∀ ls, lvL ls Y.2.2.1 (argL av Y.2.2.1) → Rp G M X.s.heap → tE G X.s X.s.heap → XW X X.s.heap [] 0 0 (KQ X G Y (RetV M) noT) (F0 X.m 0 ls [])) : SpE l G Y av M := by
  refine kx_ofW (cc := Y.2.1) (maxL := Y.2.2.1) (ret := Y.2.2.2.1) hy rfl ?_
  intro p e s m args below meth c s₁ B hml hv
  obtain ⟨⟨rfl, hP, hK⟩, hE⟩ := hv
  have hts := atoms_spec (ws := Y.word :: GT) B.pre
  have := body (p, l, e, Y.2.2.2.2, s, m, av.toArray, below, meth, c) rfl ⟨B.exec, B.bytes, hml, findClass_of_methodNamed B.named, fun w hw => hts w (List.mem_cons_of_mem _ hw), hK, B.returns, B.notSynchronized, (name_of_methodNamed B.named B.method).1, rfl⟩ _ (lvL_entry av hl) hP hE
  rw [lg_entry_eq]
  exact this
theorem SpE.met {l : Launch} {G : Gm} {Y : MI} {av : List Value} {M : Mm} (h : SpE l G Y av M) : Met l Y.1 (Y.word :: GT) Y.2.2.2.2 (kPe G av M) (fun _ st o t => kRR G (RetV M) noT o st t) Y.2.2.2.2.cells Y.2.2.2.2.slots (fun q => G.1 ≤ q) :=
  kx_Met.met h (fun o st t h => by
    rcases h.1 with ⟨v, M', e, -⟩ | ⟨M', -, e, -⟩
    · exact ⟨v, e⟩
    · exact e.elim)
section SE
variable {X : CX} {G : Gm} {Y Y' : MI} {nL cells slots : Nat} {Q : State → Prop} {pc : Nat} {L st : List Value} {M : Mm}
/-- the constructor above it -/
theorem xe_call {idx na : Nat} {b : Nat} {As rest : List Value} {H : Heap} {locs : List Loc} {ls : Array Slot} (C : Cx X G Y) (d : decode Y.2.1 pc = .ok (.invokespecial idx, 3)) (cw : CW Y' na) (ci : Cond.instanceMethod Y'.1 ∈ GT) (hy : Y'.1.name = "<init>") (hret : Y'.2.2.2.1 = none) (ml : Cond.methodLink Y.1.cls idx Y'.1 ∈ GT) (hR : RMok Y Y') (hsp : SpE X.l G Y' (.ref b :: As) M) (hn : As.length = na) (hrest : (rest.map fun v => v.category).sum ≤ 8) (hnL : nL = Y.2.2.1) (hcs : cells + Y'.2.2.2.2.cells ≤ Y.2.2.2.2.cells ∧ slots + Y'.2.2.2.2.slots ≤ Y.2.2.2.2.slots) (st0 : List Value) (hst : st0 = As.reverse ++ .ref b :: rest)
    (h1 : Rp G M H) (h2 : va_S (fun q => G.1 ≤ q) X.s.heap H locs) (h3 : lvL ls nL L) (hE : tE G X.s H) (kk : Go X G nL (cells + Y'.2.2.2.2.cells) (slots + Y'.2.2.2.2.slots) Q (pc + 3) L rest M) : XW X H locs cells slots Q (F0 X.m pc ls st0) := by
  subst hst
  have hb := cx_callB C cw ml hR
  rw [hret] at hb
  refine go_run (P := RetV M) (va_runI (n := na) (b := b) (As := As) (rest := rest) (cx_fix C) hsp.met ⟨hb, hy, cx_w C ci⟩ ⟨kPe_blind G _ M, fun U hU hW => ⟨cx_pre C h1 h2 U hU hW, by rw [hU]; exact hE.step hW⟩⟩ rfl hn (by rw [← hnL]; exact h3.1) rfl (lv_room hrest) d (by rw [C.2.2.2.2.2.2.2.2.2]; exact hcs)) h2 h3 (fun v M' hp => ?_)
  obtain ⟨rfl, rfl⟩ := hp
  exact kk
/-- a field of the Throwable is written: what is tracked stays -/
theorem xe_put {k idx : Nat} {v : Value} {ty : FieldType} {H : Heap} {locs : List Loc} {ls : Array Slot} (C : Cx X G Y) (d : decode Y.2.1 pc = .ok (.putfield idx, 3)) (hk : k < 6) (hlk : Cond.fieldLink Y.1.cls idx (TX9 k).1 (TX9 k).2.1 (TX9 k).2.2.1 ∈ GT) (hfin : (TX9 k).2.2.2 = false) (hd : parseFieldDescriptor (TX9 k).2.2.1 = some ty) (hn : narrow ty v = v) (hfit : fits ty v = true) (ho : 112 < M.2.2.2)
    (h1 : Rp G M H) (h2 : va_S (fun q => G.1 ≤ q) X.s.heap H locs) (hE : tE G X.s H) (kk : ∀ (H1 : Heap) (locs1 : List Loc), Rp G M H1 → va_S (fun q => G.1 ≤ q) X.s.heap H1 locs1 → tE G X.s H1 → XW X H1 locs1 cells slots Q (F0 X.m (pc + 3) ls st)) : XW X H locs cells slots Q (F0 X.m pc ls (v :: .ref (G.1 + 112) :: st)) := by
  obtain ⟨sl, V, hKn, hsl9, cell, q1, q2, q3, q4⟩ := hE
  have hts : ∀ w ∈ GT, w.before X.args X.s = true := C.2.2.2.2.1
  let D9 : va_G := (fun _ => G.2.1.1 9, fun _ => sl)
  have hK9 : va_K D9 [(RX9, TX9, 8)] [] X.s := ⟨fun c q hc => by
    have hc0 : c < 1 := (List.getElem?_eq_some_iff.mp hc).1
    rw [show c = 0 by omega] at hc
    cases hc
    exact hKn, fun k q hk => by cases hk⟩
  have hap := va_apart (own := Y.1.cls) (ci := 0) hts inGX9t tyX9 tyX9_ok nmX9 hK9 rfl
  obtain ⟨hS, hfc, kC, hkC, hkind⟩ := hKn
  obtain ⟨cf, kf, fi, f, hi, hsl⟩ := hS k (by omega)
  have hlay := hts _ (inGX9t _ (u_in_lay (k := k) (by omega)))
  unfold u_lay at hlay
  rw [if_neg (by rw [hfin]; decide)] at hlay
  have hst := (u_facts hfc hkC (u_lays hts inGX9t (k := k) (by omega)) hi).1
  have h6 := u_store hfc hkC hkind hlay hi hd hn hfit
  refine W.putK C.1 C.2.1 (f := f) ⟨C.2.2.2.1, cx_w C hlk, ⟨_, _, _, hi⟩, hst⟩ (by rw [q2]; exact h6) q1 q3 (by rw [hsl]; exact k2_hasslot (q4 k (by omega))) (g := F0 X.m pc ls (v :: .ref (G.1 + 112) :: st)) rfl rfl d fun H' e1 e2 e3 => ?_
  rw [hsl] at e1 ⊢
  have ht9 : t_OB (G.1 + 112) (G.2.1.1 9) 8 sl H' (updV V k v) := ⟨_, e1, q2, q3, t_set q4 hap (by omega) v⟩
  refine kk H' _ ?_ (h2.put e2 e3 (show G.1 ≤ G.1 + 112 by omega)) ⟨sl, _, ⟨hS, hfc, kC, hkC, hkind⟩, hsl9, ht9⟩
  obtain ⟨a1, a2, a3, a4⟩ := h1
  refine ⟨fun i x hx => ?_, by rw [e2]; exact a2, fun q => by rw [e2]; exact a3 q, a4⟩
  have hi2 : i < M.2.2.2 := by have := (List.getElem?_eq_some_iff.mp hx).1; rwa [wsM_len] at this
  by_cases e112 : i = 112
  · subst e112
    have hx2 := hx
    rw [wsM_obj ly_112 ho] at hx2
    cases hx2
    obtain ⟨r, hr, cell2, g1, g2, g3, g4⟩ := a1 112 _ (wsM_obj ly_112 ho)
    have hr2 : r = (RX9, TS9, 2) := Option.some.inj (hr.symm.trans rfl)
    subst hr2
    cases Option.some.inj (g1.symm.trans q1)
    obtain ⟨cell3, f1, f2, f3, f4⟩ := ht9
    refine ⟨_, hr, cell3, f1, f2, f3, fun j hj => ?_⟩
    have hj2 : j < 2 := hj
    have w1 := f4 (6 + j) (by omega)
    have w2 := q4 (6 + j) (by omega)
    have w3 := g4 j hj
    have e6 : updV V k v (6 + j) = V (6 + j) := by unfold updV; rw [if_neg (by omega)]
    rw [e6, hsl9 j hj2] at w1
    rw [hsl9 j hj2] at w2
    rw [w1, ← w2]
    exact w3
  · rw [wsM_get hi2] at hx
    cases hx
    exact (a1 i _ (wsM_get hi2)).kept (e3 _ (show G.1 + i ≠ G.1 + 112 by omega))
end SE
