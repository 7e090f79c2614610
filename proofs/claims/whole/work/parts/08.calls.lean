section RC
variable {X : CX} {G : Gm} {Y Y' : MI} {nL cells slots : Nat} {Q : State → Prop} {pc : Nat} {L st : List Value} {M M1 : Mm} {P P' : Option Value → Mm → Prop} {T : Mm → Prop}
/-! ## ends -/
theorem g_iret {v : Int32} (C : Cx X G Y) (d : decode Y.2.1 pc = .ok (.ireturn, 1)) (hr : Y.2.2.2.1 = some .int) (hc : cells = Y.2.2.2.2.cells) (hs : slots = Y.2.2.2.2.slots) (hP : P (some (.int v)) M) : Go X G nL cells slots (KQ X G Y P T) pc L [.int v] M := fun H locs ls h1 h2 h3 => by
  subst hc; subst hs
  have k := W.iret (Qc := fun _ st o t => kRR G P T o st t) (free := fun q => G.1 ≤ q) (cells := Y.2.2.2.2.cells) (slots := Y.2.2.2.2.slots) (p := X.p) (l := X.l) (e := X.e) (R := X.R) (m := X.m) (args := X.args) (below := X.below) (ls := ls) C.1 C.2.1 (C.2.2.2.2.2.2.1.trans hr) (fun t ht hW => ⟨Or.inl ⟨_, M, rfl, hP, by rw [ht]; exact h1⟩, h2.F ht⟩) h2.2.2 d C.2.2.2.2.2.2.2.1
  intro T' hT Xs
  obtain ⟨t, a, b⟩ := k T' hT Xs
  exact ⟨t, a, kx_ofMQ b⟩
theorem g_zret {v : Int32} (C : Cx X G Y) (d : decode Y.2.1 pc = .ok (.ireturn, 1)) (hr : Y.2.2.2.1 = some .boolean) (hc : cells = Y.2.2.2.2.cells) (hs : slots = Y.2.2.2.2.slots) (hn : narrow .boolean (.int v) = .int v) (hP : P (some (.int v)) M) : Go X G nL cells slots (KQ X G Y P T) pc L [.int v] M := fun H locs ls h1 h2 h3 => by
  subst hc; subst hs
  have k := W.zret (Qc := fun _ st o t => kRR G P T o st t) (free := fun q => G.1 ≤ q) (cells := Y.2.2.2.2.cells) (slots := Y.2.2.2.2.slots) (p := X.p) (l := X.l) (e := X.e) (R := X.R) (m := X.m) (args := X.args) (below := X.below) (ls := ls) C.1 C.2.1 (C.2.2.2.2.2.2.1.trans hr) hn (fun t ht hW => ⟨Or.inl ⟨_, M, rfl, hP, by rw [ht]; exact h1⟩, h2.F ht⟩) h2.2.2 d C.2.2.2.2.2.2.2.1
  intro T' hT Xs
  obtain ⟨t, a, b⟩ := k T' hT Xs
  exact ⟨t, a, kx_ofMQ b⟩
theorem g_vret (C : Cx X G Y) (d : decode Y.2.1 pc = .ok (.return_, 1)) (hr : Y.2.2.2.1 = none) (hc : cells = Y.2.2.2.2.cells) (hs : slots = Y.2.2.2.2.slots) (hP : P none M) : Go X G nL cells slots (KQ X G Y P T) pc L [] M := fun H locs ls h1 h2 h3 => by
  subst hc; subst hs
  have k := W.vret (Qc := fun _ st o t => kRR G P T o st t) (free := fun q => G.1 ≤ q) (cells := Y.2.2.2.2.cells) (slots := Y.2.2.2.2.slots) (p := X.p) (l := X.l) (e := X.e) (R := X.R) (m := X.m) (args := X.args) (below := X.below) (ls := ls) C.1 C.2.1 (C.2.2.2.2.2.2.1.trans hr) (fun t ht hW => ⟨Or.inl ⟨_, M, rfl, hP, by rw [ht]; exact h1⟩, h2.F ht⟩) h2.2.2 d C.2.2.2.2.2.2.2.1
  intro T' hT Xs
  obtain ⟨t, a, b⟩ := k T' hT Xs
  exact ⟨t, a, kx_ofMQ b⟩
theorem g_lret {v : Int64} (C : Cx X G Y) (d : decode Y.2.1 pc = .ok (.lreturn, 1)) (hr : Y.2.2.2.1 = some .long) (hc : cells = Y.2.2.2.2.cells) (hs : slots = Y.2.2.2.2.slots) (hP : P (some (.long v)) M) : Go X G nL cells slots (KQ X G Y P T) pc L [.long v] M := fun H locs ls h1 h2 h3 => by
  subst hc; subst hs
  have k := W.lret (Qc := fun _ st o t => kRR G P T o st t) (free := fun q => G.1 ≤ q) (cells := Y.2.2.2.2.cells) (slots := Y.2.2.2.2.slots) (p := X.p) (l := X.l) (e := X.e) (R := X.R) (m := X.m) (args := X.args) (below := X.below) (ls := ls) C.1 C.2.1 (C.2.2.2.2.2.2.1.trans hr) (fun t ht hW => ⟨Or.inl ⟨_, M, rfl, hP, by rw [ht]; exact h1⟩, h2.F ht⟩) h2.2.2 d C.2.2.2.2.2.2.2.1
  intro T' hT Xs
  obtain ⟨t, a, b⟩ := k T' hT Xs
  exact ⟨t, a, kx_ofMQ b⟩
theorem g_aret {q : Nat} {ty : String} (C : Cx X G Y) (d : decode Y.2.1 pc = .ok (.areturn, 1)) (hr : Y.2.2.2.1 = some (.object ty)) (hc : cells = Y.2.2.2.2.cells) (hs : slots = Y.2.2.2.2.slots) (hP : P (some (.ref q)) M) : Go X G nL cells slots (KQ X G Y P T) pc L [.ref q] M := fun H locs ls h1 h2 h3 => by
  subst hc; subst hs
  have k := W.aret (Qc := fun _ st o t => kRR G P T o st t) (free := fun q => G.1 ≤ q) (cells := Y.2.2.2.2.cells) (slots := Y.2.2.2.2.slots) (p := X.p) (l := X.l) (e := X.e) (R := X.R) (m := X.m) (args := X.args) (below := X.below) (ls := ls) (v := .ref q) C.1 C.2.1 (C.2.2.2.2.2.2.1.trans hr) (Or.inl ⟨_, rfl⟩) (Or.inr ⟨_, rfl⟩) (fun t ht hW => ⟨Or.inl ⟨_, M, rfl, hP, by rw [ht]; exact h1⟩, h2.F ht⟩) h2.2.2 d C.2.2.2.2.2.2.2.1
  intro T' hT Xs
  obtain ⟨t, a, b⟩ := k T' hT Xs
  exact ⟨t, a, kx_ofMQ b⟩
/-! ## calls that come back -/
abbrev noT : Mm → Prop := fun _ => False
theorem Sp.met {l : Launch} {av : List Value} (h : Sp l G Y' av M P noT) : Met l Y'.1 (Y'.word :: GT) Y'.2.2.2.2 (kPc G av M) (fun _ st o t => kRR G P noT o st t) Y'.2.2.2.2.cells Y'.2.2.2.2.slots (fun q => G.1 ≤ q) :=
  kx_Met.met h (fun o st t h => by
    rcases h.1 with ⟨v, M', e, -⟩ | ⟨M', -, e, -⟩
    · exact ⟨v, e⟩
    · exact e.elim)
theorem Sp.mono {l : Launch} {av : List Value} (h : Sp l G Y' av M P T) (hp : ∀ v M', P v M' → P' v M') : Sp l G Y' av M P' T := by
  intro p e ha hc hk s m args below hf happ hP hK
  obtain ⟨n, o, h1, h2, h3, h4, h5⟩ := h p e ha hc hk s m args below hf happ hP hK
  refine ⟨n, o, h1, h2, h3, ⟨?_, h4.2⟩, h5⟩
  rcases h4.1 with ⟨v, M', e, hpp, hR⟩ | h
  · exact Or.inl ⟨v, M', e, hp v M' hpp, hR⟩
  · exact Or.inr h
theorem go_S {H : Heap} {locs L1 : List Loc} {st₀ t T' : State} (h2 : va_S (fun q => G.1 ≤ q) X.s.heap H locs) (g0 : st₀.heap = H) (e1 : T'.heap = t.heap) (gL : ∀ q ∈ L1, G.1 ≤ q.base) (hF : va_F (fun q => G.1 ≤ q) st₀ t) : va_S (fun q => G.1 ≤ q) X.s.heap T'.heap (locs ++ L1) := by
  obtain ⟨f1, f2⟩ := hF
  rw [g0] at f1 f2
  exact ⟨Nat.le_trans h2.1 (by rw [e1]; exact f1), fun q h5 h6 => by rw [e1, f2 q (Nat.lt_of_lt_of_le h5 h2.1) h6]; exact h2.2.1 q h5 h6, fun z hz => (List.mem_append.mp hz).elim (h2.2.2 z) (gL z)⟩
theorem go_run {H : Heap} {locs : List Loc} {ls : Array Slot} {mc ms : Nat} {st0 rest : List Value} (hr : va_Run X.p X.l X.e X.R X.s X.m X.args X.below X.meth X.c H locs cells slots mc ms (F0 X.m pc ls st0) rest (fun st o t => kRR G P noT o st t) (fun q => G.1 ≤ q)) (h2 : va_S (fun q => G.1 ≤ q) X.s.heap H locs) (h3 : lvL ls nL L)
    (kk : ∀ v M', P v M' → Go X G nL (cells + mc) (slots + ms) Q (pc + 3) L (v.toList ++ rest) M') : XW X H locs cells slots Q (F0 X.m pc ls st0) := by
  intro T' hT Xs
  obtain ⟨v, st₀, t, T2, L1, g0, X', gL, e1, e2, ⟨hrr, hF⟩, hgo⟩ := hr T' hT Xs
  rcases hrr with ⟨v', M', ev, hp, hR⟩ | ⟨_, ev, _⟩
  · cases ev
    obtain ⟨t2, a1, b1⟩ := kk v M' hp T2.heap (locs ++ L1) ls (by rw [e1]; exact hR) (go_S h2 g0 e1 gL hF) h3 T2 rfl X'
    exact ⟨t2, hgo t2 a1, b1⟩
  · cases ev
/-- the words of a callee -/
def CW (Y' : MI) (na : Nat) : Prop := Y'.word ∈ GT ∧ Cond.initialized Y'.1.cls ∈ GT ∧ (Y'.1.cls ≠ "java/lang/invoke/MethodHandle" ∧ Y'.1.cls ≠ "java/lang/invoke/VarHandle") ∧ (parseMethodDescriptor Y'.1.desc).map (fun d => d.parameters.length) = some na
def VW (Y' : MI) (na : Nat) : Prop := CW Y' na ∧ Cond.instanceMethod Y'.1 ∈ GT ∧ Cond.selects Y'.1.cls Y'.1 Y'.1 ∈ GT
def SW (Y' : MI) (na : Nat) : Prop := CW Y' na ∧ Cond.static Y'.1 ∈ GT
/-- the callee's room in the caller's -/
def RMok (Y Y' : MI) : Prop := Y'.2.2.2.2.frames + 1 ≤ Y.2.2.2.2.frames ∧ 8 + (Y'.2.2.1 + 11) + Y'.2.2.2.2.locals ≤ Y.2.2.2.2.locals
theorem cx_w (C : Cx X G Y) {w : Cond} (h : w ∈ GT) : w.before X.args X.s = true := C.2.2.2.2.1 _ h
theorem cx_callB {idx na : Nat} (C : Cx X G Y) (cw : CW Y' na) (ml : Cond.methodLink Y.1.cls idx Y'.1 ∈ GT) (hR : RMok Y Y') : CallB X.R X.s X.args Y.1.cls idx Y'.1 Y'.2.1 Y'.2.2.1 Y'.2.2.2.1 (Y'.word :: GT) Y'.2.2.2.2 Y'.2.2.2.2.cells Y'.2.2.2.2.slots na :=
  callB_of na C.2.2.2.2.1 (GT_sub0 cw.1) rfl rfl rfl (cx_w C cw.2.1) (cx_w C ml) ⟨cw.2.2.1.1, cw.2.2.1.2, cw.2.2.2⟩ (by rw [C.2.2.2.2.2.2.2.2.2]; exact hR)
theorem cx_fix (C : Cx X G Y) : CallFix X.p X.m X.c Y.2.1 Y.2.2.1 X.s X.args GT Y.1.cls := ⟨C.1, C.2.1, C.2.2.1, C.2.2.2.1, C.2.2.2.2.1⟩
theorem cx_pre {H : Heap} {locs : List Loc} {av : List Value} (C : Cx X G Y) (h1 : Rp G M H) (h2 : va_S (fun q => G.1 ≤ q) X.s.heap H locs) : ∀ U : State, U.heap = H → X.s.WarmedH U.vm → kPc G av M av.toArray U := fun U hU hW => ⟨rfl, by rw [hU]; exact h1, C.2.2.2.2.2.1.step hW h2 hU⟩
theorem g_callV {idx na o ci : Nat} {TT : u_T} {N : Nat} {As rest : List Value} (C : Cx X G Y) (d : decode Y.2.1 pc = .ok (.invokevirtual idx, 3)) (cw : VW Y' na) (ml : Cond.methodLink Y.1.cls idx Y'.1 ∈ GT) (hR : RMok Y Y') (hc : kCl[ci]? = some (Y'.1.cls, TT, N)) (hl : lay o = (0, ci)) (ho : o < M.2.2.2) (hsp : Sp X.l G Y' (.ref (G.1 + o) :: As) M P noT) (hn : As.length = na) (hrest : (rest.map fun v => v.category).sum ≤ 8) (hnL : nL = Y.2.2.1) (hcs : cells + Y'.2.2.2.2.cells ≤ Y.2.2.2.2.cells ∧ slots + Y'.2.2.2.2.slots ≤ Y.2.2.2.2.slots) (st0 : List Value) (hst : st0 = As.reverse ++ .ref (G.1 + o) :: rest)
    (kk : ∀ v M', P v M' → Go X G nL (cells + Y'.2.2.2.2.cells) (slots + Y'.2.2.2.2.slots) Q (pc + 3) L (v.toList ++ rest) M') : Go X G nL cells slots Q pc L st0 M := fun H locs ls h1 h2 h3 => by
  subst hst
  refine go_run (va_runV (C := Y'.1.cls) (n := na) (b := G.1 + o) (As := As) (rest := rest) (cx_fix C) hsp.met ⟨cx_callB C cw.1 ml hR, cx_w C cw.2.1, cx_w C cw.2.2⟩ ⟨kPc_blind G _ M, va_recv C.2.2.2.2.2.1.1 h1.1 hc (wsM_obj hl ho), cx_pre C h1 h2⟩ rfl hn (by rw [← hnL]; exact h3.1) rfl (lv_room hrest) d (by rw [C.2.2.2.2.2.2.2.2.2]; exact hcs)) h2 h3 kk
theorem g_callS {idx na : Nat} {As rest : List Value} (C : Cx X G Y) (d : decode Y.2.1 pc = .ok (.invokestatic idx, 3)) (cw : SW Y' na) (ml : Cond.methodLink Y.1.cls idx Y'.1 ∈ GT) (hR : RMok Y Y') (hsp : Sp X.l G Y' As M P noT) (hn : As.length = na) (hrest : (rest.map fun v => v.category).sum ≤ 8) (hnL : nL = Y.2.2.1) (hcs : cells + Y'.2.2.2.2.cells ≤ Y.2.2.2.2.cells ∧ slots + Y'.2.2.2.2.slots ≤ Y.2.2.2.2.slots) (st0 : List Value) (hst : st0 = As.reverse ++ rest)
    (kk : ∀ v M', P v M' → Go X G nL (cells + Y'.2.2.2.2.cells) (slots + Y'.2.2.2.2.slots) Q (pc + 3) L (v.toList ++ rest) M') : Go X G nL cells slots Q pc L st0 M := fun H locs ls h1 h2 h3 => by
  subst hst
  refine go_run (va_runS (n := na) (As := As) (rest := rest) (cx_fix C) hsp.met ⟨cx_callB C cw.1 ml hR, cx_w C cw.2⟩ ⟨kPc_blind G _ M, cx_pre C h1 h2⟩ rfl hn (by rw [← hnL]; exact h3.1) rfl (lv_room hrest) d (by rw [C.2.2.2.2.2.2.2.2.2]; exact hcs)) h2 h3 kk
/-- a private static method of the host, called by a nest mate -/
theorem g_callSN {idx na : Nat} {As rest : List Value} (C : Cx X G Y) (d : decode Y.2.1 pc = .ok (.invokestatic idx, 3)) (cw : SW Y' na) (ml : (Y.1.cls, idx, Y'.1) ∈ nwM) (hR : RMok Y Y') (hsp : Sp X.l G Y' As M P noT) (hn : As.length = na) (hrest : (rest.map fun v => v.category).sum ≤ 8) (hnL : nL = Y.2.2.1) (hcs : cells + Y'.2.2.2.2.cells ≤ Y.2.2.2.2.cells ∧ slots + Y'.2.2.2.2.slots ≤ Y.2.2.2.2.slots) (st0 : List Value) (hst : st0 = As.reverse ++ rest)
    (kk : ∀ v M', P v M' → Go X G nL (cells + Y'.2.2.2.2.cells) (slots + Y'.2.2.2.2.slots) Q (pc + 3) L (v.toList ++ rest) M') : Go X G nL cells slots Q pc L st0 M := fun H locs ls h1 h2 h3 => by
  subst hst
  refine go_run (va_runSN (host := RX8) (n := na) (As := As) (rest := rest) (cx_fix C) hsp.met ⟨va_cnB na C.2.2.2.2.1 (GT_sub0 cw.1.1) rfl rfl rfl (C.2.2.2.2.2.1.2.1 _ ml) (cx_w C cw.1.2.1) ⟨cw.1.2.2.1.1, cw.1.2.2.1.2, cw.1.2.2.2⟩ (by rw [C.2.2.2.2.2.2.2.2.2]; exact hR), cx_w C cw.2, trivial⟩ ⟨kPc_blind G _ M, cx_pre C h1 h2⟩ rfl hn (by rw [← hnL]; exact h3.1) rfl (lv_room hrest) d (by rw [C.2.2.2.2.2.2.2.2.2]; exact hcs)) h2 h3 kk
theorem g_callI {idx na : Nat} {b : Nat} {As rest : List Value} (C : Cx X G Y) (d : decode Y.2.1 pc = .ok (.invokespecial idx, 3)) (cw : CW Y' na) (ci : Cond.instanceMethod Y'.1 ∈ GT) (hy : Y'.1.name = "<init>") (hret : Y'.2.2.2.1 = none) (ml : Cond.methodLink Y.1.cls idx Y'.1 ∈ GT) (hR : RMok Y Y') (hsp : Sp X.l G Y' (.ref b :: As) M P noT) (hn : As.length = na) (hrest : (rest.map fun v => v.category).sum ≤ 8) (hnL : nL = Y.2.2.1) (hcs : cells + Y'.2.2.2.2.cells ≤ Y.2.2.2.2.cells ∧ slots + Y'.2.2.2.2.slots ≤ Y.2.2.2.2.slots) (st0 : List Value) (hst : st0 = As.reverse ++ .ref b :: rest)
    (kk : ∀ v M', P v M' → Go X G nL (cells + Y'.2.2.2.2.cells) (slots + Y'.2.2.2.2.slots) Q (pc + 3) L (v.toList ++ rest) M') : Go X G nL cells slots Q pc L st0 M := fun H locs ls h1 h2 h3 => by
  subst hst
  have hb := cx_callB C cw ml hR
  rw [hret] at hb
  have hm := hsp.met
  refine go_run (va_runI (n := na) (b := b) (As := As) (rest := rest) (cx_fix C) hm ⟨hb, hy, cx_w C ci⟩ ⟨kPc_blind G _ M, cx_pre C h1 h2⟩ rfl hn (by rw [← hnL]; exact h3.1) rfl (lv_room hrest) d (by rw [C.2.2.2.2.2.2.2.2.2]; exact hcs)) h2 h3 kk
end RC
