/-! ## methods with an exception table -/
abbrev HT : Type := List (Nat × Nat × Nat × Nat)
abbrev MI.wordH (Y : MI) (hh : HT) : Cond := .codeWith Y.1 Y.2.1 Y.2.2.1 Y.2.2.2.1 hh
def SpW (l : Launch) (G : Gm) (Y : MI) (hh : HT) (av : List Value) (M : Mm) (P : Option Value → Mm → Prop) : Prop :=
  kx_Met l Y.1 (Y.wordH hh :: GT) Y.2.2.2.2 (kPc G av M) (kRR G P noT) Y.2.2.2.2.cells Y.2.2.2.2.slots (fun q => G.1 ≤ q)
theorem kx_ofWH {l : Launch} {y : MethodName} {ws ws' : List Cond} {rm : Room} {Pc : Array Value → State → Prop} {RR : Outcome → State → State → Prop} {mc ms : Nat} {free : Addr → Prop} {cc : ByteArray} {maxL : Nat} {ret : Option FieldType} {hh : HT}
    (hy : plainName y.cls = true) (hw : ws = Cond.codeWith y cc maxL ret hh :: ws')
    (body : ∀ p e s m args below meth c s₁, BodyLoose p l y (headSpec ws rm) cc maxL ret e s m args below meth c s₁ → c.maxLocals = maxL → Pc args s →
      W p l e (headSpec ws rm).room s m args below meth c s.heap [] 0 0 (kx_MQ below RR args s mc ms free) (entryFrame m args maxL)) : kx_Met l y ws rm Pc RR mc ms free := by
  refine MetFree.of_bodyS (code := cc) (maxLocals := maxL) (ret := ret) hy ?_ ?_
  · intro args s m h hn
    obtain ⟨m9, meth, c, hn9, h1, h2, h3, h4, -, h5, h6, -⟩ := Cond.codeWith_spec (atoms_spec (ws := ws) h _ (by rw [hw]; exact List.mem_cons_self))
    cases hn.symm.trans hn9
    exact ⟨meth, c, h1, h2, h3, h4, h5, h6⟩
  · intro p e s m args below meth c s₁ B hml hP _
    have hh0 : s₁.heap = s.heap := by rw [B.state]; rfl
    obtain ⟨t, a1, o, b1, b2, b3⟩ := body p e s m args below meth c s₁ B hml hP s₁ hh0 (Stand.of_body B)
    exact ⟨t, o, a1, b1, b2, b3⟩
theorem SpW.of {l : Launch} {G : Gm} {Y : MI} {hh : HT} {av : List Value} {M : Mm} {P : Option Value → Mm → Prop} (hy : plainName Y.1.cls = true) (hl : (lg_sl av).length ≤ Y.2.2.1)
    (body : ∀ X : CX, X.l = l → Cx X G Y → X.c.exceptionTable.toList = tableOf hh → Go X G Y.2.2.1 0 0 (KQ X G Y P noT) 0 (argL av Y.2.2.1) [] M) : SpW l G Y hh av M P := by
  refine kx_ofWH (cc := Y.2.1) (maxL := Y.2.2.1) (ret := Y.2.2.2.1) (hh := hh) hy rfl ?_
  intro p e s m args below meth c s₁ B hml hv
  obtain ⟨rfl, hP, hK⟩ := hv
  have hts := atoms_spec (ws := Y.wordH hh :: GT) B.pre
  have := body (p, l, e, Y.2.2.2.2, s, m, av.toArray, below, meth, c) rfl ⟨B.exec, B.bytes, hml, findClass_of_methodNamed B.named, fun w hw => hts w (List.mem_cons_of_mem _ hw), hK, B.returns, B.notSynchronized, (name_of_methodNamed B.named B.method).1, rfl⟩ (vx_table (x := Y.1) B (hts _ List.mem_cons_self))
  rw [lg_entry_eq]
  exact this s.heap [] _ hP va_S.rf (lvL_entry av hl)
theorem SpW.met {l : Launch} {G : Gm} {Y' : MI} {hh : HT} {M : Mm} {P : Option Value → Mm → Prop} {av : List Value} (h : SpW l G Y' hh av M P) : Met l Y'.1 (Y'.wordH hh :: GT) Y'.2.2.2.2 (kPc G av M) (fun _ st o t => kRR G P noT o st t) Y'.2.2.2.2.cells Y'.2.2.2.2.slots (fun q => G.1 ≤ q) :=
  kx_Met.met h (fun o st t h => by
    rcases h.1 with ⟨v, M', e, -⟩ | ⟨M', -, e, -⟩
    · exact ⟨v, e⟩
    · exact e.elim)
def CWH (Y' : MI) (hh : HT) (na : Nat) : Prop := Y'.wordH hh ∈ GT ∧ Cond.initialized Y'.1.cls ∈ GT ∧ (Y'.1.cls ≠ "java/lang/invoke/MethodHandle" ∧ Y'.1.cls ≠ "java/lang/invoke/VarHandle") ∧ (parseMethodDescriptor Y'.1.desc).map (fun d => d.parameters.length) = some na
section RW
variable {X : CX} {G : Gm} {Y Y' : MI} {hh : HT} {nL cells slots : Nat} {Q : State → Prop} {pc : Nat} {L st : List Value} {M M1 : Mm} {P P' : Option Value → Mm → Prop} {T : Mm → Prop}
theorem cx_KE (C : Cx X G Y) : KE G X.s := C.2.2.2.2.2.1.2.2.2.2.2.2.2.2.2.2
theorem cx_pay (C : Cx X G Y) (hw : Y'.wordH hh ∈ GT) : ∀ w ∈ Y'.wordH hh :: GT, ∀ (a' : Array Value) (U : State), X.s.WarmedH U.vm → w.before a' U = true := pay_in C.2.2.2.2.1 (GT_sub0 hw)
theorem g_callVW {idx na o ci : Nat} {TT : u_T} {N : Nat} {As rest : List Value} (C : Cx X G Y) (d : decode Y.2.1 pc = .ok (.invokevirtual idx, 3)) (cw : CWH Y' hh na) (ci1 : Cond.instanceMethod Y'.1 ∈ GT) (ci2 : Cond.selects Y'.1.cls Y'.1 Y'.1 ∈ GT) (ml : Cond.methodLink Y.1.cls idx Y'.1 ∈ GT) (hR : RMok Y Y') (hc : kCl[ci]? = some (Y'.1.cls, TT, N)) (hl : lay o = (0, ci)) (ho : o < M.2.2.2) (hsp : SpW X.l G Y' hh (.ref (G.1 + o) :: As) M P) (hn : As.length = na) (hrest : (rest.map fun v => v.category).sum ≤ 8) (hnL : nL = Y.2.2.1) (hcs : cells + Y'.2.2.2.2.cells ≤ Y.2.2.2.2.cells ∧ slots + Y'.2.2.2.2.slots ≤ Y.2.2.2.2.slots) (st0 : List Value) (hst : st0 = As.reverse ++ .ref (G.1 + o) :: rest)
    (kk : ∀ v M', P v M' → Go X G nL (cells + Y'.2.2.2.2.cells) (slots + Y'.2.2.2.2.slots) Q (pc + 3) L (v.toList ++ rest) M') : Go X G nL cells slots Q pc L st0 M := fun H locs ls h1 h2 h3 => by
  subst hst
  have cwV : vx_CVW X.R X.s X.args Y.1.cls Y'.1.cls idx Y'.1 Y'.2.1 Y'.2.2.1 Y'.2.2.2.1 hh (Y'.wordH hh :: GT) Y'.2.2.2.2 Y'.2.2.2.2.cells Y'.2.2.2.2.slots na :=
    ⟨⟨rfl, rfl, by rw [C.2.2.2.2.2.2.2.2.2]; exact hR.1, by rw [C.2.2.2.2.2.2.2.2.2]; exact hR.2, cx_pay C cw.1, List.mem_cons_self⟩, cx_w C cw.1, cx_w C cw.2.1, cw.2.2.1, fun sig h => by have h2 := cw.2.2.2; rw [h] at h2; exact (Option.some.inj h2).symm, cx_w C ml, cx_w C ci1, cx_w C ci2⟩
  refine go_run (vx_runVW (C := Y'.1.cls) (n := na) (b := G.1 + o) (As := As) (rest := rest) (cx_fix C) hsp.met cwV ⟨kPc_blind G _ M, va_recv C.2.2.2.2.2.1.1 h1.1 hc (wsM_obj hl ho), cx_pre C h1 h2⟩ rfl hn (by rw [← hnL]; exact h3.1) rfl (lv_room hrest) d (by rw [C.2.2.2.2.2.2.2.2.2]; exact hcs)) h2 h3 kk
theorem g_callSW {idx na : Nat} {As rest : List Value} (C : Cx X G Y) (d : decode Y.2.1 pc = .ok (.invokestatic idx, 3)) (cw : CWH Y' hh na) (ci1 : Cond.static Y'.1 ∈ GT) (ml : Cond.methodLink Y.1.cls idx Y'.1 ∈ GT) (hR : RMok Y Y') (hsp : SpW X.l G Y' hh As M P) (hn : As.length = na) (hrest : (rest.map fun v => v.category).sum ≤ 8) (hnL : nL = Y.2.2.1) (hcs : cells + Y'.2.2.2.2.cells ≤ Y.2.2.2.2.cells ∧ slots + Y'.2.2.2.2.slots ≤ Y.2.2.2.2.slots) (st0 : List Value) (hst : st0 = As.reverse ++ rest)
    (kk : ∀ v M', P v M' → Go X G nL (cells + Y'.2.2.2.2.cells) (slots + Y'.2.2.2.2.slots) Q (pc + 3) L (v.toList ++ rest) M') : Go X G nL cells slots Q pc L st0 M := fun H locs ls h1 h2 h3 => by
  subst hst
  have cwS : vx_CSW X.R X.s X.args Y.1.cls idx Y'.1 Y'.2.1 Y'.2.2.1 Y'.2.2.2.1 hh (Y'.wordH hh :: GT) Y'.2.2.2.2 Y'.2.2.2.2.cells Y'.2.2.2.2.slots na :=
    ⟨⟨rfl, rfl, by rw [C.2.2.2.2.2.2.2.2.2]; exact hR.1, by rw [C.2.2.2.2.2.2.2.2.2]; exact hR.2, cx_pay C cw.1, List.mem_cons_self⟩, cx_w C cw.1, cx_w C cw.2.1, cw.2.2.1, fun sig h => by have h2 := cw.2.2.2; rw [h] at h2; exact (Option.some.inj h2).symm, cx_w C ml, cx_w C ci1⟩
  refine go_run (vx_runSW (n := na) (As := As) (rest := rest) (cx_fix C) hsp.met cwS ⟨kPc_blind G _ M, cx_pre C h1 h2⟩ rfl hn (by rw [← hnL]; exact h3.1) rfl (lv_room hrest) d (by rw [C.2.2.2.2.2.2.2.2.2]; exact hcs)) h2 h3 kk
/-- a Stop is caught -/
theorem gt_catch {idx : Nat} {x : ExceptionTableEntry} (C : Cx X G Y) (htab : X.c.exceptionTable.toList = [x]) (hcov : covers x pc = true) (h0 : x.catchType = idx) (hne : idx ≠ 0) (hlk : Cond.classLink Y.1.cls idx RX9 ∈ GT) (hcast : va_Nw (.castable RX9 RX9) X.s) (ho : 112 < M.2.2.2) (kk : Go X G nL cells slots Q x.handlerPc L [.ref (G.1 + 112)] M) : GoT X G nL cells slots Q pc L st M := fun H locs ls h1 h2 h3 => by
  obtain ⟨r, hr, cell, q1, q2, q3, q4⟩ := h1.1 112 _ (wsM_obj ly_112 ho)
  have hr2 : r = (RX9, TS9, 2) := Option.some.inj (hr.symm.trans rfl)
  subst hr2
  obtain ⟨hS, hfc, kC, hkC, hkind⟩ := C.2.2.2.2.2.1.1.1 9 _ rfl
  exact vx_catch (own := Y.1.cls) (name := RX9) (E := RX9) (ce := cell) C.2.2.2.1 [] x [] htab (fun z hz => by cases hz) hcov (by rw [h0]; exact hne) (by rw [h0]; exact cx_w C hlk) (va_Nw.use rfl hcast) q1 q3 (by rw [q2]; exact hfc) (kk H locs ls h1 h2 h3)
end RW
theorem clX10_38 : Cond.classLink RX10 38 RX9 ∈ GT := GT_at 859 (by decide +kernel) (by decide +kernel)
abbrev hhL : HT := [(57, 61, 64, 38)]
theorem cwX10_lines : CWH iX10_lines hhL 2 := ⟨GT_at 1038 (by decide +kernel) (by decide +kernel), GT_at 10 (by decide +kernel) (by decide +kernel), ⟨by decide +kernel, by decide +kernel⟩, by decide +kernel⟩
