section KT
/-! a callee that may throw: follows the kit's vx_back, the thrown address kept -/
section Payer
variable {l : Launch} {R : Room} {p : Program} {e : Env} {below : List Frame} {s : State} {sargs : Array Value} {y : MethodName} {len W9 : Nat}
theorem kx_back {ws : List Cond} {rm : Room} {Pc : Array Value → State → Prop} {RR : Outcome → State → State → Prop} {mc ms : Nat} {free : Addr → Prop} {bytes : ByteArray} {maxL : Nat} {ret : Option FieldType}
    (hM : kx_Met l y ws rm Pc RR mc ms free) (hblind : FrameBlind Pc) (hrc : rm.cells = mc) (hrs : rm.slots = ms)
    (hframes : rm.frames + 1 ≤ R.frames) (hlocals : W9 + (maxL + 11) + rm.locals ≤ R.locals)
    (hws : ∀ w ∈ ws, ∀ a' U, s.WarmedH U.vm → w.before a' U = true) (hcode : Cond.code y bytes maxL ret ∈ ws) (hinit : ∀ a' U, s.WarmedH U.vm → (Cond.initialized y.cls).before a' U = true) :
    vx_Back l R p e below s sargs y len W9 (PreOf R mc ms Pc) (fun A a v B => kx_Post RR mc ms free A a (.returned v) B) (fun A a q B => kx_Post RR mc ms free A a (.threw q) B) := by
  intro m meth c A g ig mk a X hg hsize hdg hW hn hp
  have h1 : (headSpec ws rm).pre.before a A.U = true := atoms_intro fun w hw => hws w hw _ _ X.warmed
  have h2 : (Cond.code y bytes maxL ret).before a A.U = true := hws _ hcode _ _ X.warmed
  have h3 : (Cond.initialized y.cls).before a A.U = true := hinit _ _ X.warmed
  have h4 : A.cells + (headSpec ws rm).room.cells ≤ R.cells := by rw [show (headSpec ws rm).room.cells = mc from hrc]; exact hp.1
  have h5 : A.slots + (headSpec ws rm).room.slots ≤ R.slots := by rw [show (headSpec ws rm).room.slots = ms from hrs]; exact hp.2.1
  have hPc : Pc a (A.U.calling g mk a) := hblind _ _ _ _ hp.2.2
  obtain ⟨U, Ls, c0, s0⟩ := A
  dsimp only [Pt.U, Pt.locs, Pt.cells, Pt.slots] at h1 h2 h3 h4 h5 X hn hPc ⊢
  obtain ⟨methY, cY, hmY, hcY, -, hlY, -, -, -, -⟩ := Cond.code_spec hn h2
  obtain ⟨kY, hkY, -⟩ := className_of_methodNamed hn
  have hinitY : kY.init = .initialized := Cond.initialized_spec (findClass_of_methodNamed hn) hkY h3
  have h : At U g.method c below := by rw [hg]; exact X.here
  have hlocals9 : W9 + (maxL + 11) + (headSpec ws rm).room.locals ≤ R.locals := hlocals
  have happ : (headSpec ws rm).appliesLoose y e.platform (U.calling g mk a) = true :=
    Spec.appliesLoose_calling (g := g) h hdg hn hkY hinitY
      (X.room_calling (g := g) (R' := (headSpec ws rm).room) hsize hmY hcY hframes (by rw [hlY]; omega) h4 h5) h1
  obtain ⟨mid, hmid⟩ := h.above
  have hfr : (U.setTop g).frames = (.java g :: mid) ++ below := by rw [State.frames_setTop' g h.top, hmid]; rfl
  obtain ⟨o, s₂, hsteps, -, hend, hq⟩ := Steps.callFree hM p X.admits X.cas X.clock (acts := []) hfr happ hPc trivial
  have hq' : kx_Q RR mc ms free a (U.calling g mk a) o s₂ := hq
  rw [State.frames_setTop' g h.top] at hend
  obtain ⟨g₀, hg0⟩ := Option.isSome_iff_exists.mp h.top
  obtain ⟨r, hr⟩ := State.topJava?_eq_some.mp hg0
  have hr' : (({ U with heap := s₂.heap, slotsUsed := s₂.slotsUsed } : State).setVm s₂.vm).frames = .java g₀ :: r := hr
  obtain ⟨hqc, hW₂, L, hsm, hL⟩ := hq'
  obtain ⟨e2, q2, q3, q4, q5, q6⟩ := id hsm
  have e3 : s₂ = ({ (U.calling g mk a).setFrames s₂.frames with heap := s₂.heap, slotsUsed := s₂.slotsUsed } : State).setVm s₂.vm := by
    have : s₂ = ({ s₂ with vm := (U.calling g mk a).vm } : State).setVm s₂.vm := rfl
    rw [e2] at this
    exact this
  have hW' : U.WarmedH s₂.vm := hW₂
  have hsame : U.sameButNew ({ U with heap := s₂.heap, slotsUsed := s₂.slotsUsed } : State) L mc ms := by
    refine ⟨?_, q2, q3, q4, q5, q6⟩
    obtain ⟨t, ht, -⟩ := State.frames_cons hr
    show ({ U with heap := s₂.heap, slotsUsed := s₂.slotsUsed } : State) = { U.setFrames U.frames with heap := s₂.heap, slotsUsed := s₂.slotsUsed }
    rw [State.setFrames_self ht]
  cases o with
  | returned v =>
    obtain ⟨c₂, i₂, len₂, hc₂, hd₂, hf₂⟩ := hend
    have hcc : c₂ = c := by
      have h1 : s₂.code? g.method = U.code? g.method := by
        rw [State.code?_eq, State.code?_eq, hW'.alike.method?]
      exact Option.some.inj (hc₂.symm.trans (h1.trans h.code))
    subst hcc
    have hlen : len₂ = len := by rw [hdg] at hd₂; cases hd₂; rfl
    subst hlen
    have hs₂ : s₂ = (({ U with heap := s₂.heap, slotsUsed := s₂.slotsUsed } : State).setVm s₂.vm).setTop { g with pc := g.pc + len₂, stack := v.toList ++ g.stack } := by
      refine e3.trans ?_
      rw [hf₂, State.calling_eq h.top, State.setFrames_setFrames, State.setTop_of_frames _ hr', hr]
      rfl
    subst hg
    refine Or.inl ⟨v, ⟨(({ U with heap := s₂.heap, slotsUsed := s₂.slotsUsed } : State).setVm s₂.vm), Ls ++ L, c0 + mc, s0 + ms⟩,
      ⟨X.admits, X.cas, X.clock, X.frames, X.room, X.hears, X.method, X.code, (X.here.setHeapUsed s₂.heap s₂.slotsUsed).setVm hW'.alike, X.tail, State.WarmedH.trans X.warmed hW', X.limits, X.bytes, X.same.trans (hsame.setVm s.vm)⟩,
      ⟨g, mk, s₂, L, rfl, rfl, hqc, rfl, hL, rfl, rfl⟩, ?_⟩
    show Steps p.tables e below _ ((({ U with heap := s₂.heap, slotsUsed := s₂.slotsUsed } : State).setVm s₂.vm).setTop { g with pc := g.pc + len₂, stack := v.toList ++ g.stack })
    rw [← hs₂]
    exact hsteps
  | threw q =>
    have hf₂ : s₂.frames = .throwing q :: .java g :: U.frames.tail := hend
    have hs₂ : s₂ = ((({ U with heap := s₂.heap, slotsUsed := s₂.slotsUsed } : State).setVm s₂.vm).setTop g).pushFrame (.throwing q) := by
      refine e3.trans ?_
      rw [hf₂, State.calling_eq h.top, State.setFrames_setFrames, State.pushFrame, State.frames_setTop _ hr', State.setTop_of_frames _ hr', State.setFrames_setFrames, hr]
      rfl
    subst hg
    refine Or.inr ⟨q, ⟨(({ U with heap := s₂.heap, slotsUsed := s₂.slotsUsed } : State).setVm s₂.vm), Ls ++ L, c0 + mc, s0 + ms⟩,
      ⟨X.admits, X.cas, X.clock, X.frames, X.room, X.hears, X.method, X.code, (X.here.setHeapUsed s₂.heap s₂.slotsUsed).setVm hW'.alike, X.tail, State.WarmedH.trans X.warmed hW', X.limits, X.bytes, X.same.trans (hsame.setVm s.vm)⟩,
      ⟨g, mk, s₂, L, rfl, rfl, hqc, rfl, hL, rfl, rfl⟩, ?_⟩
    show Steps p.tables e below _ (((({ U with heap := s₂.heap, slotsUsed := s₂.slotsUsed } : State).setVm s₂.vm).setTop g).pushFrame (.throwing q))
    rw [← hs₂]
    exact hsteps
end Payer
section Rows
variable {X : CX} {G : Gm} {Y Y' : MI} {nL cells slots : Nat} {Q : State → Prop} {pc : Nat} {L st : List Value} {M M1 : Mm} {P P' : Option Value → Mm → Prop} {T T' : Mm → Prop}
/-- the frame with the model's Stop thrown over it -/
def GoT (X : CX) (G : Gm) (nL cells slots : Nat) (Q : State → Prop) (pc : Nat) (L st : List Value) (M : Mm) : Prop :=
  ∀ (H : Heap) (locs : List Loc) (ls : Array Slot), Rp G M H → va_S (fun q => G.1 ≤ q) X.s.heap H locs → lvL ls nL L → vx_W X.p X.l X.e X.R X.s X.m X.args X.below X.meth X.c H locs cells slots Q (F0 X.m pc ls st) (G.1 + 112)
/-- a virtual call that may throw -/
theorem g_callVT {idx na o ci : Nat} {TT : u_T} {N : Nat} {As rest : List Value} (C : Cx X G Y) (d : decode Y.2.1 pc = .ok (.invokevirtual idx, 3)) (cw : VW Y' na) (ml : Cond.methodLink Y.1.cls idx Y'.1 ∈ GT) (hR : RMok Y Y') (hc : kCl[ci]? = some (Y'.1.cls, TT, N)) (hl : lay o = (0, ci)) (ho : o < M.2.2.2) (hsp : Sp X.l G Y' (.ref (G.1 + o) :: As) M P' T') (hn : As.length = na) (hrest : (rest.map fun v => v.category).sum ≤ 8) (hnL : nL = Y.2.2.1) (hcs : cells + Y'.2.2.2.2.cells ≤ Y.2.2.2.2.cells ∧ slots + Y'.2.2.2.2.slots ≤ Y.2.2.2.2.slots) (st0 : List Value) (hst : st0 = As.reverse ++ .ref (G.1 + o) :: rest)
    (kk : ∀ v M', P' v M' → Go X G nL (cells + Y'.2.2.2.2.cells) (slots + Y'.2.2.2.2.slots) Q (pc + 3) L (v.toList ++ rest) M') (kt : ∀ M', T' M' → GoT X G nL (cells + Y'.2.2.2.2.cells) (slots + Y'.2.2.2.2.slots) Q pc L rest M') : Go X G nL cells slots Q pc L st0 M := fun H locs ls h1 h2 h3 => by
  subst hst
  obtain ⟨hrc, hrs, hfr, hlo, hws, hcw, hcode, hini, hy, hlen, hlk⟩ := cx_callB C cw.1 ml hR
  have hK : vx_Back X.l X.R X.p X.e X.below X.s X.args Y'.1 3 8 _ _ _ := kx_back (bytes := Y'.2.1) (maxL := Y'.2.2.1) (ret := Y'.2.2.2.1) hsp (kPc_blind G _ M) hrc hrs hfr hlo hws hcw (fun a' U hW => word_at hW (Or.inl (by first | rfl | simp [Cond.onTables, Cond.keeps, Cond.steady])) hini)
  obtain ⟨cellB, hcB, hoB, hclB⟩ := va_recv C.2.2.2.2.2.1.1 h1.1 hc (wsM_obj hl ho)
  intro T0 hT Xs
  rcases vx_callV Xs C.1 (C := Y'.1.cls) (bytes := Y'.2.1) (maxL := Y'.2.2.1) (ret := Y'.2.2.2.1) C.2.2.2.1 hlk (cx_w C cw.2.1) (cx_w C cw.2.2) hcode hy hK (by rw [hT]; exact hcB) hoB hclB (g := F0 X.m pc ls (As.reverse ++ .ref (G.1 + o) :: rest)) rfl (by rw [C.2.2.1, ← hnL]; exact h3.1) (argsL := As) (rest := rest) (fun sig h => hn.trans (hlen sig h)) rfl (lv_room hrest) (by rw [C.2.1]; exact d)
    (fun vm₁ hW₁ => ⟨by rw [C.2.2.2.2.2.2.2.2.2]; exact hcs.1, by rw [C.2.2.2.2.2.2.2.2.2]; exact hcs.2, cx_pre C h1 h2 (T0.setVm vm₁) hT hW₁⟩) with ⟨v, vm₁, ⟨U', l2, c2, s2⟩, hW₁, X', ⟨g', mk, t, L1, e1, e2, ⟨hq, hF⟩, k1, hL, k2, k3⟩, stp⟩ | ⟨q, vm₁, ⟨U', l2, c2, s2⟩, hW₁, X', ⟨g', mk, t, L1, e1, e2, ⟨hq, hF⟩, k1, hL, k2, k3⟩, stp⟩
  · dsimp only [Pt.U, Pt.locs, Pt.cells, Pt.slots] at X' e1 e2 k1 k2 k3 stp
    subst k1; subst k2; subst k3
    rcases hq with ⟨v', M', ev, hp, hRp⟩ | ⟨_, ev, _⟩
    · cases ev
      obtain ⟨t2, a1, b1⟩ := kk v M' hp U'.heap (locs ++ L1) ls (by rw [e1]; exact hRp) (go_S (T' := U') h2 hT e1 hL hF) h3 U' rfl X'
      exact ⟨t2, stp t2 a1, b1⟩
    · cases ev
  · dsimp only [Pt.U, Pt.locs, Pt.cells, Pt.slots] at X' e1 e2 k1 k2 k3 stp
    subst k1; subst k2; subst k3
    rcases hq with ⟨v', M', ev, _⟩ | ⟨M', ev, hp, hRp⟩
    · cases ev
    · cases ev
      obtain ⟨t2, a1, b1⟩ := kt M' hp U'.heap (locs ++ L1) ls (by rw [e1]; exact hRp) (go_S (T' := U') h2 hT e1 hL hF) h3 U' rfl X'
      exact ⟨t2, stp.trans a1, b1⟩
/-- it isn't caught here -/
theorem gt_out (C : Cx X G Y) (ht : X.c.exceptionTable.isEmpty = true) (hc : cells = Y.2.2.2.2.cells) (hs : slots = Y.2.2.2.2.slots) (hT : T M) : GoT X G nL cells slots (KQ X G Y P T) pc L st M := fun H locs ls h1 h2 h3 => by
  subst hc; subst hs
  intro T0 hT0 Xs
  have hnil : X.c.exceptionTable.toList = [] := by
    have := Array.isEmpty_iff.mp ht
    rw [this]
  obtain ⟨st1, hrun, hend, hW, hsm⟩ := Xs.leaveThrown (G.1 + 112) (g := F0 X.m pc ls st) rfl rfl rfl (fun x hx => by rw [hnil] at hx; cases hx) C.2.2.2.2.2.2.2.1
  exact ⟨_, st1, .threw (G.1 + 112), hrun, hend, ⟨Or.inr ⟨M, rfl, hT, by show Rp G M T0.heap; rw [hT0]; exact h1⟩, h2.F hT0⟩, hW, locs, hsm, h2.2.2⟩
/-- throw stop -/
theorem g_athrow (C : Cx X G Y) (d : decode Y.2.1 pc = .ok (.athrow, 1)) (ht : X.c.exceptionTable.isEmpty = true) (hc : cells = Y.2.2.2.2.cells) (hs : slots = Y.2.2.2.2.slots) (hT : T M) : Go X G nL cells slots (KQ X G Y P T) pc L (.ref (G.1 + 112) :: st) M := fun H locs ls h1 h2 h3 => by
  subst hc; subst hs
  intro T0 hT0 Xs
  have hnil : X.c.exceptionTable.toList = [] := by
    have := Array.isEmpty_iff.mp ht
    rw [this]
  obtain ⟨st1, hrun, hend, hW, hsm⟩ := Xs.athrowLeaves C.1 (g := F0 X.m pc ls (.ref (G.1 + 112) :: st)) rfl rfl rfl (fun x hx => by rw [hnil] at hx; cases hx) (a := G.1 + 112) (rest := st) rfl (by rw [C.2.1]; exact d) C.2.2.2.2.2.2.2.1
  exact ⟨_, st1, .threw (G.1 + 112), hrun, hend, ⟨Or.inr ⟨M, rfl, hT, by show Rp G M T0.heap; rw [hT0]; exact h1⟩, h2.F hT0⟩, hW, locs, hsm, h2.2.2⟩
end Rows
end KT
