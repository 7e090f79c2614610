/-! ## step: the class throws, the law catches -/
abbrev NSE : String := "java/util/NoSuchElementException"
def XCn (G : Gm) (T : Prop) (M : Mm) : String → State → State → Prop := fun E st t => E = NSE ∧ T ∧ Rp G M t.heap ∧ va_F (fun q => G.1 ≤ q) st t
def SpX (l : Launch) (G : Gm) (Y : MI) (av : List Value) (M : Mm) (P : Option Value → Mm → Prop) (T : Prop) : Prop :=
  vx_Met l Y.1 (Y.word :: GT) Y.2.2.2.2 (kPc G av M) (fun _ st o t => kRR G P noT o st t) (XCn G T M) Y.2.2.2.2.cells Y.2.2.2.2.slots (fun q => G.1 ≤ q)
def KQX (X : CX) (G : Gm) (Y : MI) (P : Option Value → Mm → Prop) (T : Prop) (M : Mm) : State → Prop := vx_MQ X.below (fun _ st o t => kRR G P noT o st t) (XCn G T M) X.args X.s Y.2.2.2.2.cells Y.2.2.2.2.slots (fun q => G.1 ≤ q)
theorem SpX.of {l : Launch} {G : Gm} {Y : MI} {av : List Value} {M : Mm} {P : Option Value → Mm → Prop} {T : Prop} (hy : plainName Y.1.cls = true) (hl : (lg_sl av).length ≤ Y.2.2.1)
    (body : ∀ X : CX, X.l = l → Cx X G Y → (∀ x ∈ X.c.exceptionTable.toList, False) → Go X G Y.2.2.1 0 0 (KQX X G Y P T M) 0 (argL av Y.2.2.1) [] M) : SpX l G Y av M P T := by
  refine vx_ofW (cc := Y.2.1) (maxL := Y.2.2.1) (ret := Y.2.2.2.1) hy rfl ?_
  intro p e s m args below meth c s₁ B hml hno hv
  obtain ⟨rfl, hP, hK⟩ := hv
  have hts := atoms_spec (ws := Y.word :: GT) B.pre
  have := body (p, l, e, Y.2.2.2.2, s, m, av.toArray, below, meth, c) rfl ⟨B.exec, B.bytes, hml, findClass_of_methodNamed B.named, fun w hw => hts w (List.mem_cons_of_mem _ hw), hK, B.returns, B.notSynchronized, (name_of_methodNamed B.named B.method).1, rfl⟩ hno
  rw [lg_entry_eq]
  exact this s.heap [] _ hP va_S.rf (lvL_entry av hl)
theorem Go.mono {X : CX} {G : Gm} {nL cells slots : Nat} {Q Q' : State → Prop} {pc : Nat} {L st : List Value} {M : Mm} (h : Go X G nL cells slots Q pc L st M) (hq : ∀ t, Q t → Q' t) : Go X G nL cells slots Q' pc L st M := fun H locs ls h1 h2 h3 T hT Xs => by
  obtain ⟨t, a, b⟩ := h H locs ls h1 h2 h3 T hT Xs
  exact ⟨t, a, hq t b⟩
theorem Go.widen {X : CX} {G : Gm} {nL cells slots k n : Nat} {Q : State → Prop} {pc : Nat} {L st : List Value} {M : Mm} (hc : cells ≤ k) (hs : slots ≤ n) (h : Go X G nL k n Q pc L st M) : Go X G nL cells slots Q pc L st M := fun H locs ls h1 h2 h3 T hT Xs => h H locs ls h1 h2 h3 T hT (stand_widen Xs hc hs)
theorem KQ_X {X : CX} {G : Gm} {Y : MI} {P : Option Value → Mm → Prop} {T : Prop} {M : Mm} : ∀ t, KQ X G Y P noT t → KQX X G Y P T M t := by
  rintro t ⟨o, h1, h2, h3, h4, L, h5, h6⟩
  refine ⟨o, h1, h2, Or.inl ⟨h3, L, ⟨?_, h4, h5⟩, h6⟩⟩
  rcases h3.1 with ⟨v, M', e, -⟩ | ⟨M', -, e, -⟩
  · exact ⟨v, e⟩
  · exact e.elim
theorem Rp_ext {G : Gm} {M : Mm} {H H1 : Heap} (h : Rp G M H) (hM : ¬ M.2.2.2 < 125) (hs : H.size ≤ H1.size) (hq : ∀ q : Nat, q < H.size → H1[q]? = H[q]?) : Rp G M H1 := by
  obtain ⟨h1, h2, h3, h4⟩ := h
  refine ⟨h1.kept (fun k q hk => hq q.1 ?_), by omega, fun q => absurd q hM, h4⟩
  have hk2 : k < M.2.2.2 := by have := (List.getElem?_eq_some_iff.mp hk).1; rwa [wsM_len] at this
  rw [wsM_get hk2] at hk
  cases hk
  show G.1 + k < H.size
  omega
abbrev nsN : List String := ["java/lang/RuntimeException", "java/lang/Exception"]
abbrev iX8_stepX : MI := (yX8_step, cX8_step, 2, (some .int), { frames := 6, cells := 1, slots := 6, locals := 150 })
theorem at_mem : ∀ w ∈ vx_at0 RX8 191 NSE nsN, w ∈ tables_1 := by decide +kernel
theorem at_bad : ∀ w ∈ (vx_at0 RX8 191 NSE nsN).filter (fun w => !goodWord w), w ∈ Cond.castable NSE NSE :: nwD.map Cond.declares := by decide +kernel
theorem at_ot : ∀ w ∈ Cond.classLink RX8 189 NSE :: Cond.initialized NSE :: vx_at0 RX8 191 NSE nsN, vx_ot w = true := by decide +kernel
theorem ns_fit : Bundle.fit NSE = true ∧ ∀ n ∈ nsN, Bundle.fit n = true := by decide +kernel
theorem ns_cl : Cond.classLink RX8 189 NSE ∈ GT := GT_at 790 (by decide +kernel) (by decide +kernel)
theorem ns_in : Cond.initialized NSE ∈ GT := GT_in (by decide +kernel) (by decide +kernel)
theorem g_nse {X : CX} {G : Gm} {I : Nat → Nat → Int32} {J : Nat → Nat → Int64} {L : List Value} {P : Option Value → Mm → Prop} {T : Prop} (hl : X.l.stackTraces = false) (C : Cx X G iX8_stepX) (hno : ∀ x ∈ X.c.exceptionTable.toList, False) (hT : T) : Go X G 2 0 0 (KQX X G iX8_stepX P T (mm I J)) 15 L [] (mm I J) := fun H locs ls h1 h2 h3 => by
  have hR : X.R = iX8_stepX.2.2.2.2 := C.2.2.2.2.2.2.2.2.2
  have hK := C.2.2.2.2.2.1
  have hKE : KE G X.s := cx_KE C
  refine vx_throw0 (own := RX8) (cls := NSE) (names := nsN) (ik := 189) (ic := 191) (A := fun q => G.1 ≤ q) C.1 C.2.1 hl C.2.2.2.1 ns_fit.1 ns_fit.2 (cx_w C ns_cl) (cx_w C ns_in) (vx_hat (B := Cond.castable NSE NSE :: nwD.map Cond.declares) (fun w hw => cx_w C (GT_in (List.mem_append_right _ (at_mem w (List.mem_filter.mp hw).1)) (List.mem_filter.mp hw).2)) at_bad (fun w hw => ?_)) at_ot hK.2.2.2.2.2.2.2.1 hK.2.2.2.2.2.2.2.2.1 h2 (by rw [C.2.2.1]; exact h3.1) dX8_step_15 dX8_step_18 dX8_step_19 dX8_step_22 (fun x hx => (hno x hx).elim) (by rw [hR]; decide) (by rw [hR]; decide) (by rw [hR]; decide) (by rw [hR]; decide) C.2.2.2.2.2.2.2.1 (fun t hW hs hq => ?_) h2.2.2 (by decide) (by decide)
  · rcases List.mem_cons.mp hw with rfl | hw
    · exact va_Nw.use rfl (hKE.1 NSE (by decide))
    · obtain ⟨q, hq, rfl⟩ := List.mem_map.mp hw
      exact va_Nw.use rfl (hKE.2.1 q hq)
  · exact ⟨rfl, hT, Rp_ext h1 (show ¬ (125 : Nat) < 125 by decide) hs hq, Nat.le_trans h2.1 hs, fun q q1 q2 => by rw [hq q (Nat.lt_of_lt_of_le q1 h2.1)]; exact h2.2.1 q q1 q2⟩
set_option maxHeartbeats 4000000 in
theorem s_stepT {l : Launch} {G : Gm} {I : Nat → Nat → Int32} {J : Nat → Nat → Int64} (hl : l.stackTraces = false) {x : Int32} (h : x < 0 ∨ ¬ x < I 95 4) : SpX l G iX8_stepX [.ref (G.1 + 0), .int x] (mm I J) (fun _ _ => False) True := by
  refine SpX.of (by decide +kernel) (Nat.le_of_ble_eq_true rfl) ?_
  intro X hXl C hno
  subst hXl
  show Go X G 2 0 0 _ 0 [.ref (G.1 + 0), .int x] [] (mm I J)
  have thr : Go X G 2 0 0 (KQX X G iX8_stepX (fun _ _ => False) True (mm I J)) 15 [.ref (G.1 + 0), .int x] [] (mm I J) := g_nse hl C hno trivial
  refine g_iload_n C dX8_step_0 rfl ?_
  refine g_if_lt 15 C dX8_step_1 (by decide) (fun c1 => ?_) (fun c1 => ?_)
  · skip
    exact thr
  · skip
    refine g_iload_n C dX8_step_4 rfl ?_
    refine g_aload_n C dX8_step_5 rfl ?_
    refine g_getR (ci := 8) (k := 5) (q := 95) C dX8_step_6 rfl inGX8 (by decide) fwX8_53 ly_0 (by decide) rfl rfl ?_
    refine g_getI (ci := 7) (k := 4) C dX8_step_9 rfl inGX7 (by decide) fwX8_188 ly_95 (by decide) rfl ?_
    refine g_icmp_lt 23 C dX8_step_12 (by decide) (fun c12 => ?_) (fun c12 => ?_)
    · exact (h.elim c1 (fun q => q c12)).elim
    · skip
      exact thr
set_option maxHeartbeats 4000000 in
theorem s_stepR {l : Launch} {G : Gm} {I : Nat → Nat → Int32} {J : Nat → Nat → Int64} {i z : Nat} (hz : I 95 4 = nI z) (hz91 : z ≤ 91) (hi : i < z) : SpX l G iX8_stepX [.ref (G.1 + 0), .int (nI i)] (mm I J) (RetI (I 97 i) (mm I J)) False := by
  refine SpX.of (by decide +kernel) (Nat.le_of_ble_eq_true rfl) ?_
  intro X hXl C hno
  subst hXl
  show Go X G 2 0 0 _ 0 [.ref (G.1 + 0), .int (nI i)] [] (mm I J)
  refine Go.mono (Go.widen (k := 1) (n := 6) (Nat.zero_le _) (Nat.zero_le _) ?_) KQ_X
  refine g_iload_n C dX8_step_0 rfl ?_
  refine g_if_lt 15 C dX8_step_1 (by decide) (fun c1 => ?_) (fun c1 => ?_)
  · exact absurd c1 (nI_pos (by omega))
  · refine g_iload_n C dX8_step_4 rfl ?_
    refine g_aload_n C dX8_step_5 rfl ?_
    refine g_getR (ci := 8) (k := 5) (q := 95) C dX8_step_6 rfl inGX8 (by decide) fwX8_53 ly_0 (by decide) rfl rfl ?_
    refine g_getI (ci := 7) (k := 4) C dX8_step_9 rfl inGX7 (by decide) fwX8_188 ly_95 (by decide) rfl ?_
    refine g_icmp_lt 23 C dX8_step_12 (by decide) (fun c12 => ?_) (fun c12 => ?_)
    · refine g_aload_n C dX8_step_23 rfl ?_
      refine g_getR (ci := 8) (k := 5) (q := 95) C dX8_step_24 rfl inGX8 (by decide) fwX8_53 ly_0 (by decide) rfl rfl ?_
      refine g_getR (ci := 7) (k := 3) (q := 97) C dX8_step_27 rfl inGX7 (by decide) fwX8_192 ly_95 (by decide) rfl rfl ?_
      refine g_iload_n C dX8_step_30 rfl ?_
      refine g_iald i C dX8_step_31 ly_97 (by decide) (by decide) rfl (show i < 91 by omega) ?_
      exact e_I C dX8_step_32 rfl rfl rfl rfl rfl
    · exact absurd (by rw [hz]; exact nI_lt hi (by omega)) c12
section RX
variable {X : CX} {G : Gm} {Y Y' : MI} {nL cells slots : Nat} {Q : State → Prop} {pc : Nat} {L st : List Value} {M M1 : Mm} {P P' : Option Value → Mm → Prop} {T : Prop}
theorem g_callVX {idx na o ci : Nat} {TT : u_T} {N : Nat} {As rest : List Value} (C : Cx X G Y) (d : decode Y.2.1 pc = .ok (.invokevirtual idx, 3)) (cw : VW Y' na) (ml : Cond.methodLink Y.1.cls idx Y'.1 ∈ GT) (hR : RMok Y Y') (hc : kCl[ci]? = some (Y'.1.cls, TT, N)) (hl : lay o = (0, ci)) (ho : o < M.2.2.2) (hsp : SpX X.l G Y' (.ref (G.1 + o) :: As) M P' T) (hn : As.length = na) (hrest : (rest.map fun v => v.category).sum ≤ 8) (hnL : nL = Y.2.2.1) (hcs : cells + Y'.2.2.2.2.cells ≤ Y.2.2.2.2.cells ∧ slots + Y'.2.2.2.2.slots ≤ Y.2.2.2.2.slots) (st0 : List Value) (hst : st0 = As.reverse ++ .ref (G.1 + o) :: rest)
    (kk : ∀ v M', P' v M' → Go X G nL (cells + Y'.2.2.2.2.cells) (slots + Y'.2.2.2.2.slots) Q (pc + 3) L (v.toList ++ rest) M')
    (kt : T → ∀ (H : Heap) (locs : List Loc) (ls : Array Slot) (q : Addr) (ce : Cell), Rp G M H → va_S (fun q => G.1 ≤ q) X.s.heap H locs → lvL ls nL L → H[q]? = some ce → ce.vm = .none → X.s.vm.findClass NSE = some ce.cls → vx_W X.p X.l X.e X.R X.s X.m X.args X.below X.meth X.c H locs (cells + Y'.2.2.2.2.cells) (slots + Y'.2.2.2.2.slots) Q (F0 X.m pc ls rest) q) : Go X G nL cells slots Q pc L st0 M := fun H locs ls h1 h2 h3 => by
  subst hst
  intro T' hT Xs
  rcases vx_runV (C := Y'.1.cls) (n := na) (b := G.1 + o) (As := As) (rest := rest) (g := F0 X.m pc ls (As.reverse ++ .ref (G.1 + o) :: rest)) (cx_fix C) hsp ⟨cx_callB C cw.1 ml hR, cx_w C cw.2.1, cx_w C cw.2.2⟩ ⟨kPc_blind G _ M, va_recv C.2.2.2.2.2.1.1 h1.1 hc (wsM_obj hl ho), cx_pre C h1 h2⟩ rfl hn (by rw [← hnL]; exact h3.1) rfl (lv_room hrest) d (by rw [C.2.2.2.2.2.2.2.2.2]; exact hcs) T' hT Xs with ⟨v, st₀, t, T2, L1, g0, X', gL, e1, e2, ⟨hrr, hF⟩, hgo⟩ | ⟨q, st₀, t, T2, L1, E, ce, g0, X', gL, e1, e2, ⟨rfl, hTT, hRp, hF⟩, hce, hcv, hcl, stp⟩
  · rcases hrr with ⟨v', M', ev, hp, hR2⟩ | ⟨_, ev, _⟩
    · cases ev
      obtain ⟨t2, a1, b1⟩ := kk v M' hp T2.heap (locs ++ L1) ls (by rw [e1]; exact hR2) (go_S h2 g0 e1 gL hF) h3 T2 rfl X'
      exact ⟨t2, hgo t2 a1, b1⟩
    · cases ev
  · obtain ⟨t2, a1, b1⟩ := kt hTT T2.heap (locs ++ L1) ls q ce (by rw [e1]; exact hRp) (go_S h2 g0 e1 gL hF) h3 (by rw [e1]; exact hce) hcv hcl T2 rfl X'
    exact ⟨t2, stp.trans a1, b1⟩
end RX
abbrev hhS : HT := [(0, 9, 12, 13)]
abbrev iL_step : MI := (yL_step, cL_step, 4, (some .int), { frames := 7, cells := 1, slots := 6, locals := 171 })
theorem mlL_7 : Cond.methodLink RL 7 yX8_step ∈ GT := GT_in (by decide +kernel) (by decide +kernel)
theorem clL_13 : Cond.classLink RL 13 NSE ∈ GT := GT_at 785 (by decide +kernel) (by decide +kernel)
theorem vwX8_stepX : VW iX8_stepX 1 := vwX8_step
theorem cwL_step : CWH iL_step hhS 3 := ⟨GT_at 784 (by decide +kernel) (by decide +kernel), GT_in (by decide +kernel) (by decide +kernel), ⟨by decide +kernel, by decide +kernel⟩, by decide +kernel⟩
set_option maxHeartbeats 4000000 in
theorem s_lstepT {l : Launch} {G : Gm} {I : Nat → Nat → Int32} {J : Nat → Nat → Int64} (hl : l.stackTraces = false) {x : Int32} (h : x < 0 ∨ ¬ x < I 95 4) : SpW l G iL_step hhS [.ref (G.1 + 0), .int x, .ref (G.1 + 124)] (mm I J) (RetI 1 (mm I J)) := by
  refine SpW.of (by decide +kernel) (Nat.le_of_ble_eq_true rfl) ?_
  intro X hXl C htab
  subst hXl
  show Go X G 4 0 0 _ 0 [.ref (G.1 + 0), .int x, .ref (G.1 + 124), uu] [] (mm I J)
  refine g_aload_n C dL_step_0 rfl ?_
  refine g_iconst (v := 0) C dL_step_1 (by decide) ?_
  refine g_aload_n C dL_step_2 rfl ?_
  refine g_iload_n C dL_step_3 rfl ?_
  refine g_callVX (ci := 8) (o := 0) (As := [.int x]) (rest := [.int 0, .ref (G.1 + 124)]) C dL_step_4 vwX8_stepX mlL_7 ⟨by decide, by decide⟩ rfl ly_0 (show 0 < 125 by decide) (s_stepT hl h) rfl (Nat.le_of_ble_eq_true rfl) rfl ⟨by decide, by decide⟩ _ rfl (fun v M' hp => hp.elim) (fun _ H locs ls q ce h1 h2 h3 hce hcv hcl => ?_)
  refine vx_catch (own := RL) (name := NSE) (E := NSE) (ce := ce) C.2.2.2.1 [] { startPc := 0, endPc := 9, handlerPc := 12, catchType := 13 } [] htab (fun z hz => by cases hz) (by decide) (by decide) (cx_w C clL_13) (va_Nw.use rfl ((cx_KE C).1 NSE (by decide))) hce hcv hcl ?_
  have : Go X G 4 (0 + 1) (0 + 6) (KQ X G iL_step (RetI 1 (mm I J)) noT) 12 [.ref (G.1 + 0), .int x, .ref (G.1 + 124), uu] [.ref q] (mm I J) := by
    refine g_astore_3 C dL_step_12 (by decide) ?_
    refine g_iconst (v := 1) C dL_step_13 (by decide) ?_
    exact g_iret C dL_step_14 rfl rfl rfl ⟨rfl, rfl⟩
  exact this H locs ls h1 h2 h3
set_option maxHeartbeats 4000000 in
theorem s_lstepR {l : Launch} {G : Gm} {I : Nat → Nat → Int32} {J : Nat → Nat → Int64} {i z : Nat} (hz : I 95 4 = nI z) (hz91 : z ≤ 91) (hi : i < z) : SpW l G iL_step hhS [.ref (G.1 + 0), .int (nI i), .ref (G.1 + 124)] (mm I J) (RetI 0 (mm I (upJ J 124 0 (I 97 i).toInt64))) := by
  refine SpW.of (by decide +kernel) (Nat.le_of_ble_eq_true rfl) ?_
  intro X hXl C htab
  subst hXl
  show Go X G 4 0 0 _ 0 [.ref (G.1 + 0), .int (nI i), .ref (G.1 + 124), uu] [] (mm I J)
  refine g_aload_n C dL_step_0 rfl ?_
  refine g_iconst (v := 0) C dL_step_1 (by decide) ?_
  refine g_aload_n C dL_step_2 rfl ?_
  refine g_iload_n C dL_step_3 rfl ?_
  refine g_callVX (ci := 8) (o := 0) (As := [.int (nI i)]) (rest := [.int 0, .ref (G.1 + 124)]) C dL_step_4 vwX8_stepX mlL_7 ⟨by decide, by decide⟩ rfl ly_0 (show 0 < 125 by decide) (s_stepR hz hz91 hi) rfl (Nat.le_of_ble_eq_true rfl) rfl ⟨by decide, by decide⟩ _ rfl (fun v M' hp => ?_) (fun hF => hF.elim)
  obtain ⟨rfl, rfl⟩ := hp
  refine g_i2l C dL_step_7 ?_
  refine g_last 0 C dL_step_8 ly_124 (by decide) (by decide) rfl (by decide) ?_
  refine g_goto 15 C dL_step_9 (by decide) ?_
  refine g_iconst (v := 0) C dL_step_15 (by decide) ?_
  exact g_iret C dL_step_16 rfl rfl rfl ⟨rfl, rfl⟩
