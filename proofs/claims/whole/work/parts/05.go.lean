/-! ## a callee that returns or throws, what it throws told by its address -/
def kx_Q (RR : Outcome → State → State → Prop) (mc ms : Nat) (free : Addr → Prop) : Array Value → State → Outcome → State → Prop := fun _ st o t =>
  RR o st t ∧ st.WarmedH t.vm ∧ ∃ L, st.sameButNew ({ t with vm := st.vm } : State) L mc ms ∧ ∀ z ∈ L, free z.base
def kx_Met (l : Launch) (y : MethodName) (ws : List Cond) (rm : Room) (Pc : Array Value → State → Prop) (RR : Outcome → State → State → Prop) (mc ms : Nat) (free : Addr → Prop) : Prop :=
  MetFree l y (headSpec ws rm) Pc (fun _ _ _ _ _ => True) (kx_Q RR mc ms free)
/-- one that only returns is met in the kit's own sense -/
theorem kx_Met.met {l : Launch} {y : MethodName} {ws : List Cond} {rm : Room} {Pc : Array Value → State → Prop} {RR : Outcome → State → State → Prop} {mc ms : Nat} {free : Addr → Prop} (h : kx_Met l y ws rm Pc RR mc ms free) (hr : ∀ o st t, RR o st t → ∃ v, o = .returned v) : Met l y ws rm Pc (fun _ st o t => RR o st t) mc ms free := by
  intro p e ha hc hk s m args below hf happ hP hK
  obtain ⟨n, o, h1, h2, h3, h4, h5, L, h6, h7⟩ := h p e ha hc hk s m args below hf happ hP hK
  exact ⟨n, o, h1, h2, h3, h4, L, ⟨hr _ _ _ h4, h5, h6⟩, h7⟩
def kx_Post (RR : Outcome → State → State → Prop) (mc ms : Nat) (free : Addr → Prop) : Pt → Array Value → Outcome → Pt → Prop := fun A a o B =>
  ∃ (g : JFrame) (mk : MethodId) (t : State) (L : List Loc), B.U.heap = t.heap ∧ B.U.vm = t.vm ∧ RR o (A.U.calling g mk a) t ∧ B.locs = A.locs ++ L ∧ (∀ z ∈ L, free z.base) ∧ B.cells = A.cells + mc ∧ B.slots = A.slots + ms
/-! ## what a method owes at its end -/
def kx_MQ (below : List Frame) (RR : Outcome → State → State → Prop) (a : Array Value) (s : State) (mc ms : Nat) (free : Addr → Prop) : State → Prop := fun t =>
  ∃ o, t.status = .running ∧ Ended t below o ∧ kx_Q RR mc ms free a s o t
theorem kx_ofMQ {below : List Frame} {RR : Outcome → State → State → Prop} {a : Array Value} {s : State} {mc ms : Nat} {free : Addr → Prop} {t : State} (h : MQ below (fun _ st o t => RR o st t) a s mc ms free t) : kx_MQ below RR a s mc ms free t := by
  obtain ⟨o, h1, h2, h3, L, ⟨-, h4, h5⟩, h6⟩ := h
  exact ⟨o, h1, h2, h3, h4, L, h5, h6⟩
theorem kx_ofW {l : Launch} {y : MethodName} {ws ws' : List Cond} {rm : Room} {Pc : Array Value → State → Prop} {RR : Outcome → State → State → Prop} {mc ms : Nat} {free : Addr → Prop} {cc : ByteArray} {maxL : Nat} {ret : Option FieldType}
    (hy : plainName y.cls = true) (hw : ws = Cond.code y cc maxL ret :: ws')
    (body : ∀ p e s m args below meth c s₁, BodyLoose p l y (headSpec ws rm) cc maxL ret e s m args below meth c s₁ → c.maxLocals = maxL → Pc args s →
      W p l e (headSpec ws rm).room s m args below meth c s.heap [] 0 0 (kx_MQ below RR args s mc ms free) (entryFrame m args maxL)) : kx_Met l y ws rm Pc RR mc ms free := by
  refine MetFree.of_bodyS (code := cc) (maxLocals := maxL) (ret := ret) hy ?_ ?_
  · intro args s m h hn
    obtain ⟨meth, c, h1, h2, h3, h4, h5, h6, -, -⟩ := Cond.code_spec hn (atoms_spec (ws := ws) h _ (by rw [hw]; exact List.mem_cons_self))
    exact ⟨meth, c, h1, h2, h3, h4, h5, h6⟩
  · intro p e s m args below meth c s₁ B hml hP _
    have hh0 : s₁.heap = s.heap := by rw [B.state]; rfl
    obtain ⟨t, a1, o, b1, b2, b3⟩ := body p e s m args below meth c s₁ B hml hP s₁ hh0 (Stand.of_body B)
    exact ⟨t, o, a1, b1, b2, b3⟩
/-! ## what stands in the tables and outside the system's own cells -/
def nwM : List (String × Nat × MethodName) := [(RX1, 46, yX8_hasBit), (RX1, 103, yX8_spot), (RX0, 43, yX8_hasBit), (RX0, 47, yX8_spot), (RX7, 53, yX8_hasBit), (RX7, 57, yX8_spot), (RX4, 70, yX8_hasBit)]
def nwF : List (Nat × String) := [(112, "kind"), (117, "place")]
def stL : List Nat := [3, 3, 3, 3, 4, 6, 2, 4, 4, 2, 2]
def stB : List (List Int32) := [[103, 101, 116], [108, 101, 116], [97, 115, 107], [112, 117, 116], [119, 97, 115, 104], [114, 101, 115, 117, 108, 116], [116, 111], [102, 114, 111, 109], [119, 105, 116, 104], [98, 121], [111, 102]]
def stR : List (String × Nat × String × Nat) := [(RX3, 112, "get", 0), (RX3, 114, "let", 1), (RX3, 116, "ask", 2), (RX3, 118, "put", 3), (RX3, 120, "wash", 4), (RX3, 122, "result", 5), (RX3, 62, "to", 6), (RX3, 94, "from", 7), (RX3, 99, "with", 8), (RX3, 80, "by", 9), (RX3, 82, "of", 10),
  (RX10, 177, "get", 0), (RX10, 179, "let", 1), (RX10, 181, "ask", 2), (RX10, 183, "put", 3), (RX10, 185, "wash", 4), (RX10, 187, "result", 5), (RX10, 199, "to", 6), (RX10, 208, "from", 7), (RX10, 213, "with", 8), (RX10, 215, "by", 9), (RX10, 217, "of", 10)]
theorem va_AOA.moved {ty : FieldType} {u U : State} (hvm : u.vm.Alike U.vm) (h : va_AOA ty u) : va_AOA ty U := by
  have h0 : (Cond.arrayOver (.array ty)).before #[] u = true := h
  show (Cond.arrayOver (.array ty)).before #[] U = true
  unfold Cond.before Cond.holds at h0 ⊢
  simp only [Cond.value, beq_iff_eq] at h0 ⊢
  cases hc : u.vm.findClass (FieldType.array ty).toString with
  | none => simp [hc] at h0
  | some comp =>
    simp only [hc, Option.bind_some, Option.bind_eq_some_iff, Option.map_eq_some_iff] at h0
    obtain ⟨c, hi, k, hk, hb⟩ := h0
    obtain ⟨k', hk', he⟩ := hvm.2.2 _ _ hk
    have hi2 : (U.vm.classes.findIdx? fun (x : Class) => match x.kind with | .array component _ => component == comp | _ => false) = some c := by
      have e1 := va_idx_bare U.vm comp
      have e2 := va_idx_bare u.vm comp
      have e3 : U.vm.bare = u.vm.bare := by first | exact hvm.bare_eq | exact hvm.bare_eq.symm
      rw [e3] at e1
      exact e1.symm.trans (e2.trans hi)
    have f1 : U.vm.findClass (FieldType.array ty).toString = some comp := by rw [hvm.findClass]; exact hc
    rw [f1, Option.bind_some]
    refine (congrArg (fun o : Option Nat => o.bind (fun c => (U.vm.classes[c]?).map fun (k : Class) => match k.kind with | .array _ ty' => decide (ty' = FieldType.array ty) && decide (U.vm.findClass ("[" ++ (FieldType.array ty).toString) = some c) | _ => false)) hi2).trans ?_
    have f2 : U.vm.findClass ("[" ++ (FieldType.array ty).toString) = u.vm.findClass ("[" ++ (FieldType.array ty).toString) := hvm.findClass ..
    have hk2 : k'.kind = k.kind := by rw [he]
    simp only [Option.bind_some, hk', Option.map_some, hk2, f2]
    exact congrArg some hb
def nwC : List String := [RX9, "java/util/NoSuchElementException"]
def nwD : List MethodName := [{ cls := "java/lang/RuntimeException", name := "<init>", desc := "()V" }, { cls := "java/lang/Exception", name := "<init>", desc := "()V" }, { cls := "java/lang/Throwable", name := "<init>", desc := "()V" }]
def arN : List (Nat × String) := [(1, "[I"), (2, "[B"), (3, "[Z"), (4, "[J"), (5, "[LRightsHouse$Sheet;"), (6, "[[I")]
def KE (G : Gm) (U : State) : Prop := (∀ q ∈ nwC, va_Nw (.castable q q) U) ∧ (∀ q ∈ nwD, va_Nw (.declares q) U) ∧ va_AOA .int U ∧ ∀ q ∈ arN, U.vm.findClass q.2 = some (G.2.2.1 q.1)
theorem KE.step {G : Gm} {s U : State} (h : KE G s) (hW : s.WarmedH U.vm) : KE G U :=
  ⟨fun q hq => va_Nw.warmC hW (h.1 q hq), fun q hq => va_Nw.warmD hW (h.2.1 q hq), h.2.2.1.moved hW.alike, fun q hq => by rw [hW.alike.findClass]; exact h.2.2.2 q hq⟩
def KK (G : Gm) (U : State) : Prop :=
  va_K G.2.1 kCl (kTys G) U ∧ (∀ q ∈ nwM, va_Nw (.methodLinkNest q.1 q.2.1 q.2.2 RX8) U) ∧ (∀ q ∈ nwF, va_Nw (.fieldLinkNest RX10 q.1 RX9 q.2 "I" RX10) U) ∧
  vk_S 11 stL stB G.2.2.2.1 G.2.2.2.2 (fun q => G.1 ≤ q) U U.heap ∧ (∀ q ∈ stR, vk_R q.1 q.2.1 q.2.2.1 (G.2.2.2.1 q.2.2.2) U) ∧
  va_Z "java/lang/String" "COMPACT_STRINGS" "Z" (.int 1) (fun q => G.1 ≤ q) U U.heap ∧
  va_Zq "jdk/internal/util/Preconditions" "SIOOBE_FORMATTER" "Ljava/util/function/BiFunction;" (fun q => G.1 ≤ q) U U.heap ∧
  vx_Zq "java/lang/Throwable" "UNASSIGNED_STACK" "[Ljava/lang/StackTraceElement;" (fun q => G.1 ≤ q) U U.heap ∧
  vx_Zq "java/lang/Throwable" "SUPPRESSED_SENTINEL" "Ljava/util/List;" (fun q => G.1 ≤ q) U U.heap ∧ va_AO RX5 U ∧ KE G U
theorem KK.step {G : Gm} {s U : State} {locs : List Loc} {H : Heap} (h : KK G s) (hW : s.WarmedH U.vm) (hS : va_S (fun q => G.1 ≤ q) s.heap H locs) (hU : U.heap = H) : KK G U := by
  obtain ⟨h1, h2, h3, h4, h5, h6, h7, h8, h9, h10, h11⟩ := h
  have hq : ∀ a : Nat, a < s.heap.size → ¬ (fun q => G.1 ≤ q) a → U.heap[a]? = s.heap[a]? := fun a ha hn => by rw [hU]; exact hS.2.1 a ha hn
  exact ⟨h1.moved hW.alike, fun q hq => va_Nw.warmM hW (h2 q hq), fun q hq => va_Nw.warmF hW (h3 q hq), (h4.kept hq).moved hW.alike, fun q hq => vk_R.warm hW (h5 q hq), (h6.kept hq).moved hW.alike, (h7.kept hq).moved hW.alike, (h8.kept hq).moved hW.alike, (h9.kept hq).moved hW.alike, h10.moved hW.alike, h11.step hW⟩
theorem KK.blind {G : Gm} {U : State} (g : JFrame) (mk : MethodId) (a : Array Value) (h : KK G U) : KK G (U.calling g mk a) := by
  refine KK.step (locs := []) (H := (U.calling g mk a).heap) h ?_ ?_ rfl
  · exact State.WarmedH.refl U
  · exact va_S.rf
/-! ## contracts -/
/-- name, code, locals, answer's type, room -/
abbrev MI : Type := MethodName × ByteArray × Nat × Option FieldType × Room
abbrev MI.word (Y : MI) : Cond := .code Y.1 Y.2.1 Y.2.2.1 Y.2.2.2.1
def kPc (G : Gm) (av : List Value) (M : Mm) : Array Value → State → Prop := fun a U => a = av.toArray ∧ Rp G M U.heap ∧ KK G U
def kRR (G : Gm) (P : Option Value → Mm → Prop) (T : Mm → Prop) : Outcome → State → State → Prop := fun o st t =>
  ((∃ v M', o = .returned v ∧ P v M' ∧ Rp G M' t.heap) ∨ ∃ M', o = .threw (G.1 + 112) ∧ T M' ∧ Rp G M' t.heap) ∧ va_F (fun q => G.1 ≤ q) st t
/-- the method Y, called with av in the memory M, comes back with P, or throws with T -/
def Sp (l : Launch) (G : Gm) (Y : MI) (av : List Value) (M : Mm) (P : Option Value → Mm → Prop) (T : Mm → Prop) : Prop :=
  kx_Met l Y.1 (Y.word :: GT) Y.2.2.2.2 (kPc G av M) (kRR G P T) Y.2.2.2.2.cells Y.2.2.2.2.slots (fun q => G.1 ≤ q)
theorem kPc_blind (G : Gm) (av : List Value) (M : Mm) : FrameBlind (kPc G av M) := fun a U g mk h => ⟨h.1, h.2.1, KK.blind g mk a h.2.2⟩
/-! ## locals -/
/-- a local of which nothing is known -/
abbrev uu : Value := .float 0
def isU (v : Value) : Bool := match v with
  | .float _ => true
  | _ => false
def lvL (ls : Array Slot) (nL : Nat) (L : List Value) : Prop := ls.size = nL ∧ lv_wf ls ∧ ∀ (k : Nat) (v : Value), L[k]? = some v → isU v = false → ls[k]? = some (.val v)
theorem lvL.at {ls : Array Slot} {nL : Nat} {L : List Value} (h : lvL ls nL L) {k : Nat} {v : Value} (hk : L[k]? = some v) (hv : isU v = false) : ls[k]? = some (.val v) := h.2.2 k v hk hv
def asL : Nat → List Value → List (Nat × Value)
  | _, [] => []
  | n, v :: t => if isU v then asL (n + 1) t else (n, v) :: asL (n + 1) t
theorem asL_mem : ∀ (L : List Value) (n : Nat) (q : Nat × Value), q ∈ asL n L ↔ ∃ j : Nat, L[j]? = some q.2 ∧ q.1 = n + j ∧ isU q.2 = false
  | [], n, q => by simp [asL]
  | v :: t, n, q => by
    have ih := asL_mem t (n + 1) q
    constructor
    · intro h
      unfold asL at h
      by_cases hu : isU v = true
      · rw [if_pos hu] at h
        obtain ⟨j, h1, h2, h3⟩ := ih.mp h
        exact ⟨j + 1, by simpa using h1, by omega, h3⟩
      · rw [if_neg hu] at h
        rcases List.mem_cons.mp h with rfl | h
        · exact ⟨0, by simp, by simp, by simpa using hu⟩
        · obtain ⟨j, h1, h2, h3⟩ := ih.mp h
          exact ⟨j + 1, by simpa using h1, by omega, h3⟩
    · rintro ⟨j, h1, h2, h3⟩
      unfold asL
      match j, h1, h2 with
      | 0, h1, h2 =>
        simp at h1
        subst h1
        rw [if_neg (by rw [h3]; decide)]
        exact List.mem_cons.mpr (Or.inl (Prod.ext h2 rfl))
      | j + 1, h1, h2 =>
        have h4 := ih.mpr ⟨j, by simpa using h1, by omega, h3⟩
        by_cases hu : isU v = true
        · rw [if_pos hu]; exact h4
        · rw [if_neg hu]; exact List.mem_cons_of_mem _ h4
theorem lvL.as {ls : Array Slot} {nL : Nat} {L : List Value} (h : lvL ls nL L) : lv_has ls nL (asL 0 L) := by
  refine ⟨h.1, h.2.1, fun q hq => ?_⟩
  obtain ⟨j, h1, h2, h3⟩ := (asL_mem L 0 q).mp hq
  rw [h2, Nat.zero_add]
  exact h.2.2 j q.2 h1 h3
theorem lvL.stored {ls : Array Slot} {nL i : Nat} {v : Value} {L : List Value} (h : lv_has ls nL ((i, v) :: (asL 0 L).filter (fun q => !(q.1 == i) && !(q.1 + 1 == i && q.2.category == 2)))) (hL : ∀ w, 0 < i → L[i - 1]? = some w → w.category = 1) : lvL ls nL (L.set i v) := by
  refine ⟨h.1, h.2.1, fun k w hk hw => ?_⟩
  rw [List.getElem?_set] at hk
  by_cases hik : i = k
  · subst hik
    by_cases hl : i < L.length
    · rw [if_pos rfl, if_pos hl] at hk
      cases hk
      exact h.2.2 (i, v) List.mem_cons_self
    · rw [if_pos rfl, if_neg hl] at hk
      cases hk
  · rw [if_neg hik] at hk
    refine h.2.2 (k, w) (List.mem_cons_of_mem _ (List.mem_filter.mpr ⟨(asL_mem L 0 (k, w)).mpr ⟨k, hk, by simp, hw⟩, ?_⟩))
    have n1 : (k == i) = false := by simp; omega
    by_cases hk2 : k + 1 = i
    · have : w.category = 1 := hL w (by omega) (by rw [← hk2]; simpa using hk)
      simp [n1, this]
    · have n2 : (k + 1 == i) = false := by simp; omega
      simp [n1, n2]
/-! ## a method's body on its way -/
abbrev CX : Type := Program × Launch × Env × Room × State × MethodId × Array Value × List Frame × Method × Code
abbrev CX.p (X : CX) : Program := X.1
abbrev CX.l (X : CX) : Launch := X.2.1
abbrev CX.e (X : CX) : Env := X.2.2.1
abbrev CX.R (X : CX) : Room := X.2.2.2.1
abbrev CX.s (X : CX) : State := X.2.2.2.2.1
abbrev CX.m (X : CX) : MethodId := X.2.2.2.2.2.1
abbrev CX.args (X : CX) : Array Value := X.2.2.2.2.2.2.1
abbrev CX.below (X : CX) : List Frame := X.2.2.2.2.2.2.2.1
abbrev CX.meth (X : CX) : Method := X.2.2.2.2.2.2.2.2.1
abbrev CX.c (X : CX) : Code := X.2.2.2.2.2.2.2.2.2
def XW (X : CX) (H : Heap) (locs : List Loc) (cells slots : Nat) (Q : State → Prop) (g : JFrame) : Prop := W X.p X.l X.e X.R X.s X.m X.args X.below X.meth X.c H locs cells slots Q g
/-- what holds all the way: the machine, the code, the words, what stands outside -/
def Cx (X : CX) (G : Gm) (Y : MI) : Prop :=
  X.p.tables.exec = Jvm.exec ∧ X.c.code = Y.2.1 ∧ X.c.maxLocals = Y.2.2.1 ∧ X.s.vm.findClass Y.1.cls = some X.m.cls ∧ (∀ w ∈ GT, w.before X.args X.s = true) ∧ KK G X.s ∧
  X.meth.sig.returnType = Y.2.2.2.1 ∧ X.meth.locks = false ∧ X.meth.name = Y.1.name ∧ X.R = Y.2.2.2.2
def Go (X : CX) (G : Gm) (nL cells slots : Nat) (Q : State → Prop) (pc : Nat) (L st : List Value) (M : Mm) : Prop :=
  ∀ (H : Heap) (locs : List Loc) (ls : Array Slot), Rp G M H → va_S (fun q => G.1 ≤ q) X.s.heap H locs → lvL ls nL L → XW X H locs cells slots Q (F0 X.m pc ls st)
/-- what the body of Y owes -/
def KQ (X : CX) (G : Gm) (Y : MI) (P : Option Value → Mm → Prop) (T : Mm → Prop) : State → Prop := kx_MQ X.below (kRR G P T) X.args X.s Y.2.2.2.2.cells Y.2.2.2.2.slots (fun q => G.1 ≤ q)
def argL (av : List Value) (n : Nat) : List Value := (av.flatMap fun v => if v.category = 2 then [v, uu] else [v]) ++ List.replicate (n - (lg_sl av).length) uu
theorem lvL_sl : ∀ (vs : List Value) (tl : List Slot) (t2 : List Value) (k : Nat) (v : Value), (∀ (j : Nat) (w : Value), t2[j]? = some w → w = uu) → ((vs.flatMap fun v => if v.category = 2 then [v, uu] else [v]) ++ t2)[k]? = some v → isU v = false → (lg_sl vs ++ tl)[k]? = some (.val v)
  | [], tl, t2, k, v, ht, hk, hv => by rw [ht k v (by simpa using hk)] at hv; cases hv
  | w :: vs, tl, t2, k, v, ht, hk, hv => by
    unfold lg_sl at *
    simp only [List.flatMap_cons, List.append_assoc] at hk ⊢
    by_cases hc : w.category = 2
    · simp only [hc, if_true, List.cons_append, List.nil_append] at hk ⊢
      match k, hk with
      | 0, hk => simp at hk; subst hk; simp
      | 1, hk => simp at hk; rw [← hk] at hv; cases hv
      | k + 2, hk =>
        simp only [List.getElem?_cons_succ] at hk ⊢
        exact lvL_sl vs tl t2 k v ht hk hv
    · simp only [hc, if_false, List.cons_append, List.nil_append] at hk ⊢
      match k, hk with
      | 0, hk => simp at hk; subst hk; simp
      | k + 1, hk =>
        simp only [List.getElem?_cons_succ] at hk ⊢
        exact lvL_sl vs tl t2 k v ht hk hv
theorem lvL_entry (vs : List Value) {n : Nat} (h : (lg_sl vs).length ≤ n) : lvL ((lg_sl vs ++ List.replicate (n - (lg_sl vs).length) Slot.unset).toArray) n (argL vs n) := by
  have h0 := lv_entry vs h
  refine ⟨h0.1, h0.2.1, fun k v hk hv => ?_⟩
  simp only [List.getElem?_toArray]
  refine lvL_sl vs _ _ k v ?_ hk hv
  intro j w hj
  have := List.mem_of_getElem? hj
  exact (List.mem_replicate.mp this).2
/-- a contract out of its body; ht: the method has no handlers -/
theorem Sp.ofT {l : Launch} {G : Gm} {Y : MI} {av : List Value} {M : Mm} {P : Option Value → Mm → Prop} {T : Mm → Prop} (hy : plainName Y.1.cls = true) (hl : (lg_sl av).length ≤ Y.2.2.1)
    (body : ∀ X : CX, X.l = l → Cx X G Y → X.c.exceptionTable.isEmpty = true → Go X G Y.2.2.1 0 0 (KQ X G Y P T) 0 (argL av Y.2.2.1) [] M) : Sp l G Y av M P T := by
  refine kx_ofW (cc := Y.2.1) (maxL := Y.2.2.1) (ret := Y.2.2.2.1) hy rfl ?_
  intro p e s m args below meth c s₁ B hml hv
  obtain ⟨rfl, hP, hK⟩ := hv
  have hts := atoms_spec (ws := Y.word :: GT) B.pre
  have := body (p, l, e, Y.2.2.2.2, s, m, av.toArray, below, meth, c) rfl ⟨B.exec, B.bytes, hml, findClass_of_methodNamed B.named, fun w hw => hts w (List.mem_cons_of_mem _ hw), hK, B.returns, B.notSynchronized, (name_of_methodNamed B.named B.method).1, rfl⟩ (B.noHandlers (hts _ List.mem_cons_self))
  rw [lg_entry_eq]
  exact this s.heap [] _ hP va_S.rf (lvL_entry av hl)
theorem Sp.of {l : Launch} {G : Gm} {Y : MI} {av : List Value} {M : Mm} {P : Option Value → Mm → Prop} {T : Mm → Prop} (hy : plainName Y.1.cls = true) (hl : (lg_sl av).length ≤ Y.2.2.1)
    (body : ∀ X : CX, X.l = l → Cx X G Y → Go X G Y.2.2.1 0 0 (KQ X G Y P T) 0 (argL av Y.2.2.1) [] M) : Sp l G Y av M P T := Sp.ofT hy hl (fun X h C _ => body X h C)
