/-! ## making cells -/
/-- the references that are set so far -/
def rr (S : List (Nat × Nat)) : Nat → Nat → Option Nat := fun a b => if (a, b) ∈ S then rf0 a b else none
theorem rr_in {S : List (Nat × Nat)} {a b : Nat} (h : (a, b) ∈ S) : rr S a b = rf0 a b := if_pos h
theorem rr_no {S : List (Nat × Nat)} {a b : Nat} (h : (a, b) ∉ S) : rr S a b = none := if_neg h
theorem rr_up {S : List (Nat × Nat)} {o k : Nat} : upR (rr S) o k (rf0 o k) = rr ((o, k) :: S) := by
  funext a b
  unfold upR rr
  by_cases e : a = o ∧ b = k
  · obtain ⟨rfl, rfl⟩ := e
    rw [if_pos ⟨rfl, rfl⟩, if_pos List.mem_cons_self]
  · rw [if_neg e]
    have : (a, b) ∈ (o, k) :: S ↔ (a, b) ∈ S := by
      rw [List.mem_cons]
      constructor
      · rintro (h | h)
        · exact absurd ⟨congrArg Prod.fst h, congrArg Prod.snd h⟩ e
        · exact h
      · exact Or.inr
    by_cases h : (a, b) ∈ S
    · rw [if_pos h, if_pos (this.mpr h)]
    · rw [if_neg h, if_neg (fun q => h (this.mp q))]
theorem wsM_succ (G : Gm) (I : Nat → Nat → Int32) (J : Nat → Nat → Int64) (r : Nat → Nat → Option Nat) (n : Nat) : wsM G (I, J, r, n + 1) = wsM G (I, J, r, n) ++ [(G.1 + n, cEl G (I, J, r, n) n (lay n))] := by
  unfold wsM
  rw [show (I, J, r, n + 1).2.2.2 = n + 1 from rfl, List.range_succ, List.map_append]
  rfl
theorem Rp_grow {G : Gm} {I : Nat → Nat → Int32} {J : Nat → Nat → Int64} {r : Nat → Nat → Option Nat} {n : Nat} {H H1 : Heap} (h : Rp G (I, J, r, n) H) (hn : n < 125) (hs : H1.size = H.size + 1) (hq : ∀ q : Nat, q < H.size → H1[q]? = H[q]?) (hat : va_at G.2.1 kCl (G.1 + n, cEl G (I, J, r, n) n (lay n)) H1) : Rp G (I, J, r, n + 1) H1 := by
  obtain ⟨h1, h2, h3, h4⟩ := h
  have hH : H.size = G.1 + n := h3 hn
  refine ⟨?_, by show G.1 + (n + 1) ≤ H1.size; omega, fun _ => by show H1.size = G.1 + (n + 1); omega, by show n + 1 ≤ 125; omega⟩
  rw [wsM_succ]
  refine (h1.kept (fun k x hx => hq x.1 ((h1 k x hx).lt))).app (fun k x hx => ?_)
  have hz : k < 1 := (List.getElem?_eq_some_iff.mp hx).1
  rw [show k = 0 by omega] at hx
  cases hx
  exact hat
theorem S_grow {A : Nat → Prop} {H0 H H1 : Heap} {locs : List Loc} (hS : va_S A H0 H locs) (hs : H.size ≤ H1.size) (hq : ∀ q : Nat, q < H.size → H1[q]? = H[q]?) : va_S A H0 H1 locs :=
  ⟨Nat.le_trans hS.1 hs, fun x h1 h2 => (hq x (Nat.lt_of_lt_of_le h1 hS.1)).trans (hS.2.1 x h1 h2), hS.2.2⟩
section MK
variable {X : CX} {G : Gm} {Y : MI} {nL cells slots : Nat} {Q : State → Prop} {pc : Nat} {L st : List Value} {I : Nat → Nat → Int32} {J : Nat → Nat → Int64} {r : Nat → Nat → Option Nat} {n : Nat}
/-- Object's constructor -/
theorem g_obj0 {idx a : Nat} (C : Cx X G Y) (d : decode Y.2.1 pc = .ok (.invokespecial idx, 3)) (w1 : Cond.methodLink Y.1.cls idx objectInit ∈ GT) (w2 : Cond.instanceMethod objectInit ∈ GT) (w3 : Cond.code objectInit { data := #[177] } 1 none ∈ GT) (hnL : nL = Y.2.2.1) (hR : 1 ≤ Y.2.2.2.2.frames ∧ 20 ≤ Y.2.2.2.2.locals) (hst : (st.map fun v => v.category).sum ≤ 8) {M : Mm} (kk : Go X G nL cells slots Q (pc + 3) L st M) : Go X G nL cells slots Q pc L (.ref a :: st) M := fun H locs ls h1 h2 h3 => by
  have hXR : X.R = Y.2.2.2.2 := C.2.2.2.2.2.2.2.2.2
  refine W.objInit C.1 C.2.1 C.2.2.2.1 (cx_w C w1) (cx_w C w2) (cx_w C w3) (g := F0 X.m pc ls (.ref a :: st)) rfl (by rw [C.2.2.1, ← hnL]; exact h3.1) rfl d (by rw [hXR]; exact hR.1) (by rw [hXR]; have := hR.2; show 2 * 0 + _ + 12 ≤ _; omega) ?_
  exact kk H locs ls h1 h2 h3
theorem g_newO {ci idx : Nat} {CN : String} {TT : u_T} {N : Nat} {ty0 : Nat → FieldType} (C : Cx X G Y) (d : decode Y.2.1 pc = .ok (.new idx, 3)) (hc : kCl[ci]? = some (CN, TT, N)) (hin : ∀ w ∈ u_ws CN TT N, w ∈ GT) (hty : ∀ k, k < N → parseFieldDescriptor (TT k).2.2.1 = some (ty0 k)) (w1 : Cond.classLink Y.1.cls idx CN ∈ GT) (w2 : Cond.instantiable CN N ∈ GT) (w3 : Cond.initialized CN ∈ GT) (hl : lay n = (0, ci)) (hn : n < 125) (hz : ∀ j, j < N → defaultValue (ty0 j) = vp_V (fvs G.1 (I, J, r, n) n ci) j) (hcs : cells + 1 ≤ Y.2.2.2.2.cells ∧ slots + N ≤ Y.2.2.2.2.slots)
    (kk : Go X G nL (cells + 1) (slots + N) Q (pc + 3) L (.ref (G.1 + n) :: st) (I, J, r, n + 1)) : Go X G nL cells slots Q pc L st (I, J, r, n) := fun H locs ls h1 h2 h3 => by
  have hXR : X.R = Y.2.2.2.2 := C.2.2.2.2.2.2.2.2.2
  have hK : va_K G.2.1 kCl (kTys G) X.s := C.2.2.2.2.2.1.1
  have hKn := hK.1 ci _ hc
  have hH : H.size = G.1 + n := h1.2.2.1 hn
  refine W.newcK C.1 C.2.1 C.2.2.2.1 (cx_w C w1) (cx_w C w2) (cx_w C w3) (g := F0 X.m pc ls st) rfl d (by rw [hXR]; exact hcs.1) (by rw [hXR]; exact hcs.2) hKn.2.1 hH fun H1 kC hkC e1 z1 o1 => ?_
  refine kk H1 locs ls (Rp_grow h1 hn (by rw [z1, hH]) (fun q hq => o1 q (by rw [← hH]; exact hq)) ?_) (S_grow h2 (by rw [z1, hH]; omega) (fun q hq => o1 q (by rw [← hH]; exact hq))) h3
  rw [hl]
  exact ⟨_, hc, (u_born ty0 (ws := GT) C.2.2.2.2.1 hin hKn hkC e1 hty).to hz⟩
theorem g_newA {t : ArrayType} {k m : Nat} (C : Cx X G Y) (d : decode Y.2.1 pc = .ok (.newarray t, 2)) (w : Cond.arrayClass (newarray.typeOf t) ∈ GT) (hk : (k, "[" ++ (newarray.typeOf t).toString) ∈ arN) {v : Int32} (hv : v = nI m) (hm : m < 2 ^ 20) (hb : componentBytes (newarray.typeOf t) ≤ 8) (hn : n < 125) (hat : ∀ cA : ClassId, G.2.2.1 k = cA → vp_cell cA ((cEl G (I, J, r, n) n (lay n)).elim (fun a => a.2) (fun _ => (0, .inl (fun _ => 0)))) = arrV cA m (fun _ => defaultValue (newarray.typeOf t)) ∧ ∃ a, cEl G (I, J, r, n) n (lay n) = .inl (cA, a)) (hcs : cells + 1 ≤ Y.2.2.2.2.cells ∧ slots + m ≤ Y.2.2.2.2.slots)
    (kk : Go X G nL (cells + 1) (slots + m) Q (pc + 2) L (.ref (G.1 + n) :: st) (I, J, r, n + 1)) : Go X G nL cells slots Q pc L (.int v :: st) (I, J, r, n) := fun H locs ls h1 h2 h3 => by
  subst hv
  have hXR : X.R = Y.2.2.2.2 := C.2.2.2.2.2.2.2.2.2
  have hH : H.size = G.1 + n := h1.2.2.1 hn
  refine va_newaK C.1 C.2.1 (cx_w C w) (g := F0 X.m pc ls (.int (nI m) :: st)) rfl d rfl (nI_pos (by omega)) (N := m) (nI_clamp (by omega)) ?_ (by rw [hXR]; exact hcs.1) (by rw [hXR]; exact hcs.2) hH fun H1 cA e1 z1 o1 hAr hNm => ?_
  · calc m * componentBytes (newarray.typeOf t) ≤ m * 8 := Nat.mul_le_mul_left _ hb
      _ ≤ 536870912 := by omega
  · have hid : G.2.2.1 k = cA := Option.some.inj (((cx_KE C).2.2.2 _ hk).symm.trans hNm)
    refine kk H1 locs ls (Rp_grow h1 hn (by rw [z1, hH]) (fun q hq => o1 q (by rw [← hH]; exact hq)) ?_) (S_grow h2 (by rw [z1, hH]; omega) (fun q hq => o1 q (by rw [← hH]; exact hq))) h3
    obtain ⟨g1, a, g2⟩ := hat cA hid
    rw [g2] at g1 ⊢
    show H1[G.1 + n]? = some (vp_cell cA a)
    rw [e1]
    exact congrArg some g1.symm
theorem g_newI {m : Nat} (C : Cx X G Y) (d : decode Y.2.1 pc = .ok (.newarray .int, 2)) {v : Int32} (hv : v = nI m) (hm : m < 2 ^ 20) (hn : n < 125) (hl : lay n = (1, m)) (hz : ∀ k, I n k = 0) (hcs : cells + 1 ≤ Y.2.2.2.2.cells ∧ slots + m ≤ Y.2.2.2.2.slots)
    (kk : Go X G nL (cells + 1) (slots + m) Q (pc + 2) L (.ref (G.1 + n) :: st) (I, J, r, n + 1)) : Go X G nL cells slots Q pc L (.int v :: st) (I, J, r, n) := by
  refine g_newA (t := .int) (k := 1) C d (GT_in (by decide +kernel) (by decide +kernel)) (by decide) hv hm (by decide) hn (fun cA hcA => ?_) hcs kk
  rw [hl]
  refine ⟨?_, (m, .inl (I n)), by show Sum.inl (G.2.2.1 1, m, _) = _; rw [hcA]⟩
  show vp_cell cA (m, .inl (I n)) = _
  rw [vp_cell_i]
  exact congrArg (arrV cA m) (funext fun j => by rw [hz j]; rfl)
theorem g_newB {m : Nat} (C : Cx X G Y) (d : decode Y.2.1 pc = .ok (.newarray .byte, 2)) {v : Int32} (hv : v = nI m) (hm : m < 2 ^ 20) (hn : n < 125) (hl : lay n = (2, m)) (hz : ∀ k, I n k = 0) (hcs : cells + 1 ≤ Y.2.2.2.2.cells ∧ slots + m ≤ Y.2.2.2.2.slots)
    (kk : Go X G nL (cells + 1) (slots + m) Q (pc + 2) L (.ref (G.1 + n) :: st) (I, J, r, n + 1)) : Go X G nL cells slots Q pc L (.int v :: st) (I, J, r, n) := by
  refine g_newA (t := .byte) (k := 2) C d (GT_in (by decide +kernel) (by decide +kernel)) (by decide) hv hm (by decide) hn (fun cA hcA => ?_) hcs kk
  rw [hl]
  refine ⟨?_, (m, .inl (I n)), by show Sum.inl (G.2.2.1 2, m, _) = _; rw [hcA]⟩
  show vp_cell cA (m, .inl (I n)) = _
  rw [vp_cell_i]
  exact congrArg (arrV cA m) (funext fun j => by rw [hz j]; rfl)
theorem g_newZ {m : Nat} (C : Cx X G Y) (d : decode Y.2.1 pc = .ok (.newarray .boolean, 2)) {v : Int32} (hv : v = nI m) (hm : m < 2 ^ 20) (hn : n < 125) (hl : lay n = (3, m)) (hz : ∀ k, I n k = 0) (hcs : cells + 1 ≤ Y.2.2.2.2.cells ∧ slots + m ≤ Y.2.2.2.2.slots)
    (kk : Go X G nL (cells + 1) (slots + m) Q (pc + 2) L (.ref (G.1 + n) :: st) (I, J, r, n + 1)) : Go X G nL cells slots Q pc L (.int v :: st) (I, J, r, n) := by
  refine g_newA (t := .boolean) (k := 3) C d (GT_in (by decide +kernel) (by decide +kernel)) (by decide) hv hm (by decide) hn (fun cA hcA => ?_) hcs kk
  rw [hl]
  refine ⟨?_, (m, .inl (I n)), by show Sum.inl (G.2.2.1 3, m, _) = _; rw [hcA]⟩
  show vp_cell cA (m, .inl (I n)) = _
  rw [vp_cell_i]
  exact congrArg (arrV cA m) (funext fun j => by rw [hz j]; rfl)
theorem g_newL {m : Nat} (C : Cx X G Y) (d : decode Y.2.1 pc = .ok (.newarray .long, 2)) {v : Int32} (hv : v = nI m) (hm : m < 2 ^ 20) (hn : n < 125) (hl : lay n = (4, m)) (hz : ∀ k, J n k = 0) (hcs : cells + 1 ≤ Y.2.2.2.2.cells ∧ slots + m ≤ Y.2.2.2.2.slots)
    (kk : Go X G nL (cells + 1) (slots + m) Q (pc + 2) L (.ref (G.1 + n) :: st) (I, J, r, n + 1)) : Go X G nL cells slots Q pc L (.int v :: st) (I, J, r, n) := by
  refine g_newA (t := .long) (k := 4) C d (GT_in (by decide +kernel) (by decide +kernel)) (by decide) hv hm (by decide) hn (fun cA hcA => ?_) hcs kk
  rw [hl]
  refine ⟨?_, (m, .inr (.inl (J n))), by show Sum.inl (G.2.2.1 4, m, _) = _; rw [hcA]⟩
  show vp_cell cA (m, .inr (.inl (J n))) = _
  rw [vp_cell_l]
  exact congrArg (arrV cA m) (funext fun j => by rw [hz j]; rfl)
/-- an array of sheets -/
theorem g_newQ {idx m : Nat} (C : Cx X G Y) (d : decode Y.2.1 pc = .ok (.anewarray idx, 3)) (w : Cond.classLink Y.1.cls idx RX5 ∈ GT) {v : Int32} (hv : v = nI m) (hm : m < 2 ^ 20) (hn : n < 125) (hl : lay n = (5, m)) (hz : ∀ k, r n k = none) (hcs : cells + 1 ≤ Y.2.2.2.2.cells ∧ slots + m ≤ Y.2.2.2.2.slots)
    (kk : Go X G nL (cells + 1) (slots + m) Q (pc + 3) L (.ref (G.1 + n) :: st) (I, J, r, n + 1)) : Go X G nL cells slots Q pc L (.int v :: st) (I, J, r, n) := fun H locs ls h1 h2 h3 => by
  subst hv
  have hXR : X.R = Y.2.2.2.2 := C.2.2.2.2.2.2.2.2.2
  have hH : H.size = G.1 + n := h1.2.2.1 hn
  have hcm : (nI m).toNatClampNeg = m := nI_clamp (by omega)
  have hAO : va_AO RX5 X.s := C.2.2.2.2.2.1.2.2.2.2.2.2.2.2.2.1
  refine W.anew C.1 C.2.1 C.2.2.2.1 (cx_w C w) (va_AO.use hAO) (g := F0 X.m pc ls (.int (nI m) :: st)) rfl d rfl (nI_pos (by omega)) (by rw [hcm]; omega) (by rw [hXR]; exact hcs.1) (by rw [hXR, hcm]; exact hcs.2) fun cA kA comp f1 f2 f3 f4 => ?_
  rw [hcm]
  generalize hH1 : H.push ({ cls := cA, slots := Array.replicate m .null, vm := .none } : Cell) = H1
  have z1 : H1.size = H.size + 1 := by rw [← hH1, Array.size_push]
  have e1 : H1[H.size]? = some (arrV cA m (fun _ => .null)) := by rw [← hH1, Array.getElem?_push_size, ← arrV_new]
  have o1 : ∀ q : Nat, q < H.size → H1[q]? = H[q]? := fun q hq => by rw [← hH1, Array.getElem?_push, if_neg (Nat.ne_of_lt hq)]
  have hid : G.2.2.1 5 = cA := Option.some.inj (((cx_KE C).2.2.2 (5, "[LRightsHouse$Sheet;") (by decide)).symm.trans f1)
  have := kk H1 locs ls (Rp_grow h1 hn z1 o1 ?_) (S_grow h2 (by omega) o1) h3
  · rw [hH] ; exact this
  · rw [hl]
    show H1[G.1 + n]? = some (vp_cell (G.2.2.1 5) (m, .inr (.inr (.inr (.inr fun k => (r n k).map (G.1 + ·))))))
    rw [← hH, e1, hid, vp_cell_q]
    exact congrArg some (congrArg (arrV cA m) (funext fun j => by rw [hz j]; rfl))
end MK
