theorem Rp_growN {G : Gm} {I : Nat → Nat → Int32} {J : Nat → Nat → Int64} {r r' : Nat → Nat → Option Nat} {n k : Nat} {H H1 : Heap} (h : Rp G (I, J, r, n) H) (hn : n < 125) (hk : n + k ≤ 125) (hs : H1.size = H.size + k) (hq : ∀ q : Nat, q < H.size → H1[q]? = H[q]?) (hr : ∀ o, o < n → r' o = r o) (hat : ∀ j, j < k → va_at G.2.1 kCl (G.1 + (n + j), cEl G (I, J, r', n) (n + j) (lay (n + j))) H1) : Rp G (I, J, r', n + k) H1 := by
  obtain ⟨h1, h2, h3, h4⟩ := h
  have hH : H.size = G.1 + n := h3 hn
  refine ⟨fun i x hx => ?_, by show G.1 + (n + k) ≤ H1.size; omega, fun _ => by show H1.size = G.1 + (n + k); omega, hk⟩
  have hi : i < n + k := by have := (List.getElem?_eq_some_iff.mp hx).1; rwa [wsM_len] at this
  rw [wsM_get (M := (I, J, r', n + k)) hi] at hx
  cases hx
  by_cases e : i < n
  · have := (h1.kept (fun k x hx => hq x.1 ((h1 k x hx).lt))) i _ (wsM_get (M := (I, J, r, n)) e)
    rw [show cEl G (I, J, r', n + k) i (lay i) = cEl G (I, J, r, n) i (lay i) from cEl_eq _ rfl rfl (hr i e)]
    exact this
  · have := hat (i - n) (by omega)
    rw [show n + (i - n) = i by omega] at this
    exact this
def cam : List (Nat × Nat) := (List.range 10).map (fun k => (81, k))
theorem g_mna {X : CX} {G : Gm} {nL cells slots : Nat} {Q : State → Prop} {pc : Nat} {L st : List Value} {I : Nat → Nat → Int32} {J : Nat → Nat → Int64} {S : List (Nat × Nat)} (C : Cx X G iX1_init) (d : decode iX1_init.2.1 pc = .ok (.multianewarray 33 2, 4)) (hI : ∀ j, j < 10 → ∀ k, I (82 + j) k = 0) (hS : ∀ x ∈ S, x.1 < 81) (hcs : cells + (1 + 10) ≤ iX1_init.2.2.2.2.cells ∧ slots + (10 + 10 * 250) ≤ iX1_init.2.2.2.2.slots)
    (kk : Go X G nL (cells + 1 + 10) (slots + 10 + 10 * 250) Q (pc + 4) L (.ref (G.1 + 81) :: st) (I, J, rr (cam ++ S), 92)) : Go X G nL cells slots Q pc L (.int 250 :: .int 10 :: st) (I, J, rr S, 81) := fun H locs ls h1 h2 h3 => by
  have hXR : X.R = iX1_init.2.2.2.2 := C.2.2.2.2.2.2.2.2.2
  have hH : H.size = G.1 + 81 := h1.2.2.1 (show (81 : Nat) < 125 by decide)
  intro T hT Xs
  obtain ⟨vm₁, cA, comp, -, fA, fC, hO, -, X', step⟩ := Xs.multianewarray2F (ty := .int) (index := 33) C.1 C.2.2.2.1 (cx_w C (GT_in (by decide +kernel) (by decide +kernel))) (va_AOA.use (cx_KE C).2.2.1) (cx_w C (GT_in (by decide +kernel) (by decide +kernel))) (g := F0 X.m pc ls (.int 250 :: .int 10 :: st)) rfl (by rw [C.2.1]; exact d) rfl (by decide) (by decide) (by decide) (by decide) (by decide) (by decide) (by decide) (by rw [hXR]; exact hcs.1) (by rw [hXR]; exact hcs.2)
  have e10 : (10 : Int32).toNatClampNeg = 10 := by decide
  have e250 : (250 : Int32).toNatClampNeg = 250 := by decide
  rw [e10, e250] at X' step
  generalize hF : Jvm.Free.Multi.fill (T.setVm vm₁) cA comp 10 250 (defaultValue .int) 10 = F at X' step
  have hTh : (T.setVm vm₁).heap = H := hT
  obtain ⟨f1, f2, -, -⟩ := Jvm.Free.Multi.fill_facts (T.setVm vm₁) cA comp 10 250 (defaultValue .int) 10
  rw [hF, hTh] at f1 f2
  have hold : ∀ x : Nat, x < H.size → F.heap[x]? = H[x]? := fun x hx => by
    have := Jvm.Free.Multi.fill_old (T.setVm vm₁) cA comp 10 250 (defaultValue .int) (a := x) (by rw [hTh]; exact hx) 10
    rw [hF, hTh] at this
    exact this
  have hrow : ∀ j : Nat, j < 10 → F.heap[H.size + 1 + j]? = some (arrV comp 250 (fun _ => .int 0)) := fun j hj => by
    have := Jvm.Free.Multi.fill_inner (T.setVm vm₁) cA comp 10 250 (defaultValue .int) 10 j hj
    rw [hF, hTh] at this
    rw [this, ← arrV_new]
    rfl
  rw [vr_outer] at f2
  have hidA : G.2.2.1 6 = cA := Option.some.inj (((cx_KE C).2.2.2 (6, "[[I") (by decide)).symm.trans fA)
  have hidC : G.2.2.1 1 = comp := Option.some.inj (((cx_KE C).2.2.2 (1, "[I") (by decide)).symm.trans fC)
  have hR : Rp G (I, J, rr (cam ++ S), 92) F.heap := by
    refine Rp_growN (k := 11) h1 (by decide) (by decide) (by rw [f1]) hold (fun o ho => ?_) (fun j hj => ?_)
    · funext b
      unfold rr
      have : (o, b) ∈ cam ++ S ↔ (o, b) ∈ S := by
        rw [List.mem_append]
        refine ⟨fun q => q.elim (fun q => ?_) id, Or.inr⟩
        obtain ⟨k, -, hk⟩ := List.mem_map.mp q
        have := congrArg Prod.fst hk
        simp at this
        omega
      by_cases hm : (o, b) ∈ S
      · rw [if_pos hm, if_pos (this.mpr hm)]
      · rw [if_neg hm, if_neg (fun q => hm (this.mp q))]
    · by_cases e : j = 0
      · subst e
        rw [show lay (81 + 0) = (6, 10) by decide +kernel]
        show F.heap[G.1 + (81 + 0)]? = some (vp_cell (G.2.2.1 6) (10, .inr (.inr (.inr (.inr fun k => (rr (cam ++ S) 81 k).map (G.1 + ·))))))
        rw [show G.1 + (81 + 0) = H.size by rw [hH], f2, hidA, vp_cell_q]
        refine congrArg some (congrArg (arrV cA 10) (funext fun k => ?_))
        congr 1
        by_cases hk : k < 10
        · rw [if_pos hk, rr_in (S := cam ++ S) (a := 81) (b := k) (List.mem_append_left _ (List.mem_map.mpr ⟨k, List.mem_range.mpr hk, rfl⟩)), rf_came hk, hH]
          show some (G.1 + 81 + 1 + k) = some (G.1 + (82 + k))
          congr 1; omega
        · rw [if_neg hk, rr_no]
          · rfl
          · intro q
            rcases List.mem_append.mp q with q | q
            · obtain ⟨k2, h2, h3⟩ := List.mem_map.mp q
              have := congrArg Prod.snd h3
              simp at this
              have := List.mem_range.mp h2
              omega
            · have := hS _ q
              simp at this
      · obtain ⟨i, rfl⟩ : ∃ i, j = i + 1 := ⟨j - 1, by omega⟩
        have hi : i < 10 := by omega
        have hll : ∀ i, i < 10 → lay (81 + (i + 1)) = (1, 250) := by decide +kernel
        rw [hll i hi]
        show F.heap[G.1 + (81 + (i + 1))]? = some (vp_cell (G.2.2.1 1) (250, .inl (I (81 + (i + 1)))))
        rw [show G.1 + (81 + (i + 1)) = H.size + 1 + i by rw [hH]; omega, hrow i hi, hidC, vp_cell_i]
        refine congrArg some (congrArg (arrV comp 250) (funext fun k => ?_))
        rw [show 81 + (i + 1) = 82 + i by omega, hI i hi k]
  obtain ⟨t, a1, b1⟩ := kk F.heap locs ls hR (S_grow h2 (by rw [f1]; omega) hold) h3 F rfl X'
  rw [← hH] at a1
  exact ⟨t, step t (by rw [hT]; exact a1), b1⟩
/-! ## the constructors -/
theorem oi_i : Cond.instanceMethod objectInit ∈ GT := GT_in (by decide +kernel) (by decide +kernel)
theorem oi_c : Cond.code objectInit { data := #[177] } 1 none ∈ GT := GT_in (by decide +kernel) (by decide +kernel)
theorem rr_new {S : List (Nat × Nat)} {n : Nat} (h : ∀ x ∈ S, x.1 < n) {a : Nat} (ha : n ≤ a) (b : Nat) : rr S a b = none := rr_no (fun q => by have := h _ q; simp at this; omega)
/-- the fields of a cell that is new -/
def dfl (t : Nat) : Value := match t with
  | 0 => .int 0
  | 1 => .null
  | _ => .long 0
theorem fvs_new {G : Gm} {I : Nat → Nat → Int32} {J : Nat → Nat → Int64} {r : Nat → Nat → Option Nat} {n ci N : Nat} {ty : Nat → FieldType} (h1 : ∀ k, I n k = 0) (h2 : ∀ k, J n k = 0) (h3 : ∀ k, r n k = none) (hN : (kF ci).length = N) (hd : ∀ j, j < N → defaultValue (ty j) = dfl ((kF ci).getD j 0)) : ∀ j, j < N → defaultValue (ty j) = vp_V (fvs G.1 (I, J, r, n) n ci) j := by
  intro j hj
  have e : vp_V (fvs G.1 (I, J, r, n) n ci) j = fvl G.1 (I, J, r, n) n j ((kF ci).getD j 0) := by
    unfold vp_V fvs
    rw [List.getD_eq_getElem?_getD, List.getElem?_map, List.getElem?_range (by rw [hN]; exact hj)]
    rfl
  rw [hd j hj, e]
  unfold fvl dfl
  generalize (kF ci).getD j 0 = t
  match t with
  | 0 => rw [show (I, J, r, n).1 n j = 0 from h1 j]; rfl
  | 1 => rw [show (I, J, r, n).2.2.1 n j = none from h3 j]; rfl
  | t + 2 => rw [show (I, J, r, n).2.1 n j = 0 from h2 j]; rfl
/-- rows from n on are blank -/
def Bk (I : Nat → Nat → Int32) (J : Nat → Nat → Int64) (S : List (Nat × Nat)) (n : Nat) : Prop := (∀ a, n ≤ a → ∀ k, I a k = 0) ∧ (∀ a, n ≤ a → ∀ k, J a k = 0) ∧ ∀ x ∈ S, x.1 < n
theorem Bk.up {I : Nat → Nat → Int32} {J : Nat → Nat → Int64} {S S' : List (Nat × Nat)} {n n' : Nat} (h : Bk I J S n) (hn : n ≤ n') (hS : ∀ x ∈ S', x ∈ S ∨ x.1 < n') : Bk I J S' n' := ⟨fun a ha => h.1 a (by omega), fun a ha => h.2.1 a (by omega), fun x hx => (hS x hx).elim (fun q => by have := h.2.2 x q; omega) id⟩

