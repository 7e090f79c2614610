/-! ## what holds at the law's entry -/
def stI : List Nat := [112, 114, 116, 118, 120, 122, 62, 94, 99, 80, 82]
def tmS (i : Nat) : Term := .string RX3 (stI.getD i 0)
abbrev FL : List Cond := flatC (Jvm.Cond.and given_1 narrow_1)
theorem fs_len : ∀ i, i < 11 → stL.getD i 0 < 2 ^ 31 := by decide +kernel
theorem fs_ex : ∀ i, i < 11 → Cond.exactly (tmS i) "java/lang/String" ∈ FL := by decide +kernel
theorem fs_co : ∀ i, i < 11 → Cond.eq (.field (tmS i) "java/lang/String" "coder" "B") (.int 0) ∈ FL := by decide +kernel
theorem fs_ar : ∀ i, i < 11 → Cond.arrayOf (.field (tmS i) "java/lang/String" "value" "[B") .byte ∈ FL := by decide +kernel
theorem fs_le : ∀ i, i < 11 → Cond.eq (.length (.field (tmS i) "java/lang/String" "value" "[B")) (.int (Int32.ofNat (stL.getD i 0))) ∈ FL := by decide +kernel
theorem fs_el : ∀ i, i < 11 → ∀ j, j < stL.getD i 0 → Cond.eq (.elem (.field (tmS i) "java/lang/String" "value" "[B") (.int (Int32.ofNat j))) (.int ((stB.getD i []).getD j 0)) ∈ FL := by decide +kernel
def neI : List Nat := [0, 47, 55, 64, 75, 89, 100, 114, 129, 143, 158]
theorem fs_nx : ∀ j, j < 11 → ∀ i, i < j → FL[neI.getD j 0 + i]? = some (Cond.not (Cond.eq (tmS i) (tmS j))) := by decide +kernel
theorem fs_ne (i : Nat) (hi : i < 11) (j : Nat) (hj : j < 11) : i = j ∨ Cond.not (Cond.eq (tmS i) (tmS j)) ∈ FL ∨ Cond.not (Cond.eq (tmS j) (tmS i)) ∈ FL := by
  by_cases h : i < j
  · exact Or.inr (Or.inl (List.mem_of_getElem? (fs_nx j hj i h)))
  · by_cases h' : j < i
    · exact Or.inr (Or.inr (List.mem_of_getElem? (fs_nx i hi j h')))
    · exact Or.inl (by omega)
theorem fs_r3 : ∀ q ∈ stR, q.1 = RX3 → q.2.2.2 < 11 ∧ q.2.1 = stI.getD q.2.2.2 0 := by decide +kernel
theorem fs_10 : ∀ q ∈ stR, q.1 = RX3 ∨ (q.2.2.2 < 11 ∧ Cond.eq (tmS q.2.2.2) (.string q.1 q.2.1) ∈ FL) := by decide +kernel
theorem fs_rf : ∀ q ∈ stR, Cond.stringRef q.1 q.2.1 q.2.2.1 ∈ tables_1 := by decide +kernel
theorem nm_w : ∀ q ∈ nwM, Cond.methodLinkNest q.1 q.2.1 q.2.2 RX8 ∈ tables_1 := by decide +kernel
theorem nf_w : ∀ q ∈ nwF, Cond.fieldLinkNest RX10 q.1 RX9 q.2 "I" RX10 ∈ tables_1 := by decide +kernel
theorem nc_w : ∀ q ∈ nwC, Cond.castable q q ∈ tables_1 := by decide +kernel
theorem nd_w : ∀ q ∈ nwD, Cond.declares q ∈ tables_1 := by decide +kernel
section K0
variable {s : State} {b : Nat}
theorem arr_of {ty : FieldType} (h : (Cond.arrayClass ty).before #[Value.ref b] s = true) : ∃ cA, s.vm.findClass ("[" ++ ty.toString) = some cA ∧ ArrOfT s cA ty := by
  obtain ⟨c, k, comp, h1, h2, h3⟩ := Cond.arrayClass_spec h
  exact ⟨c, h1, fun n z => ⟨fun k h => (by cases h), k, h2, comp, h3⟩⟩
theorem arr_sh (h : (Cond.arrayOver (.object RX5)).before #[Value.ref b] s = true) : ∃ cA, s.vm.findClass "[LRightsHouse$Sheet;" = some cA ∧ ArrOfT s cA (.object RX5) ∧ va_RA s cA (.object RX5) := by
  obtain ⟨comp, c, k, h1, h2, h3, h4, h5⟩ := Cond.arrayOver_spec h
  exact ⟨c, h5, fun n z => ⟨fun k h => (by cases h), k, h3, comp, h4⟩, k, comp, h3, h4, h1, h5⟩
theorem arr_aa (h : (Cond.arrayOver (.array .int)).before #[Value.ref b] s = true) : ∃ cA, s.vm.findClass "[[I" = some cA ∧ ArrOfT s cA (.array .int) := by
  have h0 : (Cond.arrayOver (.array .int)).before #[] s = true := h
  unfold Cond.before Cond.holds at h0
  simp only [Cond.value, beq_iff_eq] at h0
  cases hc : s.vm.findClass (FieldType.array .int).toString with
  | none => simp [hc] at h0
  | some comp =>
    simp only [hc, Option.bind_some, Option.bind_eq_some_iff, Option.map_eq_some_iff] at h0
    obtain ⟨c, hi, k, hk, hb⟩ := h0
    cases hkd : k.kind with
    | array cc ty' =>
      rw [hkd] at hb
      simp only [Bool.and_eq_true, decide_eq_true_eq] at hb
      obtain ⟨e1, e2⟩ := hb
      subst e1
      exact ⟨c, e2, fun n z => ⟨fun k h => (by cases h), k, hk, cc, hkd⟩⟩
    | _ => rw [hkd] at hb; simp at hb
theorem cls_of (hts : ∀ w ∈ lw_tbl, w.before #[Value.ref b] s = true) : ∀ c : Nat, ∃ p : ClassId × (Nat → Nat), ∀ q : vw_C, kCl[c]? = some q → u_Kn s q.1 q.2.1 q.2.2 p.1 p.2 := by
  have hk : ∀ {C : String} {T : u_T} {N n : Nat}, (∀ w ∈ u_ws C T N, w ∈ GT) → Cond.instantiable C n ∈ lw_tbl → ∃ p : ClassId × (Nat → Nat), u_Kn s C T N p.1 p.2 := by
    intro C T N n hin hi
    obtain ⟨cC, iS, h⟩ := u_known hts (fun w hw => (List.mem_filter.mp (hin w hw)).1) (hts _ hi)
    exact ⟨(cC, iS), h⟩
  have wrap : ∀ {c : Nat} {q : vw_C}, kCl[c]? = some q → (∃ p : ClassId × (Nat → Nat), u_Kn s q.1 q.2.1 q.2.2 p.1 p.2) → ∃ p : ClassId × (Nat → Nat), ∀ q : vw_C, kCl[c]? = some q → u_Kn s q.1 q.2.1 q.2.2 p.1 p.2 := by
    rintro c q hq ⟨p, hp⟩
    exact ⟨p, fun q' hq' => by rw [hq] at hq'; cases hq'; exact hp⟩
  intro c
  match c with
  | 0 => exact wrap (q := (RX0, TX0, 4)) rfl (hk (n := 4) inGX0 (by decide +kernel))
  | 1 => exact wrap (q := (RX1, TX1, 11)) rfl (hk (n := 11) inGX1 (by decide +kernel))
  | 2 => exact wrap (q := (RX2, TX2, 3)) rfl (hk (n := 3) inGX2 (by decide +kernel))
  | 3 => exact wrap (q := (RX3, TX3, 11)) rfl (hk (n := 11) inGX3 (by decide +kernel))
  | 4 => exact wrap (q := (RX4, TX4, 9)) rfl (hk (n := 9) inGX4 (by decide +kernel))
  | 5 => exact wrap (q := (RX5, TX5, 6)) rfl (hk (n := 6) inGX5 (by decide +kernel))
  | 6 => exact wrap (q := (RX6, TX6, 2)) rfl (hk (n := 2) inGX6 (by decide +kernel))
  | 7 => exact wrap (q := (RX7, TX7, 5)) rfl (hk (n := 5) inGX7 (by decide +kernel))
  | 8 => exact wrap (q := (RX8, TX8, 9)) rfl (hk (n := 9) inGX8 (by decide +kernel))
  | 9 => exact wrap (q := (RX9, TS9, 2)) rfl (hk (n := 8) inGX9 (by decide +kernel))
  | 10 => exact wrap (q := (RX10, TX10, 35)) rfl (hk (n := 35) inGX10 (by decide +kernel))
  | n + 11 => exact ⟨(0, id), fun q hq => by
      have : n + 11 < kCl.length := (List.getElem?_eq_some_iff.mp hq).1
      have h11 : kCl.length = 11 := rfl
      omega⟩
set_option maxHeartbeats 4000000 in
theorem KK0 (hts : ∀ w ∈ lw_tbl, w.before #[Value.ref b] s = true) (hgv : (Jvm.Cond.and given_1 narrow_1).before #[Value.ref b] s = true) : ∃ G : Gm, G.1 = s.heap.size ∧ KK G s := by
  have hT : ∀ w ∈ tables_1, w.before #[Value.ref b] s = true := fun w hw => hts w (List.mem_append_right _ hw)
  have hF := flat_of_before _ hgv
  have hA : ∀ a : Nat, a < s.heap.size → ¬ (fun q => s.heap.size ≤ q) a := fun a ha q => by
    have : s.heap.size ≤ a := q
    omega
  obtain ⟨f, hf⟩ := Classical.skolem.mp (cls_of hts)
  obtain ⟨aI, i1, i2⟩ := arr_of (ty := .int) (hT _ (by decide +kernel))
  obtain ⟨aB, b1, b2⟩ := arr_of (ty := .byte) (hT _ (by decide +kernel))
  obtain ⟨aZ, z1, z2⟩ := arr_of (ty := .boolean) (hT _ (by decide +kernel))
  obtain ⟨aJ, j1, j2⟩ := arr_of (ty := .long) (hT _ (by decide +kernel))
  obtain ⟨aS, s1, s2, s3⟩ := arr_sh (hT _ (by decide +kernel))
  obtain ⟨aA, a1, a2⟩ := arr_aa (hT _ (by decide +kernel))
  obtain ⟨adK, adV, hS, hE⟩ := vk_Sof (args := #[Value.ref b]) (s := s) (N := 11) (tm := tmS) (len := stL) (byt := stB) (A := fun q => s.heap.size ≤ q) fs_len (fun i hi => hF _ (fs_ex i hi)) (fun i hi => hF _ (fs_co i hi)) (fun i hi => hF _ (fs_ar i hi)) (fun i hi => hF _ (fs_le i hi)) (fun i hi j hj => hF _ (fs_el i hi j hj)) (fun i j hi hj hne => ((fs_ne i hi j hj).resolve_left hne).imp (hF _) (hF _)) hA
  let ids : Nat → ClassId := fun k => match k with
    | 0 => aI | 1 => aI | 2 => aB | 3 => aZ | 4 => aJ | 5 => aS | _ => aA
  let G : Gm := (s.heap.size, (fun c => (f c).1, fun c => (f c).2), ids, adK, adV)
  have hini : ∀ C, Cond.initialized C ∈ tables_1 → (Cond.initialized C).before #[Value.ref b] s = true := fun C h => hT _ h
  refine ⟨G, rfl, ⟨fun c q hq => hf c q hq, fun k q hq => ?_⟩, fun q hq => va_Nw.of rfl (hT _ (nm_w q hq)), fun q hq => va_Nw.of rfl (hT _ (nf_w q hq)), hS, fun q hq => ?_, ?_, ?_, ?_, ?_, va_AO.of (hT _ (by decide +kernel)), fun q hq => va_Nw.of rfl (hT _ (nc_w q hq)), fun q hq => va_Nw.of rfl (hT _ (nd_w q hq)), ?_, fun q hq => ?_⟩
  · have hk : k < 7 := (List.getElem?_eq_some_iff.mp hq).1
    have : k = 0 ∨ k = 1 ∨ k = 2 ∨ k = 3 ∨ k = 4 ∨ k = 5 ∨ k = 6 := by omega
    rcases this with rfl | rfl | rfl | rfl | rfl | rfl | rfl
    · cases hq; exact ⟨i2, i1⟩
    · cases hq; exact ⟨i2, i1⟩
    · cases hq; exact ⟨b2, b1⟩
    · cases hq; exact ⟨z2, z1⟩
    · cases hq; exact ⟨j2, j1⟩
    · cases hq; exact ⟨s2, s3⟩
    · cases hq; exact ⟨a2, a1⟩
  · refine vk_R.of (hT _ (fs_rf q hq)) ?_
    rcases fs_10 q hq with h | ⟨h1, h2⟩
    · obtain ⟨h3, h4⟩ := fs_r3 q hq h
      have := hE q.2.2.2 h3
      unfold tmS at this
      rw [h, h4]
      exact this
    · exact va_eqR (hF _ h2) (hE q.2.2.2 h1)
  · exact va_Zof (hT _ (by decide +kernel)) (hini _ (by decide +kernel)) (va_eqi (hF _ (by decide +kernel))) hA
  · exact va_Zqof (hT _ (by decide +kernel)) (hini _ (by decide +kernel)) (hF _ (by decide +kernel)) hA
  · exact vx_Zqof (hT _ (by decide +kernel)) (hini _ (by decide +kernel)) (hF _ (by decide +kernel)) hA
  · exact vx_Zqof (hT _ (by decide +kernel)) (hini _ (by decide +kernel)) (hF _ (by decide +kernel)) hA
  · exact (hT (Cond.arrayOver (.array .int)) (by decide +kernel))
  · have : q = (1, "[I") ∨ q = (2, "[B") ∨ q = (3, "[Z") ∨ q = (4, "[J") ∨ q = (5, "[LRightsHouse$Sheet;") ∨ q = (6, "[[I") := by simpa [arN] using hq
    rcases this with rfl | rfl | rfl | rfl | rfl | rfl
    · exact i1
    · exact b1
    · exact z1
    · exact j1
    · exact s1
    · exact a1
end K0
