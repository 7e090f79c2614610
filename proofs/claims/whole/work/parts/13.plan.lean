section RV
variable {X : CX} {G : Gm} {Y : MI} {nL cells slots : Nat} {Q : State → Prop} {pc : Nat} {L st : List Value} {I : Nat → Nat → Int32} {J : Nat → Nat → Int64} {r : Nat → Nat → Option Nat} {n : Nat}
theorem g_getIv {ci o k idx : Nat} {CN : String} {TT : u_T} {N : Nat} {v : Int32} (C : Cx X G Y) (d : decode Y.2.1 pc = .ok (.getfield idx, 3)) (hc : kCl[ci]? = some (CN, TT, N)) (hin : ∀ w ∈ u_ws CN TT N, w ∈ GT) (hk : k < N) (hlk : Cond.fieldLink Y.1.cls idx (TT k).1 (TT k).2.1 (TT k).2.2.1 ∈ GT) (hl : lay o = (0, ci)) (ho : o < n) (ht : (kF ci)[k]? = some 0) (hv : I o k = v) (kk : Go X G nL cells slots Q (pc + 3) L (.int v :: st) (I, J, r, n)) : Go X G nL cells slots Q pc L (.ref (G.1 + o) :: st) (I, J, r, n) := by
  subst hv; exact g_getI C d hc hin hk hlk hl ho ht kk
theorem g_ialdv {o m : Nat} {i v : Int32} (j : Nat) (C : Cx X G Y) (d : decode Y.2.1 pc = .ok (.iaload, 1)) (hl : lay o = (1, m)) (ho : o < n) (hm : m < 2 ^ 31) (hi : i = nI j) (hj : j < m) (hv : I o j = v) (kk : Go X G nL cells slots Q (pc + 1) L (.int v :: st) (I, J, r, n)) : Go X G nL cells slots Q pc L (.int i :: .ref (G.1 + o) :: st) (I, J, r, n) := by
  subst hv; exact g_iald j C d hl ho hm hi hj kk
end RV
theorem ho_sh {p : Nat} (h : p < 10) : 6 + 6 * p < 125 := by omega
theorem tab_lo {x : Int32} (h : x < 0) : x.toInt < 0 := by
  have := Int32.lt_iff_toInt_lt.mp h
  simpa using this
theorem tab_hi {x : Int32} {n : Nat} (h : nI (n + 1) ≤ x) (hn : n + 1 < 2 ^ 31) : (n : Int) < x.toInt := by
  have := Int32.le_iff_toInt_le.mp h
  rw [nI_toInt hn] at this
  omega
theorem up1_eq (I : Nat → Nat → Int32) (o k : Nat) (x : Int32) (a b : Nat) : up1 I o k x a b = if a = o ∧ b = k then x else I a b := rfl
theorem nI_ge_dead {k n : Nat} (h : nI n ≤ nI k) (hk : k < n) (hn : n < 2 ^ 31) : False := absurd (nI_l' h (by omega) (by omega)) (by omega)
set_option maxHeartbeats 1000000 in
theorem s_allLines {l : Launch} {G : Gm} {I : Nat → Nat → Int32} {J : Nat → Nat → Int64} {n : Nat} (hn : I 3 2 = nI n) (hn10 : n ≤ 10) : Sp l G iX2_allLines [.ref (G.1 + 3)] (mm I J) (RetI (it (fun p a => a + I (6 + 6 * p) 5) n 0) (mm I J)) noT := by
  refine Sp.of (by decide +kernel) (Nat.le_of_ble_eq_true rfl) ?_
  intro X hXl C
  subst hXl
  show Go X G 3 0 0 _ 0 [.ref (G.1 + 3), uu, uu] [] (mm I J)
  have loop : ∀ k : Nat, k ≤ n → Go X G 3 0 0 (KQ X G iX2_allLines (RetI (it (fun p a => a + I (6 + 6 * p) 5) n 0) (mm I J)) noT) 4 [.ref (G.1 + 3), .int (it (fun p a => a + I (6 + 6 * p) 5) k 0), .int (nI k)] [] (mm I J) := by
    refine loopN n ?_ ?_
    · show Go X G 3 0 0 _ 4 _ [] _
      refine g_iload_n C dX2_allLines_4 rfl ?_
      refine g_aload_n C dX2_allLines_5 rfl ?_
      refine g_getIv (ci := 2) (k := 2) (v := nI n) C dX2_allLines_6 rfl inGX2 (by decide) fwX2_22 ly_3 (by decide) rfl hn ?_
      refine g_icmp_ge 30 C dX2_allLines_9 (by decide) (fun c9 => ?_) (fun c9 => ?_)
      · refine g_iload_n C dX2_allLines_30 rfl ?_
        exact e_I C dX2_allLines_31 rfl rfl rfl rfl rfl
      · exact absurd (Int32.le_refl _) c9
    · intro k hk ih
      show Go X G 3 0 0 _ 4 _ [] _
      refine g_iload_n C dX2_allLines_4 rfl ?_
      refine g_aload_n C dX2_allLines_5 rfl ?_
      refine g_getIv (ci := 2) (k := 2) (v := nI n) C dX2_allLines_6 rfl inGX2 (by decide) fwX2_22 ly_3 (by decide) rfl hn ?_
      refine g_icmp_ge 30 C dX2_allLines_9 (by decide) (fun c9 => ?_) (fun c9 => ?_)
      · exact (nI_ge_dead (n := n) c9 hk (by omega)).elim
      · refine g_iload_n C dX2_allLines_12 rfl ?_
        refine g_aload_n C dX2_allLines_13 rfl ?_
        refine g_getR (ci := 2) (k := 1) (q := 5) C dX2_allLines_14 rfl inGX2 (by decide) fwX2_17 ly_3 (by decide) rfl rfl ?_
        refine g_iload_n C dX2_allLines_17 rfl ?_
        refine g_aald (q := 6 + 6 * k) k C dX2_allLines_18 ly_5 (Or.inl ⟨rfl, rfl⟩) (by decide) (by decide) rfl (show k < 10 by omega) (rf_shs (show k < 10 by omega)) ?_
        refine g_getI (ci := 5) (k := 5) C dX2_allLines_19 rfl inGX5 (by decide) fwX2_26 (ly_sh (show k < 10 by omega)) (by omega) rfl ?_
        refine g_iadd C dX2_allLines_22 ?_
        refine g_istore_1 C dX2_allLines_23 (by decide) ?_
        refine g_iinc_2 C dX2_allLines_24 (nI_1 k) (by decide) ?_
        refine g_goto 4 C dX2_allLines_27 (by decide) ?_
        exact ih
  refine g_iconst (v := 0) C dX2_allLines_0 (by decide) ?_
  refine g_istore_1 C dX2_allLines_1 (by decide) ?_
  refine g_iconst (v := 0) C dX2_allLines_2 (by decide) ?_
  refine g_istore_2 C dX2_allLines_3 (by decide) ?_
  exact loop 0 (Nat.zero_le _)
set_option maxHeartbeats 1000000 in
theorem s_allGrants {l : Launch} {G : Gm} {I : Nat → Nat → Int32} {J : Nat → Nat → Int64} {n : Nat} (hn : I 3 2 = nI n) (hn10 : n ≤ 10) : Sp l G iX2_allGrants [.ref (G.1 + 3)] (mm I J) (RetI (it (fun p a => a + bc (I 4 p)) n 0) (mm I J)) noT := by
  refine Sp.of (by decide +kernel) (Nat.le_of_ble_eq_true rfl) ?_
  intro X hXl C
  subst hXl
  show Go X G 3 0 0 _ 0 [.ref (G.1 + 3), uu, uu] [] (mm I J)
  have loop : ∀ k : Nat, k ≤ n → Go X G 3 0 0 (KQ X G iX2_allGrants (RetI (it (fun p a => a + bc (I 4 p)) n 0) (mm I J)) noT) 4 [.ref (G.1 + 3), .int (it (fun p a => a + bc (I 4 p)) k 0), .int (nI k)] [] (mm I J) := by
    refine loopN n ?_ ?_
    · show Go X G 3 0 0 _ 4 _ [] _
      refine g_iload_n C dX2_allGrants_4 rfl ?_
      refine g_aload_n C dX2_allGrants_5 rfl ?_
      refine g_getIv (ci := 2) (k := 2) (v := nI n) C dX2_allGrants_6 rfl inGX2 (by decide) fwX2_22 ly_3 (by decide) rfl hn ?_
      refine g_icmp_ge 30 C dX2_allGrants_9 (by decide) (fun c9 => ?_) (fun c9 => ?_)
      · refine g_iload_n C dX2_allGrants_30 rfl ?_
        exact e_I C dX2_allGrants_31 rfl rfl rfl rfl rfl
      · exact absurd (Int32.le_refl _) c9
    · intro k hk ih
      show Go X G 3 0 0 _ 4 _ [] _
      refine g_iload_n C dX2_allGrants_4 rfl ?_
      refine g_aload_n C dX2_allGrants_5 rfl ?_
      refine g_getIv (ci := 2) (k := 2) (v := nI n) C dX2_allGrants_6 rfl inGX2 (by decide) fwX2_22 ly_3 (by decide) rfl hn ?_
      refine g_icmp_ge 30 C dX2_allGrants_9 (by decide) (fun c9 => ?_) (fun c9 => ?_)
      · exact (nI_ge_dead (n := n) c9 hk (by omega)).elim
      · refine g_iload_n C dX2_allGrants_12 rfl ?_
        refine g_aload_n C dX2_allGrants_13 rfl ?_
        refine g_getR (ci := 2) (k := 0) (q := 4) C dX2_allGrants_14 rfl inGX2 (by decide) fwX2_9 ly_3 (by decide) rfl rfl ?_
        refine g_iload_n C dX2_allGrants_17 rfl ?_
        refine g_iald _ C dX2_allGrants_18 ly_4 (by decide) (by decide) rfl (by omega) ?_
        refine gs1I C dX2_allGrants_19 swJ6_bitCount_0f7a4 mwX2_27 ⟨by decide, by decide⟩ (s_bitCount _) (Nat.le_of_ble_eq_true rfl) rfl ⟨by decide, by decide⟩ ?_
        refine g_iadd C dX2_allGrants_22 ?_
        refine g_istore_1 C dX2_allGrants_23 (by decide) ?_
        refine g_iinc_2 C dX2_allGrants_24 (nI_1 k) (by decide) ?_
        refine g_goto 4 C dX2_allGrants_27 (by decide) ?_
        exact ih
  refine g_iconst (v := 0) C dX2_allGrants_0 (by decide) ?_
  refine g_istore_1 C dX2_allGrants_1 (by decide) ?_
  refine g_iconst (v := 0) C dX2_allGrants_2 (by decide) ?_
  refine g_istore_2 C dX2_allGrants_3 (by decide) ?_
  exact loop 0 (Nat.zero_le _)
set_option maxHeartbeats 1000000 in
theorem s_misuses {l : Launch} {G : Gm} {I : Nat → Nat → Int32} {J : Nat → Nat → Int64} : Sp l G iX0_misuses [.ref (G.1 + 92)] (mm I J) (RetI (it (fun d a => a + bc (I 94 d &&& (I 93 d ^^^ (-1)))) 16 0) (mm I J)) noT := by
  refine Sp.of (by decide +kernel) (Nat.le_of_ble_eq_true rfl) ?_
  intro X hXl C
  subst hXl
  show Go X G 3 0 0 _ 0 [.ref (G.1 + 92), uu, uu] [] (mm I J)
  have loop : ∀ k : Nat, k ≤ 16 → Go X G 3 0 0 (KQ X G iX0_misuses (RetI (it (fun d a => a + bc (I 94 d &&& (I 93 d ^^^ (-1)))) 16 0) (mm I J)) noT) 4 [.ref (G.1 + 92), .int (it (fun d a => a + bc (I 94 d &&& (I 93 d ^^^ (-1)))) k 0), .int (nI k)] [] (mm I J) := by
    refine loopN 16 ?_ ?_
    · show Go X G 3 0 0 _ 4 _ [] _
      refine g_iload_n C dX0_misuses_4 rfl ?_
      refine g_bipush (v := 16) C dX0_misuses_5 (by decide) ?_
      refine g_icmp_ge 37 C dX0_misuses_7 (by decide) (fun c7 => ?_) (fun c7 => ?_)
      · refine g_iload_n C dX0_misuses_37 rfl ?_
        exact e_I C dX0_misuses_38 rfl rfl rfl rfl rfl
      · exact absurd (Int32.le_refl _) c7
    · intro k hk ih
      show Go X G 3 0 0 _ 4 _ [] _
      refine g_iload_n C dX0_misuses_4 rfl ?_
      refine g_bipush (v := 16) C dX0_misuses_5 (by decide) ?_
      refine g_icmp_ge 37 C dX0_misuses_7 (by decide) (fun c7 => ?_) (fun c7 => ?_)
      · exact (nI_ge_dead (n := 16) c7 hk (by omega)).elim
      · refine g_iload_n C dX0_misuses_10 rfl ?_
        refine g_aload_n C dX0_misuses_11 rfl ?_
        refine g_getR (ci := 0) (k := 3) (q := 94) C dX0_misuses_12 rfl inGX0 (by decide) fwX0_15 ly_92 (by decide) rfl rfl ?_
        refine g_iload_n C dX0_misuses_15 rfl ?_
        refine g_iald _ C dX0_misuses_16 ly_94 (by decide) (by decide) rfl (by omega) ?_
        refine g_aload_n C dX0_misuses_17 rfl ?_
        refine g_getR (ci := 0) (k := 2) (q := 93) C dX0_misuses_18 rfl inGX0 (by decide) fwX0_9 ly_92 (by decide) rfl rfl ?_
        refine g_iload_n C dX0_misuses_21 rfl ?_
        refine g_iald _ C dX0_misuses_22 ly_93 (by decide) (by decide) rfl (by omega) ?_
        refine g_iconst (v := (-1)) C dX0_misuses_23 (by decide) ?_
        refine g_ixor C dX0_misuses_24 ?_
        refine g_iand C dX0_misuses_25 ?_
        refine gs1I C dX0_misuses_26 swJ6_bitCount_0f7a4 mwX0_55 ⟨by decide, by decide⟩ (s_bitCount _) (Nat.le_of_ble_eq_true rfl) rfl ⟨by decide, by decide⟩ ?_
        refine g_iadd C dX0_misuses_29 ?_
        refine g_istore_1 C dX0_misuses_30 (by decide) ?_
        refine g_iinc_2 C dX0_misuses_31 (nI_1 k) (by decide) ?_
        refine g_goto 4 C dX0_misuses_34 (by decide) ?_
        exact ih
  refine g_iconst (v := 0) C dX0_misuses_0 (by decide) ?_
  refine g_istore_1 C dX0_misuses_1 (by decide) ?_
  refine g_iconst (v := 0) C dX0_misuses_2 (by decide) ?_
  refine g_istore_2 C dX0_misuses_3 (by decide) ?_
  exact loop 0 (Nat.zero_le _)
set_option maxHeartbeats 1000000 in
theorem s_services {l : Launch} {G : Gm} {I : Nat → Nat → Int32} {J : Nat → Nat → Int64} : Sp l G iX0_services [.ref (G.1 + 92)] (mm I J) (RetI (it (fun d a => a + bc (I 94 d &&& I 93 d)) 16 0) (mm I J)) noT := by
  refine Sp.of (by decide +kernel) (Nat.le_of_ble_eq_true rfl) ?_
  intro X hXl C
  subst hXl
  show Go X G 3 0 0 _ 0 [.ref (G.1 + 92), uu, uu] [] (mm I J)
  have loop : ∀ k : Nat, k ≤ 16 → Go X G 3 0 0 (KQ X G iX0_services (RetI (it (fun d a => a + bc (I 94 d &&& I 93 d)) 16 0) (mm I J)) noT) 4 [.ref (G.1 + 92), .int (it (fun d a => a + bc (I 94 d &&& I 93 d)) k 0), .int (nI k)] [] (mm I J) := by
    refine loopN 16 ?_ ?_
    · show Go X G 3 0 0 _ 4 _ [] _
      refine g_iload_n C dX0_services_4 rfl ?_
      refine g_bipush (v := 16) C dX0_services_5 (by decide) ?_
      refine g_icmp_ge 35 C dX0_services_7 (by decide) (fun c7 => ?_) (fun c7 => ?_)
      · refine g_iload_n C dX0_services_35 rfl ?_
        exact e_I C dX0_services_36 rfl rfl rfl rfl rfl
      · exact absurd (Int32.le_refl _) c7
    · intro k hk ih
      show Go X G 3 0 0 _ 4 _ [] _
      refine g_iload_n C dX0_services_4 rfl ?_
      refine g_bipush (v := 16) C dX0_services_5 (by decide) ?_
      refine g_icmp_ge 35 C dX0_services_7 (by decide) (fun c7 => ?_) (fun c7 => ?_)
      · exact (nI_ge_dead (n := 16) c7 hk (by omega)).elim
      · refine g_iload_n C dX0_services_10 rfl ?_
        refine g_aload_n C dX0_services_11 rfl ?_
        refine g_getR (ci := 0) (k := 3) (q := 94) C dX0_services_12 rfl inGX0 (by decide) fwX0_15 ly_92 (by decide) rfl rfl ?_
        refine g_iload_n C dX0_services_15 rfl ?_
        refine g_iald _ C dX0_services_16 ly_94 (by decide) (by decide) rfl (by omega) ?_
        refine g_aload_n C dX0_services_17 rfl ?_
        refine g_getR (ci := 0) (k := 2) (q := 93) C dX0_services_18 rfl inGX0 (by decide) fwX0_9 ly_92 (by decide) rfl rfl ?_
        refine g_iload_n C dX0_services_21 rfl ?_
        refine g_iald _ C dX0_services_22 ly_93 (by decide) (by decide) rfl (by omega) ?_
        refine g_iand C dX0_services_23 ?_
        refine gs1I C dX0_services_24 swJ6_bitCount_0f7a4 mwX0_55 ⟨by decide, by decide⟩ (s_bitCount _) (Nat.le_of_ble_eq_true rfl) rfl ⟨by decide, by decide⟩ ?_
        refine g_iadd C dX0_services_27 ?_
        refine g_istore_1 C dX0_services_28 (by decide) ?_
        refine g_iinc_2 C dX0_services_29 (nI_1 k) (by decide) ?_
        refine g_goto 4 C dX0_services_32 (by decide) ?_
        exact ih
  refine g_iconst (v := 0) C dX0_services_0 (by decide) ?_
  refine g_istore_1 C dX0_services_1 (by decide) ?_
  refine g_iconst (v := 0) C dX0_services_2 (by decide) ?_
  refine g_istore_2 C dX0_services_3 (by decide) ?_
  exact loop 0 (Nat.zero_le _)
set_option maxHeartbeats 1000000 in
theorem s_toldPairs {l : Launch} {G : Gm} {I : Nat → Nat → Int32} {J : Nat → Nat → Int64} : Sp l G iX0_toldPairs [.ref (G.1 + 92)] (mm I J) (RetI (it (fun d a => a + bc (I 93 d)) 16 0) (mm I J)) noT := by
  refine Sp.of (by decide +kernel) (Nat.le_of_ble_eq_true rfl) ?_
  intro X hXl C
  subst hXl
  show Go X G 3 0 0 _ 0 [.ref (G.1 + 92), uu, uu] [] (mm I J)
  have loop : ∀ k : Nat, k ≤ 16 → Go X G 3 0 0 (KQ X G iX0_toldPairs (RetI (it (fun d a => a + bc (I 93 d)) 16 0) (mm I J)) noT) 4 [.ref (G.1 + 92), .int (it (fun d a => a + bc (I 93 d)) k 0), .int (nI k)] [] (mm I J) := by
    refine loopN 16 ?_ ?_
    · show Go X G 3 0 0 _ 4 _ [] _
      refine g_iload_n C dX0_toldPairs_4 rfl ?_
      refine g_bipush (v := 16) C dX0_toldPairs_5 (by decide) ?_
      refine g_icmp_ge 28 C dX0_toldPairs_7 (by decide) (fun c7 => ?_) (fun c7 => ?_)
      · refine g_iload_n C dX0_toldPairs_28 rfl ?_
        exact e_I C dX0_toldPairs_29 rfl rfl rfl rfl rfl
      · exact absurd (Int32.le_refl _) c7
    · intro k hk ih
      show Go X G 3 0 0 _ 4 _ [] _
      refine g_iload_n C dX0_toldPairs_4 rfl ?_
      refine g_bipush (v := 16) C dX0_toldPairs_5 (by decide) ?_
      refine g_icmp_ge 28 C dX0_toldPairs_7 (by decide) (fun c7 => ?_) (fun c7 => ?_)
      · exact (nI_ge_dead (n := 16) c7 hk (by omega)).elim
      · refine g_iload_n C dX0_toldPairs_10 rfl ?_
        refine g_aload_n C dX0_toldPairs_11 rfl ?_
        refine g_getR (ci := 0) (k := 2) (q := 93) C dX0_toldPairs_12 rfl inGX0 (by decide) fwX0_9 ly_92 (by decide) rfl rfl ?_
        refine g_iload_n C dX0_toldPairs_15 rfl ?_
        refine g_iald _ C dX0_toldPairs_16 ly_93 (by decide) (by decide) rfl (by omega) ?_
        refine gs1I C dX0_toldPairs_17 swJ6_bitCount_0f7a4 mwX0_55 ⟨by decide, by decide⟩ (s_bitCount _) (Nat.le_of_ble_eq_true rfl) rfl ⟨by decide, by decide⟩ ?_
        refine g_iadd C dX0_toldPairs_20 ?_
        refine g_istore_1 C dX0_toldPairs_21 (by decide) ?_
        refine g_iinc_2 C dX0_toldPairs_22 (nI_1 k) (by decide) ?_
        refine g_goto 4 C dX0_toldPairs_25 (by decide) ?_
        exact ih
  refine g_iconst (v := 0) C dX0_toldPairs_0 (by decide) ?_
  refine g_istore_1 C dX0_toldPairs_1 (by decide) ?_
  refine g_iconst (v := 0) C dX0_toldPairs_2 (by decide) ?_
  refine g_istore_2 C dX0_toldPairs_3 (by decide) ?_
  exact loop 0 (Nat.zero_le _)
set_option maxHeartbeats 1000000 in
theorem s_planAdd {l : Launch} {G : Gm} {I : Nat → Nat → Int32} {J : Nat → Nat → Int64} {n : Nat} (hn : I 3 2 = nI n) (hn10 : n < 10) (x : Int32) : Sp l G iX2_add [.ref (G.1 + 3), .int x] (mm I J) (RetI (nI n) (mm (up1 (up1 I 4 n x) 3 2 (nI (n + 1))) J)) noT := by
  refine Sp.of (by decide +kernel) (Nat.le_of_ble_eq_true rfl) ?_
  intro X hXl C
  subst hXl
  show Go X G 2 0 0 _ 0 [.ref (G.1 + 3), .int x] [] (mm I J)
  refine g_aload_n C dX2_add_0 rfl ?_
  refine g_getIv (ci := 2) (k := 2) (v := nI n) C dX2_add_1 rfl inGX2 (by decide) fwX2_22 ly_3 (by decide) rfl hn ?_
  refine g_bipush (v := 10) C dX2_add_4 (by decide) ?_
  refine g_icmp_lt 11 C dX2_add_6 (by decide) (fun c6 => ?_) (fun c6 => ?_)
  · refine g_aload_n C dX2_add_11 rfl ?_
    refine g_getR (ci := 2) (k := 0) (q := 4) C dX2_add_12 rfl inGX2 (by decide) fwX2_9 ly_3 (by decide) rfl rfl ?_
    refine g_aload_n C dX2_add_15 rfl ?_
    refine g_getIv (ci := 2) (k := 2) (v := nI n) C dX2_add_16 rfl inGX2 (by decide) fwX2_22 ly_3 (by decide) rfl hn ?_
    refine g_iload_n C dX2_add_19 rfl ?_
    refine g_iast _ C dX2_add_20 ly_4 (by decide) (by decide) rfl (by omega) ?_
    refine g_aload_n C dX2_add_21 rfl ?_
    refine g_dup C dX2_add_22 rfl ?_
    refine g_getIv (ci := 2) (k := 2) (v := nI n) C dX2_add_23 rfl inGX2 (by decide) fwX2_22 ly_3 (by decide) rfl (by simp [up1, hn]) ?_
    refine g_iconst (v := 1) C dX2_add_26 (by decide) ?_
    refine g_iadd C dX2_add_27 ?_
    rw [nI_1]
    refine g_putI (ci := 2) (k := 2) .int C dX2_add_28 rfl inGX2 tyX2_ok nmX2 (by decide) fwX2_22 ly_3 (by decide) rfl rfl rfl rfl rfl ?_
    refine g_aload_n C dX2_add_31 rfl ?_
    refine g_getIv (ci := 2) (k := 2) (v := nI (n + 1)) C dX2_add_32 rfl inGX2 (by decide) fwX2_22 ly_3 (by decide) rfl (by simp [up1]) ?_
    refine g_iconst (v := 1) C dX2_add_35 (by decide) ?_
    refine g_isub C dX2_add_36 ?_
    exact e_I C dX2_add_37 rfl rfl rfl (nI_pred n) rfl
  · exact absurd (nI_lt (b := 10) hn10 (by decide)) c6
/-- the byte of x that shift brings down -/
def byt (x sh : Int32) : Int32 := (x.toUInt32 >>> (sh.toUInt32 &&& Int32.toUInt32 31)).toInt32 &&& 255
def ap1 (I : Nat → Nat → Int32) (s : Nat) (b : Int32) : Nat → Nat → Int32 := up1 (up1 I 2 s b) 1 1 (nI (s + 1))
def ap4 (I : Nat → Nat → Int32) (s : Nat) (x : Int32) : Nat → Nat → Int32 := ap1 (ap1 (ap1 (ap1 I s (byt x 24)) (s + 1) (byt x 16)) (s + 2) (byt x 8)) (s + 3) (byt x 0)
theorem ap1_sz (I : Nat → Nat → Int32) (s : Nat) (b : Int32) : ap1 I s b 1 1 = nI (s + 1) := by simp [ap1, up1]
theorem s_append {l : Launch} {G : Gm} {I : Nat → Nat → Int32} {J : Nat → Nat → Int64} {s : Nat} (hs : I 1 1 = nI s) (h4 : s + 4 ≤ 300) (x : Int32) : Sp l G iX6_append [.ref (G.1 + 1), .int x] (mm I J) (RetV (mm (ap4 I s x) J)) noT := by
  refine Sp.of (by decide +kernel) (Nat.le_of_ble_eq_true rfl) ?_
  intro X hXl C
  subst hXl
  show Go X G 3 0 0 _ 0 [.ref (G.1 + 1), .int x, uu] [] (mm I J)
  refine g_bipush (v := 24) C dX6_append_0 (by decide) ?_
  refine g_istore_2 C dX6_append_2 (by decide) ?_
  refine g_iload_n C dX6_append_3 rfl ?_
  refine g_if_lt 49 C dX6_append_4 (by decide) (fun c4 => ?_) (fun c4 => ?_)
  · exact absurd c4 (by decide)
  · refine g_aload_n C dX6_append_7 rfl ?_
    refine g_getIv (ci := 6) (k := 1) (v := nI (s)) C dX6_append_8 rfl inGX6 (by decide) fwX6_15 ly_1 (by decide) rfl hs ?_
    refine g_sipush (v := 300) C dX6_append_11 (by decide) ?_
    refine g_icmp_ge 49 C dX6_append_14 (by decide) (fun c14 => ?_) (fun c14 => ?_)
    · exact absurd (nI_l' (a := 300) c14 (by omega) (by omega)) (by omega)
    · refine g_aload_n C dX6_append_17 rfl ?_
      refine g_getR (ci := 6) (k := 0) (q := 2) C dX6_append_18 rfl inGX6 (by decide) fwX6_9 ly_1 (by decide) rfl rfl ?_
      refine g_aload_n C dX6_append_21 rfl ?_
      refine g_getIv (ci := 6) (k := 1) (v := nI (s)) C dX6_append_22 rfl inGX6 (by decide) fwX6_15 ly_1 (by decide) rfl hs ?_
      refine g_iload_n C dX6_append_25 rfl ?_
      refine g_iload_n C dX6_append_26 rfl ?_
      refine g_iushr C dX6_append_27 ?_
      refine g_sipush (v := 255) C dX6_append_28 (by decide) ?_
      refine g_iand C dX6_append_31 ?_
      refine g_iast _ C dX6_append_32 ly_2 (by decide) (by decide) rfl (by omega) ?_
      refine g_aload_n C dX6_append_33 rfl ?_
      refine g_dup C dX6_append_34 rfl ?_
      refine g_getIv (ci := 6) (k := 1) (v := nI (s)) C dX6_append_35 rfl inGX6 (by decide) fwX6_15 ly_1 (by decide) rfl (by rw [up1_off (by decide)]; exact hs) ?_
      refine g_iconst (v := 1) C dX6_append_38 (by decide) ?_
      refine g_iadd C dX6_append_39 ?_
      rw [nI_1]
      refine g_putI (ci := 6) (k := 1) .int C dX6_append_40 rfl inGX6 tyX6_ok nmX6 (by decide) fwX6_15 ly_1 (by decide) rfl rfl rfl rfl rfl ?_
      refine g_iinc_2 C dX6_append_43 (v := 16) (by decide) (by decide) ?_
      refine g_goto 3 C dX6_append_46 (by decide) ?_
      show Go X G 3 0 0 _ 3 [.ref (G.1 + 1), .int x, .int 16] [] (mm (ap1 I s (byt x 24)) J)
      refine g_iload_n C dX6_append_3 rfl ?_
      refine g_if_lt 49 C dX6_append_4 (by decide) (fun c4 => ?_) (fun c4 => ?_)
      · exact absurd c4 (by decide)
      · refine g_aload_n C dX6_append_7 rfl ?_
        refine g_getIv (ci := 6) (k := 1) (v := nI (s + 1)) C dX6_append_8 rfl inGX6 (by decide) fwX6_15 ly_1 (by decide) rfl (ap1_sz _ _ _) ?_
        refine g_sipush (v := 300) C dX6_append_11 (by decide) ?_
        refine g_icmp_ge 49 C dX6_append_14 (by decide) (fun c14 => ?_) (fun c14 => ?_)
        · exact absurd (nI_l' (a := 300) c14 (by omega) (by omega)) (by omega)
        · refine g_aload_n C dX6_append_17 rfl ?_
          refine g_getR (ci := 6) (k := 0) (q := 2) C dX6_append_18 rfl inGX6 (by decide) fwX6_9 ly_1 (by decide) rfl rfl ?_
          refine g_aload_n C dX6_append_21 rfl ?_
          refine g_getIv (ci := 6) (k := 1) (v := nI (s + 1)) C dX6_append_22 rfl inGX6 (by decide) fwX6_15 ly_1 (by decide) rfl (ap1_sz _ _ _) ?_
          refine g_iload_n C dX6_append_25 rfl ?_
          refine g_iload_n C dX6_append_26 rfl ?_
          refine g_iushr C dX6_append_27 ?_
          refine g_sipush (v := 255) C dX6_append_28 (by decide) ?_
          refine g_iand C dX6_append_31 ?_
          refine g_iast _ C dX6_append_32 ly_2 (by decide) (by decide) rfl (by omega) ?_
          refine g_aload_n C dX6_append_33 rfl ?_
          refine g_dup C dX6_append_34 rfl ?_
          refine g_getIv (ci := 6) (k := 1) (v := nI (s + 1)) C dX6_append_35 rfl inGX6 (by decide) fwX6_15 ly_1 (by decide) rfl (by rw [up1_off (by decide)]; exact (ap1_sz _ _ _)) ?_
          refine g_iconst (v := 1) C dX6_append_38 (by decide) ?_
          refine g_iadd C dX6_append_39 ?_
          rw [nI_1]
          refine g_putI (ci := 6) (k := 1) .int C dX6_append_40 rfl inGX6 tyX6_ok nmX6 (by decide) fwX6_15 ly_1 (by decide) rfl rfl rfl rfl rfl ?_
          refine g_iinc_2 C dX6_append_43 (v := 8) (by decide) (by decide) ?_
          refine g_goto 3 C dX6_append_46 (by decide) ?_
          show Go X G 3 0 0 _ 3 [.ref (G.1 + 1), .int x, .int 8] [] (mm (ap1 (ap1 I s (byt x 24)) (s + 1) (byt x 16)) J)
          refine g_iload_n C dX6_append_3 rfl ?_
          refine g_if_lt 49 C dX6_append_4 (by decide) (fun c4 => ?_) (fun c4 => ?_)
          · exact absurd c4 (by decide)
          · refine g_aload_n C dX6_append_7 rfl ?_
            refine g_getIv (ci := 6) (k := 1) (v := nI (s + 2)) C dX6_append_8 rfl inGX6 (by decide) fwX6_15 ly_1 (by decide) rfl (ap1_sz _ _ _) ?_
            refine g_sipush (v := 300) C dX6_append_11 (by decide) ?_
            refine g_icmp_ge 49 C dX6_append_14 (by decide) (fun c14 => ?_) (fun c14 => ?_)
            · exact absurd (nI_l' (a := 300) c14 (by omega) (by omega)) (by omega)
            · refine g_aload_n C dX6_append_17 rfl ?_
              refine g_getR (ci := 6) (k := 0) (q := 2) C dX6_append_18 rfl inGX6 (by decide) fwX6_9 ly_1 (by decide) rfl rfl ?_
              refine g_aload_n C dX6_append_21 rfl ?_
              refine g_getIv (ci := 6) (k := 1) (v := nI (s + 2)) C dX6_append_22 rfl inGX6 (by decide) fwX6_15 ly_1 (by decide) rfl (ap1_sz _ _ _) ?_
              refine g_iload_n C dX6_append_25 rfl ?_
              refine g_iload_n C dX6_append_26 rfl ?_
              refine g_iushr C dX6_append_27 ?_
              refine g_sipush (v := 255) C dX6_append_28 (by decide) ?_
              refine g_iand C dX6_append_31 ?_
              refine g_iast _ C dX6_append_32 ly_2 (by decide) (by decide) rfl (by omega) ?_
              refine g_aload_n C dX6_append_33 rfl ?_
              refine g_dup C dX6_append_34 rfl ?_
              refine g_getIv (ci := 6) (k := 1) (v := nI (s + 2)) C dX6_append_35 rfl inGX6 (by decide) fwX6_15 ly_1 (by decide) rfl (by rw [up1_off (by decide)]; exact (ap1_sz _ _ _)) ?_
              refine g_iconst (v := 1) C dX6_append_38 (by decide) ?_
              refine g_iadd C dX6_append_39 ?_
              rw [nI_1]
              refine g_putI (ci := 6) (k := 1) .int C dX6_append_40 rfl inGX6 tyX6_ok nmX6 (by decide) fwX6_15 ly_1 (by decide) rfl rfl rfl rfl rfl ?_
              refine g_iinc_2 C dX6_append_43 (v := 0) (by decide) (by decide) ?_
              refine g_goto 3 C dX6_append_46 (by decide) ?_
              show Go X G 3 0 0 _ 3 [.ref (G.1 + 1), .int x, .int 0] [] (mm (ap1 (ap1 (ap1 I s (byt x 24)) (s + 1) (byt x 16)) (s + 2) (byt x 8)) J)
              refine g_iload_n C dX6_append_3 rfl ?_
              refine g_if_lt 49 C dX6_append_4 (by decide) (fun c4 => ?_) (fun c4 => ?_)
              · exact absurd c4 (by decide)
              · refine g_aload_n C dX6_append_7 rfl ?_
                refine g_getIv (ci := 6) (k := 1) (v := nI (s + 3)) C dX6_append_8 rfl inGX6 (by decide) fwX6_15 ly_1 (by decide) rfl (ap1_sz _ _ _) ?_
                refine g_sipush (v := 300) C dX6_append_11 (by decide) ?_
                refine g_icmp_ge 49 C dX6_append_14 (by decide) (fun c14 => ?_) (fun c14 => ?_)
                · exact absurd (nI_l' (a := 300) c14 (by omega) (by omega)) (by omega)
                · refine g_aload_n C dX6_append_17 rfl ?_
                  refine g_getR (ci := 6) (k := 0) (q := 2) C dX6_append_18 rfl inGX6 (by decide) fwX6_9 ly_1 (by decide) rfl rfl ?_
                  refine g_aload_n C dX6_append_21 rfl ?_
                  refine g_getIv (ci := 6) (k := 1) (v := nI (s + 3)) C dX6_append_22 rfl inGX6 (by decide) fwX6_15 ly_1 (by decide) rfl (ap1_sz _ _ _) ?_
                  refine g_iload_n C dX6_append_25 rfl ?_
                  refine g_iload_n C dX6_append_26 rfl ?_
                  refine g_iushr C dX6_append_27 ?_
                  refine g_sipush (v := 255) C dX6_append_28 (by decide) ?_
                  refine g_iand C dX6_append_31 ?_
                  refine g_iast _ C dX6_append_32 ly_2 (by decide) (by decide) rfl (by omega) ?_
                  refine g_aload_n C dX6_append_33 rfl ?_
                  refine g_dup C dX6_append_34 rfl ?_
                  refine g_getIv (ci := 6) (k := 1) (v := nI (s + 3)) C dX6_append_35 rfl inGX6 (by decide) fwX6_15 ly_1 (by decide) rfl (by rw [up1_off (by decide)]; exact (ap1_sz _ _ _)) ?_
                  refine g_iconst (v := 1) C dX6_append_38 (by decide) ?_
                  refine g_iadd C dX6_append_39 ?_
                  rw [nI_1]
                  refine g_putI (ci := 6) (k := 1) .int C dX6_append_40 rfl inGX6 tyX6_ok nmX6 (by decide) fwX6_15 ly_1 (by decide) rfl rfl rfl rfl rfl ?_
                  refine g_iinc_2 C dX6_append_43 (v := (-8)) (by decide) (by decide) ?_
                  refine g_goto 3 C dX6_append_46 (by decide) ?_
                  show Go X G 3 0 0 _ 3 [.ref (G.1 + 1), .int x, .int (-8)] [] (mm (ap4 I s x) J)
                  refine g_iload_n C dX6_append_3 rfl ?_
                  refine g_if_lt 49 C dX6_append_4 (by decide) (fun c4 => ?_) (fun c4 => ?_)
                  · exact e_V C dX6_append_49 rfl rfl rfl rfl
                  · exact absurd (by decide) c4
