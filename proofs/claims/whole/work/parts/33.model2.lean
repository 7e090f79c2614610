/-! ## the model's small calls -/
def mPart (I : Nat → Nat → Int32) (n : Nat) (x : Int32) : Nat → Nat → Int32 := tr (up1 (up1 (up1 (T0 I) 104 n x) 105 n 0) 103 4 (nI (n + 1))) 0
theorem nI_mul (a b : Nat) : nI a * nI b = nI (a * b) := pk_mul a b
theorem mul12 (p : Nat) : (12 : Int32) * nI p = nI (12 * p) := pk_mul 12 p
theorem mul8 (p : Nat) : (8 : Int32) * nI p = nI (8 * p) := pk_mul 8 p
theorem mul4 (p : Nat) : (4 : Int32) * nI p = nI (4 * p) := pk_mul 4 p
theorem mul100 (p : Nat) : (100 : Int32) * nI p = nI (100 * p) := pk_mul 100 p
set_option maxHeartbeats 1000000 in
theorem s_mpart2 {l : Launch} {G : Gm} {I : Nat → Nat → Int32} {J : Nat → Nat → Int64} {x : Int32} (h : ¬ (¬ x < 0 ∧ ¬ 65535 < x)) : Sp l G iX10_part [.ref (G.1 + 103), .int x] (mm I J) (RetI (-1) (mm (tr (T0 I) 2) J)) noT := by
  refine Sp.of (by decide +kernel) (Nat.le_of_ble_eq_true rfl) ?_
  intro X hXl C
  subst hXl
  show Go X G 2 0 0 _ 0 [.ref (G.1 + 103), .int x] [] (mm I J)
  refine g_aload_n C dX10_part_0 rfl ?_
  refine g_iconst (v := 0) C dX10_part_1 (by decide) ?_
  refine g_putI (ci := 10) (k := 0) .int C dX10_part_2 rfl inGX10 tyX10_ok nmX10 (by decide) fwX10_80 ly_103 (by decide) rfl rfl rfl rfl rfl ?_
  refine g_iload_n C dX10_part_5 rfl ?_
  refine g_iconst (v := 0) C dX10_part_6 (by decide) ?_
  refine g_ldc (v := 65535) C dX10_part_7 kwX10_89 ?_
  refine gs3I C dX10_part_9 swX10_in mwX10_90 ⟨by decide, by decide⟩ (s_in _ _ _) (Nat.le_of_ble_eq_true rfl) rfl ⟨by decide, by decide⟩ ?_
  refine g_if_ne 21 C dX10_part_12 (by decide) (fun c12 => ?_) (fun c12 => ?_)
  · exact absurd (if01.mpr h) c12
  · refine g_aload_n C dX10_part_15 rfl ?_
    refine g_iconst (v := 2) C dX10_part_16 (by decide) ?_
    refine gv1I (ci := 10) C dX10_part_17 vwX10_refused mwX10_94 ⟨by decide, by decide⟩ rfl ly_103 (Nat.le_of_ble_eq_true rfl) (s_refused _) (Nat.le_of_ble_eq_true rfl) rfl ⟨by decide, by decide⟩ ?_
    exact e_I C dX10_part_20 rfl rfl rfl rfl rfl
set_option maxHeartbeats 1000000 in
theorem s_mpart3 {l : Launch} {G : Gm} {I : Nat → Nat → Int32} {J : Nat → Nat → Int64} {x : Int32} (h : ¬ x < 0 ∧ ¬ 65535 < x) (hn : I 103 4 = 10) : Sp l G iX10_part [.ref (G.1 + 103), .int x] (mm I J) (RetI (-1) (mm (tr (T0 I) 3) J)) noT := by
  refine Sp.of (by decide +kernel) (Nat.le_of_ble_eq_true rfl) ?_
  intro X hXl C
  subst hXl
  show Go X G 2 0 0 _ 0 [.ref (G.1 + 103), .int x] [] (mm I J)
  refine g_aload_n C dX10_part_0 rfl ?_
  refine g_iconst (v := 0) C dX10_part_1 (by decide) ?_
  refine g_putI (ci := 10) (k := 0) .int C dX10_part_2 rfl inGX10 tyX10_ok nmX10 (by decide) fwX10_80 ly_103 (by decide) rfl rfl rfl rfl rfl ?_
  refine g_iload_n C dX10_part_5 rfl ?_
  refine g_iconst (v := 0) C dX10_part_6 (by decide) ?_
  refine g_ldc (v := 65535) C dX10_part_7 kwX10_89 ?_
  refine gs3I C dX10_part_9 swX10_in mwX10_90 ⟨by decide, by decide⟩ (s_in _ _ _) (Nat.le_of_ble_eq_true rfl) rfl ⟨by decide, by decide⟩ ?_
  refine g_if_ne 21 C dX10_part_12 (by decide) (fun c12 => ?_) (fun c12 => ?_)
  · refine g_aload_n C dX10_part_21 rfl ?_
    refine g_getIv (ci := 10) (k := 4) (v := 10) C dX10_part_22 rfl inGX10 (by decide) fwX10_86 ly_103 (by decide) rfl ((T0_103 (by decide)).trans hn) ?_
    refine g_bipush (v := 10) C dX10_part_25 (by decide) ?_
    refine g_icmp_ne 36 C dX10_part_27 (by decide) (fun c27 => ?_) (fun c27 => ?_)
    · exact absurd rfl c27
    · refine g_aload_n C dX10_part_30 rfl ?_
      refine g_iconst (v := 3) C dX10_part_31 (by decide) ?_
      refine gv1I (ci := 10) C dX10_part_32 vwX10_refused mwX10_94 ⟨by decide, by decide⟩ rfl ly_103 (Nat.le_of_ble_eq_true rfl) (s_refused _) (Nat.le_of_ble_eq_true rfl) rfl ⟨by decide, by decide⟩ ?_
      exact e_I C dX10_part_35 rfl rfl rfl rfl rfl
  · exact absurd h (if01.mp c12)
set_option maxHeartbeats 1000000 in
theorem s_mpart {l : Launch} {G : Gm} {I : Nat → Nat → Int32} {J : Nat → Nat → Int64} {x : Int32} (h : ¬ x < 0 ∧ ¬ 65535 < x) {n : Nat} (hn : I 103 4 = nI n) (hn10 : n < 10) : Sp l G iX10_part [.ref (G.1 + 103), .int x] (mm I J) (RetI (nI n) (mm (mPart I n x) J)) noT := by
  refine Sp.of (by decide +kernel) (Nat.le_of_ble_eq_true rfl) ?_
  intro X hXl C
  subst hXl
  show Go X G 2 0 0 _ 0 [.ref (G.1 + 103), .int x] [] (mm I J)
  refine g_aload_n C dX10_part_0 rfl ?_
  refine g_iconst (v := 0) C dX10_part_1 (by decide) ?_
  refine g_putI (ci := 10) (k := 0) .int C dX10_part_2 rfl inGX10 tyX10_ok nmX10 (by decide) fwX10_80 ly_103 (by decide) rfl rfl rfl rfl rfl ?_
  refine g_iload_n C dX10_part_5 rfl ?_
  refine g_iconst (v := 0) C dX10_part_6 (by decide) ?_
  refine g_ldc (v := 65535) C dX10_part_7 kwX10_89 ?_
  refine gs3I C dX10_part_9 swX10_in mwX10_90 ⟨by decide, by decide⟩ (s_in _ _ _) (Nat.le_of_ble_eq_true rfl) rfl ⟨by decide, by decide⟩ ?_
  refine g_if_ne 21 C dX10_part_12 (by decide) (fun c12 => ?_) (fun c12 => ?_)
  · refine g_aload_n C dX10_part_21 rfl ?_
    refine g_getIv (ci := 10) (k := 4) (v := nI n) C dX10_part_22 rfl inGX10 (by decide) fwX10_86 ly_103 (by decide) rfl ((T0_103 (by decide)).trans hn) ?_
    refine g_bipush (v := 10) C dX10_part_25 (by decide) ?_
    refine g_icmp_ne 36 C dX10_part_27 (by decide) (fun c27 => ?_) (fun c27 => ?_)
    · refine g_aload_n C dX10_part_36 rfl ?_
      refine g_getR (ci := 10) (k := 5) (q := 104) C dX10_part_37 rfl inGX10 (by decide) fwX10_13 ly_103 (by decide) rfl rfl ?_
      refine g_aload_n C dX10_part_40 rfl ?_
      refine g_getIv (ci := 10) (k := 4) (v := nI n) C dX10_part_41 rfl inGX10 (by decide) fwX10_86 ly_103 (by decide) rfl ((T0_103 (by decide)).trans hn) ?_
      refine g_iload_n C dX10_part_44 rfl ?_
      refine g_iast _ C dX10_part_45 ly_104 (by decide) (by decide) rfl hn10 ?_
      refine g_aload_n C dX10_part_46 rfl ?_
      refine g_getR (ci := 10) (k := 6) (q := 105) C dX10_part_47 rfl inGX10 (by decide) fwX10_17 ly_103 (by decide) rfl rfl ?_
      refine g_aload_n C dX10_part_50 rfl ?_
      refine g_getIv (ci := 10) (k := 4) (v := nI n) C dX10_part_51 rfl inGX10 (by decide) fwX10_86 ly_103 (by decide) rfl (by rw [up1_off (by decide)]; exact ((T0_103 (by decide)).trans hn)) ?_
      refine g_iconst (v := 0) C dX10_part_54 (by decide) ?_
      refine g_iast _ C dX10_part_55 ly_105 (by decide) (by decide) rfl (show n < 11 by omega) ?_
      refine g_aload_n C dX10_part_56 rfl ?_
      refine g_dup C dX10_part_57 rfl ?_
      refine g_getIv (ci := 10) (k := 4) (v := nI n) C dX10_part_58 rfl inGX10 (by decide) fwX10_86 ly_103 (by decide) rfl (by rw [up1_off (by decide), up1_off (by decide)]; exact ((T0_103 (by decide)).trans hn)) ?_
      refine g_iconst (v := 1) C dX10_part_61 (by decide) ?_
      refine g_iadd C dX10_part_62 ?_
      rw [nI_1]
      refine g_putI (ci := 10) (k := 4) .int C dX10_part_63 rfl inGX10 tyX10_ok nmX10 (by decide) fwX10_86 ly_103 (by decide) rfl rfl rfl rfl rfl ?_
      refine g_aload_n C dX10_part_66 rfl ?_
      refine g_aload_n C dX10_part_67 rfl ?_
      refine g_getIv (ci := 10) (k := 4) (v := nI (n + 1)) C dX10_part_68 rfl inGX10 (by decide) fwX10_86 ly_103 (by decide) rfl (up1_same _ _ _ _) ?_
      refine g_iconst (v := 1) C dX10_part_71 (by decide) ?_
      refine g_isub C dX10_part_72 ?_
      rw [nI_pred]
      refine gv1I (ci := 10) C dX10_part_73 vwX10_done mwX10_98 ⟨by decide, by decide⟩ rfl ly_103 (Nat.le_of_ble_eq_true rfl) (s_done _) (Nat.le_of_ble_eq_true rfl) rfl ⟨by decide, by decide⟩ ?_
      exact e_I C dX10_part_76 rfl rfl rfl rfl rfl
    · exact absurd ((nI_eq (b := 10) (by omega) (by decide)).mp c27) (by omega)
  · exact absurd h (if01.mp c12)
set_option maxHeartbeats 1000000 in
theorem s_mgrant1 {l : Launch} {G : Gm} {I : Nat → Nat → Int32} {J : Nat → Nat → Int64} {x g : Int32} (h : ¬ (¬ x < 0 ∧ x < I 103 4)) : Sp l G iX10_grant [.ref (G.1 + 103), .int x, .int g] (mm I J) (RetI 0 (mm (tr (T0 I) 1) J)) noT := by
  refine Sp.of (by decide +kernel) (Nat.le_of_ble_eq_true rfl) ?_
  intro X hXl C
  subst hXl
  show Go X G 3 0 0 _ 0 [.ref (G.1 + 103), .int x, .int g] [] (mm I J)
  refine g_aload_n C dX10_grant_0 rfl ?_
  refine g_iconst (v := 0) C dX10_grant_1 (by decide) ?_
  refine g_putI (ci := 10) (k := 0) .int C dX10_grant_2 rfl inGX10 tyX10_ok nmX10 (by decide) fwX10_80 ly_103 (by decide) rfl rfl rfl rfl rfl ?_
  refine g_aload_n C dX10_grant_5 rfl ?_
  refine g_iload_n C dX10_grant_6 rfl ?_
  refine gv1I (ci := 10) C dX10_grant_7 vwX10_isPart mwX10_101 ⟨by decide, by decide⟩ rfl ly_103 (Nat.le_of_ble_eq_true rfl) (s_isPart _) (Nat.le_of_ble_eq_true rfl) rfl ⟨by decide, by decide⟩ ?_
  refine g_if_ne 19 C dX10_grant_10 (by decide) (fun c10 => ?_) (fun c10 => ?_)
  · exact absurd (if01.mpr h) c10
  · refine g_aload_n C dX10_grant_13 rfl ?_
    refine g_iconst (v := 1) C dX10_grant_14 (by decide) ?_
    refine gv1I (ci := 10) C dX10_grant_15 vwX10_denied mwX10_105 ⟨by decide, by decide⟩ rfl ly_103 (Nat.le_of_ble_eq_true rfl) (s_denied _) (Nat.le_of_ble_eq_true rfl) rfl ⟨by decide, by decide⟩ ?_
    exact e_Z C dX10_grant_18 rfl rfl rfl (by first | exact Or.inl rfl | exact Or.inr rfl) rfl rfl
set_option maxHeartbeats 1000000 in
theorem s_mgrant2 {l : Launch} {G : Gm} {I : Nat → Nat → Int32} {J : Nat → Nat → Int64} {x g : Int32} (h : ¬ x < 0 ∧ x < I 103 4) (h2 : ¬ (¬ g < 0 ∧ ¬ 65535 < g)) : Sp l G iX10_grant [.ref (G.1 + 103), .int x, .int g] (mm I J) (RetI 0 (mm (tr (T0 I) 2) J)) noT := by
  refine Sp.of (by decide +kernel) (Nat.le_of_ble_eq_true rfl) ?_
  intro X hXl C
  subst hXl
  show Go X G 3 0 0 _ 0 [.ref (G.1 + 103), .int x, .int g] [] (mm I J)
  refine g_aload_n C dX10_grant_0 rfl ?_
  refine g_iconst (v := 0) C dX10_grant_1 (by decide) ?_
  refine g_putI (ci := 10) (k := 0) .int C dX10_grant_2 rfl inGX10 tyX10_ok nmX10 (by decide) fwX10_80 ly_103 (by decide) rfl rfl rfl rfl rfl ?_
  refine g_aload_n C dX10_grant_5 rfl ?_
  refine g_iload_n C dX10_grant_6 rfl ?_
  refine gv1I (ci := 10) C dX10_grant_7 vwX10_isPart mwX10_101 ⟨by decide, by decide⟩ rfl ly_103 (Nat.le_of_ble_eq_true rfl) (s_isPart _) (Nat.le_of_ble_eq_true rfl) rfl ⟨by decide, by decide⟩ ?_
  refine g_if_ne 19 C dX10_grant_10 (by decide) (fun c10 => ?_) (fun c10 => ?_)
  · refine g_iload_n C dX10_grant_19 rfl ?_
    refine g_iconst (v := 0) C dX10_grant_20 (by decide) ?_
    refine g_ldc (v := 65535) C dX10_grant_21 kwX10_89 ?_
    refine gs3I C dX10_grant_23 swX10_in mwX10_90 ⟨by decide, by decide⟩ (s_in _ _ _) (Nat.le_of_ble_eq_true rfl) rfl ⟨by decide, by decide⟩ ?_
    refine g_if_ne 35 C dX10_grant_26 (by decide) (fun c26 => ?_) (fun c26 => ?_)
    · exact absurd (if01.mpr h2) c26
    · refine g_aload_n C dX10_grant_29 rfl ?_
      refine g_iconst (v := 2) C dX10_grant_30 (by decide) ?_
      refine gv1I (ci := 10) C dX10_grant_31 vwX10_denied mwX10_105 ⟨by decide, by decide⟩ rfl ly_103 (Nat.le_of_ble_eq_true rfl) (s_denied _) (Nat.le_of_ble_eq_true rfl) rfl ⟨by decide, by decide⟩ ?_
      exact e_Z C dX10_grant_34 rfl rfl rfl (by first | exact Or.inl rfl | exact Or.inr rfl) rfl rfl
  · exact absurd h (if01.mp c10)
set_option maxHeartbeats 1000000 in
theorem s_mgrant {l : Launch} {G : Gm} {I : Nat → Nat → Int32} {J : Nat → Nat → Int64} {p : Nat} {g : Int32} (hp : p < 10) (h : ¬ nI p < 0 ∧ nI p < I 103 4) (h2 : ¬ g < 0 ∧ ¬ 65535 < g) : Sp l G iX10_grant [.ref (G.1 + 103), .int (nI p), .int g] (mm I J) (RetI 1 (mm (tr (up1 (T0 I) 104 p g) 0) J)) noT := by
  refine Sp.of (by decide +kernel) (Nat.le_of_ble_eq_true rfl) ?_
  intro X hXl C
  subst hXl
  show Go X G 3 0 0 _ 0 [.ref (G.1 + 103), .int (nI p), .int g] [] (mm I J)
  refine g_aload_n C dX10_grant_0 rfl ?_
  refine g_iconst (v := 0) C dX10_grant_1 (by decide) ?_
  refine g_putI (ci := 10) (k := 0) .int C dX10_grant_2 rfl inGX10 tyX10_ok nmX10 (by decide) fwX10_80 ly_103 (by decide) rfl rfl rfl rfl rfl ?_
  refine g_aload_n C dX10_grant_5 rfl ?_
  refine g_iload_n C dX10_grant_6 rfl ?_
  refine gv1I (ci := 10) C dX10_grant_7 vwX10_isPart mwX10_101 ⟨by decide, by decide⟩ rfl ly_103 (Nat.le_of_ble_eq_true rfl) (s_isPart _) (Nat.le_of_ble_eq_true rfl) rfl ⟨by decide, by decide⟩ ?_
  refine g_if_ne 19 C dX10_grant_10 (by decide) (fun c10 => ?_) (fun c10 => ?_)
  · refine g_iload_n C dX10_grant_19 rfl ?_
    refine g_iconst (v := 0) C dX10_grant_20 (by decide) ?_
    refine g_ldc (v := 65535) C dX10_grant_21 kwX10_89 ?_
    refine gs3I C dX10_grant_23 swX10_in mwX10_90 ⟨by decide, by decide⟩ (s_in _ _ _) (Nat.le_of_ble_eq_true rfl) rfl ⟨by decide, by decide⟩ ?_
    refine g_if_ne 35 C dX10_grant_26 (by decide) (fun c26 => ?_) (fun c26 => ?_)
    · refine g_aload_n C dX10_grant_35 rfl ?_
      refine g_getR (ci := 10) (k := 5) (q := 104) C dX10_grant_36 rfl inGX10 (by decide) fwX10_13 ly_103 (by decide) rfl rfl ?_
      refine g_iload_n C dX10_grant_39 rfl ?_
      refine g_iload_n C dX10_grant_40 rfl ?_
      refine g_iast _ C dX10_grant_41 ly_104 (by decide) (by decide) rfl hp ?_
      refine g_aload_n C dX10_grant_42 rfl ?_
      refine gv0I (ci := 10) C dX10_grant_43 vwX10_granted mwX10_108 ⟨by decide, by decide⟩ rfl ly_103 (Nat.le_of_ble_eq_true rfl) (s_granted) (Nat.le_of_ble_eq_true rfl) rfl ⟨by decide, by decide⟩ ?_
      exact e_Z C dX10_grant_46 rfl rfl rfl (by first | exact Or.inl rfl | exact Or.inr rfl) rfl rfl
    · exact absurd h2 (if01.mp c26)
  · exact absurd h (if01.mp c10)
set_option maxHeartbeats 1000000 in
theorem s_mfault {l : Launch} {G : Gm} {I : Nat → Nat → Int32} {J : Nat → Nat → Int64} : Sp l G iX10_fault [.ref (G.1 + 103)] (mm I J) (RetI (I 103 3) (mm (T0 I) J)) noT := by
  refine Sp.of (by decide +kernel) (Nat.le_of_ble_eq_true rfl) ?_
  intro X hXl C
  subst hXl
  show Go X G 1 0 0 _ 0 [.ref (G.1 + 103)] [] (mm I J)
  refine g_aload_n C dX10_fault_0 rfl ?_
  refine g_iconst (v := 0) C dX10_fault_1 (by decide) ?_
  refine g_putI (ci := 10) (k := 0) .int C dX10_fault_2 rfl inGX10 tyX10_ok nmX10 (by decide) fwX10_80 ly_103 (by decide) rfl rfl rfl rfl rfl ?_
  refine g_aload_n C dX10_fault_5 rfl ?_
  refine g_getI (ci := 10) (k := 3) C dX10_fault_6 rfl inGX10 (by decide) fwX10_222 ly_103 (by decide) rfl ?_
  exact e_I C dX10_fault_9 rfl rfl rfl (T0_103 (by decide)) rfl
set_option maxHeartbeats 1000000 in
theorem s_mwhere {l : Launch} {G : Gm} {I : Nat → Nat → Int32} {J : Nat → Nat → Int64} : Sp l G iX10_where [.ref (G.1 + 103)] (mm I J) (RetI (I 103 2) (mm (T0 I) J)) noT := by
  refine Sp.of (by decide +kernel) (Nat.le_of_ble_eq_true rfl) ?_
  intro X hXl C
  subst hXl
  show Go X G 1 0 0 _ 0 [.ref (G.1 + 103)] [] (mm I J)
  refine g_aload_n C dX10_where_0 rfl ?_
  refine g_iconst (v := 0) C dX10_where_1 (by decide) ?_
  refine g_putI (ci := 10) (k := 0) .int C dX10_where_2 rfl inGX10 tyX10_ok nmX10 (by decide) fwX10_80 ly_103 (by decide) rfl rfl rfl rfl rfl ?_
  refine g_aload_n C dX10_where_5 rfl ?_
  refine g_getI (ci := 10) (k := 2) C dX10_where_6 rfl inGX10 (by decide) fwX10_9 ly_103 (by decide) rfl ?_
  exact e_I C dX10_where_9 rfl rfl rfl (T0_103 (by decide)) rfl
set_option maxHeartbeats 1000000 in
theorem s_mtrouble {l : Launch} {G : Gm} {I : Nat → Nat → Int32} {J : Nat → Nat → Int64} : Sp l G iX10_trouble [.ref (G.1 + 103)] (mm I J) (RetI (I 103 1) (mm (T0 I) J)) noT := by
  refine Sp.of (by decide +kernel) (Nat.le_of_ble_eq_true rfl) ?_
  intro X hXl C
  subst hXl
  show Go X G 1 0 0 _ 0 [.ref (G.1 + 103)] [] (mm I J)
  refine g_aload_n C dX10_trouble_0 rfl ?_
  refine g_iconst (v := 0) C dX10_trouble_1 (by decide) ?_
  refine g_putI (ci := 10) (k := 0) .int C dX10_trouble_2 rfl inGX10 tyX10_ok nmX10 (by decide) fwX10_80 ly_103 (by decide) rfl rfl rfl rfl rfl ?_
  refine g_aload_n C dX10_trouble_5 rfl ?_
  refine g_getI (ci := 10) (k := 1) C dX10_trouble_6 rfl inGX10 (by decide) fwX10_83 ly_103 (by decide) rfl ?_
  exact e_I C dX10_trouble_9 rfl rfl rfl (T0_103 (by decide)) rfl
set_option maxHeartbeats 1000000 in
theorem s_mline1 {l : Launch} {G : Gm} {I : Nat → Nat → Int32} {J : Nat → Nat → Int64} {x y w : Int32} (h : ¬ (¬ x < 0 ∧ x < I 103 4)) : Sp l G iX10_line [.ref (G.1 + 103), .int x, .int y, .int w] (mm I J) (RetI (-1) (mm (T0 I) J)) noT := by
  refine Sp.of (by decide +kernel) (Nat.le_of_ble_eq_true rfl) ?_
  intro X hXl C
  subst hXl
  show Go X G 5 0 0 _ 0 [.ref (G.1 + 103), .int x, .int y, .int w, uu] [] (mm I J)
  refine g_aload_n C dX10_line_0 rfl ?_
  refine g_iconst (v := 0) C dX10_line_1 (by decide) ?_
  refine g_putI (ci := 10) (k := 0) .int C dX10_line_2 rfl inGX10 tyX10_ok nmX10 (by decide) fwX10_80 ly_103 (by decide) rfl rfl rfl rfl rfl ?_
  refine g_aload_n C dX10_line_5 rfl ?_
  refine g_iload_n C dX10_line_6 rfl ?_
  refine gv1I (ci := 10) C dX10_line_7 vwX10_isPart mwX10_101 ⟨by decide, by decide⟩ rfl ly_103 (Nat.le_of_ble_eq_true rfl) (s_isPart _) (Nat.le_of_ble_eq_true rfl) rfl ⟨by decide, by decide⟩ ?_
  refine g_if_eq 27 C dX10_line_10 (by decide) (fun c10 => ?_) (fun c10 => ?_)
  · refine g_iconst (v := (-1)) C dX10_line_27 (by decide) ?_
    exact e_I C dX10_line_28 rfl rfl rfl rfl rfl
  · exact absurd (if01.mpr h) c10
set_option maxHeartbeats 1000000 in
theorem s_mline2 {l : Launch} {G : Gm} {I : Nat → Nat → Int32} {J : Nat → Nat → Int64} {p : Nat} {y w : Int32} (hp : p < 10) (h : ¬ nI p < 0 ∧ nI p < I 103 4) (h2 : ¬ (¬ y < 0 ∧ y < I 105 p)) : Sp l G iX10_line [.ref (G.1 + 103), .int (nI p), .int y, .int w] (mm I J) (RetI (-1) (mm (T0 I) J)) noT := by
  refine Sp.of (by decide +kernel) (Nat.le_of_ble_eq_true rfl) ?_
  intro X hXl C
  subst hXl
  show Go X G 5 0 0 _ 0 [.ref (G.1 + 103), .int (nI p), .int y, .int w, uu] [] (mm I J)
  refine g_aload_n C dX10_line_0 rfl ?_
  refine g_iconst (v := 0) C dX10_line_1 (by decide) ?_
  refine g_putI (ci := 10) (k := 0) .int C dX10_line_2 rfl inGX10 tyX10_ok nmX10 (by decide) fwX10_80 ly_103 (by decide) rfl rfl rfl rfl rfl ?_
  refine g_aload_n C dX10_line_5 rfl ?_
  refine g_iload_n C dX10_line_6 rfl ?_
  refine gv1I (ci := 10) C dX10_line_7 vwX10_isPart mwX10_101 ⟨by decide, by decide⟩ rfl ly_103 (Nat.le_of_ble_eq_true rfl) (s_isPart _) (Nat.le_of_ble_eq_true rfl) rfl ⟨by decide, by decide⟩ ?_
  refine g_if_eq 27 C dX10_line_10 (by decide) (fun c10 => ?_) (fun c10 => ?_)
  · exact absurd h (if01.mp c10)
  · refine g_iload_n C dX10_line_13 rfl ?_
    refine g_if_lt 27 C dX10_line_14 (by decide) (fun c14 => ?_) (fun c14 => ?_)
    · refine g_iconst (v := (-1)) C dX10_line_27 (by decide) ?_
      exact e_I C dX10_line_28 rfl rfl rfl rfl rfl
    · refine g_iload_n C dX10_line_17 rfl ?_
      refine g_aload_n C dX10_line_18 rfl ?_
      refine g_getR (ci := 10) (k := 6) (q := 105) C dX10_line_19 rfl inGX10 (by decide) fwX10_17 ly_103 (by decide) rfl rfl ?_
      refine g_iload_n C dX10_line_22 rfl ?_
      refine g_iald p C dX10_line_23 ly_105 (by decide) (by decide) rfl (show p < 11 by omega) ?_
      refine g_icmp_lt 29 C dX10_line_24 (by decide) (fun c24 => ?_) (fun c24 => ?_)
      · exact absurd ⟨c14, c24⟩ h2
      · refine g_iconst (v := (-1)) C dX10_line_27 (by decide) ?_
        exact e_I C dX10_line_28 rfl rfl rfl rfl rfl
def mlnv (I : Nat → Nat → Int32) (q : Nat) (w : Int32) : Int32 := if w = 0 then I 107 q else if w = 1 then I 108 q else if w = 2 then I 109 q else if w = 3 then I 110 q else -1
theorem mlnv_lo {I : Nat → Nat → Int32} {q : Nat} {w : Int32} (h : w < 0) : -1 = mlnv I q w := by
  unfold mlnv
  rw [if_neg, if_neg, if_neg, if_neg] <;> (rintro rfl; exact absurd h (by decide))
theorem mlnv_hi {I : Nat → Nat → Int32} {q : Nat} {w : Int32} (h : nI 4 ≤ w) : -1 = mlnv I q w := by
  unfold mlnv
  rw [if_neg, if_neg, if_neg, if_neg] <;> (rintro rfl; exact absurd h (by decide))
set_option maxHeartbeats 1000000 in
theorem s_mline3 {l : Launch} {G : Gm} {I : Nat → Nat → Int32} {J : Nat → Nat → Int64} {p k : Nat} {w : Int32} (hp : p < 10) (hk : k < 12) (h : ¬ nI p < 0 ∧ nI p < I 103 4) (h2 : ¬ nI k < 0 ∧ nI k < I 105 p) : Sp l G iX10_line [.ref (G.1 + 103), .int (nI p), .int (nI k), .int w] (mm I J) (RetI (mlnv I (12 * p + k) w) (mm (T0 I) J)) noT := by
  refine Sp.of (by decide +kernel) (Nat.le_of_ble_eq_true rfl) ?_
  intro X hXl C
  subst hXl
  show Go X G 5 0 0 _ 0 [.ref (G.1 + 103), .int (nI p), .int (nI k), .int w, uu] [] (mm I J)
  refine g_aload_n C dX10_line_0 rfl ?_
  refine g_iconst (v := 0) C dX10_line_1 (by decide) ?_
  refine g_putI (ci := 10) (k := 0) .int C dX10_line_2 rfl inGX10 tyX10_ok nmX10 (by decide) fwX10_80 ly_103 (by decide) rfl rfl rfl rfl rfl ?_
  refine g_aload_n C dX10_line_5 rfl ?_
  refine g_iload_n C dX10_line_6 rfl ?_
  refine gv1I (ci := 10) C dX10_line_7 vwX10_isPart mwX10_101 ⟨by decide, by decide⟩ rfl ly_103 (Nat.le_of_ble_eq_true rfl) (s_isPart _) (Nat.le_of_ble_eq_true rfl) rfl ⟨by decide, by decide⟩ ?_
  refine g_if_eq 27 C dX10_line_10 (by decide) (fun c10 => ?_) (fun c10 => ?_)
  · exact absurd h (if01.mp c10)
  · refine g_iload_n C dX10_line_13 rfl ?_
    refine g_if_lt 27 C dX10_line_14 (by decide) (fun c14 => ?_) (fun c14 => ?_)
    · exact absurd c14 h2.1
    · refine g_iload_n C dX10_line_17 rfl ?_
      refine g_aload_n C dX10_line_18 rfl ?_
      refine g_getR (ci := 10) (k := 6) (q := 105) C dX10_line_19 rfl inGX10 (by decide) fwX10_17 ly_103 (by decide) rfl rfl ?_
      refine g_iload_n C dX10_line_22 rfl ?_
      refine g_iald p C dX10_line_23 ly_105 (by decide) (by decide) rfl (show p < 11 by omega) ?_
      refine g_icmp_lt 29 C dX10_line_24 (by decide) (fun c24 => ?_) (fun c24 => ?_)
      · refine g_bipush (v := 12) C dX10_line_29 (by decide) ?_
        refine g_iload_n C dX10_line_31 rfl ?_
        refine g_imul C dX10_line_32 ?_
        rw [mul12]
        refine g_iload_n C dX10_line_33 rfl ?_
        refine g_iadd C dX10_line_34 ?_
        rw [nI_add]
        refine g_istore_4 C dX10_line_35 (by decide) ?_
        refine g_iload_n C dX10_line_37 rfl ?_
        rcases pk_ix w (n := 4) (by decide) with hx | hx | ⟨j, hj, hx⟩
        · refine g_tabOut 100 C dX10_line_38 (Or.inl (tab_lo hx)) (by decide) ?_
          refine g_iconst (v := (-1)) C dX10_line_100 (by decide) ?_
          exact e_I C dX10_line_101 rfl rfl rfl (by first | exact mlnv_lo hx | exact mlnv_hi hx) rfl
        · refine g_tabOut 100 C dX10_line_38 (Or.inr (tab_hi (n := 3) hx (by decide))) (by decide) ?_
          refine g_iconst (v := (-1)) C dX10_line_100 (by decide) ?_
          exact e_I C dX10_line_101 rfl rfl rfl (by first | exact mlnv_lo hx | exact mlnv_hi hx) rfl
        · subst hx
          rcases (show j = 0 ∨ j = 1 ∨ j = 2 ∨ j = 3 by omega) with rfl | rfl | rfl | rfl
          · refine g_tabIn 68 C dX10_line_38 (by decide) (by decide) rfl (by decide) ?_
            refine g_aload_n C dX10_line_68 rfl ?_
            refine g_getR (ci := 10) (k := 8) (q := 107) C dX10_line_69 rfl inGX10 (by decide) fwX10_23 ly_103 (by decide) rfl rfl ?_
            refine g_iload C dX10_line_72 rfl ?_
            refine g_iald (12 * p + k) C dX10_line_74 ly_107 (by decide) (by decide) rfl (show 12 * p + k < 132 by omega) ?_
            exact e_I C dX10_line_75 rfl rfl rfl (by simp [mlnv, nI]; rfl) rfl
          · refine g_tabIn 76 C dX10_line_38 (by decide) (by decide) rfl (by decide) ?_
            refine g_aload_n C dX10_line_76 rfl ?_
            refine g_getR (ci := 10) (k := 9) (q := 108) C dX10_line_77 rfl inGX10 (by decide) fwX10_26 ly_103 (by decide) rfl rfl ?_
            refine g_iload C dX10_line_80 rfl ?_
            refine g_iald (12 * p + k) C dX10_line_82 ly_108 (by decide) (by decide) rfl (show 12 * p + k < 132 by omega) ?_
            exact e_I C dX10_line_83 rfl rfl rfl (by simp [mlnv, nI]; rfl) rfl
          · refine g_tabIn 84 C dX10_line_38 (by decide) (by decide) rfl (by decide) ?_
            refine g_aload_n C dX10_line_84 rfl ?_
            refine g_getR (ci := 10) (k := 10) (q := 109) C dX10_line_85 rfl inGX10 (by decide) fwX10_29 ly_103 (by decide) rfl rfl ?_
            refine g_iload C dX10_line_88 rfl ?_
            refine g_iald (12 * p + k) C dX10_line_90 ly_109 (by decide) (by decide) rfl (show 12 * p + k < 132 by omega) ?_
            exact e_I C dX10_line_91 rfl rfl rfl (by simp [mlnv, nI]; rfl) rfl
          · refine g_tabIn 92 C dX10_line_38 (by decide) (by decide) rfl (by decide) ?_
            refine g_aload_n C dX10_line_92 rfl ?_
            refine g_getR (ci := 10) (k := 11) (q := 110) C dX10_line_93 rfl inGX10 (by decide) fwX10_32 ly_103 (by decide) rfl rfl ?_
            refine g_iload C dX10_line_96 rfl ?_
            refine g_iald (12 * p + k) C dX10_line_98 ly_110 (by decide) (by decide) rfl (show 12 * p + k < 132 by omega) ?_
            exact e_I C dX10_line_99 rfl rfl rfl (by simp [mlnv, nI]; rfl) rfl
      · exact absurd h2.2 c24
set_option maxHeartbeats 1000000 in
theorem s_mmeant1 {l : Launch} {G : Gm} {I : Nat → Nat → Int32} {J : Nat → Nat → Int64} {x y w : Int32} (h : ¬ ((¬ x < 0 ∧ x < 16) ∧ (¬ y < 0 ∧ y < 16))) : Sp l G iX10_meant [.ref (G.1 + 103), .int x, .int y, .int w] (mm I J) (RetI 0 (mm (tr (T0 I) 2) J)) noT := by
  refine Sp.of (by decide +kernel) (Nat.le_of_ble_eq_true rfl) ?_
  intro X hXl C
  subst hXl
  show Go X G 4 0 0 _ 0 [.ref (G.1 + 103), .int x, .int y, .int w] [] (mm I J)
  refine g_aload_n C dX10_meant_0 rfl ?_
  refine g_iconst (v := 0) C dX10_meant_1 (by decide) ?_
  refine g_putI (ci := 10) (k := 0) .int C dX10_meant_2 rfl inGX10 tyX10_ok nmX10 (by decide) fwX10_80 ly_103 (by decide) rfl rfl rfl rfl rfl ?_
  refine g_iload_n C dX10_meant_5 rfl ?_
  refine gs1I C dX10_meant_6 swX10_isRight mwX10_228 ⟨by decide, by decide⟩ (s_misRight _) (Nat.le_of_ble_eq_true rfl) rfl ⟨by decide, by decide⟩ ?_
  refine g_if_eq 19 C dX10_meant_9 (by decide) (fun c9 => ?_) (fun c9 => ?_)
  · refine g_aload_n C dX10_meant_19 rfl ?_
    refine g_iconst (v := 2) C dX10_meant_20 (by decide) ?_
    refine gv1I (ci := 10) C dX10_meant_21 vwX10_denied mwX10_105 ⟨by decide, by decide⟩ rfl ly_103 (Nat.le_of_ble_eq_true rfl) (s_denied _) (Nat.le_of_ble_eq_true rfl) rfl ⟨by decide, by decide⟩ ?_
    exact e_Z C dX10_meant_24 rfl rfl rfl (by first | exact Or.inl rfl | exact Or.inr rfl) rfl rfl
  · have g9 := Classical.not_not.mp (fun q => c9 (if01.mpr q))
    refine g_iload_n C dX10_meant_12 rfl ?_
    refine gs1I C dX10_meant_13 swX10_isRight mwX10_228 ⟨by decide, by decide⟩ (s_misRight _) (Nat.le_of_ble_eq_true rfl) rfl ⟨by decide, by decide⟩ ?_
    refine g_if_ne 25 C dX10_meant_16 (by decide) (fun c16 => ?_) (fun c16 => ?_)
    · exact absurd ⟨g9, Classical.not_not.mp (fun q => c16 (if01.mpr q))⟩ h
    · refine g_aload_n C dX10_meant_19 rfl ?_
      refine g_iconst (v := 2) C dX10_meant_20 (by decide) ?_
      refine gv1I (ci := 10) C dX10_meant_21 vwX10_denied mwX10_105 ⟨by decide, by decide⟩ rfl ly_103 (Nat.le_of_ble_eq_true rfl) (s_denied _) (Nat.le_of_ble_eq_true rfl) rfl ⟨by decide, by decide⟩ ?_
      exact e_Z C dX10_meant_24 rfl rfl rfl (by first | exact Or.inl rfl | exact Or.inr rfl) rfl rfl
def mTel (I : Nat → Nat → Int32) (s : Nat) (d is : Int32) : Nat → Nat → Int32 := up1 I 106 s (if is = 0 then I 106 s &&& (((1 : Int32) <<< (d &&& 31)) ^^^ (-1)) else I 106 s ||| ((1 : Int32) <<< (d &&& 31)))
set_option maxHeartbeats 1000000 in
theorem s_mmeant {l : Launch} {G : Gm} {I : Nat → Nat → Int32} {J : Nat → Nat → Int64} {s : Nat} {y w : Int32} (hs : s < 16) (h2 : ¬ y < 0 ∧ y < 16) : Sp l G iX10_meant [.ref (G.1 + 103), .int (nI s), .int y, .int w] (mm I J) (RetI 1 (mm (tr (mTel (T0 I) s y w) 0) J)) noT := by
  refine Sp.of (by decide +kernel) (Nat.le_of_ble_eq_true rfl) ?_
  intro X hXl C
  subst hXl
  show Go X G 4 0 0 _ 0 [.ref (G.1 + 103), .int (nI s), .int y, .int w] [] (mm I J)
  refine g_aload_n C dX10_meant_0 rfl ?_
  refine g_iconst (v := 0) C dX10_meant_1 (by decide) ?_
  refine g_putI (ci := 10) (k := 0) .int C dX10_meant_2 rfl inGX10 tyX10_ok nmX10 (by decide) fwX10_80 ly_103 (by decide) rfl rfl rfl rfl rfl ?_
  refine g_iload_n C dX10_meant_5 rfl ?_
  refine gs1I C dX10_meant_6 swX10_isRight mwX10_228 ⟨by decide, by decide⟩ (s_misRight _) (Nat.le_of_ble_eq_true rfl) rfl ⟨by decide, by decide⟩ ?_
  refine g_if_eq 19 C dX10_meant_9 (by decide) (fun c9 => ?_) (fun c9 => ?_)
  · exact absurd ⟨nI_pos (show s < 2 ^ 31 by omega), nI_lt (b := 16) hs (by decide)⟩ (if01.mp c9)
  · refine g_iload_n C dX10_meant_12 rfl ?_
    refine gs1I C dX10_meant_13 swX10_isRight mwX10_228 ⟨by decide, by decide⟩ (s_misRight _) (Nat.le_of_ble_eq_true rfl) rfl ⟨by decide, by decide⟩ ?_
    refine g_if_ne 25 C dX10_meant_16 (by decide) (fun c16 => ?_) (fun c16 => ?_)
    · refine g_aload_n C dX10_meant_25 rfl ?_
      refine g_getR (ci := 10) (k := 7) (q := 106) C dX10_meant_26 rfl inGX10 (by decide) fwX10_20 ly_103 (by decide) rfl rfl ?_
      refine g_iload_n C dX10_meant_29 rfl ?_
      refine g_iload_n C dX10_meant_30 rfl ?_
      refine g_if_eq 47 C dX10_meant_31 (by decide) (fun c31 => ?_) (fun c31 => ?_)
      · refine g_aload_n C dX10_meant_47 rfl ?_
        refine g_getR (ci := 10) (k := 7) (q := 106) C dX10_meant_48 rfl inGX10 (by decide) fwX10_20 ly_103 (by decide) rfl rfl ?_
        refine g_iload_n C dX10_meant_51 rfl ?_
        refine g_iald _ C dX10_meant_52 ly_106 (by decide) (by decide) rfl hs ?_
        refine g_iconst (v := 1) C dX10_meant_53 (by decide) ?_
        refine g_iload_n C dX10_meant_54 rfl ?_
        refine g_ishl C dX10_meant_55 ?_
        refine g_iconst (v := (-1)) C dX10_meant_56 (by decide) ?_
        refine g_ixor C dX10_meant_57 ?_
        refine g_iand C dX10_meant_58 ?_
        refine g_iast _ C dX10_meant_59 ly_106 (by decide) (by decide) rfl hs ?_
        refine g_aload_n C dX10_meant_60 rfl ?_
        refine gv0I (ci := 10) C dX10_meant_61 vwX10_granted mwX10_108 ⟨by decide, by decide⟩ rfl ly_103 (Nat.le_of_ble_eq_true rfl) (s_granted) (Nat.le_of_ble_eq_true rfl) rfl ⟨by decide, by decide⟩ ?_
        exact e_Z C dX10_meant_64 rfl rfl rfl (by first | exact Or.inl rfl | exact Or.inr rfl) rfl (by simp only [mTel]; first | (rw [if_pos c31]; rfl) | (rw [if_neg c31]; rfl))
      · refine g_aload_n C dX10_meant_34 rfl ?_
        refine g_getR (ci := 10) (k := 7) (q := 106) C dX10_meant_35 rfl inGX10 (by decide) fwX10_20 ly_103 (by decide) rfl rfl ?_
        refine g_iload_n C dX10_meant_38 rfl ?_
        refine g_iald _ C dX10_meant_39 ly_106 (by decide) (by decide) rfl hs ?_
        refine g_iconst (v := 1) C dX10_meant_40 (by decide) ?_
        refine g_iload_n C dX10_meant_41 rfl ?_
        refine g_ishl C dX10_meant_42 ?_
        refine g_ior C dX10_meant_43 ?_
        refine g_goto 59 C dX10_meant_44 (by decide) ?_
        refine g_iast _ C dX10_meant_59 ly_106 (by decide) (by decide) rfl hs ?_
        refine g_aload_n C dX10_meant_60 rfl ?_
        refine gv0I (ci := 10) C dX10_meant_61 vwX10_granted mwX10_108 ⟨by decide, by decide⟩ rfl ly_103 (Nat.le_of_ble_eq_true rfl) (s_granted) (Nat.le_of_ble_eq_true rfl) rfl ⟨by decide, by decide⟩ ?_
        exact e_Z C dX10_meant_64 rfl rfl rfl (by first | exact Or.inl rfl | exact Or.inr rfl) rfl (by simp only [mTel]; first | (rw [if_pos c31]; rfl) | (rw [if_neg c31]; rfl))
    · exact absurd h2 (if01.mp c16)
set_option maxHeartbeats 1000000 in
theorem s_mcured1 {l : Launch} {G : Gm} {I : Nat → Nat → Int32} {J : Nat → Nat → Int64} {x : Int32} (h : x < 0 ∨ ¬ x < I 103 34) : Sp l G iX10_cured [.ref (G.1 + 103), .int x] (mm I J) (RetI (-1) (mm (T0 I) J)) noT := by
  refine Sp.of (by decide +kernel) (Nat.le_of_ble_eq_true rfl) ?_
  intro X hXl C
  subst hXl
  show Go X G 2 0 0 _ 0 [.ref (G.1 + 103), .int x] [] (mm I J)
  refine g_aload_n C dX10_cured_0 rfl ?_
  refine g_iconst (v := 0) C dX10_cured_1 (by decide) ?_
  refine g_putI (ci := 10) (k := 0) .int C dX10_cured_2 rfl inGX10 tyX10_ok nmX10 (by decide) fwX10_80 ly_103 (by decide) rfl rfl rfl rfl rfl ?_
  refine g_iload_n C dX10_cured_5 rfl ?_
  refine g_if_lt 26 C dX10_cured_6 (by decide) (fun c6 => ?_) (fun c6 => ?_)
  · refine g_iconst (v := (-1)) C dX10_cured_26 (by decide) ?_
    exact e_I C dX10_cured_27 rfl rfl rfl rfl rfl
  · refine g_iload_n C dX10_cured_9 rfl ?_
    refine g_aload_n C dX10_cured_10 rfl ?_
    refine g_getIv (ci := 10) (k := 34) (v := I 103 34) C dX10_cured_11 rfl inGX10 (by decide) fwX10_272 ly_103 (by decide) rfl (T0_103 (by decide)) ?_
    refine g_icmp_ge 26 C dX10_cured_14 (by decide) (fun c14 => ?_) (fun c14 => ?_)
    · skip
      refine g_iconst (v := (-1)) C dX10_cured_26 (by decide) ?_
      exact e_I C dX10_cured_27 rfl rfl rfl rfl rfl
    · exact absurd h (by simp [c6, Int32.not_le.mp c14])
set_option maxHeartbeats 1000000 in
theorem s_mcured {l : Launch} {G : Gm} {I : Nat → Nat → Int32} {J : Nat → Nat → Int64} {i : Nat} (hi : i < 10) (h : nI i < I 103 34) : Sp l G iX10_cured [.ref (G.1 + 103), .int (nI i)] (mm I J) (RetI (I 122 i) (mm (T0 I) J)) noT := by
  refine Sp.of (by decide +kernel) (Nat.le_of_ble_eq_true rfl) ?_
  intro X hXl C
  subst hXl
  show Go X G 2 0 0 _ 0 [.ref (G.1 + 103), .int (nI i)] [] (mm I J)
  refine g_aload_n C dX10_cured_0 rfl ?_
  refine g_iconst (v := 0) C dX10_cured_1 (by decide) ?_
  refine g_putI (ci := 10) (k := 0) .int C dX10_cured_2 rfl inGX10 tyX10_ok nmX10 (by decide) fwX10_80 ly_103 (by decide) rfl rfl rfl rfl rfl ?_
  refine g_iload_n C dX10_cured_5 rfl ?_
  refine g_if_lt 26 C dX10_cured_6 (by decide) (fun c6 => ?_) (fun c6 => ?_)
  · exact absurd c6 (nI_pos (by omega))
  · refine g_iload_n C dX10_cured_9 rfl ?_
    refine g_aload_n C dX10_cured_10 rfl ?_
    refine g_getIv (ci := 10) (k := 34) (v := I 103 34) C dX10_cured_11 rfl inGX10 (by decide) fwX10_272 ly_103 (by decide) rfl (T0_103 (by decide)) ?_
    refine g_icmp_ge 26 C dX10_cured_14 (by decide) (fun c14 => ?_) (fun c14 => ?_)
    · exact absurd c14 (Int32.not_le.mpr h)
    · refine g_aload_n C dX10_cured_17 rfl ?_
      refine g_getR (ci := 10) (k := 32) (q := 122) C dX10_cured_18 rfl inGX10 (by decide) fwX10_74 ly_103 (by decide) rfl rfl ?_
      refine g_iload_n C dX10_cured_21 rfl ?_
      refine g_ialdv (v := I 122 i) _ C dX10_cured_22 ly_122 (by decide) (by decide) rfl hi (by rw [up1_off (by decide)]) ?_
      refine g_goto 27 C dX10_cured_23 (by decide) ?_
      exact e_I C dX10_cured_27 rfl rfl rfl rfl rfl
set_option maxHeartbeats 1000000 in
theorem s_mstep1 {l : Launch} {G : Gm} {I : Nat → Nat → Int32} {J : Nat → Nat → Int64} {x : Int32} (h : x < 0 ∨ ¬ x < I 103 30) : Sp l G iX10_step [.ref (G.1 + 103), .int x] (mm I J) (RetI 0 (mm (up1 I 103 0 1) J)) noT := by
  refine Sp.of (by decide +kernel) (Nat.le_of_ble_eq_true rfl) ?_
  intro X hXl C
  subst hXl
  show Go X G 2 0 0 _ 0 [.ref (G.1 + 103), .int x] [] (mm I J)
  refine g_aload_n C dX10_step_0 rfl ?_
  refine g_iload_n C dX10_step_1 rfl ?_
  refine g_if_lt 13 C dX10_step_2 (by decide) (fun c2 => ?_) (fun c2 => ?_)
  · refine g_iconst (v := 1) C dX10_step_13 (by decide) ?_
    refine g_goto 18 C dX10_step_14 (by decide) ?_
    refine g_putI (ci := 10) (k := 0) .int C dX10_step_18 rfl inGX10 tyX10_ok nmX10 (by decide) fwX10_80 ly_103 (by decide) rfl rfl rfl rfl rfl ?_
    refine g_aload_n C dX10_step_21 rfl ?_
    refine g_getIv (ci := 10) (k := 0) (v := 1) C dX10_step_22 rfl inGX10 (by decide) fwX10_80 ly_103 (by decide) rfl (up1_same _ _ _ _) ?_
    refine g_if_le 32 C dX10_step_25 (by decide) (fun c25 => ?_) (fun c25 => ?_)
    · first | exact absurd c25 (by decide) | exact absurd (by decide) c25 | exact absurd rfl c25
    · refine g_iconst (v := 0) C dX10_step_28 (by decide) ?_
      refine g_goto 38 C dX10_step_29 (by decide) ?_
      exact e_I C dX10_step_38 rfl rfl rfl rfl rfl
  · refine g_iload_n C dX10_step_5 rfl ?_
    refine g_aload_n C dX10_step_6 rfl ?_
    refine g_getI (ci := 10) (k := 30) C dX10_step_7 rfl inGX10 (by decide) fwX10_262 ly_103 (by decide) rfl ?_
    refine g_icmp_lt 17 C dX10_step_10 (by decide) (fun c10 => ?_) (fun c10 => ?_)
    · exact absurd h (by simp [c2, c10])
    · refine g_iconst (v := 1) C dX10_step_13 (by decide) ?_
      refine g_goto 18 C dX10_step_14 (by decide) ?_
      refine g_putI (ci := 10) (k := 0) .int C dX10_step_18 rfl inGX10 tyX10_ok nmX10 (by decide) fwX10_80 ly_103 (by decide) rfl rfl rfl rfl rfl ?_
      refine g_aload_n C dX10_step_21 rfl ?_
      refine g_getIv (ci := 10) (k := 0) (v := 1) C dX10_step_22 rfl inGX10 (by decide) fwX10_80 ly_103 (by decide) rfl (up1_same _ _ _ _) ?_
      refine g_if_le 32 C dX10_step_25 (by decide) (fun c25 => ?_) (fun c25 => ?_)
      · first | exact absurd c25 (by decide) | exact absurd (by decide) c25 | exact absurd rfl c25
      · refine g_iconst (v := 0) C dX10_step_28 (by decide) ?_
        refine g_goto 38 C dX10_step_29 (by decide) ?_
        exact e_I C dX10_step_38 rfl rfl rfl rfl rfl
set_option maxHeartbeats 1000000 in
theorem s_mstep {l : Launch} {G : Gm} {I : Nat → Nat → Int32} {J : Nat → Nat → Int64} {i : Nat} (hi : i < 92) (h : nI i < I 103 30) : Sp l G iX10_step [.ref (G.1 + 103), .int (nI i)] (mm I J) (RetI (I 120 i) (mm (T0 I) J)) noT := by
  refine Sp.of (by decide +kernel) (Nat.le_of_ble_eq_true rfl) ?_
  intro X hXl C
  subst hXl
  show Go X G 2 0 0 _ 0 [.ref (G.1 + 103), .int (nI i)] [] (mm I J)
  refine g_aload_n C dX10_step_0 rfl ?_
  refine g_iload_n C dX10_step_1 rfl ?_
  refine g_if_lt 13 C dX10_step_2 (by decide) (fun c2 => ?_) (fun c2 => ?_)
  · exact absurd c2 (nI_pos (by omega))
  · refine g_iload_n C dX10_step_5 rfl ?_
    refine g_aload_n C dX10_step_6 rfl ?_
    refine g_getI (ci := 10) (k := 30) C dX10_step_7 rfl inGX10 (by decide) fwX10_262 ly_103 (by decide) rfl ?_
    refine g_icmp_lt 17 C dX10_step_10 (by decide) (fun c10 => ?_) (fun c10 => ?_)
    · refine g_iconst (v := 0) C dX10_step_17 (by decide) ?_
      refine g_putI (ci := 10) (k := 0) .int C dX10_step_18 rfl inGX10 tyX10_ok nmX10 (by decide) fwX10_80 ly_103 (by decide) rfl rfl rfl rfl rfl ?_
      refine g_aload_n C dX10_step_21 rfl ?_
      refine g_getIv (ci := 10) (k := 0) (v := 0) C dX10_step_22 rfl inGX10 (by decide) fwX10_80 ly_103 (by decide) rfl (up1_same _ _ _ _) ?_
      refine g_if_le 32 C dX10_step_25 (by decide) (fun c25 => ?_) (fun c25 => ?_)
      · refine g_aload_n C dX10_step_32 rfl ?_
        refine g_getR (ci := 10) (k := 29) (q := 120) C dX10_step_33 rfl inGX10 (by decide) fwX10_68 ly_103 (by decide) rfl rfl ?_
        refine g_iload_n C dX10_step_36 rfl ?_
        refine g_ialdv (v := I 120 i) _ C dX10_step_37 ly_120 (by decide) (by decide) rfl hi (by rw [up1_off (by decide)]) ?_
        exact e_I C dX10_step_38 rfl rfl rfl rfl rfl
      · first | exact absurd c25 (by decide) | exact absurd (by decide) c25 | exact absurd rfl c25
    · exact absurd h c10
set_option maxHeartbeats 1000000 in
theorem s_into {l : Launch} {G : Gm} {I : Nat → Nat → Int32} {J : Nat → Nat → Int64} {q : Nat} {s : Int32} (hq : q < 80) : Sp l G iX10_into [.ref (G.1 + 103), .int (nI q), .int s] (mm I J) (RetI (if hb (I 115 q) s = 0 then nI q else -2) (mm I J)) noT := by
  refine Sp.of (by decide +kernel) (Nat.le_of_ble_eq_true rfl) ?_
  intro X hXl C
  subst hXl
  show Go X G 3 0 0 _ 0 [.ref (G.1 + 103), .int (nI q), .int s] [] (mm I J)
  refine g_aload_n C dX10_into_0 rfl ?_
  refine g_getR (ci := 10) (k := 24) (q := 115) C dX10_into_1 rfl inGX10 (by decide) fwX10_52 ly_103 (by decide) rfl rfl ?_
  refine g_iload_n C dX10_into_4 rfl ?_
  refine g_iald _ C dX10_into_5 ly_115 (by decide) (by decide) rfl hq ?_
  refine g_iload_n C dX10_into_6 rfl ?_
  refine g_ishr C dX10_into_7 ?_
  refine g_iconst (v := 1) C dX10_into_8 (by decide) ?_
  refine g_iand C dX10_into_9 ?_
  refine g_iconst (v := 1) C dX10_into_10 (by decide) ?_
  refine g_icmp_ne 19 C dX10_into_11 (by decide) (fun c11 => ?_) (fun c11 => ?_)
  · refine g_iload_n C dX10_into_19 rfl ?_
    exact e_I C dX10_into_20 rfl rfl rfl (by unfold hb; simp_all) rfl
  · refine g_bipush (v := (-2)) C dX10_into_14 (by decide) ?_
    refine g_goto 20 C dX10_into_16 (by decide) ?_
    exact e_I C dX10_into_20 rfl rfl rfl (by unfold hb; simp_all) rfl
def cmV (I : Nat → Nat → Int32) (q : Nat) (x : Int32) : Int32 := I 114 q ||| (x &&& (I 115 q ^^^ (-1)))
def cmF (I : Nat → Nat → Int32) (q : Nat) (x : Int32) : Nat → Nat → Int32 := up1 I 114 q (cmV I q x)
set_option maxHeartbeats 1000000 in
theorem s_comes {l : Launch} {G : Gm} {I : Nat → Nat → Int32} {J : Nat → Nat → Int64} {q : Nat} {x : Int32} (hq : q < 80) : Sp l G iX10_comes [.ref (G.1 + 103), .int (nI q), .int x] (mm I J) (RetI (if cmV I q x = I 114 q then 0 else 1) (mm (cmF I q x) J)) noT := by
  refine Sp.of (by decide +kernel) (Nat.le_of_ble_eq_true rfl) ?_
  intro X hXl C
  subst hXl
  show Go X G 4 0 0 _ 0 [.ref (G.1 + 103), .int (nI q), .int x, uu] [] (mm I J)
  refine g_aload_n C dX10_comes_0 rfl ?_
  refine g_getR (ci := 10) (k := 23) (q := 114) C dX10_comes_1 rfl inGX10 (by decide) fwX10_49 ly_103 (by decide) rfl rfl ?_
  refine g_iload_n C dX10_comes_4 rfl ?_
  refine g_iald _ C dX10_comes_5 ly_114 (by decide) (by decide) rfl hq ?_
  refine g_istore_3 C dX10_comes_6 (by decide) ?_
  refine g_aload_n C dX10_comes_7 rfl ?_
  refine g_getR (ci := 10) (k := 23) (q := 114) C dX10_comes_8 rfl inGX10 (by decide) fwX10_49 ly_103 (by decide) rfl rfl ?_
  refine g_iload_n C dX10_comes_11 rfl ?_
  refine g_dup2 C dX10_comes_12 rfl rfl ?_
  refine g_iald _ C dX10_comes_13 ly_114 (by decide) (by decide) rfl hq ?_
  refine g_iload_n C dX10_comes_14 rfl ?_
  refine g_aload_n C dX10_comes_15 rfl ?_
  refine g_getR (ci := 10) (k := 24) (q := 115) C dX10_comes_16 rfl inGX10 (by decide) fwX10_52 ly_103 (by decide) rfl rfl ?_
  refine g_iload_n C dX10_comes_19 rfl ?_
  refine g_iald _ C dX10_comes_20 ly_115 (by decide) (by decide) rfl hq ?_
  refine g_iconst (v := (-1)) C dX10_comes_21 (by decide) ?_
  refine g_ixor C dX10_comes_22 ?_
  refine g_iand C dX10_comes_23 ?_
  refine g_ior C dX10_comes_24 ?_
  refine g_iast _ C dX10_comes_25 ly_114 (by decide) (by decide) rfl hq ?_
  refine g_aload_n C dX10_comes_26 rfl ?_
  refine g_getR (ci := 10) (k := 23) (q := 114) C dX10_comes_27 rfl inGX10 (by decide) fwX10_49 ly_103 (by decide) rfl rfl ?_
  refine g_iload_n C dX10_comes_30 rfl ?_
  refine g_ialdv (v := cmV I q x) _ C dX10_comes_31 ly_114 (by decide) (by decide) rfl hq (up1_same _ _ _ _) ?_
  refine g_iload_n C dX10_comes_32 rfl ?_
  refine g_icmp_eq 40 C dX10_comes_33 (by decide) (fun c33 => ?_) (fun c33 => ?_)
  · refine g_iconst (v := 0) C dX10_comes_40 (by decide) ?_
    exact e_Z C dX10_comes_41 rfl rfl rfl (by first | exact Or.inl rfl | exact Or.inr rfl) (by first | exact (if_pos c33).symm | exact (if_neg c33).symm) rfl
  · refine g_iconst (v := 1) C dX10_comes_36 (by decide) ?_
    refine g_goto 41 C dX10_comes_37 (by decide) ?_
    exact e_Z C dX10_comes_41 rfl rfl rfl (by first | exact Or.inl rfl | exact Or.inr rfl) (by first | exact (if_pos c33).symm | exact (if_neg c33).symm) rfl
theorem div100 {p r : Nat} (hr : r < 100) (hp : p < 1000) : nI (100 * p + r) / 100 = nI p ∧ nI (100 * p + r) - nI (100 * p + r) / 100 * 100 = nI r := by
  have h1 : nI (100 * p + r) / 100 = nI p := by
    rw [← Int32.toInt_inj, Int32.toInt_div, nI_toInt (by omega), nI_toInt (by omega), show (100 : Int32).toInt = 100 from rfl]
    rw [Int.tdiv_eq_ediv_of_nonneg (by omega)]
    rw [show (((100 * p + r : Nat) : Int)) / 100 = (p : Int) by omega]
    exact Int.bmod_eq_of_le (by omega) (by omega)
  refine ⟨h1, ?_⟩
  rw [h1, ← nI_add, show (100 : Int32) = nI 100 from rfl, nI_mul, Nat.mul_comm p 100, Int32.add_comm, Int32.add_sub_cancel]
def trnF (I : Nat → Nat → Int32) (p r : Nat) : Nat → Nat → Int32 := up1 I 104 p (I 104 p ^^^ ((1 : Int32) <<< (nI r &&& 31)))
set_option maxHeartbeats 1000000 in
theorem s_turns {l : Launch} {G : Gm} {I : Nat → Nat → Int32} {J : Nat → Nat → Int64} {p r : Nat} (hp : p < 10) (hr : r < 100) : Sp l G iX10_turns [.ref (G.1 + 103), .int (nI (100 * p + r))] (mm I J) (RetV (mm (trnF I p r) J)) noT := by
  refine Sp.of (by decide +kernel) (Nat.le_of_ble_eq_true rfl) ?_
  intro X hXl C
  subst hXl
  show Go X G 2 0 0 _ 0 [.ref (G.1 + 103), .int (nI (100 * p + r))] [] (mm I J)
  refine g_aload_n C dX10_turns_0 rfl ?_
  refine g_getR (ci := 10) (k := 5) (q := 104) C dX10_turns_1 rfl inGX10 (by decide) fwX10_13 ly_103 (by decide) rfl rfl ?_
  refine g_iload_n C dX10_turns_4 rfl ?_
  refine g_bipush (v := 100) C dX10_turns_5 (by decide) ?_
  refine g_idiv C dX10_turns_7 (by decide) ?_
  rw [(div100 hr (by omega)).1]
  refine g_dup2 C dX10_turns_8 rfl rfl ?_
  refine g_iald _ C dX10_turns_9 ly_104 (by decide) (by decide) rfl hp ?_
  refine g_iconst (v := 1) C dX10_turns_10 (by decide) ?_
  refine g_iload_n C dX10_turns_11 rfl ?_
  refine g_bipush (v := 100) C dX10_turns_12 (by decide) ?_
  refine g_irem C dX10_turns_14 (by decide) ?_
  rw [(div100 hr (by omega)).2]
  refine g_ishl C dX10_turns_15 ?_
  refine g_ixor C dX10_turns_16 ?_
  refine g_iast _ C dX10_turns_17 ly_104 (by decide) (by decide) rfl hp ?_
  exact e_V C dX10_turns_18 rfl rfl rfl rfl
set_option maxHeartbeats 1000000 in
theorem s_mmisuses {l : Launch} {G : Gm} {I : Nat → Nat → Int32} {J : Nat → Nat → Int64} : Sp l G iX10_misuses [.ref (G.1 + 103)] (mm I J) (RetI (it (fun s a => a + bts 32 (I 117 s &&& (I 106 s ^^^ (-1))) 0) 16 0) (mm I J)) noT := by
  refine Sp.of (by decide +kernel) (Nat.le_of_ble_eq_true rfl) ?_
  intro X hXl C
  subst hXl
  show Go X G 3 0 0 _ 0 [.ref (G.1 + 103), uu, uu] [] (mm I J)
  have loop : ∀ k : Nat, k ≤ 16 → Go X G 3 0 0 (KQ X G iX10_misuses (RetI (it (fun s a => a + bts 32 (I 117 s &&& (I 106 s ^^^ (-1))) 0) 16 0) (mm I J)) noT) 4 [.ref (G.1 + 103), .int (it (fun s a => a + bts 32 (I 117 s &&& (I 106 s ^^^ (-1))) 0) k 0), .int (nI k)] [] (mm I J) := by
    refine loopN (16) ?_ ?_
    · skip
      show Go X G 3 0 0 _ 4 _ [] _
      refine g_iload_n C dX10_misuses_4 rfl ?_
      refine g_bipush (v := 16) C dX10_misuses_5 (by decide) ?_
      refine g_icmp_ge 37 C dX10_misuses_7 (by decide) (fun c7 => ?_) (fun c7 => ?_)
      · refine g_iload_n C dX10_misuses_37 rfl ?_
        exact e_I C dX10_misuses_38 rfl rfl rfl rfl rfl
      · exact absurd (Int32.le_refl _) c7
    · intro k hk ih 
      show Go X G 3 0 0 _ 4 _ [] _
      refine g_iload_n C dX10_misuses_4 rfl ?_
      refine g_bipush (v := 16) C dX10_misuses_5 (by decide) ?_
      refine g_icmp_ge 37 C dX10_misuses_7 (by decide) (fun c7 => ?_) (fun c7 => ?_)
      · exact (nI_ge_dead (n := 16) c7 hk (by omega)).elim
      · refine g_iload_n C dX10_misuses_10 rfl ?_
        refine g_aload_n C dX10_misuses_11 rfl ?_
        refine g_getR (ci := 10) (k := 26) (q := 117) C dX10_misuses_12 rfl inGX10 (by decide) fwX10_58 ly_103 (by decide) rfl rfl ?_
        refine g_iload_n C dX10_misuses_15 rfl ?_
        refine g_iald _ C dX10_misuses_16 ly_117 (by decide) (by decide) rfl hk ?_
        refine g_aload_n C dX10_misuses_17 rfl ?_
        refine g_getR (ci := 10) (k := 7) (q := 106) C dX10_misuses_18 rfl inGX10 (by decide) fwX10_20 ly_103 (by decide) rfl rfl ?_
        refine g_iload_n C dX10_misuses_21 rfl ?_
        refine g_iald _ C dX10_misuses_22 ly_106 (by decide) (by decide) rfl hk ?_
        refine g_iconst (v := (-1)) C dX10_misuses_23 (by decide) ?_
        refine g_ixor C dX10_misuses_24 ?_
        refine g_iand C dX10_misuses_25 ?_
        refine gs1I C dX10_misuses_26 swX10_bits mwX10_244 ⟨by decide, by decide⟩ (s_mbits _) (Nat.le_of_ble_eq_true rfl) rfl ⟨by decide, by decide⟩ ?_
        refine g_iadd C dX10_misuses_29 ?_
        refine g_istore_1 C dX10_misuses_30 (by decide) ?_
        refine g_iinc_2 C dX10_misuses_31 (nI_1 k) (by decide) ?_
        refine g_goto 4 C dX10_misuses_34 (by decide) ?_
        exact ih
  refine g_iconst (v := 0) C dX10_misuses_0 (by decide) ?_
  refine g_istore_1 C dX10_misuses_1 (by decide) ?_
  refine g_iconst (v := 0) C dX10_misuses_2 (by decide) ?_
  refine g_istore_2 C dX10_misuses_3 (by decide) ?_
  exact loop 0 (Nat.zero_le _)
def ndf (I : Nat → Nat → Int32) (p k : Nat) (a : Int32) : Int32 := a ||| (if I 107 (12 * p + k) = 0 ∨ I 107 (12 * p + k) = 3 then (1 : Int32) <<< (I 108 (12 * p + k) &&& 31) else 0)
def nof (I : Nat → Nat → Int32) (p m : Nat) : Int32 := if I 118 p = 0 then 0 else it (ndf I p) m 0
set_option maxHeartbeats 1000000 in
theorem s_neededOf {l : Launch} {G : Gm} {I : Nat → Nat → Int32} {J : Nat → Nat → Int64} {p m : Nat} (hp : p < 10) (hm : I 105 p = nI m) (hm12 : m ≤ 12) : Sp l G iX10_neededOf [.ref (G.1 + 103), .int (nI p)] (mm I J) (RetI (nof I p m) (mm I J)) noT := by
  refine Sp.of (by decide +kernel) (Nat.le_of_ble_eq_true rfl) ?_
  intro X hXl C
  subst hXl
  show Go X G 4 0 0 _ 0 [.ref (G.1 + 103), .int (nI p), uu, uu] [] (mm I J)
  by_cases h : I 118 p = 0
  · skip
    refine g_iconst (v := 0) C dX10_neededOf_0 (by decide) ?_
    refine g_istore_2 C dX10_neededOf_1 (by decide) ?_
    refine g_bipush (v := 12) C dX10_neededOf_2 (by decide) ?_
    refine g_iload_n C dX10_neededOf_4 rfl ?_
    refine g_imul C dX10_neededOf_5 ?_
    rw [mul12]
    refine g_istore_3 C dX10_neededOf_6 (by decide) ?_
    skip
    refine g_iload_n C dX10_neededOf_7 rfl ?_
    refine g_bipush (v := 12) C dX10_neededOf_8 (by decide) ?_
    refine g_iload_n C dX10_neededOf_10 rfl ?_
    refine g_imul C dX10_neededOf_11 ?_
    rw [mul12]
    refine g_aload_n C dX10_neededOf_12 rfl ?_
    refine g_getR (ci := 10) (k := 6) (q := 105) C dX10_neededOf_13 rfl inGX10 (by decide) fwX10_17 ly_103 (by decide) rfl rfl ?_
    refine g_iload_n C dX10_neededOf_16 rfl ?_
    refine g_ialdv (v := nI m) p C dX10_neededOf_17 ly_105 (by decide) (by decide) rfl (show p < 11 by omega) hm ?_
    refine g_iadd C dX10_neededOf_18 ?_
    rw [nI_add]
    refine g_icmp_ge 71 C dX10_neededOf_19 (by decide) (fun c19 => ?_) (fun c19 => ?_)
    · skip
      refine g_iload_n C dX10_neededOf_71 rfl ?_
      exact e_I C dX10_neededOf_72 rfl rfl rfl (if_pos h).symm rfl
    · skip
      refine g_aload_n C dX10_neededOf_22 rfl ?_
      refine g_getR (ci := 10) (k := 27) (q := 118) C dX10_neededOf_23 rfl inGX10 (by decide) fwX10_61 ly_103 (by decide) rfl rfl ?_
      refine g_iload_n C dX10_neededOf_26 rfl ?_
      refine g_zald _ C dX10_neededOf_27 ly_118 (by decide) (by decide) rfl hp ?_
      refine g_if_eq 71 C dX10_neededOf_28 (by decide) (fun c28 => ?_) (fun c28 => ?_)
      · refine g_iload_n C dX10_neededOf_71 rfl ?_
        exact e_I C dX10_neededOf_72 rfl rfl rfl (if_pos h).symm rfl
      · exact absurd h c28
  · skip
    have loop : ∀ k : Nat, k ≤ m → Go X G 4 0 0 (KQ X G iX10_neededOf (RetI (nof I p m) (mm I J)) noT) 7 [.ref (G.1 + 103), .int (nI p), .int (it (ndf I p) k 0), .int (nI (12 * p + k))] [] (mm I J) := by
      refine loopN (m) ?_ ?_
      · skip
        show Go X G 4 0 0 _ 7 _ [] _
        refine g_iload_n C dX10_neededOf_7 rfl ?_
        refine g_bipush (v := 12) C dX10_neededOf_8 (by decide) ?_
        refine g_iload_n C dX10_neededOf_10 rfl ?_
        refine g_imul C dX10_neededOf_11 ?_
        rw [mul12]
        refine g_aload_n C dX10_neededOf_12 rfl ?_
        refine g_getR (ci := 10) (k := 6) (q := 105) C dX10_neededOf_13 rfl inGX10 (by decide) fwX10_17 ly_103 (by decide) rfl rfl ?_
        refine g_iload_n C dX10_neededOf_16 rfl ?_
        refine g_ialdv (v := nI m) p C dX10_neededOf_17 ly_105 (by decide) (by decide) rfl (show p < 11 by omega) hm ?_
        refine g_iadd C dX10_neededOf_18 ?_
        rw [nI_add]
        refine g_icmp_ge 71 C dX10_neededOf_19 (by decide) (fun c19 => ?_) (fun c19 => ?_)
        · refine g_iload_n C dX10_neededOf_71 rfl ?_
          exact e_I C dX10_neededOf_72 rfl rfl rfl (if_neg h).symm rfl
        · exact absurd (Int32.le_refl _) c19
      · intro k hk ih 
        show Go X G 4 0 0 _ 7 _ [] _
        refine g_iload_n C dX10_neededOf_7 rfl ?_
        refine g_bipush (v := 12) C dX10_neededOf_8 (by decide) ?_
        refine g_iload_n C dX10_neededOf_10 rfl ?_
        refine g_imul C dX10_neededOf_11 ?_
        rw [mul12]
        refine g_aload_n C dX10_neededOf_12 rfl ?_
        refine g_getR (ci := 10) (k := 6) (q := 105) C dX10_neededOf_13 rfl inGX10 (by decide) fwX10_17 ly_103 (by decide) rfl rfl ?_
        refine g_iload_n C dX10_neededOf_16 rfl ?_
        refine g_ialdv (v := nI m) p C dX10_neededOf_17 ly_105 (by decide) (by decide) rfl (show p < 11 by omega) hm ?_
        refine g_iadd C dX10_neededOf_18 ?_
        rw [nI_add]
        refine g_icmp_ge 71 C dX10_neededOf_19 (by decide) (fun c19 => ?_) (fun c19 => ?_)
        · exact (nI_ge_dead (n := 12 * p + m) c19 (by omega) (by omega)).elim
        · refine g_aload_n C dX10_neededOf_22 rfl ?_
          refine g_getR (ci := 10) (k := 27) (q := 118) C dX10_neededOf_23 rfl inGX10 (by decide) fwX10_61 ly_103 (by decide) rfl rfl ?_
          refine g_iload_n C dX10_neededOf_26 rfl ?_
          refine g_zald _ C dX10_neededOf_27 ly_118 (by decide) (by decide) rfl hp ?_
          refine g_if_eq 71 C dX10_neededOf_28 (by decide) (fun c28 => ?_) (fun c28 => ?_)
          · exact absurd c28 h
          · refine g_iload_n C dX10_neededOf_31 rfl ?_
            refine g_aload_n C dX10_neededOf_32 rfl ?_
            refine g_getR (ci := 10) (k := 8) (q := 107) C dX10_neededOf_33 rfl inGX10 (by decide) fwX10_23 ly_103 (by decide) rfl rfl ?_
            refine g_iload_n C dX10_neededOf_36 rfl ?_
            refine g_iald (12 * p + k) C dX10_neededOf_37 ly_107 (by decide) (by decide) rfl (show 12 * p + k < 132 by omega) ?_
            refine g_if_eq 51 C dX10_neededOf_38 (by decide) (fun c38 => ?_) (fun c38 => ?_)
            · refine g_iconst (v := 1) C dX10_neededOf_51 (by decide) ?_
              refine g_aload_n C dX10_neededOf_52 rfl ?_
              refine g_getR (ci := 10) (k := 9) (q := 108) C dX10_neededOf_53 rfl inGX10 (by decide) fwX10_26 ly_103 (by decide) rfl rfl ?_
              refine g_iload_n C dX10_neededOf_56 rfl ?_
              refine g_iald (12 * p + k) C dX10_neededOf_57 ly_108 (by decide) (by decide) rfl (show 12 * p + k < 132 by omega) ?_
              refine g_ishl C dX10_neededOf_58 ?_
              refine g_goto 63 C dX10_neededOf_59 (by decide) ?_
              refine g_ior C dX10_neededOf_63 ?_
              refine g_istore_2 C dX10_neededOf_64 (by decide) ?_
              refine g_iinc_3 C dX10_neededOf_65 (nI_1 (12 * p + k)) (by decide) ?_
              refine g_goto 7 C dX10_neededOf_68 (by decide) ?_
              first
                | (have e : it (ndf I p) (k + 1) 0 = it (ndf I p) k 0 ||| ((1 : Int32) <<< (I 108 (12 * p + k) &&& 31)) := congrArg _ (if_pos (by first | exact Or.inl c38 | exact Or.inr c48))
                   rw [e] at ih; exact ih)
                | (have e : it (ndf I p) (k + 1) 0 = it (ndf I p) k 0 ||| 0 := congrArg _ (if_neg (fun q => q.elim c38 c48))
                   rw [e] at ih; exact ih)
            · refine g_aload_n C dX10_neededOf_41 rfl ?_
              refine g_getR (ci := 10) (k := 8) (q := 107) C dX10_neededOf_42 rfl inGX10 (by decide) fwX10_23 ly_103 (by decide) rfl rfl ?_
              refine g_iload_n C dX10_neededOf_45 rfl ?_
              refine g_iald (12 * p + k) C dX10_neededOf_46 ly_107 (by decide) (by decide) rfl (show 12 * p + k < 132 by omega) ?_
              refine g_iconst (v := 3) C dX10_neededOf_47 (by decide) ?_
              refine g_icmp_ne 62 C dX10_neededOf_48 (by decide) (fun c48 => ?_) (fun c48 => ?_)
              · refine g_iconst (v := 0) C dX10_neededOf_62 (by decide) ?_
                refine g_ior C dX10_neededOf_63 ?_
                refine g_istore_2 C dX10_neededOf_64 (by decide) ?_
                refine g_iinc_3 C dX10_neededOf_65 (nI_1 (12 * p + k)) (by decide) ?_
                refine g_goto 7 C dX10_neededOf_68 (by decide) ?_
                first
                  | (have e : it (ndf I p) (k + 1) 0 = it (ndf I p) k 0 ||| ((1 : Int32) <<< (I 108 (12 * p + k) &&& 31)) := congrArg _ (if_pos (by first | exact Or.inl c38 | exact Or.inr c48))
                     rw [e] at ih; exact ih)
                  | (have e : it (ndf I p) (k + 1) 0 = it (ndf I p) k 0 ||| 0 := congrArg _ (if_neg (fun q => q.elim c38 c48))
                     rw [e] at ih; exact ih)
              · refine g_iconst (v := 1) C dX10_neededOf_51 (by decide) ?_
                refine g_aload_n C dX10_neededOf_52 rfl ?_
                refine g_getR (ci := 10) (k := 9) (q := 108) C dX10_neededOf_53 rfl inGX10 (by decide) fwX10_26 ly_103 (by decide) rfl rfl ?_
                refine g_iload_n C dX10_neededOf_56 rfl ?_
                refine g_iald (12 * p + k) C dX10_neededOf_57 ly_108 (by decide) (by decide) rfl (show 12 * p + k < 132 by omega) ?_
                refine g_ishl C dX10_neededOf_58 ?_
                refine g_goto 63 C dX10_neededOf_59 (by decide) ?_
                refine g_ior C dX10_neededOf_63 ?_
                refine g_istore_2 C dX10_neededOf_64 (by decide) ?_
                refine g_iinc_3 C dX10_neededOf_65 (nI_1 (12 * p + k)) (by decide) ?_
                refine g_goto 7 C dX10_neededOf_68 (by decide) ?_
                first
                  | (have e : it (ndf I p) (k + 1) 0 = it (ndf I p) k 0 ||| ((1 : Int32) <<< (I 108 (12 * p + k) &&& 31)) := congrArg _ (if_pos (by first | exact Or.inl c38 | exact Or.inr c48))
                     rw [e] at ih; exact ih)
                  | (have e : it (ndf I p) (k + 1) 0 = it (ndf I p) k 0 ||| 0 := congrArg _ (if_neg (fun q => q.elim c38 c48))
                     rw [e] at ih; exact ih)
    refine g_iconst (v := 0) C dX10_neededOf_0 (by decide) ?_
    refine g_istore_2 C dX10_neededOf_1 (by decide) ?_
    refine g_bipush (v := 12) C dX10_neededOf_2 (by decide) ?_
    refine g_iload_n C dX10_neededOf_4 rfl ?_
    refine g_imul C dX10_neededOf_5 ?_
    rw [mul12]
    refine g_istore_3 C dX10_neededOf_6 (by decide) ?_
    exact loop 0 (Nat.zero_le _)
def fsel (a b c d e : Int32) (k : Nat) : Int32 := if k < 4 then a else if k < 8 then b else if k < 12 then c else if k < 16 then d else e
def fby (v : Int32) (k : Nat) : Int32 := vp_nar .byte ((v >>> ((24 - 8 * (nI k - nI k / 4 * 4)) &&& 31)).toInt8.toInt32)
def fdS (s : Nat) (w : Nat → Int32) (k : Nat) (I : Nat → Nat → Int32) : Nat → Nat → Int32 := up1 (up1 I 113 (s + k) (fby (w k) k)) 103 15 (nI (s + k + 1))
theorem fdS_15 {s : Nat} {w : Nat → Int32} {I : Nat → Nat → Int32} (h : I 103 15 = nI s) : ∀ k, it (fdS s w) k I 103 15 = nI (s + k)
  | 0 => h
  | k + 1 => up1_same (up1 (it (fdS s w) k I) 113 (s + k) (fby (w k) k)) 103 15 (nI (s + k + 1))
theorem feed_cmp2 {s : Nat} (hs : s ≤ 300) : (nI s + 20 ≤ (300 : Int32)) ↔ s + 20 ≤ 300 := feed_cmp hs
set_option maxHeartbeats 1000000 in
theorem s_mfeed0 {l : Launch} {G : Gm} {I : Nat → Nat → Int32} {J : Nat → Nat → Int64} {s : Nat} (hs : I 103 15 = nI s) (h : 280 < s) (h2 : s ≤ 300) {a b c d e : Int32} : Sp l G iX10_feed [.ref (G.1 + 103), .int a, .int b, .int c, .int d, .int e] (mm I J) (RetI (-1) (mm (T0 I) J)) noT := by
  refine Sp.of (by decide +kernel) (Nat.le_of_ble_eq_true rfl) ?_
  intro X hXl C
  subst hXl
  show Go X G 8 0 0 _ 0 [.ref (G.1 + 103), .int a, .int b, .int c, .int d, .int e, uu, uu] [] (mm I J)
  refine g_aload_n C dX10_feed_0 rfl ?_
  refine g_iconst (v := 0) C dX10_feed_1 (by decide) ?_
  refine g_putI (ci := 10) (k := 0) .int C dX10_feed_2 rfl inGX10 tyX10_ok nmX10 (by decide) fwX10_80 ly_103 (by decide) rfl rfl rfl rfl rfl ?_
  refine g_aload_n C dX10_feed_5 rfl ?_
  refine g_getIv (ci := 10) (k := 15) (v := nI s) C dX10_feed_6 rfl inGX10 (by decide) fwX10_219 ly_103 (by decide) rfl ((T0_103 (by decide)).trans hs) ?_
  refine g_bipush (v := 20) C dX10_feed_9 (by decide) ?_
  refine g_iadd C dX10_feed_11 ?_
  refine g_sipush (v := 300) C dX10_feed_12 (by decide) ?_
  refine g_icmp_le 20 C dX10_feed_15 (by decide) (fun c15 => ?_) (fun c15 => ?_)
  · exact absurd ((feed_cmp2 h2).mp c15) (by omega)
  · refine g_iconst (v := (-1)) C dX10_feed_18 (by decide) ?_
    exact e_I C dX10_feed_19 rfl rfl rfl rfl rfl
theorem fdS_eq {s k : Nat} {w : Nat → Int32} {v : Int32} {I : Nat → Nat → Int32} (h : w k = v) : fdS s w k I = up1 (up1 I 113 (s + k) (fby v k)) 103 15 (nI (s + k + 1)) := by
  subst h; rfl
set_option maxHeartbeats 1000000 in
theorem s_mfeed {l : Launch} {G : Gm} {I : Nat → Nat → Int32} {J : Nat → Nat → Int64} {s : Nat} (hs : I 103 15 = nI s) (h : s ≤ 280) {a b c d e : Int32} : Sp l G iX10_feed [.ref (G.1 + 103), .int a, .int b, .int c, .int d, .int e] (mm I J) (RetI (nI (s + 20)) (mm (it (fdS s (fsel a b c d e)) 20 (T0 I)) J)) noT := by
  refine Sp.of (by decide +kernel) (Nat.le_of_ble_eq_true rfl) ?_
  intro X hXl C
  subst hXl
  show Go X G 8 0 0 _ 0 [.ref (G.1 + 103), .int a, .int b, .int c, .int d, .int e, uu, uu] [] (mm I J)
  have loop : ∀ k : Nat, k ≤ 20 → ∀ a7 : Value, Go X G 8 0 0 (KQ X G iX10_feed (RetI (nI (s + 20)) (mm (it (fdS s (fsel a b c d e)) 20 (T0 I)) J)) noT) 23 [.ref (G.1 + 103), .int a, .int b, .int c, .int d, .int e, .int (nI k), a7] [] (mm (it (fdS s (fsel a b c d e)) k (T0 I)) J) := by
    refine loopN (20) ?_ ?_
    · intro a7
      show Go X G 8 0 0 _ 23 _ [] _
      refine g_iload C dX10_feed_23 rfl ?_
      refine g_bipush (v := 20) C dX10_feed_25 (by decide) ?_
      refine g_icmp_ge 117 C dX10_feed_27 (by decide) (fun c27 => ?_) (fun c27 => ?_)
      · refine g_aload_n C dX10_feed_117 rfl ?_
        refine g_getIv (ci := 10) (k := 15) (v := nI (s + 20)) C dX10_feed_118 rfl inGX10 (by decide) fwX10_219 ly_103 (by decide) rfl (fdS_15 ((T0_103 (by decide)).trans hs) 20) ?_
        exact e_I C dX10_feed_121 rfl rfl rfl rfl rfl
      · exact absurd (Int32.le_refl _) c27
    · intro k hk ih a7
      show Go X G 8 0 0 _ 23 _ [] _
      refine g_iload C dX10_feed_23 rfl ?_
      refine g_bipush (v := 20) C dX10_feed_25 (by decide) ?_
      refine g_icmp_ge 117 C dX10_feed_27 (by decide) (fun c27 => ?_) (fun c27 => ?_)
      · exact (nI_ge_dead (n := 20) c27 hk (by omega)).elim
      · refine g_iload C dX10_feed_30 rfl ?_
        refine g_iconst (v := 4) C dX10_feed_32 (by decide) ?_
        refine g_icmp_ge 40 C dX10_feed_33 (by decide) (fun c33 => ?_) (fun c33 => ?_)
        · have g33 : ¬ k < 4 := by have := nI_l' (a := 4) c33 (by decide) (by omega); omega
          refine g_iload C dX10_feed_40 rfl ?_
          refine g_bipush (v := 8) C dX10_feed_42 (by decide) ?_
          refine g_icmp_ge 51 C dX10_feed_44 (by decide) (fun c44 => ?_) (fun c44 => ?_)
          · have g44 : ¬ k < 8 := by have := nI_l' (a := 8) c44 (by decide) (by omega); omega
            refine g_iload C dX10_feed_51 rfl ?_
            refine g_bipush (v := 12) C dX10_feed_53 (by decide) ?_
            refine g_icmp_ge 62 C dX10_feed_55 (by decide) (fun c55 => ?_) (fun c55 => ?_)
            · have g55 : ¬ k < 12 := by have := nI_l' (a := 12) c55 (by decide) (by omega); omega
              refine g_iload C dX10_feed_62 rfl ?_
              refine g_bipush (v := 16) C dX10_feed_64 (by decide) ?_
              refine g_icmp_ge 74 C dX10_feed_66 (by decide) (fun c66 => ?_) (fun c66 => ?_)
              · have g66 : ¬ k < 16 := by have := nI_l' (a := 16) c66 (by decide) (by omega); omega
                refine g_iload C dX10_feed_74 rfl ?_
                refine g_istore_7 C dX10_feed_76 (by decide) ?_
                refine g_aload_n C dX10_feed_78 rfl ?_
                refine g_getR (ci := 10) (k := 14) (q := 113) C dX10_feed_79 rfl inGX10 (by decide) fwX10_45 ly_103 (by decide) rfl rfl ?_
                refine g_aload_n C dX10_feed_82 rfl ?_
                refine g_getIv (ci := 10) (k := 15) (v := nI (s + k)) C dX10_feed_83 rfl inGX10 (by decide) fwX10_219 ly_103 (by decide) rfl (fdS_15 ((T0_103 (by decide)).trans hs) k) ?_
                refine g_iload C dX10_feed_86 rfl ?_
                refine g_bipush (v := 24) C dX10_feed_88 (by decide) ?_
                refine g_bipush (v := 8) C dX10_feed_90 (by decide) ?_
                refine g_iload C dX10_feed_92 rfl ?_
                refine g_iconst (v := 4) C dX10_feed_94 (by decide) ?_
                refine g_irem C dX10_feed_95 (by decide) ?_
                refine g_imul C dX10_feed_96 ?_
                refine g_isub C dX10_feed_97 ?_
                refine g_ishr C dX10_feed_98 ?_
                refine g_i2b C dX10_feed_99 ?_
                refine g_bast _ C dX10_feed_100 ly_113 (by decide) (by decide) rfl (show s + k < 300 by omega) rfl ?_
                refine g_aload_n C dX10_feed_101 rfl ?_
                refine g_dup C dX10_feed_102 rfl ?_
                refine g_getIv (ci := 10) (k := 15) (v := nI (s + k)) C dX10_feed_103 rfl inGX10 (by decide) fwX10_219 ly_103 (by decide) rfl (by rw [up1_off (by decide)]; exact (fdS_15 ((T0_103 (by decide)).trans hs) k)) ?_
                refine g_iconst (v := 1) C dX10_feed_106 (by decide) ?_
                refine g_iadd C dX10_feed_107 ?_
                rw [nI_1]
                refine g_putI (ci := 10) (k := 15) .int C dX10_feed_108 rfl inGX10 tyX10_ok nmX10 (by decide) fwX10_219 ly_103 (by decide) rfl rfl rfl rfl rfl ?_
                refine g_iinc_6 C dX10_feed_111 (nI_1 k) (by decide) ?_
                refine g_goto 23 C dX10_feed_114 (by decide) ?_
                first
                  | (have e9 : fsel a b c d e k = a := by (unfold fsel; rw [if_pos g33])
                     rw [show it (fdS s (fsel a b c d e)) (k + 1) (T0 I) = _ from fdS_eq e9] at ih; exact ih _)
                  | (have e9 : fsel a b c d e k = b := by (unfold fsel; rw [if_neg g33, if_pos g44])
                     rw [show it (fdS s (fsel a b c d e)) (k + 1) (T0 I) = _ from fdS_eq e9] at ih; exact ih _)
                  | (have e9 : fsel a b c d e k = c := by (unfold fsel; rw [if_neg g33, if_neg g44, if_pos g55])
                     rw [show it (fdS s (fsel a b c d e)) (k + 1) (T0 I) = _ from fdS_eq e9] at ih; exact ih _)
                  | (have e9 : fsel a b c d e k = d := by (unfold fsel; rw [if_neg g33, if_neg g44, if_neg g55, if_pos g66])
                     rw [show it (fdS s (fsel a b c d e)) (k + 1) (T0 I) = _ from fdS_eq e9] at ih; exact ih _)
                  | (have e9 : fsel a b c d e k = e := by (unfold fsel; rw [if_neg g33, if_neg g44, if_neg g55, if_neg g66])
                     rw [show it (fdS s (fsel a b c d e)) (k + 1) (T0 I) = _ from fdS_eq e9] at ih; exact ih _)
              · have g66 : k < 16 := by have := nI_nl (a := 16) c66 (by decide) (by omega); omega
                refine g_iload C dX10_feed_69 rfl ?_
                refine g_goto 76 C dX10_feed_71 (by decide) ?_
                refine g_istore_7 C dX10_feed_76 (by decide) ?_
                refine g_aload_n C dX10_feed_78 rfl ?_
                refine g_getR (ci := 10) (k := 14) (q := 113) C dX10_feed_79 rfl inGX10 (by decide) fwX10_45 ly_103 (by decide) rfl rfl ?_
                refine g_aload_n C dX10_feed_82 rfl ?_
                refine g_getIv (ci := 10) (k := 15) (v := nI (s + k)) C dX10_feed_83 rfl inGX10 (by decide) fwX10_219 ly_103 (by decide) rfl (fdS_15 ((T0_103 (by decide)).trans hs) k) ?_
                refine g_iload C dX10_feed_86 rfl ?_
                refine g_bipush (v := 24) C dX10_feed_88 (by decide) ?_
                refine g_bipush (v := 8) C dX10_feed_90 (by decide) ?_
                refine g_iload C dX10_feed_92 rfl ?_
                refine g_iconst (v := 4) C dX10_feed_94 (by decide) ?_
                refine g_irem C dX10_feed_95 (by decide) ?_
                refine g_imul C dX10_feed_96 ?_
                refine g_isub C dX10_feed_97 ?_
                refine g_ishr C dX10_feed_98 ?_
                refine g_i2b C dX10_feed_99 ?_
                refine g_bast _ C dX10_feed_100 ly_113 (by decide) (by decide) rfl (show s + k < 300 by omega) rfl ?_
                refine g_aload_n C dX10_feed_101 rfl ?_
                refine g_dup C dX10_feed_102 rfl ?_
                refine g_getIv (ci := 10) (k := 15) (v := nI (s + k)) C dX10_feed_103 rfl inGX10 (by decide) fwX10_219 ly_103 (by decide) rfl (by rw [up1_off (by decide)]; exact (fdS_15 ((T0_103 (by decide)).trans hs) k)) ?_
                refine g_iconst (v := 1) C dX10_feed_106 (by decide) ?_
                refine g_iadd C dX10_feed_107 ?_
                rw [nI_1]
                refine g_putI (ci := 10) (k := 15) .int C dX10_feed_108 rfl inGX10 tyX10_ok nmX10 (by decide) fwX10_219 ly_103 (by decide) rfl rfl rfl rfl rfl ?_
                refine g_iinc_6 C dX10_feed_111 (nI_1 k) (by decide) ?_
                refine g_goto 23 C dX10_feed_114 (by decide) ?_
                first
                  | (have e9 : fsel a b c d e k = a := by (unfold fsel; rw [if_pos g33])
                     rw [show it (fdS s (fsel a b c d e)) (k + 1) (T0 I) = _ from fdS_eq e9] at ih; exact ih _)
                  | (have e9 : fsel a b c d e k = b := by (unfold fsel; rw [if_neg g33, if_pos g44])
                     rw [show it (fdS s (fsel a b c d e)) (k + 1) (T0 I) = _ from fdS_eq e9] at ih; exact ih _)
                  | (have e9 : fsel a b c d e k = c := by (unfold fsel; rw [if_neg g33, if_neg g44, if_pos g55])
                     rw [show it (fdS s (fsel a b c d e)) (k + 1) (T0 I) = _ from fdS_eq e9] at ih; exact ih _)
                  | (have e9 : fsel a b c d e k = d := by (unfold fsel; rw [if_neg g33, if_neg g44, if_neg g55, if_pos g66])
                     rw [show it (fdS s (fsel a b c d e)) (k + 1) (T0 I) = _ from fdS_eq e9] at ih; exact ih _)
                  | (have e9 : fsel a b c d e k = e := by (unfold fsel; rw [if_neg g33, if_neg g44, if_neg g55, if_neg g66])
                     rw [show it (fdS s (fsel a b c d e)) (k + 1) (T0 I) = _ from fdS_eq e9] at ih; exact ih _)
            · have g55 : k < 12 := by have := nI_nl (a := 12) c55 (by decide) (by omega); omega
              refine g_iload_n C dX10_feed_58 rfl ?_
              refine g_goto 76 C dX10_feed_59 (by decide) ?_
              refine g_istore_7 C dX10_feed_76 (by decide) ?_
              refine g_aload_n C dX10_feed_78 rfl ?_
              refine g_getR (ci := 10) (k := 14) (q := 113) C dX10_feed_79 rfl inGX10 (by decide) fwX10_45 ly_103 (by decide) rfl rfl ?_
              refine g_aload_n C dX10_feed_82 rfl ?_
              refine g_getIv (ci := 10) (k := 15) (v := nI (s + k)) C dX10_feed_83 rfl inGX10 (by decide) fwX10_219 ly_103 (by decide) rfl (fdS_15 ((T0_103 (by decide)).trans hs) k) ?_
              refine g_iload C dX10_feed_86 rfl ?_
              refine g_bipush (v := 24) C dX10_feed_88 (by decide) ?_
              refine g_bipush (v := 8) C dX10_feed_90 (by decide) ?_
              refine g_iload C dX10_feed_92 rfl ?_
              refine g_iconst (v := 4) C dX10_feed_94 (by decide) ?_
              refine g_irem C dX10_feed_95 (by decide) ?_
              refine g_imul C dX10_feed_96 ?_
              refine g_isub C dX10_feed_97 ?_
              refine g_ishr C dX10_feed_98 ?_
              refine g_i2b C dX10_feed_99 ?_
              refine g_bast _ C dX10_feed_100 ly_113 (by decide) (by decide) rfl (show s + k < 300 by omega) rfl ?_
              refine g_aload_n C dX10_feed_101 rfl ?_
              refine g_dup C dX10_feed_102 rfl ?_
              refine g_getIv (ci := 10) (k := 15) (v := nI (s + k)) C dX10_feed_103 rfl inGX10 (by decide) fwX10_219 ly_103 (by decide) rfl (by rw [up1_off (by decide)]; exact (fdS_15 ((T0_103 (by decide)).trans hs) k)) ?_
              refine g_iconst (v := 1) C dX10_feed_106 (by decide) ?_
              refine g_iadd C dX10_feed_107 ?_
              rw [nI_1]
              refine g_putI (ci := 10) (k := 15) .int C dX10_feed_108 rfl inGX10 tyX10_ok nmX10 (by decide) fwX10_219 ly_103 (by decide) rfl rfl rfl rfl rfl ?_
              refine g_iinc_6 C dX10_feed_111 (nI_1 k) (by decide) ?_
              refine g_goto 23 C dX10_feed_114 (by decide) ?_
              first
                | (have e9 : fsel a b c d e k = a := by (unfold fsel; rw [if_pos g33])
                   rw [show it (fdS s (fsel a b c d e)) (k + 1) (T0 I) = _ from fdS_eq e9] at ih; exact ih _)
                | (have e9 : fsel a b c d e k = b := by (unfold fsel; rw [if_neg g33, if_pos g44])
                   rw [show it (fdS s (fsel a b c d e)) (k + 1) (T0 I) = _ from fdS_eq e9] at ih; exact ih _)
                | (have e9 : fsel a b c d e k = c := by (unfold fsel; rw [if_neg g33, if_neg g44, if_pos g55])
                   rw [show it (fdS s (fsel a b c d e)) (k + 1) (T0 I) = _ from fdS_eq e9] at ih; exact ih _)
                | (have e9 : fsel a b c d e k = d := by (unfold fsel; rw [if_neg g33, if_neg g44, if_neg g55, if_pos g66])
                   rw [show it (fdS s (fsel a b c d e)) (k + 1) (T0 I) = _ from fdS_eq e9] at ih; exact ih _)
                | (have e9 : fsel a b c d e k = e := by (unfold fsel; rw [if_neg g33, if_neg g44, if_neg g55, if_neg g66])
                   rw [show it (fdS s (fsel a b c d e)) (k + 1) (T0 I) = _ from fdS_eq e9] at ih; exact ih _)
          · have g44 : k < 8 := by have := nI_nl (a := 8) c44 (by decide) (by omega); omega
            refine g_iload_n C dX10_feed_47 rfl ?_
            refine g_goto 76 C dX10_feed_48 (by decide) ?_
            refine g_istore_7 C dX10_feed_76 (by decide) ?_
            refine g_aload_n C dX10_feed_78 rfl ?_
            refine g_getR (ci := 10) (k := 14) (q := 113) C dX10_feed_79 rfl inGX10 (by decide) fwX10_45 ly_103 (by decide) rfl rfl ?_
            refine g_aload_n C dX10_feed_82 rfl ?_
            refine g_getIv (ci := 10) (k := 15) (v := nI (s + k)) C dX10_feed_83 rfl inGX10 (by decide) fwX10_219 ly_103 (by decide) rfl (fdS_15 ((T0_103 (by decide)).trans hs) k) ?_
            refine g_iload C dX10_feed_86 rfl ?_
            refine g_bipush (v := 24) C dX10_feed_88 (by decide) ?_
            refine g_bipush (v := 8) C dX10_feed_90 (by decide) ?_
            refine g_iload C dX10_feed_92 rfl ?_
            refine g_iconst (v := 4) C dX10_feed_94 (by decide) ?_
            refine g_irem C dX10_feed_95 (by decide) ?_
            refine g_imul C dX10_feed_96 ?_
            refine g_isub C dX10_feed_97 ?_
            refine g_ishr C dX10_feed_98 ?_
            refine g_i2b C dX10_feed_99 ?_
            refine g_bast _ C dX10_feed_100 ly_113 (by decide) (by decide) rfl (show s + k < 300 by omega) rfl ?_
            refine g_aload_n C dX10_feed_101 rfl ?_
            refine g_dup C dX10_feed_102 rfl ?_
            refine g_getIv (ci := 10) (k := 15) (v := nI (s + k)) C dX10_feed_103 rfl inGX10 (by decide) fwX10_219 ly_103 (by decide) rfl (by rw [up1_off (by decide)]; exact (fdS_15 ((T0_103 (by decide)).trans hs) k)) ?_
            refine g_iconst (v := 1) C dX10_feed_106 (by decide) ?_
            refine g_iadd C dX10_feed_107 ?_
            rw [nI_1]
            refine g_putI (ci := 10) (k := 15) .int C dX10_feed_108 rfl inGX10 tyX10_ok nmX10 (by decide) fwX10_219 ly_103 (by decide) rfl rfl rfl rfl rfl ?_
            refine g_iinc_6 C dX10_feed_111 (nI_1 k) (by decide) ?_
            refine g_goto 23 C dX10_feed_114 (by decide) ?_
            first
              | (have e9 : fsel a b c d e k = a := by (unfold fsel; rw [if_pos g33])
                 rw [show it (fdS s (fsel a b c d e)) (k + 1) (T0 I) = _ from fdS_eq e9] at ih; exact ih _)
              | (have e9 : fsel a b c d e k = b := by (unfold fsel; rw [if_neg g33, if_pos g44])
                 rw [show it (fdS s (fsel a b c d e)) (k + 1) (T0 I) = _ from fdS_eq e9] at ih; exact ih _)
              | (have e9 : fsel a b c d e k = c := by (unfold fsel; rw [if_neg g33, if_neg g44, if_pos g55])
                 rw [show it (fdS s (fsel a b c d e)) (k + 1) (T0 I) = _ from fdS_eq e9] at ih; exact ih _)
              | (have e9 : fsel a b c d e k = d := by (unfold fsel; rw [if_neg g33, if_neg g44, if_neg g55, if_pos g66])
                 rw [show it (fdS s (fsel a b c d e)) (k + 1) (T0 I) = _ from fdS_eq e9] at ih; exact ih _)
              | (have e9 : fsel a b c d e k = e := by (unfold fsel; rw [if_neg g33, if_neg g44, if_neg g55, if_neg g66])
                 rw [show it (fdS s (fsel a b c d e)) (k + 1) (T0 I) = _ from fdS_eq e9] at ih; exact ih _)
        · have g33 : k < 4 := by have := nI_nl (a := 4) c33 (by decide) (by omega); omega
          refine g_iload_n C dX10_feed_36 rfl ?_
          refine g_goto 76 C dX10_feed_37 (by decide) ?_
          refine g_istore_7 C dX10_feed_76 (by decide) ?_
          refine g_aload_n C dX10_feed_78 rfl ?_
          refine g_getR (ci := 10) (k := 14) (q := 113) C dX10_feed_79 rfl inGX10 (by decide) fwX10_45 ly_103 (by decide) rfl rfl ?_
          refine g_aload_n C dX10_feed_82 rfl ?_
          refine g_getIv (ci := 10) (k := 15) (v := nI (s + k)) C dX10_feed_83 rfl inGX10 (by decide) fwX10_219 ly_103 (by decide) rfl (fdS_15 ((T0_103 (by decide)).trans hs) k) ?_
          refine g_iload C dX10_feed_86 rfl ?_
          refine g_bipush (v := 24) C dX10_feed_88 (by decide) ?_
          refine g_bipush (v := 8) C dX10_feed_90 (by decide) ?_
          refine g_iload C dX10_feed_92 rfl ?_
          refine g_iconst (v := 4) C dX10_feed_94 (by decide) ?_
          refine g_irem C dX10_feed_95 (by decide) ?_
          refine g_imul C dX10_feed_96 ?_
          refine g_isub C dX10_feed_97 ?_
          refine g_ishr C dX10_feed_98 ?_
          refine g_i2b C dX10_feed_99 ?_
          refine g_bast _ C dX10_feed_100 ly_113 (by decide) (by decide) rfl (show s + k < 300 by omega) rfl ?_
          refine g_aload_n C dX10_feed_101 rfl ?_
          refine g_dup C dX10_feed_102 rfl ?_
          refine g_getIv (ci := 10) (k := 15) (v := nI (s + k)) C dX10_feed_103 rfl inGX10 (by decide) fwX10_219 ly_103 (by decide) rfl (by rw [up1_off (by decide)]; exact (fdS_15 ((T0_103 (by decide)).trans hs) k)) ?_
          refine g_iconst (v := 1) C dX10_feed_106 (by decide) ?_
          refine g_iadd C dX10_feed_107 ?_
          rw [nI_1]
          refine g_putI (ci := 10) (k := 15) .int C dX10_feed_108 rfl inGX10 tyX10_ok nmX10 (by decide) fwX10_219 ly_103 (by decide) rfl rfl rfl rfl rfl ?_
          refine g_iinc_6 C dX10_feed_111 (nI_1 k) (by decide) ?_
          refine g_goto 23 C dX10_feed_114 (by decide) ?_
          first
            | (have e9 : fsel a b c d e k = a := by (unfold fsel; rw [if_pos g33])
               rw [show it (fdS s (fsel a b c d e)) (k + 1) (T0 I) = _ from fdS_eq e9] at ih; exact ih _)
            | (have e9 : fsel a b c d e k = b := by (unfold fsel; rw [if_neg g33, if_pos g44])
               rw [show it (fdS s (fsel a b c d e)) (k + 1) (T0 I) = _ from fdS_eq e9] at ih; exact ih _)
            | (have e9 : fsel a b c d e k = c := by (unfold fsel; rw [if_neg g33, if_neg g44, if_pos g55])
               rw [show it (fdS s (fsel a b c d e)) (k + 1) (T0 I) = _ from fdS_eq e9] at ih; exact ih _)
            | (have e9 : fsel a b c d e k = d := by (unfold fsel; rw [if_neg g33, if_neg g44, if_neg g55, if_pos g66])
               rw [show it (fdS s (fsel a b c d e)) (k + 1) (T0 I) = _ from fdS_eq e9] at ih; exact ih _)
            | (have e9 : fsel a b c d e k = e := by (unfold fsel; rw [if_neg g33, if_neg g44, if_neg g55, if_neg g66])
               rw [show it (fdS s (fsel a b c d e)) (k + 1) (T0 I) = _ from fdS_eq e9] at ih; exact ih _)
  refine g_aload_n C dX10_feed_0 rfl ?_
  refine g_iconst (v := 0) C dX10_feed_1 (by decide) ?_
  refine g_putI (ci := 10) (k := 0) .int C dX10_feed_2 rfl inGX10 tyX10_ok nmX10 (by decide) fwX10_80 ly_103 (by decide) rfl rfl rfl rfl rfl ?_
  refine g_aload_n C dX10_feed_5 rfl ?_
  refine g_getIv (ci := 10) (k := 15) (v := nI s) C dX10_feed_6 rfl inGX10 (by decide) fwX10_219 ly_103 (by decide) rfl ((T0_103 (by decide)).trans hs) ?_
  refine g_bipush (v := 20) C dX10_feed_9 (by decide) ?_
  refine g_iadd C dX10_feed_11 ?_
  refine g_sipush (v := 300) C dX10_feed_12 (by decide) ?_
  refine g_icmp_le 20 C dX10_feed_15 (by decide) (fun c15 => ?_) (fun c15 => ?_)
  · refine g_iconst (v := 0) C dX10_feed_20 (by decide) ?_
    refine g_istore_6 C dX10_feed_21 (by decide) ?_
    exact loop 0 (Nat.zero_le _) _
  · exact absurd ((feed_cmp2 (by omega)).mpr (by omega)) c15
def mCount (I : Nat → Nat → Int32) (n : Nat) (w : Int32) : Int32 := if w = 0 then nI n else if w = 1 then it (fun p a => a + I 105 p) n 0 else if w = 2 then it (fun p a => a + bts 32 (I 104 p) 0) n 0 else if w = 3 then it (fun s a => a + bts 32 (I 106 s) 0) 16 0 else if w = 4 then I 103 15 else -1
theorem mCount_lo {I : Nat → Nat → Int32} {n : Nat} {w : Int32} (h : w < 0) : -1 = mCount I n w := by
  unfold mCount
  rw [if_neg, if_neg, if_neg, if_neg, if_neg] <;> (rintro rfl; exact absurd h (by decide))
theorem mCount_hi {I : Nat → Nat → Int32} {n : Nat} {w : Int32} (h : nI 5 ≤ w) : -1 = mCount I n w := by
  unfold mCount
  rw [if_neg, if_neg, if_neg, if_neg, if_neg] <;> (rintro rfl; exact absurd h (by decide))
set_option maxHeartbeats 1000000 in
theorem s_mcount {l : Launch} {G : Gm} {I : Nat → Nat → Int32} {J : Nat → Nat → Int64} {n : Nat} (hn : I 103 4 = nI n) (hn10 : n ≤ 10) {w : Int32} : Sp l G iX10_count [.ref (G.1 + 103), .int w] (mm I J) (RetI (mCount I n w) (mm (T0 I) J)) noT := by
  refine Sp.of (by decide +kernel) (Nat.le_of_ble_eq_true rfl) ?_
  intro X hXl C
  subst hXl
  show Go X G 4 0 0 _ 0 [.ref (G.1 + 103), .int w, uu, uu] [] (mm I J)
  have lp1 : ∀ k : Nat, k ≤ n → w = 1 → Go X G 4 0 0 (KQ X G iX10_count (RetI (mCount I n w) (mm (T0 I) J)) noT) 51 [.ref (G.1 + 103), .int w, .int (it (fun p a => a + I 105 p) k 0), .int (nI k)] [] (mm (T0 I) J) := by
    refine loopN (n) ?_ ?_
    · intro hw
      show Go X G 4 0 0 _ 51 _ [] _
      refine g_iload_n C dX10_count_51 rfl ?_
      refine g_aload_n C dX10_count_52 rfl ?_
      refine g_getIv (ci := 10) (k := 4) (v := nI n) C dX10_count_53 rfl inGX10 (by decide) fwX10_86 ly_103 (by decide) rfl ((T0_103 (by decide)).trans hn) ?_
      refine g_icmp_ge 74 C dX10_count_56 (by decide) (fun c56 => ?_) (fun c56 => ?_)
      · refine g_iload_n C dX10_count_74 rfl ?_
        exact e_I C dX10_count_75 rfl rfl rfl (by subst hw; rfl) rfl
      · exact absurd (Int32.le_refl _) c56
    · intro k hk ih hw
      show Go X G 4 0 0 _ 51 _ [] _
      refine g_iload_n C dX10_count_51 rfl ?_
      refine g_aload_n C dX10_count_52 rfl ?_
      refine g_getIv (ci := 10) (k := 4) (v := nI n) C dX10_count_53 rfl inGX10 (by decide) fwX10_86 ly_103 (by decide) rfl ((T0_103 (by decide)).trans hn) ?_
      refine g_icmp_ge 74 C dX10_count_56 (by decide) (fun c56 => ?_) (fun c56 => ?_)
      · exact (nI_ge_dead (n := n) c56 hk (by omega)).elim
      · refine g_iload_n C dX10_count_59 rfl ?_
        refine g_aload_n C dX10_count_60 rfl ?_
        refine g_getR (ci := 10) (k := 6) (q := 105) C dX10_count_61 rfl inGX10 (by decide) fwX10_17 ly_103 (by decide) rfl rfl ?_
        refine g_iload_n C dX10_count_64 rfl ?_
        refine g_ialdv (v := I 105 k) _ C dX10_count_65 ly_105 (by decide) (by decide) rfl (show k < 11 by omega) (by rw [T0_off (by decide)]) ?_
        refine g_iadd C dX10_count_66 ?_
        refine g_istore_2 C dX10_count_67 (by decide) ?_
        refine g_iinc_3 C dX10_count_68 (nI_1 k) (by decide) ?_
        refine g_goto 51 C dX10_count_71 (by decide) ?_
        exact ih hw
  have lp2 : ∀ k : Nat, k ≤ n → w = 2 → Go X G 4 0 0 (KQ X G iX10_count (RetI (mCount I n w) (mm (T0 I) J)) noT) 78 [.ref (G.1 + 103), .int w, .int (it (fun p a => a + bts 32 (I 104 p) 0) k 0), .int (nI k)] [] (mm (T0 I) J) := by
    refine loopN (n) ?_ ?_
    · intro hw
      show Go X G 4 0 0 _ 78 _ [] _
      refine g_iload_n C dX10_count_78 rfl ?_
      refine g_aload_n C dX10_count_79 rfl ?_
      refine g_getIv (ci := 10) (k := 4) (v := nI n) C dX10_count_80 rfl inGX10 (by decide) fwX10_86 ly_103 (by decide) rfl ((T0_103 (by decide)).trans hn) ?_
      refine g_icmp_ge 104 C dX10_count_83 (by decide) (fun c83 => ?_) (fun c83 => ?_)
      · refine g_iload_n C dX10_count_104 rfl ?_
        exact e_I C dX10_count_105 rfl rfl rfl (by subst hw; rfl) rfl
      · exact absurd (Int32.le_refl _) c83
    · intro k hk ih hw
      show Go X G 4 0 0 _ 78 _ [] _
      refine g_iload_n C dX10_count_78 rfl ?_
      refine g_aload_n C dX10_count_79 rfl ?_
      refine g_getIv (ci := 10) (k := 4) (v := nI n) C dX10_count_80 rfl inGX10 (by decide) fwX10_86 ly_103 (by decide) rfl ((T0_103 (by decide)).trans hn) ?_
      refine g_icmp_ge 104 C dX10_count_83 (by decide) (fun c83 => ?_) (fun c83 => ?_)
      · exact (nI_ge_dead (n := n) c83 hk (by omega)).elim
      · refine g_iload_n C dX10_count_86 rfl ?_
        refine g_aload_n C dX10_count_87 rfl ?_
        refine g_getR (ci := 10) (k := 5) (q := 104) C dX10_count_88 rfl inGX10 (by decide) fwX10_13 ly_103 (by decide) rfl rfl ?_
        refine g_iload_n C dX10_count_91 rfl ?_
        refine g_ialdv (v := I 104 k) _ C dX10_count_92 ly_104 (by decide) (by decide) rfl (show k < 10 by omega) (by rw [T0_off (by decide)]) ?_
        refine gs1I C dX10_count_93 swX10_bits mwX10_244 ⟨by decide, by decide⟩ (s_mbits _) (Nat.le_of_ble_eq_true rfl) rfl ⟨by decide, by decide⟩ ?_
        refine g_iadd C dX10_count_96 ?_
        refine g_istore_2 C dX10_count_97 (by decide) ?_
        refine g_iinc_3 C dX10_count_98 (nI_1 k) (by decide) ?_
        refine g_goto 78 C dX10_count_101 (by decide) ?_
        exact ih hw
  have lp3 : ∀ k : Nat, k ≤ 16 → w = 3 → Go X G 4 0 0 (KQ X G iX10_count (RetI (mCount I n w) (mm (T0 I) J)) noT) 108 [.ref (G.1 + 103), .int w, .int (it (fun s a => a + bts 32 (I 106 s) 0) k 0), .int (nI k)] [] (mm (T0 I) J) := by
    refine loopN (16) ?_ ?_
    · intro hw
      show Go X G 4 0 0 _ 108 _ [] _
      refine g_iload_n C dX10_count_108 rfl ?_
      refine g_bipush (v := 16) C dX10_count_109 (by decide) ?_
      refine g_icmp_ge 132 C dX10_count_111 (by decide) (fun c111 => ?_) (fun c111 => ?_)
      · refine g_iload_n C dX10_count_132 rfl ?_
        exact e_I C dX10_count_133 rfl rfl rfl (by subst hw; rfl) rfl
      · exact absurd (Int32.le_refl _) c111
    · intro k hk ih hw
      show Go X G 4 0 0 _ 108 _ [] _
      refine g_iload_n C dX10_count_108 rfl ?_
      refine g_bipush (v := 16) C dX10_count_109 (by decide) ?_
      refine g_icmp_ge 132 C dX10_count_111 (by decide) (fun c111 => ?_) (fun c111 => ?_)
      · exact (nI_ge_dead (n := 16) c111 hk (by omega)).elim
      · refine g_iload_n C dX10_count_114 rfl ?_
        refine g_aload_n C dX10_count_115 rfl ?_
        refine g_getR (ci := 10) (k := 7) (q := 106) C dX10_count_116 rfl inGX10 (by decide) fwX10_20 ly_103 (by decide) rfl rfl ?_
        refine g_iload_n C dX10_count_119 rfl ?_
        refine g_ialdv (v := I 106 k) _ C dX10_count_120 ly_106 (by decide) (by decide) rfl hk (by rw [T0_off (by decide)]) ?_
        refine gs1I C dX10_count_121 swX10_bits mwX10_244 ⟨by decide, by decide⟩ (s_mbits _) (Nat.le_of_ble_eq_true rfl) rfl ⟨by decide, by decide⟩ ?_
        refine g_iadd C dX10_count_124 ?_
        refine g_istore_2 C dX10_count_125 (by decide) ?_
        refine g_iinc_3 C dX10_count_126 (nI_1 k) (by decide) ?_
        refine g_goto 108 C dX10_count_129 (by decide) ?_
        exact ih hw
  refine g_aload_n C dX10_count_0 rfl ?_
  refine g_iconst (v := 0) C dX10_count_1 (by decide) ?_
  refine g_putI (ci := 10) (k := 0) .int C dX10_count_2 rfl inGX10 tyX10_ok nmX10 (by decide) fwX10_80 ly_103 (by decide) rfl rfl rfl rfl rfl ?_
  refine g_iconst (v := 0) C dX10_count_5 (by decide) ?_
  refine g_istore_2 C dX10_count_6 (by decide) ?_
  refine g_iload_n C dX10_count_7 rfl ?_
  rcases pk_ix w (n := 5) (by decide) with hx | hx | ⟨j, hj, hx⟩
  · refine g_tabOut 139 C dX10_count_8 (Or.inl (tab_lo hx)) (by decide) ?_
    refine g_iconst (v := (-1)) C dX10_count_139 (by decide) ?_
    exact e_I C dX10_count_140 rfl rfl rfl (by first | exact mCount_lo hx | exact mCount_hi hx) rfl
  · refine g_tabOut 139 C dX10_count_8 (Or.inr (tab_hi (n := 4) hx (by decide))) (by decide) ?_
    refine g_iconst (v := (-1)) C dX10_count_139 (by decide) ?_
    exact e_I C dX10_count_140 rfl rfl rfl (by first | exact mCount_lo hx | exact mCount_hi hx) rfl
  · subst hx
    rcases (show j = 0 ∨ j = 1 ∨ j = 2 ∨ j = 3 ∨ j = 4 by omega) with rfl | rfl | rfl | rfl | rfl
    · refine g_tabIn 44 C dX10_count_8 (by decide) (by decide) rfl (by decide) ?_
      refine g_aload_n C dX10_count_44 rfl ?_
      refine g_getIv (ci := 10) (k := 4) (v := nI n) C dX10_count_45 rfl inGX10 (by decide) fwX10_86 ly_103 (by decide) rfl ((T0_103 (by decide)).trans hn) ?_
      exact e_I C dX10_count_48 rfl rfl rfl rfl rfl
    · refine g_tabIn 49 C dX10_count_8 (by decide) (by decide) rfl (by decide) ?_
      refine g_iconst (v := 0) C dX10_count_49 (by decide) ?_
      refine g_istore_3 C dX10_count_50 (by decide) ?_
      exact lp1 0 (Nat.zero_le _) rfl
    · refine g_tabIn 76 C dX10_count_8 (by decide) (by decide) rfl (by decide) ?_
      refine g_iconst (v := 0) C dX10_count_76 (by decide) ?_
      refine g_istore_3 C dX10_count_77 (by decide) ?_
      exact lp2 0 (Nat.zero_le _) rfl
    · refine g_tabIn 106 C dX10_count_8 (by decide) (by decide) rfl (by decide) ?_
      refine g_iconst (v := 0) C dX10_count_106 (by decide) ?_
      refine g_istore_3 C dX10_count_107 (by decide) ?_
      exact lp3 0 (Nat.zero_le _) rfl
    · refine g_tabIn 134 C dX10_count_8 (by decide) (by decide) rfl (by decide) ?_
      refine g_aload_n C dX10_count_134 rfl ?_
      refine g_getIv (ci := 10) (k := 15) (v := I 103 15) C dX10_count_135 rfl inGX10 (by decide) fwX10_219 ly_103 (by decide) rfl (T0_103 (by decide)) ?_
      exact e_I C dX10_count_138 rfl rfl rfl rfl rfl
