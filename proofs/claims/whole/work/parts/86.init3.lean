/-! ## the plan's constructor -/
def SP (S : List (Nat × Nat)) : Nat → List (Nat × Nat)
  | 0 => [(3, 1), (3, 0)] ++ S
  | p + 1 => (5, p) :: ([(6 + 6 * p, 4), (6 + 6 * p, 3), (6 + 6 * p, 2), (6 + 6 * p, 1), (6 + 6 * p, 0)] ++ SP S p)
theorem SP_lt {S : List (Nat × Nat)} (hS : ∀ x ∈ S, x.1 < 4) : ∀ p, ∀ x ∈ SP S p, x.1 < 6 + 6 * p
  | 0, x, hx => by
    simp only [SP, List.mem_append, List.mem_cons, List.not_mem_nil, or_false] at hx
    rcases hx with (rfl | rfl) | h
    · decide
    · decide
    · have := hS x h; omega
  | p + 1, x, hx => by
    simp only [SP, List.mem_cons, List.mem_append, List.not_mem_nil, or_false] at hx
    rcases hx with rfl | (rfl | rfl | rfl | rfl | rfl) | h
    · show 5 < _; omega
    · show 6 + 6 * p < _; omega
    · show 6 + 6 * p < _; omega
    · show 6 + 6 * p < _; omega
    · show 6 + 6 * p < _; omega
    · show 6 + 6 * p < _; omega
    · have := SP_lt hS p x h; omega
theorem SP_51 {S : List (Nat × Nat)} : ∀ p, (3, 1) ∈ SP S p
  | 0 => by simp [SP]
  | p + 1 => List.mem_cons_of_mem _ (List.mem_append_right _ (SP_51 p))
theorem sh_lay : ∀ p, p < 10 → ∀ k, k < 5 → lay (6 + 6 * p + 1 + k) = (1, 12) := by decide +kernel
theorem sh_rf : ∀ p, p < 10 → ∀ k, k < 5 → rf0 (6 + 6 * p) k = some (6 + 6 * p + 1 + k) := by decide +kernel
set_option maxHeartbeats 4000000 in
theorem s_iX2 {l : Launch} {G : Gm} {I : Nat → Nat → Int32} {J : Nat → Nat → Int64} {S : List (Nat × Nat)} (hB : Bk I J S 4) : Sp l G iX2_init [.ref (G.1 + 3)] (I, J, rr S, 4) (RetV (I, J, rr (SP S 10), 66)) noT := by
  refine Sp.of (by decide +kernel) (Nat.le_of_ble_eq_true rfl) ?_
  intro X hXl C
  subst hXl
  show Go X G 2 0 0 _ 0 [.ref (G.1 + 3), uu] [] (I, J, rr S, 4)
  have hla := sh_lay
  have hrf := sh_rf
  have loop : ∀ p, p ≤ 10 → Go X G 2 (2 + 6 * p) (20 + 66 * p) (KQ X G iX2_init (RetV (I, J, rr (SP S 10), 66)) noT) 23 [.ref (G.1 + 3), .int (nI p)] [] (I, J, rr (SP S p), 6 + 6 * p) := by
    refine loopN 10 ?_ ?_
    · show Go X G 2 (2 + 6 * 10) (20 + 66 * 10) _ 23 _ [] _
      refine g_iload_n C dX2_init_23 rfl ?_
      refine g_bipush (v := 10) C dX2_init_24 (by decide) ?_
      refine g_icmp_ge 48 C dX2_init_26 (by decide) (fun c26 => ?_) (fun c26 => ?_)
      · exact g_vret C dX2_init_48 rfl rfl rfl ⟨rfl, rfl⟩
      · exact absurd (Int32.le_refl _) c26
    · intro p hp ih
      show Go X G 2 (2 + 6 * p) (20 + 66 * p) _ 23 _ [] _
      refine g_iload_n C dX2_init_23 rfl ?_
      refine g_bipush (v := 10) C dX2_init_24 (by decide) ?_
      refine g_icmp_ge 48 C dX2_init_26 (by decide) (fun c26 => ?_) (fun c26 => ?_)
      · exact (nI_ge_dead (n := 10) c26 hp (by omega)).elim
      · refine g_aload_n C dX2_init_29 rfl ?_
        refine g_getR (ci := 2) (k := 1) (q := 5) C dX2_init_30 rfl inGX2 (by decide) fwX2_17 (by decide +kernel) (by omega) rfl ((rr_in (SP_51 p)).trans rfl) ?_
        refine g_iload_n C dX2_init_33 rfl ?_
        refine g_newO (ci := 5) C dX2_init_34 rfl inGX5 tyX5_ok (GT_in (by decide +kernel) (by decide +kernel)) (GT_in (by decide +kernel) (by decide +kernel)) (GT_in (by decide +kernel) (by decide +kernel)) (ly_sh hp) (by omega) (fvs_new (fun k => hB.1 _ (by omega) k) (fun k => hB.2.1 _ (by omega) k) (fun k => rr_new (SP_lt hB.2.2 p) (Nat.le_refl _) k) rfl (by decide +kernel)) ⟨by show 2 + 6 * p + 1 ≤ 62; omega, by show 20 + 66 * p + 6 ≤ 680; omega⟩ ?_
        refine g_dup C dX2_init_37 rfl ?_
        refine g_callI (b := G.1 + (6 + 6 * p)) (As := []) (rest := [.ref (G.1 + (6 + 6 * p)), .int (nI p), .ref (G.1 + 5)]) C dX2_init_38 nwX5_init.1 nwX5_init.2 rfl rfl mwX2_21 ⟨by decide, by decide⟩ (s_iX5 (o := 6 + 6 * p) (by omega) (ly_sh hp) (hla p hp) (hrf p hp) ⟨fun a ha k => hB.1 a (by omega) k, fun a ha k => hB.2.1 a (by omega) k, fun x hx => by have := SP_lt hB.2.2 p x hx; omega⟩) rfl (Nat.le_of_ble_eq_true rfl) rfl ⟨by show 2 + 6 * p + 1 + 5 ≤ 62; omega, by show 20 + 66 * p + 6 + 60 ≤ 680; omega⟩ _ rfl (fun v M2 hpp => ?_)
        obtain ⟨rfl, rfl⟩ := hpp
        refine g_aast C dX2_init_41 hp (by omega) (by omega) ?_
        refine g_iinc_1 C dX2_init_42 (nI_1 p) (by decide) ?_
        refine g_goto 23 C dX2_init_45 (by decide) ?_
        have e1 : 2 + 6 * p + 1 + iX5_init.2.2.2.2.cells = 2 + 6 * (p + 1) := by show 2 + 6 * p + 1 + 5 = _; omega
        have e2 : 20 + 66 * p + 6 + iX5_init.2.2.2.2.slots = 20 + 66 * (p + 1) := by show 20 + 66 * p + 6 + 60 = _; omega
        have e3 : 6 + 6 * p + 6 = 6 + 6 * (p + 1) := by omega
        rw [e1, e2, e3]
        exact ih
  refine g_aload_n C dX2_init_0 rfl ?_
  refine g_obj0 C dX2_init_1 mwX2_3 oi_i oi_c rfl ⟨by decide, by decide⟩ (Nat.le_of_ble_eq_true rfl) ?_
  refine g_aload_n C dX2_init_4 rfl ?_
  refine g_bipush (v := 10) C dX2_init_5 (by decide) ?_
  refine g_newI (m := 10) C dX2_init_7 rfl (by decide) (by decide) (by decide +kernel) (fun k => hB.1 _ (by omega) k) ⟨by decide, by decide⟩ ?_
  refine g_putRF (ci := 2) (k := 0) (q := 4) C dX2_init_9 rfl inGX2 tyX2_ok nmX2 (by decide) fwX2_9 (by decide +kernel) (by decide) rfl rfl rfl rfl rfl (fun _ => rfl) (fun _ => rfl) rfl ?_
  refine g_aload_n C dX2_init_12 rfl ?_
  refine g_bipush (v := 10) C dX2_init_13 (by decide) ?_
  refine g_newQ (m := 10) C dX2_init_15 (GT_in (by decide +kernel) (by decide +kernel)) rfl (by decide) (by decide) (by decide +kernel) (fun k => rr_new (n := 5) (S := (3, 0) :: S) (fun x hx => (List.mem_cons.mp hx).elim (fun q => by rw [q]; decide) (fun q => Nat.lt_succ_of_lt (hB.2.2 x q))) (by decide) k) ⟨by decide, by decide⟩ ?_
  refine g_putRF (ci := 2) (k := 1) (q := 5) C dX2_init_18 rfl inGX2 tyX2_ok nmX2 (by decide) fwX2_17 (by decide +kernel) (by decide) rfl rfl rfl rfl rfl (fun _ => rfl) (fun _ => rfl) rfl ?_
  refine g_iconst (v := 0) C dX2_init_21 (by decide) ?_
  refine g_istore_1 C dX2_init_22 (by decide) ?_
  exact loop 0 (Nat.zero_le _)
/-! ## the house's constructor -/
abbrev Z32 : Nat → Nat → Int32 := fun _ _ => 0
abbrev Z64 : Nat → Nat → Int64 := fun _ _ => 0
theorem BkX {S : List (Nat × Nat)} {n : Nat} (h : ∀ x ∈ S, x.1 < n) : Bk Z32 Z64 S n := ⟨fun _ _ _ => rfl, fun _ _ _ => rfl, h⟩
def SF : List (Nat × Nat) := [(0, 6)] ++ ([(98, 2), (98, 1), (98, 0), (98, 6), (98, 5), (98, 4), (98, 3)] ++ ([(0, 5)] ++ ([(95, 1), (95, 0), (95, 3), (95, 2)] ++ ([(0, 4)] ++ ([(92, 1), (92, 0), (92, 3), (92, 2)] ++ ([(0, 3)] ++ ([(73, 0), (73, 8)] ++ (cam ++ ([(73, 7), (73, 6), (73, 5), (73, 4), (73, 3), (73, 2), (73, 1)] ++ ([(0, 2)] ++ ([(66, 1), (66, 0)] ++ ([(67, 4), (67, 3), (67, 2), (67, 1), (67, 0)] ++ ([(0, 1)] ++ SP ([(0, 0)] ++ ([(1, 0)] ++ [])) 10)))))))))))))
set_option maxHeartbeats 8000000 in
theorem s_iX8 {l : Launch} {G : Gm} : Sp l G iX8_init [.ref (G.1 + 0)] (Z32, Z64, rr [], 1) (fun v M => v = none ∧ ∃ S, M = (up1 (up1 Z32 0 7 0) 0 8 1, Z64, rr S, 103) ∧ S = SF) noT := by
  refine Sp.of (by decide +kernel) (Nat.le_of_ble_eq_true rfl) ?_
  intro X hXl C
  subst hXl
  show Go X G 1 0 0 _ 0 [.ref (G.1 + 0)] [] (Z32, Z64, rr [], 1)
  refine g_aload_n C dX8_init_0 rfl ?_
  refine g_obj0 C dX8_init_1 mwX8_3 oi_i oi_c rfl ⟨by decide, by decide⟩ (Nat.le_of_ble_eq_true rfl) ?_
  refine g_aload_n C dX8_init_4 rfl ?_
  refine g_newO (ci := 6) C dX8_init_5 rfl inGX6 tyX6_ok (GT_in (by decide +kernel) (by decide +kernel)) (GT_in (by decide +kernel) (by decide +kernel)) (GT_in (by decide +kernel) (by decide +kernel)) (by decide +kernel) (by decide) (fvs_new (fun _ => rfl) (fun _ => rfl) (fun k => rr_new (by decide +kernel) (Nat.le_refl _) k) rfl (by decide +kernel)) ⟨by decide, by decide⟩ ?_
  refine g_dup C dX8_init_8 rfl ?_
  refine g_callI (b := G.1 + 1) (As := []) (rest := [.ref (G.1 + 1), .ref (G.1 + 0)]) C dX8_init_9 nwX6_init.1 nwX6_init.2 rfl rfl mwX8_11 ⟨by decide, by decide⟩ (s_iX6 (BkX (by decide +kernel))) rfl (Nat.le_of_ble_eq_true rfl) rfl ⟨by decide, by decide⟩ _ rfl (fun v M2 hp => ?_)
  obtain ⟨rfl, rfl⟩ := hp
  refine g_putRF (ci := 8) (k := 0) (q := 1) C dX8_init_12 rfl inGX8 tyX8_ok nmX8 (by decide) fwX8_12 (by decide +kernel) (by decide) rfl rfl rfl rfl rfl (fun _ => rfl) (fun _ => rfl) rfl ?_
  refine g_aload_n C dX8_init_15 rfl ?_
  refine g_newO (ci := 2) C dX8_init_16 rfl inGX2 tyX2_ok (GT_in (by decide +kernel) (by decide +kernel)) (GT_in (by decide +kernel) (by decide +kernel)) (GT_in (by decide +kernel) (by decide +kernel)) (by decide +kernel) (by decide) (fvs_new (fun _ => rfl) (fun _ => rfl) (fun k => rr_new (by decide +kernel) (Nat.le_refl _) k) rfl (by decide +kernel)) ⟨by decide, by decide⟩ ?_
  refine g_dup C dX8_init_19 rfl ?_
  refine g_callI (b := G.1 + 3) (As := []) (rest := [.ref (G.1 + 3), .ref (G.1 + 0)]) C dX8_init_20 nwX2_init.1 nwX2_init.2 rfl rfl mwX8_18 ⟨by decide, by decide⟩ (s_iX2 (BkX (by decide +kernel))) rfl (Nat.le_of_ble_eq_true rfl) rfl ⟨by decide, by decide⟩ _ rfl (fun v M2 hp => ?_)
  obtain ⟨rfl, rfl⟩ := hp
  refine g_putRF (ci := 8) (k := 1) (q := 3) C dX8_init_23 rfl inGX8 tyX8_ok nmX8 (by decide) fwX8_19 (by decide +kernel) (by decide) rfl rfl rfl rfl rfl (fun _ => rfl) (fun _ => rfl) rfl ?_
  refine g_aload_n C dX8_init_26 rfl ?_
  refine g_newO (ci := 3) C dX8_init_27 rfl inGX3 tyX3_ok (GT_in (by decide +kernel) (by decide +kernel)) (GT_in (by decide +kernel) (by decide +kernel)) (GT_in (by decide +kernel) (by decide +kernel)) (by decide +kernel) (by decide) (fvs_new (fun _ => rfl) (fun _ => rfl) (fun k => rr_new (by decide +kernel) (Nat.le_refl _) k) rfl (by decide +kernel)) ⟨by decide, by decide⟩ ?_
  refine g_dup C dX8_init_30 rfl ?_
  refine g_aload_n C dX8_init_31 rfl ?_
  refine g_getR (ci := 8) (k := 0) (q := 1) C dX8_init_32 rfl inGX8 (by decide) fwX8_12 (by decide +kernel) (by decide) rfl ((rr_in (by decide +kernel)).trans rfl) ?_
  refine g_callI (b := G.1 + 66) (As := [.ref (G.1 + 1)]) (rest := [.ref (G.1 + 66), .ref (G.1 + 0)]) C dX8_init_35 nwX3_init.1 nwX3_init.2 rfl rfl mwX8_25 ⟨by decide, by decide⟩ (s_iX3 (BkX (by decide +kernel))) rfl (Nat.le_of_ble_eq_true rfl) rfl ⟨by decide, by decide⟩ _ rfl (fun v M2 hp => ?_)
  obtain ⟨rfl, rfl⟩ := hp
  refine g_putRF (ci := 8) (k := 2) (q := 66) C dX8_init_38 rfl inGX8 tyX8_ok nmX8 (by decide) fwX8_28 (by decide +kernel) (by decide) rfl rfl rfl rfl rfl (fun _ => rfl) (fun _ => rfl) rfl ?_
  refine g_aload_n C dX8_init_41 rfl ?_
  refine g_newO (ci := 1) C dX8_init_42 rfl inGX1 tyX1_ok (GT_in (by decide +kernel) (by decide +kernel)) (GT_in (by decide +kernel) (by decide +kernel)) (GT_in (by decide +kernel) (by decide +kernel)) (by decide +kernel) (by decide) (fvs_new (fun _ => rfl) (fun _ => rfl) (fun k => rr_new (by decide +kernel) (Nat.le_refl _) k) rfl (by decide +kernel)) ⟨by decide, by decide⟩ ?_
  refine g_dup C dX8_init_45 rfl ?_
  refine g_aload_n C dX8_init_46 rfl ?_
  refine g_getR (ci := 8) (k := 1) (q := 3) C dX8_init_47 rfl inGX8 (by decide) fwX8_19 (by decide +kernel) (by decide) rfl ((rr_in (by decide +kernel)).trans rfl) ?_
  refine g_callI (b := G.1 + 73) (As := [.ref (G.1 + 3)]) (rest := [.ref (G.1 + 73), .ref (G.1 + 0)]) C dX8_init_50 nwX1_init.1 nwX1_init.2 rfl rfl mwX8_34 ⟨by decide, by decide⟩ (s_iX1 (BkX (by decide +kernel))) rfl (Nat.le_of_ble_eq_true rfl) rfl ⟨by decide, by decide⟩ _ rfl (fun v M2 hp => ?_)
  obtain ⟨rfl, rfl⟩ := hp
  refine g_putRF (ci := 8) (k := 3) (q := 73) C dX8_init_53 rfl inGX8 tyX8_ok nmX8 (by decide) fwX8_37 (by decide +kernel) (by decide) rfl rfl rfl rfl rfl (fun _ => rfl) (fun _ => rfl) rfl ?_
  refine g_aload_n C dX8_init_56 rfl ?_
  refine g_newO (ci := 0) C dX8_init_57 rfl inGX0 tyX0_ok (GT_in (by decide +kernel) (by decide +kernel)) (GT_in (by decide +kernel) (by decide +kernel)) (GT_in (by decide +kernel) (by decide +kernel)) (by decide +kernel) (by decide) (fvs_new (fun _ => rfl) (fun _ => rfl) (fun k => rr_new (by decide +kernel) (Nat.le_refl _) k) rfl (by decide +kernel)) ⟨by decide, by decide⟩ ?_
  refine g_dup C dX8_init_60 rfl ?_
  refine g_aload_n C dX8_init_61 rfl ?_
  refine g_getR (ci := 8) (k := 1) (q := 3) C dX8_init_62 rfl inGX8 (by decide) fwX8_19 (by decide +kernel) (by decide) rfl ((rr_in (by decide +kernel)).trans rfl) ?_
  refine g_aload_n C dX8_init_65 rfl ?_
  refine g_getR (ci := 8) (k := 3) (q := 73) C dX8_init_66 rfl inGX8 (by decide) fwX8_37 (by decide +kernel) (by decide) rfl ((rr_in (by decide +kernel)).trans rfl) ?_
  refine g_callI (b := G.1 + 92) (As := [.ref (G.1 + 3), .ref (G.1 + 73)]) (rest := [.ref (G.1 + 92), .ref (G.1 + 0)]) C dX8_init_69 nwX0_init.1 nwX0_init.2 rfl rfl mwX8_43 ⟨by decide, by decide⟩ (s_iX0 (BkX (by decide +kernel))) rfl (Nat.le_of_ble_eq_true rfl) rfl ⟨by decide, by decide⟩ _ rfl (fun v M2 hp => ?_)
  obtain ⟨rfl, rfl⟩ := hp
  refine g_putRF (ci := 8) (k := 4) (q := 92) C dX8_init_72 rfl inGX8 tyX8_ok nmX8 (by decide) fwX8_46 (by decide +kernel) (by decide) rfl rfl rfl rfl rfl (fun _ => rfl) (fun _ => rfl) rfl ?_
  refine g_aload_n C dX8_init_75 rfl ?_
  refine g_newO (ci := 7) C dX8_init_76 rfl inGX7 tyX7_ok (GT_in (by decide +kernel) (by decide +kernel)) (GT_in (by decide +kernel) (by decide +kernel)) (GT_in (by decide +kernel) (by decide +kernel)) (by decide +kernel) (by decide) (fvs_new (fun _ => rfl) (fun _ => rfl) (fun k => rr_new (by decide +kernel) (Nat.le_refl _) k) rfl (by decide +kernel)) ⟨by decide, by decide⟩ ?_
  refine g_dup C dX8_init_79 rfl ?_
  refine g_aload_n C dX8_init_80 rfl ?_
  refine g_getR (ci := 8) (k := 1) (q := 3) C dX8_init_81 rfl inGX8 (by decide) fwX8_19 (by decide +kernel) (by decide) rfl ((rr_in (by decide +kernel)).trans rfl) ?_
  refine g_aload_n C dX8_init_84 rfl ?_
  refine g_getR (ci := 8) (k := 3) (q := 73) C dX8_init_85 rfl inGX8 (by decide) fwX8_37 (by decide +kernel) (by decide) rfl ((rr_in (by decide +kernel)).trans rfl) ?_
  refine g_callI (b := G.1 + 95) (As := [.ref (G.1 + 3), .ref (G.1 + 73)]) (rest := [.ref (G.1 + 95), .ref (G.1 + 0)]) C dX8_init_88 nwX7_init.1 nwX7_init.2 rfl rfl mwX8_52 ⟨by decide, by decide⟩ (s_iX7 (BkX (by decide +kernel))) rfl (Nat.le_of_ble_eq_true rfl) rfl ⟨by decide, by decide⟩ _ rfl (fun v M2 hp => ?_)
  obtain ⟨rfl, rfl⟩ := hp
  refine g_putRF (ci := 8) (k := 5) (q := 95) C dX8_init_91 rfl inGX8 tyX8_ok nmX8 (by decide) fwX8_53 (by decide +kernel) (by decide) rfl rfl rfl rfl rfl (fun _ => rfl) (fun _ => rfl) rfl ?_
  refine g_aload_n C dX8_init_94 rfl ?_
  refine g_newO (ci := 4) C dX8_init_95 rfl inGX4 tyX4_ok (GT_in (by decide +kernel) (by decide +kernel)) (GT_in (by decide +kernel) (by decide +kernel)) (GT_in (by decide +kernel) (by decide +kernel)) (by decide +kernel) (by decide) (fvs_new (fun _ => rfl) (fun _ => rfl) (fun k => rr_new (by decide +kernel) (Nat.le_refl _) k) rfl (by decide +kernel)) ⟨by decide, by decide⟩ ?_
  refine g_dup C dX8_init_98 rfl ?_
  refine g_aload_n C dX8_init_99 rfl ?_
  refine g_getR (ci := 8) (k := 1) (q := 3) C dX8_init_100 rfl inGX8 (by decide) fwX8_19 (by decide +kernel) (by decide) rfl ((rr_in (by decide +kernel)).trans rfl) ?_
  refine g_aload_n C dX8_init_103 rfl ?_
  refine g_getR (ci := 8) (k := 3) (q := 73) C dX8_init_104 rfl inGX8 (by decide) fwX8_37 (by decide +kernel) (by decide) rfl ((rr_in (by decide +kernel)).trans rfl) ?_
  refine g_aload_n C dX8_init_107 rfl ?_
  refine g_getR (ci := 8) (k := 4) (q := 92) C dX8_init_108 rfl inGX8 (by decide) fwX8_46 (by decide +kernel) (by decide) rfl ((rr_in (by decide +kernel)).trans rfl) ?_
  refine g_callI (b := G.1 + 98) (As := [.ref (G.1 + 3), .ref (G.1 + 73), .ref (G.1 + 92)]) (rest := [.ref (G.1 + 98), .ref (G.1 + 0)]) C dX8_init_111 nwX4_init.1 nwX4_init.2 rfl rfl mwX8_59 ⟨by decide, by decide⟩ (s_iX4 (BkX (by decide +kernel))) rfl (Nat.le_of_ble_eq_true rfl) rfl ⟨by decide, by decide⟩ _ rfl (fun v M2 hp => ?_)
  obtain ⟨rfl, rfl⟩ := hp
  refine g_putRF (ci := 8) (k := 6) (q := 98) C dX8_init_114 rfl inGX8 tyX8_ok nmX8 (by decide) fwX8_62 (by decide +kernel) (by decide) rfl rfl rfl rfl rfl (fun _ => rfl) (fun _ => rfl) rfl ?_
  refine g_aload_n C dX8_init_117 rfl ?_
  refine g_iconst (v := 0) C dX8_init_118 (by decide) ?_
  refine g_putI (ci := 8) (k := 7) .int C dX8_init_119 rfl inGX8 tyX8_ok nmX8 (by decide) fwX8_66 (by decide +kernel) (by decide) rfl rfl rfl rfl rfl ?_
  refine g_aload_n C dX8_init_122 rfl ?_
  refine g_iconst (v := 1) C dX8_init_123 (by decide) ?_
  refine g_putI (ci := 8) (k := 8) .boolean C dX8_init_124 rfl inGX8 tyX8_ok nmX8 (by decide) fwX8_70 (by decide +kernel) (by decide) rfl rfl rfl rfl rfl ?_
  exact g_vret C dX8_init_127 rfl rfl rfl ⟨rfl, _, rfl, rfl⟩
