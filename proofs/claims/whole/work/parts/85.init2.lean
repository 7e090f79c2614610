set_option maxHeartbeats 4000000 in
theorem s_iX6 {l : Launch} {G : Gm} {I : Nat → Nat → Int32} {J : Nat → Nat → Int64} {S : List (Nat × Nat)} (hB : Bk I J S 2) : Sp l G iX6_init [.ref (G.1 + 1)] (I, J, rr S, 2) (RetV (I, J, rr ([(1, 0)] ++ S), 3)) noT := by
  refine Sp.of (by decide +kernel) (Nat.le_of_ble_eq_true rfl) ?_
  intro X hXl C
  subst hXl
  show Go X G 1 0 0 _ 0 [.ref (G.1 + 1)] [] (I, J, rr S, 2)
  refine g_aload_n C dX6_init_0 rfl ?_
  refine g_obj0 C dX6_init_1 mwX6_3 oi_i oi_c rfl ⟨by decide, by decide⟩ (Nat.le_of_ble_eq_true rfl) ?_
  refine g_aload_n C dX6_init_4 rfl ?_
  refine g_sipush (v := 300) C dX6_init_5 (by decide) ?_
  refine g_newI (m := 300) C dX6_init_8 rfl (by decide) (by decide) (by decide +kernel) (fun k => hB.1 _ (by omega) k) ⟨by decide, by decide⟩ ?_
  refine g_putRF (ci := 6) (k := 0) (q := 2) C dX6_init_10 rfl inGX6 tyX6_ok nmX6 (by decide) fwX6_9 (by decide +kernel) (by decide) rfl rfl rfl rfl rfl (fun _ => rfl) (fun _ => rfl) rfl ?_
  exact g_vret C dX6_init_13 rfl rfl rfl ⟨rfl, rfl⟩
set_option maxHeartbeats 4000000 in
theorem s_iX5 {l : Launch} {G : Gm} {I : Nat → Nat → Int32} {J : Nat → Nat → Int64} {S : List (Nat × Nat)} {o : Nat} (ho : o + 6 ≤ 125) (hl0 : lay o = (0, 5)) (hla : ∀ k, k < 5 → lay (o + 1 + k) = (1, 12)) (hrf : ∀ k, k < 5 → rf0 o k = some (o + 1 + k)) (hB : Bk I J S (o + 1)) : Sp l G iX5_init [.ref (G.1 + o)] (I, J, rr S, o + 1) (RetV (I, J, rr ([(o, 4), (o, 3), (o, 2), (o, 1), (o, 0)] ++ S), o + 6)) noT := by
  refine Sp.of (by decide +kernel) (Nat.le_of_ble_eq_true rfl) ?_
  intro X hXl C
  subst hXl
  show Go X G 1 0 0 _ 0 [.ref (G.1 + o)] [] (I, J, rr S, o + 1 + 0)
  refine g_aload_n C dX5_init_0 rfl ?_
  refine g_obj0 C dX5_init_1 mwX5_3 oi_i oi_c rfl ⟨by decide, by decide⟩ (Nat.le_of_ble_eq_true rfl) ?_
  refine g_aload_n C dX5_init_4 rfl ?_
  refine g_bipush (v := 12) C dX5_init_5 (by decide) ?_
  refine g_newI (m := 12) C dX5_init_7 rfl (by decide) (by omega) (hla 0 (by decide)) (fun k => hB.1 _ (by omega) k) ⟨by decide, by decide⟩ ?_
  refine g_putRF (ci := 5) (k := 0) (q := (o + 1 + 0)) C dX5_init_9 rfl inGX5 tyX5_ok nmX5 (by decide) fwX5_9 hl0 (by omega) rfl rfl rfl rfl rfl (fun _ => rfl) (fun _ => rfl) (hrf 0 (by decide)) ?_
  refine g_aload_n C dX5_init_12 rfl ?_
  refine g_bipush (v := 12) C dX5_init_13 (by decide) ?_
  refine g_newI (m := 12) C dX5_init_15 rfl (by decide) (by omega) (hla 1 (by decide)) (fun k => hB.1 _ (by omega) k) ⟨by decide, by decide⟩ ?_
  refine g_putRF (ci := 5) (k := 1) (q := (o + 1 + 1)) C dX5_init_17 rfl inGX5 tyX5_ok nmX5 (by decide) fwX5_15 hl0 (by omega) rfl rfl rfl rfl rfl (fun _ => rfl) (fun _ => rfl) (hrf 1 (by decide)) ?_
  refine g_aload_n C dX5_init_20 rfl ?_
  refine g_bipush (v := 12) C dX5_init_21 (by decide) ?_
  refine g_newI (m := 12) C dX5_init_23 rfl (by decide) (by omega) (hla 2 (by decide)) (fun k => hB.1 _ (by omega) k) ⟨by decide, by decide⟩ ?_
  refine g_putRF (ci := 5) (k := 2) (q := (o + 1 + 2)) C dX5_init_25 rfl inGX5 tyX5_ok nmX5 (by decide) fwX5_18 hl0 (by omega) rfl rfl rfl rfl rfl (fun _ => rfl) (fun _ => rfl) (hrf 2 (by decide)) ?_
  refine g_aload_n C dX5_init_28 rfl ?_
  refine g_bipush (v := 12) C dX5_init_29 (by decide) ?_
  refine g_newI (m := 12) C dX5_init_31 rfl (by decide) (by omega) (hla 3 (by decide)) (fun k => hB.1 _ (by omega) k) ⟨by decide, by decide⟩ ?_
  refine g_putRF (ci := 5) (k := 3) (q := (o + 1 + 3)) C dX5_init_33 rfl inGX5 tyX5_ok nmX5 (by decide) fwX5_21 hl0 (by omega) rfl rfl rfl rfl rfl (fun _ => rfl) (fun _ => rfl) (hrf 3 (by decide)) ?_
  refine g_aload_n C dX5_init_36 rfl ?_
  refine g_bipush (v := 12) C dX5_init_37 (by decide) ?_
  refine g_newI (m := 12) C dX5_init_39 rfl (by decide) (by omega) (hla 4 (by decide)) (fun k => hB.1 _ (by omega) k) ⟨by decide, by decide⟩ ?_
  refine g_putRF (ci := 5) (k := 4) (q := (o + 1 + 4)) C dX5_init_41 rfl inGX5 tyX5_ok nmX5 (by decide) fwX5_24 hl0 (by omega) rfl rfl rfl rfl rfl (fun _ => rfl) (fun _ => rfl) (hrf 4 (by decide)) ?_
  exact g_vret C dX5_init_44 rfl rfl rfl ⟨rfl, rfl⟩
set_option maxHeartbeats 4000000 in
theorem s_iX3 {l : Launch} {G : Gm} {I : Nat → Nat → Int32} {J : Nat → Nat → Int64} {S : List (Nat × Nat)} (hB : Bk I J S 67) : Sp l G iX3_init [.ref (G.1 + 66), .ref (G.1 + 1)] (I, J, rr S, 67) (RetV (I, J, rr ([(66, 1), (66, 0), (67, 4), (67, 3), (67, 2), (67, 1), (67, 0)] ++ S), 73)) noT := by
  refine Sp.of (by decide +kernel) (Nat.le_of_ble_eq_true rfl) ?_
  intro X hXl C
  subst hXl
  show Go X G 2 0 0 _ 0 [.ref (G.1 + 66), .ref (G.1 + 1)] [] (I, J, rr S, 67)
  refine g_aload_n C dX3_init_0 rfl ?_
  refine g_obj0 C dX3_init_1 mwX3_3 oi_i oi_c rfl ⟨by decide, by decide⟩ (Nat.le_of_ble_eq_true rfl) ?_
  refine g_aload_n C dX3_init_4 rfl ?_
  refine g_newO (ci := 5) C dX3_init_5 rfl inGX5 tyX5_ok (GT_in (by decide +kernel) (by decide +kernel)) (GT_in (by decide +kernel) (by decide +kernel)) (GT_in (by decide +kernel) (by decide +kernel)) (by decide +kernel) (by decide) (fvs_new (fun k => hB.1 _ (by omega) k) (fun k => hB.2.1 _ (by omega) k) (fun k => rr_new hB.2.2 (by omega) k) rfl (by decide +kernel)) ⟨by decide, by decide⟩ ?_
  refine g_dup C dX3_init_8 rfl ?_
  refine g_callI (b := G.1 + 67) (As := []) (rest := [.ref (G.1 + 67), .ref (G.1 + 66)]) C dX3_init_9 nwX5_init.1 nwX5_init.2 rfl rfl mwX3_11 ⟨by decide, by decide⟩ (s_iX5 (o := 67) (by decide) (by decide +kernel) (by decide +kernel) (by decide +kernel) (hB.up (by decide) (fun x hx => Or.inl hx))) rfl (Nat.le_of_ble_eq_true rfl) rfl ⟨by decide, by decide⟩ _ rfl (fun v M2 hp => ?_)
  obtain ⟨rfl, rfl⟩ := hp
  refine g_putRF (ci := 3) (k := 0) (q := 67) C dX3_init_12 rfl inGX3 tyX3_ok nmX3 (by decide) fwX3_12 (by decide +kernel) (by decide) rfl rfl rfl rfl rfl (fun _ => rfl) (fun _ => rfl) rfl ?_
  refine g_aload_n C dX3_init_15 rfl ?_
  refine g_aload_n C dX3_init_16 rfl ?_
  refine g_putRF (ci := 3) (k := 1) (q := 1) C dX3_init_17 rfl inGX3 tyX3_ok nmX3 (by decide) fwX3_18 (by decide +kernel) (by decide) rfl rfl rfl rfl rfl (fun _ => rfl) (fun _ => rfl) rfl ?_
  exact g_vret C dX3_init_20 rfl rfl rfl ⟨rfl, rfl⟩
set_option maxHeartbeats 4000000 in
theorem s_iX1 {l : Launch} {G : Gm} {I : Nat → Nat → Int32} {J : Nat → Nat → Int64} {S : List (Nat × Nat)} (hB : Bk I J S 74) : Sp l G iX1_init [.ref (G.1 + 73), .ref (G.1 + 3)] (I, J, rr S, 74) (RetV (I, J, rr ([(73, 0), (73, 8)] ++ cam ++ [(73, 7), (73, 6), (73, 5), (73, 4), (73, 3), (73, 2), (73, 1)] ++ S), 92)) noT := by
  refine Sp.of (by decide +kernel) (Nat.le_of_ble_eq_true rfl) ?_
  intro X hXl C
  subst hXl
  show Go X G 2 0 0 _ 0 [.ref (G.1 + 73), .ref (G.1 + 3)] [] (I, J, rr S, 74)
  refine g_aload_n C dX1_init_0 rfl ?_
  refine g_obj0 C dX1_init_1 mwX1_3 oi_i oi_c rfl ⟨by decide, by decide⟩ (Nat.le_of_ble_eq_true rfl) ?_
  refine g_aload_n C dX1_init_4 rfl ?_
  refine g_bipush (v := 10) C dX1_init_5 (by decide) ?_
  refine g_newI (m := 10) C dX1_init_7 rfl (by decide) (by decide) (by decide +kernel) (fun k => hB.1 _ (by omega) k) ⟨by decide, by decide⟩ ?_
  refine g_putRF (ci := 1) (k := 1) (q := 74) C dX1_init_9 rfl inGX1 tyX1_ok nmX1 (by decide) fwX1_9 (by decide +kernel) (by decide) rfl rfl rfl rfl rfl (fun _ => rfl) (fun _ => rfl) rfl ?_
  refine g_aload_n C dX1_init_12 rfl ?_
  refine g_bipush (v := 10) C dX1_init_13 (by decide) ?_
  refine g_newI (m := 10) C dX1_init_15 rfl (by decide) (by decide) (by decide +kernel) (fun k => hB.1 _ (by omega) k) ⟨by decide, by decide⟩ ?_
  refine g_putRF (ci := 1) (k := 2) (q := 75) C dX1_init_17 rfl inGX1 tyX1_ok nmX1 (by decide) fwX1_15 (by decide +kernel) (by decide) rfl rfl rfl rfl rfl (fun _ => rfl) (fun _ => rfl) rfl ?_
  refine g_aload_n C dX1_init_20 rfl ?_
  refine g_bipush (v := 10) C dX1_init_21 (by decide) ?_
  refine g_newI (m := 10) C dX1_init_23 rfl (by decide) (by decide) (by decide +kernel) (fun k => hB.1 _ (by omega) k) ⟨by decide, by decide⟩ ?_
  refine g_putRF (ci := 1) (k := 3) (q := 76) C dX1_init_25 rfl inGX1 tyX1_ok nmX1 (by decide) fwX1_18 (by decide +kernel) (by decide) rfl rfl rfl rfl rfl (fun _ => rfl) (fun _ => rfl) rfl ?_
  refine g_aload_n C dX1_init_28 rfl ?_
  refine g_sipush (v := 250) C dX1_init_29 (by decide) ?_
  refine g_newI (m := 250) C dX1_init_32 rfl (by decide) (by decide) (by decide +kernel) (fun k => hB.1 _ (by omega) k) ⟨by decide, by decide⟩ ?_
  refine g_putRF (ci := 1) (k := 4) (q := 77) C dX1_init_34 rfl inGX1 tyX1_ok nmX1 (by decide) fwX1_21 (by decide +kernel) (by decide) rfl rfl rfl rfl rfl (fun _ => rfl) (fun _ => rfl) rfl ?_
  refine g_aload_n C dX1_init_37 rfl ?_
  refine g_sipush (v := 480) C dX1_init_38 (by decide) ?_
  refine g_newI (m := 480) C dX1_init_41 rfl (by decide) (by decide) (by decide +kernel) (fun k => hB.1 _ (by omega) k) ⟨by decide, by decide⟩ ?_
  refine g_putRF (ci := 1) (k := 5) (q := 78) C dX1_init_43 rfl inGX1 tyX1_ok nmX1 (by decide) fwX1_24 (by decide +kernel) (by decide) rfl rfl rfl rfl rfl (fun _ => rfl) (fun _ => rfl) rfl ?_
  refine g_aload_n C dX1_init_46 rfl ?_
  refine g_sipush (v := 480) C dX1_init_47 (by decide) ?_
  refine g_newI (m := 480) C dX1_init_50 rfl (by decide) (by decide) (by decide +kernel) (fun k => hB.1 _ (by omega) k) ⟨by decide, by decide⟩ ?_
  refine g_putRF (ci := 1) (k := 6) (q := 79) C dX1_init_52 rfl inGX1 tyX1_ok nmX1 (by decide) fwX1_27 (by decide +kernel) (by decide) rfl rfl rfl rfl rfl (fun _ => rfl) (fun _ => rfl) rfl ?_
  refine g_aload_n C dX1_init_55 rfl ?_
  refine g_sipush (v := 480) C dX1_init_56 (by decide) ?_
  refine g_newI (m := 480) C dX1_init_59 rfl (by decide) (by decide) (by decide +kernel) (fun k => hB.1 _ (by omega) k) ⟨by decide, by decide⟩ ?_
  refine g_putRF (ci := 1) (k := 7) (q := 80) C dX1_init_61 rfl inGX1 tyX1_ok nmX1 (by decide) fwX1_30 (by decide +kernel) (by decide) rfl rfl rfl rfl rfl (fun _ => rfl) (fun _ => rfl) rfl ?_
  refine g_aload_n C dX1_init_64 rfl ?_
  refine g_bipush (v := 10) C dX1_init_65 (by decide) ?_
  refine g_sipush (v := 250) C dX1_init_67 (by decide) ?_
  refine g_mna C dX1_init_70 (fun j hj k => hB.1 _ (by omega) k) (by
    intro x hx
    simp only [List.mem_cons] at hx
    rcases hx with rfl | rfl | rfl | rfl | rfl | rfl | rfl | h
    · decide
    · decide
    · decide
    · decide
    · decide
    · decide
    · decide
    · have := hB.2.2 x h; omega) ⟨by decide, by decide⟩ ?_
  refine g_putRF (ci := 1) (k := 8) (q := 81) C dX1_init_74 rfl inGX1 tyX1_ok nmX1 (by decide) fwX1_35 (by decide +kernel) (by decide) rfl rfl rfl rfl rfl (fun _ => rfl) (fun _ => rfl) rfl ?_
  refine g_aload_n C dX1_init_77 rfl ?_
  refine g_aload_n C dX1_init_78 rfl ?_
  refine g_putRF (ci := 1) (k := 0) (q := 3) C dX1_init_79 rfl inGX1 tyX1_ok nmX1 (by decide) fwX1_38 (by decide +kernel) (by decide) rfl rfl rfl rfl rfl (fun _ => rfl) (fun _ => rfl) rfl ?_
  exact g_vret C dX1_init_82 rfl rfl rfl ⟨rfl, rfl⟩
set_option maxHeartbeats 4000000 in
theorem s_iX0 {l : Launch} {G : Gm} {I : Nat → Nat → Int32} {J : Nat → Nat → Int64} {S : List (Nat × Nat)} (hB : Bk I J S 93) : Sp l G iX0_init [.ref (G.1 + 92), .ref (G.1 + 3), .ref (G.1 + 73)] (I, J, rr S, 93) (RetV (I, J, rr ([(92, 1), (92, 0), (92, 3), (92, 2)] ++ S), 95)) noT := by
  refine Sp.of (by decide +kernel) (Nat.le_of_ble_eq_true rfl) ?_
  intro X hXl C
  subst hXl
  show Go X G 3 0 0 _ 0 [.ref (G.1 + 92), .ref (G.1 + 3), .ref (G.1 + 73)] [] (I, J, rr S, 93)
  refine g_aload_n C dX0_init_0 rfl ?_
  refine g_obj0 C dX0_init_1 mwX0_3 oi_i oi_c rfl ⟨by decide, by decide⟩ (Nat.le_of_ble_eq_true rfl) ?_
  refine g_aload_n C dX0_init_4 rfl ?_
  refine g_bipush (v := 16) C dX0_init_5 (by decide) ?_
  refine g_newI (m := 16) C dX0_init_7 rfl (by decide) (by decide) (by decide +kernel) (fun k => hB.1 _ (by omega) k) ⟨by decide, by decide⟩ ?_
  refine g_putRF (ci := 0) (k := 2) (q := 93) C dX0_init_9 rfl inGX0 tyX0_ok nmX0 (by decide) fwX0_9 (by decide +kernel) (by decide) rfl rfl rfl rfl rfl (fun _ => rfl) (fun _ => rfl) rfl ?_
  refine g_aload_n C dX0_init_12 rfl ?_
  refine g_bipush (v := 16) C dX0_init_13 (by decide) ?_
  refine g_newI (m := 16) C dX0_init_15 rfl (by decide) (by decide) (by decide +kernel) (fun k => hB.1 _ (by omega) k) ⟨by decide, by decide⟩ ?_
  refine g_putRF (ci := 0) (k := 3) (q := 94) C dX0_init_17 rfl inGX0 tyX0_ok nmX0 (by decide) fwX0_15 (by decide +kernel) (by decide) rfl rfl rfl rfl rfl (fun _ => rfl) (fun _ => rfl) rfl ?_
  refine g_aload_n C dX0_init_20 rfl ?_
  refine g_aload_n C dX0_init_21 rfl ?_
  refine g_putRF (ci := 0) (k := 0) (q := 3) C dX0_init_22 rfl inGX0 tyX0_ok nmX0 (by decide) fwX0_18 (by decide +kernel) (by decide) rfl rfl rfl rfl rfl (fun _ => rfl) (fun _ => rfl) rfl ?_
  refine g_aload_n C dX0_init_25 rfl ?_
  refine g_aload_n C dX0_init_26 rfl ?_
  refine g_putRF (ci := 0) (k := 1) (q := 73) C dX0_init_27 rfl inGX0 tyX0_ok nmX0 (by decide) fwX0_22 (by decide +kernel) (by decide) rfl rfl rfl rfl rfl (fun _ => rfl) (fun _ => rfl) rfl ?_
  exact g_vret C dX0_init_30 rfl rfl rfl ⟨rfl, rfl⟩
set_option maxHeartbeats 4000000 in
theorem s_iX7 {l : Launch} {G : Gm} {I : Nat → Nat → Int32} {J : Nat → Nat → Int64} {S : List (Nat × Nat)} (hB : Bk I J S 96) : Sp l G iX7_init [.ref (G.1 + 95), .ref (G.1 + 3), .ref (G.1 + 73)] (I, J, rr S, 96) (RetV (I, J, rr ([(95, 1), (95, 0), (95, 3), (95, 2)] ++ S), 98)) noT := by
  refine Sp.of (by decide +kernel) (Nat.le_of_ble_eq_true rfl) ?_
  intro X hXl C
  subst hXl
  show Go X G 3 0 0 _ 0 [.ref (G.1 + 95), .ref (G.1 + 3), .ref (G.1 + 73)] [] (I, J, rr S, 96)
  refine g_aload_n C dX7_init_0 rfl ?_
  refine g_obj0 C dX7_init_1 mwX7_3 oi_i oi_c rfl ⟨by decide, by decide⟩ (Nat.le_of_ble_eq_true rfl) ?_
  refine g_aload_n C dX7_init_4 rfl ?_
  refine g_sipush (v := 250) C dX7_init_5 (by decide) ?_
  refine g_newI (m := 250) C dX7_init_8 rfl (by decide) (by decide) (by decide +kernel) (fun k => hB.1 _ (by omega) k) ⟨by decide, by decide⟩ ?_
  refine g_putRF (ci := 7) (k := 2) (q := 96) C dX7_init_10 rfl inGX7 tyX7_ok nmX7 (by decide) fwX7_9 (by decide +kernel) (by decide) rfl rfl rfl rfl rfl (fun _ => rfl) (fun _ => rfl) rfl ?_
  refine g_aload_n C dX7_init_13 rfl ?_
  refine g_bipush (v := 91) C dX7_init_14 (by decide) ?_
  refine g_newI (m := 91) C dX7_init_16 rfl (by decide) (by decide) (by decide +kernel) (fun k => hB.1 _ (by omega) k) ⟨by decide, by decide⟩ ?_
  refine g_putRF (ci := 7) (k := 3) (q := 97) C dX7_init_18 rfl inGX7 tyX7_ok nmX7 (by decide) fwX7_15 (by decide +kernel) (by decide) rfl rfl rfl rfl rfl (fun _ => rfl) (fun _ => rfl) rfl ?_
  refine g_aload_n C dX7_init_21 rfl ?_
  refine g_aload_n C dX7_init_22 rfl ?_
  refine g_putRF (ci := 7) (k := 0) (q := 3) C dX7_init_23 rfl inGX7 tyX7_ok nmX7 (by decide) fwX7_18 (by decide +kernel) (by decide) rfl rfl rfl rfl rfl (fun _ => rfl) (fun _ => rfl) rfl ?_
  refine g_aload_n C dX7_init_26 rfl ?_
  refine g_aload_n C dX7_init_27 rfl ?_
  refine g_putRF (ci := 7) (k := 1) (q := 73) C dX7_init_28 rfl inGX7 tyX7_ok nmX7 (by decide) fwX7_22 (by decide +kernel) (by decide) rfl rfl rfl rfl rfl (fun _ => rfl) (fun _ => rfl) rfl ?_
  exact g_vret C dX7_init_31 rfl rfl rfl ⟨rfl, rfl⟩
set_option maxHeartbeats 4000000 in
theorem s_iX4 {l : Launch} {G : Gm} {I : Nat → Nat → Int32} {J : Nat → Nat → Int64} {S : List (Nat × Nat)} (hB : Bk I J S 99) : Sp l G iX4_init [.ref (G.1 + 98), .ref (G.1 + 3), .ref (G.1 + 73), .ref (G.1 + 92)] (I, J, rr S, 99) (RetV (I, J, rr ([(98, 2), (98, 1), (98, 0), (98, 6), (98, 5), (98, 4), (98, 3)] ++ S), 103)) noT := by
  refine Sp.of (by decide +kernel) (Nat.le_of_ble_eq_true rfl) ?_
  intro X hXl C
  subst hXl
  show Go X G 4 0 0 _ 0 [.ref (G.1 + 98), .ref (G.1 + 3), .ref (G.1 + 73), .ref (G.1 + 92)] [] (I, J, rr S, 99)
  refine g_aload_n C dX4_init_0 rfl ?_
  refine g_obj0 C dX4_init_1 mwX4_3 oi_i oi_c rfl ⟨by decide, by decide⟩ (Nat.le_of_ble_eq_true rfl) ?_
  refine g_aload_n C dX4_init_4 rfl ?_
  refine g_bipush (v := 10) C dX4_init_5 (by decide) ?_
  refine g_newI (m := 10) C dX4_init_7 rfl (by decide) (by decide) (by decide +kernel) (fun k => hB.1 _ (by omega) k) ⟨by decide, by decide⟩ ?_
  refine g_putRF (ci := 4) (k := 3) (q := 99) C dX4_init_9 rfl inGX4 tyX4_ok nmX4 (by decide) fwX4_9 (by decide +kernel) (by decide) rfl rfl rfl rfl rfl (fun _ => rfl) (fun _ => rfl) rfl ?_
  refine g_aload_n C dX4_init_12 rfl ?_
  refine g_bipush (v := 16) C dX4_init_13 (by decide) ?_
  refine g_newI (m := 16) C dX4_init_15 rfl (by decide) (by decide) (by decide +kernel) (fun k => hB.1 _ (by omega) k) ⟨by decide, by decide⟩ ?_
  refine g_putRF (ci := 4) (k := 4) (q := 100) C dX4_init_17 rfl inGX4 tyX4_ok nmX4 (by decide) fwX4_15 (by decide +kernel) (by decide) rfl rfl rfl rfl rfl (fun _ => rfl) (fun _ => rfl) rfl ?_
  refine g_aload_n C dX4_init_20 rfl ?_
  refine g_bipush (v := 10) C dX4_init_21 (by decide) ?_
  refine g_newI (m := 10) C dX4_init_23 rfl (by decide) (by decide) (by decide +kernel) (fun k => hB.1 _ (by omega) k) ⟨by decide, by decide⟩ ?_
  refine g_putRF (ci := 4) (k := 5) (q := 101) C dX4_init_25 rfl inGX4 tyX4_ok nmX4 (by decide) fwX4_18 (by decide +kernel) (by decide) rfl rfl rfl rfl rfl (fun _ => rfl) (fun _ => rfl) rfl ?_
  refine g_aload_n C dX4_init_28 rfl ?_
  refine g_bipush (v := 10) C dX4_init_29 (by decide) ?_
  refine g_newI (m := 10) C dX4_init_31 rfl (by decide) (by decide) (by decide +kernel) (fun k => hB.1 _ (by omega) k) ⟨by decide, by decide⟩ ?_
  refine g_putRF (ci := 4) (k := 6) (q := 102) C dX4_init_33 rfl inGX4 tyX4_ok nmX4 (by decide) fwX4_21 (by decide +kernel) (by decide) rfl rfl rfl rfl rfl (fun _ => rfl) (fun _ => rfl) rfl ?_
  refine g_aload_n C dX4_init_36 rfl ?_
  refine g_aload_n C dX4_init_37 rfl ?_
  refine g_putRF (ci := 4) (k := 0) (q := 3) C dX4_init_38 rfl inGX4 tyX4_ok nmX4 (by decide) fwX4_24 (by decide +kernel) (by decide) rfl rfl rfl rfl rfl (fun _ => rfl) (fun _ => rfl) rfl ?_
  refine g_aload_n C dX4_init_41 rfl ?_
  refine g_aload_n C dX4_init_42 rfl ?_
  refine g_putRF (ci := 4) (k := 1) (q := 73) C dX4_init_43 rfl inGX4 tyX4_ok nmX4 (by decide) fwX4_28 (by decide +kernel) (by decide) rfl rfl rfl rfl rfl (fun _ => rfl) (fun _ => rfl) rfl ?_
  refine g_aload_n C dX4_init_46 rfl ?_
  refine g_aload_n C dX4_init_47 rfl ?_
  refine g_putRF (ci := 4) (k := 2) (q := 92) C dX4_init_48 rfl inGX4 tyX4_ok nmX4 (by decide) fwX4_32 (by decide +kernel) (by decide) rfl rfl rfl rfl rfl (fun _ => rfl) (fun _ => rfl) rfl ?_
  exact g_vret C dX4_init_51 rfl rfl rfl ⟨rfl, rfl⟩
