/-! ## the law's step -/
theorem mqS : Cond.methodLink RL 90 yL_step ∈ GT := GT_in (by decide +kernel) (by decide +kernel)
theorem stS : Cond.static yL_step ∈ GT := GT_in (by decide +kernel) (by decide +kernel)
set_option maxHeartbeats 4000000 in
theorem lc_16 {X : CX} {G : Gm} {nm : String} {Q : State → Prop} {b L j c1 s1 : Nat} {xs : Nat → Int32} {I : Nat → Nat → Int32} {J : Nat → Nat → Int64} (hl : X.l.stackTraces = false) (C : Cx X G (iLaw nm)) (hx : LX b L xs X G) (hL : L ≤ 3072) (hj : 6 * j + 6 ≤ L) (hI : InvE I) (hc : c1 + 1 ≤ 601024) (hs : s1 + 6 ≤ 7293034) (nx : ∀ I2 J2, InvE I2 → ∀ a5 a6 : Value, Go X G 7 (c1 + 1) (s1 + 6) Q 1003 [.ref b, .ref (G.1 + 0), .ref (G.1 + 103), .ref (G.1 + 124), .int (nI (6 * j)), a5, a6] [] (mm I2 J2)) (a5 a6 : Value) : Go X G 7 c1 s1 Q 708 [.ref b, .ref (G.1 + 0), .ref (G.1 + 103), .ref (G.1 + 124), .int (nI (6 * j)), a5, a6] [] (mm I J) := by
  obtain ⟨n, P, t, sz, z, y, h⟩ := hI
  obtain ⟨z1, z2, z3, z4⟩ := iv_z h
  by_cases hb : xs (6 * j + 1) < 0 ∨ ¬ xs (6 * j + 1) < I 95 4
  · refine g_aload_n C dL_law_708 rfl ?_
    refine g_aload_n C dL_law_709 rfl ?_
    refine g_iload C dL_law_710 rfl ?_
    refine g_iconst (v := 1) C dL_law_712 (by decide) ?_
    refine g_iadd C dL_law_713 ?_
    rw [show nI (6 * j) + 1 = nI (6 * j + 1) from nI_add (6 * j) 1]
    refine g_sld (i := 6 * j + 1) hx C dL_law_714 (by omega) hL ?_
    refine g_aload_n C dL_law_715 rfl ?_
    refine g_callSW (hh := hhS) (As := [.ref (G.1 + 0), .int (xs (6 * j + 1)), .ref (G.1 + 124)]) (rest := []) C dL_law_716 cwL_step stS mqS ⟨Nat.le_of_ble_eq_true rfl, Nat.le_of_ble_eq_true rfl⟩ (s_lstepT hl hb) rfl (Nat.le_of_ble_eq_true rfl) rfl ⟨show c1 + 1 ≤ 601024 by omega, show s1 + 6 ≤ 7293034 by omega⟩ _ rfl (fun v M2 hp => ?_)
    obtain ⟨rfl, rfl⟩ := hp
    refine g_istore_5 C dL_law_719 (show 5 < 7 by decide) ?_
    refine g_aload_n C dL_law_721 rfl ?_
    refine g_aload_n C dL_law_722 rfl ?_
    refine g_iload C dL_law_723 rfl ?_
    refine g_iconst (v := 1) C dL_law_725 (by decide) ?_
    refine g_iadd C dL_law_726 ?_
    rw [show nI (6 * j) + 1 = nI (6 * j + 1) from nI_add (6 * j) 1]
    refine g_sld (i := 6 * j + 1) hx C dL_law_727 (by omega) hL ?_
    refine g_callV (ci := 10) (o := 103) (As := [.int (xs (6 * j + 1))]) (rest := []) C dL_law_728 vwX10_step mqL_95 ⟨Nat.le_of_ble_eq_true rfl, Nat.le_of_ble_eq_true rfl⟩ rfl ly_103 (show 103 < 125 by decide) (s_mstep1 (by rw [z3, ← z1]; exact hb)) rfl (Nat.le_of_ble_eq_true rfl) rfl ⟨show c1 + 1 + 0 ≤ 601024 by omega, show s1 + 6 + 0 ≤ 7293034 by omega⟩ _ rfl (fun v M2 hp => ?_)
    obtain ⟨rfl, rfl⟩ := hp
    refine g_istore_6 C dL_law_731 (show 6 < 7 by decide) ?_
    refine g_aload_n C dL_law_733 rfl ?_
    refine g_callV (ci := 10) (o := 103) (As := []) (rest := []) C dL_law_734 vwX10_thrown mqL_96 ⟨Nat.le_of_ble_eq_true rfl, Nat.le_of_ble_eq_true rfl⟩ rfl ly_103 (show 103 < 125 by decide) s_mthrown rfl (Nat.le_of_ble_eq_true rfl) rfl ⟨show c1 + 1 + 0 + 0 ≤ 601024 by omega, show s1 + 6 + 0 + 0 ≤ 7293034 by omega⟩ _ rfl (fun v M2 hp => ?_)
    obtain ⟨rfl, rfl⟩ := hp
    refine g_iload C dL_law_737 rfl ?_
    refine g_icmp_eq 744 C dL_law_739 (by decide) (fun _ => ?_) (fun q => absurd (up1_same _ _ _ _) q)
    refine g_iload C dL_law_744 rfl ?_
    refine g_if_ne 761 C dL_law_746 (by decide) (fun _ => ?_) (fun q => absurd q (by decide))
    refine g_goto 1003 C dL_law_761 (by decide) ?_
    have hI2 : InvE (up1 I 103 0 1) := ⟨n, P, t, sz, z, y, Inv_at h (fun a b hr => by unfold up1; rw [if_neg (fun q => rel_103 (q.1 ▸ hr) q.2)]) (fun q h1 h2 => up1_nf (by omega)) (by rw [up1_nf (by decide)])⟩
    exact Go.widen (show c1 + 1 + 0 + 0 ≤ c1 + 1 by omega) (show s1 + 6 + 0 + 0 ≤ s1 + 6 by omega) (nx _ _ hI2 _ _)
  · rw [not_or, Classical.not_not] at hb
    obtain ⟨i, hi31, ei⟩ := nI_of hb.1
    have hiz : i < z := (nI_ltI hi31 (by omega)).mp (by rw [← ei, ← z1]; exact hb.2)
    refine g_aload_n C dL_law_708 rfl ?_
    refine g_aload_n C dL_law_709 rfl ?_
    refine g_iload C dL_law_710 rfl ?_
    refine g_iconst (v := 1) C dL_law_712 (by decide) ?_
    refine g_iadd C dL_law_713 ?_
    rw [show nI (6 * j) + 1 = nI (6 * j + 1) from nI_add (6 * j) 1]
    refine g_sld (i := 6 * j + 1) hx C dL_law_714 (by omega) hL ?_
    refine g_aload_n C dL_law_715 rfl ?_
    refine g_callSW (hh := hhS) (As := [.ref (G.1 + 0), .int (xs (6 * j + 1)), .ref (G.1 + 124)]) (rest := []) C dL_law_716 cwL_step stS mqS ⟨Nat.le_of_ble_eq_true rfl, Nat.le_of_ble_eq_true rfl⟩ (by rw [ei]; exact s_lstepR z1 z2 hiz) rfl (Nat.le_of_ble_eq_true rfl) rfl ⟨show c1 + 1 ≤ 601024 by omega, show s1 + 6 ≤ 7293034 by omega⟩ _ rfl (fun v M2 hp => ?_)
    obtain ⟨rfl, rfl⟩ := hp
    refine g_istore_5 C dL_law_719 (show 5 < 7 by decide) ?_
    refine g_aload_n C dL_law_721 rfl ?_
    refine g_aload_n C dL_law_722 rfl ?_
    refine g_iload C dL_law_723 rfl ?_
    refine g_iconst (v := 1) C dL_law_725 (by decide) ?_
    refine g_iadd C dL_law_726 ?_
    rw [show nI (6 * j) + 1 = nI (6 * j + 1) from nI_add (6 * j) 1]
    refine g_sld (i := 6 * j + 1) hx C dL_law_727 (by omega) hL ?_
    refine g_callV (ci := 10) (o := 103) (As := [.int (xs (6 * j + 1))]) (rest := []) C dL_law_728 vwX10_step mqL_95 ⟨Nat.le_of_ble_eq_true rfl, Nat.le_of_ble_eq_true rfl⟩ rfl ly_103 (show 103 < 125 by decide) (by rw [ei]; exact s_mstep (by omega) (by rw [z3]; exact nI_lt hiz (by omega))) rfl (Nat.le_of_ble_eq_true rfl) rfl ⟨show c1 + 1 + 0 ≤ 601024 by omega, show s1 + 6 + 0 ≤ 7293034 by omega⟩ _ rfl (fun v M2 hp => ?_)
    obtain ⟨rfl, rfl⟩ := hp
    refine g_istore_6 C dL_law_731 (show 6 < 7 by decide) ?_
    refine g_aload_n C dL_law_733 rfl ?_
    refine g_callV (ci := 10) (o := 103) (As := []) (rest := []) C dL_law_734 vwX10_thrown mqL_96 ⟨Nat.le_of_ble_eq_true rfl, Nat.le_of_ble_eq_true rfl⟩ rfl ly_103 (show 103 < 125 by decide) s_mthrown rfl (Nat.le_of_ble_eq_true rfl) rfl ⟨show c1 + 1 + 0 + 0 ≤ 601024 by omega, show s1 + 6 + 0 + 0 ≤ 7293034 by omega⟩ _ rfl (fun v M2 hp => ?_)
    obtain ⟨rfl, rfl⟩ := hp
    refine g_iload C dL_law_737 rfl ?_
    refine g_icmp_eq 744 C dL_law_739 (by decide) (fun _ => ?_) (fun q => absurd ((by unfold T0; exact up1_same _ _ _ _)) q)
    refine g_iload C dL_law_744 rfl ?_
    refine g_if_ne 761 C dL_law_746 (by decide) (fun q => absurd rfl q) (fun _ => ?_)
    refine g_aload_n C dL_law_749 rfl ?_
    refine g_iconst (v := 0) C dL_law_750 (by decide) ?_
    refine g_lald 0 C dL_law_751 ly_124 (by decide) (by decide) rfl (by decide) ?_
    refine g_iload C dL_law_752 rfl ?_
    refine g_i2l C dL_law_754 ?_
    refine g_lcmp C dL_law_755 ?_
    have e0 : lg_cmp (upJ J 124 0 (I 97 i).toInt64 124 0) (I 120 i).toInt64 = 0 := by
      rw [show upJ J 124 0 (I 97 i).toInt64 124 0 = (I 97 i).toInt64 by simp [upJ], z4 i hiz]
      exact cmp_eq.mpr rfl
    refine g_if_eq 761 C dL_law_756 (by decide) (fun _ => ?_) (fun q => absurd e0 q)
    refine g_goto 1003 C dL_law_761 (by decide) ?_
    exact Go.widen (show c1 + 1 + 0 + 0 ≤ c1 + 1 by omega) (show s1 + 6 + 0 + 0 ≤ s1 + 6 by omega) (nx _ _ ⟨n, P, t, sz, z, y, Inv_q0 h⟩ _ _)
/-! ## the law's loop -/
theorem and31 (y : Int32) : ∃ k, k < 32 ∧ y &&& 31 = nI k := by
  refine ⟨val y &&& 31, ?_, ?_⟩
  · have : val y &&& 31 ≤ 31 := Nat.and_le_right
    omega
  · conv => lhs; rw [← nI_val y]
    exact nI_and
set_option maxHeartbeats 4000000 in
theorem lc_all {X : CX} {G : Gm} {nm : String} {Q : State → Prop} {b L j c1 s1 : Nat} {xs : Nat → Int32} {I : Nat → Nat → Int32} {J : Nat → Nat → Int64} (hl : X.l.stackTraces = false) (C : Cx X G (iLaw nm)) (hx : LX b L xs X G) (hL : L ≤ 3072) (hj : 6 * j + 6 ≤ L) (hI : InvE I) (hc : c1 + 1 ≤ 601024) (hs : s1 + 6 ≤ 7293034) (nx : ∀ I2 J2, InvE I2 → ∀ a5 a6 : Value, Go X G 7 (c1 + 1) (s1 + 6) Q 1003 [.ref b, .ref (G.1 + 0), .ref (G.1 + 103), .ref (G.1 + 124), .int (nI (6 * j)), a5, a6] [] (mm I2 J2)) (a5 a6 : Value) : Go X G 7 c1 s1 Q 33 [.ref b, .ref (G.1 + 0), .ref (G.1 + 103), .ref (G.1 + 124), .int (nI (6 * j)), a5, a6] [] (mm I J) := by
  refine g_aload_n C dL_law_33 rfl ?_
  refine g_iload C dL_law_34 rfl ?_
  refine g_sld (i := 6 * j) hx C dL_law_36 (by omega) hL ?_
  refine g_bipush (v := 31) C dL_law_37 (by decide) ?_
  refine g_iand C dL_law_39 ?_
  obtain ⟨k, hk, ek⟩ := and31 (xs (6 * j))
  rw [ek]
  have : k = 0 ∨ k = 1 ∨ k = 2 ∨ k = 3 ∨ k = 4 ∨ k = 5 ∨ k = 6 ∨ k = 7 ∨ k = 8 ∨ k = 9 ∨ k = 10 ∨ k = 11 ∨ k = 12 ∨ k = 13 ∨ k = 14 ∨ k = 15 ∨ k = 16 ∨ k = 17 ∨ k = 18 ∨ k = 19 ∨ k = 20 ∨ k = 21 ∨ k = 22 ∨ k = 23 ∨ k = 24 ∨ k = 25 ∨ k = 26 ∨ k = 27 ∨ k = 28 ∨ k = 29 ∨ k = 30 ∨ k = 31 := by omega
  rcases this with rfl | rfl | rfl | rfl | rfl | rfl | rfl | rfl | rfl | rfl | rfl | rfl | rfl | rfl | rfl | rfl | rfl | rfl | rfl | rfl | rfl | rfl | rfl | rfl | rfl | rfl | rfl | rfl | rfl | rfl | rfl | rfl
  · exact g_tabIn (tgt := 168) C dL_law_40 (by decide) (by decide) (show _ = some (128 : Int) from rfl) (by decide) (lc_0 C hx hL hj hI hc hs nx a5 a6)
  · exact g_tabIn (tgt := 193) C dL_law_40 (by decide) (by decide) (show _ = some (153 : Int) from rfl) (by decide) (lc_1 C hx hL hj hI hc hs nx a5 a6)
  · exact g_tabIn (tgt := 230) C dL_law_40 (by decide) (by decide) (show _ = some (190 : Int) from rfl) (by decide) (lc_2 C hx hL hj hI hc hs nx a5 a6)
  · exact g_tabIn (tgt := 303) C dL_law_40 (by decide) (by decide) (show _ = some (263 : Int) from rfl) (by decide) (lc_3 C hx hL hj hI hc hs nx a5 a6)
  · exact g_tabIn (tgt := 340) C dL_law_40 (by decide) (by decide) (show _ = some (300 : Int) from rfl) (by decide) (lc_4 C hx hL hj hI hc hs nx a5 a6)
  · exact g_tabIn (tgt := 353) C dL_law_40 (by decide) (by decide) (show _ = some (313 : Int) from rfl) (by decide) (lc_5 C hx hL hj hI hc hs nx a5 a6)
  · exact g_tabIn (tgt := 366) C dL_law_40 (by decide) (by decide) (show _ = some (326 : Int) from rfl) (by decide) (lc_6 C hx hL hj hI hc hs nx a5 a6)
  · exact g_tabIn (tgt := 415) C dL_law_40 (by decide) (by decide) (show _ = some (375 : Int) from rfl) (by decide) (lc_7 C hx hL hj hI hc hs nx a5 a6)
  · exact g_tabIn (tgt := 480) C dL_law_40 (by decide) (by decide) (show _ = some (440 : Int) from rfl) (by decide) (lc_8 C hx hL hj hI hc hs nx a5 a6)
  · exact g_tabIn (tgt := 517) C dL_law_40 (by decide) (by decide) (show _ = some (477 : Int) from rfl) (by decide) (lc_9 C hx hL hj hI hc hs nx a5 a6)
  · exact g_tabIn (tgt := 542) C dL_law_40 (by decide) (by decide) (show _ = some (502 : Int) from rfl) (by decide) (lc_10 C hx hL hj hI hc hs nx a5 a6)
  · exact g_tabIn (tgt := 567) C dL_law_40 (by decide) (by decide) (show _ = some (527 : Int) from rfl) (by decide) (lc_11 C hx hL hj hI hc hs nx a5 a6)
  · exact g_tabIn (tgt := 592) C dL_law_40 (by decide) (by decide) (show _ = some (552 : Int) from rfl) (by decide) (lc_12 C hx hL hj hI hc hs nx a5 a6)
  · exact g_tabIn (tgt := 605) C dL_law_40 (by decide) (by decide) (show _ = some (565 : Int) from rfl) (by decide) (lc_13 C hx hL hj hI hc hs nx a5 a6)
  · exact g_tabIn (tgt := 646) C dL_law_40 (by decide) (by decide) (show _ = some (606 : Int) from rfl) (by decide) (lc_14 C hx hL hj hI hc hs nx a5 a6)
  · exact g_tabIn (tgt := 671) C dL_law_40 (by decide) (by decide) (show _ = some (631 : Int) from rfl) (by decide) (lc_15 C hx hL hj hI hc hs nx a5 a6)
  · exact g_tabIn (tgt := 708) C dL_law_40 (by decide) (by decide) (show _ = some (668 : Int) from rfl) (by decide) (lc_16 hl C hx hL hj hI hc hs nx a5 a6)
  · exact g_tabIn (tgt := 764) C dL_law_40 (by decide) (by decide) (show _ = some (724 : Int) from rfl) (by decide) (lc_17 C hx hL hj hI hc hs nx a5 a6)
  · exact g_tabIn (tgt := 789) C dL_law_40 (by decide) (by decide) (show _ = some (749 : Int) from rfl) (by decide) (lc_18 C hx hL hj hI hc hs nx a5 a6)
  · exact g_tabIn (tgt := 814) C dL_law_40 (by decide) (by decide) (show _ = some (774 : Int) from rfl) (by decide) (lc_19 C hx hL hj hI hc hs nx a5 a6)
  · exact g_tabIn (tgt := 839) C dL_law_40 (by decide) (by decide) (show _ = some (799 : Int) from rfl) (by decide) (lc_20 C hx hL hj hI hc hs nx a5 a6)
  · exact g_tabIn (tgt := 864) C dL_law_40 (by decide) (by decide) (show _ = some (824 : Int) from rfl) (by decide) (lc_21 C hx hL hj hI hc hs nx a5 a6)
  · exact g_tabIn (tgt := 877) C dL_law_40 (by decide) (by decide) (show _ = some (837 : Int) from rfl) (by decide) (lc_22 C hx hL hj hI hc hs nx a5 a6)
  · exact g_tabIn (tgt := 890) C dL_law_40 (by decide) (by decide) (show _ = some (850 : Int) from rfl) (by decide) (lc_23 C hx hL hj hI hc hs nx a5 a6)
  · exact g_tabIn (tgt := 915) C dL_law_40 (by decide) (by decide) (show _ = some (875 : Int) from rfl) (by decide) (lc_24 C hx hL hj hI hc hs nx a5 a6)
  · exact g_tabIn (tgt := 952) C dL_law_40 (by decide) (by decide) (show _ = some (912 : Int) from rfl) (by decide) (lc_25 C hx hL hj hI hc hs nx a5 a6)
  · exact g_tabIn (tgt := 965) C dL_law_40 (by decide) (by decide) (show _ = some (925 : Int) from rfl) (by decide) (lc_26 C hx hL hj hI hc hs nx a5 a6)
  · exact g_tabIn (tgt := 990) C dL_law_40 (by decide) (by decide) (show _ = some (950 : Int) from rfl) (by decide) (lc_27 C hx hL hj hI hc hs nx a5 a6)
  · exact g_tabOut (tgt := 1003) C dL_law_40 (Or.inr (by decide)) (by decide) (Go.widen (show c1 ≤ c1 + 1 by omega) (show s1 ≤ s1 + 6 by omega) (nx I J hI a5 a6))
  · exact g_tabOut (tgt := 1003) C dL_law_40 (Or.inr (by decide)) (by decide) (Go.widen (show c1 ≤ c1 + 1 by omega) (show s1 ≤ s1 + 6 by omega) (nx I J hI a5 a6))
  · exact g_tabOut (tgt := 1003) C dL_law_40 (Or.inr (by decide)) (by decide) (Go.widen (show c1 ≤ c1 + 1 by omega) (show s1 ≤ s1 + 6 by omega) (nx I J hI a5 a6))
  · exact g_tabOut (tgt := 1003) C dL_law_40 (Or.inr (by decide)) (by decide) (Go.widen (show c1 ≤ c1 + 1 by omega) (show s1 ≤ s1 + 6 by omega) (nx I J hI a5 a6))
theorem end_iff {L j : Nat} (hL : L ≤ 3072) (hj : j ≤ 600) : nI L - 6 < nI (6 * j) ↔ L < 6 * j + 6 := by
  rw [Int32.lt_iff_toInt_lt]
  have h1 : (nI L).toInt = L := nI_toInt (by omega)
  have h2 : (nI (6 * j)).toInt = ((6 * j : Nat) : Int) := nI_toInt (by omega)
  have h3 : (6 : Int32).toInt = 6 := rfl
  have h4 : (nI L - 6).toInt = (L : Int) - 6 := by
    rw [Int32.toInt_sub, h1, h3, Int.bmod_def]
    omega
  rw [h4, h2]
  omega
set_option maxHeartbeats 4000000 in
theorem law_loop {X : CX} {G : Gm} {nm : String} {Q : State → Prop} {b L : Nat} {xs : Nat → Int32} (hl : X.l.stackTraces = false) (C : Cx X G (iLaw nm)) (hx : LX b L xs X G) (hL : L ≤ 3072) {c0 s0 : Nat} (hc : c0 + 600 ≤ 601024) (hs : s0 + 3600 ≤ 7293034)
    (hend : ∀ (c s : Nat) (Lo : List Value) (M : Mm), c ≤ 601024 → s ≤ 7293034 → Go X G 7 c s Q 1009 Lo [] M) : ∀ (n j : Nat), j ≤ 513 → L + 6 ≤ 6 * j + 6 * n → ∀ (I : Nat → Nat → Int32) (J : Nat → Nat → Int64), InvE I → ∀ a5 a6 : Value, Go X G 7 (c0 + j) (s0 + 6 * j) Q 23 [.ref b, .ref (G.1 + 0), .ref (G.1 + 103), .ref (G.1 + 124), .int (nI (6 * j)), a5, a6] [] (mm I J)
  | 0, j, hj, hn, I, J, hI, a5, a6 => by
    refine g_iload C dL_law_23 rfl ?_
    refine g_aload_n C dL_law_25 rfl ?_
    refine g_slen hx C dL_law_26 ?_
    refine g_bipush (v := 6) C dL_law_27 (by decide) ?_
    refine g_isub C dL_law_29 ?_
    refine g_icmp_gt 1009 C dL_law_30 (by decide) (fun _ => hend _ _ _ _ (by omega) (by omega)) (fun q => absurd ((end_iff hL (by omega)).mpr (by omega)) q)
  | n + 1, j, hj, hn, I, J, hI, a5, a6 => by
    refine g_iload C dL_law_23 rfl ?_
    refine g_aload_n C dL_law_25 rfl ?_
    refine g_slen hx C dL_law_26 ?_
    refine g_bipush (v := 6) C dL_law_27 (by decide) ?_
    refine g_isub C dL_law_29 ?_
    refine g_icmp_gt 1009 C dL_law_30 (by decide) (fun _ => hend _ _ _ _ (by omega) (by omega)) (fun q => ?_)
    have hj6 : 6 * j + 6 ≤ L := by
      apply Classical.byContradiction; intro hq
      exact q ((end_iff hL (by omega)).mpr (by omega))
    refine lc_all hl C hx hL hj6 hI (by omega) (by omega) (fun I2 J2 hI2 a5 a6 => ?_) a5 a6
    refine g_iinc_4 C dL_law_1003 (v := nI (6 * (j + 1))) (nI_add (6 * j) 6) (show 4 < 7 by decide) ?_
    refine g_goto 23 C dL_law_1006 (by decide) ?_
    exact law_loop hl C hx hL hc hs hend n (j + 1) (by omega) (by omega) I2 J2 hI2 a5 a6
