def adL (I : Nat → Nat → Int32) (c : Nat) (x1 x2 x3 x4 x5 : Int32) : Nat → Nat → Int32 := up1 (up1 (up1 (up1 (up1 (up1 I 68 c x1) 69 c x2) 70 c x3) 71 c x4) 72 c x5) 67 5 (nI (c + 1))
set_option maxHeartbeats 1000000 in
theorem s_sheetAdd {l : Launch} {G : Gm} {I : Nat → Nat → Int32} {J : Nat → Nat → Int64} {c : Nat} (hc : I 67 5 = nI c) (hc12 : c < 12) (x1 x2 x3 x4 x5 : Int32) : Sp l G iX5_add [.ref (G.1 + 67), .int x1, .int x2, .int x3, .int x4, .int x5] (mm I J) (RetI 1 (mm (adL I c x1 x2 x3 x4 x5) J)) noT := by
  refine Sp.of (by decide +kernel) (Nat.le_of_ble_eq_true rfl) ?_
  intro X hXl C
  subst hXl
  show Go X G 6 0 0 _ 0 [.ref (G.1 + 67), .int x1, .int x2, .int x3, .int x4, .int x5] [] (mm I J)
  refine g_aload_n C dX5_add_0 rfl ?_
  refine g_getIv (ci := 5) (k := 5) (v := nI c) C dX5_add_1 rfl inGX5 (by decide) fwX5_27 ly_67 (by decide) rfl hc ?_
  refine g_bipush (v := 12) C dX5_add_4 (by decide) ?_
  refine g_icmp_lt 11 C dX5_add_6 (by decide) (fun c6 => ?_) (fun c6 => ?_)
  · refine g_aload_n C dX5_add_11 rfl ?_
    refine g_getR (ci := 5) (k := 0) (q := 68) C dX5_add_12 rfl inGX5 (by decide) fwX5_9 ly_67 (by decide) rfl rfl ?_
    refine g_aload_n C dX5_add_15 rfl ?_
    refine g_getIv (ci := 5) (k := 5) (v := nI c) C dX5_add_16 rfl inGX5 (by decide) fwX5_27 ly_67 (by decide) rfl (by simp [up1, hc]) ?_
    refine g_iload_n C dX5_add_19 rfl ?_
    refine g_iast _ C dX5_add_20 ly_68 (by decide) (by decide) rfl (by omega) ?_
    refine g_aload_n C dX5_add_21 rfl ?_
    refine g_getR (ci := 5) (k := 1) (q := 69) C dX5_add_22 rfl inGX5 (by decide) fwX5_15 ly_67 (by decide) rfl rfl ?_
    refine g_aload_n C dX5_add_25 rfl ?_
    refine g_getIv (ci := 5) (k := 5) (v := nI c) C dX5_add_26 rfl inGX5 (by decide) fwX5_27 ly_67 (by decide) rfl (by simp [up1, hc]) ?_
    refine g_iload_n C dX5_add_29 rfl ?_
    refine g_iast _ C dX5_add_30 ly_69 (by decide) (by decide) rfl (by omega) ?_
    refine g_aload_n C dX5_add_31 rfl ?_
    refine g_getR (ci := 5) (k := 2) (q := 70) C dX5_add_32 rfl inGX5 (by decide) fwX5_18 ly_67 (by decide) rfl rfl ?_
    refine g_aload_n C dX5_add_35 rfl ?_
    refine g_getIv (ci := 5) (k := 5) (v := nI c) C dX5_add_36 rfl inGX5 (by decide) fwX5_27 ly_67 (by decide) rfl (by simp [up1, hc]) ?_
    refine g_iload_n C dX5_add_39 rfl ?_
    refine g_iast _ C dX5_add_40 ly_70 (by decide) (by decide) rfl (by omega) ?_
    refine g_aload_n C dX5_add_41 rfl ?_
    refine g_getR (ci := 5) (k := 3) (q := 71) C dX5_add_42 rfl inGX5 (by decide) fwX5_21 ly_67 (by decide) rfl rfl ?_
    refine g_aload_n C dX5_add_45 rfl ?_
    refine g_getIv (ci := 5) (k := 5) (v := nI c) C dX5_add_46 rfl inGX5 (by decide) fwX5_27 ly_67 (by decide) rfl (by simp [up1, hc]) ?_
    refine g_iload C dX5_add_49 rfl ?_
    refine g_iast _ C dX5_add_51 ly_71 (by decide) (by decide) rfl (by omega) ?_
    refine g_aload_n C dX5_add_52 rfl ?_
    refine g_getR (ci := 5) (k := 4) (q := 72) C dX5_add_53 rfl inGX5 (by decide) fwX5_24 ly_67 (by decide) rfl rfl ?_
    refine g_aload_n C dX5_add_56 rfl ?_
    refine g_getIv (ci := 5) (k := 5) (v := nI c) C dX5_add_57 rfl inGX5 (by decide) fwX5_27 ly_67 (by decide) rfl (by simp [up1, hc]) ?_
    refine g_iload C dX5_add_60 rfl ?_
    refine g_iast _ C dX5_add_62 ly_72 (by decide) (by decide) rfl (by omega) ?_
    refine g_aload_n C dX5_add_63 rfl ?_
    refine g_dup C dX5_add_64 rfl ?_
    refine g_getIv (ci := 5) (k := 5) (v := nI c) C dX5_add_65 rfl inGX5 (by decide) fwX5_27 ly_67 (by decide) rfl (by simp [up1, hc]) ?_
    refine g_iconst (v := 1) C dX5_add_68 (by decide) ?_
    refine g_iadd C dX5_add_69 ?_
    rw [nI_1]
    refine g_putI (ci := 5) (k := 5) .int C dX5_add_70 rfl inGX5 tyX5_ok nmX5 (by decide) fwX5_27 ly_67 (by decide) rfl rfl rfl rfl rfl ?_
    refine g_iconst (v := 1) C dX5_add_73 (by decide) ?_
    exact e_Z C dX5_add_74 rfl rfl rfl (by first | exact Or.inl rfl | exact Or.inr rfl) rfl rfl
  · exact absurd (nI_lt (b := 12) hc12 (by decide)) c6
def hlp (r1 r2 : Nat → Int32) (k : Nat) (a : Int32) : Int32 := if r1 k = 2 then a ||| ((1 : Int32) <<< (r2 k &&& 31)) else a
set_option maxHeartbeats 1000000 in
theorem s_helpers {l : Launch} {G : Gm} {I : Nat → Nat → Int32} {J : Nat → Nat → Int64} {p m : Nat} (hp : p < 10) (hm : I (6 + 6 * p) 5 = nI m) (hm12 : m ≤ 12) : Sp l G iX5_helpers [.ref (G.1 + (6 + 6 * p))] (mm I J) (RetI (it (hlp (I (6 + 6 * p + 1 + 0)) (I (6 + 6 * p + 1 + 1))) m 0) (mm I J)) noT := by
  refine Sp.of (by decide +kernel) (Nat.le_of_ble_eq_true rfl) ?_
  intro X hXl C
  subst hXl
  show Go X G 3 0 0 _ 0 [.ref (G.1 + (6 + 6 * p)), uu, uu] [] (mm I J)
  have loop : ∀ k : Nat, k ≤ m → Go X G 3 0 0 (KQ X G iX5_helpers (RetI (it (hlp (I (6 + 6 * p + 1 + 0)) (I (6 + 6 * p + 1 + 1))) m 0) (mm I J)) noT) 4 [.ref (G.1 + (6 + 6 * p)), .int (it (hlp (I (6 + 6 * p + 1 + 0)) (I (6 + 6 * p + 1 + 1))) k 0), .int (nI k)] [] (mm I J) := by
    refine loopN m ?_ ?_
    · skip
      show Go X G 3 0 0 _ 4 _ [] _
      refine g_iload_n C dX5_helpers_4 rfl ?_
      refine g_aload_n C dX5_helpers_5 rfl ?_
      refine g_getIv (ci := 5) (k := 5) (v := nI m) C dX5_helpers_6 rfl inGX5 (by decide) fwX5_27 (ly_sh hp) (by omega) rfl hm ?_
      refine g_icmp_ge 39 C dX5_helpers_9 (by decide) (fun c9 => ?_) (fun c9 => ?_)
      · refine g_iload_n C dX5_helpers_39 rfl ?_
        exact e_I C dX5_helpers_40 rfl rfl rfl rfl rfl
      · exact absurd (Int32.le_refl _) c9
    · intro k hk ih 
      show Go X G 3 0 0 _ 4 _ [] _
      refine g_iload_n C dX5_helpers_4 rfl ?_
      refine g_aload_n C dX5_helpers_5 rfl ?_
      refine g_getIv (ci := 5) (k := 5) (v := nI m) C dX5_helpers_6 rfl inGX5 (by decide) fwX5_27 (ly_sh hp) (by omega) rfl hm ?_
      refine g_icmp_ge 39 C dX5_helpers_9 (by decide) (fun c9 => ?_) (fun c9 => ?_)
      · exact (nI_ge_dead (n := m) c9 hk (by omega)).elim
      · refine g_aload_n C dX5_helpers_12 rfl ?_
        refine g_getR (ci := 5) (k := 0) (q := 6 + 6 * p + 1 + 0) C dX5_helpers_13 rfl inGX5 (by decide) fwX5_9 (ly_sh hp) (by omega) rfl (rf_sh hp (by decide)) ?_
        refine g_iload_n C dX5_helpers_16 rfl ?_
        refine g_iald _ C dX5_helpers_17 (ly_sa hp (by decide)) (by omega) (by decide) rfl (by omega) ?_
        refine g_iconst (v := 2) C dX5_helpers_18 (by decide) ?_
        refine g_icmp_ne 33 C dX5_helpers_19 (by decide) (fun c19 => ?_) (fun c19 => ?_)
        · refine g_iinc_2 C dX5_helpers_33 (nI_1 k) (by decide) ?_
          refine g_goto 4 C dX5_helpers_36 (by decide) ?_
          first
            | (simp only [it, hlp, if_pos c19] at ih; exact ih)
            | (simp only [it, hlp, if_neg c19] at ih; exact ih)
        · refine g_iload_n C dX5_helpers_22 rfl ?_
          refine g_iconst (v := 1) C dX5_helpers_23 (by decide) ?_
          refine g_aload_n C dX5_helpers_24 rfl ?_
          refine g_getR (ci := 5) (k := 1) (q := 6 + 6 * p + 1 + 1) C dX5_helpers_25 rfl inGX5 (by decide) fwX5_15 (ly_sh hp) (by omega) rfl (rf_sh hp (by decide)) ?_
          refine g_iload_n C dX5_helpers_28 rfl ?_
          refine g_iald _ C dX5_helpers_29 (ly_sa hp (by decide)) (by omega) (by decide) rfl (by omega) ?_
          refine g_ishl C dX5_helpers_30 ?_
          refine g_ior C dX5_helpers_31 ?_
          refine g_istore_1 C dX5_helpers_32 (by decide) ?_
          refine g_iinc_2 C dX5_helpers_33 (nI_1 k) (by decide) ?_
          refine g_goto 4 C dX5_helpers_36 (by decide) ?_
          first
            | (simp only [it, hlp, if_pos c19] at ih; exact ih)
            | (simp only [it, hlp, if_neg c19] at ih; exact ih)
  refine g_iconst (v := 0) C dX5_helpers_0 (by decide) ?_
  refine g_istore_1 C dX5_helpers_1 (by decide) ?_
  refine g_iconst (v := 0) C dX5_helpers_2 (by decide) ?_
  refine g_istore_2 C dX5_helpers_3 (by decide) ?_
  exact loop 0 (Nat.zero_le _)
def tkS (I : Nat → Nat → Int32) (p : Nat) : Nat → Nat → Int32 := up1 (cpRow (cpRow (cpRow (cpRow (cpRow I 68 (6 + 6 * p + 1 + 0) 12) 69 (6 + 6 * p + 1 + 1) 12) 70 (6 + 6 * p + 1 + 2) 12) 71 (6 + 6 * p + 1 + 3) 12) 72 (6 + 6 * p + 1 + 4) 12) (6 + 6 * p) 5 (I 67 5)
set_option maxHeartbeats 1000000 in
theorem s_take {l : Launch} {G : Gm} {I : Nat → Nat → Int32} {J : Nat → Nat → Int64} {p : Nat} (hp : p < 10) : Sp l G iX5_take [.ref (G.1 + (6 + 6 * p)), .ref (G.1 + 67)] (mm I J) (RetV (mm (tkS I p) J)) noT := by
  refine Sp.of (by decide +kernel) (Nat.le_of_ble_eq_true rfl) ?_
  intro X hXl C
  subst hXl
  show Go X G 2 0 0 _ 0 [.ref (G.1 + (6 + 6 * p)), .ref (G.1 + 67)] [] (mm I J)
  refine g_aload_n C dX5_take_0 rfl ?_
  refine g_getR (ci := 5) (k := 0) (q := 68) C dX5_take_1 rfl inGX5 (by decide) fwX5_9 ly_67 (by decide) rfl rfl ?_
  refine g_iconst (v := 0) C dX5_take_4 (by decide) ?_
  refine g_aload_n C dX5_take_5 rfl ?_
  refine g_getR (ci := 5) (k := 0) (q := 6 + 6 * p + 1 + 0) C dX5_take_6 rfl inGX5 (by decide) fwX5_9 (ly_sh hp) (by omega) rfl (rf_sh hp (by decide)) ?_
  refine g_iconst (v := 0) C dX5_take_9 (by decide) ?_
  refine g_bipush (v := 12) C dX5_take_10 (by decide) ?_
  refine g_copy (m := 12) C dX5_take_12 mwX5_31 acN acS acI ly_68 (ly_sa hp (by decide)) (by decide) (by omega) rfl rfl rfl (by decide) (by decide) (by decide) ⟨by decide, Nat.le_of_ble_eq_true rfl⟩ rfl ?_
  refine g_aload_n C dX5_take_15 rfl ?_
  refine g_getR (ci := 5) (k := 1) (q := 69) C dX5_take_16 rfl inGX5 (by decide) fwX5_15 ly_67 (by decide) rfl rfl ?_
  refine g_iconst (v := 0) C dX5_take_19 (by decide) ?_
  refine g_aload_n C dX5_take_20 rfl ?_
  refine g_getR (ci := 5) (k := 1) (q := 6 + 6 * p + 1 + 1) C dX5_take_21 rfl inGX5 (by decide) fwX5_15 (ly_sh hp) (by omega) rfl (rf_sh hp (by decide)) ?_
  refine g_iconst (v := 0) C dX5_take_24 (by decide) ?_
  refine g_bipush (v := 12) C dX5_take_25 (by decide) ?_
  refine g_copy (m := 12) C dX5_take_27 mwX5_31 acN acS acI ly_69 (ly_sa hp (by decide)) (by decide) (by omega) rfl rfl rfl (by decide) (by decide) (by decide) ⟨by decide, Nat.le_of_ble_eq_true rfl⟩ rfl ?_
  refine g_aload_n C dX5_take_30 rfl ?_
  refine g_getR (ci := 5) (k := 2) (q := 70) C dX5_take_31 rfl inGX5 (by decide) fwX5_18 ly_67 (by decide) rfl rfl ?_
  refine g_iconst (v := 0) C dX5_take_34 (by decide) ?_
  refine g_aload_n C dX5_take_35 rfl ?_
  refine g_getR (ci := 5) (k := 2) (q := 6 + 6 * p + 1 + 2) C dX5_take_36 rfl inGX5 (by decide) fwX5_18 (ly_sh hp) (by omega) rfl (rf_sh hp (by decide)) ?_
  refine g_iconst (v := 0) C dX5_take_39 (by decide) ?_
  refine g_bipush (v := 12) C dX5_take_40 (by decide) ?_
  refine g_copy (m := 12) C dX5_take_42 mwX5_31 acN acS acI ly_70 (ly_sa hp (by decide)) (by decide) (by omega) rfl rfl rfl (by decide) (by decide) (by decide) ⟨by decide, Nat.le_of_ble_eq_true rfl⟩ rfl ?_
  refine g_aload_n C dX5_take_45 rfl ?_
  refine g_getR (ci := 5) (k := 3) (q := 71) C dX5_take_46 rfl inGX5 (by decide) fwX5_21 ly_67 (by decide) rfl rfl ?_
  refine g_iconst (v := 0) C dX5_take_49 (by decide) ?_
  refine g_aload_n C dX5_take_50 rfl ?_
  refine g_getR (ci := 5) (k := 3) (q := 6 + 6 * p + 1 + 3) C dX5_take_51 rfl inGX5 (by decide) fwX5_21 (ly_sh hp) (by omega) rfl (rf_sh hp (by decide)) ?_
  refine g_iconst (v := 0) C dX5_take_54 (by decide) ?_
  refine g_bipush (v := 12) C dX5_take_55 (by decide) ?_
  refine g_copy (m := 12) C dX5_take_57 mwX5_31 acN acS acI ly_71 (ly_sa hp (by decide)) (by decide) (by omega) rfl rfl rfl (by decide) (by decide) (by decide) ⟨by decide, Nat.le_of_ble_eq_true rfl⟩ rfl ?_
  refine g_aload_n C dX5_take_60 rfl ?_
  refine g_getR (ci := 5) (k := 4) (q := 72) C dX5_take_61 rfl inGX5 (by decide) fwX5_24 ly_67 (by decide) rfl rfl ?_
  refine g_iconst (v := 0) C dX5_take_64 (by decide) ?_
  refine g_aload_n C dX5_take_65 rfl ?_
  refine g_getR (ci := 5) (k := 4) (q := 6 + 6 * p + 1 + 4) C dX5_take_66 rfl inGX5 (by decide) fwX5_24 (ly_sh hp) (by omega) rfl (rf_sh hp (by decide)) ?_
  refine g_iconst (v := 0) C dX5_take_69 (by decide) ?_
  refine g_bipush (v := 12) C dX5_take_70 (by decide) ?_
  refine g_copy (m := 12) C dX5_take_72 mwX5_31 acN acS acI ly_72 (ly_sa hp (by decide)) (by decide) (by omega) rfl rfl rfl (by decide) (by decide) (by decide) ⟨by decide, Nat.le_of_ble_eq_true rfl⟩ rfl ?_
  refine g_aload_n C dX5_take_75 rfl ?_
  refine g_aload_n C dX5_take_76 rfl ?_
  refine g_getIv (ci := 5) (k := 5) (v := I 67 5) C dX5_take_77 rfl inGX5 (by decide) fwX5_27 ly_67 (by decide) rfl (by simp only [cpRow]; repeat rw [if_neg (by omega)]) ?_
  refine g_putI (ci := 5) (k := 5) .int C dX5_take_80 rfl inGX5 tyX5_ok nmX5 (by decide) fwX5_27 (ly_sh hp) (by omega) rfl rfl rfl rfl rfl ?_
  exact e_V C dX5_take_83 rfl rfl rfl rfl
def tel (I : Nat → Nat → Int32) (s : Int32) (d : Nat) (is : Int32) : Nat → Nat → Int32 := up1 I 93 d (if is = 0 then I 93 d &&& (((1 : Int32) <<< (s &&& 31)) ^^^ (-1)) else I 93 d ||| ((1 : Int32) <<< (s &&& 31)))
set_option maxHeartbeats 1000000 in
theorem s_tell {l : Launch} {G : Gm} {I : Nat → Nat → Int32} {J : Nat → Nat → Int64} {d : Nat} (hd : d < 16) (s is : Int32) : Sp l G iX0_tell [.ref (G.1 + 92), .int s, .int (nI d), .int is] (mm I J) (RetV (mm (tel I s d is) J)) noT := by
  refine Sp.of (by decide +kernel) (Nat.le_of_ble_eq_true rfl) ?_
  intro X hXl C
  subst hXl
  show Go X G 5 0 0 _ 0 [.ref (G.1 + 92), .int s, .int (nI d), .int is, uu] [] (mm I J)
  refine g_iconst (v := 1) C dX0_tell_0 (by decide) ?_
  refine g_iload_n C dX0_tell_1 rfl ?_
  refine g_ishl C dX0_tell_2 ?_
  refine g_istore_4 C dX0_tell_3 (by decide) ?_
  refine g_aload_n C dX0_tell_5 rfl ?_
  refine g_getR (ci := 0) (k := 2) (q := 93) C dX0_tell_6 rfl inGX0 (by decide) fwX0_9 ly_92 (by decide) rfl rfl ?_
  refine g_iload_n C dX0_tell_9 rfl ?_
  refine g_iload_n C dX0_tell_10 rfl ?_
  refine g_if_eq 26 C dX0_tell_11 (by decide) (fun c11 => ?_) (fun c11 => ?_)
  · refine g_aload_n C dX0_tell_26 rfl ?_
    refine g_getR (ci := 0) (k := 2) (q := 93) C dX0_tell_27 rfl inGX0 (by decide) fwX0_9 ly_92 (by decide) rfl rfl ?_
    refine g_iload_n C dX0_tell_30 rfl ?_
    refine g_iald _ C dX0_tell_31 ly_93 (by decide) (by decide) rfl (by omega) ?_
    refine g_iload C dX0_tell_32 rfl ?_
    refine g_iconst (v := (-1)) C dX0_tell_34 (by decide) ?_
    refine g_ixor C dX0_tell_35 ?_
    refine g_iand C dX0_tell_36 ?_
    refine g_iast _ C dX0_tell_37 ly_93 (by decide) (by decide) rfl (by omega) ?_
    exact e_V C dX0_tell_38 rfl rfl rfl (by simp only [tel]; first | rw [if_pos c11] | rw [if_neg c11])
  · refine g_aload_n C dX0_tell_14 rfl ?_
    refine g_getR (ci := 0) (k := 2) (q := 93) C dX0_tell_15 rfl inGX0 (by decide) fwX0_9 ly_92 (by decide) rfl rfl ?_
    refine g_iload_n C dX0_tell_18 rfl ?_
    refine g_iald _ C dX0_tell_19 ly_93 (by decide) (by decide) rfl (by omega) ?_
    refine g_iload C dX0_tell_20 rfl ?_
    refine g_ior C dX0_tell_22 ?_
    refine g_goto 37 C dX0_tell_23 (by decide) ?_
    refine g_iast _ C dX0_tell_37 ly_93 (by decide) (by decide) rfl (by omega) ?_
    exact e_V C dX0_tell_38 rfl rfl rfl (by simp only [tel]; first | rw [if_pos c11] | rw [if_neg c11])
theorem ap4_sz (I : Nat → Nat → Int32) (s : Nat) (x : Int32) : ap4 I s x 1 1 = nI (s + 4) := ap1_sz _ _ _
def ap20 (I : Nat → Nat → Int32) (s : Nat) (a b c d e : Int32) : Nat → Nat → Int32 := ap4 (ap4 (ap4 (ap4 (ap4 I s a) (s + 4) b) (s + 8) c) (s + 12) d) (s + 16) e
theorem feed_cmp {s : Nat} (hs : s ≤ 300) : (nI s + 20 ≤ (300 : Int32)) ↔ s + 20 ≤ 300 := by
  rw [show nI s + (20 : Int32) = nI (s + 20) from nI_add s 20]
  exact nI_leI (b := 300) (by omega) (by decide)
set_option maxHeartbeats 1000000 in
theorem s_feed {l : Launch} {G : Gm} {I : Nat → Nat → Int32} {J : Nat → Nat → Int64} {s : Nat} (hs : I 1 1 = nI s) (h : s ≤ 280) (a b c d e : Int32) : Sp l G iX8_feed [.ref (G.1 + 0), .int a, .int b, .int c, .int d, .int e] (mm I J) (RetI (nI (s + 20)) (mm (ap20 I s a b c d e) J)) noT := by
  refine Sp.of (by decide +kernel) (Nat.le_of_ble_eq_true rfl) ?_
  intro X hXl C
  subst hXl
  show Go X G 6 0 0 _ 0 [.ref (G.1 + 0), .int a, .int b, .int c, .int d, .int e] [] (mm I J)
  refine g_aload_n C dX8_feed_0 rfl ?_
  refine g_getR (ci := 8) (k := 0) (q := 1) C dX8_feed_1 rfl inGX8 (by decide) fwX8_12 ly_0 (by decide) rfl rfl ?_
  refine g_getIv (ci := 6) (k := 1) (v := nI s) C dX8_feed_4 rfl inGX6 (by decide) fwX8_105 ly_1 (by decide) rfl hs ?_
  refine g_bipush (v := 20) C dX8_feed_7 (by decide) ?_
  refine g_iadd C dX8_feed_9 ?_
  refine g_sipush (v := 300) C dX8_feed_10 (by decide) ?_
  refine g_icmp_le 18 C dX8_feed_13 (by decide) (fun c13 => ?_) (fun c13 => ?_)
  · refine g_aload_n C dX8_feed_18 rfl ?_
    refine g_getR (ci := 8) (k := 0) (q := 1) C dX8_feed_19 rfl inGX8 (by decide) fwX8_12 ly_0 (by decide) rfl rfl ?_
    refine g_iload_n C dX8_feed_22 rfl ?_
    refine gv1V (ci := 6) C dX8_feed_23 vwX6_append mwX8_106 ⟨by decide, by decide⟩ rfl ly_1 (Nat.le_of_ble_eq_true rfl) (s_append (s := s + 0) hs (by omega) _) (Nat.le_of_ble_eq_true rfl) rfl ⟨by decide, by decide⟩ ?_
    refine g_aload_n C dX8_feed_26 rfl ?_
    refine g_getR (ci := 8) (k := 0) (q := 1) C dX8_feed_27 rfl inGX8 (by decide) fwX8_12 ly_0 (by decide) rfl rfl ?_
    refine g_iload_n C dX8_feed_30 rfl ?_
    refine gv1V (ci := 6) C dX8_feed_31 vwX6_append mwX8_106 ⟨by decide, by decide⟩ rfl ly_1 (Nat.le_of_ble_eq_true rfl) (s_append (s := s + 4) (ap4_sz _ _ _) (by omega) _) (Nat.le_of_ble_eq_true rfl) rfl ⟨by decide, by decide⟩ ?_
    refine g_aload_n C dX8_feed_34 rfl ?_
    refine g_getR (ci := 8) (k := 0) (q := 1) C dX8_feed_35 rfl inGX8 (by decide) fwX8_12 ly_0 (by decide) rfl rfl ?_
    refine g_iload_n C dX8_feed_38 rfl ?_
    refine gv1V (ci := 6) C dX8_feed_39 vwX6_append mwX8_106 ⟨by decide, by decide⟩ rfl ly_1 (Nat.le_of_ble_eq_true rfl) (s_append (s := s + 8) (ap4_sz _ _ _) (by omega) _) (Nat.le_of_ble_eq_true rfl) rfl ⟨by decide, by decide⟩ ?_
    refine g_aload_n C dX8_feed_42 rfl ?_
    refine g_getR (ci := 8) (k := 0) (q := 1) C dX8_feed_43 rfl inGX8 (by decide) fwX8_12 ly_0 (by decide) rfl rfl ?_
    refine g_iload C dX8_feed_46 rfl ?_
    refine gv1V (ci := 6) C dX8_feed_48 vwX6_append mwX8_106 ⟨by decide, by decide⟩ rfl ly_1 (Nat.le_of_ble_eq_true rfl) (s_append (s := s + 12) (ap4_sz _ _ _) (by omega) _) (Nat.le_of_ble_eq_true rfl) rfl ⟨by decide, by decide⟩ ?_
    refine g_aload_n C dX8_feed_51 rfl ?_
    refine g_getR (ci := 8) (k := 0) (q := 1) C dX8_feed_52 rfl inGX8 (by decide) fwX8_12 ly_0 (by decide) rfl rfl ?_
    refine g_iload C dX8_feed_55 rfl ?_
    refine gv1V (ci := 6) C dX8_feed_57 vwX6_append mwX8_106 ⟨by decide, by decide⟩ rfl ly_1 (Nat.le_of_ble_eq_true rfl) (s_append (s := s + 16) (ap4_sz _ _ _) (by omega) _) (Nat.le_of_ble_eq_true rfl) rfl ⟨by decide, by decide⟩ ?_
    refine g_aload_n C dX8_feed_60 rfl ?_
    refine g_getR (ci := 8) (k := 0) (q := 1) C dX8_feed_61 rfl inGX8 (by decide) fwX8_12 ly_0 (by decide) rfl rfl ?_
    refine g_getIv (ci := 6) (k := 1) (v := nI (s + 20)) C dX8_feed_64 rfl inGX6 (by decide) fwX8_105 ly_1 (by decide) rfl (ap4_sz _ _ _) ?_
    exact e_I C dX8_feed_67 rfl rfl rfl rfl rfl
  · exact absurd ((feed_cmp (by omega)).mpr (by omega)) c13
set_option maxHeartbeats 1000000 in
theorem s_feedFull {l : Launch} {G : Gm} {I : Nat → Nat → Int32} {J : Nat → Nat → Int64} {s : Nat} (hs : I 1 1 = nI s) (h : 280 < s) (h2 : s ≤ 300) (a b c d e : Int32) : Sp l G iX8_feed [.ref (G.1 + 0), .int a, .int b, .int c, .int d, .int e] (mm I J) (RetI (-1) (mm I J)) noT := by
  refine Sp.of (by decide +kernel) (Nat.le_of_ble_eq_true rfl) ?_
  intro X hXl C
  subst hXl
  show Go X G 6 0 0 _ 0 [.ref (G.1 + 0), .int a, .int b, .int c, .int d, .int e] [] (mm I J)
  refine g_aload_n C dX8_feed_0 rfl ?_
  refine g_getR (ci := 8) (k := 0) (q := 1) C dX8_feed_1 rfl inGX8 (by decide) fwX8_12 ly_0 (by decide) rfl rfl ?_
  refine g_getIv (ci := 6) (k := 1) (v := nI s) C dX8_feed_4 rfl inGX6 (by decide) fwX8_105 ly_1 (by decide) rfl hs ?_
  refine g_bipush (v := 20) C dX8_feed_7 (by decide) ?_
  refine g_iadd C dX8_feed_9 ?_
  refine g_sipush (v := 300) C dX8_feed_10 (by decide) ?_
  refine g_icmp_le 18 C dX8_feed_13 (by decide) (fun c13 => ?_) (fun c13 => ?_)
  · exact absurd ((feed_cmp h2).mp c13) (by omega)
  · refine g_iconst (v := (-1)) C dX8_feed_16 (by decide) ?_
    exact e_I C dX8_feed_17 rfl rfl rfl rfl rfl
set_option maxHeartbeats 1000000 in
theorem s_fault {l : Launch} {G : Gm} {I : Nat → Nat → Int32} {J : Nat → Nat → Int64} : Sp l G iX8_fault [.ref (G.1 + 0)] (mm I J) (RetI (I 66 2) (mm I J)) noT := by
  refine Sp.of (by decide +kernel) (Nat.le_of_ble_eq_true rfl) ?_
  intro X hXl C
  subst hXl
  show Go X G 1 0 0 _ 0 [.ref (G.1 + 0)] [] (mm I J)
  refine g_aload_n C dX8_fault_0 rfl ?_
  refine g_getR (ci := 8) (k := 2) (q := 66) C dX8_fault_1 rfl inGX8 (by decide) fwX8_28 ly_0 (by decide) rfl rfl ?_
  refine g_getI (ci := 3) (k := 2) C dX8_fault_4 rfl inGX3 (by decide) fwX8_129 ly_66 (by decide) rfl ?_
  exact e_I C dX8_fault_7 rfl rfl rfl rfl rfl
set_option maxHeartbeats 1000000 in
theorem s_trouble {l : Launch} {G : Gm} {I : Nat → Nat → Int32} {J : Nat → Nat → Int64} : Sp l G iX8_trouble [.ref (G.1 + 0)] (mm I J) (RetI (I 0 7) (mm I J)) noT := by
  refine Sp.of (by decide +kernel) (Nat.le_of_ble_eq_true rfl) ?_
  intro X hXl C
  subst hXl
  show Go X G 1 0 0 _ 0 [.ref (G.1 + 0)] [] (mm I J)
  refine g_aload_n C dX8_trouble_0 rfl ?_
  refine g_getI (ci := 8) (k := 7) C dX8_trouble_1 rfl inGX8 (by decide) fwX8_66 ly_0 (by decide) rfl ?_
  exact e_I C dX8_trouble_4 rfl rfl rfl rfl rfl
set_option maxHeartbeats 1000000 in
theorem s_where {l : Launch} {G : Gm} {I : Nat → Nat → Int32} {J : Nat → Nat → Int64} : Sp l G iX8_where [.ref (G.1 + 0)] (mm I J) (RetI (if I 0 7 = 4 then I 66 3 else -1) (mm I J)) noT := by
  refine Sp.of (by decide +kernel) (Nat.le_of_ble_eq_true rfl) ?_
  intro X hXl C
  subst hXl
  show Go X G 1 0 0 _ 0 [.ref (G.1 + 0)] [] (mm I J)
  refine g_aload_n C dX8_where_0 rfl ?_
  refine g_getI (ci := 8) (k := 7) C dX8_where_1 rfl inGX8 (by decide) fwX8_66 ly_0 (by decide) rfl ?_
  refine g_iconst (v := 4) C dX8_where_4 (by decide) ?_
  refine g_icmp_ne 18 C dX8_where_5 (by decide) (fun c5 => ?_) (fun c5 => ?_)
  · refine g_iconst (v := (-1)) C dX8_where_18 (by decide) ?_
    exact e_I C dX8_where_19 rfl rfl rfl (by simp_all) rfl
  · refine g_aload_n C dX8_where_8 rfl ?_
    refine g_getR (ci := 8) (k := 2) (q := 66) C dX8_where_9 rfl inGX8 (by decide) fwX8_28 ly_0 (by decide) rfl rfl ?_
    refine g_getI (ci := 3) (k := 3) C dX8_where_12 rfl inGX3 (by decide) fwX8_132 ly_66 (by decide) rfl ?_
    refine g_goto 19 C dX8_where_15 (by decide) ?_
    exact e_I C dX8_where_19 rfl rfl rfl (by simp_all) rfl
def xPart (I : Nat → Nat → Int32) (n : Nat) (x : Int32) : Int32 × (Nat → Nat → Int32) :=
  if ¬ (¬ x < 0 ∧ x ≤ 65535) then (-1, up1 I 0 7 2) else if 10 ≤ n then (-1, up1 I 0 7 3) else (nI n, up1 (up1 (up1 (up1 I 0 8 1) 4 n x) 3 2 (nI (n + 1))) 0 7 0)
theorem if01 {c : Prop} [Decidable c] : ((if c then (1 : Int32) else 0) = 0) ↔ ¬ c := by split <;> simp_all
set_option maxHeartbeats 1000000 in
theorem s_part {l : Launch} {G : Gm} {I : Nat → Nat → Int32} {J : Nat → Nat → Int64} {n : Nat} (hn : I 3 2 = nI n) (hn10 : n ≤ 10) (x : Int32) : Sp l G iX8_part [.ref (G.1 + 0), .int x] (mm I J) (RetI (xPart I n x).1 (mm (xPart I n x).2 J)) noT := by
  refine Sp.of (by decide +kernel) (Nat.le_of_ble_eq_true rfl) ?_
  intro X hXl C
  subst hXl
  show Go X G 2 0 0 _ 0 [.ref (G.1 + 0), .int x] [] (mm I J)
  refine g_iload_n C dX8_part_0 rfl ?_
  refine gs1I C dX8_part_1 swX8_isGrants mwX8_74 ⟨by decide, by decide⟩ (s_isGrants _) (Nat.le_of_ble_eq_true rfl) rfl ⟨by decide, by decide⟩ ?_
  refine g_if_ne 13 C dX8_part_4 (by decide) (fun c4 => ?_) (fun c4 => ?_)
  · have g4 := fun q => c4 (if01.mpr q)
    refine g_aload_n C dX8_part_13 rfl ?_
    refine g_getR (ci := 8) (k := 1) (q := 3) C dX8_part_14 rfl inGX8 (by decide) fwX8_19 ly_0 (by decide) rfl rfl ?_
    refine g_getIv (ci := 2) (k := 2) (v := nI n) C dX8_part_17 rfl inGX2 (by decide) fwX8_82 ly_3 (by decide) rfl hn ?_
    refine g_bipush (v := 10) C dX8_part_20 (by decide) ?_
    refine g_icmp_lt 31 C dX8_part_22 (by decide) (fun c22 => ?_) (fun c22 => ?_)
    · have g22 : ¬ 10 ≤ n := by have := nI_t (b := 10) c22 (by omega) (by decide); omega
      refine g_aload_n C dX8_part_31 rfl ?_
      refine g_iconst (v := 1) C dX8_part_32 (by decide) ?_
      refine g_putI (ci := 8) (k := 8) .boolean C dX8_part_33 rfl inGX8 tyX8_ok nmX8 (by decide) fwX8_70 ly_0 (by decide) rfl rfl rfl (by decide) rfl ?_
      refine g_aload_n C dX8_part_36 rfl ?_
      refine g_aload_n C dX8_part_37 rfl ?_
      refine g_getR (ci := 8) (k := 1) (q := 3) C dX8_part_38 rfl inGX8 (by decide) fwX8_19 ly_0 (by decide) rfl rfl ?_
      refine g_iload_n C dX8_part_41 rfl ?_
      refine gv1I (ci := 2) C dX8_part_42 vwX2_add mwX8_85 ⟨by decide, by decide⟩ rfl ly_3 (Nat.le_of_ble_eq_true rfl) (s_planAdd (n := n) (by simp [up1, hn]) (by omega) _) (Nat.le_of_ble_eq_true rfl) rfl ⟨by decide, by decide⟩ ?_
      refine gv1I (ci := 8) C dX8_part_45 vwX8_accept mwX8_88 ⟨by decide, by decide⟩ rfl ly_0 (Nat.le_of_ble_eq_true rfl) (s_accept _) (Nat.le_of_ble_eq_true rfl) rfl ⟨by decide, by decide⟩ ?_
      exact e_I C dX8_part_48 rfl rfl rfl (by simp only [xPart, if_neg g4, if_neg g22]) (by simp only [xPart, if_neg g4, if_neg g22])
    · have g22 : 10 ≤ n := nI_nt (b := 10) c22 (by omega) (by decide)
      refine g_aload_n C dX8_part_25 rfl ?_
      refine g_iconst (v := 3) C dX8_part_26 (by decide) ?_
      refine gv1I (ci := 8) C dX8_part_27 vwX8_refuse mwX8_78 ⟨by decide, by decide⟩ rfl ly_0 (Nat.le_of_ble_eq_true rfl) (s_refuse _) (Nat.le_of_ble_eq_true rfl) rfl ⟨by decide, by decide⟩ ?_
      exact e_I C dX8_part_30 rfl rfl rfl (by simp only [xPart, if_neg g4, if_pos g22]) (by simp only [xPart, if_neg g4, if_pos g22])
  · have g4 := if01.mp c4
    refine g_aload_n C dX8_part_7 rfl ?_
    refine g_iconst (v := 2) C dX8_part_8 (by decide) ?_
    refine gv1I (ci := 8) C dX8_part_9 vwX8_refuse mwX8_78 ⟨by decide, by decide⟩ rfl ly_0 (Nat.le_of_ble_eq_true rfl) (s_refuse _) (Nat.le_of_ble_eq_true rfl) rfl ⟨by decide, by decide⟩ ?_
    exact e_I C dX8_part_12 rfl rfl rfl (by simp only [xPart, if_pos g4]) (by simp only [xPart, if_pos g4])
def vPart (I : Nat → Nat → Int32) (x : Int32) : Prop := ¬ x < 0 ∧ x < I 3 2
theorem vPart_nI {I : Nat → Nat → Int32} {n : Nat} (hn : I 3 2 = nI n) (hn10 : n ≤ 10) {x : Int32} (h : ¬ x < 0 ∧ x < I 3 2) : ∃ p, p < n ∧ x = nI p := by
  obtain ⟨j, hj, rfl⟩ := nI_of h.1
  rw [hn] at h
  exact ⟨j, nI_t h.2 hj (by omega), rfl⟩
set_option maxHeartbeats 1000000 in
theorem s_grant1 {l : Launch} {G : Gm} {I : Nat → Nat → Int32} {J : Nat → Nat → Int64} (x g : Int32) (h : ¬ (¬ x < 0 ∧ x < I 3 2)) : Sp l G iX8_grant [.ref (G.1 + 0), .int x, .int g] (mm I J) (RetI 0 (mm (up1 I 0 7 1) J)) noT := by
  refine Sp.of (by decide +kernel) (Nat.le_of_ble_eq_true rfl) ?_
  intro X hXl C
  subst hXl
  show Go X G 3 0 0 _ 0 [.ref (G.1 + 0), .int x, .int g] [] (mm I J)
  refine g_aload_n C dX8_grant_0 rfl ?_
  refine g_getR (ci := 8) (k := 1) (q := 3) C dX8_grant_1 rfl inGX8 (by decide) fwX8_19 ly_0 (by decide) rfl rfl ?_
  refine g_iload_n C dX8_grant_4 rfl ?_
  refine gv1I (ci := 2) C dX8_grant_5 vwX2_has mwX8_91 ⟨by decide, by decide⟩ rfl ly_3 (Nat.le_of_ble_eq_true rfl) (s_planHas _) (Nat.le_of_ble_eq_true rfl) rfl ⟨by decide, by decide⟩ ?_
  refine g_if_ne 17 C dX8_grant_8 (by decide) (fun c8 => ?_) (fun c8 => ?_)
  · exact absurd (if01.mpr h) c8
  · refine g_aload_n C dX8_grant_11 rfl ?_
    refine g_iconst (v := 1) C dX8_grant_12 (by decide) ?_
    refine gv1I (ci := 8) C dX8_grant_13 vwX8_deny mwX8_94 ⟨by decide, by decide⟩ rfl ly_0 (Nat.le_of_ble_eq_true rfl) (s_deny _) (Nat.le_of_ble_eq_true rfl) rfl ⟨by decide, by decide⟩ ?_
    exact e_Z C dX8_grant_16 rfl rfl rfl (by first | exact Or.inl rfl | exact Or.inr rfl) rfl rfl
set_option maxHeartbeats 1000000 in
theorem s_grant2 {l : Launch} {G : Gm} {I : Nat → Nat → Int32} {J : Nat → Nat → Int64} (x g : Int32) (h : ¬ x < 0 ∧ x < I 3 2) (h2 : ¬ (¬ g < 0 ∧ g ≤ 65535)) : Sp l G iX8_grant [.ref (G.1 + 0), .int x, .int g] (mm I J) (RetI 0 (mm (up1 I 0 7 2) J)) noT := by
  refine Sp.of (by decide +kernel) (Nat.le_of_ble_eq_true rfl) ?_
  intro X hXl C
  subst hXl
  show Go X G 3 0 0 _ 0 [.ref (G.1 + 0), .int x, .int g] [] (mm I J)
  refine g_aload_n C dX8_grant_0 rfl ?_
  refine g_getR (ci := 8) (k := 1) (q := 3) C dX8_grant_1 rfl inGX8 (by decide) fwX8_19 ly_0 (by decide) rfl rfl ?_
  refine g_iload_n C dX8_grant_4 rfl ?_
  refine gv1I (ci := 2) C dX8_grant_5 vwX2_has mwX8_91 ⟨by decide, by decide⟩ rfl ly_3 (Nat.le_of_ble_eq_true rfl) (s_planHas _) (Nat.le_of_ble_eq_true rfl) rfl ⟨by decide, by decide⟩ ?_
  refine g_if_ne 17 C dX8_grant_8 (by decide) (fun c8 => ?_) (fun c8 => ?_)
  · refine g_iload_n C dX8_grant_17 rfl ?_
    refine gs1I C dX8_grant_18 swX8_isGrants mwX8_74 ⟨by decide, by decide⟩ (s_isGrants _) (Nat.le_of_ble_eq_true rfl) rfl ⟨by decide, by decide⟩ ?_
    refine g_if_ne 30 C dX8_grant_21 (by decide) (fun c21 => ?_) (fun c21 => ?_)
    · exact absurd (if01.mpr h2) c21
    · refine g_aload_n C dX8_grant_24 rfl ?_
      refine g_iconst (v := 2) C dX8_grant_25 (by decide) ?_
      refine gv1I (ci := 8) C dX8_grant_26 vwX8_deny mwX8_94 ⟨by decide, by decide⟩ rfl ly_0 (Nat.le_of_ble_eq_true rfl) (s_deny _) (Nat.le_of_ble_eq_true rfl) rfl ⟨by decide, by decide⟩ ?_
      exact e_Z C dX8_grant_29 rfl rfl rfl (by first | exact Or.inl rfl | exact Or.inr rfl) rfl rfl
  · exact absurd h (if01.mp c8)
set_option maxHeartbeats 1000000 in
theorem s_grant {l : Launch} {G : Gm} {I : Nat → Nat → Int32} {J : Nat → Nat → Int64} {p : Nat} (g : Int32) (hp : p < 10) (h : ¬ nI p < 0 ∧ nI p < I 3 2) (h2 : ¬ g < 0 ∧ g ≤ 65535) : Sp l G iX8_grant [.ref (G.1 + 0), .int (nI p), .int g] (mm I J) (RetI 1 (mm (up1 (up1 I 4 p g) 0 7 0) J)) noT := by
  refine Sp.of (by decide +kernel) (Nat.le_of_ble_eq_true rfl) ?_
  intro X hXl C
  subst hXl
  show Go X G 3 0 0 _ 0 [.ref (G.1 + 0), .int (nI p), .int g] [] (mm I J)
  refine g_aload_n C dX8_grant_0 rfl ?_
  refine g_getR (ci := 8) (k := 1) (q := 3) C dX8_grant_1 rfl inGX8 (by decide) fwX8_19 ly_0 (by decide) rfl rfl ?_
  refine g_iload_n C dX8_grant_4 rfl ?_
  refine gv1I (ci := 2) C dX8_grant_5 vwX2_has mwX8_91 ⟨by decide, by decide⟩ rfl ly_3 (Nat.le_of_ble_eq_true rfl) (s_planHas _) (Nat.le_of_ble_eq_true rfl) rfl ⟨by decide, by decide⟩ ?_
  refine g_if_ne 17 C dX8_grant_8 (by decide) (fun c8 => ?_) (fun c8 => ?_)
  · refine g_iload_n C dX8_grant_17 rfl ?_
    refine gs1I C dX8_grant_18 swX8_isGrants mwX8_74 ⟨by decide, by decide⟩ (s_isGrants _) (Nat.le_of_ble_eq_true rfl) rfl ⟨by decide, by decide⟩ ?_
    refine g_if_ne 30 C dX8_grant_21 (by decide) (fun c21 => ?_) (fun c21 => ?_)
    · refine g_aload_n C dX8_grant_30 rfl ?_
      refine g_getR (ci := 8) (k := 1) (q := 3) C dX8_grant_31 rfl inGX8 (by decide) fwX8_19 ly_0 (by decide) rfl rfl ?_
      refine g_getR (ci := 2) (k := 0) (q := 4) C dX8_grant_34 rfl inGX2 (by decide) fwX8_97 ly_3 (by decide) rfl rfl ?_
      refine g_iload_n C dX8_grant_37 rfl ?_
      refine g_iload_n C dX8_grant_38 rfl ?_
      refine g_iast _ C dX8_grant_39 ly_4 (by decide) (by decide) rfl (by omega) ?_
      refine g_aload_n C dX8_grant_40 rfl ?_
      refine gv0I (ci := 8) C dX8_grant_41 vwX8_allow mwX8_101 ⟨by decide, by decide⟩ rfl ly_0 (Nat.le_of_ble_eq_true rfl) (s_allow) (Nat.le_of_ble_eq_true rfl) rfl ⟨by decide, by decide⟩ ?_
      exact e_Z C dX8_grant_44 rfl rfl rfl (by first | exact Or.inl rfl | exact Or.inr rfl) rfl rfl
    · exact absurd h2 (if01.mp c21)
  · exact absurd h (if01.mp c8)
set_option maxHeartbeats 1000000 in
theorem s_line1 {l : Launch} {G : Gm} {I : Nat → Nat → Int32} {J : Nat → Nat → Int64} (x y w : Int32) (h : ¬ (¬ x < 0 ∧ x < I 3 2)) : Sp l G iX8_line [.ref (G.1 + 0), .int x, .int y, .int w] (mm I J) (RetI (-1) (mm I J)) noT := by
  refine Sp.of (by decide +kernel) (Nat.le_of_ble_eq_true rfl) ?_
  intro X hXl C
  subst hXl
  show Go X G 5 0 0 _ 0 [.ref (G.1 + 0), .int x, .int y, .int w, uu] [] (mm I J)
  refine g_aload_n C dX8_line_0 rfl ?_
  refine g_getR (ci := 8) (k := 1) (q := 3) C dX8_line_1 rfl inGX8 (by decide) fwX8_19 ly_0 (by decide) rfl rfl ?_
  refine g_iload_n C dX8_line_4 rfl ?_
  refine gv1I (ci := 2) C dX8_line_5 vwX2_has mwX8_91 ⟨by decide, by decide⟩ rfl ly_3 (Nat.le_of_ble_eq_true rfl) (s_planHas _) (Nat.le_of_ble_eq_true rfl) rfl ⟨by decide, by decide⟩ ?_
  refine g_if_eq 27 C dX8_line_8 (by decide) (fun c8 => ?_) (fun c8 => ?_)
  · refine g_iconst (v := (-1)) C dX8_line_27 (by decide) ?_
    exact e_I C dX8_line_28 rfl rfl rfl rfl rfl
  · exact absurd (if01.mpr h) c8
set_option maxHeartbeats 1000000 in
theorem s_line2 {l : Launch} {G : Gm} {I : Nat → Nat → Int32} {J : Nat → Nat → Int64} {p : Nat} (y w : Int32) (hp : p < 10) (h : ¬ nI p < 0 ∧ nI p < I 3 2) (h2 : ¬ (¬ y < 0 ∧ y < I (6 + 6 * p) 5)) : Sp l G iX8_line [.ref (G.1 + 0), .int (nI p), .int y, .int w] (mm I J) (RetI (-1) (mm I J)) noT := by
  refine Sp.of (by decide +kernel) (Nat.le_of_ble_eq_true rfl) ?_
  intro X hXl C
  subst hXl
  show Go X G 5 0 0 _ 0 [.ref (G.1 + 0), .int (nI p), .int y, .int w, uu] [] (mm I J)
  refine g_aload_n C dX8_line_0 rfl ?_
  refine g_getR (ci := 8) (k := 1) (q := 3) C dX8_line_1 rfl inGX8 (by decide) fwX8_19 ly_0 (by decide) rfl rfl ?_
  refine g_iload_n C dX8_line_4 rfl ?_
  refine gv1I (ci := 2) C dX8_line_5 vwX2_has mwX8_91 ⟨by decide, by decide⟩ rfl ly_3 (Nat.le_of_ble_eq_true rfl) (s_planHas _) (Nat.le_of_ble_eq_true rfl) rfl ⟨by decide, by decide⟩ ?_
  refine g_if_eq 27 C dX8_line_8 (by decide) (fun c8 => ?_) (fun c8 => ?_)
  · exact absurd h (if01.mp c8)
  · refine g_aload_n C dX8_line_11 rfl ?_
    refine g_getR (ci := 8) (k := 1) (q := 3) C dX8_line_12 rfl inGX8 (by decide) fwX8_19 ly_0 (by decide) rfl rfl ?_
    refine g_getR (ci := 2) (k := 1) (q := 5) C dX8_line_15 rfl inGX2 (by decide) fwX8_114 ly_3 (by decide) rfl rfl ?_
    refine g_iload_n C dX8_line_18 rfl ?_
    refine g_aald (q := 6 + 6 * p) p C dX8_line_19 ly_5 (Or.inl ⟨rfl, rfl⟩) (by decide) (by decide) rfl hp (rf_shs hp) ?_
    refine g_iload_n C dX8_line_20 rfl ?_
    refine gv1I (ci := 5) C dX8_line_21 vwX5_has mwX8_135 ⟨by decide, by decide⟩ rfl (ly_sh hp) (ho_sh hp) (s_sheetHas hp _) (Nat.le_of_ble_eq_true rfl) rfl ⟨by decide, by decide⟩ ?_
    refine g_if_ne 29 C dX8_line_24 (by decide) (fun c24 => ?_) (fun c24 => ?_)
    · exact absurd (if01.mpr h2) c24
    · refine g_iconst (v := (-1)) C dX8_line_27 (by decide) ?_
      exact e_I C dX8_line_28 rfl rfl rfl rfl rfl
def lnv (I : Nat → Nat → Int32) (p k : Nat) (w : Int32) : Int32 := if w = 0 then I (6 + 6 * p + 1 + 0) k else if w = 1 then I (6 + 6 * p + 1 + 1) k else if w = 2 then I (6 + 6 * p + 1 + 2) k else if w = 3 then I (6 + 6 * p + 1 + 3) k else -1
theorem lnv_lo {I : Nat → Nat → Int32} {p k : Nat} {w : Int32} (h : w < 0) : -1 = lnv I p k w := by
  unfold lnv
  rw [if_neg, if_neg, if_neg, if_neg] <;> (rintro rfl; exact absurd h (by decide))
theorem lnv_hi {I : Nat → Nat → Int32} {p k : Nat} {w : Int32} (h : nI 4 ≤ w) : -1 = lnv I p k w := by
  unfold lnv
  rw [if_neg, if_neg, if_neg, if_neg] <;> (rintro rfl; exact absurd h (by decide))
set_option maxHeartbeats 1000000 in
theorem s_line3 {l : Launch} {G : Gm} {I : Nat → Nat → Int32} {J : Nat → Nat → Int64} {p k : Nat} (w : Int32) (hp : p < 10) (hk : k < 12) (h : ¬ nI p < 0 ∧ nI p < I 3 2) (h2 : ¬ nI k < 0 ∧ nI k < I (6 + 6 * p) 5) : Sp l G iX8_line [.ref (G.1 + 0), .int (nI p), .int (nI k), .int w] (mm I J) (RetI (lnv I p k w) (mm I J)) noT := by
  refine Sp.of (by decide +kernel) (Nat.le_of_ble_eq_true rfl) ?_
  intro X hXl C
  subst hXl
  show Go X G 5 0 0 _ 0 [.ref (G.1 + 0), .int (nI p), .int (nI k), .int w, uu] [] (mm I J)
  refine g_aload_n C dX8_line_0 rfl ?_
  refine g_getR (ci := 8) (k := 1) (q := 3) C dX8_line_1 rfl inGX8 (by decide) fwX8_19 ly_0 (by decide) rfl rfl ?_
  refine g_iload_n C dX8_line_4 rfl ?_
  refine gv1I (ci := 2) C dX8_line_5 vwX2_has mwX8_91 ⟨by decide, by decide⟩ rfl ly_3 (Nat.le_of_ble_eq_true rfl) (s_planHas _) (Nat.le_of_ble_eq_true rfl) rfl ⟨by decide, by decide⟩ ?_
  refine g_if_eq 27 C dX8_line_8 (by decide) (fun c8 => ?_) (fun c8 => ?_)
  · exact absurd h (if01.mp c8)
  · refine g_aload_n C dX8_line_11 rfl ?_
    refine g_getR (ci := 8) (k := 1) (q := 3) C dX8_line_12 rfl inGX8 (by decide) fwX8_19 ly_0 (by decide) rfl rfl ?_
    refine g_getR (ci := 2) (k := 1) (q := 5) C dX8_line_15 rfl inGX2 (by decide) fwX8_114 ly_3 (by decide) rfl rfl ?_
    refine g_iload_n C dX8_line_18 rfl ?_
    refine g_aald (q := 6 + 6 * p) p C dX8_line_19 ly_5 (Or.inl ⟨rfl, rfl⟩) (by decide) (by decide) rfl hp (rf_shs hp) ?_
    refine g_iload_n C dX8_line_20 rfl ?_
    refine gv1I (ci := 5) C dX8_line_21 vwX5_has mwX8_135 ⟨by decide, by decide⟩ rfl (ly_sh hp) (ho_sh hp) (s_sheetHas hp _) (Nat.le_of_ble_eq_true rfl) rfl ⟨by decide, by decide⟩ ?_
    refine g_if_ne 29 C dX8_line_24 (by decide) (fun c24 => ?_) (fun c24 => ?_)
    · refine g_aload_n C dX8_line_29 rfl ?_
      refine g_getR (ci := 8) (k := 1) (q := 3) C dX8_line_30 rfl inGX8 (by decide) fwX8_19 ly_0 (by decide) rfl rfl ?_
      refine g_getR (ci := 2) (k := 1) (q := 5) C dX8_line_33 rfl inGX2 (by decide) fwX8_114 ly_3 (by decide) rfl rfl ?_
      refine g_iload_n C dX8_line_36 rfl ?_
      refine g_aald (q := 6 + 6 * p) p C dX8_line_37 ly_5 (Or.inl ⟨rfl, rfl⟩) (by decide) (by decide) rfl hp (rf_shs hp) ?_
      refine g_astore_4 C dX8_line_38 (by decide) ?_
      refine g_iload_n C dX8_line_40 rfl ?_
      rcases pk_ix w (n := 4) (by decide) with hx | hx | ⟨j, hj, hx⟩
      · refine g_tabOut 104 C dX8_line_41 (Or.inl (tab_lo hx)) (by decide) ?_
        refine g_iconst (v := (-1)) C dX8_line_104 (by decide) ?_
        exact e_I C dX8_line_105 rfl rfl rfl (by first | exact lnv_lo hx | exact lnv_hi hx) rfl
      · refine g_tabOut 104 C dX8_line_41 (Or.inr (tab_hi (n := 3) hx (by decide))) (by decide) ?_
        refine g_iconst (v := (-1)) C dX8_line_104 (by decide) ?_
        exact e_I C dX8_line_105 rfl rfl rfl (by first | exact lnv_lo hx | exact lnv_hi hx) rfl
      · subst hx
        rcases (show j = 0 ∨ j = 1 ∨ j = 2 ∨ j = 3 by omega) with rfl | rfl | rfl | rfl
        · refine g_tabIn 72 C dX8_line_41 (by decide) (by decide) rfl (by decide) ?_
          refine g_aload C dX8_line_72 rfl ?_
          refine g_getR (ci := 5) (k := 0) (q := 6 + 6 * p + 1 + 0) C dX8_line_74 rfl inGX5 (by decide) fwX8_136 (ly_sh hp) (by omega) rfl (rf_sh hp (by decide)) ?_
          refine g_iload_n C dX8_line_77 rfl ?_
          refine g_iald _ C dX8_line_78 (ly_sa hp (by decide)) (by omega) (by decide) rfl (by omega) ?_
          exact e_I C dX8_line_79 rfl rfl rfl (by simp [lnv, nI]) rfl
        · refine g_tabIn 80 C dX8_line_41 (by decide) (by decide) rfl (by decide) ?_
          refine g_aload C dX8_line_80 rfl ?_
          refine g_getR (ci := 5) (k := 1) (q := 6 + 6 * p + 1 + 1) C dX8_line_82 rfl inGX5 (by decide) fwX8_139 (ly_sh hp) (by omega) rfl (rf_sh hp (by decide)) ?_
          refine g_iload_n C dX8_line_85 rfl ?_
          refine g_iald _ C dX8_line_86 (ly_sa hp (by decide)) (by omega) (by decide) rfl (by omega) ?_
          exact e_I C dX8_line_87 rfl rfl rfl (by simp [lnv, nI]) rfl
        · refine g_tabIn 88 C dX8_line_41 (by decide) (by decide) rfl (by decide) ?_
          refine g_aload C dX8_line_88 rfl ?_
          refine g_getR (ci := 5) (k := 2) (q := 6 + 6 * p + 1 + 2) C dX8_line_90 rfl inGX5 (by decide) fwX8_142 (ly_sh hp) (by omega) rfl (rf_sh hp (by decide)) ?_
          refine g_iload_n C dX8_line_93 rfl ?_
          refine g_iald _ C dX8_line_94 (ly_sa hp (by decide)) (by omega) (by decide) rfl (by omega) ?_
          exact e_I C dX8_line_95 rfl rfl rfl (by simp [lnv, nI]) rfl
        · refine g_tabIn 96 C dX8_line_41 (by decide) (by decide) rfl (by decide) ?_
          refine g_aload C dX8_line_96 rfl ?_
          refine g_getR (ci := 5) (k := 3) (q := 6 + 6 * p + 1 + 3) C dX8_line_98 rfl inGX5 (by decide) fwX8_145 (ly_sh hp) (by omega) rfl (rf_sh hp (by decide)) ?_
          refine g_iload_n C dX8_line_101 rfl ?_
          refine g_iald _ C dX8_line_102 (ly_sa hp (by decide)) (by omega) (by decide) rfl (by omega) ?_
          exact e_I C dX8_line_103 rfl rfl rfl (by simp [lnv, nI]) rfl
    · exact absurd h2 (if01.mp c24)
set_option maxHeartbeats 1000000 in
theorem s_meant1 {l : Launch} {G : Gm} {I : Nat → Nat → Int32} {J : Nat → Nat → Int64} (x y w : Int32) (h : ¬ ((¬ x < 0 ∧ x < 16) ∧ (¬ y < 0 ∧ y < 16))) : Sp l G iX8_meant [.ref (G.1 + 0), .int x, .int y, .int w] (mm I J) (RetI 0 (mm (up1 I 0 7 2) J)) noT := by
  refine Sp.of (by decide +kernel) (Nat.le_of_ble_eq_true rfl) ?_
  intro X hXl C
  subst hXl
  show Go X G 4 0 0 _ 0 [.ref (G.1 + 0), .int x, .int y, .int w] [] (mm I J)
  refine g_iload_n C dX8_meant_0 rfl ?_
  refine gs1I C dX8_meant_1 swX8_isRight mwX8_148 ⟨by decide, by decide⟩ (s_isRight _) (Nat.le_of_ble_eq_true rfl) rfl ⟨by decide, by decide⟩ ?_
  refine g_if_eq 14 C dX8_meant_4 (by decide) (fun c4 => ?_) (fun c4 => ?_)
  · refine g_aload_n C dX8_meant_14 rfl ?_
    refine g_iconst (v := 2) C dX8_meant_15 (by decide) ?_
    refine gv1I (ci := 8) C dX8_meant_16 vwX8_deny mwX8_94 ⟨by decide, by decide⟩ rfl ly_0 (Nat.le_of_ble_eq_true rfl) (s_deny _) (Nat.le_of_ble_eq_true rfl) rfl ⟨by decide, by decide⟩ ?_
    exact e_Z C dX8_meant_19 rfl rfl rfl (by first | exact Or.inl rfl | exact Or.inr rfl) rfl rfl
  · have g4 := Classical.not_not.mp (fun q => c4 (if01.mpr q))
    refine g_iload_n C dX8_meant_7 rfl ?_
    refine gs1I C dX8_meant_8 swX8_isRight mwX8_148 ⟨by decide, by decide⟩ (s_isRight _) (Nat.le_of_ble_eq_true rfl) rfl ⟨by decide, by decide⟩ ?_
    refine g_if_ne 20 C dX8_meant_11 (by decide) (fun c11 => ?_) (fun c11 => ?_)
    · exact absurd ⟨g4, Classical.not_not.mp (fun q => c11 (if01.mpr q))⟩ h
    · refine g_aload_n C dX8_meant_14 rfl ?_
      refine g_iconst (v := 2) C dX8_meant_15 (by decide) ?_
      refine gv1I (ci := 8) C dX8_meant_16 vwX8_deny mwX8_94 ⟨by decide, by decide⟩ rfl ly_0 (Nat.le_of_ble_eq_true rfl) (s_deny _) (Nat.le_of_ble_eq_true rfl) rfl ⟨by decide, by decide⟩ ?_
      exact e_Z C dX8_meant_19 rfl rfl rfl (by first | exact Or.inl rfl | exact Or.inr rfl) rfl rfl
set_option maxHeartbeats 1000000 in
theorem s_meant {l : Launch} {G : Gm} {I : Nat → Nat → Int32} {J : Nat → Nat → Int64} {d : Nat} (x w : Int32) (hd : d < 16) (h : ¬ x < 0 ∧ x < 16) (h2 : ¬ nI d < 0 ∧ nI d < 16) : Sp l G iX8_meant [.ref (G.1 + 0), .int x, .int (nI d), .int w] (mm I J) (RetI 1 (mm (up1 (tel I x d w) 0 7 0) J)) noT := by
  refine Sp.of (by decide +kernel) (Nat.le_of_ble_eq_true rfl) ?_
  intro X hXl C
  subst hXl
  show Go X G 4 0 0 _ 0 [.ref (G.1 + 0), .int x, .int (nI d), .int w] [] (mm I J)
  refine g_iload_n C dX8_meant_0 rfl ?_
  refine gs1I C dX8_meant_1 swX8_isRight mwX8_148 ⟨by decide, by decide⟩ (s_isRight _) (Nat.le_of_ble_eq_true rfl) rfl ⟨by decide, by decide⟩ ?_
  refine g_if_eq 14 C dX8_meant_4 (by decide) (fun c4 => ?_) (fun c4 => ?_)
  · exact absurd h (if01.mp c4)
  · refine g_iload_n C dX8_meant_7 rfl ?_
    refine gs1I C dX8_meant_8 swX8_isRight mwX8_148 ⟨by decide, by decide⟩ (s_isRight _) (Nat.le_of_ble_eq_true rfl) rfl ⟨by decide, by decide⟩ ?_
    refine g_if_ne 20 C dX8_meant_11 (by decide) (fun c11 => ?_) (fun c11 => ?_)
    · refine g_aload_n C dX8_meant_20 rfl ?_
      refine g_getR (ci := 8) (k := 4) (q := 92) C dX8_meant_21 rfl inGX8 (by decide) fwX8_46 ly_0 (by decide) rfl rfl ?_
      refine g_iload_n C dX8_meant_24 rfl ?_
      refine g_iload_n C dX8_meant_25 rfl ?_
      refine g_iload_n C dX8_meant_26 rfl ?_
      refine gv3V (ci := 0) C dX8_meant_27 vwX0_tell mwX8_151 ⟨by decide, by decide⟩ rfl ly_92 (Nat.le_of_ble_eq_true rfl) (s_tell hd _ _) (Nat.le_of_ble_eq_true rfl) rfl ⟨by decide, by decide⟩ ?_
      refine g_aload_n C dX8_meant_30 rfl ?_
      refine gv0I (ci := 8) C dX8_meant_31 vwX8_allow mwX8_101 ⟨by decide, by decide⟩ rfl ly_0 (Nat.le_of_ble_eq_true rfl) (s_allow) (Nat.le_of_ble_eq_true rfl) rfl ⟨by decide, by decide⟩ ?_
      exact e_Z C dX8_meant_34 rfl rfl rfl (by first | exact Or.inl rfl | exact Or.inr rfl) rfl rfl
    · exact absurd h2 (if01.mp c11)
set_option maxHeartbeats 1000000 in
theorem s_cured1 {l : Launch} {G : Gm} {I : Nat → Nat → Int32} {J : Nat → Nat → Int64} (x : Int32) (h : x < 0 ∨ ¬ x < I 98 8) : Sp l G iX8_cured [.ref (G.1 + 0), .int x] (mm I J) (RetI (-1) (mm I J)) noT := by
  refine Sp.of (by decide +kernel) (Nat.le_of_ble_eq_true rfl) ?_
  intro X hXl C
  subst hXl
  show Go X G 2 0 0 _ 0 [.ref (G.1 + 0), .int x] [] (mm I J)
  refine g_iload_n C dX8_cured_0 rfl ?_
  refine g_if_lt 15 C dX8_cured_1 (by decide) (fun c1 => ?_) (fun c1 => ?_)
  · refine g_iconst (v := (-1)) C dX8_cured_15 (by decide) ?_
    refine g_goto 28 C dX8_cured_16 (by decide) ?_
    exact e_I C dX8_cured_28 rfl rfl rfl rfl rfl
  · refine g_iload_n C dX8_cured_4 rfl ?_
    refine g_aload_n C dX8_cured_5 rfl ?_
    refine g_getR (ci := 8) (k := 6) (q := 98) C dX8_cured_6 rfl inGX8 (by decide) fwX8_62 ly_0 (by decide) rfl rfl ?_
    refine g_getI (ci := 4) (k := 8) C dX8_cured_9 rfl inGX4 (by decide) fwX8_206 ly_98 (by decide) rfl ?_
    refine g_icmp_lt 19 C dX8_cured_12 (by decide) (fun c12 => ?_) (fun c12 => ?_)
    · exact absurd h (by simp [c1, c12])
    · refine g_iconst (v := (-1)) C dX8_cured_15 (by decide) ?_
      refine g_goto 28 C dX8_cured_16 (by decide) ?_
      exact e_I C dX8_cured_28 rfl rfl rfl rfl rfl
set_option maxHeartbeats 1000000 in
theorem s_cured {l : Launch} {G : Gm} {I : Nat → Nat → Int32} {J : Nat → Nat → Int64} {i : Nat} (hi : i < 10) (h : nI i < I 98 8) : Sp l G iX8_cured [.ref (G.1 + 0), .int (nI i)] (mm I J) (RetI (I 102 i) (mm I J)) noT := by
  refine Sp.of (by decide +kernel) (Nat.le_of_ble_eq_true rfl) ?_
  intro X hXl C
  subst hXl
  show Go X G 2 0 0 _ 0 [.ref (G.1 + 0), .int (nI i)] [] (mm I J)
  refine g_iload_n C dX8_cured_0 rfl ?_
  refine g_if_lt 15 C dX8_cured_1 (by decide) (fun c1 => ?_) (fun c1 => ?_)
  · exact absurd c1 (nI_pos (by omega))
  · refine g_iload_n C dX8_cured_4 rfl ?_
    refine g_aload_n C dX8_cured_5 rfl ?_
    refine g_getR (ci := 8) (k := 6) (q := 98) C dX8_cured_6 rfl inGX8 (by decide) fwX8_62 ly_0 (by decide) rfl rfl ?_
    refine g_getI (ci := 4) (k := 8) C dX8_cured_9 rfl inGX4 (by decide) fwX8_206 ly_98 (by decide) rfl ?_
    refine g_icmp_lt 19 C dX8_cured_12 (by decide) (fun c12 => ?_) (fun c12 => ?_)
    · refine g_aload_n C dX8_cured_19 rfl ?_
      refine g_getR (ci := 8) (k := 6) (q := 98) C dX8_cured_20 rfl inGX8 (by decide) fwX8_62 ly_0 (by decide) rfl rfl ?_
      refine g_getR (ci := 4) (k := 6) (q := 102) C dX8_cured_23 rfl inGX4 (by decide) fwX8_213 ly_98 (by decide) rfl rfl ?_
      refine g_iload_n C dX8_cured_26 rfl ?_
      refine g_iald _ C dX8_cured_27 ly_102 (by decide) (by decide) rfl (by omega) ?_
      exact e_I C dX8_cured_28 rfl rfl rfl rfl rfl
    · exact absurd h c12
def xCount (I : Nat → Nat → Int32) (n : Nat) (w : Int32) : Int32 := if w = 0 then nI n else if w = 1 then it (fun p a => a + I (6 + 6 * p) 5) n 0 else if w = 2 then it (fun p a => a + bc (I 4 p)) n 0 else if w = 3 then it (fun d a => a + bc (I 93 d)) 16 0 else if w = 4 then I 1 1 else -1
theorem xCount_lo {I : Nat → Nat → Int32} {n : Nat} {w : Int32} (h : w < 0) : -1 = xCount I n w := by
  unfold xCount
  rw [if_neg, if_neg, if_neg, if_neg, if_neg] <;> (rintro rfl; exact absurd h (by decide))
theorem xCount_hi {I : Nat → Nat → Int32} {n : Nat} {w : Int32} (h : nI 5 ≤ w) : -1 = xCount I n w := by
  unfold xCount
  rw [if_neg, if_neg, if_neg, if_neg, if_neg] <;> (rintro rfl; exact absurd h (by decide))
set_option maxHeartbeats 1000000 in
theorem s_count {l : Launch} {G : Gm} {I : Nat → Nat → Int32} {J : Nat → Nat → Int64} {n : Nat} (hn : I 3 2 = nI n) (hn10 : n ≤ 10) (w : Int32) : Sp l G iX8_count [.ref (G.1 + 0), .int w] (mm I J) (RetI (xCount I n w) (mm I J)) noT := by
  refine Sp.of (by decide +kernel) (Nat.le_of_ble_eq_true rfl) ?_
  intro X hXl C
  subst hXl
  show Go X G 2 0 0 _ 0 [.ref (G.1 + 0), .int w] [] (mm I J)
  refine g_iload_n C dX8_count_0 rfl ?_
  rcases pk_ix w (n := 5) (by decide) with hx | hx | ⟨j, hj, hx⟩
  · refine g_tabOut 76 C dX8_count_1 (Or.inl (tab_lo hx)) (by decide) ?_
    refine g_iconst (v := (-1)) C dX8_count_76 (by decide) ?_
    exact e_I C dX8_count_77 rfl rfl rfl (by first | exact xCount_lo hx | exact xCount_hi hx) rfl
  · refine g_tabOut 76 C dX8_count_1 (Or.inr (tab_hi (n := 4) hx (by decide))) (by decide) ?_
    refine g_iconst (v := (-1)) C dX8_count_76 (by decide) ?_
    exact e_I C dX8_count_77 rfl rfl rfl (by first | exact xCount_lo hx | exact xCount_hi hx) rfl
  · subst hx
    rcases (show j = 0 ∨ j = 1 ∨ j = 2 ∨ j = 3 ∨ j = 4 by omega) with rfl | rfl | rfl | rfl | rfl
    · refine g_tabIn 36 C dX8_count_1 (by decide) (by decide) rfl (by decide) ?_
      refine g_aload_n C dX8_count_36 rfl ?_
      refine g_getR (ci := 8) (k := 1) (q := 3) C dX8_count_37 rfl inGX8 (by decide) fwX8_19 ly_0 (by decide) rfl rfl ?_
      refine g_getIv (ci := 2) (k := 2) (v := nI n) C dX8_count_40 rfl inGX2 (by decide) fwX8_82 ly_3 (by decide) rfl hn ?_
      exact e_I C dX8_count_43 rfl rfl rfl (by simp [xCount, nI]) rfl
    · refine g_tabIn 44 C dX8_count_1 (by decide) (by decide) rfl (by decide) ?_
      refine g_aload_n C dX8_count_44 rfl ?_
      refine g_getR (ci := 8) (k := 1) (q := 3) C dX8_count_45 rfl inGX8 (by decide) fwX8_19 ly_0 (by decide) rfl rfl ?_
      refine gv0I (ci := 2) C dX8_count_48 vwX2_allLines mwX8_222 ⟨by decide, by decide⟩ rfl ly_3 (Nat.le_of_ble_eq_true rfl) (s_allLines hn hn10) (Nat.le_of_ble_eq_true rfl) rfl ⟨by decide, by decide⟩ ?_
      exact e_I C dX8_count_51 rfl rfl rfl (by simp [xCount, nI]) rfl
    · refine g_tabIn 52 C dX8_count_1 (by decide) (by decide) rfl (by decide) ?_
      refine g_aload_n C dX8_count_52 rfl ?_
      refine g_getR (ci := 8) (k := 1) (q := 3) C dX8_count_53 rfl inGX8 (by decide) fwX8_19 ly_0 (by decide) rfl rfl ?_
      refine gv0I (ci := 2) C dX8_count_56 vwX2_allGrants mwX8_225 ⟨by decide, by decide⟩ rfl ly_3 (Nat.le_of_ble_eq_true rfl) (s_allGrants hn hn10) (Nat.le_of_ble_eq_true rfl) rfl ⟨by decide, by decide⟩ ?_
      exact e_I C dX8_count_59 rfl rfl rfl (by simp [xCount, nI]) rfl
    · refine g_tabIn 60 C dX8_count_1 (by decide) (by decide) rfl (by decide) ?_
      refine g_aload_n C dX8_count_60 rfl ?_
      refine g_getR (ci := 8) (k := 4) (q := 92) C dX8_count_61 rfl inGX8 (by decide) fwX8_46 ly_0 (by decide) rfl rfl ?_
      refine gv0I (ci := 0) C dX8_count_64 vwX0_toldPairs mwX8_228 ⟨by decide, by decide⟩ rfl ly_92 (Nat.le_of_ble_eq_true rfl) (s_toldPairs) (Nat.le_of_ble_eq_true rfl) rfl ⟨by decide, by decide⟩ ?_
      exact e_I C dX8_count_67 rfl rfl rfl (by simp [xCount, nI]) rfl
    · refine g_tabIn 68 C dX8_count_1 (by decide) (by decide) rfl (by decide) ?_
      refine g_aload_n C dX8_count_68 rfl ?_
      refine g_getR (ci := 8) (k := 0) (q := 1) C dX8_count_69 rfl inGX8 (by decide) fwX8_12 ly_0 (by decide) rfl rfl ?_
      refine g_getI (ci := 6) (k := 1) C dX8_count_72 rfl inGX6 (by decide) fwX8_105 ly_1 (by decide) rfl ?_
      exact e_I C dX8_count_75 rfl rfl rfl (by simp [xCount, nI]) rfl
