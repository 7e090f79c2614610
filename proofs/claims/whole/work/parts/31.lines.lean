/-! ## lines -/
def LnM (I : Nat → Nat → Int32) (t : Nat → Nat) (e np p : Nat) (ls : List Ln) (num nm : Int32) (j : Nat) : Nat → Nat → Int32 := up1 (up1 (tkS (up1 (rdS (adLs (D0r I e np) 0 ls) t e 0 (-1) num nm j) 1 1 0) p) 0 8 1) 0 7 0
def LnE (I : Nat → Nat → Int32) (t : Nat → Nat) (e np : Nat) (er : Er) (acc : List Ln) (num nm : Int32) (j : Nat) : Nat → Nat → Int32 := up1 (up1 (rdS (adLs (D0r I e np) 0 acc) t e (nI er.1) (nI er.2) num nm j) 1 1 0) 0 7 4
def LnR (I : Nat → Nat → Int32) (J : Nat → Nat → Int64) (t : Nat → Nat) (e np p : Nat) : Option Value → Mm → Prop := fun v M' => match pText t e np 13 [] 0 with
  | .ok ls => v = some (.int (nI ls.length)) ∧ ∃ num nm j, M' = mm (LnM I t e np p ls num nm j) J
  | .error er => v = some (.int (-1)) ∧ ∃ acc num nm j, M' = mm (LnE I t e np er acc num nm j) J
theorem LnR_ok {I : Nat → Nat → Int32} {J : Nat → Nat → Int64} {t : Nat → Nat} {e np p : Nat} {ls : List Ln} {num nm : Int32} {j : Nat} {v : Int32} (h : pText t e np 13 [] 0 = .ok ls) (hv : v = nI ls.length) : LnR I J t e np p (some (.int v)) (mm (LnM I t e np p ls num nm j) J) := by
  subst hv; unfold LnR; rw [h]; exact ⟨rfl, _, _, _, rfl⟩
theorem LnR_er {I : Nat → Nat → Int32} {J : Nat → Nat → Int64} {t : Nat → Nat} {e np p : Nat} {er : Er} {acc : List Ln} {num nm : Int32} {j : Nat} (h : pText t e np 13 [] 0 = .error er) : LnR I J t e np p (some (.int (-1))) (mm (LnE I t e np er acc num nm j) J) := by
  unfold LnR; rw [h]; exact ⟨rfl, _, _, _, _, rfl⟩
theorem ifp0 {c : Prop} [Decidable c] (h : c) : ((if c then (1 : Int32) else 0)) = 1 := if_pos h
theorem tkS_sz (I : Nat → Nat → Int32) (p : Nat) : tkS I p (6 + 6 * p) 5 = I 67 5 := by unfold tkS; exact up1_same _ _ _ _
theorem nI_nn {a : Nat} (ha : a < 2 ^ 31) : ¬ nI a < 0 := fun q => absurd ((nI_ltI (b := 0) ha (by decide)).mp q) (by omega)
theorem LnM_67 {D : Nat → Nat → Int32} {t : Nat → Nat} {e : Nat} {num nm wr pl : Int32} {j : Nat} {ls : List Ln} (h : D 67 5 = nI 0) : up1 (rdS (adLs D 0 ls) t e wr pl num nm j) 1 1 0 67 5 = nI ls.length := by
  rw [up1_off (by decide), rd_off (by decide), adLs_67 ls 0 D h, Nat.zero_add]
set_option maxHeartbeats 1000000 in
theorem s_lines1 {l : Launch} {G : Gm} {I : Nat → Nat → Int32} {J : Nat → Nat → Int64} {x1 x2 : Int32} (h : ¬ (¬ x1 < 0 ∧ x1 < I 3 2)) : Sp l G iX8_lines [.ref (G.1 + 0), .int x1, .int x2] (mm I J) (RetI (-1) (mm (up1 I 0 7 1) J)) noT := by
  refine Sp.of (by decide +kernel) (Nat.le_of_ble_eq_true rfl) ?_
  intro X hXl C
  subst hXl
  show Go X G 4 0 0 _ 0 [.ref (G.1 + 0), .int x1, .int x2, uu] [] (mm I J)
  refine g_aload_n C dX8_lines_0 rfl ?_
  refine g_getR (ci := 8) (k := 1) (q := 3) C dX8_lines_1 rfl inGX8 (by decide) fwX8_19 ly_0 (by decide) rfl rfl ?_
  refine g_iload_n C dX8_lines_4 rfl ?_
  refine gv1I (ci := 2) C dX8_lines_5 vwX2_has mwX8_91 ⟨by decide, by decide⟩ rfl ly_3 (Nat.le_of_ble_eq_true rfl) (s_planHas _) (Nat.le_of_ble_eq_true rfl) rfl ⟨by decide, by decide⟩ ?_
  rw [if_neg h]
  refine g_if_ne 17 C dX8_lines_8 (by decide) (fun c8 => ?_) (fun c8 => ?_)
  · first | exact absurd c8 (by decide) | exact absurd (by decide) c8 | exact absurd rfl c8
  · refine g_aload_n C dX8_lines_11 rfl ?_
    refine g_iconst (v := 1) C dX8_lines_12 (by decide) ?_
    refine gv1I (ci := 8) C dX8_lines_13 vwX8_refuse mwX8_78 ⟨by decide, by decide⟩ rfl ly_0 (Nat.le_of_ble_eq_true rfl) (s_refuse _) (Nat.le_of_ble_eq_true rfl) rfl ⟨by decide, by decide⟩ ?_
    exact e_I C dX8_lines_16 rfl rfl rfl rfl rfl
set_option maxHeartbeats 1000000 in
theorem s_lines2 {l : Launch} {G : Gm} {I : Nat → Nat → Int32} {J : Nat → Nat → Int64} {x1 x2 : Int32} (h : ¬ x1 < 0 ∧ x1 < I 3 2) (h2 : x2 < 0 ∨ ¬ x2 ≤ I 1 1) : Sp l G iX8_lines [.ref (G.1 + 0), .int x1, .int x2] (mm I J) (RetI (-1) (mm (up1 I 0 7 2) J)) noT := by
  refine Sp.of (by decide +kernel) (Nat.le_of_ble_eq_true rfl) ?_
  intro X hXl C
  subst hXl
  show Go X G 4 0 0 _ 0 [.ref (G.1 + 0), .int x1, .int x2, uu] [] (mm I J)
  refine g_aload_n C dX8_lines_0 rfl ?_
  refine g_getR (ci := 8) (k := 1) (q := 3) C dX8_lines_1 rfl inGX8 (by decide) fwX8_19 ly_0 (by decide) rfl rfl ?_
  refine g_iload_n C dX8_lines_4 rfl ?_
  refine gv1I (ci := 2) C dX8_lines_5 vwX2_has mwX8_91 ⟨by decide, by decide⟩ rfl ly_3 (Nat.le_of_ble_eq_true rfl) (s_planHas _) (Nat.le_of_ble_eq_true rfl) rfl ⟨by decide, by decide⟩ ?_
  rw [if_pos h]
  refine g_if_ne 17 C dX8_lines_8 (by decide) (fun c8 => ?_) (fun c8 => ?_)
  · refine g_iload_n C dX8_lines_17 rfl ?_
    refine g_if_lt 32 C dX8_lines_18 (by decide) (fun c18 => ?_) (fun c18 => ?_)
    · skip
      refine g_aload_n C dX8_lines_32 rfl ?_
      refine g_iconst (v := 2) C dX8_lines_33 (by decide) ?_
      refine gv1I (ci := 8) C dX8_lines_34 vwX8_refuse mwX8_78 ⟨by decide, by decide⟩ rfl ly_0 (Nat.le_of_ble_eq_true rfl) (s_refuse _) (Nat.le_of_ble_eq_true rfl) rfl ⟨by decide, by decide⟩ ?_
      exact e_I C dX8_lines_37 rfl rfl rfl rfl rfl
    · skip
      refine g_iload_n C dX8_lines_21 rfl ?_
      refine g_aload_n C dX8_lines_22 rfl ?_
      refine g_getR (ci := 8) (k := 0) (q := 1) C dX8_lines_23 rfl inGX8 (by decide) fwX8_12 ly_0 (by decide) rfl rfl ?_
      refine g_getI (ci := 6) (k := 1) C dX8_lines_26 rfl inGX6 (by decide) fwX8_105 ly_1 (by decide) rfl ?_
      refine g_icmp_le 38 C dX8_lines_29 (by decide) (fun c29 => ?_) (fun c29 => ?_)
      · exact (h2.elim c18 (fun q => q c29)).elim
      · skip
        refine g_aload_n C dX8_lines_32 rfl ?_
        refine g_iconst (v := 2) C dX8_lines_33 (by decide) ?_
        refine gv1I (ci := 8) C dX8_lines_34 vwX8_refuse mwX8_78 ⟨by decide, by decide⟩ rfl ly_0 (Nat.le_of_ble_eq_true rfl) (s_refuse _) (Nat.le_of_ble_eq_true rfl) rfl ⟨by decide, by decide⟩ ?_
        exact e_I C dX8_lines_37 rfl rfl rfl rfl rfl
  · first | exact absurd c8 (by decide) | exact absurd (by decide) c8 | exact absurd rfl c8
set_option maxHeartbeats 1000000 in
theorem s_lines {l : Launch} {G : Gm} {I : Nat → Nat → Int32} {J : Nat → Nat → Int64} {t : Nat → Nat} {e np p sz : Nat} (hB : byOK I t) (hs : I 1 1 = nI sz) (hsz : sz ≤ 300) (hn : I 3 2 = nI np) (hnn : np ≤ 10) (hp : p < np) (he : e ≤ sz) : Sp l G iX8_lines [.ref (G.1 + 0), .int (nI p), .int (nI e)] (mm I J) (LnR I J t e np p) noT := by
  refine Sp.of (by decide +kernel) (Nat.le_of_ble_eq_true rfl) ?_
  intro X hXl C
  subst hXl
  show Go X G 4 0 0 _ 0 [.ref (G.1 + 0), .int (nI p), .int (nI e), uu] [] (mm I J)
  have hp10 : p < 10 := by omega
  have hsz2 : ∀ (ls : List Ln) (num nm : Int32) (j : Nat), up1 (tkS (up1 (rdS (adLs (D0r I e np) 0 ls) t e 0 (-1) num nm j) 1 1 0) p) 0 8 1 (6 + 6 * p) 5 = nI ls.length := fun ls num nm j => by rw [up1_off (by omega), tkS_sz]; exact LnM_67 D0r_67
  refine g_aload_n C dX8_lines_0 rfl ?_
  refine g_getR (ci := 8) (k := 1) (q := 3) C dX8_lines_1 rfl inGX8 (by decide) fwX8_19 ly_0 (by decide) rfl rfl ?_
  refine g_iload_n C dX8_lines_4 rfl ?_
  refine gv1I (ci := 2) C dX8_lines_5 vwX2_has mwX8_91 ⟨by decide, by decide⟩ rfl ly_3 (Nat.le_of_ble_eq_true rfl) (s_planHas _) (Nat.le_of_ble_eq_true rfl) rfl ⟨by decide, by decide⟩ ?_
  rw [if_pos ⟨nI_nn (by omega), by rw [hn]; exact (nI_ltI (by omega) (by omega)).mpr hp⟩]
  refine g_if_ne 17 C dX8_lines_8 (by decide) (fun c8 => ?_) (fun c8 => ?_)
  · refine g_iload_n C dX8_lines_17 rfl ?_
    refine g_if_lt 32 C dX8_lines_18 (by decide) (fun c18 => ?_) (fun c18 => ?_)
    · exact absurd c18 (nI_nn (by omega))
    · skip
      refine g_iload_n C dX8_lines_21 rfl ?_
      refine g_aload_n C dX8_lines_22 rfl ?_
      refine g_getR (ci := 8) (k := 0) (q := 1) C dX8_lines_23 rfl inGX8 (by decide) fwX8_12 ly_0 (by decide) rfl rfl ?_
      refine g_getIv (ci := 6) (k := 1) (v := nI sz) C dX8_lines_26 rfl inGX6 (by decide) fwX8_105 ly_1 (by decide) rfl hs ?_
      refine g_icmp_le 38 C dX8_lines_29 (by decide) (fun c29 => ?_) (fun c29 => ?_)
      · skip
        refine g_aload_n C dX8_lines_38 rfl ?_
        refine g_getR (ci := 8) (k := 2) (q := 66) C dX8_lines_39 rfl inGX8 (by decide) fwX8_28 ly_0 (by decide) rfl rfl ?_
        refine g_iload_n C dX8_lines_42 rfl ?_
        refine g_aload_n C dX8_lines_43 rfl ?_
        refine g_getR (ci := 8) (k := 1) (q := 3) C dX8_lines_44 rfl inGX8 (by decide) fwX8_19 ly_0 (by decide) rfl rfl ?_
        refine g_getIv (ci := 2) (k := 2) (v := nI np) C dX8_lines_47 rfl inGX2 (by decide) fwX8_82 ly_3 (by decide) rfl hn ?_
        rcases hl : pText t e np 13 [] 0 with er | ls
        · skip
          
          refine gv2 (ci := 3) (M1 := mm I J) C dX8_lines_50 vwX3_read mwX8_110 ⟨by decide, by decide⟩ rfl ly_66 (Nat.le_of_ble_eq_true rfl) (s_read (e := e) (np := np) hB (by omega) (by omega)) (Nat.le_of_ble_eq_true rfl) rfl ⟨by decide, by decide⟩ (fun v M2 hP => ?_)
          rw [hl] at hP
          obtain ⟨rfl, acc, num, nm, j, rfl⟩ := hP
          refine g_istore_3 C dX8_lines_53 (by decide) ?_
          refine g_aload_n C dX8_lines_54 rfl ?_
          refine g_getR (ci := 8) (k := 0) (q := 1) C dX8_lines_55 rfl inGX8 (by decide) fwX8_12 ly_0 (by decide) rfl rfl ?_
          refine g_iconst (v := 0) C dX8_lines_58 (by decide) ?_
          refine g_putI (ci := 6) (k := 1) .int C dX8_lines_59 rfl inGX6 tyX6_ok nmX6 (by decide) fwX8_105 ly_1 (by decide) rfl rfl rfl rfl rfl ?_
          refine g_iload_n C dX8_lines_62 rfl ?_
          refine g_if_ne 72 C dX8_lines_63 (by decide) (fun c63 => ?_) (fun c63 => ?_)
          · first | exact absurd c63 (by decide) | exact absurd (by decide) c63 | exact absurd rfl c63
          · refine g_aload_n C dX8_lines_66 rfl ?_
            refine g_iconst (v := 4) C dX8_lines_67 (by decide) ?_
            refine gv1I (ci := 8) C dX8_lines_68 vwX8_refuse mwX8_78 ⟨by decide, by decide⟩ rfl ly_0 (Nat.le_of_ble_eq_true rfl) (s_refuse _) (Nat.le_of_ble_eq_true rfl) rfl ⟨by decide, by decide⟩ ?_
            exact g_iret C dX8_lines_71 rfl rfl rfl (LnR_er hl)
        · skip
          
          refine gv2 (ci := 3) (M1 := mm I J) C dX8_lines_50 vwX3_read mwX8_110 ⟨by decide, by decide⟩ rfl ly_66 (Nat.le_of_ble_eq_true rfl) (s_read (e := e) (np := np) hB (by omega) (by omega)) (Nat.le_of_ble_eq_true rfl) rfl ⟨by decide, by decide⟩ (fun v M2 hP => ?_)
          rw [hl] at hP
          obtain ⟨rfl, num, nm, j, rfl⟩ := hP
          refine g_istore_3 C dX8_lines_53 (by decide) ?_
          refine g_aload_n C dX8_lines_54 rfl ?_
          refine g_getR (ci := 8) (k := 0) (q := 1) C dX8_lines_55 rfl inGX8 (by decide) fwX8_12 ly_0 (by decide) rfl rfl ?_
          refine g_iconst (v := 0) C dX8_lines_58 (by decide) ?_
          refine g_putI (ci := 6) (k := 1) .int C dX8_lines_59 rfl inGX6 tyX6_ok nmX6 (by decide) fwX8_105 ly_1 (by decide) rfl rfl rfl rfl rfl ?_
          refine g_iload_n C dX8_lines_62 rfl ?_
          refine g_if_ne 72 C dX8_lines_63 (by decide) (fun c63 => ?_) (fun c63 => ?_)
          · refine g_aload_n C dX8_lines_72 rfl ?_
            refine g_getR (ci := 8) (k := 1) (q := 3) C dX8_lines_73 rfl inGX8 (by decide) fwX8_19 ly_0 (by decide) rfl rfl ?_
            refine g_getR (ci := 2) (k := 1) (q := 5) C dX8_lines_76 rfl inGX2 (by decide) fwX8_114 ly_3 (by decide) rfl rfl ?_
            refine g_iload_n C dX8_lines_79 rfl ?_
            refine g_aald (q := 6 + 6 * p) p C dX8_lines_80 ly_5 (Or.inl ⟨rfl, rfl⟩) (by decide) (by decide) rfl hp10 (rf_shs hp10) ?_
            refine g_aload_n C dX8_lines_81 rfl ?_
            refine g_getR (ci := 8) (k := 2) (q := 66) C dX8_lines_82 rfl inGX8 (by decide) fwX8_28 ly_0 (by decide) rfl rfl ?_
            refine g_getR (ci := 3) (k := 0) (q := 67) C dX8_lines_85 rfl inGX3 (by decide) fwX8_118 ly_66 (by decide) rfl rfl ?_
            refine gv1V (ci := 5) C dX8_lines_88 vwX5_take mwX8_122 ⟨by decide, by decide⟩ rfl (ly_sh hp10) (ho_sh hp10) (s_take hp10) (Nat.le_of_ble_eq_true rfl) rfl ⟨by decide, by decide⟩ ?_
            refine g_aload_n C dX8_lines_91 rfl ?_
            refine g_iconst (v := 1) C dX8_lines_92 (by decide) ?_
            refine g_putI (ci := 8) (k := 8) .boolean C dX8_lines_93 rfl inGX8 tyX8_ok nmX8 (by decide) fwX8_70 ly_0 (by decide) rfl rfl rfl (by decide) rfl ?_
            refine g_aload_n C dX8_lines_96 rfl ?_
            refine g_aload_n C dX8_lines_97 rfl ?_
            refine g_getR (ci := 8) (k := 1) (q := 3) C dX8_lines_98 rfl inGX8 (by decide) fwX8_19 ly_0 (by decide) rfl rfl ?_
            refine g_getR (ci := 2) (k := 1) (q := 5) C dX8_lines_101 rfl inGX2 (by decide) fwX8_114 ly_3 (by decide) rfl rfl ?_
            refine g_iload_n C dX8_lines_104 rfl ?_
            refine g_aald (q := 6 + 6 * p) p C dX8_lines_105 ly_5 (Or.inl ⟨rfl, rfl⟩) (by decide) (by decide) rfl hp10 (rf_shs hp10) ?_
            refine g_getIv (ci := 5) (k := 5) (v := nI ls.length) C dX8_lines_106 rfl inGX5 (by decide) fwX8_128 (ly_sh hp10) (by omega) rfl (hsz2 _ _ _ _) ?_
            refine gv1I (ci := 8) C dX8_lines_109 vwX8_accept mwX8_88 ⟨by decide, by decide⟩ rfl ly_0 (Nat.le_of_ble_eq_true rfl) (s_accept _) (Nat.le_of_ble_eq_true rfl) rfl ⟨by decide, by decide⟩ ?_
            exact g_iret C dX8_lines_112 rfl rfl rfl (LnR_ok hl rfl)
          · first | exact absurd c63 (by decide) | exact absurd (by decide) c63 | exact absurd rfl c63
      · exact absurd (nI_le he (by omega)) c29
  · first | exact absurd c8 (by decide) | exact absurd (by decide) c8 | exact absurd rfl c8
