/-! ## reading a text -/
def adLs (D : Nat → Nat → Int32) : Nat → List Ln → Nat → Nat → Int32
  | _, [] => D
  | c, ln :: t => adLs (adLn D c ln) (c + 1) t
theorem adLs_app (D : Nat → Nat → Int32) (ln : Ln) : ∀ (acc : List Ln) (c : Nat) (D : Nat → Nat → Int32), adLs D c (acc ++ [ln]) = adLn (adLs D c acc) (c + acc.length) ln
  | [], c, D => rfl
  | x :: t, c, D => by
    show adLs (adLn D c x) (c + 1) (t ++ [ln]) = _
    rw [adLs_app D ln t (c + 1) (adLn D c x)]
    show adLn (adLs (adLn D c x) (c + 1) t) _ ln = adLn (adLs (adLn D c x) (c + 1) t) _ ln
    rw [show c + 1 + t.length = c + (x :: t).length by simp; omega]
theorem adLn_67 (D : Nat → Nat → Int32) (c : Nat) (ln : Ln) : adLn D c ln 67 5 = nI (c + 1) := by
  unfold adLn adL
  simp [up1]
theorem adLn_off {D : Nat → Nat → Int32} {c : Nat} {ln : Ln} {o : Nat} (h : o < 67 ∨ 72 < o) : adLn D c ln o = D o := by
  funext b
  unfold adLn adL up1
  have h1 : ¬ o = 67 := by omega
  have h2 : ¬ o = 68 := by omega
  have h3 : ¬ o = 69 := by omega
  have h4 : ¬ o = 70 := by omega
  have h5 : ¬ o = 71 := by omega
  have h6 : ¬ o = 72 := by omega
  simp [h1, h2, h3, h4, h5, h6]
theorem adLs_off {o : Nat} (h : o < 67 ∨ 72 < o) : ∀ (acc : List Ln) (c : Nat) (D : Nat → Nat → Int32), adLs D c acc o = D o
  | [], _, _ => rfl
  | x :: t, c, D => (adLs_off h t (c + 1) (adLn D c x)).trans (adLn_off h)
theorem adLs_67 : ∀ (acc : List Ln) (c : Nat) (D : Nat → Nat → Int32), D 67 5 = nI c → adLs D c acc 67 5 = nI (c + acc.length)
  | [], _, _, h => h
  | x :: t, c, D, _ => by
    rw [show adLs D c (x :: t) = adLs (adLn D c x) (c + 1) t from rfl, adLs_67 t (c + 1) (adLn D c x) (adLn_67 D c x)]
    rw [show c + 1 + t.length = c + (x :: t).length by simp; omega]
/-- what reading a text comes to -/
def RdT (D : Nat → Nat → Int32) (J : Nat → Nat → Int64) (t : Nat → Nat) (e : Nat) (r : Except Er (List Ln)) : Option Value → Mm → Prop := fun v M' => match r with
  | .ok ls => v = some (.int 1) ∧ ∃ num nm j, M' = mm (rdS (adLs D 0 ls) t e 0 (-1) num nm j) J
  | .error er => v = some (.int 0) ∧ ∃ acc num nm j, M' = mm (rdS (adLs D 0 acc) t e (nI er.1) (nI er.2) num nm j) J
theorem RdT_v {D : Nat → Nat → Int32} {J : Nat → Nat → Int64} {t : Nat → Nat} {e : Nat} {r : Except Er (List Ln)} {v : Option Value} {M : Mm} (h : RdT D J t e r v M) : v = some (.int 0) ∨ v = some (.int 1) := by
  unfold RdT at h
  split at h
  · exact Or.inr h.1
  · exact Or.inl h.1
theorem RdT_er {D : Nat → Nat → Int32} {J : Nat → Nat → Int64} {t : Nat → Nat} {e : Nat} {num nm : Int32} {i' : Nat} {acc : List Ln} {r : Except Er (List Ln)} {er : Er} (h : r = .error er) : RdT D J t e r (some (.int 0)) (mm (rdS (adLs D 0 acc) t e (nI er.1) (nI er.2) num nm i') J) := by
  subst h; exact ⟨rfl, _, _, _, _, rfl⟩
theorem RdT_ok {D : Nat → Nat → Int32} {J : Nat → Nat → Int64} {t : Nat → Nat} {e : Nat} {num nm : Int32} {i' : Nat} {ls : List Ln} {r : Except Er (List Ln)} (h : r = .ok ls) : RdT D J t e r (some (.int 1)) (mm (rdS (adLs D 0 ls) t e 0 (-1) num nm i') J) := by
  subst h; exact ⟨rfl, _, _, _, rfl⟩
theorem pText_er {t : Nat → Nat} {e n g i : Nat} {acc : List Ln} {er : Er} (h : pLine t e n acc.length i = .error er) : pText t e n (g + 1) acc i = .error er := by
  rw [pText, h]
theorem pText_end {t : Nat → Nat} {e n g i j : Nat} {acc : List Ln} {ln : Ln} (h : pLine t e n acc.length i = .ok (ln, j)) (h0 : tk t e j = 0) : pText t e n (g + 1) acc i = .ok (acc ++ [ln]) := by
  rw [pText, h]; exact if_pos h0
theorem pText_on {t : Nat → Nat} {e n g i j : Nat} {acc : List Ln} {ln : Ln} (h : pLine t e n acc.length i = .ok (ln, j)) (h0 : tk t e j = 4) : pText t e n (g + 1) acc i = pText t e n g (acc ++ [ln]) (tn t e j) := by
  rw [pText, h]; exact (if_neg (by rw [h0]; decide)).trans (if_pos h0)
theorem pText_bad {t : Nat → Nat} {e n g i j : Nat} {acc : List Ln} {ln : Ln} (h : pLine t e n acc.length i = .ok (ln, j)) (h0 : ¬ tk t e j = 0) (h4 : ¬ tk t e j = 4) : pText t e n (g + 1) acc i = .error (1, tf t e j) := by
  rw [pText, h]; exact (if_neg h0).trans (if_neg h4)
def D0r (I : Nat → Nat → Int32) (e np : Nat) : Nat → Nat → Int32 := up1 (up1 (up1 I 67 5 0) 66 4 (nI e)) 66 5 (nI np)
section D0
variable {I : Nat → Nat → Int32} {e np : Nat}
theorem D0r_off {o : Nat} (h : o ≠ 67) (h2 : o ≠ 66) : D0r I e np o = I o := by unfold D0r; rw [up1_off h2, up1_off h2, up1_off h]
theorem D0r_4 : D0r I e np 66 4 = nI e := by simp [D0r, up1]
theorem D0r_5 : D0r I e np 66 5 = nI np := by simp [D0r, up1]
theorem D0r_67 : D0r I e np 67 5 = nI 0 := by simp [D0r, up1]; rfl
theorem D0_by {t : Nat → Nat} (hB : byOK I t) : byOK (up1 (up1 (up1 (up1 (up1 (up1 I 67 5 0) 66 2 0) 66 3 (-1)) 66 4 (nI e)) 66 5 (nI np)) 66 8 0) t := fun j hj => by
  simp only [up1_off (show (2 : Nat) ≠ 66 by decide), up1_off (show (2 : Nat) ≠ 67 by decide)]
  exact hB j hj
theorem D0_4 : up1 (up1 (up1 (up1 (up1 (up1 I 67 5 0) 66 2 0) 66 3 (-1)) 66 4 (nI e)) 66 5 (nI np)) 66 8 0 66 4 = nI e := by simp [up1]
theorem D0_8 : up1 (up1 (up1 (up1 (up1 (up1 I 67 5 0) 66 2 0) 66 3 (-1)) 66 4 (nI e)) 66 5 (nI np)) 66 8 0 66 8 = nI 0 := by simp [up1]; rfl
end D0
theorem rd_start {I : Nat → Nat → Int32} {t : Nat → Nat} {e np : Nat} : up1 (up1 (up1 (up1 (up1 (up1 (up1 (up1 (up1 I 67 5 0) 66 2 0) 66 3 (-1)) 66 4 (nI e)) 66 5 (nI np)) 66 8 0) 66 7 (nI (tf t e 0))) 66 8 (nI (tn t e 0))) 66 6 (nI (tk t e 0)) = rdS (D0r I e np) t e 0 (-1) (I 66 9) (I 66 10) 0 := by
  funext a b
  unfold rdS D0r up1
  by_cases h : a = 66
  · subst h
    match b with
    | 0 | 1 | 2 | 3 | 4 | 5 | 6 | 7 | 8 | 9 | 10 => simp
    | b + 11 => simp
  · simp [h]
set_option maxHeartbeats 1000000 in
theorem s_read {l : Launch} {G : Gm} {I : Nat → Nat → Int32} {J : Nat → Nat → Int64} {t : Nat → Nat} {e np : Nat} (hB : byOK I t) (he3 : e ≤ 300) (hnn : np < 2 ^ 31) : Sp l G iX3_read [.ref (G.1 + 66), .int (nI e), .int (nI np)] (mm I J) (RdT (D0r I e np) J t e (pText t e np 13 [] 0)) noT := by
  refine Sp.of (by decide +kernel) (Nat.le_of_ble_eq_true rfl) ?_
  intro X hXl C
  subst hXl
  show Go X G 4 0 0 _ 0 [.ref (G.1 + 66), .int (nI e), .int (nI np), uu] [] (mm I J)
  have hB0 : ∀ acc : List Ln, byOK (adLs (D0r I e np) 0 acc) t := fun acc j hj => by
    rw [adLs_off (Or.inl (by decide)), D0r_off (by decide) (by decide)]
    exact hB j hj
  have he0 : ∀ acc : List Ln, adLs (D0r I e np) 0 acc 66 4 = nI e := fun acc => by
    rw [adLs_off (Or.inl (by decide))]
    exact D0r_4
  have hn0 : ∀ acc : List Ln, adLs (D0r I e np) 0 acc 66 5 = nI np := fun acc => by
    rw [adLs_off (Or.inl (by decide))]
    exact D0r_5
  have hc0 : ∀ acc : List Ln, adLs (D0r I e np) 0 acc 67 5 = nI acc.length := fun acc => by
    rw [adLs_67 acc 0 (D0r I e np) D0r_67, Nat.zero_add]
  have loop : ∀ (g : Nat) (acc : List Ln) (num nm : Int32) (i : Nat), acc.length + g = 13 → i ≤ e → Go X G 4 0 0 (KQ X G iX3_read (RdT (D0r I e np) J t e (pText t e np g acc i)) noT) 39 [.ref (G.1 + 66), .int (nI e), .int (nI np), .int (nI acc.length)] [] (mm (rdS (adLs (D0r I e np) 0 acc) t e 0 (-1) num nm i) J) := by
    intro g
    induction g with
    | zero =>
      intro acc num nm i hg hi
      refine g_iload_n C dX3_read_39 rfl ?_
      refine g_bipush (v := 12) C dX3_read_40 (by decide) ?_
      refine g_icmp_gt 87 C dX3_read_42 (by decide) (fun c42 => ?_) (fun c42 => ?_)
      · skip
        refine g_aload_n C dX3_read_87 rfl ?_
        refine g_iconst (v := 4) C dX3_read_88 (by decide) ?_
        refine gv1I (ci := 3) C dX3_read_89 vwX3_fail mwX3_51 ⟨by decide, by decide⟩ rfl ly_66 (Nat.le_of_ble_eq_true rfl) (s_fail (hB0 acc) (he0 acc) he3 hi _) (Nat.le_of_ble_eq_true rfl) rfl ⟨by decide, by decide⟩ ?_
        exact g_zret C dX3_read_92 rfl rfl rfl (by decide) (RdT_er (er := (4, tf t e i)) rfl)
      · exact absurd (show (12 : Int32) < nI acc.length from (nI_ltI (a := 12) (by decide) (by omega)).mpr (by omega)) c42
    | succ g ih =>
      intro acc num nm i hg hi
      refine g_iload_n C dX3_read_39 rfl ?_
      refine g_bipush (v := 12) C dX3_read_40 (by decide) ?_
      refine g_icmp_gt 87 C dX3_read_42 (by decide) (fun c42 => ?_) (fun c42 => ?_)
      · exact absurd ((nI_ltI (a := 12) (by decide) (by omega)).mp c42) (by omega)
      · skip
        refine g_aload_n C dX3_read_45 rfl ?_
        rcases hl : pLine t e np acc.length i with er | ⟨ln, j⟩
        · skip
          
          refine gv0 (ci := 3) (M1 := mm I J) C dX3_read_46 vwX3_readLine mwX3_44 ⟨by decide, by decide⟩ rfl ly_66 (Nat.le_of_ble_eq_true rfl) (s_readLine (c := acc.length) (hB0 acc) (he0 acc) he3 hi (hc0 acc) (by omega) (hn0 acc) hnn) (Nat.le_of_ble_eq_true rfl) rfl ⟨by decide, by decide⟩ (fun v M2 hP => ?_)
          rw [hl] at hP
          obtain ⟨rfl, num2, nm2, i2, rfl⟩ := hP
          rw [pText_er hl]
          refine g_if_ne 54 C dX3_read_49 (by decide) (fun c49 => ?_) (fun c49 => ?_)
          · first | exact absurd c49 (by decide) | exact absurd (by decide) c49 | exact absurd rfl c49
          · refine g_iconst (v := 0) C dX3_read_52 (by decide) ?_
            exact g_zret C dX3_read_53 rfl rfl rfl (by decide) (RdT_er rfl)
        · skip
          
          refine gv0 (ci := 3) (M1 := mm I J) C dX3_read_46 vwX3_readLine mwX3_44 ⟨by decide, by decide⟩ rfl ly_66 (Nat.le_of_ble_eq_true rfl) (s_readLine (c := acc.length) (hB0 acc) (he0 acc) he3 hi (hc0 acc) (by omega) (hn0 acc) hnn) (Nat.le_of_ble_eq_true rfl) rfl ⟨by decide, by decide⟩ (fun v M2 hP => ?_)
          rw [hl] at hP
          obtain ⟨rfl, hj, num2, nm2, rfl⟩ := hP
          rw [show adLn (adLs (D0r I e np) 0 acc) acc.length ln = adLs (D0r I e np) 0 (acc ++ [ln]) by rw [adLs_app (D0r I e np) ln acc 0, Nat.zero_add]]
          refine g_if_ne 54 C dX3_read_49 (by decide) (fun c49 => ?_) (fun c49 => ?_)
          · refine g_aload_n C dX3_read_54 rfl ?_
            refine g_getIv (ci := 3) (k := 6) (v := nI (tk t e j)) C dX3_read_55 rfl inGX3 (by decide) fwX3_48 ly_66 (by decide) rfl rd_g6 ?_
            refine g_if_ne 63 C dX3_read_58 (by decide) (fun c58 => ?_) (fun c58 => ?_)
            · have g58 : ¬ tk t e j = 0 := fun q => c58 (by rw [q]; rfl)
              refine g_aload_n C dX3_read_63 rfl ?_
              refine g_getIv (ci := 3) (k := 6) (v := nI (tk t e j)) C dX3_read_64 rfl inGX3 (by decide) fwX3_48 ly_66 (by decide) rfl rd_g6 ?_
              refine g_iconst (v := 4) C dX3_read_67 (by decide) ?_
              refine g_icmp_eq 77 C dX3_read_68 (by decide) (fun c68 => ?_) (fun c68 => ?_)
              · have g68 : tk t e j = 4 := (dk (b := 4) (tk_le _ _ _) (by decide)).mp c68
                refine g_aload_n C dX3_read_77 rfl ?_
                refine gv0V (ci := 3) C dX3_read_78 vwX3_advance mwX3_41 ⟨by decide, by decide⟩ rfl ly_66 (Nat.le_of_ble_eq_true rfl) (s_adv (hB0 (acc ++ [ln])) (he0 (acc ++ [ln])) he3 hj) (Nat.le_of_ble_eq_true rfl) rfl ⟨by decide, by decide⟩ ?_
                refine g_iinc_3 C dX3_read_81 rfl (by decide) ?_
                refine g_goto 39 C dX3_read_84 (by decide) ?_
                have := ih (acc ++ [ln]) num2 nm2 (tn t e j) (by rw [List.length_append]; simp; omega) (tn_le hj)
                rw [show nI acc.length + Int32.ofInt 1 = nI (acc ++ [ln]).length by rw [List.length_append]; exact nI_add acc.length 1, pText_on hl g68]
                exact this
              · have g68 : ¬ tk t e j = 4 := fun q => c68 (by rw [q]; rfl)
                refine g_aload_n C dX3_read_71 rfl ?_
                refine g_iconst (v := 1) C dX3_read_72 (by decide) ?_
                refine gv1I (ci := 3) C dX3_read_73 vwX3_fail mwX3_51 ⟨by decide, by decide⟩ rfl ly_66 (Nat.le_of_ble_eq_true rfl) (s_fail (hB0 (acc ++ [ln])) (he0 (acc ++ [ln])) he3 hj _) (Nat.le_of_ble_eq_true rfl) rfl ⟨by decide, by decide⟩ ?_
                exact g_zret C dX3_read_76 rfl rfl rfl (by decide) (RdT_er (er := (1, tf t e j)) (pText_bad hl g58 g68))
            · have g58 : tk t e j = 0 := (dk (b := 0) (tk_le _ _ _) (by decide)).mp c58
              refine g_iconst (v := 1) C dX3_read_61 (by decide) ?_
              exact g_zret C dX3_read_62 rfl rfl rfl (by decide) (RdT_ok (pText_end hl g58))
          · first | exact absurd c49 (by decide) | exact absurd (by decide) c49 | exact absurd rfl c49
  refine g_aload_n C dX3_read_0 rfl ?_
  refine g_getR (ci := 3) (k := 0) (q := 67) C dX3_read_1 rfl inGX3 (by decide) fwX3_12 ly_66 (by decide) rfl rfl ?_
  refine g_iconst (v := 0) C dX3_read_4 (by decide) ?_
  refine g_putI (ci := 5) (k := 5) .int C dX3_read_5 rfl inGX5 tyX5_ok nmX5 (by decide) fwX3_22 ly_67 (by decide) rfl rfl rfl rfl rfl ?_
  refine g_aload_n C dX3_read_8 rfl ?_
  refine g_iconst (v := 0) C dX3_read_9 (by decide) ?_
  refine g_putI (ci := 3) (k := 2) .int C dX3_read_10 rfl inGX3 tyX3_ok nmX3 (by decide) fwX3_26 ly_66 (by decide) rfl rfl rfl rfl rfl ?_
  refine g_aload_n C dX3_read_13 rfl ?_
  refine g_iconst (v := (-1)) C dX3_read_14 (by decide) ?_
  refine g_putI (ci := 3) (k := 3) .int C dX3_read_15 rfl inGX3 tyX3_ok nmX3 (by decide) fwX3_29 ly_66 (by decide) rfl rfl rfl rfl rfl ?_
  refine g_aload_n C dX3_read_18 rfl ?_
  refine g_iload_n C dX3_read_19 rfl ?_
  refine g_putI (ci := 3) (k := 4) .int C dX3_read_20 rfl inGX3 tyX3_ok nmX3 (by decide) fwX3_32 ly_66 (by decide) rfl rfl rfl rfl rfl ?_
  refine g_aload_n C dX3_read_23 rfl ?_
  refine g_iload_n C dX3_read_24 rfl ?_
  refine g_putI (ci := 3) (k := 5) .int C dX3_read_25 rfl inGX3 tyX3_ok nmX3 (by decide) fwX3_35 ly_66 (by decide) rfl rfl rfl rfl rfl ?_
  refine g_aload_n C dX3_read_28 rfl ?_
  refine g_iconst (v := 0) C dX3_read_29 (by decide) ?_
  refine g_putI (ci := 3) (k := 8) .int C dX3_read_30 rfl inGX3 tyX3_ok nmX3 (by decide) fwX3_38 ly_66 (by decide) rfl rfl rfl rfl rfl ?_
  refine g_aload_n C dX3_read_33 rfl ?_
  refine gv0V (ci := 3) C dX3_read_34 vwX3_advance mwX3_41 ⟨by decide, by decide⟩ rfl ly_66 (Nat.le_of_ble_eq_true rfl) (s_advance0 (t := t) (e := e) (i := 0) (D0_by hB) D0_4 he3 (Nat.zero_le _) D0_8) (Nat.le_of_ble_eq_true rfl) rfl ⟨by decide, by decide⟩ ?_
  rw [rd_start]
  refine g_iconst (v := 0) C dX3_read_37 (by decide) ?_
  refine g_istore_3 C dX3_read_38 (by decide) ?_
  have hh := loop 13 [] (I 66 9) (I 66 10) 0 rfl (Nat.zero_le _)
  exact hh
