theorem kdH_in (t : Nat → Nat) (e i : Nat) : kdH t e i = -1 ∨ kdH t e i = 0 ∨ kdH t e i = 1 ∨ kdH t e i = 2 ∨ kdH t e i = 3 ∨ kdH t e i = 4 ∨ kdH t e i = 5 := by
  unfold kdH
  split
  · split
    · split
      · split
        · split
          · split
            · exact Or.inl rfl
            · exact Or.inr (Or.inr (Or.inr (Or.inr (Or.inr (Or.inr rfl)))))
          · exact Or.inr (Or.inr (Or.inr (Or.inr (Or.inr (Or.inl rfl)))))
        · exact Or.inr (Or.inr (Or.inr (Or.inr (Or.inl rfl))))
      · exact Or.inr (Or.inr (Or.inr (Or.inl rfl)))
    · exact Or.inr (Or.inr (Or.inl rfl))
  · exact Or.inr (Or.inl rfl)
section PL
variable {t : Nat → Nat} {e n c i : Nat}
theorem pL_m (h : kdH t e i = -1) : pLine t e n c i = .error (1, tf t e i) := by unfold pLine; rw [if_pos h]
theorem pL_c (h : ¬ kdH t e i = -1) (hc : 12 ≤ c) : pLine t e n c i = .error (4, tf t e i) := by unfold pLine; rw [if_neg h, if_pos hc]
theorem pL_0 (h : kdH t e i = 0) (hc : c < 12) : pLine t e n c i = pGet t e (tn t e i) := by unfold pLine; rw [h, if_neg (by decide), if_neg (by omega), if_pos rfl]
theorem pL_1 (h : kdH t e i = 1) (hc : c < 12) : pLine t e n c i = pLet t e (tn t e i) := by unfold pLine; rw [h, if_neg (by decide), if_neg (by omega), if_neg (by decide), if_pos rfl]
theorem pL_2 (h : kdH t e i = 2) (hc : c < 12) : pLine t e n c i = pAsk t e n (tn t e i) := by unfold pLine; rw [h, if_neg (by decide), if_neg (by omega), if_neg (by decide), if_neg (by decide), if_pos rfl]
theorem pL_3 (h : kdH t e i = 3) (hc : c < 12) : pLine t e n c i = pOut t e 3 9 (tn t e i) := by unfold pLine; rw [h, if_neg (by decide), if_neg (by omega), if_neg (by decide), if_neg (by decide), if_neg (by decide), if_pos rfl]
theorem pL_4 (h : kdH t e i = 4) (hc : c < 12) : pLine t e n c i = pOut t e 4 10 (tn t e i) := by unfold pLine; rw [h, if_neg (by decide), if_neg (by omega), if_neg (by decide), if_neg (by decide), if_neg (by decide), if_neg (by decide), if_pos rfl]
theorem pL_5 (h : kdH t e i = 5) (hc : c < 12) : pLine t e n c i = pRes t e (tn t e i) := by unfold pLine; rw [h, if_neg (by decide), if_neg (by omega), if_neg (by decide), if_neg (by decide), if_neg (by decide), if_neg (by decide), if_neg (by decide)]
end PL
theorem RdR_cast {D : Nat → Nat → Int32} {J : Nat → Nat → Int64} {t : Nat → Nat} {e : Nat} {wr pl : Int32} {c : Nat} {r r' : Except Er (Ln × Nat)} {v : Option Value} {M : Mm} (h : r' = r) (hr : RdR D J t e wr pl c r v M) : RdR D J t e wr pl c r' v M := by rw [h]; exact hr
theorem RdR_v {D : Nat → Nat → Int32} {J : Nat → Nat → Int64} {t : Nat → Nat} {e : Nat} {wr pl : Int32} {c : Nat} {r : Except Er (Ln × Nat)} {v : Option Value} {M : Mm} (h : RdR D J t e wr pl c r v M) : v = some (.int 0) ∨ v = some (.int 1) := by
  unfold RdR at h
  split at h
  · exact Or.inr h.1
  · exact Or.inl h.1
set_option maxHeartbeats 1000000 in
theorem s_readLine {l : Launch} {G : Gm} {D : Nat → Nat → Int32} {J : Nat → Nat → Int64} {t : Nat → Nat} {e : Nat} (hB : byOK D t) (he : D 66 4 = nI e) (he3 : e ≤ 300) {wr pl num nm : Int32} {i : Nat} (hi : i ≤ e) {c : Nat} (hc : D 67 5 = nI c) (hc12 : c ≤ 12) {n : Nat} (hn : D 66 5 = nI n) (hnn : n < 2 ^ 31) : Sp l G iX3_readLine [.ref (G.1 + 66)] (mm (rdS D t e wr pl num nm i) J) (RdR D J t e wr pl c (pLine t e n c i)) noT := by
  refine Sp.of (by decide +kernel) (Nat.le_of_ble_eq_true rfl) ?_
  intro X hXl C
  subst hXl
  show Go X G 2 0 0 _ 0 [.ref (G.1 + 66), uu] [] (mm (rdS D t e wr pl num nm i) J)
  refine g_aload_n C dX3_readLine_0 rfl ?_
  rcases kdH_in t e i with hk | hk | hk | hk | hk | hk | hk
  · skip
    refine gv0I (ci := 3) C dX3_readLine_1 vwX3_kindHere mwX3_55 ⟨by decide, by decide⟩ rfl ly_66 (Nat.le_of_ble_eq_true rfl) (s_kindHere hB he he3 hi) (Nat.le_of_ble_eq_true rfl) rfl ⟨by decide, by decide⟩ ?_
    rw [hk]
    refine g_istore_1 C dX3_readLine_4 (by decide) ?_
    refine g_iload_n C dX3_readLine_5 rfl ?_
    refine g_iconst (v := (-1)) C dX3_readLine_6 (by decide) ?_
    refine g_icmp_ne 16 C dX3_readLine_7 (by decide) (fun c7 => ?_) (fun c7 => ?_)
    · first | exact absurd c7 (by decide) | exact absurd (by decide) c7 | exact absurd rfl c7
    · refine g_aload_n C dX3_readLine_10 rfl ?_
      refine g_iconst (v := 1) C dX3_readLine_11 (by decide) ?_
      refine gv1I (ci := 3) C dX3_readLine_12 vwX3_fail mwX3_51 ⟨by decide, by decide⟩ rfl ly_66 (Nat.le_of_ble_eq_true rfl) (s_fail hB he he3 hi _) (Nat.le_of_ble_eq_true rfl) rfl ⟨by decide, by decide⟩ ?_
      exact g_zret C dX3_readLine_15 rfl rfl rfl (by decide) (Rd_er (er := (1, tf t e i)) (pL_m hk))
  · skip
    refine gv0I (ci := 3) C dX3_readLine_1 vwX3_kindHere mwX3_55 ⟨by decide, by decide⟩ rfl ly_66 (Nat.le_of_ble_eq_true rfl) (s_kindHere hB he he3 hi) (Nat.le_of_ble_eq_true rfl) rfl ⟨by decide, by decide⟩ ?_
    rw [hk]
    refine g_istore_1 C dX3_readLine_4 (by decide) ?_
    refine g_iload_n C dX3_readLine_5 rfl ?_
    refine g_iconst (v := (-1)) C dX3_readLine_6 (by decide) ?_
    refine g_icmp_ne 16 C dX3_readLine_7 (by decide) (fun c7 => ?_) (fun c7 => ?_)
    · refine g_aload_n C dX3_readLine_16 rfl ?_
      refine g_getR (ci := 3) (k := 0) (q := 67) C dX3_readLine_17 rfl inGX3 (by decide) fwX3_12 ly_66 (by decide) rfl rfl ?_
      refine g_getIv (ci := 5) (k := 5) (v := nI c) C dX3_readLine_20 rfl inGX5 (by decide) fwX3_22 ly_67 (by decide) rfl (by rw [rd_off (by decide)]; exact hc) ?_
      refine g_bipush (v := 12) C dX3_readLine_23 (by decide) ?_
      refine g_icmp_lt 34 C dX3_readLine_25 (by decide) (fun c25 => ?_) (fun c25 => ?_)
      · have g25 : c < 12 := nI_t (b := 12) c25 (by omega) (by decide)
        refine g_aload_n C dX3_readLine_34 rfl ?_
        refine gv0V (ci := 3) C dX3_readLine_35 vwX3_advance mwX3_41 ⟨by decide, by decide⟩ rfl ly_66 (Nat.le_of_ble_eq_true rfl) (s_adv hB he he3 hi) (Nat.le_of_ble_eq_true rfl) rfl ⟨by decide, by decide⟩ ?_
        refine g_iload_n C dX3_readLine_38 rfl ?_
        refine g_tabIn 72 C dX3_readLine_39 (by decide) (by decide) rfl (by decide) ?_
        refine g_aload_n C dX3_readLine_72 rfl ?_
        refine g_bipush (v := 16) C dX3_readLine_73 (by decide) ?_
        rcases h1 : pWhole t e (tn t e i) 16 with er | ⟨p, j1⟩
        · skip
          obtain ⟨num2, hsp⟩ := s_thE (l := X.l) (G := G) (J := J) (wr := wr) (pl := pl) (num := num) (nm := nm) hB he he3 (tn_le hi) (b := 16) (by decide) h1
          refine gv1I (ci := 3) C dX3_readLine_75 vwX3_takeWhole mwX3_59 ⟨by decide, by decide⟩ rfl ly_66 (Nat.le_of_ble_eq_true rfl) (hsp) (Nat.le_of_ble_eq_true rfl) rfl ⟨by decide, by decide⟩ ?_
          refine g_if_eq 109 C dX3_readLine_78 (by decide) (fun c78 => ?_) (fun c78 => ?_)
          · refine g_iconst (v := 0) C dX3_readLine_109 (by decide) ?_
            exact g_zret C dX3_readLine_110 rfl rfl rfl (by decide) (Rd_er ((pL_0 hk g25).trans (by simp only [pGet, *])))
          · first | exact absurd c78 (by decide) | exact absurd (by decide) c78 | exact absurd rfl c78
        · skip
          have hj1 : j1 ≤ e := by rw [(pWhole_ok h1).2.2.2]; exact tn_le (tn_le hi)
          refine gv1I (ci := 3) C dX3_readLine_75 vwX3_takeWhole mwX3_59 ⟨by decide, by decide⟩ rfl ly_66 (Nat.le_of_ble_eq_true rfl) (s_thO hB he he3 (tn_le hi) (by decide) h1) (Nat.le_of_ble_eq_true rfl) rfl ⟨by decide, by decide⟩ ?_
          refine g_if_eq 109 C dX3_readLine_78 (by decide) (fun c78 => ?_) (fun c78 => ?_)
          · first | exact absurd c78 (by decide) | exact absurd (by decide) c78 | exact absurd rfl c78
          · refine g_aload_n C dX3_readLine_81 rfl ?_
            refine g_ldcS (i := 6) (tx := "to") C dX3_readLine_82 (by decide +kernel) ?_
            rcases h2 : pWord t e j1 6 with er | j2
            · skip
              skip
              refine gv1I (ci := 3) C dX3_readLine_84 vwX3_takeWord mwX3_64 ⟨by decide, by decide⟩ rfl ly_66 (Nat.le_of_ble_eq_true rfl) (s_twE hB he he3 hj1 (by decide) h2) (Nat.le_of_ble_eq_true rfl) rfl ⟨by decide, by decide⟩ ?_
              refine g_if_eq 109 C dX3_readLine_87 (by decide) (fun c87 => ?_) (fun c87 => ?_)
              · refine g_iconst (v := 0) C dX3_readLine_109 (by decide) ?_
                exact g_zret C dX3_readLine_110 rfl rfl rfl (by decide) (Rd_er ((pL_0 hk g25).trans (by simp only [pGet, *])))
              · first | exact absurd c87 (by decide) | exact absurd (by decide) c87 | exact absurd rfl c87
            · skip
              have hj2 : j2 ≤ e := by rw [(pWord_ok h2).2]; exact tn_le hj1
              refine gv1I (ci := 3) C dX3_readLine_84 vwX3_takeWord mwX3_64 ⟨by decide, by decide⟩ rfl ly_66 (Nat.le_of_ble_eq_true rfl) (s_twO hB he he3 hj1 (by decide) h2) (Nat.le_of_ble_eq_true rfl) rfl ⟨by decide, by decide⟩ ?_
              refine g_if_eq 109 C dX3_readLine_87 (by decide) (fun c87 => ?_) (fun c87 => ?_)
              · first | exact absurd c87 (by decide) | exact absurd (by decide) c87 | exact absurd rfl c87
              · refine g_aload_n C dX3_readLine_90 rfl ?_
                rcases h3 : pName t e j2 with er | ⟨a, j3⟩
                · skip
                  skip
                  refine gv0I (ci := 3) C dX3_readLine_91 vwX3_takeName mwX3_68 ⟨by decide, by decide⟩ rfl ly_66 (Nat.le_of_ble_eq_true rfl) (s_tnE hB he he3 hj2 h3) (Nat.le_of_ble_eq_true rfl) rfl ⟨by decide, by decide⟩ ?_
                  refine g_if_eq 109 C dX3_readLine_94 (by decide) (fun c94 => ?_) (fun c94 => ?_)
                  · refine g_iconst (v := 0) C dX3_readLine_109 (by decide) ?_
                    exact g_zret C dX3_readLine_110 rfl rfl rfl (by decide) (Rd_er ((pL_0 hk g25).trans (by simp only [pGet, *])))
                  · first | exact absurd c94 (by decide) | exact absurd (by decide) c94 | exact absurd rfl c94
                · skip
                  have hj3 : j3 ≤ e := by rw [(pName_ok h3).2.2.1]; exact tn_le hj2
                  refine gv0I (ci := 3) C dX3_readLine_91 vwX3_takeName mwX3_68 ⟨by decide, by decide⟩ rfl ly_66 (Nat.le_of_ble_eq_true rfl) (s_tnO hB he he3 hj2 h3) (Nat.le_of_ble_eq_true rfl) rfl ⟨by decide, by decide⟩ ?_
                  refine g_if_eq 109 C dX3_readLine_94 (by decide) (fun c94 => ?_) (fun c94 => ?_)
                  · first | exact absurd c94 (by decide) | exact absurd (by decide) c94 | exact absurd rfl c94
                  · refine g_aload_n C dX3_readLine_97 rfl ?_
                    refine g_iconst (v := 0) C dX3_readLine_98 (by decide) ?_
                    refine gv1I (ci := 3) C dX3_readLine_99 vwX3_keep mwX3_71 ⟨by decide, by decide⟩ rfl ly_66 (Nat.le_of_ble_eq_true rfl) (s_keepL hB he he3 hj3 hc g25 _) (Nat.le_of_ble_eq_true rfl) rfl ⟨by decide, by decide⟩ ?_
                    refine g_if_eq 109 C dX3_readLine_102 (by decide) (fun c102 => ?_) (fun c102 => ?_)
                    · first | exact absurd c102 (by decide) | exact absurd (by decide) c102 | exact absurd rfl c102
                    · refine g_iconst (v := 1) C dX3_readLine_105 (by decide) ?_
                      refine g_goto 110 C dX3_readLine_106 (by decide) ?_
                      rw [show adL D c 0 (nI p) (nI a) (-1) 0 = adLn D c (0, p, a, -1, []) from rfl]
                      exact g_zret C dX3_readLine_110 rfl rfl rfl (by decide) (Rd_ok ((pL_0 hk g25).trans (by simp only [pGet, *])) hj3)
      · have g25 : 12 ≤ c := nI_nt (b := 12) c25 (by omega) (by decide)
        refine g_aload_n C dX3_readLine_28 rfl ?_
        refine g_iconst (v := 4) C dX3_readLine_29 (by decide) ?_
        refine gv1I (ci := 3) C dX3_readLine_30 vwX3_fail mwX3_51 ⟨by decide, by decide⟩ rfl ly_66 (Nat.le_of_ble_eq_true rfl) (s_fail hB he he3 hi _) (Nat.le_of_ble_eq_true rfl) rfl ⟨by decide, by decide⟩ ?_
        exact g_zret C dX3_readLine_33 rfl rfl rfl (by decide) (Rd_er (er := (4, tf t e i)) (pL_c (by rw [hk]; decide) g25))
    · first | exact absurd c7 (by decide) | exact absurd (by decide) c7 | exact absurd rfl c7
  · skip
    refine gv0I (ci := 3) C dX3_readLine_1 vwX3_kindHere mwX3_55 ⟨by decide, by decide⟩ rfl ly_66 (Nat.le_of_ble_eq_true rfl) (s_kindHere hB he he3 hi) (Nat.le_of_ble_eq_true rfl) rfl ⟨by decide, by decide⟩ ?_
    rw [hk]
    refine g_istore_1 C dX3_readLine_4 (by decide) ?_
    refine g_iload_n C dX3_readLine_5 rfl ?_
    refine g_iconst (v := (-1)) C dX3_readLine_6 (by decide) ?_
    refine g_icmp_ne 16 C dX3_readLine_7 (by decide) (fun c7 => ?_) (fun c7 => ?_)
    · refine g_aload_n C dX3_readLine_16 rfl ?_
      refine g_getR (ci := 3) (k := 0) (q := 67) C dX3_readLine_17 rfl inGX3 (by decide) fwX3_12 ly_66 (by decide) rfl rfl ?_
      refine g_getIv (ci := 5) (k := 5) (v := nI c) C dX3_readLine_20 rfl inGX5 (by decide) fwX3_22 ly_67 (by decide) rfl (by rw [rd_off (by decide)]; exact hc) ?_
      refine g_bipush (v := 12) C dX3_readLine_23 (by decide) ?_
      refine g_icmp_lt 34 C dX3_readLine_25 (by decide) (fun c25 => ?_) (fun c25 => ?_)
      · have g25 : c < 12 := nI_t (b := 12) c25 (by omega) (by decide)
        refine g_aload_n C dX3_readLine_34 rfl ?_
        refine gv0V (ci := 3) C dX3_readLine_35 vwX3_advance mwX3_41 ⟨by decide, by decide⟩ rfl ly_66 (Nat.le_of_ble_eq_true rfl) (s_adv hB he he3 hi) (Nat.le_of_ble_eq_true rfl) rfl ⟨by decide, by decide⟩ ?_
        refine g_iload_n C dX3_readLine_38 rfl ?_
        refine g_tabIn 111 C dX3_readLine_39 (by decide) (by decide) rfl (by decide) ?_
        refine g_aload_n C dX3_readLine_111 rfl ?_
        refine gv0 (ci := 3) (M1 := mm D J) C dX3_readLine_112 vwX3_readLet mwX3_74 ⟨by decide, by decide⟩ rfl ly_66 (Nat.le_of_ble_eq_true rfl) (s_readLet hB he he3 (tn_le hi) hc g25) (Nat.le_of_ble_eq_true rfl) rfl ⟨by decide, by decide⟩ (fun v M2 hP => ?_)
        rcases RdR_v hP with rfl | rfl
        · exact g_zret C dX3_readLine_115 rfl rfl rfl (by decide) (RdR_cast (pL_1 hk g25) hP)
        · exact g_zret C dX3_readLine_115 rfl rfl rfl (by decide) (RdR_cast (pL_1 hk g25) hP)
      · have g25 : 12 ≤ c := nI_nt (b := 12) c25 (by omega) (by decide)
        refine g_aload_n C dX3_readLine_28 rfl ?_
        refine g_iconst (v := 4) C dX3_readLine_29 (by decide) ?_
        refine gv1I (ci := 3) C dX3_readLine_30 vwX3_fail mwX3_51 ⟨by decide, by decide⟩ rfl ly_66 (Nat.le_of_ble_eq_true rfl) (s_fail hB he he3 hi _) (Nat.le_of_ble_eq_true rfl) rfl ⟨by decide, by decide⟩ ?_
        exact g_zret C dX3_readLine_33 rfl rfl rfl (by decide) (Rd_er (er := (4, tf t e i)) (pL_c (by rw [hk]; decide) g25))
    · first | exact absurd c7 (by decide) | exact absurd (by decide) c7 | exact absurd rfl c7
  · skip
    refine gv0I (ci := 3) C dX3_readLine_1 vwX3_kindHere mwX3_55 ⟨by decide, by decide⟩ rfl ly_66 (Nat.le_of_ble_eq_true rfl) (s_kindHere hB he he3 hi) (Nat.le_of_ble_eq_true rfl) rfl ⟨by decide, by decide⟩ ?_
    rw [hk]
    refine g_istore_1 C dX3_readLine_4 (by decide) ?_
    refine g_iload_n C dX3_readLine_5 rfl ?_
    refine g_iconst (v := (-1)) C dX3_readLine_6 (by decide) ?_
    refine g_icmp_ne 16 C dX3_readLine_7 (by decide) (fun c7 => ?_) (fun c7 => ?_)
    · refine g_aload_n C dX3_readLine_16 rfl ?_
      refine g_getR (ci := 3) (k := 0) (q := 67) C dX3_readLine_17 rfl inGX3 (by decide) fwX3_12 ly_66 (by decide) rfl rfl ?_
      refine g_getIv (ci := 5) (k := 5) (v := nI c) C dX3_readLine_20 rfl inGX5 (by decide) fwX3_22 ly_67 (by decide) rfl (by rw [rd_off (by decide)]; exact hc) ?_
      refine g_bipush (v := 12) C dX3_readLine_23 (by decide) ?_
      refine g_icmp_lt 34 C dX3_readLine_25 (by decide) (fun c25 => ?_) (fun c25 => ?_)
      · have g25 : c < 12 := nI_t (b := 12) c25 (by omega) (by decide)
        refine g_aload_n C dX3_readLine_34 rfl ?_
        refine gv0V (ci := 3) C dX3_readLine_35 vwX3_advance mwX3_41 ⟨by decide, by decide⟩ rfl ly_66 (Nat.le_of_ble_eq_true rfl) (s_adv hB he he3 hi) (Nat.le_of_ble_eq_true rfl) rfl ⟨by decide, by decide⟩ ?_
        refine g_iload_n C dX3_readLine_38 rfl ?_
        refine g_tabIn 116 C dX3_readLine_39 (by decide) (by decide) rfl (by decide) ?_
        refine g_aload_n C dX3_readLine_116 rfl ?_
        refine gv0 (ci := 3) (M1 := mm D J) C dX3_readLine_117 vwX3_readAsk mwX3_77 ⟨by decide, by decide⟩ rfl ly_66 (Nat.le_of_ble_eq_true rfl) (s_readAsk hB he he3 (tn_le hi) hc g25 hn hnn) (Nat.le_of_ble_eq_true rfl) rfl ⟨by decide, by decide⟩ (fun v M2 hP => ?_)
        rcases RdR_v hP with rfl | rfl
        · exact g_zret C dX3_readLine_120 rfl rfl rfl (by decide) (RdR_cast (pL_2 hk g25) hP)
        · exact g_zret C dX3_readLine_120 rfl rfl rfl (by decide) (RdR_cast (pL_2 hk g25) hP)
      · have g25 : 12 ≤ c := nI_nt (b := 12) c25 (by omega) (by decide)
        refine g_aload_n C dX3_readLine_28 rfl ?_
        refine g_iconst (v := 4) C dX3_readLine_29 (by decide) ?_
        refine gv1I (ci := 3) C dX3_readLine_30 vwX3_fail mwX3_51 ⟨by decide, by decide⟩ rfl ly_66 (Nat.le_of_ble_eq_true rfl) (s_fail hB he he3 hi _) (Nat.le_of_ble_eq_true rfl) rfl ⟨by decide, by decide⟩ ?_
        exact g_zret C dX3_readLine_33 rfl rfl rfl (by decide) (Rd_er (er := (4, tf t e i)) (pL_c (by rw [hk]; decide) g25))
    · first | exact absurd c7 (by decide) | exact absurd (by decide) c7 | exact absurd rfl c7
  · skip
    refine gv0I (ci := 3) C dX3_readLine_1 vwX3_kindHere mwX3_55 ⟨by decide, by decide⟩ rfl ly_66 (Nat.le_of_ble_eq_true rfl) (s_kindHere hB he he3 hi) (Nat.le_of_ble_eq_true rfl) rfl ⟨by decide, by decide⟩ ?_
    rw [hk]
    refine g_istore_1 C dX3_readLine_4 (by decide) ?_
    refine g_iload_n C dX3_readLine_5 rfl ?_
    refine g_iconst (v := (-1)) C dX3_readLine_6 (by decide) ?_
    refine g_icmp_ne 16 C dX3_readLine_7 (by decide) (fun c7 => ?_) (fun c7 => ?_)
    · refine g_aload_n C dX3_readLine_16 rfl ?_
      refine g_getR (ci := 3) (k := 0) (q := 67) C dX3_readLine_17 rfl inGX3 (by decide) fwX3_12 ly_66 (by decide) rfl rfl ?_
      refine g_getIv (ci := 5) (k := 5) (v := nI c) C dX3_readLine_20 rfl inGX5 (by decide) fwX3_22 ly_67 (by decide) rfl (by rw [rd_off (by decide)]; exact hc) ?_
      refine g_bipush (v := 12) C dX3_readLine_23 (by decide) ?_
      refine g_icmp_lt 34 C dX3_readLine_25 (by decide) (fun c25 => ?_) (fun c25 => ?_)
      · have g25 : c < 12 := nI_t (b := 12) c25 (by omega) (by decide)
        refine g_aload_n C dX3_readLine_34 rfl ?_
        refine gv0V (ci := 3) C dX3_readLine_35 vwX3_advance mwX3_41 ⟨by decide, by decide⟩ rfl ly_66 (Nat.le_of_ble_eq_true rfl) (s_adv hB he he3 hi) (Nat.le_of_ble_eq_true rfl) rfl ⟨by decide, by decide⟩ ?_
        refine g_iload_n C dX3_readLine_38 rfl ?_
        refine g_tabIn 121 C dX3_readLine_39 (by decide) (by decide) rfl (by decide) ?_
        refine g_aload_n C dX3_readLine_121 rfl ?_
        rcases h1 : pName t e (tn t e i) with er | ⟨a, j1⟩
        · skip
          skip
          refine gv0I (ci := 3) C dX3_readLine_122 vwX3_takeName mwX3_68 ⟨by decide, by decide⟩ rfl ly_66 (Nat.le_of_ble_eq_true rfl) (s_tnE hB he he3 (tn_le hi) h1) (Nat.le_of_ble_eq_true rfl) rfl ⟨by decide, by decide⟩ ?_
          refine g_if_eq 158 C dX3_readLine_125 (by decide) (fun c125 => ?_) (fun c125 => ?_)
          · refine g_iconst (v := 0) C dX3_readLine_158 (by decide) ?_
            exact g_zret C dX3_readLine_159 rfl rfl rfl (by decide) (Rd_er ((pL_3 hk g25).trans (by simp only [pOut, *])))
          · first | exact absurd c125 (by decide) | exact absurd (by decide) c125 | exact absurd rfl c125
        · skip
          have hj1 : j1 ≤ e := by rw [(pName_ok h1).2.2.1]; exact tn_le (tn_le hi)
          refine gv0I (ci := 3) C dX3_readLine_122 vwX3_takeName mwX3_68 ⟨by decide, by decide⟩ rfl ly_66 (Nat.le_of_ble_eq_true rfl) (s_tnO hB he he3 (tn_le hi) h1) (Nat.le_of_ble_eq_true rfl) rfl ⟨by decide, by decide⟩ ?_
          refine g_if_eq 158 C dX3_readLine_125 (by decide) (fun c125 => ?_) (fun c125 => ?_)
          · first | exact absurd c125 (by decide) | exact absurd (by decide) c125 | exact absurd rfl c125
          · refine g_aload_n C dX3_readLine_128 rfl ?_
            refine g_ldcS (i := 9) (tx := "by") C dX3_readLine_129 (by decide +kernel) ?_
            rcases h2 : pWord t e j1 9 with er | j2
            · skip
              skip
              refine gv1I (ci := 3) C dX3_readLine_131 vwX3_takeWord mwX3_64 ⟨by decide, by decide⟩ rfl ly_66 (Nat.le_of_ble_eq_true rfl) (s_twE hB he he3 hj1 (by decide) h2) (Nat.le_of_ble_eq_true rfl) rfl ⟨by decide, by decide⟩ ?_
              refine g_if_eq 158 C dX3_readLine_134 (by decide) (fun c134 => ?_) (fun c134 => ?_)
              · refine g_iconst (v := 0) C dX3_readLine_158 (by decide) ?_
                exact g_zret C dX3_readLine_159 rfl rfl rfl (by decide) (Rd_er ((pL_3 hk g25).trans (by simp only [pOut, *])))
              · first | exact absurd c134 (by decide) | exact absurd (by decide) c134 | exact absurd rfl c134
            · skip
              have hj2 : j2 ≤ e := by rw [(pWord_ok h2).2]; exact tn_le hj1
              refine gv1I (ci := 3) C dX3_readLine_131 vwX3_takeWord mwX3_64 ⟨by decide, by decide⟩ rfl ly_66 (Nat.le_of_ble_eq_true rfl) (s_twO hB he he3 hj1 (by decide) h2) (Nat.le_of_ble_eq_true rfl) rfl ⟨by decide, by decide⟩ ?_
              refine g_if_eq 158 C dX3_readLine_134 (by decide) (fun c134 => ?_) (fun c134 => ?_)
              · first | exact absurd c134 (by decide) | exact absurd (by decide) c134 | exact absurd rfl c134
              · refine g_aload_n C dX3_readLine_137 rfl ?_
                refine g_bipush (v := 16) C dX3_readLine_138 (by decide) ?_
                rcases h3 : pWhole t e j2 16 with er | ⟨p, j3⟩
                · skip
                  obtain ⟨num2, hsp⟩ := s_thE (l := X.l) (G := G) (J := J) (wr := wr) (pl := pl) (num := num) (nm := (nI a)) hB he he3 hj2 (b := 16) (by decide) h3
                  refine gv1I (ci := 3) C dX3_readLine_140 vwX3_takeWhole mwX3_59 ⟨by decide, by decide⟩ rfl ly_66 (Nat.le_of_ble_eq_true rfl) (hsp) (Nat.le_of_ble_eq_true rfl) rfl ⟨by decide, by decide⟩ ?_
                  refine g_if_eq 158 C dX3_readLine_143 (by decide) (fun c143 => ?_) (fun c143 => ?_)
                  · refine g_iconst (v := 0) C dX3_readLine_158 (by decide) ?_
                    exact g_zret C dX3_readLine_159 rfl rfl rfl (by decide) (Rd_er ((pL_3 hk g25).trans (by simp only [pOut, *])))
                  · first | exact absurd c143 (by decide) | exact absurd (by decide) c143 | exact absurd rfl c143
                · skip
                  have hj3 : j3 ≤ e := by rw [(pWhole_ok h3).2.2.2]; exact tn_le hj2
                  refine gv1I (ci := 3) C dX3_readLine_140 vwX3_takeWhole mwX3_59 ⟨by decide, by decide⟩ rfl ly_66 (Nat.le_of_ble_eq_true rfl) (s_thO hB he he3 hj2 (by decide) h3) (Nat.le_of_ble_eq_true rfl) rfl ⟨by decide, by decide⟩ ?_
                  refine g_if_eq 158 C dX3_readLine_143 (by decide) (fun c143 => ?_) (fun c143 => ?_)
                  · first | exact absurd c143 (by decide) | exact absurd (by decide) c143 | exact absurd rfl c143
                  · refine g_aload_n C dX3_readLine_146 rfl ?_
                    refine g_iconst (v := 3) C dX3_readLine_147 (by decide) ?_
                    refine gv1I (ci := 3) C dX3_readLine_148 vwX3_keep mwX3_71 ⟨by decide, by decide⟩ rfl ly_66 (Nat.le_of_ble_eq_true rfl) (s_keepL hB he he3 hj3 hc g25 _) (Nat.le_of_ble_eq_true rfl) rfl ⟨by decide, by decide⟩ ?_
                    refine g_if_eq 158 C dX3_readLine_151 (by decide) (fun c151 => ?_) (fun c151 => ?_)
                    · first | exact absurd c151 (by decide) | exact absurd (by decide) c151 | exact absurd rfl c151
                    · refine g_iconst (v := 1) C dX3_readLine_154 (by decide) ?_
                      refine g_goto 159 C dX3_readLine_155 (by decide) ?_
                      rw [show adL D c 3 (nI p) (nI a) (-1) 0 = adLn D c (3, p, a, -1, []) from rfl]
                      exact g_zret C dX3_readLine_159 rfl rfl rfl (by decide) (Rd_ok ((pL_3 hk g25).trans (by simp only [pOut, *])) hj3)
      · have g25 : 12 ≤ c := nI_nt (b := 12) c25 (by omega) (by decide)
        refine g_aload_n C dX3_readLine_28 rfl ?_
        refine g_iconst (v := 4) C dX3_readLine_29 (by decide) ?_
        refine gv1I (ci := 3) C dX3_readLine_30 vwX3_fail mwX3_51 ⟨by decide, by decide⟩ rfl ly_66 (Nat.le_of_ble_eq_true rfl) (s_fail hB he he3 hi _) (Nat.le_of_ble_eq_true rfl) rfl ⟨by decide, by decide⟩ ?_
        exact g_zret C dX3_readLine_33 rfl rfl rfl (by decide) (Rd_er (er := (4, tf t e i)) (pL_c (by rw [hk]; decide) g25))
    · first | exact absurd c7 (by decide) | exact absurd (by decide) c7 | exact absurd rfl c7
  · skip
    refine gv0I (ci := 3) C dX3_readLine_1 vwX3_kindHere mwX3_55 ⟨by decide, by decide⟩ rfl ly_66 (Nat.le_of_ble_eq_true rfl) (s_kindHere hB he he3 hi) (Nat.le_of_ble_eq_true rfl) rfl ⟨by decide, by decide⟩ ?_
    rw [hk]
    refine g_istore_1 C dX3_readLine_4 (by decide) ?_
    refine g_iload_n C dX3_readLine_5 rfl ?_
    refine g_iconst (v := (-1)) C dX3_readLine_6 (by decide) ?_
    refine g_icmp_ne 16 C dX3_readLine_7 (by decide) (fun c7 => ?_) (fun c7 => ?_)
    · refine g_aload_n C dX3_readLine_16 rfl ?_
      refine g_getR (ci := 3) (k := 0) (q := 67) C dX3_readLine_17 rfl inGX3 (by decide) fwX3_12 ly_66 (by decide) rfl rfl ?_
      refine g_getIv (ci := 5) (k := 5) (v := nI c) C dX3_readLine_20 rfl inGX5 (by decide) fwX3_22 ly_67 (by decide) rfl (by rw [rd_off (by decide)]; exact hc) ?_
      refine g_bipush (v := 12) C dX3_readLine_23 (by decide) ?_
      refine g_icmp_lt 34 C dX3_readLine_25 (by decide) (fun c25 => ?_) (fun c25 => ?_)
      · have g25 : c < 12 := nI_t (b := 12) c25 (by omega) (by decide)
        refine g_aload_n C dX3_readLine_34 rfl ?_
        refine gv0V (ci := 3) C dX3_readLine_35 vwX3_advance mwX3_41 ⟨by decide, by decide⟩ rfl ly_66 (Nat.le_of_ble_eq_true rfl) (s_adv hB he he3 hi) (Nat.le_of_ble_eq_true rfl) rfl ⟨by decide, by decide⟩ ?_
        refine g_iload_n C dX3_readLine_38 rfl ?_
        refine g_tabIn 160 C dX3_readLine_39 (by decide) (by decide) rfl (by decide) ?_
        refine g_aload_n C dX3_readLine_160 rfl ?_
        rcases h1 : pName t e (tn t e i) with er | ⟨a, j1⟩
        · skip
          skip
          refine gv0I (ci := 3) C dX3_readLine_161 vwX3_takeName mwX3_68 ⟨by decide, by decide⟩ rfl ly_66 (Nat.le_of_ble_eq_true rfl) (s_tnE hB he he3 (tn_le hi) h1) (Nat.le_of_ble_eq_true rfl) rfl ⟨by decide, by decide⟩ ?_
          refine g_if_eq 197 C dX3_readLine_164 (by decide) (fun c164 => ?_) (fun c164 => ?_)
          · refine g_iconst (v := 0) C dX3_readLine_197 (by decide) ?_
            exact g_zret C dX3_readLine_198 rfl rfl rfl (by decide) (Rd_er ((pL_4 hk g25).trans (by simp only [pOut, *])))
          · first | exact absurd c164 (by decide) | exact absurd (by decide) c164 | exact absurd rfl c164
        · skip
          have hj1 : j1 ≤ e := by rw [(pName_ok h1).2.2.1]; exact tn_le (tn_le hi)
          refine gv0I (ci := 3) C dX3_readLine_161 vwX3_takeName mwX3_68 ⟨by decide, by decide⟩ rfl ly_66 (Nat.le_of_ble_eq_true rfl) (s_tnO hB he he3 (tn_le hi) h1) (Nat.le_of_ble_eq_true rfl) rfl ⟨by decide, by decide⟩ ?_
          refine g_if_eq 197 C dX3_readLine_164 (by decide) (fun c164 => ?_) (fun c164 => ?_)
          · first | exact absurd c164 (by decide) | exact absurd (by decide) c164 | exact absurd rfl c164
          · refine g_aload_n C dX3_readLine_167 rfl ?_
            refine g_ldcS (i := 10) (tx := "of") C dX3_readLine_168 (by decide +kernel) ?_
            rcases h2 : pWord t e j1 10 with er | j2
            · skip
              skip
              refine gv1I (ci := 3) C dX3_readLine_170 vwX3_takeWord mwX3_64 ⟨by decide, by decide⟩ rfl ly_66 (Nat.le_of_ble_eq_true rfl) (s_twE hB he he3 hj1 (by decide) h2) (Nat.le_of_ble_eq_true rfl) rfl ⟨by decide, by decide⟩ ?_
              refine g_if_eq 197 C dX3_readLine_173 (by decide) (fun c173 => ?_) (fun c173 => ?_)
              · refine g_iconst (v := 0) C dX3_readLine_197 (by decide) ?_
                exact g_zret C dX3_readLine_198 rfl rfl rfl (by decide) (Rd_er ((pL_4 hk g25).trans (by simp only [pOut, *])))
              · first | exact absurd c173 (by decide) | exact absurd (by decide) c173 | exact absurd rfl c173
            · skip
              have hj2 : j2 ≤ e := by rw [(pWord_ok h2).2]; exact tn_le hj1
              refine gv1I (ci := 3) C dX3_readLine_170 vwX3_takeWord mwX3_64 ⟨by decide, by decide⟩ rfl ly_66 (Nat.le_of_ble_eq_true rfl) (s_twO hB he he3 hj1 (by decide) h2) (Nat.le_of_ble_eq_true rfl) rfl ⟨by decide, by decide⟩ ?_
              refine g_if_eq 197 C dX3_readLine_173 (by decide) (fun c173 => ?_) (fun c173 => ?_)
              · first | exact absurd c173 (by decide) | exact absurd (by decide) c173 | exact absurd rfl c173
              · refine g_aload_n C dX3_readLine_176 rfl ?_
                refine g_bipush (v := 16) C dX3_readLine_177 (by decide) ?_
                rcases h3 : pWhole t e j2 16 with er | ⟨p, j3⟩
                · skip
                  obtain ⟨num2, hsp⟩ := s_thE (l := X.l) (G := G) (J := J) (wr := wr) (pl := pl) (num := num) (nm := (nI a)) hB he he3 hj2 (b := 16) (by decide) h3
                  refine gv1I (ci := 3) C dX3_readLine_179 vwX3_takeWhole mwX3_59 ⟨by decide, by decide⟩ rfl ly_66 (Nat.le_of_ble_eq_true rfl) (hsp) (Nat.le_of_ble_eq_true rfl) rfl ⟨by decide, by decide⟩ ?_
                  refine g_if_eq 197 C dX3_readLine_182 (by decide) (fun c182 => ?_) (fun c182 => ?_)
                  · refine g_iconst (v := 0) C dX3_readLine_197 (by decide) ?_
                    exact g_zret C dX3_readLine_198 rfl rfl rfl (by decide) (Rd_er ((pL_4 hk g25).trans (by simp only [pOut, *])))
                  · first | exact absurd c182 (by decide) | exact absurd (by decide) c182 | exact absurd rfl c182
                · skip
                  have hj3 : j3 ≤ e := by rw [(pWhole_ok h3).2.2.2]; exact tn_le hj2
                  refine gv1I (ci := 3) C dX3_readLine_179 vwX3_takeWhole mwX3_59 ⟨by decide, by decide⟩ rfl ly_66 (Nat.le_of_ble_eq_true rfl) (s_thO hB he he3 hj2 (by decide) h3) (Nat.le_of_ble_eq_true rfl) rfl ⟨by decide, by decide⟩ ?_
                  refine g_if_eq 197 C dX3_readLine_182 (by decide) (fun c182 => ?_) (fun c182 => ?_)
                  · first | exact absurd c182 (by decide) | exact absurd (by decide) c182 | exact absurd rfl c182
                  · refine g_aload_n C dX3_readLine_185 rfl ?_
                    refine g_iconst (v := 4) C dX3_readLine_186 (by decide) ?_
                    refine gv1I (ci := 3) C dX3_readLine_187 vwX3_keep mwX3_71 ⟨by decide, by decide⟩ rfl ly_66 (Nat.le_of_ble_eq_true rfl) (s_keepL hB he he3 hj3 hc g25 _) (Nat.le_of_ble_eq_true rfl) rfl ⟨by decide, by decide⟩ ?_
                    refine g_if_eq 197 C dX3_readLine_190 (by decide) (fun c190 => ?_) (fun c190 => ?_)
                    · first | exact absurd c190 (by decide) | exact absurd (by decide) c190 | exact absurd rfl c190
                    · refine g_iconst (v := 1) C dX3_readLine_193 (by decide) ?_
                      refine g_goto 198 C dX3_readLine_194 (by decide) ?_
                      rw [show adL D c 4 (nI p) (nI a) (-1) 0 = adLn D c (4, p, a, -1, []) from rfl]
                      exact g_zret C dX3_readLine_198 rfl rfl rfl (by decide) (Rd_ok ((pL_4 hk g25).trans (by simp only [pOut, *])) hj3)
      · have g25 : 12 ≤ c := nI_nt (b := 12) c25 (by omega) (by decide)
        refine g_aload_n C dX3_readLine_28 rfl ?_
        refine g_iconst (v := 4) C dX3_readLine_29 (by decide) ?_
        refine gv1I (ci := 3) C dX3_readLine_30 vwX3_fail mwX3_51 ⟨by decide, by decide⟩ rfl ly_66 (Nat.le_of_ble_eq_true rfl) (s_fail hB he he3 hi _) (Nat.le_of_ble_eq_true rfl) rfl ⟨by decide, by decide⟩ ?_
        exact g_zret C dX3_readLine_33 rfl rfl rfl (by decide) (Rd_er (er := (4, tf t e i)) (pL_c (by rw [hk]; decide) g25))
    · first | exact absurd c7 (by decide) | exact absurd (by decide) c7 | exact absurd rfl c7
  · skip
    refine gv0I (ci := 3) C dX3_readLine_1 vwX3_kindHere mwX3_55 ⟨by decide, by decide⟩ rfl ly_66 (Nat.le_of_ble_eq_true rfl) (s_kindHere hB he he3 hi) (Nat.le_of_ble_eq_true rfl) rfl ⟨by decide, by decide⟩ ?_
    rw [hk]
    refine g_istore_1 C dX3_readLine_4 (by decide) ?_
    refine g_iload_n C dX3_readLine_5 rfl ?_
    refine g_iconst (v := (-1)) C dX3_readLine_6 (by decide) ?_
    refine g_icmp_ne 16 C dX3_readLine_7 (by decide) (fun c7 => ?_) (fun c7 => ?_)
    · refine g_aload_n C dX3_readLine_16 rfl ?_
      refine g_getR (ci := 3) (k := 0) (q := 67) C dX3_readLine_17 rfl inGX3 (by decide) fwX3_12 ly_66 (by decide) rfl rfl ?_
      refine g_getIv (ci := 5) (k := 5) (v := nI c) C dX3_readLine_20 rfl inGX5 (by decide) fwX3_22 ly_67 (by decide) rfl (by rw [rd_off (by decide)]; exact hc) ?_
      refine g_bipush (v := 12) C dX3_readLine_23 (by decide) ?_
      refine g_icmp_lt 34 C dX3_readLine_25 (by decide) (fun c25 => ?_) (fun c25 => ?_)
      · have g25 : c < 12 := nI_t (b := 12) c25 (by omega) (by decide)
        refine g_aload_n C dX3_readLine_34 rfl ?_
        refine gv0V (ci := 3) C dX3_readLine_35 vwX3_advance mwX3_41 ⟨by decide, by decide⟩ rfl ly_66 (Nat.le_of_ble_eq_true rfl) (s_adv hB he he3 hi) (Nat.le_of_ble_eq_true rfl) rfl ⟨by decide, by decide⟩ ?_
        refine g_iload_n C dX3_readLine_38 rfl ?_
        refine g_tabOut 199 C dX3_readLine_39 (by decide) (by decide) ?_
        refine g_aload_n C dX3_readLine_199 rfl ?_
        refine g_iconst (v := 0) C dX3_readLine_200 (by decide) ?_
        refine g_putI (ci := 3) (k := 9) .int C dX3_readLine_201 rfl inGX3 tyX3_ok nmX3 (by decide) fwX3_84 ly_66 (by decide) rfl rfl rfl rfl rfl ?_
        rw [rd_9]
        refine g_aload_n C dX3_readLine_204 rfl ?_
        rcases h1 : pName t e (tn t e i) with er | ⟨a, j1⟩
        · skip
          skip
          refine gv0I (ci := 3) C dX3_readLine_205 vwX3_takeName mwX3_68 ⟨by decide, by decide⟩ rfl ly_66 (Nat.le_of_ble_eq_true rfl) (s_tnE hB he he3 (tn_le hi) h1) (Nat.le_of_ble_eq_true rfl) rfl ⟨by decide, by decide⟩ ?_
          refine g_if_eq 223 C dX3_readLine_208 (by decide) (fun c208 => ?_) (fun c208 => ?_)
          · refine g_iconst (v := 0) C dX3_readLine_223 (by decide) ?_
            exact g_zret C dX3_readLine_224 rfl rfl rfl (by decide) (Rd_er ((pL_5 hk g25).trans (by simp only [pRes, *])))
          · first | exact absurd c208 (by decide) | exact absurd (by decide) c208 | exact absurd rfl c208
        · skip
          have hj1 : j1 ≤ e := by rw [(pName_ok h1).2.2.1]; exact tn_le (tn_le hi)
          refine gv0I (ci := 3) C dX3_readLine_205 vwX3_takeName mwX3_68 ⟨by decide, by decide⟩ rfl ly_66 (Nat.le_of_ble_eq_true rfl) (s_tnO hB he he3 (tn_le hi) h1) (Nat.le_of_ble_eq_true rfl) rfl ⟨by decide, by decide⟩ ?_
          refine g_if_eq 223 C dX3_readLine_208 (by decide) (fun c208 => ?_) (fun c208 => ?_)
          · first | exact absurd c208 (by decide) | exact absurd (by decide) c208 | exact absurd rfl c208
          · refine g_aload_n C dX3_readLine_211 rfl ?_
            refine g_iconst (v := 5) C dX3_readLine_212 (by decide) ?_
            refine gv1I (ci := 3) C dX3_readLine_213 vwX3_keep mwX3_71 ⟨by decide, by decide⟩ rfl ly_66 (Nat.le_of_ble_eq_true rfl) (s_keepL hB he he3 hj1 hc g25 _) (Nat.le_of_ble_eq_true rfl) rfl ⟨by decide, by decide⟩ ?_
            refine g_if_eq 223 C dX3_readLine_216 (by decide) (fun c216 => ?_) (fun c216 => ?_)
            · first | exact absurd c216 (by decide) | exact absurd (by decide) c216 | exact absurd rfl c216
            · refine g_iconst (v := 1) C dX3_readLine_219 (by decide) ?_
              refine g_goto 224 C dX3_readLine_220 (by decide) ?_
              rw [show adL D c 5 0 (nI a) (-1) 0 = adLn D c (5, 0, a, -1, []) from rfl]
              exact g_zret C dX3_readLine_224 rfl rfl rfl (by decide) (Rd_ok ((pL_5 hk g25).trans (by simp only [pRes, *])) hj1)
      · have g25 : 12 ≤ c := nI_nt (b := 12) c25 (by omega) (by decide)
        refine g_aload_n C dX3_readLine_28 rfl ?_
        refine g_iconst (v := 4) C dX3_readLine_29 (by decide) ?_
        refine gv1I (ci := 3) C dX3_readLine_30 vwX3_fail mwX3_51 ⟨by decide, by decide⟩ rfl ly_66 (Nat.le_of_ble_eq_true rfl) (s_fail hB he he3 hi _) (Nat.le_of_ble_eq_true rfl) rfl ⟨by decide, by decide⟩ ?_
        exact g_zret C dX3_readLine_33 rfl rfl rfl (by decide) (Rd_er (er := (4, tf t e i)) (pL_c (by rw [hk]; decide) g25))
    · first | exact absurd c7 (by decide) | exact absurd (by decide) c7 | exact absurd rfl c7
