def secL (acc : List Nat) : Int32 := if acc.length = 0 then -1 else nI (acc.headD 0)
theorem mskL_app (acc : List Nat) (a : Nat) : mskL (acc ++ [a]) = mskL acc ||| ((1 : Int32) <<< (nI a &&& 31)) := by simp [mskL, List.foldl_append]
theorem pFrom_st {t : Nat → Nat} {e g j a j1 : Nat} {acc : List Nat} (h : pName t e j = .ok (a, j1)) (h3 : tk t e j1 = 3) : pFrom t e (g + 1) acc j = pFrom t e g (acc ++ [a]) (tn t e j1) := by
  conv => lhs; unfold pFrom
  simp only [h]
  rw [if_pos h3]
theorem head_app {acc : List Nat} {a : Nat} (h : ¬ acc.length = 0) : (acc ++ [a]).headD 0 = acc.headD 0 := by
  cases acc with
  | nil => exact absurd rfl h
  | cons x l => rfl
set_option maxHeartbeats 1000000 in
theorem s_readLet {l : Launch} {G : Gm} {D : Nat → Nat → Int32} {J : Nat → Nat → Int64} {t : Nat → Nat} {e : Nat} (hB : byOK D t) (he : D 66 4 = nI e) (he3 : e ≤ 300) {wr pl num nm : Int32} {i : Nat} (hi : i ≤ e) {c : Nat} (hc : D 67 5 = nI c) (hc12 : c < 12) : Sp l G iX3_readLet [.ref (G.1 + 66)] (mm (rdS D t e wr pl num nm i) J) (RdR D J t e wr pl c (pLet t e i)) noT := by
  refine Sp.of (by decide +kernel) (Nat.le_of_ble_eq_true rfl) ?_
  intro X hXl C
  subst hXl
  show Go X G 5 0 0 _ 0 [.ref (G.1 + 66), uu, uu, uu, uu] [] (mm (rdS D t e wr pl num nm i) J)
  refine g_aload_n C dX3_readLet_0 rfl ?_
  rcases h1 : pName t e i with er | ⟨f, j1⟩
  · skip
    skip
    refine gv0I (ci := 3) C dX3_readLet_1 vwX3_takeName mwX3_68 ⟨by decide, by decide⟩ rfl ly_66 (Nat.le_of_ble_eq_true rfl) (s_tnE hB he he3 hi h1) (Nat.le_of_ble_eq_true rfl) rfl ⟨by decide, by decide⟩ ?_
    refine g_if_eq 16 C dX3_readLet_4 (by decide) (fun c4 => ?_) (fun c4 => ?_)
    · refine g_iconst (v := 0) C dX3_readLet_16 (by decide) ?_
      exact g_zret C dX3_readLet_17 rfl rfl rfl (by decide) (Rd_er (by simp only [pLet, *]))
    · first | exact absurd c4 (by decide) | exact absurd (by decide) c4 | exact absurd rfl c4
  · skip
    have hj1 : j1 ≤ e := by rw [(pName_ok h1).2.2.1]; exact tn_le hi
    refine gv0I (ci := 3) C dX3_readLet_1 vwX3_takeName mwX3_68 ⟨by decide, by decide⟩ rfl ly_66 (Nat.le_of_ble_eq_true rfl) (s_tnO hB he he3 hi h1) (Nat.le_of_ble_eq_true rfl) rfl ⟨by decide, by decide⟩ ?_
    refine g_if_eq 16 C dX3_readLet_4 (by decide) (fun c4 => ?_) (fun c4 => ?_)
    · first | exact absurd c4 (by decide) | exact absurd (by decide) c4 | exact absurd rfl c4
    · refine g_aload_n C dX3_readLet_7 rfl ?_
      refine g_ldcS (i := 7) (tx := "from") C dX3_readLet_8 (by decide +kernel) ?_
      rcases h2 : pWord t e j1 7 with er | j2
      · skip
        skip
        refine gv1I (ci := 3) C dX3_readLet_10 vwX3_takeWord mwX3_64 ⟨by decide, by decide⟩ rfl ly_66 (Nat.le_of_ble_eq_true rfl) (s_twE hB he he3 hj1 (by decide) h2) (Nat.le_of_ble_eq_true rfl) rfl ⟨by decide, by decide⟩ ?_
        refine g_if_ne 18 C dX3_readLet_13 (by decide) (fun c13 => ?_) (fun c13 => ?_)
        · first | exact absurd c13 (by decide) | exact absurd (by decide) c13 | exact absurd rfl c13
        · refine g_iconst (v := 0) C dX3_readLet_16 (by decide) ?_
          exact g_zret C dX3_readLet_17 rfl rfl rfl (by decide) (Rd_er (by simp only [pLet, *]))
      · skip
        have hj2 : j2 ≤ e := by rw [(pWord_ok h2).2]; exact tn_le hj1
        refine gv1I (ci := 3) C dX3_readLet_10 vwX3_takeWord mwX3_64 ⟨by decide, by decide⟩ rfl ly_66 (Nat.le_of_ble_eq_true rfl) (s_twO hB he he3 hj1 (by decide) h2) (Nat.le_of_ble_eq_true rfl) rfl ⟨by decide, by decide⟩ ?_
        refine g_if_ne 18 C dX3_readLet_13 (by decide) (fun c13 => ?_) (fun c13 => ?_)
        · refine g_aload_n C dX3_readLet_18 rfl ?_
          refine g_getIv (ci := 3) (k := 10) (v := nI f) C dX3_readLet_19 rfl inGX3 (by decide) fwX3_87 ly_66 (by decide) rfl rd_g10 ?_
          refine g_istore_1 C dX3_readLet_22 (by decide) ?_
          have main : ∀ (g : Nat) (acc : List Nat) (j : Nat) (nm2 : Int32), acc.length + g = 4 → j ≤ e → pFrom t e g acc j = pFrom t e 4 [] j2 → Go X G 5 0 0 (KQ X G iX3_readLet (RdR D J t e wr pl c (pLet t e i)) noT) 30 [.ref (G.1 + 66), .int (nI f), .int (secL acc), .int (mskL acc), .int (nI (acc.length + 1))] [] (mm (rdS D t e wr pl num nm2 j) J) := by
            intro g
            induction g with
            | zero =>
              intro acc j nm2 hg hj hf
              rw [show acc.length = 4 by omega]
              refine g_iload C dX3_readLet_30 rfl ?_
              refine g_iconst (v := 4) C dX3_readLet_32 (by decide) ?_
              refine g_icmp_gt 101 C dX3_readLet_33 (by decide) (fun c33 => ?_) (fun c33 => ?_)
              · refine g_aload_n C dX3_readLet_101 rfl ?_
                by_cases g0 : nmC t e j = 0
                · skip
                  refine gv0I (ci := 3) C dX3_readLet_102 vwX3_isName mwX3_96 ⟨by decide, by decide⟩ rfl ly_66 (Nat.le_of_ble_eq_true rfl) (s_isName hB he he3 hj) (Nat.le_of_ble_eq_true rfl) rfl ⟨by decide, by decide⟩ ?_
                  simp only [if_pos g0]
                  refine g_if_eq 120 C dX3_readLet_105 (by decide) (fun c105 => ?_) (fun c105 => ?_)
                  · first | exact absurd c105 (by decide) | exact absurd (by decide) c105 | exact absurd rfl c105
                  · refine g_aload_n C dX3_readLet_108 rfl ?_
                    refine g_iconst (v := 4) C dX3_readLet_109 (by decide) ?_
                    refine gv1I (ci := 3) C dX3_readLet_110 vwX3_fail mwX3_51 ⟨by decide, by decide⟩ rfl ly_66 (Nat.le_of_ble_eq_true rfl) (s_fail hB he he3 hj _) (Nat.le_of_ble_eq_true rfl) rfl ⟨by decide, by decide⟩ ?_
                    refine g_if_eq 120 C dX3_readLet_113 (by decide) (fun c113 => ?_) (fun c113 => ?_)
                    · refine g_iconst (v := 0) C dX3_readLet_120 (by decide) ?_
                      have hR : pFrom t e 4 [] j2 = .error (4, tf t e j) := by rw [← hf]; unfold pFrom; rw [if_pos g0]
                      exact g_zret C dX3_readLet_121 rfl rfl rfl (by decide) (Rd_er (er := (4, tf t e j)) (by simp only [pLet, h1, h2, hR]))
                    · first | exact absurd c113 (by decide) | exact absurd (by decide) c113 | exact absurd rfl c113
                · skip
                  refine gv0I (ci := 3) C dX3_readLet_102 vwX3_isName mwX3_96 ⟨by decide, by decide⟩ rfl ly_66 (Nat.le_of_ble_eq_true rfl) (s_isName hB he he3 hj) (Nat.le_of_ble_eq_true rfl) rfl ⟨by decide, by decide⟩ ?_
                  simp only [if_neg g0]
                  refine g_if_eq 120 C dX3_readLet_105 (by decide) (fun c105 => ?_) (fun c105 => ?_)
                  · refine g_iconst (v := 0) C dX3_readLet_120 (by decide) ?_
                    have hR : pFrom t e 4 [] j2 = .error (nmC t e j, tf t e j) := by rw [← hf]; unfold pFrom; rw [if_neg g0]
                    exact g_zret C dX3_readLet_121 rfl rfl rfl (by decide) (Rd_er (er := (nmC t e j, tf t e j)) (by simp only [pLet, h1, h2, hR]))
                  · first | exact absurd c105 (by decide) | exact absurd (by decide) c105 | exact absurd rfl c105
              · exact absurd (by decide) c33
            | succ g ih =>
              intro acc j nm2 hg hj hf
              refine g_iload C dX3_readLet_30 rfl ?_
              refine g_iconst (v := 4) C dX3_readLet_32 (by decide) ?_
              refine g_icmp_gt 101 C dX3_readLet_33 (by decide) (fun c33 => ?_) (fun c33 => ?_)
              · exact absurd (nI_t (a := 4) c33 (by decide) (by omega)) (by omega)
              · refine g_aload_n C dX3_readLet_36 rfl ?_
                rcases h3 : pName t e j with er | ⟨a, j1⟩
                · skip
                  refine gv0I (ci := 3) C dX3_readLet_37 vwX3_takeName mwX3_68 ⟨by decide, by decide⟩ rfl ly_66 (Nat.le_of_ble_eq_true rfl) (s_tnE hB he he3 hj h3) (Nat.le_of_ble_eq_true rfl) rfl ⟨by decide, by decide⟩ ?_
                  refine g_if_ne 45 C dX3_readLet_40 (by decide) (fun c40 => ?_) (fun c40 => ?_)
                  · first | exact absurd c40 (by decide) | exact absurd (by decide) c40 | exact absurd rfl c40
                  · refine g_iconst (v := 0) C dX3_readLet_43 (by decide) ?_
                    have hR : pFrom t e 4 [] j2 = .error er := by rw [← hf]; unfold pFrom; simp only [h3]
                    exact g_zret C dX3_readLet_44 rfl rfl rfl (by decide) (Rd_er (by simp only [pLet, h1, h2, hR]))
                · skip
                  have hj1 : j1 ≤ e := by rw [(pName_ok h3).2.2.1]; exact tn_le hj
                  refine gv0I (ci := 3) C dX3_readLet_37 vwX3_takeName mwX3_68 ⟨by decide, by decide⟩ rfl ly_66 (Nat.le_of_ble_eq_true rfl) (s_tnO hB he he3 hj h3) (Nat.le_of_ble_eq_true rfl) rfl ⟨by decide, by decide⟩ ?_
                  refine g_if_ne 45 C dX3_readLet_40 (by decide) (fun c40 => ?_) (fun c40 => ?_)
                  · refine g_iload_n C dX3_readLet_45 rfl ?_
                    refine g_iconst (v := 1) C dX3_readLet_46 (by decide) ?_
                    refine g_aload_n C dX3_readLet_47 rfl ?_
                    refine g_getIv (ci := 3) (k := 10) (v := nI a) C dX3_readLet_48 rfl inGX3 (by decide) fwX3_87 ly_66 (by decide) rfl rd_g10 ?_
                    refine g_ishl C dX3_readLet_51 ?_
                    refine g_ior C dX3_readLet_52 ?_
                    refine g_istore_3 C dX3_readLet_53 (by decide) ?_
                    refine g_iload C dX3_readLet_54 rfl ?_
                    refine g_iconst (v := 1) C dX3_readLet_56 (by decide) ?_
                    refine g_icmp_ne 67 C dX3_readLet_57 (by decide) (fun c57 => ?_) (fun c57 => ?_)
                    · have g57 : ¬ acc.length = 0 := fun q => c57 (by rw [q]; rfl)
                      refine g_iload_n C dX3_readLet_67 rfl ?_
                      refine g_istore_2 C dX3_readLet_68 (by decide) ?_
                      refine g_aload_n C dX3_readLet_69 rfl ?_
                      refine g_getIv (ci := 3) (k := 6) (v := nI (tk t e j1)) C dX3_readLet_70 rfl inGX3 (by decide) fwX3_48 ly_66 (by decide) rfl rd_g6 ?_
                      refine g_iconst (v := 3) C dX3_readLet_73 (by decide) ?_
                      refine g_icmp_eq 91 C dX3_readLet_74 (by decide) (fun c74 => ?_) (fun c74 => ?_)
                      · have g74 : tk t e j1 = 3 := (dk (tk_le t e j1) (b := 3) (by decide)).mp c74
                        refine g_aload_n C dX3_readLet_91 rfl ?_
                        refine gv0V (ci := 3) C dX3_readLet_92 vwX3_advance mwX3_41 ⟨by decide, by decide⟩ rfl ly_66 (Nat.le_of_ble_eq_true rfl) (s_adv hB he he3 hj1) (Nat.le_of_ble_eq_true rfl) rfl ⟨by decide, by decide⟩ ?_
                        refine g_iinc_4 C dX3_readLet_95 (nI_1 _) (by decide) ?_
                        refine g_goto 30 C dX3_readLet_98 (by decide) ?_
                        have h8 := ih (acc ++ [a]) (tn t e j1) (nI a) (by simp; omega) (tn_le hj1) (by rw [← hf, pFrom_st h3 g74])
                        rw [mskL_app, List.length_append] at h8
                        first
                          | (rw [show secL (acc ++ [a]) = nI a from by rw [secL, if_neg (by simp), hd1]] at h8; exact h8)
                          | (rw [show secL (acc ++ [a]) = secL acc from by rw [secL, secL, if_neg (by simp), if_neg g57, head_app g57]] at h8; exact h8)
                      · have g74 : ¬ tk t e j1 = 3 := fun q => c74 (by rw [q]; rfl)
                        refine g_aload_n C dX3_readLet_77 rfl ?_
                        refine g_getR (ci := 3) (k := 0) (q := 67) C dX3_readLet_78 rfl inGX3 (by decide) fwX3_12 ly_66 (by decide) rfl rfl ?_
                        refine g_iconst (v := 1) C dX3_readLet_81 (by decide) ?_
                        refine g_iload C dX3_readLet_82 rfl ?_
                        refine g_iload_n C dX3_readLet_84 rfl ?_
                        refine g_iload_n C dX3_readLet_85 rfl ?_
                        refine g_iload_n C dX3_readLet_86 rfl ?_
                        refine gv5I (ci := 5) C dX3_readLet_87 vwX5_add mwX3_90 ⟨by decide, by decide⟩ rfl ly_67 (Nat.le_of_ble_eq_true rfl) (s_sheetAdd (c := c) (by rw [rd_off (by decide)]; exact hc) hc12 _ _ _ _ _) (Nat.le_of_ble_eq_true rfl) rfl ⟨by decide, by decide⟩ ?_
                        rw [adL_rd]
                        have hR : pFrom t e 4 [] j2 = .ok (acc ++ [a], j1) := by rw [← hf]; unfold pFrom; simp only [h3]; rw [if_neg g74]
                        first
                          | rw [show adL D c 1 (nI (acc.length + 1)) (nI f) (nI a) (mskL acc ||| ((1 : Int32) <<< (nI a &&& 31))) = adLn D c (1, (acc ++ [a]).length, f, nI ((acc ++ [a]).headD 0), acc ++ [a]) from by unfold adLn; simp only [mskL_app, List.length_append, hd1]; rfl]
                          | rw [show adL D c 1 (nI (acc.length + 1)) (nI f) (secL acc) (mskL acc ||| ((1 : Int32) <<< (nI a &&& 31))) = adLn D c (1, (acc ++ [a]).length, f, nI ((acc ++ [a]).headD 0), acc ++ [a]) from by unfold adLn; simp only [mskL_app, List.length_append, head_app g57, secL, if_neg g57]; rfl]
                        exact g_zret C dX3_readLet_90 rfl rfl rfl (by decide) (Rd_ok (ln := (1, (acc ++ [a]).length, f, nI ((acc ++ [a]).headD 0), acc ++ [a])) (by simp only [pLet, h1, h2, hR]) hj1)
                    · have g57 : acc.length = 0 := by have := (nIe (show acc.length + 1 < 2 ^ 31 by omega) (b := 1) (by decide)).mp c57; omega
                      have hd1 : (acc ++ [a]).headD 0 = a := by rw [List.length_eq_zero_iff.mp g57]; rfl
                      refine g_aload_n C dX3_readLet_60 rfl ?_
                      refine g_getIv (ci := 3) (k := 10) (v := nI a) C dX3_readLet_61 rfl inGX3 (by decide) fwX3_87 ly_66 (by decide) rfl rd_g10 ?_
                      refine g_goto 68 C dX3_readLet_64 (by decide) ?_
                      refine g_istore_2 C dX3_readLet_68 (by decide) ?_
                      refine g_aload_n C dX3_readLet_69 rfl ?_
                      refine g_getIv (ci := 3) (k := 6) (v := nI (tk t e j1)) C dX3_readLet_70 rfl inGX3 (by decide) fwX3_48 ly_66 (by decide) rfl rd_g6 ?_
                      refine g_iconst (v := 3) C dX3_readLet_73 (by decide) ?_
                      refine g_icmp_eq 91 C dX3_readLet_74 (by decide) (fun c74 => ?_) (fun c74 => ?_)
                      · have g74 : tk t e j1 = 3 := (dk (tk_le t e j1) (b := 3) (by decide)).mp c74
                        refine g_aload_n C dX3_readLet_91 rfl ?_
                        refine gv0V (ci := 3) C dX3_readLet_92 vwX3_advance mwX3_41 ⟨by decide, by decide⟩ rfl ly_66 (Nat.le_of_ble_eq_true rfl) (s_adv hB he he3 hj1) (Nat.le_of_ble_eq_true rfl) rfl ⟨by decide, by decide⟩ ?_
                        refine g_iinc_4 C dX3_readLet_95 (nI_1 _) (by decide) ?_
                        refine g_goto 30 C dX3_readLet_98 (by decide) ?_
                        have h8 := ih (acc ++ [a]) (tn t e j1) (nI a) (by simp; omega) (tn_le hj1) (by rw [← hf, pFrom_st h3 g74])
                        rw [mskL_app, List.length_append] at h8
                        first
                          | (rw [show secL (acc ++ [a]) = nI a from by rw [secL, if_neg (by simp), hd1]] at h8; exact h8)
                          | (rw [show secL (acc ++ [a]) = secL acc from by rw [secL, secL, if_neg (by simp), if_neg g57, head_app g57]] at h8; exact h8)
                      · have g74 : ¬ tk t e j1 = 3 := fun q => c74 (by rw [q]; rfl)
                        refine g_aload_n C dX3_readLet_77 rfl ?_
                        refine g_getR (ci := 3) (k := 0) (q := 67) C dX3_readLet_78 rfl inGX3 (by decide) fwX3_12 ly_66 (by decide) rfl rfl ?_
                        refine g_iconst (v := 1) C dX3_readLet_81 (by decide) ?_
                        refine g_iload C dX3_readLet_82 rfl ?_
                        refine g_iload_n C dX3_readLet_84 rfl ?_
                        refine g_iload_n C dX3_readLet_85 rfl ?_
                        refine g_iload_n C dX3_readLet_86 rfl ?_
                        refine gv5I (ci := 5) C dX3_readLet_87 vwX5_add mwX3_90 ⟨by decide, by decide⟩ rfl ly_67 (Nat.le_of_ble_eq_true rfl) (s_sheetAdd (c := c) (by rw [rd_off (by decide)]; exact hc) hc12 _ _ _ _ _) (Nat.le_of_ble_eq_true rfl) rfl ⟨by decide, by decide⟩ ?_
                        rw [adL_rd]
                        have hR : pFrom t e 4 [] j2 = .ok (acc ++ [a], j1) := by rw [← hf]; unfold pFrom; simp only [h3]; rw [if_neg g74]
                        first
                          | rw [show adL D c 1 (nI (acc.length + 1)) (nI f) (nI a) (mskL acc ||| ((1 : Int32) <<< (nI a &&& 31))) = adLn D c (1, (acc ++ [a]).length, f, nI ((acc ++ [a]).headD 0), acc ++ [a]) from by unfold adLn; simp only [mskL_app, List.length_append, hd1]; rfl]
                          | rw [show adL D c 1 (nI (acc.length + 1)) (nI f) (secL acc) (mskL acc ||| ((1 : Int32) <<< (nI a &&& 31))) = adLn D c (1, (acc ++ [a]).length, f, nI ((acc ++ [a]).headD 0), acc ++ [a]) from by unfold adLn; simp only [mskL_app, List.length_append, head_app g57, secL, if_neg g57]; rfl]
                        exact g_zret C dX3_readLet_90 rfl rfl rfl (by decide) (Rd_ok (ln := (1, (acc ++ [a]).length, f, nI ((acc ++ [a]).headD 0), acc ++ [a])) (by simp only [pLet, h1, h2, hR]) hj1)
                  · first | exact absurd c40 (by decide) | exact absurd (by decide) c40 | exact absurd rfl c40
          refine g_iconst (v := (-1)) C dX3_readLet_23 (by decide) ?_
          refine g_istore_2 C dX3_readLet_24 (by decide) ?_
          refine g_iconst (v := 0) C dX3_readLet_25 (by decide) ?_
          refine g_istore_3 C dX3_readLet_26 (by decide) ?_
          refine g_iconst (v := 1) C dX3_readLet_27 (by decide) ?_
          refine g_istore_4 C dX3_readLet_28 (by decide) ?_
          exact main 4 [] j2 _ rfl hj2 rfl
        · first | exact absurd c13 (by decide) | exact absurd (by decide) c13 | exact absurd rfl c13
