/-! ## what is done by helpers, in the model -/
def hpK (P : Pln) (p k : Nat) (x : Int32) : Int32 := x ||| (if P.kd p k = 2 then bt (P.nu p k) else 0)
def hpP (P : Pln) (part p : Nat) (x : Int32) : Int32 := if ¬ p = part ∧ (x >>> (nI p &&& 31)) &&& 1 = 0 then x else it (hpK P p) (P.ml p) x
def hpQ (P : Pln) (n part : Nat) (x : Int32) : Int32 × Int32 := (it (hpP P part) n x, fg (it (hpP P part) n x) x)
def hpS (P : Pln) (a g : Rw) (x : Int32) (p : Nat) (s : Int32) : Int32 := s ||| (if (x >>> (nI p &&& 31)) &&& 1 = 1 then g p &&& nP P a p else 0)
def hpF (P : Pln) (n : Nat) (a g : Rw) (part : Nat) (x : Int32) : Int32 := it (hpS P a g x) n 0 &&& (g part ^^^ (-1))
set_option maxHeartbeats 1000000 in
theorem s_mhelpedN {l : Launch} {G : Gm} {I : Nat → Nat → Int32} {J : Nat → Nat → Int64} {n : Nat} {P : Pln} (hm : mOK I n P) {F F2 : Nat} (hfu : ∀ g : Rw, fuOK P n g F F2) {part : Nat} (hpa : part < n) (hna : (wA P n F) part = 0) : Sp l G iX10_helped [.ref (G.1 + 103), .int (nI part)] (mm I J) (RetI 0 (mm (akF (T0 I) P n F) J)) noT := by
  refine Sp.of (by decide +kernel) (Nat.le_of_ble_eq_true rfl) ?_
  intro X hXl C
  subst hXl
  show Go X G 6 0 0 _ 0 [.ref (G.1 + 103), .int (nI part), uu, uu, uu, uu] [] (mm I J)
  have hn10 := hm.1.1
  have hn := hm.2.1
  have hpp : ¬ nI part < 0 ∧ nI part < I 103 4 := ⟨nI_pos (by omega), by rw [hn]; exact nI_lt hpa (by omega)⟩
  refine g_aload_n C dX10_helped_0 rfl ?_
  refine g_iconst (v := 0) C dX10_helped_1 (by decide) ?_
  refine g_putI (ci := 10) (k := 0) .int C dX10_helped_2 rfl inGX10 tyX10_ok nmX10 (by decide) fwX10_80 ly_103 (by decide) rfl rfl rfl rfl rfl ?_
  refine g_aload_n C dX10_helped_5 rfl ?_
  refine g_iload_n C dX10_helped_6 rfl ?_
  refine gv1I (ci := 10) C dX10_helped_7 vwX10_isPart mwX10_101 ⟨by decide, by decide⟩ rfl ly_103 (Nat.le_of_ble_eq_true rfl) (s_isPart _) (Nat.le_of_ble_eq_true rfl) rfl ⟨by decide, by decide⟩ ?_
  refine g_if_ne 15 C dX10_helped_10 (by decide) (fun c10 => ?_) (fun c10 => ?_)
  · refine g_aload_n C dX10_helped_15 rfl ?_
    refine gv0V (ci := 10) C dX10_helped_16 vwX10_asks mwX10_231 ⟨by decide, by decide⟩ rfl ly_103 (Nat.le_of_ble_eq_true rfl) (s_asksI (mOK_T0 hm) hfu) (Nat.le_of_ble_eq_true rfl) rfl ⟨by decide, by decide⟩ ?_
    refine g_aload_n C dX10_helped_19 rfl ?_
    refine g_getR (ci := 10) (k := 27) (q := 118) C dX10_helped_20 rfl inGX10 (by decide) fwX10_61 ly_103 (by decide) rfl rfl ?_
    refine g_iload_n C dX10_helped_23 rfl ?_
    refine g_zald part C dX10_helped_24 ly_118 (by decide) (by decide) rfl (show part < 10 by omega) ?_
    refine g_if_ne 30 C dX10_helped_25 (by decide) (fun c25 => ?_) (fun c25 => ?_)
    · exact absurd ((wk_118 (show part < 10 by omega)).trans hna) c25
    · refine g_iconst (v := 0) C dX10_helped_28 (by decide) ?_
      exact e_I C dX10_helped_29 rfl rfl rfl rfl rfl
  · exact absurd hpp (if01.mp c10)
set_option maxHeartbeats 4000000 in
theorem s_mhelped {l : Launch} {G : Gm} {I : Nat → Nat → Int32} {J : Nat → Nat → Int64} {n : Nat} {P : Pln} (hm : mOK I n P) {F F2 : Nat} (hfu : ∀ g : Rw, fuOK P n g F F2) {part : Nat} (hpa : part < n) (hna : ¬ (wA P n F) part = 0) {F3 : Nat} (hE3 : whE (hpQ P n part) F3 0) : Sp l G iX10_helped [.ref (G.1 + 103), .int (nI part)] (mm I J) (RetI (hpF P n (wA P n F) (I 104) part (wh (hpQ P n part) F3 0)) (mm (akF (T0 I) P n F) J)) noT := by
  refine Sp.of (by decide +kernel) (Nat.le_of_ble_eq_true rfl) ?_
  intro X hXl C
  subst hXl
  show Go X G 6 0 0 _ 0 [.ref (G.1 + 103), .int (nI part), uu, uu, uu, uu] [] (mm I J)
  have hn10 := hm.1.1
  have hn := hm.2.1
  have hpp : ¬ nI part < 0 ∧ nI part < I 103 4 := ⟨nI_pos (by omega), by rw [hn]; exact nI_lt hpa (by omega)⟩
  have hmK : mOK (akF (T0 I) P n F) n P := mOK_ak (mOK_T0 hm)
  obtain ⟨hok, hnK, hml, hli⟩ := (show mOK (akF (T0 I) P n F) n P from hmK)
  have h104 : ∀ p : Nat, (akF (T0 I) P n F) 104 p = I 104 p := fun p => by unfold akF; rw [wk_off (Or.inl (by decide)), T0_off (by decide)]
  have l5 : ∀ v3 : Int32, ∀ p : Nat, p ≤ n → Go X G 6 0 0 (KQ X G iX10_helped (RetI (hpF P n (wA P n F) (I 104) part (wh (hpQ P n part) F3 0)) (mm (akF (T0 I) P n F) J)) noT) 144 [.ref (G.1 + 103), .int (nI part), .int (wh (hpQ P n part) F3 0), .int v3, .int (it (hpS P (wA P n F) (I 104) (wh (hpQ P n part) F3 0)) p 0), .int (nI p)] [] (mm (akF (T0 I) P n F) J) := by
    intro v3
    refine loopN (n) ?_ ?_
    · skip
      show Go X G 6 0 0 _ 144 _ [] _
      refine g_iload C dX10_helped_144 rfl ?_
      refine g_aload_n C dX10_helped_146 rfl ?_
      refine g_getIv (ci := 10) (k := 4) (v := nI n) C dX10_helped_147 rfl inGX10 (by decide) fwX10_86 ly_103 (by decide) rfl hnK ?_
      refine g_icmp_ge 192 C dX10_helped_150 (by decide) (fun c150 => ?_) (fun c150 => ?_)
      · refine g_iload C dX10_helped_192 rfl ?_
        refine g_aload_n C dX10_helped_194 rfl ?_
        refine g_getR (ci := 10) (k := 5) (q := 104) C dX10_helped_195 rfl inGX10 (by decide) fwX10_13 ly_103 (by decide) rfl rfl ?_
        refine g_iload_n C dX10_helped_198 rfl ?_
        refine g_ialdv (v := I 104 part) part C dX10_helped_199 ly_104 (by decide) (by decide) rfl (show part < 10 by omega) (h104 part) ?_
        refine g_iconst (v := (-1)) C dX10_helped_200 (by decide) ?_
        refine g_ixor C dX10_helped_201 ?_
        refine g_iand C dX10_helped_202 ?_
        exact e_I C dX10_helped_203 rfl rfl rfl rfl rfl
      · exact absurd (Int32.le_refl _) c150
    · intro p hp ihp 
      show Go X G 6 0 0 _ 144 _ [] _
      refine g_iload C dX10_helped_144 rfl ?_
      refine g_aload_n C dX10_helped_146 rfl ?_
      refine g_getIv (ci := 10) (k := 4) (v := nI n) C dX10_helped_147 rfl inGX10 (by decide) fwX10_86 ly_103 (by decide) rfl hnK ?_
      refine g_icmp_ge 192 C dX10_helped_150 (by decide) (fun c150 => ?_) (fun c150 => ?_)
      · exact (nI_ge_dead (n := n) c150 hp (by omega)).elim
      · refine g_iload C dX10_helped_153 rfl ?_
        refine g_iload_n C dX10_helped_155 rfl ?_
        refine g_iload C dX10_helped_156 rfl ?_
        refine g_ishr C dX10_helped_158 ?_
        refine g_iconst (v := 1) C dX10_helped_159 (by decide) ?_
        refine g_iand C dX10_helped_160 ?_
        refine g_iconst (v := 1) C dX10_helped_161 (by decide) ?_
        refine g_icmp_ne 182 C dX10_helped_162 (by decide) (fun c162 => ?_) (fun c162 => ?_)
        · skip
          refine g_iconst (v := 0) C dX10_helped_182 (by decide) ?_
          refine g_ior C dX10_helped_183 ?_
          refine g_istore_4 C dX10_helped_184 (by decide) ?_
          refine g_iinc_5 C dX10_helped_186 (nI_1 p) (by decide) ?_
          refine g_goto 144 C dX10_helped_189 (by decide) ?_
          first
            | (rw [show it (hpS P (wA P n F) (I 104) (wh (hpQ P n part) F3 0)) (p + 1) 0 = (it (hpS P (wA P n F) (I 104) (wh (hpQ P n part) F3 0)) p 0) ||| (I 104 p &&& nP P (wA P n F) p) from congrArg _ (if_pos c162)] at ihp; exact ihp)
            | (rw [show it (hpS P (wA P n F) (I 104) (wh (hpQ P n part) F3 0)) (p + 1) 0 = (it (hpS P (wA P n F) (I 104) (wh (hpQ P n part) F3 0)) p 0) ||| 0 from congrArg _ (if_neg c162)] at ihp; exact ihp)
        · skip
          refine g_aload_n C dX10_helped_165 rfl ?_
          refine g_getR (ci := 10) (k := 5) (q := 104) C dX10_helped_166 rfl inGX10 (by decide) fwX10_13 ly_103 (by decide) rfl rfl ?_
          refine g_iload C dX10_helped_169 rfl ?_
          refine g_ialdv (v := I 104 p) p C dX10_helped_171 ly_104 (by decide) (by decide) rfl (show p < 10 by omega) (h104 p) ?_
          refine g_aload_n C dX10_helped_172 rfl ?_
          refine g_iload C dX10_helped_173 rfl ?_
          refine gv1I (ci := 10) C dX10_helped_175 vwX10_neededOf mwX10_269 ⟨by decide, by decide⟩ rfl ly_103 (Nat.le_of_ble_eq_true rfl) (s_nP hmK hp) (Nat.le_of_ble_eq_true rfl) rfl ⟨by decide, by decide⟩ ?_
          rw [show nP P ((akF (T0 I) P n F) 118) p = nP P (wA P n F) p from nP_cg (wk_118 (by omega))]
          refine g_iand C dX10_helped_178 ?_
          refine g_goto 183 C dX10_helped_179 (by decide) ?_
          refine g_ior C dX10_helped_183 ?_
          refine g_istore_4 C dX10_helped_184 (by decide) ?_
          refine g_iinc_5 C dX10_helped_186 (nI_1 p) (by decide) ?_
          refine g_goto 144 C dX10_helped_189 (by decide) ?_
          first
            | (rw [show it (hpS P (wA P n F) (I 104) (wh (hpQ P n part) F3 0)) (p + 1) 0 = (it (hpS P (wA P n F) (I 104) (wh (hpQ P n part) F3 0)) p 0) ||| (I 104 p &&& nP P (wA P n F) p) from congrArg _ (if_pos c162)] at ihp; exact ihp)
            | (rw [show it (hpS P (wA P n F) (I 104) (wh (hpQ P n part) F3 0)) (p + 1) 0 = (it (hpS P (wA P n F) (I 104) (wh (hpQ P n part) F3 0)) p 0) ||| 0 from congrArg _ (if_neg c162)] at ihp; exact ihp)
  have lw : ∀ (m : Nat) (x v : Int32), ¬ x = v → whE (hpQ P n part) m x → wh (hpQ P n part) m x = (wh (hpQ P n part) F3 0) → ∀ a4 a5 : Value, Go X G 6 0 0 (KQ X G iX10_helped (RetI (hpF P n (wA P n F) (I 104) part (wh (hpQ P n part) F3 0)) (mm (akF (T0 I) P n F) J)) noT) 34 [.ref (G.1 + 103), .int (nI part), .int x, .int v, a4, a5] [] (mm (akF (T0 I) P n F) J) := by
    intro m
    induction m with
    | zero => intro x v hv hE; exact hE.elim
    | succ m ih =>
      intro x v hv hE he a4 a5
      have hcont : ∀ a4 a5 : Value, Go X G 6 0 0 (KQ X G iX10_helped (RetI (hpF P n (wA P n F) (I 104) part (wh (hpQ P n part) F3 0)) (mm (akF (T0 I) P n F) J)) noT) 34 [.ref (G.1 + 103), .int (nI part), .int ((hpQ P n part) x).1, .int x, a4, a5] [] (mm (akF (T0 I) P n F) J) := by
        intro a4 a5
        by_cases hz : ((hpQ P n part) x).2 = 0
        · have hz2 : ((hpQ P n part) x).1 = x := by
            by_cases q : ((hpQ P n part) x).1 = x
            · exact q
            · exact absurd ((if_neg q).symm.trans hz) (by decide)
          rw [wh, if_pos hz] at he
          rw [hz2] at he ⊢
          rw [he]
          refine g_iload_n C dX10_helped_34 rfl ?_
          refine g_iload_n C dX10_helped_35 rfl ?_
          refine g_icmp_eq 138 C dX10_helped_36 (by decide) (fun c36 => ?_) (fun c36 => ?_)
          · refine g_iconst (v := 0) C dX10_helped_138 (by decide) ?_
            refine g_istore_4 C dX10_helped_139 (by decide) ?_
            refine g_iconst (v := 0) C dX10_helped_141 (by decide) ?_
            refine g_istore_5 C dX10_helped_142 (by decide) ?_
            exact l5 _ 0 (Nat.zero_le _)
          · exact absurd rfl c36
        · have hz2 : ¬ ((hpQ P n part) x).1 = x := fun q => hz (if_pos q)
          exact ih _ _ hz2 (hE.resolve_left hz) (by rw [← he, wh, if_neg hz]) _ _
      have lp : ∀ p : Nat, p ≤ n → ∀ a5 : Value, Go X G 6 0 0 (KQ X G iX10_helped (RetI (hpF P n (wA P n F) (I 104) part (wh (hpQ P n part) F3 0)) (mm (akF (T0 I) P n F) J)) noT) 44 [.ref (G.1 + 103), .int (nI part), .int (it (hpP P part) p x), .int x, .int (nI p), a5] [] (mm (akF (T0 I) P n F) J) := by
        refine loopN (n) ?_ ?_
        · intro a5
          show Go X G 6 0 0 _ 44 _ [] _
          refine g_iload C dX10_helped_44 rfl ?_
          refine g_aload_n C dX10_helped_46 rfl ?_
          refine g_getIv (ci := 10) (k := 4) (v := nI n) C dX10_helped_47 rfl inGX10 (by decide) fwX10_86 ly_103 (by decide) rfl hnK ?_
          refine g_icmp_ge 135 C dX10_helped_50 (by decide) (fun c50 => ?_) (fun c50 => ?_)
          · refine g_goto 34 C dX10_helped_135 (by decide) ?_
            exact hcont _ _
          · exact absurd (Int32.le_refl _) c50
        · intro p hp ihp a5
          show Go X G 6 0 0 _ 44 _ [] _
          refine g_iload C dX10_helped_44 rfl ?_
          refine g_aload_n C dX10_helped_46 rfl ?_
          refine g_getIv (ci := 10) (k := 4) (v := nI n) C dX10_helped_47 rfl inGX10 (by decide) fwX10_86 ly_103 (by decide) rfl hnK ?_
          refine g_icmp_ge 135 C dX10_helped_50 (by decide) (fun c50 => ?_) (fun c50 => ?_)
          · exact (nI_ge_dead (n := n) c50 hp (by omega)).elim
          · refine g_iload C dX10_helped_53 rfl ?_
            refine g_iload_n C dX10_helped_55 rfl ?_
            refine g_icmp_eq 71 C dX10_helped_56 (by decide) (fun c56 => ?_) (fun c56 => ?_)
            · have g56 : p = part := (nI_eq (by omega) (by omega)).mp c56
              refine g_bipush (v := 12) C dX10_helped_71 (by decide) ?_
              refine g_iload C dX10_helped_73 rfl ?_
              refine g_imul C dX10_helped_75 ?_
              rw [mul12]
              refine g_istore_5 C dX10_helped_76 (by decide) ?_
              have hA : ¬ (¬ p = part ∧ ((it (hpP P part) p x) >>> (nI p &&& 31)) &&& 1 = 0) := by
                first
                | exact fun q => q.1 g56
                | exact fun q => c65 q.2
              have inner : ∀ k : Nat, k ≤ P.ml p → Go X G 6 0 0 (KQ X G iX10_helped (RetI (hpF P n (wA P n F) (I 104) part (wh (hpQ P n part) F3 0)) (mm (akF (T0 I) P n F) J)) noT) 78 [.ref (G.1 + 103), .int (nI part), .int (it (hpK P p) k (it (hpP P part) p x)), .int x, .int (nI p), .int (nI (12 * p + k))] [] (mm (akF (T0 I) P n F) J) := by
                refine loopN (P.ml p) ?_ ?_
                · skip
                  show Go X G 6 0 0 _ 78 _ [] _
                  have hm12 := hok.2.1 p
                  refine g_iload C dX10_helped_78 rfl ?_
                  refine g_bipush (v := 12) C dX10_helped_80 (by decide) ?_
                  refine g_iload C dX10_helped_82 rfl ?_
                  refine g_imul C dX10_helped_84 ?_
                  rw [mul12]
                  refine g_aload_n C dX10_helped_85 rfl ?_
                  refine g_getR (ci := 10) (k := 6) (q := 105) C dX10_helped_86 rfl inGX10 (by decide) fwX10_17 ly_103 (by decide) rfl rfl ?_
                  refine g_iload C dX10_helped_89 rfl ?_
                  refine g_ialdv (v := nI (P.ml p)) p C dX10_helped_91 ly_105 (by decide) (by decide) rfl (show p < 11 by omega) (hml p hp) ?_
                  refine g_iadd C dX10_helped_92 ?_
                  rw [nI_add]
                  refine g_icmp_ge 129 C dX10_helped_93 (by decide) (fun c93 => ?_) (fun c93 => ?_)
                  · refine g_iinc_4 C dX10_helped_129 (nI_1 p) (by decide) ?_
                    refine g_goto 44 C dX10_helped_132 (by decide) ?_
                    have h9 : it (hpP P part) (p + 1) x = it (hpK P p) (P.ml p) (it (hpP P part) p x) := if_neg hA
                    rw [h9] at ihp
                    exact ihp _
                  · exact absurd (Int32.le_refl _) c93
                · intro k hk ihk 
                  show Go X G 6 0 0 _ 78 _ [] _
                  have hL := hli p hp k hk
                  have hLo := hok.2.2 p hp k hk
                  have hm12 := hok.2.1 p
                  refine g_iload C dX10_helped_78 rfl ?_
                  refine g_bipush (v := 12) C dX10_helped_80 (by decide) ?_
                  refine g_iload C dX10_helped_82 rfl ?_
                  refine g_imul C dX10_helped_84 ?_
                  rw [mul12]
                  refine g_aload_n C dX10_helped_85 rfl ?_
                  refine g_getR (ci := 10) (k := 6) (q := 105) C dX10_helped_86 rfl inGX10 (by decide) fwX10_17 ly_103 (by decide) rfl rfl ?_
                  refine g_iload C dX10_helped_89 rfl ?_
                  refine g_ialdv (v := nI (P.ml p)) p C dX10_helped_91 ly_105 (by decide) (by decide) rfl (show p < 11 by omega) (hml p hp) ?_
                  refine g_iadd C dX10_helped_92 ?_
                  rw [nI_add]
                  refine g_icmp_ge 129 C dX10_helped_93 (by decide) (fun c93 => ?_) (fun c93 => ?_)
                  · exact (nI_ge_dead (n := 12 * p + P.ml p) c93 (by omega) (by omega)).elim
                  · refine g_iload_n C dX10_helped_96 rfl ?_
                    refine g_aload_n C dX10_helped_97 rfl ?_
                    refine g_getR (ci := 10) (k := 8) (q := 107) C dX10_helped_98 rfl inGX10 (by decide) fwX10_23 ly_103 (by decide) rfl rfl ?_
                    refine g_iload C dX10_helped_101 rfl ?_
                    refine g_ialdv (v := nI (P.kd p k)) (12 * p + k) C dX10_helped_103 ly_107 (by decide) (by decide) rfl (show 12 * p + k < 132 by omega) (hL.1) ?_
                    refine g_iconst (v := 2) C dX10_helped_104 (by decide) ?_
                    refine g_icmp_ne 120 C dX10_helped_105 (by decide) (fun c105 => ?_) (fun c105 => ?_)
                    · have g105 : ¬ P.kd p k = 2 := fun q => c105 (by rw [q]; rfl)
                      refine g_iconst (v := 0) C dX10_helped_120 (by decide) ?_
                      refine g_ior C dX10_helped_121 ?_
                      refine g_istore_2 C dX10_helped_122 (by decide) ?_
                      refine g_iinc_5 C dX10_helped_123 (nI_1 (12 * p + k)) (by decide) ?_
                      refine g_goto 78 C dX10_helped_126 (by decide) ?_
                      first
                        | (rw [show it (hpK P p) (k + 1) (it (hpP P part) p x) = (it (hpK P p) k (it (hpP P part) p x)) ||| bt (P.nu p k) from congrArg _ (if_pos g105)] at ihk; exact ihk)
                        | (rw [show it (hpK P p) (k + 1) (it (hpP P part) p x) = (it (hpK P p) k (it (hpP P part) p x)) ||| 0 from congrArg _ (if_neg g105)] at ihk; exact ihk)
                    · have g105 : P.kd p k = 2 := (nI_eq (b := 2) (by omega) (by decide)).mp c105
                      refine g_iconst (v := 1) C dX10_helped_108 (by decide) ?_
                      refine g_aload_n C dX10_helped_109 rfl ?_
                      refine g_getR (ci := 10) (k := 9) (q := 108) C dX10_helped_110 rfl inGX10 (by decide) fwX10_26 ly_103 (by decide) rfl rfl ?_
                      refine g_iload C dX10_helped_113 rfl ?_
                      refine g_ialdv (v := nI (P.nu p k)) (12 * p + k) C dX10_helped_115 ly_108 (by decide) (by decide) rfl (show 12 * p + k < 132 by omega) (hL.2.1) ?_
                      refine g_ishl C dX10_helped_116 ?_
                      refine g_goto 121 C dX10_helped_117 (by decide) ?_
                      refine g_ior C dX10_helped_121 ?_
                      refine g_istore_2 C dX10_helped_122 (by decide) ?_
                      refine g_iinc_5 C dX10_helped_123 (nI_1 (12 * p + k)) (by decide) ?_
                      refine g_goto 78 C dX10_helped_126 (by decide) ?_
                      first
                        | (rw [show it (hpK P p) (k + 1) (it (hpP P part) p x) = (it (hpK P p) k (it (hpP P part) p x)) ||| bt (P.nu p k) from congrArg _ (if_pos g105)] at ihk; exact ihk)
                        | (rw [show it (hpK P p) (k + 1) (it (hpP P part) p x) = (it (hpK P p) k (it (hpP P part) p x)) ||| 0 from congrArg _ (if_neg g105)] at ihk; exact ihk)
              exact inner 0 (Nat.zero_le _)
            · have g56 : ¬ p = part := fun q => c56 (by rw [q])
              refine g_iload_n C dX10_helped_59 rfl ?_
              refine g_iload C dX10_helped_60 rfl ?_
              refine g_ishr C dX10_helped_62 ?_
              refine g_iconst (v := 1) C dX10_helped_63 (by decide) ?_
              refine g_iand C dX10_helped_64 ?_
              refine g_if_ne 71 C dX10_helped_65 (by decide) (fun c65 => ?_) (fun c65 => ?_)
              · skip
                refine g_bipush (v := 12) C dX10_helped_71 (by decide) ?_
                refine g_iload C dX10_helped_73 rfl ?_
                refine g_imul C dX10_helped_75 ?_
                rw [mul12]
                refine g_istore_5 C dX10_helped_76 (by decide) ?_
                have hA : ¬ (¬ p = part ∧ ((it (hpP P part) p x) >>> (nI p &&& 31)) &&& 1 = 0) := by
                  first
                  | exact fun q => q.1 g56
                  | exact fun q => c65 q.2
                have inner : ∀ k : Nat, k ≤ P.ml p → Go X G 6 0 0 (KQ X G iX10_helped (RetI (hpF P n (wA P n F) (I 104) part (wh (hpQ P n part) F3 0)) (mm (akF (T0 I) P n F) J)) noT) 78 [.ref (G.1 + 103), .int (nI part), .int (it (hpK P p) k (it (hpP P part) p x)), .int x, .int (nI p), .int (nI (12 * p + k))] [] (mm (akF (T0 I) P n F) J) := by
                  refine loopN (P.ml p) ?_ ?_
                  · skip
                    show Go X G 6 0 0 _ 78 _ [] _
                    have hm12 := hok.2.1 p
                    refine g_iload C dX10_helped_78 rfl ?_
                    refine g_bipush (v := 12) C dX10_helped_80 (by decide) ?_
                    refine g_iload C dX10_helped_82 rfl ?_
                    refine g_imul C dX10_helped_84 ?_
                    rw [mul12]
                    refine g_aload_n C dX10_helped_85 rfl ?_
                    refine g_getR (ci := 10) (k := 6) (q := 105) C dX10_helped_86 rfl inGX10 (by decide) fwX10_17 ly_103 (by decide) rfl rfl ?_
                    refine g_iload C dX10_helped_89 rfl ?_
                    refine g_ialdv (v := nI (P.ml p)) p C dX10_helped_91 ly_105 (by decide) (by decide) rfl (show p < 11 by omega) (hml p hp) ?_
                    refine g_iadd C dX10_helped_92 ?_
                    rw [nI_add]
                    refine g_icmp_ge 129 C dX10_helped_93 (by decide) (fun c93 => ?_) (fun c93 => ?_)
                    · refine g_iinc_4 C dX10_helped_129 (nI_1 p) (by decide) ?_
                      refine g_goto 44 C dX10_helped_132 (by decide) ?_
                      have h9 : it (hpP P part) (p + 1) x = it (hpK P p) (P.ml p) (it (hpP P part) p x) := if_neg hA
                      rw [h9] at ihp
                      exact ihp _
                    · exact absurd (Int32.le_refl _) c93
                  · intro k hk ihk 
                    show Go X G 6 0 0 _ 78 _ [] _
                    have hL := hli p hp k hk
                    have hLo := hok.2.2 p hp k hk
                    have hm12 := hok.2.1 p
                    refine g_iload C dX10_helped_78 rfl ?_
                    refine g_bipush (v := 12) C dX10_helped_80 (by decide) ?_
                    refine g_iload C dX10_helped_82 rfl ?_
                    refine g_imul C dX10_helped_84 ?_
                    rw [mul12]
                    refine g_aload_n C dX10_helped_85 rfl ?_
                    refine g_getR (ci := 10) (k := 6) (q := 105) C dX10_helped_86 rfl inGX10 (by decide) fwX10_17 ly_103 (by decide) rfl rfl ?_
                    refine g_iload C dX10_helped_89 rfl ?_
                    refine g_ialdv (v := nI (P.ml p)) p C dX10_helped_91 ly_105 (by decide) (by decide) rfl (show p < 11 by omega) (hml p hp) ?_
                    refine g_iadd C dX10_helped_92 ?_
                    rw [nI_add]
                    refine g_icmp_ge 129 C dX10_helped_93 (by decide) (fun c93 => ?_) (fun c93 => ?_)
                    · exact (nI_ge_dead (n := 12 * p + P.ml p) c93 (by omega) (by omega)).elim
                    · refine g_iload_n C dX10_helped_96 rfl ?_
                      refine g_aload_n C dX10_helped_97 rfl ?_
                      refine g_getR (ci := 10) (k := 8) (q := 107) C dX10_helped_98 rfl inGX10 (by decide) fwX10_23 ly_103 (by decide) rfl rfl ?_
                      refine g_iload C dX10_helped_101 rfl ?_
                      refine g_ialdv (v := nI (P.kd p k)) (12 * p + k) C dX10_helped_103 ly_107 (by decide) (by decide) rfl (show 12 * p + k < 132 by omega) (hL.1) ?_
                      refine g_iconst (v := 2) C dX10_helped_104 (by decide) ?_
                      refine g_icmp_ne 120 C dX10_helped_105 (by decide) (fun c105 => ?_) (fun c105 => ?_)
                      · have g105 : ¬ P.kd p k = 2 := fun q => c105 (by rw [q]; rfl)
                        refine g_iconst (v := 0) C dX10_helped_120 (by decide) ?_
                        refine g_ior C dX10_helped_121 ?_
                        refine g_istore_2 C dX10_helped_122 (by decide) ?_
                        refine g_iinc_5 C dX10_helped_123 (nI_1 (12 * p + k)) (by decide) ?_
                        refine g_goto 78 C dX10_helped_126 (by decide) ?_
                        first
                          | (rw [show it (hpK P p) (k + 1) (it (hpP P part) p x) = (it (hpK P p) k (it (hpP P part) p x)) ||| bt (P.nu p k) from congrArg _ (if_pos g105)] at ihk; exact ihk)
                          | (rw [show it (hpK P p) (k + 1) (it (hpP P part) p x) = (it (hpK P p) k (it (hpP P part) p x)) ||| 0 from congrArg _ (if_neg g105)] at ihk; exact ihk)
                      · have g105 : P.kd p k = 2 := (nI_eq (b := 2) (by omega) (by decide)).mp c105
                        refine g_iconst (v := 1) C dX10_helped_108 (by decide) ?_
                        refine g_aload_n C dX10_helped_109 rfl ?_
                        refine g_getR (ci := 10) (k := 9) (q := 108) C dX10_helped_110 rfl inGX10 (by decide) fwX10_26 ly_103 (by decide) rfl rfl ?_
                        refine g_iload C dX10_helped_113 rfl ?_
                        refine g_ialdv (v := nI (P.nu p k)) (12 * p + k) C dX10_helped_115 ly_108 (by decide) (by decide) rfl (show 12 * p + k < 132 by omega) (hL.2.1) ?_
                        refine g_ishl C dX10_helped_116 ?_
                        refine g_goto 121 C dX10_helped_117 (by decide) ?_
                        refine g_ior C dX10_helped_121 ?_
                        refine g_istore_2 C dX10_helped_122 (by decide) ?_
                        refine g_iinc_5 C dX10_helped_123 (nI_1 (12 * p + k)) (by decide) ?_
                        refine g_goto 78 C dX10_helped_126 (by decide) ?_
                        first
                          | (rw [show it (hpK P p) (k + 1) (it (hpP P part) p x) = (it (hpK P p) k (it (hpP P part) p x)) ||| bt (P.nu p k) from congrArg _ (if_pos g105)] at ihk; exact ihk)
                          | (rw [show it (hpK P p) (k + 1) (it (hpP P part) p x) = (it (hpK P p) k (it (hpP P part) p x)) ||| 0 from congrArg _ (if_neg g105)] at ihk; exact ihk)
                exact inner 0 (Nat.zero_le _)
              · skip
                refine g_goto 129 C dX10_helped_68 (by decide) ?_
                refine g_iinc_4 C dX10_helped_129 (nI_1 p) (by decide) ?_
                refine g_goto 44 C dX10_helped_132 (by decide) ?_
                have h9 : it (hpP P part) (p + 1) x = (it (hpP P part) p x) := if_pos ⟨g56, c65⟩
                rw [h9] at ihp
                exact ihp _
      refine g_iload_n C dX10_helped_34 rfl ?_
      refine g_iload_n C dX10_helped_35 rfl ?_
      refine g_icmp_eq 138 C dX10_helped_36 (by decide) (fun c36 => ?_) (fun c36 => ?_)
      · exact absurd c36 hv
      · refine g_iload_n C dX10_helped_39 rfl ?_
        refine g_istore_3 C dX10_helped_40 (by decide) ?_
        refine g_iconst (v := 0) C dX10_helped_41 (by decide) ?_
        refine g_istore_4 C dX10_helped_42 (by decide) ?_
        exact lp 0 (Nat.zero_le _) _
  refine g_aload_n C dX10_helped_0 rfl ?_
  refine g_iconst (v := 0) C dX10_helped_1 (by decide) ?_
  refine g_putI (ci := 10) (k := 0) .int C dX10_helped_2 rfl inGX10 tyX10_ok nmX10 (by decide) fwX10_80 ly_103 (by decide) rfl rfl rfl rfl rfl ?_
  refine g_aload_n C dX10_helped_5 rfl ?_
  refine g_iload_n C dX10_helped_6 rfl ?_
  refine gv1I (ci := 10) C dX10_helped_7 vwX10_isPart mwX10_101 ⟨by decide, by decide⟩ rfl ly_103 (Nat.le_of_ble_eq_true rfl) (s_isPart _) (Nat.le_of_ble_eq_true rfl) rfl ⟨by decide, by decide⟩ ?_
  refine g_if_ne 15 C dX10_helped_10 (by decide) (fun c10 => ?_) (fun c10 => ?_)
  · refine g_aload_n C dX10_helped_15 rfl ?_
    refine gv0V (ci := 10) C dX10_helped_16 vwX10_asks mwX10_231 ⟨by decide, by decide⟩ rfl ly_103 (Nat.le_of_ble_eq_true rfl) (s_asksI (mOK_T0 hm) hfu) (Nat.le_of_ble_eq_true rfl) rfl ⟨by decide, by decide⟩ ?_
    refine g_aload_n C dX10_helped_19 rfl ?_
    refine g_getR (ci := 10) (k := 27) (q := 118) C dX10_helped_20 rfl inGX10 (by decide) fwX10_61 ly_103 (by decide) rfl rfl ?_
    refine g_iload_n C dX10_helped_23 rfl ?_
    refine g_zald part C dX10_helped_24 ly_118 (by decide) (by decide) rfl (show part < 10 by omega) ?_
    refine g_if_ne 30 C dX10_helped_25 (by decide) (fun c25 => ?_) (fun c25 => ?_)
    · refine g_iconst (v := 0) C dX10_helped_30 (by decide) ?_
      refine g_istore_2 C dX10_helped_31 (by decide) ?_
      refine g_iconst (v := (-1)) C dX10_helped_32 (by decide) ?_
      refine g_istore_3 C dX10_helped_33 (by decide) ?_
      exact lw F3 0 (-1) (by decide) hE3 rfl _ _
    · exact absurd ((wk_118 (show part < 10 by omega)).symm.trans c25) hna
  · exact absurd hpp (if01.mp c10)
