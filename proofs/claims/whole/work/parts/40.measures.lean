/-! ## how far it is to the door -/
theorem ldN_cg {P : Pln} {n : Nat} (hok : P.ok n) {w g w' g' : Rw} {sec door st p k : Nat} (hp : p < n) (hk : k < P.ml p) (hw : ∀ q, q < 80 → w q = w' q) (hg : ∀ q, q < 10 → g q = g' q) : ldN P w g sec door st p k = ldN P w' g' sec door st p k := by
  have hLo := hok.2.2 p hp k hk
  have hn := hok.1
  unfold ldN ntN
  rw [hw (8 * p + P.fs p k) (by omega), hg p (by omega)]
  by_cases h2 : P.kd p k = 2
  · have := hLo.2.2.2.1 h2
    rw [hw (8 * p + P.sc p k) (by omega), hw (8 * P.nu p k) (by omega)]
  · simp only [if_neg h2]
def msL (P : Pln) (w g : Rw) (sec door s p k : Nat) (z : Rw × Int32) : Rw × Int32 := match ldN P w g sec door s p k with
  | none => z
  | some t => if z.1 t + 1 < z.1 s then (upd z.1 s (z.1 t + 1), 1) else z
def msP (P : Pln) (a w g : Rw) (sec door s p : Nat) (z : Rw × Int32) : Rw × Int32 := if a p = 0 then z else it (msL P w g sec door s p) (P.ml p) z
def msS (P : Pln) (n : Nat) (a w g : Rw) (sec door s : Nat) (z : Rw × Int32) : Rw × Int32 := it (msP P a w g sec door s) n z
def msQ (P : Pln) (n : Nat) (a w g : Rw) (sec door : Nat) (f : Rw) : Rw × Int32 := it (msS P n a w g sec door) 90 (f, 0)
def ms0 : Rw := fun s => if s = 90 then 0 else 100000
theorem msL_0 {P : Pln} {w g : Rw} {sec door s p k : Nat} {z : Rw × Int32} (h : ldN P w g sec door s p k = none) : msL P w g sec door s p k z = z := by unfold msL; rw [h]
theorem msL_1 {P : Pln} {w g : Rw} {sec door s p k t : Nat} {z : Rw × Int32} (h : ldN P w g sec door s p k = some t) (h2 : z.1 t + 1 < z.1 s) : msL P w g sec door s p k z = (upd z.1 s (z.1 t + 1), 1) := by unfold msL; rw [h]; exact if_pos h2
theorem msL_2 {P : Pln} {w g : Rw} {sec door s p k t : Nat} {z : Rw × Int32} (h : ldN P w g sec door s p k = some t) (h2 : ¬ z.1 t + 1 < z.1 s) : msL P w g sec door s p k z = z := by unfold msL; rw [h]; exact if_neg h2
theorem oV_n {t : Nat} (h : t ≤ 90) : ¬ oV (some t) = -2 := by
  intro q
  have h2 : nI t = -2 := q
  have := nI_pos (n := t) (by omega)
  rw [h2] at this
  exact absurd (by decide) this
theorem s_leadsW {l : Launch} {G : Gm} {I : Nat → Nat → Int32} {J : Nat → Nat → Int64} {n : Nat} {P : Pln} (hm : mOK I n P) {w g : Rw} (hw : ∀ q, q < 80 → I 115 q = w q) (hg : ∀ q, q < 10 → I 104 q = g q) {p k : Nat} (hp : p < n) (hk : k < P.ml p) {st sec door : Nat} (hst : st < 1000) (hdo : door < 16) : Sp l G iX10_leads [.ref (G.1 + 103), .int (nI st), .int (nI p), .int (nI (12 * p + k)), .int (nI sec), .int (nI door)] (mm I J) (RetI (oV (ldN P w g sec door st p k)) (mm I J)) noT := by
  rw [← ldN_cg hm.1 hp hk hw hg]
  exact s_leads hm hp hk hst hdo
theorem mOK_119 {I : Nat → Nat → Int32} {n : Nat} {P : Pln} {f : Rw} (hm : mOK I n P) : mOK (stRow I 119 91 f) n P := mOK_cg (by rw [stRow_off (by decide)]) (fun q hq => stRow_off (by omega)) hm
theorem st119 {I : Nat → Nat → Int32} {f g : Rw} (h : ∀ b, b < 91 → f b = g b) : stRow I 119 91 f = stRow I 119 91 g := by
  funext a b
  unfold stRow
  split
  · next q => exact h b q.2
  · rfl
set_option maxHeartbeats 4000000 in
theorem s_measures {l : Launch} {G : Gm} {I : Nat → Nat → Int32} {J : Nat → Nat → Int64} {n : Nat} {P : Pln} (hm : mOK I n P) {a w g : Rw} (ha : ∀ q, q < 10 → I 118 q = a q) (hw : ∀ q, q < 80 → I 115 q = w q) (hg : ∀ q, q < 10 → I 104 q = g q) {sec door : Nat} (hdo : door < 16) {F : Nat} (hE : whE (msQ P n a w g sec door) F ms0) : Sp l G iX10_measures [.ref (G.1 + 103), .int (nI sec), .int (nI door)] (mm I J) (RetV (mm (stRow I 119 91 (wh (msQ P n a w g sec door) F ms0)) J)) noT := by
  refine Sp.of (by decide +kernel) (Nat.le_of_ble_eq_true rfl) ?_
  intro X hXl C
  subst hXl
  show Go X G 8 0 0 _ 0 [.ref (G.1 + 103), .int (nI sec), .int (nI door), uu, uu, uu, uu, uu] [] (mm I J)
  have hm0 := hm
  obtain ⟨hok, hn, hml, hli⟩ := hm
  have hn10 := hok.1
  have h118 : ∀ (f : Rw) (p : Nat), p < 10 → stRow I 119 91 f 118 p = a p := fun f p hp => by rw [stRow_off (by decide)]; exact ha p hp
  have lw : ∀ (m : Nat) (f : Rw) (v : Int32), ¬ v = 0 → whE (msQ P n a w g sec door) m f → wh (msQ P n a w g sec door) m f = wh (msQ P n a w g sec door) F ms0 → ∀ a4 a5 a6 a7 : Value, Go X G 8 0 0 (KQ X G iX10_measures (RetV (mm (stRow I 119 91 (wh (msQ P n a w g sec door) F ms0)) J)) noT) 32 [.ref (G.1 + 103), .int (nI sec), .int (nI door), .int v, a4, a5, a6, a7] [] (mm (stRow I 119 91 f) J) := by
    intro m
    induction m with
    | zero => intro f v hv hE; exact hE.elim
    | succ m ih =>
      intro f v hv hE he a4 a5 a6 a7
      have hcont : ∀ a4 a5 a6 a7 : Value, Go X G 8 0 0 (KQ X G iX10_measures (RetV (mm (stRow I 119 91 (wh (msQ P n a w g sec door) F ms0)) J)) noT) 32 [.ref (G.1 + 103), .int (nI sec), .int (nI door), .int ((msQ P n a w g sec door) f).2, a4, a5, a6, a7] [] (mm (stRow I 119 91 ((msQ P n a w g sec door) f).1) J) := by
        intro a4 a5 a6 a7
        by_cases hz : ((msQ P n a w g sec door) f).2 = 0
        · rw [show ((msQ P n a w g sec door) f).1 = wh (msQ P n a w g sec door) F ms0 by rw [← he, wh, if_pos hz]]
          refine g_iload_n C dX10_measures_32 rfl ?_
          refine g_if_eq 177 C dX10_measures_33 (by decide) (fun c33 => ?_) (fun c33 => ?_)
          · exact e_V C dX10_measures_177 rfl rfl rfl rfl
          · exact absurd hz c33
        · exact ih _ _ hz (hE.resolve_left hz) (by rw [← he, wh, if_neg hz]) _ _ _ _
      have ls : ∀ s : Nat, s ≤ 90 → ∀ a5 a6 a7 : Value, Go X G 8 0 0 (KQ X G iX10_measures (RetV (mm (stRow I 119 91 (wh (msQ P n a w g sec door) F ms0)) J)) noT) 41 [.ref (G.1 + 103), .int (nI sec), .int (nI door), .int (it (msS P n a w g sec door) s (f, 0)).2, .int (nI s), a5, a6, a7] [] (mm (stRow I 119 91 (it (msS P n a w g sec door) s (f, 0)).1) J) := by
        refine loopN (90) ?_ ?_
        · intro a5 a6 a7
          show Go X G 8 0 0 _ 41 _ [] _
          refine g_iload C dX10_measures_41 rfl ?_
          refine g_bipush (v := 90) C dX10_measures_43 (by decide) ?_
          refine g_icmp_ge 174 C dX10_measures_45 (by decide) (fun c45 => ?_) (fun c45 => ?_)
          · refine g_goto 32 C dX10_measures_174 (by decide) ?_
            exact hcont _ _ _ _
          · exact absurd (Int32.le_refl _) c45
        · intro s hs ihs a5 a6 a7
          show Go X G 8 0 0 _ 41 _ [] _
          refine g_iload C dX10_measures_41 rfl ?_
          refine g_bipush (v := 90) C dX10_measures_43 (by decide) ?_
          refine g_icmp_ge 174 C dX10_measures_45 (by decide) (fun c45 => ?_) (fun c45 => ?_)
          · exact (nI_ge_dead (n := 90) c45 hs (by omega)).elim
          · refine g_iconst (v := 0) C dX10_measures_48 (by decide) ?_
            refine g_istore_5 C dX10_measures_49 (by decide) ?_
            have lp : ∀ p : Nat, p ≤ n → ∀ a6 a7 : Value, Go X G 8 0 0 (KQ X G iX10_measures (RetV (mm (stRow I 119 91 (wh (msQ P n a w g sec door) F ms0)) J)) noT) 51 [.ref (G.1 + 103), .int (nI sec), .int (nI door), .int (it (msP P a w g sec door s) p (it (msS P n a w g sec door) s (f, 0))).2, .int (nI s), .int (nI p), a6, a7] [] (mm (stRow I 119 91 (it (msP P a w g sec door s) p (it (msS P n a w g sec door) s (f, 0))).1) J) := by
              refine loopN (n) ?_ ?_
              · intro a6 a7
                show Go X G 8 0 0 _ 51 _ [] _
                refine g_iload C dX10_measures_51 rfl ?_
                refine g_aload_n C dX10_measures_53 rfl ?_
                refine g_getIv (ci := 10) (k := 4) (v := nI n) C dX10_measures_54 rfl inGX10 (by decide) fwX10_86 ly_103 (by decide) rfl (by rw [stRow_off (by decide)]; exact hn) ?_
                refine g_icmp_ge 168 C dX10_measures_57 (by decide) (fun c57 => ?_) (fun c57 => ?_)
                · refine g_iinc_4 C dX10_measures_168 (nI_1 s) (by decide) ?_
                  refine g_goto 41 C dX10_measures_171 (by decide) ?_
                  exact ihs _ _ _
                · exact absurd (Int32.le_refl _) c57
              · intro p hp ihp a6 a7
                show Go X G 8 0 0 _ 51 _ [] _
                refine g_iload C dX10_measures_51 rfl ?_
                refine g_aload_n C dX10_measures_53 rfl ?_
                refine g_getIv (ci := 10) (k := 4) (v := nI n) C dX10_measures_54 rfl inGX10 (by decide) fwX10_86 ly_103 (by decide) rfl (by rw [stRow_off (by decide)]; exact hn) ?_
                refine g_icmp_ge 168 C dX10_measures_57 (by decide) (fun c57 => ?_) (fun c57 => ?_)
                · exact (nI_ge_dead (n := n) c57 hp (by omega)).elim
                · refine g_bipush (v := 12) C dX10_measures_60 (by decide) ?_
                  refine g_iload C dX10_measures_62 rfl ?_
                  refine g_imul C dX10_measures_64 ?_
                  rw [mul12]
                  refine g_istore_6 C dX10_measures_65 (by decide) ?_
                  by_cases hA : a p = 0
                  · refine g_iload C dX10_measures_67 rfl ?_
                    refine g_bipush (v := 12) C dX10_measures_69 (by decide) ?_
                    refine g_iload C dX10_measures_71 rfl ?_
                    refine g_imul C dX10_measures_73 ?_
                    rw [mul12]
                    refine g_aload_n C dX10_measures_74 rfl ?_
                    refine g_getR (ci := 10) (k := 6) (q := 105) C dX10_measures_75 rfl inGX10 (by decide) fwX10_17 ly_103 (by decide) rfl rfl ?_
                    refine g_iload C dX10_measures_78 rfl ?_
                    refine g_ialdv (v := nI (P.ml p)) p C dX10_measures_80 ly_105 (by decide) (by decide) rfl (show p < 11 by omega) (by rw [stRow_off (by decide)]; exact hml p hp) ?_
                    refine g_iadd C dX10_measures_81 ?_
                    rw [nI_add]
                    refine g_icmp_ge 162 C dX10_measures_82 (by decide) (fun c82 => ?_) (fun c82 => ?_)
                    · skip
                      refine g_iinc_5 C dX10_measures_162 (nI_1 p) (by decide) ?_
                      refine g_goto 51 C dX10_measures_165 (by decide) ?_
                      have h9 : it (msP P a w g sec door s) (p + 1) (it (msS P n a w g sec door) s (f, 0)) = (it (msP P a w g sec door s) p (it (msS P n a w g sec door) s (f, 0))) := if_pos hA
                      rw [h9] at ihp
                      exact ihp _ _
                    · skip
                      refine g_aload_n C dX10_measures_85 rfl ?_
                      refine g_getR (ci := 10) (k := 27) (q := 118) C dX10_measures_86 rfl inGX10 (by decide) fwX10_61 ly_103 (by decide) rfl rfl ?_
                      refine g_iload C dX10_measures_89 rfl ?_
                      refine g_zald _ C dX10_measures_91 ly_118 (by decide) (by decide) rfl (show p < 10 by omega) ?_
                      refine g_if_eq 162 C dX10_measures_92 (by decide) (fun c92 => ?_) (fun c92 => ?_)
                      · refine g_iinc_5 C dX10_measures_162 (nI_1 p) (by decide) ?_
                        refine g_goto 51 C dX10_measures_165 (by decide) ?_
                        have h9 : it (msP P a w g sec door s) (p + 1) (it (msS P n a w g sec door) s (f, 0)) = (it (msP P a w g sec door s) p (it (msS P n a w g sec door) s (f, 0))) := if_pos hA
                        rw [h9] at ihp
                        exact ihp _ _
                      · exact absurd ((h118 _ _ (show p < 10 by omega)).trans hA) c92
                  have inner : ∀ k : Nat, k ≤ P.ml p → ∀ a7 : Value, Go X G 8 0 0 (KQ X G iX10_measures (RetV (mm (stRow I 119 91 (wh (msQ P n a w g sec door) F ms0)) J)) noT) 67 [.ref (G.1 + 103), .int (nI sec), .int (nI door), .int (it (msL P w g sec door s p) k (it (msP P a w g sec door s) p (it (msS P n a w g sec door) s (f, 0)))).2, .int (nI s), .int (nI p), .int (nI (12 * p + k)), a7] [] (mm (stRow I 119 91 (it (msL P w g sec door s p) k (it (msP P a w g sec door s) p (it (msS P n a w g sec door) s (f, 0)))).1) J) := by
                    refine loopN (P.ml p) ?_ ?_
                    · intro a7
                      show Go X G 8 0 0 _ 67 _ [] _
                      have hm12 := hok.2.1 p
                      refine g_iload C dX10_measures_67 rfl ?_
                      refine g_bipush (v := 12) C dX10_measures_69 (by decide) ?_
                      refine g_iload C dX10_measures_71 rfl ?_
                      refine g_imul C dX10_measures_73 ?_
                      rw [mul12]
                      refine g_aload_n C dX10_measures_74 rfl ?_
                      refine g_getR (ci := 10) (k := 6) (q := 105) C dX10_measures_75 rfl inGX10 (by decide) fwX10_17 ly_103 (by decide) rfl rfl ?_
                      refine g_iload C dX10_measures_78 rfl ?_
                      refine g_ialdv (v := nI (P.ml p)) p C dX10_measures_80 ly_105 (by decide) (by decide) rfl (show p < 11 by omega) (by rw [stRow_off (by decide)]; exact hml p hp) ?_
                      refine g_iadd C dX10_measures_81 ?_
                      rw [nI_add]
                      refine g_icmp_ge 162 C dX10_measures_82 (by decide) (fun c82 => ?_) (fun c82 => ?_)
                      · refine g_iinc_5 C dX10_measures_162 (nI_1 p) (by decide) ?_
                        refine g_goto 51 C dX10_measures_165 (by decide) ?_
                        have h9 : it (msP P a w g sec door s) (p + 1) (it (msS P n a w g sec door) s (f, 0)) = it (msL P w g sec door s p) (P.ml p) (it (msP P a w g sec door s) p (it (msS P n a w g sec door) s (f, 0))) := if_neg hA
                        rw [h9] at ihp
                        exact ihp _ _
                      · exact absurd (Int32.le_refl _) c82
                    · intro k hk ihk a7
                      show Go X G 8 0 0 _ 67 _ [] _
                      have hL := hli p hp k hk
                      have hLo := hok.2.2 p hp k hk
                      have hm12 := hok.2.1 p
                      refine g_iload C dX10_measures_67 rfl ?_
                      refine g_bipush (v := 12) C dX10_measures_69 (by decide) ?_
                      refine g_iload C dX10_measures_71 rfl ?_
                      refine g_imul C dX10_measures_73 ?_
                      rw [mul12]
                      refine g_aload_n C dX10_measures_74 rfl ?_
                      refine g_getR (ci := 10) (k := 6) (q := 105) C dX10_measures_75 rfl inGX10 (by decide) fwX10_17 ly_103 (by decide) rfl rfl ?_
                      refine g_iload C dX10_measures_78 rfl ?_
                      refine g_ialdv (v := nI (P.ml p)) p C dX10_measures_80 ly_105 (by decide) (by decide) rfl (show p < 11 by omega) (by rw [stRow_off (by decide)]; exact hml p hp) ?_
                      refine g_iadd C dX10_measures_81 ?_
                      rw [nI_add]
                      refine g_icmp_ge 162 C dX10_measures_82 (by decide) (fun c82 => ?_) (fun c82 => ?_)
                      · exact (nI_ge_dead (n := 12 * p + P.ml p) c82 (by omega) (by omega)).elim
                      · refine g_aload_n C dX10_measures_85 rfl ?_
                        refine g_getR (ci := 10) (k := 27) (q := 118) C dX10_measures_86 rfl inGX10 (by decide) fwX10_61 ly_103 (by decide) rfl rfl ?_
                        refine g_iload C dX10_measures_89 rfl ?_
                        refine g_zald _ C dX10_measures_91 ly_118 (by decide) (by decide) rfl (show p < 10 by omega) ?_
                        refine g_if_eq 162 C dX10_measures_92 (by decide) (fun c92 => ?_) (fun c92 => ?_)
                        · exact absurd ((h118 _ _ (show p < 10 by omega)).symm.trans c92) hA
                        · refine g_aload_n C dX10_measures_95 rfl ?_
                          refine g_iload C dX10_measures_96 rfl ?_
                          refine g_iload C dX10_measures_98 rfl ?_
                          refine g_iload C dX10_measures_100 rfl ?_
                          refine g_iload_n C dX10_measures_102 rfl ?_
                          refine g_iload_n C dX10_measures_103 rfl ?_
                          refine gv5I (ci := 10) C dX10_measures_104 vwX10_leads mwX10_255 ⟨by decide, by decide⟩ rfl ly_103 (Nat.le_of_ble_eq_true rfl) (s_leadsW (w := w) (g := g) (mOK_119 hm0) (fun q hq => by rw [stRow_off (by decide)]; exact hw q hq) (fun q hq => by rw [stRow_off (by decide)]; exact hg q hq) hp hk (show s < 1000 by omega) hdo) (Nat.le_of_ble_eq_true rfl) rfl ⟨by decide, by decide⟩ ?_
                          refine g_istore_7 C dX10_measures_107 (by decide) ?_
                          rcases hld : (ldN P w g sec door s p k) with _ | t
                          · skip
                            refine g_iload C dX10_measures_109 rfl ?_
                            refine g_bipush (v := (-2)) C dX10_measures_111 (by decide) ?_
                            refine g_icmp_eq 156 C dX10_measures_113 (by decide) (fun c113 => ?_) (fun c113 => ?_)
                            · refine g_iinc_6 C dX10_measures_156 (nI_1 (12 * p + k)) (by decide) ?_
                              refine g_goto 67 C dX10_measures_159 (by decide) ?_
                              first
                                | (have h9 : it (msL P w g sec door s p) (k + 1) (it (msP P a w g sec door s) p (it (msS P n a w g sec door) s (f, 0))) = (it (msL P w g sec door s p) k (it (msP P a w g sec door s) p (it (msS P n a w g sec door) s (f, 0)))) := msL_0 hld
                                   rw [h9] at ihk; exact ihk _)
                                | (have h9 : it (msL P w g sec door s p) (k + 1) (it (msP P a w g sec door s) p (it (msS P n a w g sec door) s (f, 0))) = _ := msL_1 hld c132
                                   rw [h9] at ihk; rw [stRow_up (show s < 91 by omega)]; exact ihk _)
                                | (have h9 : it (msL P w g sec door s p) (k + 1) (it (msP P a w g sec door s) p (it (msS P n a w g sec door) s (f, 0))) = (it (msL P w g sec door s p) k (it (msP P a w g sec door s) p (it (msS P n a w g sec door) s (f, 0)))) := msL_2 hld c132
                                   rw [h9] at ihk; exact ihk _)
                            · exact absurd rfl c113
                          · skip
                            have ht := ldN_le hok hp hk hld
                            refine g_iload C dX10_measures_109 rfl ?_
                            refine g_bipush (v := (-2)) C dX10_measures_111 (by decide) ?_
                            refine g_icmp_eq 156 C dX10_measures_113 (by decide) (fun c113 => ?_) (fun c113 => ?_)
                            · exact absurd c113 (oV_n ht)
                            · refine g_aload_n C dX10_measures_116 rfl ?_
                              refine g_getR (ci := 10) (k := 28) (q := 119) C dX10_measures_117 rfl inGX10 (by decide) fwX10_65 ly_103 (by decide) rfl rfl ?_
                              refine g_iload C dX10_measures_120 rfl ?_
                              refine g_ialdv (v := (it (msL P w g sec door s p) k (it (msP P a w g sec door s) p (it (msS P n a w g sec door) s (f, 0)))).1 t) t C dX10_measures_122 ly_119 (by decide) (by decide) rfl (show t < 91 by omega) (stRow_in (show t < 91 by omega)) ?_
                              refine g_iconst (v := 1) C dX10_measures_123 (by decide) ?_
                              refine g_iadd C dX10_measures_124 ?_
                              refine g_aload_n C dX10_measures_125 rfl ?_
                              refine g_getR (ci := 10) (k := 28) (q := 119) C dX10_measures_126 rfl inGX10 (by decide) fwX10_65 ly_103 (by decide) rfl rfl ?_
                              refine g_iload C dX10_measures_129 rfl ?_
                              refine g_ialdv (v := (it (msL P w g sec door s p) k (it (msP P a w g sec door s) p (it (msS P n a w g sec door) s (f, 0)))).1 s) s C dX10_measures_131 ly_119 (by decide) (by decide) rfl (show s < 91 by omega) (stRow_in (show s < 91 by omega)) ?_
                              refine g_icmp_lt 138 C dX10_measures_132 (by decide) (fun c132 => ?_) (fun c132 => ?_)
                              · skip
                                refine g_aload_n C dX10_measures_138 rfl ?_
                                refine g_getR (ci := 10) (k := 28) (q := 119) C dX10_measures_139 rfl inGX10 (by decide) fwX10_65 ly_103 (by decide) rfl rfl ?_
                                refine g_iload C dX10_measures_142 rfl ?_
                                refine g_aload_n C dX10_measures_144 rfl ?_
                                refine g_getR (ci := 10) (k := 28) (q := 119) C dX10_measures_145 rfl inGX10 (by decide) fwX10_65 ly_103 (by decide) rfl rfl ?_
                                refine g_iload C dX10_measures_148 rfl ?_
                                refine g_ialdv (v := (it (msL P w g sec door s p) k (it (msP P a w g sec door s) p (it (msS P n a w g sec door) s (f, 0)))).1 t) t C dX10_measures_150 ly_119 (by decide) (by decide) rfl (show t < 91 by omega) (stRow_in (show t < 91 by omega)) ?_
                                refine g_iconst (v := 1) C dX10_measures_151 (by decide) ?_
                                refine g_iadd C dX10_measures_152 ?_
                                refine g_iast s C dX10_measures_153 ly_119 (by decide) (by decide) rfl (show s < 91 by omega) ?_
                                refine g_iconst (v := 1) C dX10_measures_154 (by decide) ?_
                                refine g_istore_3 C dX10_measures_155 (by decide) ?_
                                refine g_iinc_6 C dX10_measures_156 (nI_1 (12 * p + k)) (by decide) ?_
                                refine g_goto 67 C dX10_measures_159 (by decide) ?_
                                first
                                  | (have h9 : it (msL P w g sec door s p) (k + 1) (it (msP P a w g sec door s) p (it (msS P n a w g sec door) s (f, 0))) = (it (msL P w g sec door s p) k (it (msP P a w g sec door s) p (it (msS P n a w g sec door) s (f, 0)))) := msL_0 hld
                                     rw [h9] at ihk; exact ihk _)
                                  | (have h9 : it (msL P w g sec door s p) (k + 1) (it (msP P a w g sec door s) p (it (msS P n a w g sec door) s (f, 0))) = _ := msL_1 hld c132
                                     rw [h9] at ihk; rw [stRow_up (show s < 91 by omega)]; exact ihk _)
                                  | (have h9 : it (msL P w g sec door s p) (k + 1) (it (msP P a w g sec door s) p (it (msS P n a w g sec door) s (f, 0))) = (it (msL P w g sec door s p) k (it (msP P a w g sec door s) p (it (msS P n a w g sec door) s (f, 0)))) := msL_2 hld c132
                                     rw [h9] at ihk; exact ihk _)
                              · skip
                                refine g_goto 156 C dX10_measures_135 (by decide) ?_
                                refine g_iinc_6 C dX10_measures_156 (nI_1 (12 * p + k)) (by decide) ?_
                                refine g_goto 67 C dX10_measures_159 (by decide) ?_
                                first
                                  | (have h9 : it (msL P w g sec door s p) (k + 1) (it (msP P a w g sec door s) p (it (msS P n a w g sec door) s (f, 0))) = (it (msL P w g sec door s p) k (it (msP P a w g sec door s) p (it (msS P n a w g sec door) s (f, 0)))) := msL_0 hld
                                     rw [h9] at ihk; exact ihk _)
                                  | (have h9 : it (msL P w g sec door s p) (k + 1) (it (msP P a w g sec door s) p (it (msS P n a w g sec door) s (f, 0))) = _ := msL_1 hld c132
                                     rw [h9] at ihk; rw [stRow_up (show s < 91 by omega)]; exact ihk _)
                                  | (have h9 : it (msL P w g sec door s p) (k + 1) (it (msP P a w g sec door s) p (it (msS P n a w g sec door) s (f, 0))) = (it (msL P w g sec door s p) k (it (msP P a w g sec door s) p (it (msS P n a w g sec door) s (f, 0)))) := msL_2 hld c132
                                     rw [h9] at ihk; exact ihk _)
                  exact inner 0 (Nat.zero_le _) _
            exact lp 0 (Nat.zero_le _) _ _
      refine g_iload_n C dX10_measures_32 rfl ?_
      refine g_if_eq 177 C dX10_measures_33 (by decide) (fun c33 => ?_) (fun c33 => ?_)
      · exact absurd c33 hv
      · refine g_iconst (v := 0) C dX10_measures_36 (by decide) ?_
        refine g_istore_3 C dX10_measures_37 (by decide) ?_
        refine g_iconst (v := 0) C dX10_measures_38 (by decide) ?_
        refine g_istore_4 C dX10_measures_39 (by decide) ?_
        exact ls 0 (Nat.zero_le _) _ _ _
  have l1 : ∀ k : Nat, k ≤ 90 → ∀ a4 a5 a6 a7 : Value, Go X G 8 0 0 (KQ X G iX10_measures (RetV (mm (stRow I 119 91 (wh (msQ P n a w g sec door) F ms0)) J)) noT) 2 [.ref (G.1 + 103), .int (nI sec), .int (nI door), .int (nI k), a4, a5, a6, a7] [] (mm (stRow I 119 91 (ovr (fun _ => 100000) (I 119) k)) J) := by
    refine loopN (90) ?_ ?_
    · intro a4 a5 a6 a7
      show Go X G 8 0 0 _ 2 _ [] _
      refine g_iload_n C dX10_measures_2 rfl ?_
      refine g_bipush (v := 90) C dX10_measures_3 (by decide) ?_
      refine g_icmp_ge 22 C dX10_measures_5 (by decide) (fun c5 => ?_) (fun c5 => ?_)
      · refine g_aload_n C dX10_measures_22 rfl ?_
        refine g_getR (ci := 10) (k := 28) (q := 119) C dX10_measures_23 rfl inGX10 (by decide) fwX10_65 ly_103 (by decide) rfl rfl ?_
        refine g_bipush (v := 90) C dX10_measures_26 (by decide) ?_
        refine g_iconst (v := 0) C dX10_measures_28 (by decide) ?_
        refine g_iast 90 C dX10_measures_29 ly_119 (by decide) (by decide) rfl (by decide) ?_
        refine g_iconst (v := 1) C dX10_measures_30 (by decide) ?_
        refine g_istore_3 C dX10_measures_31 (by decide) ?_
        rw [stRow_up (show 90 < 91 by decide), show stRow I 119 91 (upd (ovr (fun _ => 100000) (I 119) 90) 90 0) = stRow I 119 91 ms0 from st119 (fun b hb => by unfold upd ovr ms0; by_cases h : b = 90 <;> simp [h]; omega)]
        exact lw F ms0 1 (by decide) hE rfl _ _ _ _
      · exact absurd (Int32.le_refl _) c5
    · intro k hk ih a4 a5 a6 a7
      show Go X G 8 0 0 _ 2 _ [] _
      refine g_iload_n C dX10_measures_2 rfl ?_
      refine g_bipush (v := 90) C dX10_measures_3 (by decide) ?_
      refine g_icmp_ge 22 C dX10_measures_5 (by decide) (fun c5 => ?_) (fun c5 => ?_)
      · exact (nI_ge_dead (n := 90) c5 hk (by omega)).elim
      · refine g_aload_n C dX10_measures_8 rfl ?_
        refine g_getR (ci := 10) (k := 28) (q := 119) C dX10_measures_9 rfl inGX10 (by decide) fwX10_65 ly_103 (by decide) rfl rfl ?_
        refine g_iload_n C dX10_measures_12 rfl ?_
        refine g_ldc (v := 100000) C dX10_measures_13 kwX10_254 ?_
        refine g_iast k C dX10_measures_15 ly_119 (by decide) (by decide) rfl (show k < 91 by omega) ?_
        refine g_iinc_3 C dX10_measures_16 (nI_1 k) (by decide) ?_
        refine g_goto 2 C dX10_measures_19 (by decide) ?_
        rw [stRow_up (show k < 91 by omega), show upd (ovr (fun _ => 100000) (I 119) k) k 100000 = ovr (fun _ => 100000) (I 119) (k + 1) from ovr_up (fun _ => 100000) (I 119) k]
        exact ih _ _ _ _
  refine g_iconst (v := 0) C dX10_measures_0 (by decide) ?_
  refine g_istore_3 C dX10_measures_1 (by decide) ?_
  have h0 := l1 0 (Nat.zero_le _) uu uu uu uu
  rw [ovr_0, stRow_self] at h0
  exact h0
