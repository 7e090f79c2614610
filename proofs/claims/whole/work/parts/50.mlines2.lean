/-! ## the model's lines -/
def D0m (I : Nat → Nat → Int32) (e : Nat) : Nat → Nat → Int32 := up1 (up1 (up1 (up1 (T0 I) 103 16 (nI e)) 103 15 0) 103 17 0) 103 3 0
def cp1 (o p k : Nat) (E : Nat → Nat → Int32) : Nat → Nat → Int32 := up1 E o (12 * p + k) (E o (120 + k))
def cp4 (p k i : Nat) (E : Nat → Nat → Int32) : Nat → Nat → Int32 := up1 E 111 (4 * (12 * p + k) + i) (E 111 (4 * (120 + k) + i))
def cpL (p k : Nat) (E : Nat → Nat → Int32) : Nat → Nat → Int32 := it (cp4 p k) 4 (cp1 110 p k (cp1 109 p k (cp1 108 p k (cp1 107 p k E))))
def MlE (D' : Nat → Nat → Int32) (t : Nat → Nat) (e i : Nat) (vv : Int32) (er : Er) : Nat → Nat → Int32 := up1 (up1 (up1 (up1 (up1 (mrS D' t e i vv) 112 0 (nI er.1)) 112 1 (nI er.2)) 103 3 (nI er.1)) 103 1 4) 103 2 (nI er.2)
def MlO (D' : Nat → Nat → Int32) (t : Nat → Nat) (e i : Nat) (vv : Int32) (p n : Nat) : Nat → Nat → Int32 := tr (it (cpL p) 12 (up1 (mrS D' t e i vv) 105 p (nI n))) 0
def MlR (I : Nat → Nat → Int32) (J : Nat → Nat → Int64) (t : Nat → Nat) (e n p : Nat) : Option Value → Mm → Prop := fun v M' =>
  (∃ ls i D' vv x, pText t e n 13 [] 0 = .ok ls ∧ ls.length ≤ 12 ∧ lnsOK D' ls ∧ lnsK ls ∧ offR (D0m I e) D' ∧ v = some (.int (nI ls.length)) ∧ M' = mm (MlO D' t e i vv p ls.length) (upJ J 103 22 x)) ∨
  ∃ er i D' vv x, pText t e n 13 [] 0 = .error er ∧ offR (D0m I e) D' ∧ v = some (.int (-1)) ∧ M' = mm (MlE D' t e i vv er) (upJ J 103 22 x)
theorem D0m_off {I : Nat → Nat → Int32} {e o : Nat} (h : o ≠ 103) : D0m I e o = I o := by unfold D0m; rw [up1_off h, up1_off h, up1_off h, up1_off h, T0_off h]
theorem D0m_16 {I : Nat → Nat → Int32} {e : Nat} : D0m I e 103 16 = nI e := by simp [D0m, up1]
theorem D0m_17 {I : Nat → Nat → Int32} {e : Nat} : D0m I e 103 17 = nI 0 := by simp [D0m, up1]; rfl
theorem D0m_4 {I : Nat → Nat → Int32} {e : Nat} : D0m I e 103 4 = I 103 4 := by simp [D0m, up1, T0]
theorem D0m_rd {I : Nat → Nat → Int32} {t : Nat → Nat} {e : Nat} (hB : byM I t) (he : e ≤ 300) : rdOK (D0m I e) t e := ⟨fun j hj => by rw [D0m_off (by decide)]; exact hB j hj, D0m_16, he⟩
theorem cp_u {E : Nat → Nat → Int32} {o p k : Nat} : up1 E o (12 * p + k) (E o (120 + k)) = cp1 o p k E := rfl
theorem cp1_105 {E : Nat → Nat → Int32} {o p k : Nat} (h : o ≠ 105) : cp1 o p k E 105 = E 105 := up1_off h.symm
theorem cpL_105 (p : Nat) (E : Nat → Nat → Int32) : ∀ k, it (cpL p) k E 105 = E 105
  | 0 => rfl
  | k + 1 => by
    show cpL p k (it (cpL p) k E) 105 = _
    have ih := cpL_105 p E k
    generalize it (cpL p) k E = Z at ih ⊢
    show it (cp4 p k) 4 _ 105 = _
    have h4 : ∀ j, ∀ Y : Nat → Nat → Int32, it (cp4 p k) j Y 105 = Y 105 := fun j Y => by
      induction j with
      | zero => rfl
      | succ j ihj =>
        have hh : ∀ Z : Nat → Nat → Int32, cp4 p k j Z 105 = Z 105 := fun Z => by unfold cp4; rw [up1_off (by decide)]
        exact (hh _).trans ihj
    rw [h4, cp1_105 (by decide), cp1_105 (by decide), cp1_105 (by decide), cp1_105 (by decide), ih]
set_option maxHeartbeats 4000000 in
theorem s_mlines1 {l : Launch} {G : Gm} {I : Nat → Nat → Int32} {J : Nat → Nat → Int64} {x y : Int32} (h : ¬ (¬ x < 0 ∧ x < I 103 4)) : SpW l G iX10_lines hhL [.ref (G.1 + 103), .int x, .int y] (mm I J) (RetI (-1) (mm (tr (T0 I) 1) J)) := by
  refine SpW.of (by decide +kernel) (Nat.le_of_ble_eq_true rfl) ?_
  intro X hXl C htab
  subst hXl
  show Go X G 5 0 0 _ 0 [.ref (G.1 + 103), .int x, .int y, uu, uu] [] (mm I J)
  refine g_aload_n C dX10_lines_0 rfl ?_
  refine g_iconst (v := 0) C dX10_lines_1 (by decide) ?_
  refine g_putI (ci := 10) (k := 0) .int C dX10_lines_2 rfl inGX10 tyX10_ok nmX10 (by decide) fwX10_80 ly_103 (by decide) rfl rfl rfl rfl rfl ?_
  refine g_aload_n C dX10_lines_5 rfl ?_
  refine g_iload_n C dX10_lines_6 rfl ?_
  refine gv1I (ci := 10) C dX10_lines_7 vwX10_isPart mwX10_101 ⟨by decide, by decide⟩ rfl ly_103 (Nat.le_of_ble_eq_true rfl) (s_isPart _) (Nat.le_of_ble_eq_true rfl) rfl ⟨by decide, by decide⟩ ?_
  refine g_if_ne 19 C dX10_lines_10 (by decide) (fun c10 => ?_) (fun c10 => ?_)
  · exact absurd (if01.mpr h) c10
  · refine g_aload_n C dX10_lines_13 rfl ?_
    refine g_iconst (v := 1) C dX10_lines_14 (by decide) ?_
    refine gv1I (ci := 10) C dX10_lines_15 vwX10_refused mwX10_94 ⟨by decide, by decide⟩ rfl ly_103 (Nat.le_of_ble_eq_true rfl) (s_refused _) (Nat.le_of_ble_eq_true rfl) rfl ⟨by decide, by decide⟩ ?_
    exact e_I C dX10_lines_18 rfl rfl rfl rfl rfl
set_option maxHeartbeats 4000000 in
theorem s_mlines2 {l : Launch} {G : Gm} {I : Nat → Nat → Int32} {J : Nat → Nat → Int64} {x y : Int32} (h : ¬ x < 0 ∧ x < I 103 4) (h2 : y < 0 ∨ ¬ y ≤ I 103 15) : SpW l G iX10_lines hhL [.ref (G.1 + 103), .int x, .int y] (mm I J) (RetI (-1) (mm (tr (T0 I) 2) J)) := by
  refine SpW.of (by decide +kernel) (Nat.le_of_ble_eq_true rfl) ?_
  intro X hXl C htab
  subst hXl
  show Go X G 5 0 0 _ 0 [.ref (G.1 + 103), .int x, .int y, uu, uu] [] (mm I J)
  refine g_aload_n C dX10_lines_0 rfl ?_
  refine g_iconst (v := 0) C dX10_lines_1 (by decide) ?_
  refine g_putI (ci := 10) (k := 0) .int C dX10_lines_2 rfl inGX10 tyX10_ok nmX10 (by decide) fwX10_80 ly_103 (by decide) rfl rfl rfl rfl rfl ?_
  refine g_aload_n C dX10_lines_5 rfl ?_
  refine g_iload_n C dX10_lines_6 rfl ?_
  refine gv1I (ci := 10) C dX10_lines_7 vwX10_isPart mwX10_101 ⟨by decide, by decide⟩ rfl ly_103 (Nat.le_of_ble_eq_true rfl) (s_isPart _) (Nat.le_of_ble_eq_true rfl) rfl ⟨by decide, by decide⟩ ?_
  refine g_if_ne 19 C dX10_lines_10 (by decide) (fun c10 => ?_) (fun c10 => ?_)
  · refine g_iload_n C dX10_lines_19 rfl ?_
    refine g_if_lt 31 C dX10_lines_20 (by decide) (fun c20 => ?_) (fun c20 => ?_)
    · skip
      refine g_aload_n C dX10_lines_31 rfl ?_
      refine g_iconst (v := 2) C dX10_lines_32 (by decide) ?_
      refine gv1I (ci := 10) C dX10_lines_33 vwX10_refused mwX10_94 ⟨by decide, by decide⟩ rfl ly_103 (Nat.le_of_ble_eq_true rfl) (s_refused _) (Nat.le_of_ble_eq_true rfl) rfl ⟨by decide, by decide⟩ ?_
      exact e_I C dX10_lines_36 rfl rfl rfl rfl rfl
    · skip
      refine g_iload_n C dX10_lines_23 rfl ?_
      refine g_aload_n C dX10_lines_24 rfl ?_
      refine g_getIv (ci := 10) (k := 15) (v := I 103 15) C dX10_lines_25 rfl inGX10 (by decide) fwX10_219 ly_103 (by decide) rfl (T0_103 (by decide)) ?_
      refine g_icmp_le 37 C dX10_lines_28 (by decide) (fun c28 => ?_) (fun c28 => ?_)
      · exact (h2.elim c20 (fun q => q c28)).elim
      · skip
        refine g_aload_n C dX10_lines_31 rfl ?_
        refine g_iconst (v := 2) C dX10_lines_32 (by decide) ?_
        refine gv1I (ci := 10) C dX10_lines_33 vwX10_refused mwX10_94 ⟨by decide, by decide⟩ rfl ly_103 (Nat.le_of_ble_eq_true rfl) (s_refused _) (Nat.le_of_ble_eq_true rfl) rfl ⟨by decide, by decide⟩ ?_
        exact e_I C dX10_lines_36 rfl rfl rfl rfl rfl
  · exact absurd h (if01.mp c10)
set_option maxHeartbeats 4000000 in
theorem s_mlines {l : Launch} {G : Gm} {I : Nat → Nat → Int32} {J : Nat → Nat → Int64} {t : Nat → Nat} {e n p sz : Nat} (hB : byM I t) (hs : I 103 15 = nI sz) (hsz : sz ≤ 300) (hn : I 103 4 = nI n) (hn10 : n ≤ 10) (hp : p < n) (he : e ≤ sz) : SpW l G iX10_lines hhL [.ref (G.1 + 103), .int (nI p), .int (nI e)] (mm I J) (MlR I J t e n p) := by
  refine SpW.of (by decide +kernel) (Nat.le_of_ble_eq_true rfl) ?_
  intro X hXl C htab
  subst hXl
  show Go X G 5 0 0 _ 0 [.ref (G.1 + 103), .int (nI p), .int (nI e), uu, uu] [] (mm I J)
  have hpp : ¬ nI p < 0 ∧ nI p < I 103 4 := ⟨nI_pos (by omega), by rw [hn]; exact nI_lt hp (by omega)⟩
  have hcat : ∀ M2, RdQ (D0m I e) J t e (pText t e n 13 [] 0) M2 → ∀ a3 a4 : Value, GoT X G 5 0 0 (KQ X G iX10_lines (MlR I J t e n p) noT) 58 [.ref (G.1 + 103), .int (nI p), .int (nI e), a3, a4] [] M2 := by
    rintro M2 ⟨er, he, D2, vv, x, i, hoff, rfl⟩ a3 a4
    refine gt_catch (idx := 38) C htab (by decide) rfl (by decide) clX10_38 ((cx_KE C).1 RX9 (by decide)) (show 112 < 125 by decide) ?_
    show Go X G 5 0 0 _ 64 _ _ _
    refine g_astore_3 C dX10_lines_64 (by decide) ?_
    refine g_aload_n C dX10_lines_65 rfl ?_
    refine g_aload_n C dX10_lines_66 rfl ?_
    refine g_getN (k := 0) C rfl dX10_lines_67 (by decide) (by decide) rfl rfl rfl (by decide) ?_
    rw [show up1 (up1 (mrS D2 t e i vv) 112 0 (nI er.1)) 112 1 (nI er.2) 112 0 = nI er.1 by (rw [show up1 (up1 (mrS D2 t e i vv) 112 0 (nI er.1)) 112 1 (nI er.2) 112 0 = up1 (mrS D2 t e i vv) 112 0 (nI er.1) 112 0 by simp [up1], up1_same])]
    refine g_putI (ci := 10) (k := 3) .int C dX10_lines_70 rfl inGX10 tyX10_ok nmX10 (by decide) fwX10_222 ly_103 (by decide) rfl rfl rfl rfl rfl ?_
    refine g_aload_n C dX10_lines_73 rfl ?_
    refine g_iconst (v := 4) C dX10_lines_74 (by decide) ?_
    refine g_putI (ci := 10) (k := 1) .int C dX10_lines_75 rfl inGX10 tyX10_ok nmX10 (by decide) fwX10_83 ly_103 (by decide) rfl rfl rfl rfl rfl ?_
    refine g_aload_n C dX10_lines_78 rfl ?_
    refine g_aload_n C dX10_lines_79 rfl ?_
    refine g_getN (k := 1) C rfl dX10_lines_80 (by decide) (by decide) rfl rfl rfl (by decide) ?_
    rw [show up1 (up1 (up1 (up1 (mrS D2 t e i vv) 112 0 (nI er.1)) 112 1 (nI er.2)) 103 3 (nI er.1)) 103 1 4 112 1 = nI er.2 by (rw [up1_off (by decide), up1_off (by decide), up1_same])]
    refine g_putI (ci := 10) (k := 2) .int C dX10_lines_83 rfl inGX10 tyX10_ok nmX10 (by decide) fwX10_9 ly_103 (by decide) rfl rfl rfl rfl rfl ?_
    refine g_iconst (v := (-1)) C dX10_lines_86 (by decide) ?_
    exact g_iret C dX10_lines_87 rfl rfl rfl (Or.inr ⟨er, i, D2, vv, x, he, hoff, rfl, rfl⟩)
  have hok : ∀ M2, RdP (D0m I e) J t e (pText t e n 13 [] 0) none M2 → ∀ a3 a4 : Value, Go X G 5 0 0 (KQ X G iX10_lines (MlR I J t e n p) noT) 88 [.ref (G.1 + 103), .int (nI p), .int (nI e), a3, a4] [] M2 := by
    rintro M2 ⟨-, ls, iz, D2, he, h12, hls, hlk, hoff, vv, x, hkk, rfl⟩ a3 a4
    have cl : ∀ k : Nat, k ≤ 12 → ∀ a4 : Value, Go X G 5 0 0 (KQ X G iX10_lines (MlR I J t e n p) noT) 103 [.ref (G.1 + 103), .int (nI p), .int (nI e), .int (nI k), a4] [] (mm (it (cpL p) k (up1 (mrS D2 t e iz vv) 105 p (nI ls.length))) (upJ J 103 22 x)) := by
      refine loopN (12) ?_ ?_
      · intro a4
        show Go X G 5 0 0 _ 103 _ [] _
        refine g_iload_n C dX10_lines_103 rfl ?_
        refine g_bipush (v := 12) C dX10_lines_104 (by decide) ?_
        refine g_icmp_ge 240 C dX10_lines_106 (by decide) (fun c106 => ?_) (fun c106 => ?_)
        · refine g_aload_n C dX10_lines_240 rfl ?_
          refine g_aload_n C dX10_lines_241 rfl ?_
          refine g_getR (ci := 10) (k := 6) (q := 105) C dX10_lines_242 rfl inGX10 (by decide) fwX10_17 ly_103 (by decide) rfl rfl ?_
          refine g_iload_n C dX10_lines_245 rfl ?_
          refine g_ialdv (v := nI ls.length) p C dX10_lines_246 ly_105 (by decide) (by decide) rfl (show p < 11 by omega) (by rw [cpL_105, up1_same]) ?_
          refine gv1I (ci := 10) C dX10_lines_247 vwX10_done mwX10_98 ⟨by decide, by decide⟩ rfl ly_103 (Nat.le_of_ble_eq_true rfl) (s_done _) (Nat.le_of_ble_eq_true rfl) rfl ⟨by decide, by decide⟩ ?_
          exact g_iret C dX10_lines_250 rfl rfl rfl (Or.inl ⟨ls, iz, D2, vv, x, he, h12, hls, hlk, hoff, rfl, rfl⟩)
        · exact absurd (Int32.le_refl _) c106
      · intro k hk ihk a4
        show Go X G 5 0 0 _ 103 _ [] _
        refine g_iload_n C dX10_lines_103 rfl ?_
        refine g_bipush (v := 12) C dX10_lines_104 (by decide) ?_
        refine g_icmp_ge 240 C dX10_lines_106 (by decide) (fun c106 => ?_) (fun c106 => ?_)
        · exact (nI_ge_dead (n := 12) c106 hk (by omega)).elim
        · refine g_aload_n C dX10_lines_109 rfl ?_
          refine g_getR (ci := 10) (k := 8) (q := 107) C dX10_lines_110 rfl inGX10 (by decide) fwX10_23 ly_103 (by decide) rfl rfl ?_
          refine g_bipush (v := 12) C dX10_lines_113 (by decide) ?_
          refine g_iload_n C dX10_lines_115 rfl ?_
          refine g_imul C dX10_lines_116 ?_
          rw [mul12]
          refine g_iload_n C dX10_lines_117 rfl ?_
          refine g_iadd C dX10_lines_118 ?_
          rw [nI_add]
          refine g_aload_n C dX10_lines_119 rfl ?_
          refine g_getR (ci := 10) (k := 8) (q := 107) C dX10_lines_120 rfl inGX10 (by decide) fwX10_23 ly_103 (by decide) rfl rfl ?_
          refine g_bipush (v := 120) C dX10_lines_123 (by decide) ?_
          refine g_iload_n C dX10_lines_125 rfl ?_
          refine g_iadd C dX10_lines_126 ?_
          rw [show (120 : Int32) + nI k = nI (120 + k) from nI_add 120 _]
          refine g_iald (120 + k) C dX10_lines_127 ly_107 (by decide) (by decide) rfl (show 120 + k < 132 by omega) ?_
          refine g_iast (12 * p + k) C dX10_lines_128 ly_107 (by decide) (by decide) rfl (show 12 * p + k < 132 by omega) ?_
          rw [cp_u]
          refine g_aload_n C dX10_lines_129 rfl ?_
          refine g_getR (ci := 10) (k := 9) (q := 108) C dX10_lines_130 rfl inGX10 (by decide) fwX10_26 ly_103 (by decide) rfl rfl ?_
          refine g_bipush (v := 12) C dX10_lines_133 (by decide) ?_
          refine g_iload_n C dX10_lines_135 rfl ?_
          refine g_imul C dX10_lines_136 ?_
          rw [mul12]
          refine g_iload_n C dX10_lines_137 rfl ?_
          refine g_iadd C dX10_lines_138 ?_
          rw [nI_add]
          refine g_aload_n C dX10_lines_139 rfl ?_
          refine g_getR (ci := 10) (k := 9) (q := 108) C dX10_lines_140 rfl inGX10 (by decide) fwX10_26 ly_103 (by decide) rfl rfl ?_
          refine g_bipush (v := 120) C dX10_lines_143 (by decide) ?_
          refine g_iload_n C dX10_lines_145 rfl ?_
          refine g_iadd C dX10_lines_146 ?_
          rw [show (120 : Int32) + nI k = nI (120 + k) from nI_add 120 _]
          refine g_iald (120 + k) C dX10_lines_147 ly_108 (by decide) (by decide) rfl (show 120 + k < 132 by omega) ?_
          refine g_iast (12 * p + k) C dX10_lines_148 ly_108 (by decide) (by decide) rfl (show 12 * p + k < 132 by omega) ?_
          rw [cp_u]
          refine g_aload_n C dX10_lines_149 rfl ?_
          refine g_getR (ci := 10) (k := 10) (q := 109) C dX10_lines_150 rfl inGX10 (by decide) fwX10_29 ly_103 (by decide) rfl rfl ?_
          refine g_bipush (v := 12) C dX10_lines_153 (by decide) ?_
          refine g_iload_n C dX10_lines_155 rfl ?_
          refine g_imul C dX10_lines_156 ?_
          rw [mul12]
          refine g_iload_n C dX10_lines_157 rfl ?_
          refine g_iadd C dX10_lines_158 ?_
          rw [nI_add]
          refine g_aload_n C dX10_lines_159 rfl ?_
          refine g_getR (ci := 10) (k := 10) (q := 109) C dX10_lines_160 rfl inGX10 (by decide) fwX10_29 ly_103 (by decide) rfl rfl ?_
          refine g_bipush (v := 120) C dX10_lines_163 (by decide) ?_
          refine g_iload_n C dX10_lines_165 rfl ?_
          refine g_iadd C dX10_lines_166 ?_
          rw [show (120 : Int32) + nI k = nI (120 + k) from nI_add 120 _]
          refine g_iald (120 + k) C dX10_lines_167 ly_109 (by decide) (by decide) rfl (show 120 + k < 132 by omega) ?_
          refine g_iast (12 * p + k) C dX10_lines_168 ly_109 (by decide) (by decide) rfl (show 12 * p + k < 132 by omega) ?_
          rw [cp_u]
          refine g_aload_n C dX10_lines_169 rfl ?_
          refine g_getR (ci := 10) (k := 11) (q := 110) C dX10_lines_170 rfl inGX10 (by decide) fwX10_32 ly_103 (by decide) rfl rfl ?_
          refine g_bipush (v := 12) C dX10_lines_173 (by decide) ?_
          refine g_iload_n C dX10_lines_175 rfl ?_
          refine g_imul C dX10_lines_176 ?_
          rw [mul12]
          refine g_iload_n C dX10_lines_177 rfl ?_
          refine g_iadd C dX10_lines_178 ?_
          rw [nI_add]
          refine g_aload_n C dX10_lines_179 rfl ?_
          refine g_getR (ci := 10) (k := 11) (q := 110) C dX10_lines_180 rfl inGX10 (by decide) fwX10_32 ly_103 (by decide) rfl rfl ?_
          refine g_bipush (v := 120) C dX10_lines_183 (by decide) ?_
          refine g_iload_n C dX10_lines_185 rfl ?_
          refine g_iadd C dX10_lines_186 ?_
          rw [show (120 : Int32) + nI k = nI (120 + k) from nI_add 120 _]
          refine g_iald (120 + k) C dX10_lines_187 ly_110 (by decide) (by decide) rfl (show 120 + k < 132 by omega) ?_
          refine g_iast (12 * p + k) C dX10_lines_188 ly_110 (by decide) (by decide) rfl (show 12 * p + k < 132 by omega) ?_
          rw [cp_u]
          refine g_iconst (v := 0) C dX10_lines_189 (by decide) ?_
          refine g_istore_4 C dX10_lines_190 (by decide) ?_
          have inner : ∀ i : Nat, i ≤ 4 → Go X G 5 0 0 (KQ X G iX10_lines (MlR I J t e n p) noT) 192 [.ref (G.1 + 103), .int (nI p), .int (nI e), .int (nI k), .int (nI i)] [] (mm (it (cp4 p k) i (cp1 110 p k (cp1 109 p k (cp1 108 p k (cp1 107 p k (it (cpL p) k (up1 (mrS D2 t e iz vv) 105 p (nI ls.length)))))))) (upJ J 103 22 x)) := by
            refine loopN (4) ?_ ?_
            · skip
              show Go X G 5 0 0 _ 192 _ [] _
              refine g_iload C dX10_lines_192 rfl ?_
              refine g_iconst (v := 4) C dX10_lines_194 (by decide) ?_
              refine g_icmp_ge 234 C dX10_lines_195 (by decide) (fun c195 => ?_) (fun c195 => ?_)
              · refine g_iinc_3 C dX10_lines_234 (nI_1 k) (by decide) ?_
                refine g_goto 103 C dX10_lines_237 (by decide) ?_
                exact ihk _
              · exact absurd (Int32.le_refl _) c195
            · intro i hi ihi 
              show Go X G 5 0 0 _ 192 _ [] _
              refine g_iload C dX10_lines_192 rfl ?_
              refine g_iconst (v := 4) C dX10_lines_194 (by decide) ?_
              refine g_icmp_ge 234 C dX10_lines_195 (by decide) (fun c195 => ?_) (fun c195 => ?_)
              · exact (nI_ge_dead (n := 4) c195 hi (by omega)).elim
              · refine g_aload_n C dX10_lines_198 rfl ?_
                refine g_getR (ci := 10) (k := 12) (q := 111) C dX10_lines_199 rfl inGX10 (by decide) fwX10_35 ly_103 (by decide) rfl rfl ?_
                refine g_iconst (v := 4) C dX10_lines_202 (by decide) ?_
                refine g_bipush (v := 12) C dX10_lines_203 (by decide) ?_
                refine g_iload_n C dX10_lines_205 rfl ?_
                refine g_imul C dX10_lines_206 ?_
                rw [mul12]
                refine g_iload_n C dX10_lines_207 rfl ?_
                refine g_iadd C dX10_lines_208 ?_
                rw [nI_add]
                refine g_imul C dX10_lines_209 ?_
                rw [mul4]
                refine g_iload C dX10_lines_210 rfl ?_
                refine g_iadd C dX10_lines_212 ?_
                rw [nI_add]
                refine g_aload_n C dX10_lines_213 rfl ?_
                refine g_getR (ci := 10) (k := 12) (q := 111) C dX10_lines_214 rfl inGX10 (by decide) fwX10_35 ly_103 (by decide) rfl rfl ?_
                refine g_iconst (v := 4) C dX10_lines_217 (by decide) ?_
                refine g_bipush (v := 120) C dX10_lines_218 (by decide) ?_
                refine g_iload_n C dX10_lines_220 rfl ?_
                refine g_iadd C dX10_lines_221 ?_
                rw [show (120 : Int32) + nI k = nI (120 + k) from nI_add 120 _]
                refine g_imul C dX10_lines_222 ?_
                rw [mul4]
                refine g_iload C dX10_lines_223 rfl ?_
                refine g_iadd C dX10_lines_225 ?_
                rw [nI_add]
                refine g_iald (4 * (120 + k) + i) C dX10_lines_226 ly_111 (by decide) (by decide) rfl (show 4 * (120 + k) + i < 528 by omega) ?_
                refine g_iast (4 * (12 * p + k) + i) C dX10_lines_227 ly_111 (by decide) (by decide) rfl (show 4 * (12 * p + k) + i < 528 by omega) ?_
                refine g_iinc_4 C dX10_lines_228 (nI_1 i) (by decide) ?_
                refine g_goto 192 C dX10_lines_231 (by decide) ?_
                exact ihi
          exact inner 0 (Nat.zero_le _)
    refine g_aload_n C dX10_lines_88 rfl ?_
    refine g_getR (ci := 10) (k := 6) (q := 105) C dX10_lines_89 rfl inGX10 (by decide) fwX10_17 ly_103 (by decide) rfl rfl ?_
    refine g_iload_n C dX10_lines_92 rfl ?_
    refine g_aload_n C dX10_lines_93 rfl ?_
    refine g_getR (ci := 10) (k := 6) (q := 105) C dX10_lines_94 rfl inGX10 (by decide) fwX10_17 ly_103 (by decide) rfl rfl ?_
    refine g_bipush (v := 10) C dX10_lines_97 (by decide) ?_
    refine g_ialdv (v := nI ls.length) 10 C dX10_lines_99 ly_105 (by decide) (by decide) rfl (by decide) (by rw [mr_off (by decide)]; exact hls.1) ?_
    refine g_iast p C dX10_lines_100 ly_105 (by decide) (by decide) rfl (show p < 11 by omega) ?_
    refine g_iconst (v := 0) C dX10_lines_101 (by decide) ?_
    refine g_istore_3 C dX10_lines_102 (by decide) ?_
    exact cl 0 (Nat.zero_le _) _
  refine g_aload_n C dX10_lines_0 rfl ?_
  refine g_iconst (v := 0) C dX10_lines_1 (by decide) ?_
  refine g_putI (ci := 10) (k := 0) .int C dX10_lines_2 rfl inGX10 tyX10_ok nmX10 (by decide) fwX10_80 ly_103 (by decide) rfl rfl rfl rfl rfl ?_
  refine g_aload_n C dX10_lines_5 rfl ?_
  refine g_iload_n C dX10_lines_6 rfl ?_
  refine gv1I (ci := 10) C dX10_lines_7 vwX10_isPart mwX10_101 ⟨by decide, by decide⟩ rfl ly_103 (Nat.le_of_ble_eq_true rfl) (s_isPart _) (Nat.le_of_ble_eq_true rfl) rfl ⟨by decide, by decide⟩ ?_
  refine g_if_ne 19 C dX10_lines_10 (by decide) (fun c10 => ?_) (fun c10 => ?_)
  · refine g_iload_n C dX10_lines_19 rfl ?_
    refine g_if_lt 31 C dX10_lines_20 (by decide) (fun c20 => ?_) (fun c20 => ?_)
    · exact absurd c20 (nI_pos (by omega))
    · refine g_iload_n C dX10_lines_23 rfl ?_
      refine g_aload_n C dX10_lines_24 rfl ?_
      refine g_getIv (ci := 10) (k := 15) (v := nI sz) C dX10_lines_25 rfl inGX10 (by decide) fwX10_219 ly_103 (by decide) rfl ((T0_103 (by decide)).trans hs) ?_
      refine g_icmp_le 37 C dX10_lines_28 (by decide) (fun c28 => ?_) (fun c28 => ?_)
      · refine g_aload_n C dX10_lines_37 rfl ?_
        refine g_iload_n C dX10_lines_38 rfl ?_
        refine g_putI (ci := 10) (k := 16) .int C dX10_lines_39 rfl inGX10 tyX10_ok nmX10 (by decide) fwX10_118 ly_103 (by decide) rfl rfl rfl rfl rfl ?_
        refine g_aload_n C dX10_lines_42 rfl ?_
        refine g_iconst (v := 0) C dX10_lines_43 (by decide) ?_
        refine g_putI (ci := 10) (k := 15) .int C dX10_lines_44 rfl inGX10 tyX10_ok nmX10 (by decide) fwX10_219 ly_103 (by decide) rfl rfl rfl rfl rfl ?_
        refine g_aload_n C dX10_lines_47 rfl ?_
        refine g_iconst (v := 0) C dX10_lines_48 (by decide) ?_
        refine g_putI (ci := 10) (k := 17) .int C dX10_lines_49 rfl inGX10 tyX10_ok nmX10 (by decide) fwX10_133 ly_103 (by decide) rfl rfl rfl rfl rfl ?_
        refine g_aload_n C dX10_lines_52 rfl ?_
        refine g_iconst (v := 0) C dX10_lines_53 (by decide) ?_
        refine g_putI (ci := 10) (k := 3) .int C dX10_lines_54 rfl inGX10 tyX10_ok nmX10 (by decide) fwX10_222 ly_103 (by decide) rfl rfl rfl rfl rfl ?_
        refine g_aload_n C dX10_lines_57 rfl ?_
        refine g_callVT (na := 0) (As := []) (ci := 10) C dX10_lines_58 vwX10_reads mwX10_225 ⟨by decide, by decide⟩ rfl ly_103 (Nat.le_of_ble_eq_true rfl) (s_reads (D0m_rd hB (by omega)) (D0m_4.trans hn) (by omega) D0m_17) rfl (Nat.le_of_ble_eq_true rfl) rfl ⟨by decide, by decide⟩ _ rfl (fun z M2 hP => ?_) (fun M2 hT => hcat M2 hT _ _)
        obtain rfl : z = none := hP.1
        refine g_goto 88 C dX10_lines_61 (by decide) ?_
        exact hok M2 hP _ _
      · exact absurd (nI_le he (by omega)) c28
  · exact absurd hpp (if01.mp c10)
