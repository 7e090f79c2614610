/-! ## a line -/
def lnOK (D : Nat → Nat → Int32) (q : Nat) (ln : Ln) : Prop := D 107 q = nI ln.1 ∧ D 108 q = nI ln.2.1 ∧ D 109 q = nI ln.2.2.1 ∧ D 110 q = ln.2.2.2.1 ∧ (ln.1 = 1 → ∀ i, i < ln.2.2.2.2.length → D 111 (4 * q + i) = nI (ln.2.2.2.2.getD i 0))
def LnP (D : Nat → Nat → Int32) (J : Nat → Nat → Int64) (t : Nat → Nat) (e q : Nat) (r : Except Er (Ln × Nat)) : Option Value → Mm → Prop := fun z M2 => z = none ∧ ∃ ln j D', r = .ok (ln, j) ∧ lnOK D' q ln ∧ offQ q D D' ∧ j ≤ e ∧ MS D' J t e j M2
def LnT (D : Nat → Nat → Int32) (J : Nat → Nat → Int64) (t : Nat → Nat) (e q : Nat) (r : Except Er (Ln × Nat)) : Mm → Prop := fun M2 => ∃ er, r = .error er ∧ TS J (offQ q D) t e er M2
theorem hd_get (fr : List Nat) : fr.getD 0 0 = fr.headD 0 := by cases fr <;> rfl
set_option maxHeartbeats 2000000 in
theorem s_rl0 {l : Launch} {G : Gm} {D : Nat → Nat → Int32} {J : Nat → Nat → Int64} {t : Nat → Nat} {e i : Nat} (hD : rdOK D t e) (hi : i ≤ e) {v : Int32} {x : Int64} (hk : nxK t e i v x) {q : Nat} (hq : q < 132) : Sp l G iX10_readLine [.ref (G.1 + 103), .int (nI q), .int 0] (mm (mrS D t e i v) (upJ J 103 22 x)) (LnP D J t e q (pGet t e i)) (LnT D J t e q (pGet t e i)) := by
  refine Sp.ofT (by decide +kernel) (Nat.le_of_ble_eq_true rfl) ?_
  intro X hXl C ht
  subst hXl
  show Go X G 3 0 0 _ 0 [.ref (G.1 + 103), .int (nI q), .int 0] [] (mm (mrS D t e i v) (upJ J 103 22 x))
  refine g_aload_n C dX10_readLine_0 rfl ?_
  refine g_getR (ci := 10) (k := 8) (q := 107) C dX10_readLine_1 rfl inGX10 (by decide) fwX10_23 ly_103 (by decide) rfl rfl ?_
  refine g_iload_n C dX10_readLine_4 rfl ?_
  refine g_iload_n C dX10_readLine_5 rfl ?_
  refine g_iast q C dX10_readLine_6 ly_107 (by decide) (by decide) rfl hq ?_
  rw [mr_up (by decide)]
  refine g_aload_n C dX10_readLine_7 rfl ?_
  refine g_getR (ci := 10) (k := 9) (q := 108) C dX10_readLine_8 rfl inGX10 (by decide) fwX10_26 ly_103 (by decide) rfl rfl ?_
  refine g_iload_n C dX10_readLine_11 rfl ?_
  refine g_iconst (v := 0) C dX10_readLine_12 (by decide) ?_
  refine g_iast q C dX10_readLine_13 ly_108 (by decide) (by decide) rfl hq ?_
  rw [mr_up (by decide)]
  refine g_aload_n C dX10_readLine_14 rfl ?_
  refine g_getR (ci := 10) (k := 11) (q := 110) C dX10_readLine_15 rfl inGX10 (by decide) fwX10_32 ly_103 (by decide) rfl rfl ?_
  refine g_iload_n C dX10_readLine_18 rfl ?_
  refine g_iconst (v := (-1)) C dX10_readLine_19 (by decide) ?_
  refine g_iast q C dX10_readLine_20 ly_110 (by decide) (by decide) rfl hq ?_
  rw [mr_up (by decide)]
  refine g_iload_n C dX10_readLine_21 rfl ?_
  refine g_tabIn 56 C dX10_readLine_22 (by decide) (by decide) rfl (by decide) ?_
  refine g_aload_n C dX10_readLine_56 rfl ?_
  refine g_getR (ci := 10) (k := 9) (q := 108) C dX10_readLine_57 rfl inGX10 (by decide) fwX10_26 ly_103 (by decide) rfl rfl ?_
  refine g_iload_n C dX10_readLine_60 rfl ?_
  refine g_aload_n C dX10_readLine_61 rfl ?_
  refine g_bipush (v := 16) C dX10_readLine_62 (by decide) ?_
  rcases h1 : pWhole t e i 16 with er | ⟨p, j1⟩
  · skip
    exact g_callVT (na := 1) (As := [_]) (ci := 10) C dX10_readLine_64 vwX10_needWhole mwX10_196 ⟨by decide, by decide⟩ rfl ly_103 (Nat.le_of_ble_eq_true rfl) (s_nwhE (rd_up (rd_up (rd_up hD (by decide) (by decide)) (by decide) (by decide)) (by decide) (by decide)) hi hk (b := 16) (by decide) h1) rfl (Nat.le_of_ble_eq_true rfl) rfl ⟨by decide, by decide⟩ _ rfl (fun z M2 hP => hP.elim) (fun M2 hT => gt_out C ht rfl rfl ⟨er, by simp only [pGet, *], TS_eq hT (offQ_up (offQ_up (offQ_up offQ_rfl (by decide) (by decide)) (by decide) (by decide)) (by decide) (by decide))⟩)
  · skip
    refine gv1 (ci := 10) (M1 := mm D J) C dX10_readLine_64 vwX10_needWhole mwX10_196 ⟨by decide, by decide⟩ rfl ly_103 (Nat.le_of_ble_eq_true rfl) (s_nwhO (rd_up (rd_up (rd_up hD (by decide) (by decide)) (by decide) (by decide)) (by decide) (by decide)) hi hk (b := 16) (by decide) h1) (Nat.le_of_ble_eq_true rfl) rfl ⟨by decide, by decide⟩ (fun z M2 hP => ?_)
    obtain ⟨rfl, v1, x1, hk1, rfl⟩ := hP
    have hj1 : j1 ≤ e := by rw [(pWhole_ok h1).2.2.2]; exact tn_le hi
    refine g_iast q C dX10_readLine_67 ly_108 (by decide) (by decide) rfl hq ?_
    rw [mr_up (by decide)]
    refine g_aload_n C dX10_readLine_68 rfl ?_
    refine g_ldcS (i := 6) (tx := "to") C dX10_readLine_69 (by decide +kernel) ?_
    rcases h2 : pWord t e j1 6 with er | j2
    · skip
      exact g_callVT (na := 1) (As := [_]) (ci := 10) C dX10_readLine_71 vwX10_needWord mwX10_201 ⟨by decide, by decide⟩ rfl ly_103 (Nat.le_of_ble_eq_true rfl) (s_nwE (rd_up (rd_up (rd_up (rd_up hD (by decide) (by decide)) (by decide) (by decide)) (by decide) (by decide)) (by decide) (by decide)) hj1 hk1 (w := 6) (by decide) h2) rfl (Nat.le_of_ble_eq_true rfl) rfl ⟨by decide, by decide⟩ _ rfl (fun z M2 hP => hP.elim) (fun M2 hT => gt_out C ht rfl rfl ⟨er, by simp only [pGet, *], TS_eq hT (offQ_up (offQ_up (offQ_up (offQ_up offQ_rfl (by decide) (by decide)) (by decide) (by decide)) (by decide) (by decide)) (by decide) (by decide))⟩)
    · skip
      refine gv1 (ci := 10) (M1 := mm D J) C dX10_readLine_71 vwX10_needWord mwX10_201 ⟨by decide, by decide⟩ rfl ly_103 (Nat.le_of_ble_eq_true rfl) (s_nwO (rd_up (rd_up (rd_up (rd_up hD (by decide) (by decide)) (by decide) (by decide)) (by decide) (by decide)) (by decide) (by decide)) hj1 hk1 (w := 6) (by decide) h2) (Nat.le_of_ble_eq_true rfl) rfl ⟨by decide, by decide⟩ (fun z M2 hP => ?_)
      obtain ⟨rfl, v2, x2, hk2, rfl⟩ := hP
      have hj2 : j2 ≤ e := by rw [(pWord_ok h2).2]; exact tn_le hj1
      refine g_aload_n C dX10_readLine_74 rfl ?_
      refine g_getR (ci := 10) (k := 10) (q := 109) C dX10_readLine_75 rfl inGX10 (by decide) fwX10_29 ly_103 (by decide) rfl rfl ?_
      refine g_iload_n C dX10_readLine_78 rfl ?_
      refine g_aload_n C dX10_readLine_79 rfl ?_
      rcases h3 : pName t e j2 with er | ⟨a, j3⟩
      · skip
        exact g_callVT (na := 0) (As := []) (ci := 10) C dX10_readLine_80 vwX10_needName mwX10_205 ⟨by decide, by decide⟩ rfl ly_103 (Nat.le_of_ble_eq_true rfl) (s_nnE (rd_up (rd_up (rd_up (rd_up hD (by decide) (by decide)) (by decide) (by decide)) (by decide) (by decide)) (by decide) (by decide)) hj2 hk2 h3) rfl (Nat.le_of_ble_eq_true rfl) rfl ⟨by decide, by decide⟩ _ rfl (fun z M2 hP => hP.elim) (fun M2 hT => gt_out C ht rfl rfl ⟨er, by simp only [pGet, *], TS_eq hT (offQ_up (offQ_up (offQ_up (offQ_up offQ_rfl (by decide) (by decide)) (by decide) (by decide)) (by decide) (by decide)) (by decide) (by decide))⟩)
      · skip
        refine gv0 (ci := 10) (M1 := mm D J) C dX10_readLine_80 vwX10_needName mwX10_205 ⟨by decide, by decide⟩ rfl ly_103 (Nat.le_of_ble_eq_true rfl) (s_nnO (rd_up (rd_up (rd_up (rd_up hD (by decide) (by decide)) (by decide) (by decide)) (by decide) (by decide)) (by decide) (by decide)) hj2 hk2 h3) (Nat.le_of_ble_eq_true rfl) rfl ⟨by decide, by decide⟩ (fun z M2 hP => ?_)
        obtain ⟨rfl, v3, x3, hk3, rfl⟩ := hP
        have hj3 : j3 ≤ e := by rw [(pName_ok h3).2.2.1]; exact tn_le hj2
        refine g_iast q C dX10_readLine_83 ly_109 (by decide) (by decide) rfl hq ?_
        rw [mr_up (by decide)]
        refine g_goto 246 C dX10_readLine_84 (by decide) ?_
        exact g_vret C dX10_readLine_246 rfl rfl rfl ⟨rfl, (0, p, a, -1, []), j3, (up1 (up1 (up1 (up1 (up1 D 107 q 0) 108 q 0) 110 q (-1)) 108 q (nI p)) 109 q (nI a)), by simp only [pGet, *], ⟨(by simp [up1] <;> rfl), (by simp [up1] <;> rfl), (by simp [up1] <;> rfl), (by simp [up1] <;> rfl), fun z => by simp at z⟩, (offQ_up (offQ_up (offQ_up (offQ_up (offQ_up offQ_rfl (by decide) (by decide)) (by decide) (by decide)) (by decide) (by decide)) (by decide) (by decide)) (by decide) (by decide)), hj3, _, _, hk3, rfl⟩
set_option maxHeartbeats 2000000 in
theorem s_rl3 {l : Launch} {G : Gm} {D : Nat → Nat → Int32} {J : Nat → Nat → Int64} {t : Nat → Nat} {e i : Nat} (hD : rdOK D t e) (hi : i ≤ e) {v : Int32} {x : Int64} (hk : nxK t e i v x) {q : Nat} (hq : q < 132) : Sp l G iX10_readLine [.ref (G.1 + 103), .int (nI q), .int 3] (mm (mrS D t e i v) (upJ J 103 22 x)) (LnP D J t e q (pOut t e 3 9 i)) (LnT D J t e q (pOut t e 3 9 i)) := by
  refine Sp.ofT (by decide +kernel) (Nat.le_of_ble_eq_true rfl) ?_
  intro X hXl C ht
  subst hXl
  show Go X G 3 0 0 _ 0 [.ref (G.1 + 103), .int (nI q), .int 3] [] (mm (mrS D t e i v) (upJ J 103 22 x))
  refine g_aload_n C dX10_readLine_0 rfl ?_
  refine g_getR (ci := 10) (k := 8) (q := 107) C dX10_readLine_1 rfl inGX10 (by decide) fwX10_23 ly_103 (by decide) rfl rfl ?_
  refine g_iload_n C dX10_readLine_4 rfl ?_
  refine g_iload_n C dX10_readLine_5 rfl ?_
  refine g_iast q C dX10_readLine_6 ly_107 (by decide) (by decide) rfl hq ?_
  rw [mr_up (by decide)]
  refine g_aload_n C dX10_readLine_7 rfl ?_
  refine g_getR (ci := 10) (k := 9) (q := 108) C dX10_readLine_8 rfl inGX10 (by decide) fwX10_26 ly_103 (by decide) rfl rfl ?_
  refine g_iload_n C dX10_readLine_11 rfl ?_
  refine g_iconst (v := 0) C dX10_readLine_12 (by decide) ?_
  refine g_iast q C dX10_readLine_13 ly_108 (by decide) (by decide) rfl hq ?_
  rw [mr_up (by decide)]
  refine g_aload_n C dX10_readLine_14 rfl ?_
  refine g_getR (ci := 10) (k := 11) (q := 110) C dX10_readLine_15 rfl inGX10 (by decide) fwX10_32 ly_103 (by decide) rfl rfl ?_
  refine g_iload_n C dX10_readLine_18 rfl ?_
  refine g_iconst (v := (-1)) C dX10_readLine_19 (by decide) ?_
  refine g_iast q C dX10_readLine_20 ly_110 (by decide) (by decide) rfl hq ?_
  rw [mr_up (by decide)]
  refine g_iload_n C dX10_readLine_21 rfl ?_
  refine g_tabIn 174 C dX10_readLine_22 (by decide) (by decide) rfl (by decide) ?_
  refine g_aload_n C dX10_readLine_174 rfl ?_
  refine g_getR (ci := 10) (k := 10) (q := 109) C dX10_readLine_175 rfl inGX10 (by decide) fwX10_29 ly_103 (by decide) rfl rfl ?_
  refine g_iload_n C dX10_readLine_178 rfl ?_
  refine g_aload_n C dX10_readLine_179 rfl ?_
  rcases h1 : pName t e i with er | ⟨a, j1⟩
  · skip
    exact g_callVT (na := 0) (As := []) (ci := 10) C dX10_readLine_180 vwX10_needName mwX10_205 ⟨by decide, by decide⟩ rfl ly_103 (Nat.le_of_ble_eq_true rfl) (s_nnE (rd_up (rd_up (rd_up hD (by decide) (by decide)) (by decide) (by decide)) (by decide) (by decide)) hi hk h1) rfl (Nat.le_of_ble_eq_true rfl) rfl ⟨by decide, by decide⟩ _ rfl (fun z M2 hP => hP.elim) (fun M2 hT => gt_out C ht rfl rfl ⟨er, by simp only [pOut, *], TS_eq hT (offQ_up (offQ_up (offQ_up offQ_rfl (by decide) (by decide)) (by decide) (by decide)) (by decide) (by decide))⟩)
  · skip
    refine gv0 (ci := 10) (M1 := mm D J) C dX10_readLine_180 vwX10_needName mwX10_205 ⟨by decide, by decide⟩ rfl ly_103 (Nat.le_of_ble_eq_true rfl) (s_nnO (rd_up (rd_up (rd_up hD (by decide) (by decide)) (by decide) (by decide)) (by decide) (by decide)) hi hk h1) (Nat.le_of_ble_eq_true rfl) rfl ⟨by decide, by decide⟩ (fun z M2 hP => ?_)
    obtain ⟨rfl, v1, x1, hk1, rfl⟩ := hP
    have hj1 : j1 ≤ e := by rw [(pName_ok h1).2.2.1]; exact tn_le hi
    refine g_iast q C dX10_readLine_183 ly_109 (by decide) (by decide) rfl hq ?_
    rw [mr_up (by decide)]
    refine g_aload_n C dX10_readLine_184 rfl ?_
    refine g_ldcS (i := 9) (tx := "by") C dX10_readLine_185 (by decide +kernel) ?_
    rcases h2 : pWord t e j1 9 with er | j2
    · skip
      exact g_callVT (na := 1) (As := [_]) (ci := 10) C dX10_readLine_187 vwX10_needWord mwX10_201 ⟨by decide, by decide⟩ rfl ly_103 (Nat.le_of_ble_eq_true rfl) (s_nwE (rd_up (rd_up (rd_up (rd_up hD (by decide) (by decide)) (by decide) (by decide)) (by decide) (by decide)) (by decide) (by decide)) hj1 hk1 (w := 9) (by decide) h2) rfl (Nat.le_of_ble_eq_true rfl) rfl ⟨by decide, by decide⟩ _ rfl (fun z M2 hP => hP.elim) (fun M2 hT => gt_out C ht rfl rfl ⟨er, by simp only [pOut, *], TS_eq hT (offQ_up (offQ_up (offQ_up (offQ_up offQ_rfl (by decide) (by decide)) (by decide) (by decide)) (by decide) (by decide)) (by decide) (by decide))⟩)
    · skip
      refine gv1 (ci := 10) (M1 := mm D J) C dX10_readLine_187 vwX10_needWord mwX10_201 ⟨by decide, by decide⟩ rfl ly_103 (Nat.le_of_ble_eq_true rfl) (s_nwO (rd_up (rd_up (rd_up (rd_up hD (by decide) (by decide)) (by decide) (by decide)) (by decide) (by decide)) (by decide) (by decide)) hj1 hk1 (w := 9) (by decide) h2) (Nat.le_of_ble_eq_true rfl) rfl ⟨by decide, by decide⟩ (fun z M2 hP => ?_)
      obtain ⟨rfl, v2, x2, hk2, rfl⟩ := hP
      have hj2 : j2 ≤ e := by rw [(pWord_ok h2).2]; exact tn_le hj1
      refine g_aload_n C dX10_readLine_190 rfl ?_
      refine g_getR (ci := 10) (k := 9) (q := 108) C dX10_readLine_191 rfl inGX10 (by decide) fwX10_26 ly_103 (by decide) rfl rfl ?_
      refine g_iload_n C dX10_readLine_194 rfl ?_
      refine g_aload_n C dX10_readLine_195 rfl ?_
      refine g_bipush (v := 16) C dX10_readLine_196 (by decide) ?_
      rcases h3 : pWhole t e j2 16 with er | ⟨p, j3⟩
      · skip
        exact g_callVT (na := 1) (As := [_]) (ci := 10) C dX10_readLine_198 vwX10_needWhole mwX10_196 ⟨by decide, by decide⟩ rfl ly_103 (Nat.le_of_ble_eq_true rfl) (s_nwhE (rd_up (rd_up (rd_up (rd_up hD (by decide) (by decide)) (by decide) (by decide)) (by decide) (by decide)) (by decide) (by decide)) hj2 hk2 (b := 16) (by decide) h3) rfl (Nat.le_of_ble_eq_true rfl) rfl ⟨by decide, by decide⟩ _ rfl (fun z M2 hP => hP.elim) (fun M2 hT => gt_out C ht rfl rfl ⟨er, by simp only [pOut, *], TS_eq hT (offQ_up (offQ_up (offQ_up (offQ_up offQ_rfl (by decide) (by decide)) (by decide) (by decide)) (by decide) (by decide)) (by decide) (by decide))⟩)
      · skip
        refine gv1 (ci := 10) (M1 := mm D J) C dX10_readLine_198 vwX10_needWhole mwX10_196 ⟨by decide, by decide⟩ rfl ly_103 (Nat.le_of_ble_eq_true rfl) (s_nwhO (rd_up (rd_up (rd_up (rd_up hD (by decide) (by decide)) (by decide) (by decide)) (by decide) (by decide)) (by decide) (by decide)) hj2 hk2 (b := 16) (by decide) h3) (Nat.le_of_ble_eq_true rfl) rfl ⟨by decide, by decide⟩ (fun z M2 hP => ?_)
        obtain ⟨rfl, v3, x3, hk3, rfl⟩ := hP
        have hj3 : j3 ≤ e := by rw [(pWhole_ok h3).2.2.2]; exact tn_le hj2
        refine g_iast q C dX10_readLine_201 ly_108 (by decide) (by decide) rfl hq ?_
        rw [mr_up (by decide)]
        refine g_goto 246 C dX10_readLine_202 (by decide) ?_
        exact g_vret C dX10_readLine_246 rfl rfl rfl ⟨rfl, (3, p, a, -1, []), j3, (up1 (up1 (up1 (up1 (up1 D 107 q 3) 108 q 0) 110 q (-1)) 109 q (nI a)) 108 q (nI p)), by simp only [pOut, *], ⟨(by simp [up1] <;> rfl), (by simp [up1] <;> rfl), (by simp [up1] <;> rfl), (by simp [up1] <;> rfl), fun z => by simp at z⟩, (offQ_up (offQ_up (offQ_up (offQ_up (offQ_up offQ_rfl (by decide) (by decide)) (by decide) (by decide)) (by decide) (by decide)) (by decide) (by decide)) (by decide) (by decide)), hj3, _, _, hk3, rfl⟩
set_option maxHeartbeats 2000000 in
theorem s_rl4 {l : Launch} {G : Gm} {D : Nat → Nat → Int32} {J : Nat → Nat → Int64} {t : Nat → Nat} {e i : Nat} (hD : rdOK D t e) (hi : i ≤ e) {v : Int32} {x : Int64} (hk : nxK t e i v x) {q : Nat} (hq : q < 132) : Sp l G iX10_readLine [.ref (G.1 + 103), .int (nI q), .int 4] (mm (mrS D t e i v) (upJ J 103 22 x)) (LnP D J t e q (pOut t e 4 10 i)) (LnT D J t e q (pOut t e 4 10 i)) := by
  refine Sp.ofT (by decide +kernel) (Nat.le_of_ble_eq_true rfl) ?_
  intro X hXl C ht
  subst hXl
  show Go X G 3 0 0 _ 0 [.ref (G.1 + 103), .int (nI q), .int 4] [] (mm (mrS D t e i v) (upJ J 103 22 x))
  refine g_aload_n C dX10_readLine_0 rfl ?_
  refine g_getR (ci := 10) (k := 8) (q := 107) C dX10_readLine_1 rfl inGX10 (by decide) fwX10_23 ly_103 (by decide) rfl rfl ?_
  refine g_iload_n C dX10_readLine_4 rfl ?_
  refine g_iload_n C dX10_readLine_5 rfl ?_
  refine g_iast q C dX10_readLine_6 ly_107 (by decide) (by decide) rfl hq ?_
  rw [mr_up (by decide)]
  refine g_aload_n C dX10_readLine_7 rfl ?_
  refine g_getR (ci := 10) (k := 9) (q := 108) C dX10_readLine_8 rfl inGX10 (by decide) fwX10_26 ly_103 (by decide) rfl rfl ?_
  refine g_iload_n C dX10_readLine_11 rfl ?_
  refine g_iconst (v := 0) C dX10_readLine_12 (by decide) ?_
  refine g_iast q C dX10_readLine_13 ly_108 (by decide) (by decide) rfl hq ?_
  rw [mr_up (by decide)]
  refine g_aload_n C dX10_readLine_14 rfl ?_
  refine g_getR (ci := 10) (k := 11) (q := 110) C dX10_readLine_15 rfl inGX10 (by decide) fwX10_32 ly_103 (by decide) rfl rfl ?_
  refine g_iload_n C dX10_readLine_18 rfl ?_
  refine g_iconst (v := (-1)) C dX10_readLine_19 (by decide) ?_
  refine g_iast q C dX10_readLine_20 ly_110 (by decide) (by decide) rfl hq ?_
  rw [mr_up (by decide)]
  refine g_iload_n C dX10_readLine_21 rfl ?_
  refine g_tabIn 205 C dX10_readLine_22 (by decide) (by decide) rfl (by decide) ?_
  refine g_aload_n C dX10_readLine_205 rfl ?_
  refine g_getR (ci := 10) (k := 10) (q := 109) C dX10_readLine_206 rfl inGX10 (by decide) fwX10_29 ly_103 (by decide) rfl rfl ?_
  refine g_iload_n C dX10_readLine_209 rfl ?_
  refine g_aload_n C dX10_readLine_210 rfl ?_
  rcases h1 : pName t e i with er | ⟨a, j1⟩
  · skip
    exact g_callVT (na := 0) (As := []) (ci := 10) C dX10_readLine_211 vwX10_needName mwX10_205 ⟨by decide, by decide⟩ rfl ly_103 (Nat.le_of_ble_eq_true rfl) (s_nnE (rd_up (rd_up (rd_up hD (by decide) (by decide)) (by decide) (by decide)) (by decide) (by decide)) hi hk h1) rfl (Nat.le_of_ble_eq_true rfl) rfl ⟨by decide, by decide⟩ _ rfl (fun z M2 hP => hP.elim) (fun M2 hT => gt_out C ht rfl rfl ⟨er, by simp only [pOut, *], TS_eq hT (offQ_up (offQ_up (offQ_up offQ_rfl (by decide) (by decide)) (by decide) (by decide)) (by decide) (by decide))⟩)
  · skip
    refine gv0 (ci := 10) (M1 := mm D J) C dX10_readLine_211 vwX10_needName mwX10_205 ⟨by decide, by decide⟩ rfl ly_103 (Nat.le_of_ble_eq_true rfl) (s_nnO (rd_up (rd_up (rd_up hD (by decide) (by decide)) (by decide) (by decide)) (by decide) (by decide)) hi hk h1) (Nat.le_of_ble_eq_true rfl) rfl ⟨by decide, by decide⟩ (fun z M2 hP => ?_)
    obtain ⟨rfl, v1, x1, hk1, rfl⟩ := hP
    have hj1 : j1 ≤ e := by rw [(pName_ok h1).2.2.1]; exact tn_le hi
    refine g_iast q C dX10_readLine_214 ly_109 (by decide) (by decide) rfl hq ?_
    rw [mr_up (by decide)]
    refine g_aload_n C dX10_readLine_215 rfl ?_
    refine g_ldcS (i := 10) (tx := "of") C dX10_readLine_216 (by decide +kernel) ?_
    rcases h2 : pWord t e j1 10 with er | j2
    · skip
      exact g_callVT (na := 1) (As := [_]) (ci := 10) C dX10_readLine_218 vwX10_needWord mwX10_201 ⟨by decide, by decide⟩ rfl ly_103 (Nat.le_of_ble_eq_true rfl) (s_nwE (rd_up (rd_up (rd_up (rd_up hD (by decide) (by decide)) (by decide) (by decide)) (by decide) (by decide)) (by decide) (by decide)) hj1 hk1 (w := 10) (by decide) h2) rfl (Nat.le_of_ble_eq_true rfl) rfl ⟨by decide, by decide⟩ _ rfl (fun z M2 hP => hP.elim) (fun M2 hT => gt_out C ht rfl rfl ⟨er, by simp only [pOut, *], TS_eq hT (offQ_up (offQ_up (offQ_up (offQ_up offQ_rfl (by decide) (by decide)) (by decide) (by decide)) (by decide) (by decide)) (by decide) (by decide))⟩)
    · skip
      refine gv1 (ci := 10) (M1 := mm D J) C dX10_readLine_218 vwX10_needWord mwX10_201 ⟨by decide, by decide⟩ rfl ly_103 (Nat.le_of_ble_eq_true rfl) (s_nwO (rd_up (rd_up (rd_up (rd_up hD (by decide) (by decide)) (by decide) (by decide)) (by decide) (by decide)) (by decide) (by decide)) hj1 hk1 (w := 10) (by decide) h2) (Nat.le_of_ble_eq_true rfl) rfl ⟨by decide, by decide⟩ (fun z M2 hP => ?_)
      obtain ⟨rfl, v2, x2, hk2, rfl⟩ := hP
      have hj2 : j2 ≤ e := by rw [(pWord_ok h2).2]; exact tn_le hj1
      refine g_aload_n C dX10_readLine_221 rfl ?_
      refine g_getR (ci := 10) (k := 9) (q := 108) C dX10_readLine_222 rfl inGX10 (by decide) fwX10_26 ly_103 (by decide) rfl rfl ?_
      refine g_iload_n C dX10_readLine_225 rfl ?_
      refine g_aload_n C dX10_readLine_226 rfl ?_
      refine g_bipush (v := 16) C dX10_readLine_227 (by decide) ?_
      rcases h3 : pWhole t e j2 16 with er | ⟨p, j3⟩
      · skip
        exact g_callVT (na := 1) (As := [_]) (ci := 10) C dX10_readLine_229 vwX10_needWhole mwX10_196 ⟨by decide, by decide⟩ rfl ly_103 (Nat.le_of_ble_eq_true rfl) (s_nwhE (rd_up (rd_up (rd_up (rd_up hD (by decide) (by decide)) (by decide) (by decide)) (by decide) (by decide)) (by decide) (by decide)) hj2 hk2 (b := 16) (by decide) h3) rfl (Nat.le_of_ble_eq_true rfl) rfl ⟨by decide, by decide⟩ _ rfl (fun z M2 hP => hP.elim) (fun M2 hT => gt_out C ht rfl rfl ⟨er, by simp only [pOut, *], TS_eq hT (offQ_up (offQ_up (offQ_up (offQ_up offQ_rfl (by decide) (by decide)) (by decide) (by decide)) (by decide) (by decide)) (by decide) (by decide))⟩)
      · skip
        refine gv1 (ci := 10) (M1 := mm D J) C dX10_readLine_229 vwX10_needWhole mwX10_196 ⟨by decide, by decide⟩ rfl ly_103 (Nat.le_of_ble_eq_true rfl) (s_nwhO (rd_up (rd_up (rd_up (rd_up hD (by decide) (by decide)) (by decide) (by decide)) (by decide) (by decide)) (by decide) (by decide)) hj2 hk2 (b := 16) (by decide) h3) (Nat.le_of_ble_eq_true rfl) rfl ⟨by decide, by decide⟩ (fun z M2 hP => ?_)
        obtain ⟨rfl, v3, x3, hk3, rfl⟩ := hP
        have hj3 : j3 ≤ e := by rw [(pWhole_ok h3).2.2.2]; exact tn_le hj2
        refine g_iast q C dX10_readLine_232 ly_108 (by decide) (by decide) rfl hq ?_
        rw [mr_up (by decide)]
        refine g_goto 246 C dX10_readLine_233 (by decide) ?_
        exact g_vret C dX10_readLine_246 rfl rfl rfl ⟨rfl, (4, p, a, -1, []), j3, (up1 (up1 (up1 (up1 (up1 D 107 q 4) 108 q 0) 110 q (-1)) 109 q (nI a)) 108 q (nI p)), by simp only [pOut, *], ⟨(by simp [up1] <;> rfl), (by simp [up1] <;> rfl), (by simp [up1] <;> rfl), (by simp [up1] <;> rfl), fun z => by simp at z⟩, (offQ_up (offQ_up (offQ_up (offQ_up (offQ_up offQ_rfl (by decide) (by decide)) (by decide) (by decide)) (by decide) (by decide)) (by decide) (by decide)) (by decide) (by decide)), hj3, _, _, hk3, rfl⟩
set_option maxHeartbeats 2000000 in
theorem s_rl5 {l : Launch} {G : Gm} {D : Nat → Nat → Int32} {J : Nat → Nat → Int64} {t : Nat → Nat} {e i : Nat} (hD : rdOK D t e) (hi : i ≤ e) {v : Int32} {x : Int64} (hk : nxK t e i v x) {q : Nat} (hq : q < 132) : Sp l G iX10_readLine [.ref (G.1 + 103), .int (nI q), .int 5] (mm (mrS D t e i v) (upJ J 103 22 x)) (LnP D J t e q (pRes t e i)) (LnT D J t e q (pRes t e i)) := by
  refine Sp.ofT (by decide +kernel) (Nat.le_of_ble_eq_true rfl) ?_
  intro X hXl C ht
  subst hXl
  show Go X G 3 0 0 _ 0 [.ref (G.1 + 103), .int (nI q), .int 5] [] (mm (mrS D t e i v) (upJ J 103 22 x))
  refine g_aload_n C dX10_readLine_0 rfl ?_
  refine g_getR (ci := 10) (k := 8) (q := 107) C dX10_readLine_1 rfl inGX10 (by decide) fwX10_23 ly_103 (by decide) rfl rfl ?_
  refine g_iload_n C dX10_readLine_4 rfl ?_
  refine g_iload_n C dX10_readLine_5 rfl ?_
  refine g_iast q C dX10_readLine_6 ly_107 (by decide) (by decide) rfl hq ?_
  rw [mr_up (by decide)]
  refine g_aload_n C dX10_readLine_7 rfl ?_
  refine g_getR (ci := 10) (k := 9) (q := 108) C dX10_readLine_8 rfl inGX10 (by decide) fwX10_26 ly_103 (by decide) rfl rfl ?_
  refine g_iload_n C dX10_readLine_11 rfl ?_
  refine g_iconst (v := 0) C dX10_readLine_12 (by decide) ?_
  refine g_iast q C dX10_readLine_13 ly_108 (by decide) (by decide) rfl hq ?_
  rw [mr_up (by decide)]
  refine g_aload_n C dX10_readLine_14 rfl ?_
  refine g_getR (ci := 10) (k := 11) (q := 110) C dX10_readLine_15 rfl inGX10 (by decide) fwX10_32 ly_103 (by decide) rfl rfl ?_
  refine g_iload_n C dX10_readLine_18 rfl ?_
  refine g_iconst (v := (-1)) C dX10_readLine_19 (by decide) ?_
  refine g_iast q C dX10_readLine_20 ly_110 (by decide) (by decide) rfl hq ?_
  rw [mr_up (by decide)]
  refine g_iload_n C dX10_readLine_21 rfl ?_
  refine g_tabOut 236 C dX10_readLine_22 (by decide) (by decide) ?_
  refine g_aload_n C dX10_readLine_236 rfl ?_
  refine g_getR (ci := 10) (k := 10) (q := 109) C dX10_readLine_237 rfl inGX10 (by decide) fwX10_29 ly_103 (by decide) rfl rfl ?_
  refine g_iload_n C dX10_readLine_240 rfl ?_
  refine g_aload_n C dX10_readLine_241 rfl ?_
  rcases h1 : pName t e i with er | ⟨a, j1⟩
  · skip
    exact g_callVT (na := 0) (As := []) (ci := 10) C dX10_readLine_242 vwX10_needName mwX10_205 ⟨by decide, by decide⟩ rfl ly_103 (Nat.le_of_ble_eq_true rfl) (s_nnE (rd_up (rd_up (rd_up hD (by decide) (by decide)) (by decide) (by decide)) (by decide) (by decide)) hi hk h1) rfl (Nat.le_of_ble_eq_true rfl) rfl ⟨by decide, by decide⟩ _ rfl (fun z M2 hP => hP.elim) (fun M2 hT => gt_out C ht rfl rfl ⟨er, by simp only [pRes, *], TS_eq hT (offQ_up (offQ_up (offQ_up offQ_rfl (by decide) (by decide)) (by decide) (by decide)) (by decide) (by decide))⟩)
  · skip
    refine gv0 (ci := 10) (M1 := mm D J) C dX10_readLine_242 vwX10_needName mwX10_205 ⟨by decide, by decide⟩ rfl ly_103 (Nat.le_of_ble_eq_true rfl) (s_nnO (rd_up (rd_up (rd_up hD (by decide) (by decide)) (by decide) (by decide)) (by decide) (by decide)) hi hk h1) (Nat.le_of_ble_eq_true rfl) rfl ⟨by decide, by decide⟩ (fun z M2 hP => ?_)
    obtain ⟨rfl, v1, x1, hk1, rfl⟩ := hP
    have hj1 : j1 ≤ e := by rw [(pName_ok h1).2.2.1]; exact tn_le hi
    refine g_iast q C dX10_readLine_245 ly_109 (by decide) (by decide) rfl hq ?_
    rw [mr_up (by decide)]
    exact g_vret C dX10_readLine_246 rfl rfl rfl ⟨rfl, (5, 0, a, -1, []), j1, (up1 (up1 (up1 (up1 D 107 q 5) 108 q 0) 110 q (-1)) 109 q (nI a)), by simp only [pRes, *], ⟨(by simp [up1] <;> rfl), (by simp [up1] <;> rfl), (by simp [up1] <;> rfl), (by simp [up1] <;> rfl), fun z => by simp at z⟩, (offQ_up (offQ_up (offQ_up (offQ_up offQ_rfl (by decide) (by decide)) (by decide) (by decide)) (by decide) (by decide)) (by decide) (by decide)), hj1, _, _, hk1, rfl⟩
set_option maxHeartbeats 2000000 in
theorem s_rl2 {l : Launch} {G : Gm} {D : Nat → Nat → Int32} {J : Nat → Nat → Int64} {t : Nat → Nat} {e i : Nat} (hD : rdOK D t e) (hi : i ≤ e) {v : Int32} {x : Int64} (hk : nxK t e i v x) {q : Nat} (hq : q < 132) {n : Nat} (hn : D 103 4 = nI n) (hn31 : n < 2 ^ 31) : Sp l G iX10_readLine [.ref (G.1 + 103), .int (nI q), .int 2] (mm (mrS D t e i v) (upJ J 103 22 x)) (LnP D J t e q (pAsk t e n i)) (LnT D J t e q (pAsk t e n i)) := by
  refine Sp.ofT (by decide +kernel) (Nat.le_of_ble_eq_true rfl) ?_
  intro X hXl C ht
  subst hXl
  show Go X G 3 0 0 _ 0 [.ref (G.1 + 103), .int (nI q), .int 2] [] (mm (mrS D t e i v) (upJ J 103 22 x))
  refine g_aload_n C dX10_readLine_0 rfl ?_
  refine g_getR (ci := 10) (k := 8) (q := 107) C dX10_readLine_1 rfl inGX10 (by decide) fwX10_23 ly_103 (by decide) rfl rfl ?_
  refine g_iload_n C dX10_readLine_4 rfl ?_
  refine g_iload_n C dX10_readLine_5 rfl ?_
  refine g_iast q C dX10_readLine_6 ly_107 (by decide) (by decide) rfl hq ?_
  rw [mr_up (by decide)]
  refine g_aload_n C dX10_readLine_7 rfl ?_
  refine g_getR (ci := 10) (k := 9) (q := 108) C dX10_readLine_8 rfl inGX10 (by decide) fwX10_26 ly_103 (by decide) rfl rfl ?_
  refine g_iload_n C dX10_readLine_11 rfl ?_
  refine g_iconst (v := 0) C dX10_readLine_12 (by decide) ?_
  refine g_iast q C dX10_readLine_13 ly_108 (by decide) (by decide) rfl hq ?_
  rw [mr_up (by decide)]
  refine g_aload_n C dX10_readLine_14 rfl ?_
  refine g_getR (ci := 10) (k := 11) (q := 110) C dX10_readLine_15 rfl inGX10 (by decide) fwX10_32 ly_103 (by decide) rfl rfl ?_
  refine g_iload_n C dX10_readLine_18 rfl ?_
  refine g_iconst (v := (-1)) C dX10_readLine_19 (by decide) ?_
  refine g_iast q C dX10_readLine_20 ly_110 (by decide) (by decide) rfl hq ?_
  rw [mr_up (by decide)]
  refine g_iload_n C dX10_readLine_21 rfl ?_
  refine g_tabIn 125 C dX10_readLine_22 (by decide) (by decide) rfl (by decide) ?_
  refine g_aload_n C dX10_readLine_125 rfl ?_
  refine g_getR (ci := 10) (k := 9) (q := 108) C dX10_readLine_126 rfl inGX10 (by decide) fwX10_26 ly_103 (by decide) rfl rfl ?_
  refine g_iload_n C dX10_readLine_129 rfl ?_
  refine g_aload_n C dX10_readLine_130 rfl ?_
  refine g_aload_n C dX10_readLine_131 rfl ?_
  refine g_getIv (ci := 10) (k := 4) (v := nI n) C dX10_readLine_132 rfl inGX10 (by decide) fwX10_86 ly_103 (by decide) rfl (by rw [mr_103 (Or.inl (by decide)), up1_off (by decide), up1_off (by decide), up1_off (by decide)]; exact hn) ?_
  rcases h1 : pWhole t e i n with er | ⟨p, j1⟩
  · skip
    exact g_callVT (na := 1) (As := [_]) (ci := 10) C dX10_readLine_135 vwX10_needWhole mwX10_196 ⟨by decide, by decide⟩ rfl ly_103 (Nat.le_of_ble_eq_true rfl) (s_nwhE (rd_up (rd_up (rd_up hD (by decide) (by decide)) (by decide) (by decide)) (by decide) (by decide)) hi hk (b := n) hn31 h1) rfl (Nat.le_of_ble_eq_true rfl) rfl ⟨by decide, by decide⟩ _ rfl (fun z M2 hP => hP.elim) (fun M2 hT => gt_out C ht rfl rfl ⟨er, by simp only [pAsk, *], TS_eq hT (offQ_up (offQ_up (offQ_up offQ_rfl (by decide) (by decide)) (by decide) (by decide)) (by decide) (by decide))⟩)
  · skip
    refine gv1 (ci := 10) (M1 := mm D J) C dX10_readLine_135 vwX10_needWhole mwX10_196 ⟨by decide, by decide⟩ rfl ly_103 (Nat.le_of_ble_eq_true rfl) (s_nwhO (rd_up (rd_up (rd_up hD (by decide) (by decide)) (by decide) (by decide)) (by decide) (by decide)) hi hk (b := n) hn31 h1) (Nat.le_of_ble_eq_true rfl) rfl ⟨by decide, by decide⟩ (fun z M2 hP => ?_)
    obtain ⟨rfl, v1, x1, hk1, rfl⟩ := hP
    have hj1 : j1 ≤ e := by rw [(pWhole_ok h1).2.2.2]; exact tn_le hi
    refine g_iast q C dX10_readLine_138 ly_108 (by decide) (by decide) rfl hq ?_
    rw [mr_up (by decide)]
    refine g_aload_n C dX10_readLine_139 rfl ?_
    refine g_ldcS (i := 8) (tx := "with") C dX10_readLine_140 (by decide +kernel) ?_
    rcases h2 : pWord t e j1 8 with er | j2
    · skip
      exact g_callVT (na := 1) (As := [_]) (ci := 10) C dX10_readLine_142 vwX10_needWord mwX10_201 ⟨by decide, by decide⟩ rfl ly_103 (Nat.le_of_ble_eq_true rfl) (s_nwE (rd_up (rd_up (rd_up (rd_up hD (by decide) (by decide)) (by decide) (by decide)) (by decide) (by decide)) (by decide) (by decide)) hj1 hk1 (w := 8) (by decide) h2) rfl (Nat.le_of_ble_eq_true rfl) rfl ⟨by decide, by decide⟩ _ rfl (fun z M2 hP => hP.elim) (fun M2 hT => gt_out C ht rfl rfl ⟨er, by simp only [pAsk, *], TS_eq hT (offQ_up (offQ_up (offQ_up (offQ_up offQ_rfl (by decide) (by decide)) (by decide) (by decide)) (by decide) (by decide)) (by decide) (by decide))⟩)
    · skip
      refine gv1 (ci := 10) (M1 := mm D J) C dX10_readLine_142 vwX10_needWord mwX10_201 ⟨by decide, by decide⟩ rfl ly_103 (Nat.le_of_ble_eq_true rfl) (s_nwO (rd_up (rd_up (rd_up (rd_up hD (by decide) (by decide)) (by decide) (by decide)) (by decide) (by decide)) (by decide) (by decide)) hj1 hk1 (w := 8) (by decide) h2) (Nat.le_of_ble_eq_true rfl) rfl ⟨by decide, by decide⟩ (fun z M2 hP => ?_)
      obtain ⟨rfl, v2, x2, hk2, rfl⟩ := hP
      have hj2 : j2 ≤ e := by rw [(pWord_ok h2).2]; exact tn_le hj1
      refine g_aload_n C dX10_readLine_145 rfl ?_
      refine g_getR (ci := 10) (k := 10) (q := 109) C dX10_readLine_146 rfl inGX10 (by decide) fwX10_29 ly_103 (by decide) rfl rfl ?_
      refine g_iload_n C dX10_readLine_149 rfl ?_
      refine g_aload_n C dX10_readLine_150 rfl ?_
      rcases h3 : pName t e j2 with er | ⟨a, j3⟩
      · skip
        exact g_callVT (na := 0) (As := []) (ci := 10) C dX10_readLine_151 vwX10_needName mwX10_205 ⟨by decide, by decide⟩ rfl ly_103 (Nat.le_of_ble_eq_true rfl) (s_nnE (rd_up (rd_up (rd_up (rd_up hD (by decide) (by decide)) (by decide) (by decide)) (by decide) (by decide)) (by decide) (by decide)) hj2 hk2 h3) rfl (Nat.le_of_ble_eq_true rfl) rfl ⟨by decide, by decide⟩ _ rfl (fun z M2 hP => hP.elim) (fun M2 hT => gt_out C ht rfl rfl ⟨er, by simp only [pAsk, *], TS_eq hT (offQ_up (offQ_up (offQ_up (offQ_up offQ_rfl (by decide) (by decide)) (by decide) (by decide)) (by decide) (by decide)) (by decide) (by decide))⟩)
      · skip
        refine gv0 (ci := 10) (M1 := mm D J) C dX10_readLine_151 vwX10_needName mwX10_205 ⟨by decide, by decide⟩ rfl ly_103 (Nat.le_of_ble_eq_true rfl) (s_nnO (rd_up (rd_up (rd_up (rd_up hD (by decide) (by decide)) (by decide) (by decide)) (by decide) (by decide)) (by decide) (by decide)) hj2 hk2 h3) (Nat.le_of_ble_eq_true rfl) rfl ⟨by decide, by decide⟩ (fun z M2 hP => ?_)
        obtain ⟨rfl, v3, x3, hk3, rfl⟩ := hP
        have hj3 : j3 ≤ e := by rw [(pName_ok h3).2.2.1]; exact tn_le hj2
        refine g_iast q C dX10_readLine_154 ly_109 (by decide) (by decide) rfl hq ?_
        rw [mr_up (by decide)]
        refine g_aload_n C dX10_readLine_155 rfl ?_
        refine g_ldcS (i := 6) (tx := "to") C dX10_readLine_156 (by decide +kernel) ?_
        rcases h4 : pWord t e j3 6 with er | j4
        · skip
          exact g_callVT (na := 1) (As := [_]) (ci := 10) C dX10_readLine_158 vwX10_needWord mwX10_201 ⟨by decide, by decide⟩ rfl ly_103 (Nat.le_of_ble_eq_true rfl) (s_nwE (rd_up (rd_up (rd_up (rd_up (rd_up hD (by decide) (by decide)) (by decide) (by decide)) (by decide) (by decide)) (by decide) (by decide)) (by decide) (by decide)) hj3 hk3 (w := 6) (by decide) h4) rfl (Nat.le_of_ble_eq_true rfl) rfl ⟨by decide, by decide⟩ _ rfl (fun z M2 hP => hP.elim) (fun M2 hT => gt_out C ht rfl rfl ⟨er, by simp only [pAsk, *], TS_eq hT (offQ_up (offQ_up (offQ_up (offQ_up (offQ_up offQ_rfl (by decide) (by decide)) (by decide) (by decide)) (by decide) (by decide)) (by decide) (by decide)) (by decide) (by decide))⟩)
        · skip
          refine gv1 (ci := 10) (M1 := mm D J) C dX10_readLine_158 vwX10_needWord mwX10_201 ⟨by decide, by decide⟩ rfl ly_103 (Nat.le_of_ble_eq_true rfl) (s_nwO (rd_up (rd_up (rd_up (rd_up (rd_up hD (by decide) (by decide)) (by decide) (by decide)) (by decide) (by decide)) (by decide) (by decide)) (by decide) (by decide)) hj3 hk3 (w := 6) (by decide) h4) (Nat.le_of_ble_eq_true rfl) rfl ⟨by decide, by decide⟩ (fun z M2 hP => ?_)
          obtain ⟨rfl, v4, x4, hk4, rfl⟩ := hP
          have hj4 : j4 ≤ e := by rw [(pWord_ok h4).2]; exact tn_le hj3
          refine g_aload_n C dX10_readLine_161 rfl ?_
          refine g_getR (ci := 10) (k := 11) (q := 110) C dX10_readLine_162 rfl inGX10 (by decide) fwX10_32 ly_103 (by decide) rfl rfl ?_
          refine g_iload_n C dX10_readLine_165 rfl ?_
          refine g_aload_n C dX10_readLine_166 rfl ?_
          rcases h5 : pName t e j4 with er | ⟨b, j5⟩
          · skip
            exact g_callVT (na := 0) (As := []) (ci := 10) C dX10_readLine_167 vwX10_needName mwX10_205 ⟨by decide, by decide⟩ rfl ly_103 (Nat.le_of_ble_eq_true rfl) (s_nnE (rd_up (rd_up (rd_up (rd_up (rd_up hD (by decide) (by decide)) (by decide) (by decide)) (by decide) (by decide)) (by decide) (by decide)) (by decide) (by decide)) hj4 hk4 h5) rfl (Nat.le_of_ble_eq_true rfl) rfl ⟨by decide, by decide⟩ _ rfl (fun z M2 hP => hP.elim) (fun M2 hT => gt_out C ht rfl rfl ⟨er, by simp only [pAsk, *], TS_eq hT (offQ_up (offQ_up (offQ_up (offQ_up (offQ_up offQ_rfl (by decide) (by decide)) (by decide) (by decide)) (by decide) (by decide)) (by decide) (by decide)) (by decide) (by decide))⟩)
          · skip
            refine gv0 (ci := 10) (M1 := mm D J) C dX10_readLine_167 vwX10_needName mwX10_205 ⟨by decide, by decide⟩ rfl ly_103 (Nat.le_of_ble_eq_true rfl) (s_nnO (rd_up (rd_up (rd_up (rd_up (rd_up hD (by decide) (by decide)) (by decide) (by decide)) (by decide) (by decide)) (by decide) (by decide)) (by decide) (by decide)) hj4 hk4 h5) (Nat.le_of_ble_eq_true rfl) rfl ⟨by decide, by decide⟩ (fun z M2 hP => ?_)
            obtain ⟨rfl, v5, x5, hk5, rfl⟩ := hP
            have hj5 : j5 ≤ e := by rw [(pName_ok h5).2.2.1]; exact tn_le hj4
            refine g_iast q C dX10_readLine_170 ly_110 (by decide) (by decide) rfl hq ?_
            rw [mr_up (by decide)]
            refine g_goto 246 C dX10_readLine_171 (by decide) ?_
            exact g_vret C dX10_readLine_246 rfl rfl rfl ⟨rfl, (2, p, a, nI b, []), j5, (up1 (up1 (up1 (up1 (up1 (up1 D 107 q 2) 108 q 0) 110 q (-1)) 108 q (nI p)) 109 q (nI a)) 110 q (nI b)), by simp only [pAsk, *], ⟨(by simp [up1] <;> rfl), (by simp [up1] <;> rfl), (by simp [up1] <;> rfl), (by simp [up1] <;> rfl), fun z => by simp at z⟩, (offQ_up (offQ_up (offQ_up (offQ_up (offQ_up (offQ_up offQ_rfl (by decide) (by decide)) (by decide) (by decide)) (by decide) (by decide)) (by decide) (by decide)) (by decide) (by decide)) (by decide) (by decide)), hj5, _, _, hk5, rfl⟩
set_option maxHeartbeats 2000000 in
theorem s_rl1 {l : Launch} {G : Gm} {D : Nat → Nat → Int32} {J : Nat → Nat → Int64} {t : Nat → Nat} {e i : Nat} (hD : rdOK D t e) (hi : i ≤ e) {v : Int32} {x : Int64} (hk : nxK t e i v x) {q : Nat} (hq : q < 132) : Sp l G iX10_readLine [.ref (G.1 + 103), .int (nI q), .int 1] (mm (mrS D t e i v) (upJ J 103 22 x)) (LnP D J t e q (pLet t e i)) (LnT D J t e q (pLet t e i)) := by
  refine Sp.ofT (by decide +kernel) (Nat.le_of_ble_eq_true rfl) ?_
  intro X hXl C ht
  subst hXl
  show Go X G 3 0 0 _ 0 [.ref (G.1 + 103), .int (nI q), .int 1] [] (mm (mrS D t e i v) (upJ J 103 22 x))
  refine g_aload_n C dX10_readLine_0 rfl ?_
  refine g_getR (ci := 10) (k := 8) (q := 107) C dX10_readLine_1 rfl inGX10 (by decide) fwX10_23 ly_103 (by decide) rfl rfl ?_
  refine g_iload_n C dX10_readLine_4 rfl ?_
  refine g_iload_n C dX10_readLine_5 rfl ?_
  refine g_iast q C dX10_readLine_6 ly_107 (by decide) (by decide) rfl hq ?_
  rw [mr_up (by decide)]
  refine g_aload_n C dX10_readLine_7 rfl ?_
  refine g_getR (ci := 10) (k := 9) (q := 108) C dX10_readLine_8 rfl inGX10 (by decide) fwX10_26 ly_103 (by decide) rfl rfl ?_
  refine g_iload_n C dX10_readLine_11 rfl ?_
  refine g_iconst (v := 0) C dX10_readLine_12 (by decide) ?_
  refine g_iast q C dX10_readLine_13 ly_108 (by decide) (by decide) rfl hq ?_
  rw [mr_up (by decide)]
  refine g_aload_n C dX10_readLine_14 rfl ?_
  refine g_getR (ci := 10) (k := 11) (q := 110) C dX10_readLine_15 rfl inGX10 (by decide) fwX10_32 ly_103 (by decide) rfl rfl ?_
  refine g_iload_n C dX10_readLine_18 rfl ?_
  refine g_iconst (v := (-1)) C dX10_readLine_19 (by decide) ?_
  refine g_iast q C dX10_readLine_20 ly_110 (by decide) (by decide) rfl hq ?_
  rw [mr_up (by decide)]
  refine g_iload_n C dX10_readLine_21 rfl ?_
  refine g_tabIn 87 C dX10_readLine_22 (by decide) (by decide) rfl (by decide) ?_
  refine g_aload_n C dX10_readLine_87 rfl ?_
  refine g_getR (ci := 10) (k := 10) (q := 109) C dX10_readLine_88 rfl inGX10 (by decide) fwX10_29 ly_103 (by decide) rfl rfl ?_
  refine g_iload_n C dX10_readLine_91 rfl ?_
  refine g_aload_n C dX10_readLine_92 rfl ?_
  rcases h1 : pName t e i with er | ⟨a, j1⟩
  · skip
    exact g_callVT (na := 0) (As := []) (ci := 10) C dX10_readLine_93 vwX10_needName mwX10_205 ⟨by decide, by decide⟩ rfl ly_103 (Nat.le_of_ble_eq_true rfl) (s_nnE (rd_up (rd_up (rd_up hD (by decide) (by decide)) (by decide) (by decide)) (by decide) (by decide)) hi hk h1) rfl (Nat.le_of_ble_eq_true rfl) rfl ⟨by decide, by decide⟩ _ rfl (fun z M2 hP => hP.elim) (fun M2 hT => gt_out C ht rfl rfl ⟨er, by simp only [pLet, *], TS_eq hT (offQ_up (offQ_up (offQ_up offQ_rfl (by decide) (by decide)) (by decide) (by decide)) (by decide) (by decide))⟩)
  · skip
    refine gv0 (ci := 10) (M1 := mm D J) C dX10_readLine_93 vwX10_needName mwX10_205 ⟨by decide, by decide⟩ rfl ly_103 (Nat.le_of_ble_eq_true rfl) (s_nnO (rd_up (rd_up (rd_up hD (by decide) (by decide)) (by decide) (by decide)) (by decide) (by decide)) hi hk h1) (Nat.le_of_ble_eq_true rfl) rfl ⟨by decide, by decide⟩ (fun z M2 hP => ?_)
    obtain ⟨rfl, v1, x1, hk1, rfl⟩ := hP
    have hj1 : j1 ≤ e := by rw [(pName_ok h1).2.2.1]; exact tn_le hi
    refine g_iast q C dX10_readLine_96 ly_109 (by decide) (by decide) rfl hq ?_
    rw [mr_up (by decide)]
    refine g_aload_n C dX10_readLine_97 rfl ?_
    refine g_ldcS (i := 7) (tx := "from") C dX10_readLine_98 (by decide +kernel) ?_
    rcases h2 : pWord t e j1 7 with er | j2
    · skip
      exact g_callVT (na := 1) (As := [_]) (ci := 10) C dX10_readLine_100 vwX10_needWord mwX10_201 ⟨by decide, by decide⟩ rfl ly_103 (Nat.le_of_ble_eq_true rfl) (s_nwE (rd_up (rd_up (rd_up (rd_up hD (by decide) (by decide)) (by decide) (by decide)) (by decide) (by decide)) (by decide) (by decide)) hj1 hk1 (w := 7) (by decide) h2) rfl (Nat.le_of_ble_eq_true rfl) rfl ⟨by decide, by decide⟩ _ rfl (fun z M2 hP => hP.elim) (fun M2 hT => gt_out C ht rfl rfl ⟨er, by simp only [pLet, *], TS_eq hT (offQ_up (offQ_up (offQ_up (offQ_up offQ_rfl (by decide) (by decide)) (by decide) (by decide)) (by decide) (by decide)) (by decide) (by decide))⟩)
    · skip
      refine gv1 (ci := 10) (M1 := mm D J) C dX10_readLine_100 vwX10_needWord mwX10_201 ⟨by decide, by decide⟩ rfl ly_103 (Nat.le_of_ble_eq_true rfl) (s_nwO (rd_up (rd_up (rd_up (rd_up hD (by decide) (by decide)) (by decide) (by decide)) (by decide) (by decide)) (by decide) (by decide)) hj1 hk1 (w := 7) (by decide) h2) (Nat.le_of_ble_eq_true rfl) rfl ⟨by decide, by decide⟩ (fun z M2 hP => ?_)
      obtain ⟨rfl, v2, x2, hk2, rfl⟩ := hP
      have hj2 : j2 ≤ e := by rw [(pWord_ok h2).2]; exact tn_le hj1
      refine g_aload_n C dX10_readLine_103 rfl ?_
      refine g_iload_n C dX10_readLine_104 rfl ?_
      refine g_callVT (na := 1) (As := [_]) (ci := 10) C dX10_readLine_105 vwX10_readFrom mwX10_209 ⟨by decide, by decide⟩ rfl ly_103 (Nat.le_of_ble_eq_true rfl) (s_readFrom (rd_up (rd_up (rd_up (rd_up hD (by decide) (by decide)) (by decide) (by decide)) (by decide) (by decide)) (by decide) (by decide)) hj2 hk2 hq (by rw [up1_off (by decide), up1_off (by decide), up1_same]; rfl)) rfl (Nat.le_of_ble_eq_true rfl) rfl ⟨by decide, by decide⟩ _ rfl (fun z M2 hP => ?_) (fun M2 hT => by obtain ⟨er, h3, hT⟩ := hT; exact gt_out C ht rfl rfl ⟨er, by simp only [pLet, *], TS_mono hT (fun D h => offQ_tr (offQ_up (offQ_up (offQ_up (offQ_up offQ_rfl (by decide) (by decide)) (by decide) (by decide)) (by decide) (by decide)) (by decide) (by decide)) (offF_Q h))⟩)
      obtain ⟨rfl, fr, j3, D3, h3, hfr, hf1, hf4, hoff3, hj3, v3, x3, hk3, rfl⟩ := hP
      refine g_aload_n C dX10_readLine_108 rfl ?_
      refine g_getR (ci := 10) (k := 11) (q := 110) C dX10_readLine_109 rfl inGX10 (by decide) fwX10_32 ly_103 (by decide) rfl rfl ?_
      refine g_iload_n C dX10_readLine_112 rfl ?_
      refine g_aload_n C dX10_readLine_113 rfl ?_
      refine g_getR (ci := 10) (k := 12) (q := 111) C dX10_readLine_114 rfl inGX10 (by decide) fwX10_35 ly_103 (by decide) rfl rfl ?_
      refine g_iconst (v := 4) C dX10_readLine_117 (by decide) ?_
      refine g_iload_n C dX10_readLine_118 rfl ?_
      refine g_imul C dX10_readLine_119 ?_
      rw [mul4]
      refine g_ialdv (v := nI (fr.getD 0 0)) (4 * q) C dX10_readLine_120 ly_111 (by decide) (by decide) rfl (show 4 * q < 528 by omega) (by rw [mr_off (by decide)]; exact hfr.2 0 (by omega)) ?_
      refine g_iast q C dX10_readLine_121 ly_110 (by decide) (by decide) rfl hq ?_
      rw [mr_up (by decide)]
      refine g_goto 246 C dX10_readLine_122 (by decide) ?_
      exact g_vret C dX10_readLine_246 rfl rfl rfl ⟨rfl, (1, fr.length, a, nI (fr.headD 0), fr), j3, (up1 D3 110 q (nI (fr.getD 0 0))), by simp only [pLet, *], ⟨by rw [up1_off (by decide), hoff3 107 q (by omega) (by omega)]; simp [up1] <;> rfl, by rw [up1_off (by decide)]; exact hfr.1, by rw [up1_off (by decide), hoff3 109 q (by omega) (by omega), up1_same], by rw [up1_same, hd_get], fun _ i hi => by rw [up1_off (by decide)]; exact hfr.2 i hi⟩, offQ_up (offQ_tr (offQ_up (offQ_up (offQ_up (offQ_up offQ_rfl (by decide) (by decide)) (by decide) (by decide)) (by decide) (by decide)) (by decide) (by decide)) (offF_Q hoff3)) (by decide) (by decide), hj3, _, _, hk3, rfl⟩
