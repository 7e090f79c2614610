abbrev cn (x : Int32) : Nat := x.toNatClampNeg
/-- a link is laid, if there is room -/
def lkN (I : Nat → Nat → Int32) (a b s : Int32) : Nat → Nat → Int32 := if I 73 9 < 480 then up1 (up1 (up1 (up1 I 78 (cn (I 73 9)) a) 79 (cn (I 73 9)) b) 80 (cn (I 73 9)) s) 73 9 (nI (cn (I 73 9) + 1)) else I
/-- the links' count is in its bounds -/
def lkOK (I : Nat → Nat → Int32) : Prop := ∃ c, I 73 9 = nI c ∧ c ≤ 480
theorem lkN_ok {I : Nat → Nat → Int32} (h : lkOK I) (a b s : Int32) : lkOK (lkN I a b s) := by
  obtain ⟨c, hc, hc2⟩ := h
  unfold lkN
  by_cases h : I 73 9 < 480
  · rw [if_pos h]
    rw [hc] at h ⊢
    have h3 := nI_t (b := 480) h (by omega) (by decide)
    exact ⟨c + 1, by rw [cn, nI_clamp (by omega)]; simp [up1], by omega⟩
  · rw [if_neg h]
    exact ⟨c, hc, hc2⟩
theorem lkN_off {I : Nat → Nat → Int32} {a b s : Int32} {q : Nat} (h1 : q ≠ 73) (h2 : q ≠ 78) (h3 : q ≠ 79) (h4 : q ≠ 80) : lkN I a b s q = I q := by
  unfold lkN
  split
  · rw [up1_off h1, up1_off h4, up1_off h3, up1_off h2]
  · rfl
set_option maxHeartbeats 1000000 in
theorem s_link {l : Launch} {G : Gm} {I : Nat → Nat → Int32} {J : Nat → Nat → Int64} {c : Nat} (hc : I 73 9 = nI c) (hc2 : c ≤ 480) (a b s : Int32) : Sp l G iX1_link [.ref (G.1 + 73), .int a, .int b, .int s] (mm I J) (RetV (mm (lkN I a b s) J)) noT := by
  refine Sp.of (by decide +kernel) (Nat.le_of_ble_eq_true rfl) ?_
  intro X hXl C
  subst hXl
  show Go X G 4 0 0 _ 0 [.ref (G.1 + 73), .int a, .int b, .int s] [] (mm I J)
  refine g_aload_n C dX1_link_0 rfl ?_
  refine g_getIv (ci := 1) (k := 9) (v := nI c) C dX1_link_1 rfl inGX1 (by decide) fwX1_69 ly_73 (by decide) rfl hc ?_
  refine g_sipush (v := 480) C dX1_link_4 (by decide) ?_
  refine g_icmp_ge 50 C dX1_link_7 (by decide) (fun c7 => ?_) (fun c7 => ?_)
  · have g7 : ¬ I 73 9 < 480 := by rw [hc]; exact Int32.not_lt.mpr c7
    exact e_V C dX1_link_50 rfl rfl rfl (by first | (rw [lkN, if_neg g7]; done) | (rw [lkN, if_pos g7, hc, cn, nI_clamp (by omega)]))
  · have g7 : I 73 9 < 480 := by rw [hc]; exact Int32.not_le.mp c7
    have g8 : c < 480 := nI_t (b := 480) (by rw [← hc]; exact g7) (by omega) (by decide)
    refine g_aload_n C dX1_link_10 rfl ?_
    refine g_getR (ci := 1) (k := 5) (q := 78) C dX1_link_11 rfl inGX1 (by decide) fwX1_24 ly_73 (by decide) rfl rfl ?_
    refine g_aload_n C dX1_link_14 rfl ?_
    refine g_getIv (ci := 1) (k := 9) (v := nI c) C dX1_link_15 rfl inGX1 (by decide) fwX1_69 ly_73 (by decide) rfl hc ?_
    refine g_iload_n C dX1_link_18 rfl ?_
    refine g_iast _ C dX1_link_19 ly_78 (by decide) (by decide) rfl (by omega) ?_
    refine g_aload_n C dX1_link_20 rfl ?_
    refine g_getR (ci := 1) (k := 6) (q := 79) C dX1_link_21 rfl inGX1 (by decide) fwX1_27 ly_73 (by decide) rfl rfl ?_
    refine g_aload_n C dX1_link_24 rfl ?_
    refine g_getIv (ci := 1) (k := 9) (v := nI c) C dX1_link_25 rfl inGX1 (by decide) fwX1_69 ly_73 (by decide) rfl (by simp [up1, hc]) ?_
    refine g_iload_n C dX1_link_28 rfl ?_
    refine g_iast _ C dX1_link_29 ly_79 (by decide) (by decide) rfl (by omega) ?_
    refine g_aload_n C dX1_link_30 rfl ?_
    refine g_getR (ci := 1) (k := 7) (q := 80) C dX1_link_31 rfl inGX1 (by decide) fwX1_30 ly_73 (by decide) rfl rfl ?_
    refine g_aload_n C dX1_link_34 rfl ?_
    refine g_getIv (ci := 1) (k := 9) (v := nI c) C dX1_link_35 rfl inGX1 (by decide) fwX1_69 ly_73 (by decide) rfl (by simp [up1, hc]) ?_
    refine g_iload_n C dX1_link_38 rfl ?_
    refine g_iast _ C dX1_link_39 ly_80 (by decide) (by decide) rfl (by omega) ?_
    refine g_aload_n C dX1_link_40 rfl ?_
    refine g_dup C dX1_link_41 rfl ?_
    refine g_getIv (ci := 1) (k := 9) (v := nI c) C dX1_link_42 rfl inGX1 (by decide) fwX1_69 ly_73 (by decide) rfl (by simp [up1, hc]) ?_
    refine g_iconst (v := 1) C dX1_link_45 (by decide) ?_
    refine g_iadd C dX1_link_46 ?_
    rw [nI_1]
    refine g_putI (ci := 1) (k := 9) .int C dX1_link_47 rfl inGX1 tyX1_ok nmX1 (by decide) fwX1_69 ly_73 (by decide) rfl rfl rfl rfl rfl ?_
    exact e_V C dX1_link_50 rfl rfl rfl (by first | (rw [lkN, if_neg g7]; done) | (rw [lkN, if_pos g7, hc, cn, nI_clamp (by omega)]))
theorem s_link' {l : Launch} {G : Gm} {I : Nat → Nat → Int32} {J : Nat → Nat → Int64} (h : lkOK I) (a b s : Int32) : Sp l G iX1_link [.ref (G.1 + 73), .int a, .int b, .int s] (mm I J) (RetV (mm (lkN I a b s) J)) noT := by
  obtain ⟨c, hc, hc2⟩ := h
  exact s_link hc hc2 a b s
theorem step_nI (p k : Nat) : (100 : Int32) * nI p + nI k = nI (100 * p + k) := by
  rw [show (100 : Int32) = nI 100 from rfl, pk_mul, nI_add]
/-- the links of a let -/
def ntl (I : Nat → Nat → Int32) (p k f : Nat) (src : Int32) : Nat → (Nat → Nat → Int32) → (Nat → Nat → Int32) := fun nm A => if hb src (nI nm) = 0 then A else lkN A (nI (25 * p + nm)) (nI (25 * p + f)) (nI (100 * p + k))
theorem ntl_ok {I : Nat → Nat → Int32} {p k f : Nat} {src : Int32} (h : lkOK I) : ∀ j, lkOK (it (ntl I p k f src) j I)
  | 0 => h
  | j + 1 => by
    simp only [it, ntl]
    split
    · exact ntl_ok h j
    · exact lkN_ok (ntl_ok h j) _ _ _
theorem ntl_off {I : Nat → Nat → Int32} {p k f : Nat} {src : Int32} {q : Nat} (h1 : q ≠ 73) (h2 : q ≠ 78) (h3 : q ≠ 79) (h4 : q ≠ 80) : ∀ j, it (ntl I p k f src) j I q = I q
  | 0 => rfl
  | j + 1 => by
    simp only [it, ntl]
    split
    · exact ntl_off h1 h2 h3 h4 j
    · rw [lkN_off h1 h2 h3 h4]; exact ntl_off h1 h2 h3 h4 j
set_option maxHeartbeats 1000000 in
theorem s_noteLet {l : Launch} {G : Gm} {I : Nat → Nat → Int32} {J : Nat → Nat → Int64} {p k f : Nat} {src : Int32} (hp : p < 10) (hk : k < 12) (hlk : lkOK I) (hf : I (6 + 6 * p + 1 + 2) k = nI f) (hs : I (6 + 6 * p + 1 + 4) k = src) : Sp l G iX1_noteLet [.ref (G.1 + 73), .int (nI p), .int (nI k)] (mm I J) (RetV (mm (it (ntl I p k f src) 8 I) J)) noT := by
  refine Sp.of (by decide +kernel) (Nat.le_of_ble_eq_true rfl) ?_
  intro X hXl C
  subst hXl
  show Go X G 5 0 0 _ 0 [.ref (G.1 + 73), .int (nI p), .int (nI k), uu, uu] [] (mm I J)
  have loop : ∀ j : Nat, j ≤ 8 → Go X G 5 0 0 (KQ X G iX1_noteLet (RetV (mm (it (ntl I p k f src) 8 I) J)) noT) 13 [.ref (G.1 + 73), .int (nI p), .int (nI k), .ref (G.1 + (6 + 6 * p)), .int (nI j)] [] (mm (it (ntl I p k f src) j I) J) := by
    refine loopN 8 ?_ ?_
    · skip
      show Go X G 5 0 0 _ 13 _ [] _
      refine g_iload C dX1_noteLet_13 rfl ?_
      refine g_bipush (v := 8) C dX1_noteLet_15 (by decide) ?_
      refine g_icmp_ge 66 C dX1_noteLet_17 (by decide) (fun c17 => ?_) (fun c17 => ?_)
      · exact e_V C dX1_noteLet_66 rfl rfl rfl rfl
      · exact absurd (Int32.le_refl _) c17
    · intro j hj ih 
      show Go X G 5 0 0 _ 13 _ [] _
      refine g_iload C dX1_noteLet_13 rfl ?_
      refine g_bipush (v := 8) C dX1_noteLet_15 (by decide) ?_
      refine g_icmp_ge 66 C dX1_noteLet_17 (by decide) (fun c17 => ?_) (fun c17 => ?_)
      · exact (nI_ge_dead (n := 8) c17 hj (by omega)).elim
      · refine g_aload_n C dX1_noteLet_20 rfl ?_
        refine g_getR (ci := 5) (k := 4) (q := 6 + 6 * p + 1 + 4) C dX1_noteLet_21 rfl inGX5 (by decide) fwX1_120 (ly_sh hp) (by omega) rfl (rf_sh hp (by decide)) ?_
        refine g_iload_n C dX1_noteLet_24 rfl ?_
        refine g_ialdv (v := src) _ C dX1_noteLet_25 (ly_sa hp (by decide)) (by omega) (by decide) rfl hk (by rw [ntl_off (by omega) (by omega) (by omega) (by omega)]; exact hs) ?_
        refine g_iload C dX1_noteLet_26 rfl ?_
        refine gn2I C dX1_noteLet_28 swX8_hasBit (by decide +kernel) ⟨by decide, by decide⟩ (s_hasBit _ _) (Nat.le_of_ble_eq_true rfl) rfl ⟨by decide, by decide⟩ ?_
        refine g_if_eq 60 C dX1_noteLet_31 (by decide) (fun c31 => ?_) (fun c31 => ?_)
        · refine g_iinc_4 C dX1_noteLet_60 (nI_1 j) (by decide) ?_
          refine g_goto 13 C dX1_noteLet_63 (by decide) ?_
          first
            | (simp only [it, ntl, if_pos c31] at ih; exact ih)
            | (simp only [it, ntl, if_neg c31] at ih; exact ih)
        · refine g_aload_n C dX1_noteLet_34 rfl ?_
          refine g_iload_n C dX1_noteLet_35 rfl ?_
          refine g_iload C dX1_noteLet_36 rfl ?_
          refine gn2I C dX1_noteLet_38 swX8_spot (by decide +kernel) ⟨by decide, by decide⟩ (s_spotN _ _) (Nat.le_of_ble_eq_true rfl) rfl ⟨by decide, by decide⟩ ?_
          refine g_iload_n C dX1_noteLet_41 rfl ?_
          refine g_aload_n C dX1_noteLet_42 rfl ?_
          refine g_getR (ci := 5) (k := 2) (q := 6 + 6 * p + 1 + 2) C dX1_noteLet_43 rfl inGX5 (by decide) fwX1_100 (ly_sh hp) (by omega) rfl (rf_sh hp (by decide)) ?_
          refine g_iload_n C dX1_noteLet_46 rfl ?_
          refine g_ialdv (v := nI f) _ C dX1_noteLet_47 (ly_sa hp (by decide)) (by omega) (by decide) rfl hk (by rw [ntl_off (by omega) (by omega) (by omega) (by omega)]; exact hf) ?_
          refine gn2I C dX1_noteLet_48 swX8_spot (by decide +kernel) ⟨by decide, by decide⟩ (s_spotN _ _) (Nat.le_of_ble_eq_true rfl) rfl ⟨by decide, by decide⟩ ?_
          refine g_bipush (v := 100) C dX1_noteLet_51 (by decide) ?_
          refine g_iload_n C dX1_noteLet_53 rfl ?_
          refine g_imul C dX1_noteLet_54 ?_
          refine g_iload_n C dX1_noteLet_55 rfl ?_
          refine g_iadd C dX1_noteLet_56 ?_
          rw [step_nI]
          refine gv3V (ci := 1) C dX1_noteLet_57 vwX1_link mwX1_113 ⟨by decide, by decide⟩ rfl ly_73 (Nat.le_of_ble_eq_true rfl) (s_link' (ntl_ok hlk j) _ _ _) (Nat.le_of_ble_eq_true rfl) rfl ⟨by decide, by decide⟩ ?_
          refine g_iinc_4 C dX1_noteLet_60 (nI_1 j) (by decide) ?_
          refine g_goto 13 C dX1_noteLet_63 (by decide) ?_
          first
            | (simp only [it, ntl, if_pos c31] at ih; exact ih)
            | (simp only [it, ntl, if_neg c31] at ih; exact ih)
  refine g_aload_n C dX1_noteLet_0 rfl ?_
  refine g_getR (ci := 1) (k := 0) (q := 3) C dX1_noteLet_1 rfl inGX1 (by decide) fwX1_38 ly_73 (by decide) rfl rfl ?_
  refine g_getR (ci := 2) (k := 1) (q := 5) C dX1_noteLet_4 rfl inGX2 (by decide) fwX1_78 ly_3 (by decide) rfl rfl ?_
  refine g_iload_n C dX1_noteLet_7 rfl ?_
  refine g_aald (q := 6 + 6 * p) p C dX1_noteLet_8 ly_5 (Or.inl ⟨rfl, rfl⟩) (by decide) (by decide) rfl hp (rf_shs hp) ?_
  refine g_astore_3 C dX1_noteLet_9 (by decide) ?_
  refine g_iconst (v := 0) C dX1_noteLet_10 (by decide) ?_
  refine g_istore_4 C dX1_noteLet_11 (by decide) ?_
  exact loop 0 (Nat.zero_le _)
def orB (x : Int32) (b : Nat) : Int32 := x ||| ((1 : Int32) <<< (nI b &&& 31))
/-- a line is noted: its part and place, kind, number, names, sources -/
def ntF (I : Nat → Nat → Int32) (p k kd nu f s : Nat) (src : Int32) : Nat → Nat → Int32 :=
  if kd = 0 then up1 I 75 p (orB (I 75 p) nu)
  else if kd = 1 then it (ntl I p k f src) 8 I
  else if kd = 2 then lkN (lkN I (nI (25 * p + f)) (nI (25 * nu + 0)) (nI (100 * p + k))) (nI (25 * nu + 8)) (nI (25 * p + s)) (nI (100 * p + k))
  else if kd = 3 then lkN (up1 I 76 p (orB (I 76 p) nu)) (nI (25 * p + f)) (nI (25 * p + (9 + nu))) (nI (100 * p + k))
  else if kd = 4 then up1 I 77 (25 * p + f) (orB (I 77 (25 * p + f)) nu)
  else lkN I (nI (25 * p + f)) (nI (25 * p + 8)) (nI (100 * p + k))
theorem ntF_0 {I : Nat → Nat → Int32} {p k nu f s : Nat} {src : Int32} : ntF I p k 0 nu f s src = up1 I 75 p (orB (I 75 p) nu) := by simp [ntF]
theorem ntF_1 {I : Nat → Nat → Int32} {p k nu f s : Nat} {src : Int32} : ntF I p k 1 nu f s src = it (ntl I p k f src) 8 I := by simp [ntF]
theorem ntF_2 {I : Nat → Nat → Int32} {p k nu f s : Nat} {src : Int32} : ntF I p k 2 nu f s src = lkN (lkN I (nI (25 * p + f)) (nI (25 * nu + 0)) (nI (100 * p + k))) (nI (25 * nu + 8)) (nI (25 * p + s)) (nI (100 * p + k)) := by simp [ntF]
theorem ntF_3 {I : Nat → Nat → Int32} {p k nu f s : Nat} {src : Int32} : ntF I p k 3 nu f s src = lkN (up1 I 76 p (orB (I 76 p) nu)) (nI (25 * p + f)) (nI (25 * p + (9 + nu))) (nI (100 * p + k)) := by simp [ntF]
theorem ntF_4 {I : Nat → Nat → Int32} {p k nu f s : Nat} {src : Int32} : ntF I p k 4 nu f s src = up1 I 77 (25 * p + f) (orB (I 77 (25 * p + f)) nu) := by simp [ntF]
theorem ntF_5 {I : Nat → Nat → Int32} {p k nu f s : Nat} {src : Int32} : ntF I p k 5 nu f s src = lkN I (nI (25 * p + f)) (nI (25 * p + 8)) (nI (100 * p + k)) := by simp [ntF]
theorem lkOK_up {I : Nat → Nat → Int32} {o k : Nat} {v : Int32} (h : lkOK I) (ho : o ≠ 73) : lkOK (up1 I o k v) := by
  obtain ⟨c, h1, h2⟩ := h
  exact ⟨c, by rw [up1_off (fun e => ho e.symm)]; exact h1, h2⟩
theorem ntF_ok {I : Nat → Nat → Int32} {p k kd nu f s : Nat} {src : Int32} (h : lkOK I) : lkOK (ntF I p k kd nu f s src) := by
  unfold ntF
  split
  · exact lkOK_up h (by decide)
  split
  · exact ntl_ok h 8
  split
  · exact lkN_ok (lkN_ok h _ _ _) _ _ _
  split
  · exact lkN_ok (lkOK_up h (by decide)) _ _ _
  split
  · exact lkOK_up h (by decide)
  · exact lkN_ok h _ _ _
theorem ntF_off {I : Nat → Nat → Int32} {p k kd nu f s : Nat} {src : Int32} {q : Nat} (h1 : q < 73 ∨ 80 < q) : ntF I p k kd nu f s src q = I q := by
  unfold ntF
  split
  · exact up1_off (by omega)
  split
  · exact ntl_off (by omega) (by omega) (by omega) (by omega) 8
  split
  · rw [lkN_off (by omega) (by omega) (by omega) (by omega), lkN_off (by omega) (by omega) (by omega) (by omega)]
  split
  · rw [lkN_off (by omega) (by omega) (by omega) (by omega), up1_off (by omega)]
  split
  · exact up1_off (by omega)
  · exact lkN_off (by omega) (by omega) (by omega) (by omega)
set_option maxHeartbeats 1000000 in
theorem s_note {l : Launch} {G : Gm} {I : Nat → Nat → Int32} {J : Nat → Nat → Int64} {p k kd nu f s : Nat} {src : Int32} (hp : p < 10) (hk : k < 12) (hlk : lkOK I) (hkd : I (6 + 6 * p + 1 + 0) k = nI kd) (hkd5 : kd ≤ 5) (hnu : I (6 + 6 * p + 1 + 1) k = nI nu) (hf : I (6 + 6 * p + 1 + 2) k = nI f) (hf8 : f < 8) (h2 : kd = 2 → I (6 + 6 * p + 1 + 3) k = nI s) (hs : I (6 + 6 * p + 1 + 4) k = src) : Sp l G iX1_note [.ref (G.1 + 73), .int (nI p), .int (nI k)] (mm I J) (RetV (mm (ntF I p k kd nu f s src) J)) noT := by
  refine Sp.of (by decide +kernel) (Nat.le_of_ble_eq_true rfl) ?_
  intro X hXl C
  subst hXl
  show Go X G 7 0 0 _ 0 [.ref (G.1 + 73), .int (nI p), .int (nI k), uu, uu, uu, uu] [] (mm I J)
  refine g_aload_n C dX1_note_0 rfl ?_
  refine g_getR (ci := 1) (k := 0) (q := 3) C dX1_note_1 rfl inGX1 (by decide) fwX1_38 ly_73 (by decide) rfl rfl ?_
  refine g_getR (ci := 2) (k := 1) (q := 5) C dX1_note_4 rfl inGX2 (by decide) fwX1_78 ly_3 (by decide) rfl rfl ?_
  refine g_iload_n C dX1_note_7 rfl ?_
  refine g_aald (q := 6 + 6 * p) p C dX1_note_8 ly_5 (Or.inl ⟨rfl, rfl⟩) (by decide) (by decide) rfl hp (rf_shs hp) ?_
  refine g_astore_3 C dX1_note_9 (by decide) ?_
  refine g_aload_n C dX1_note_10 rfl ?_
  refine g_getR (ci := 5) (k := 1) (q := 6 + 6 * p + 1 + 1) C dX1_note_11 rfl inGX5 (by decide) fwX1_97 (ly_sh hp) (by omega) rfl (rf_sh hp (by decide)) ?_
  refine g_iload_n C dX1_note_14 rfl ?_
  refine g_ialdv (v := nI nu) _ C dX1_note_15 (ly_sa hp (by decide)) (by omega) (by decide) rfl hk hnu ?_
  refine g_istore_4 C dX1_note_16 (by decide) ?_
  refine g_iload_n C dX1_note_18 rfl ?_
  refine g_aload_n C dX1_note_19 rfl ?_
  refine g_getR (ci := 5) (k := 2) (q := 6 + 6 * p + 1 + 2) C dX1_note_20 rfl inGX5 (by decide) fwX1_100 (ly_sh hp) (by omega) rfl (rf_sh hp (by decide)) ?_
  refine g_iload_n C dX1_note_23 rfl ?_
  refine g_ialdv (v := nI f) _ C dX1_note_24 (ly_sa hp (by decide)) (by omega) (by decide) rfl hk hf ?_
  refine gn2I C dX1_note_25 swX8_spot (by decide +kernel) ⟨by decide, by decide⟩ (s_spotN _ _) (Nat.le_of_ble_eq_true rfl) rfl ⟨by decide, by decide⟩ ?_
  refine g_istore_5 C dX1_note_28 (by decide) ?_
  refine g_bipush (v := 100) C dX1_note_30 (by decide) ?_
  refine g_iload_n C dX1_note_32 rfl ?_
  refine g_imul C dX1_note_33 ?_
  refine g_iload_n C dX1_note_34 rfl ?_
  refine g_iadd C dX1_note_35 ?_
  rw [step_nI]
  refine g_istore_6 C dX1_note_36 (by decide) ?_
  refine g_aload_n C dX1_note_38 rfl ?_
  refine g_getR (ci := 5) (k := 0) (q := 6 + 6 * p + 1 + 0) C dX1_note_39 rfl inGX5 (by decide) fwX1_107 (ly_sh hp) (by omega) rfl (rf_sh hp (by decide)) ?_
  refine g_iload_n C dX1_note_42 rfl ?_
  refine g_ialdv (v := nI kd) _ C dX1_note_43 (ly_sa hp (by decide)) (by omega) (by decide) rfl hk hkd ?_
  rcases (show kd = 0 ∨ kd = 1 ∨ kd = 2 ∨ kd = 3 ∨ kd = 4 ∨ kd = 5 by omega) with rfl | rfl | rfl | rfl | rfl | rfl
  · refine g_tabIn 80 C dX1_note_44 (by decide) (by decide) rfl (by decide) ?_
    refine g_aload_n C dX1_note_80 rfl ?_
    refine g_getR (ci := 1) (k := 2) (q := 75) C dX1_note_81 rfl inGX1 (by decide) fwX1_15 ly_73 (by decide) rfl rfl ?_
    refine g_iload_n C dX1_note_84 rfl ?_
    refine g_dup2 C dX1_note_85 rfl rfl ?_
    refine g_iald _ C dX1_note_86 ly_75 (by decide) (by decide) rfl hp ?_
    refine g_iconst (v := 1) C dX1_note_87 (by decide) ?_
    refine g_iload C dX1_note_88 rfl ?_
    refine g_ishl C dX1_note_90 ?_
    refine g_ior C dX1_note_91 ?_
    refine g_iast _ C dX1_note_92 ly_75 (by decide) (by decide) rfl hp ?_
    refine g_goto 209 C dX1_note_93 (by decide) ?_
    exact e_V C dX1_note_209 rfl rfl rfl (by first | rw [ntF_0, orB] | rw [ntF_1] | rw [ntF_2] | rw [ntF_3, orB] | rw [ntF_4, orB] | rw [ntF_5])
  · refine g_tabIn 96 C dX1_note_44 (by decide) (by decide) rfl (by decide) ?_
    refine g_aload_n C dX1_note_96 rfl ?_
    refine g_iload_n C dX1_note_97 rfl ?_
    refine g_iload_n C dX1_note_98 rfl ?_
    refine gv2V (ci := 1) C dX1_note_99 vwX1_noteLet mwX1_110 ⟨by decide, by decide⟩ rfl ly_73 (Nat.le_of_ble_eq_true rfl) (s_noteLet hp hk hlk hf hs) (Nat.le_of_ble_eq_true rfl) rfl ⟨by decide, by decide⟩ ?_
    refine g_goto 209 C dX1_note_102 (by decide) ?_
    exact e_V C dX1_note_209 rfl rfl rfl (by first | rw [ntF_0, orB] | rw [ntF_1] | rw [ntF_2] | rw [ntF_3, orB] | rw [ntF_4, orB] | rw [ntF_5])
  · refine g_tabIn 105 C dX1_note_44 (by decide) (by decide) rfl (by decide) ?_
    refine g_aload_n C dX1_note_105 rfl ?_
    refine g_iload C dX1_note_106 rfl ?_
    refine g_iload C dX1_note_108 rfl ?_
    refine g_iconst (v := 0) C dX1_note_110 (by decide) ?_
    refine gn2I C dX1_note_111 swX8_spot (by decide +kernel) ⟨by decide, by decide⟩ (s_spotN _ 0) (Nat.le_of_ble_eq_true rfl) rfl ⟨by decide, by decide⟩ ?_
    refine g_iload C dX1_note_114 rfl ?_
    refine gv3V (ci := 1) C dX1_note_116 vwX1_link mwX1_113 ⟨by decide, by decide⟩ rfl ly_73 (Nat.le_of_ble_eq_true rfl) (s_link' hlk _ _ _) (Nat.le_of_ble_eq_true rfl) rfl ⟨by decide, by decide⟩ ?_
    refine g_aload_n C dX1_note_119 rfl ?_
    refine g_iload C dX1_note_120 rfl ?_
    refine g_bipush (v := 8) C dX1_note_122 (by decide) ?_
    refine gn2I C dX1_note_124 swX8_spot (by decide +kernel) ⟨by decide, by decide⟩ (s_spotN _ 8) (Nat.le_of_ble_eq_true rfl) rfl ⟨by decide, by decide⟩ ?_
    refine g_iload_n C dX1_note_127 rfl ?_
    refine g_aload_n C dX1_note_128 rfl ?_
    refine g_getR (ci := 5) (k := 3) (q := 6 + 6 * p + 1 + 3) C dX1_note_129 rfl inGX5 (by decide) fwX1_117 (ly_sh hp) (by omega) rfl (rf_sh hp (by decide)) ?_
    refine g_iload_n C dX1_note_132 rfl ?_
    refine g_ialdv (v := nI s) _ C dX1_note_133 (ly_sa hp (by decide)) (by omega) (by decide) rfl hk (by rw [lkN_off (by omega) (by omega) (by omega) (by omega)]; exact h2 rfl) ?_
    refine gn2I C dX1_note_134 swX8_spot (by decide +kernel) ⟨by decide, by decide⟩ (s_spotN _ _) (Nat.le_of_ble_eq_true rfl) rfl ⟨by decide, by decide⟩ ?_
    refine g_iload C dX1_note_137 rfl ?_
    refine gv3V (ci := 1) C dX1_note_139 vwX1_link mwX1_113 ⟨by decide, by decide⟩ rfl ly_73 (Nat.le_of_ble_eq_true rfl) (s_link' (lkN_ok hlk _ _ _) _ _ _) (Nat.le_of_ble_eq_true rfl) rfl ⟨by decide, by decide⟩ ?_
    refine g_goto 209 C dX1_note_142 (by decide) ?_
    exact e_V C dX1_note_209 rfl rfl rfl (by first | rw [ntF_0, orB] | rw [ntF_1] | rw [ntF_2] | rw [ntF_3, orB] | rw [ntF_4, orB] | rw [ntF_5])
  · refine g_tabIn 145 C dX1_note_44 (by decide) (by decide) rfl (by decide) ?_
    refine g_aload_n C dX1_note_145 rfl ?_
    refine g_getR (ci := 1) (k := 3) (q := 76) C dX1_note_146 rfl inGX1 (by decide) fwX1_18 ly_73 (by decide) rfl rfl ?_
    refine g_iload_n C dX1_note_149 rfl ?_
    refine g_dup2 C dX1_note_150 rfl rfl ?_
    refine g_iald _ C dX1_note_151 ly_76 (by decide) (by decide) rfl hp ?_
    refine g_iconst (v := 1) C dX1_note_152 (by decide) ?_
    refine g_iload C dX1_note_153 rfl ?_
    refine g_ishl C dX1_note_155 ?_
    refine g_ior C dX1_note_156 ?_
    refine g_iast _ C dX1_note_157 ly_76 (by decide) (by decide) rfl hp ?_
    refine g_aload_n C dX1_note_158 rfl ?_
    refine g_iload C dX1_note_159 rfl ?_
    refine g_iload_n C dX1_note_161 rfl ?_
    refine g_bipush (v := 9) C dX1_note_162 (by decide) ?_
    refine g_iload C dX1_note_164 rfl ?_
    refine g_iadd C dX1_note_166 ?_
    rw [show (9 : Int32) + nI nu = nI (9 + nu) from nI_add 9 nu]
    refine gn2I C dX1_note_167 swX8_spot (by decide +kernel) ⟨by decide, by decide⟩ (s_spotN _ _) (Nat.le_of_ble_eq_true rfl) rfl ⟨by decide, by decide⟩ ?_
    refine g_iload C dX1_note_170 rfl ?_
    refine gv3V (ci := 1) C dX1_note_172 vwX1_link mwX1_113 ⟨by decide, by decide⟩ rfl ly_73 (Nat.le_of_ble_eq_true rfl) (s_link' (lkOK_up hlk (by decide)) _ _ _) (Nat.le_of_ble_eq_true rfl) rfl ⟨by decide, by decide⟩ ?_
    refine g_goto 209 C dX1_note_175 (by decide) ?_
    exact e_V C dX1_note_209 rfl rfl rfl (by first | rw [ntF_0, orB] | rw [ntF_1] | rw [ntF_2] | rw [ntF_3, orB] | rw [ntF_4, orB] | rw [ntF_5])
  · refine g_tabIn 178 C dX1_note_44 (by decide) (by decide) rfl (by decide) ?_
    refine g_aload_n C dX1_note_178 rfl ?_
    refine g_getR (ci := 1) (k := 4) (q := 77) C dX1_note_179 rfl inGX1 (by decide) fwX1_21 ly_73 (by decide) rfl rfl ?_
    refine g_iload C dX1_note_182 rfl ?_
    refine g_dup2 C dX1_note_184 rfl rfl ?_
    refine g_iald _ C dX1_note_185 ly_77 (by decide) (by decide) rfl (by omega) ?_
    refine g_iconst (v := 1) C dX1_note_186 (by decide) ?_
    refine g_iload C dX1_note_187 rfl ?_
    refine g_ishl C dX1_note_189 ?_
    refine g_ior C dX1_note_190 ?_
    refine g_iast _ C dX1_note_191 ly_77 (by decide) (by decide) rfl (by omega) ?_
    refine g_goto 209 C dX1_note_192 (by decide) ?_
    exact e_V C dX1_note_209 rfl rfl rfl (by first | rw [ntF_0, orB] | rw [ntF_1] | rw [ntF_2] | rw [ntF_3, orB] | rw [ntF_4, orB] | rw [ntF_5])
  · refine g_tabOut 195 C dX1_note_44 (by decide) (by decide) ?_
    refine g_aload_n C dX1_note_195 rfl ?_
    refine g_iload C dX1_note_196 rfl ?_
    refine g_iload_n C dX1_note_198 rfl ?_
    refine g_bipush (v := 8) C dX1_note_199 (by decide) ?_
    refine gn2I C dX1_note_201 swX8_spot (by decide +kernel) ⟨by decide, by decide⟩ (s_spotN _ 8) (Nat.le_of_ble_eq_true rfl) rfl ⟨by decide, by decide⟩ ?_
    refine g_iload C dX1_note_204 rfl ?_
    refine gv3V (ci := 1) C dX1_note_206 vwX1_link mwX1_113 ⟨by decide, by decide⟩ rfl ly_73 (Nat.le_of_ble_eq_true rfl) (s_link' hlk _ _ _) (Nat.le_of_ble_eq_true rfl) rfl ⟨by decide, by decide⟩ ?_
    exact e_V C dX1_note_209 rfl rfl rfl (by first | rw [ntF_0, orB] | rw [ntF_1] | rw [ntF_2] | rw [ntF_3, orB] | rw [ntF_4, orB] | rw [ntF_5])
/-- what the gets of a part bring -/
def sdF (o : Nat) (r1 r2 r3 : Nat → Int32) (k : Nat) (h : Nat → Int32) : Nat → Int32 := if r1 k = 0 then upd h (25 * o + cn (r3 k)) (h (25 * o + cn (r3 k)) ||| ((1 : Int32) <<< (r2 k &&& 31))) else h
set_option maxHeartbeats 1000000 in
theorem s_seed1 {l : Launch} {G : Gm} {I : Nat → Nat → Int32} {J : Nat → Nat → Int64} {o m : Nat} {h : Nat → Int32} (ho : o < 10) (hm : I (6 + 6 * o) 5 = nI m) (hm12 : m ≤ 12) (hg : ¬ I 75 o = 0) (hff : ∀ k, k < m → ∃ f, I (6 + 6 * o + 1 + 2) k = nI f ∧ f < 8) : Sp l G iX1_seed [.ref (G.1 + 73), .int (nI o), .ref (G.1 + (82 + o))] (mm (stRow I (82 + o) 250 h) J) (RetI 1 (mm (stRow I (82 + o) 250 (it (sdF o (I (6 + 6 * o + 1 + 0)) (I (6 + 6 * o + 1 + 1)) (I (6 + 6 * o + 1 + 2))) m h)) J)) noT := by
  refine Sp.of (by decide +kernel) (Nat.le_of_ble_eq_true rfl) ?_
  intro X hXl C
  subst hXl
  show Go X G 5 0 0 _ 0 [.ref (G.1 + 73), .int (nI o), .ref (G.1 + (82 + o)), uu, uu] [] (mm (stRow I (82 + o) 250 h) J)
  have loop : ∀ k : Nat, k ≤ m → Go X G 5 0 0 (KQ X G iX1_seed (RetI 1 (mm (stRow I (82 + o) 250 (it (sdF o (I (6 + 6 * o + 1 + 0)) (I (6 + 6 * o + 1 + 1)) (I (6 + 6 * o + 1 + 2))) m h)) J)) noT) 13 [.ref (G.1 + 73), .int (nI o), .ref (G.1 + (82 + o)), .ref (G.1 + (6 + 6 * o)), .int (nI k)] [] (mm (stRow I (82 + o) 250 (it (sdF o (I (6 + 6 * o + 1 + 0)) (I (6 + 6 * o + 1 + 1)) (I (6 + 6 * o + 1 + 2))) k h)) J) := by
    refine loopN m ?_ ?_
    · skip
      show Go X G 5 0 0 _ 13 _ [] _
      refine g_iload C dX1_seed_13 rfl ?_
      refine g_aload_n C dX1_seed_15 rfl ?_
      refine g_getIv (ci := 5) (k := 5) (v := nI m) C dX1_seed_16 rfl inGX5 (by decide) fwX1_82 (ly_sh ho) (by omega) rfl (by rw [stRow_off (by omega)]; exact hm) ?_
      refine g_icmp_ge 72 C dX1_seed_19 (by decide) (fun c19 => ?_) (fun c19 => ?_)
      · refine g_aload_n C dX1_seed_72 rfl ?_
        refine g_getR (ci := 1) (k := 2) (q := 75) C dX1_seed_73 rfl inGX1 (by decide) fwX1_15 ly_73 (by decide) rfl rfl ?_
        refine g_iload_n C dX1_seed_76 rfl ?_
        refine g_ialdv (v := I 75 o) _ C dX1_seed_77 ly_75 (by decide) (by decide) rfl ho (by rw [stRow_off (by omega)]) ?_
        refine g_if_eq 85 C dX1_seed_78 (by decide) (fun c78 => ?_) (fun c78 => ?_)
        · exact absurd c78 hg
        · refine g_iconst (v := 1) C dX1_seed_81 (by decide) ?_
          refine g_goto 86 C dX1_seed_82 (by decide) ?_
          exact e_Z C dX1_seed_86 rfl rfl rfl (by first | exact Or.inl rfl | exact Or.inr rfl) rfl rfl
      · exact absurd (Int32.le_refl _) c19
    · intro k hk ih 
      show Go X G 5 0 0 _ 13 _ [] _
      refine g_iload C dX1_seed_13 rfl ?_
      refine g_aload_n C dX1_seed_15 rfl ?_
      refine g_getIv (ci := 5) (k := 5) (v := nI m) C dX1_seed_16 rfl inGX5 (by decide) fwX1_82 (ly_sh ho) (by omega) rfl (by rw [stRow_off (by omega)]; exact hm) ?_
      refine g_icmp_ge 72 C dX1_seed_19 (by decide) (fun c19 => ?_) (fun c19 => ?_)
      · exact (nI_ge_dead (n := m) c19 hk (by omega)).elim
      · refine g_aload_n C dX1_seed_22 rfl ?_
        refine g_getR (ci := 1) (k := 2) (q := 75) C dX1_seed_23 rfl inGX1 (by decide) fwX1_15 ly_73 (by decide) rfl rfl ?_
        refine g_iload_n C dX1_seed_26 rfl ?_
        refine g_ialdv (v := I 75 o) _ C dX1_seed_27 ly_75 (by decide) (by decide) rfl ho (by rw [stRow_off (by omega)]) ?_
        refine g_if_eq 72 C dX1_seed_28 (by decide) (fun c28 => ?_) (fun c28 => ?_)
        · exact absurd c28 hg
        · refine g_aload_n C dX1_seed_31 rfl ?_
          refine g_getR (ci := 5) (k := 0) (q := 6 + 6 * o + 1 + 0) C dX1_seed_32 rfl inGX5 (by decide) fwX1_107 (ly_sh ho) (by omega) rfl (rf_sh ho (by decide)) ?_
          refine g_iload C dX1_seed_35 rfl ?_
          refine g_ialdv (v := I (6 + 6 * o + 1 + 0) k) _ C dX1_seed_37 (ly_sa ho (by decide)) (by omega) (by decide) rfl (by omega) (by rw [stRow_off (by omega)]) ?_
          refine g_if_ne 66 C dX1_seed_38 (by decide) (fun c38 => ?_) (fun c38 => ?_)
          · have g38 : ¬ I (6 + 6 * o + 1 + 0) k = 0 := c38
            refine g_iinc_4 C dX1_seed_66 (nI_1 k) (by decide) ?_
            refine g_goto 13 C dX1_seed_69 (by decide) ?_
            first
              | (simp only [it, sdF, if_neg g38] at ih; exact ih)
              | (simp only [it, sdF, if_pos g38, hcf] at ih; rw [stRow_up (by omega)]; exact ih)
          · have g38 : I (6 + 6 * o + 1 + 0) k = 0 := c38
            obtain ⟨f, hf, hf8⟩ := hff k hk
            have hcf : cn (I (6 + 6 * o + 1 + 2) k) = f := by rw [hf]; exact nI_clamp (by omega)
            refine g_aload_n C dX1_seed_41 rfl ?_
            refine g_iload_n C dX1_seed_42 rfl ?_
            refine g_aload_n C dX1_seed_43 rfl ?_
            refine g_getR (ci := 5) (k := 2) (q := 6 + 6 * o + 1 + 2) C dX1_seed_44 rfl inGX5 (by decide) fwX1_100 (ly_sh ho) (by omega) rfl (rf_sh ho (by decide)) ?_
            refine g_iload C dX1_seed_47 rfl ?_
            refine g_ialdv (v := nI f) _ C dX1_seed_49 (ly_sa ho (by decide)) (by omega) (by decide) rfl (by omega) (by rw [stRow_off (by omega)]; exact hf) ?_
            refine gn2I C dX1_seed_50 swX8_spot (by decide +kernel) ⟨by decide, by decide⟩ (s_spotN _ _) (Nat.le_of_ble_eq_true rfl) rfl ⟨by decide, by decide⟩ ?_
            refine g_dup2 C dX1_seed_53 rfl rfl ?_
            refine g_ialdv (v := it (sdF o (I (6 + 6 * o + 1 + 0)) (I (6 + 6 * o + 1 + 1)) (I (6 + 6 * o + 1 + 2))) k h (25 * o + f)) _ C dX1_seed_54 (ly_came ho) (by omega) (by decide) rfl (by omega) (stRow_in (by omega)) ?_
            refine g_iconst (v := 1) C dX1_seed_55 (by decide) ?_
            refine g_aload_n C dX1_seed_56 rfl ?_
            refine g_getR (ci := 5) (k := 1) (q := 6 + 6 * o + 1 + 1) C dX1_seed_57 rfl inGX5 (by decide) fwX1_97 (ly_sh ho) (by omega) rfl (rf_sh ho (by decide)) ?_
            refine g_iload C dX1_seed_60 rfl ?_
            refine g_ialdv (v := I (6 + 6 * o + 1 + 1) k) _ C dX1_seed_62 (ly_sa ho (by decide)) (by omega) (by decide) rfl (by omega) (by rw [stRow_off (by omega)]) ?_
            refine g_ishl C dX1_seed_63 ?_
            refine g_ior C dX1_seed_64 ?_
            refine g_iast _ C dX1_seed_65 (ly_came ho) (by omega) (by decide) rfl (by omega) ?_
            refine g_iinc_4 C dX1_seed_66 (nI_1 k) (by decide) ?_
            refine g_goto 13 C dX1_seed_69 (by decide) ?_
            first
              | (simp only [it, sdF, if_neg g38] at ih; exact ih)
              | (simp only [it, sdF, if_pos g38, hcf] at ih; rw [stRow_up (by omega)]; exact ih)
  refine g_aload_n C dX1_seed_0 rfl ?_
  refine g_getR (ci := 1) (k := 0) (q := 3) C dX1_seed_1 rfl inGX1 (by decide) fwX1_38 ly_73 (by decide) rfl rfl ?_
  refine g_getR (ci := 2) (k := 1) (q := 5) C dX1_seed_4 rfl inGX2 (by decide) fwX1_78 ly_3 (by decide) rfl rfl ?_
  refine g_iload_n C dX1_seed_7 rfl ?_
  refine g_aald (q := 6 + 6 * o) o C dX1_seed_8 ly_5 (Or.inl ⟨rfl, rfl⟩) (by decide) (by decide) rfl ho (rf_shs ho) ?_
  refine g_astore_3 C dX1_seed_9 (by decide) ?_
  refine g_iconst (v := 0) C dX1_seed_10 (by decide) ?_
  refine g_istore_4 C dX1_seed_11 (by decide) ?_
  exact loop 0 (Nat.zero_le _)
set_option maxHeartbeats 1000000 in
theorem s_seed0 {l : Launch} {G : Gm} {I : Nat → Nat → Int32} {J : Nat → Nat → Int64} {o m : Nat} (ho : o < 10) (hm : I (6 + 6 * o) 5 = nI m) (hg : I 75 o = 0) : Sp l G iX1_seed [.ref (G.1 + 73), .int (nI o), .ref (G.1 + (82 + o))] (mm I J) (RetI 0 (mm I J)) noT := by
  refine Sp.of (by decide +kernel) (Nat.le_of_ble_eq_true rfl) ?_
  intro X hXl C
  subst hXl
  show Go X G 5 0 0 _ 0 [.ref (G.1 + 73), .int (nI o), .ref (G.1 + (82 + o)), uu, uu] [] (mm I J)
  refine g_aload_n C dX1_seed_0 rfl ?_
  refine g_getR (ci := 1) (k := 0) (q := 3) C dX1_seed_1 rfl inGX1 (by decide) fwX1_38 ly_73 (by decide) rfl rfl ?_
  refine g_getR (ci := 2) (k := 1) (q := 5) C dX1_seed_4 rfl inGX2 (by decide) fwX1_78 ly_3 (by decide) rfl rfl ?_
  refine g_iload_n C dX1_seed_7 rfl ?_
  refine g_aald (q := 6 + 6 * o) o C dX1_seed_8 ly_5 (Or.inl ⟨rfl, rfl⟩) (by decide) (by decide) rfl ho (rf_shs ho) ?_
  refine g_astore_3 C dX1_seed_9 (by decide) ?_
  refine g_iconst (v := 0) C dX1_seed_10 (by decide) ?_
  refine g_istore_4 C dX1_seed_11 (by decide) ?_
  refine g_iload C dX1_seed_13 rfl ?_
  refine g_aload_n C dX1_seed_15 rfl ?_
  refine g_getIv (ci := 5) (k := 5) (v := nI m) C dX1_seed_16 rfl inGX5 (by decide) fwX1_82 (ly_sh ho) (by omega) rfl hm ?_
  refine g_icmp_ge 72 C dX1_seed_19 (by decide) (fun c19 => ?_) (fun c19 => ?_)
  · refine g_aload_n C dX1_seed_72 rfl ?_
    refine g_getR (ci := 1) (k := 2) (q := 75) C dX1_seed_73 rfl inGX1 (by decide) fwX1_15 ly_73 (by decide) rfl rfl ?_
    refine g_iload_n C dX1_seed_76 rfl ?_
    refine g_iald _ C dX1_seed_77 ly_75 (by decide) (by decide) rfl ho ?_
    refine g_if_eq 85 C dX1_seed_78 (by decide) (fun c78 => ?_) (fun c78 => ?_)
    · refine g_iconst (v := 0) C dX1_seed_85 (by decide) ?_
      exact e_Z C dX1_seed_86 rfl rfl rfl (by first | exact Or.inl rfl | exact Or.inr rfl) rfl rfl
    · exact absurd hg c78
  · refine g_aload_n C dX1_seed_22 rfl ?_
    refine g_getR (ci := 1) (k := 2) (q := 75) C dX1_seed_23 rfl inGX1 (by decide) fwX1_15 ly_73 (by decide) rfl rfl ?_
    refine g_iload_n C dX1_seed_26 rfl ?_
    refine g_iald _ C dX1_seed_27 ly_75 (by decide) (by decide) rfl ho ?_
    refine g_if_eq 72 C dX1_seed_28 (by decide) (fun c28 => ?_) (fun c28 => ?_)
    · refine g_aload_n C dX1_seed_72 rfl ?_
      refine g_getR (ci := 1) (k := 2) (q := 75) C dX1_seed_73 rfl inGX1 (by decide) fwX1_15 ly_73 (by decide) rfl rfl ?_
      refine g_iload_n C dX1_seed_76 rfl ?_
      refine g_iald _ C dX1_seed_77 ly_75 (by decide) (by decide) rfl ho ?_
      refine g_if_eq 85 C dX1_seed_78 (by decide) (fun c78 => ?_) (fun c78 => ?_)
      · refine g_iconst (v := 0) C dX1_seed_85 (by decide) ?_
        exact e_Z C dX1_seed_86 rfl rfl rfl (by first | exact Or.inl rfl | exact Or.inr rfl) rfl rfl
      · exact absurd hg c78
    · exact absurd hg c28
