theorem byOK_rd {D : Nat → Nat → Int32} {t : Nat → Nat} {e : Nat} {wr pl num nm : Int32} {i : Nat} (h : byOK D t) : byOK (rdS D t e wr pl num nm i) t := fun j hj => by rw [rd_off (by decide)]; exact h j hj
theorem s_adv {l : Launch} {G : Gm} {D : Nat → Nat → Int32} {J : Nat → Nat → Int64} {t : Nat → Nat} {e : Nat} (hB : byOK D t) (he : D 66 4 = nI e) (he3 : e ≤ 300) {wr pl num nm : Int32} {i : Nat} (hi : i ≤ e) : Sp l G iX3_advance [.ref (G.1 + 66)] (mm (rdS D t e wr pl num nm i) J) (RetV (mm (rdS D t e wr pl num nm (tn t e i)) J)) noT := by
  have h := s_advance0 (l := l) (G := G) (I := rdS D t e wr pl num nm i) (J := J) (byOK_rd hB) he he3 (i := tn t e i) (tn_in hi).2 rfl
  rw [rd_adv] at h
  exact h
theorem sgn1 {t : Nat → Nat} {e j : Nat} (h : sgn t e j = 1) : j < e ∧ 97 ≤ t j ∧ t j ≤ 122 := by
  unfold sgn at h
  split at h
  · omega
  split at h
  · omega
  split at h
  · omega
  split at h
  · omega
  split at h <;> omega
theorem sgn2 {t : Nat → Nat} {e j : Nat} (h : sgn t e j = 2) : j < e ∧ 48 ≤ t j ∧ t j ≤ 57 := by
  unfold sgn at h
  split at h
  · omega
  split at h
  · omega
  split at h
  · omega
  split at h
  · omega
  split at h <;> omega
theorem rnn_all (t : Nat → Nat) (e k : Nat) : ∀ f i j, i ≤ j → j < rnn t e k f i → sgn t e j = k
  | 0, i, j, h1, h2 => absurd h2 (by unfold rnn; omega)
  | f + 1, i, j, h1, h2 => by
    unfold rnn at h2
    by_cases hs : sgn t e i = k
    · rw [if_pos hs] at h2
      by_cases hj : j = i
      · rw [hj]; exact hs
      · exact rnn_all t e k f (i + 1) j (by omega) h2
    · rw [if_neg hs] at h2; omega
theorem tk_sgn {t : Nat → Nat} {e i k : Nat} (h : tk t e i = k) (hk : k < 5) : sgn t e (tf t e i) = k ∧ tn t e i - tf t e i ≤ lgs k := by
  unfold tk at h
  split at h
  · next h2 => rw [h] at h2; exact ⟨h, h2⟩
  · omega
/-- every byte of a word, of a whole -/
theorem tk_all {t : Nat → Nat} {e i k : Nat} (h : tk t e i = k) (hk : k = 1 ∨ k = 2) : tf t e i < tn t e i ∧ ∀ j, tf t e i ≤ j → j < tn t e i → sgn t e j = k := by
  obtain ⟨h1, -⟩ := tk_sgn h (by omega)
  unfold tn
  rw [h1, if_neg (by omega), if_pos (by rcases hk with rfl | rfl <;> decide)]
  refine ⟨by have := rnn_in t e k (e - (tf t e i + 1)) (tf t e i + 1); omega, fun j a b => ?_⟩
  by_cases hj : j = tf t e i
  · rw [hj]; exact h1
  · exact rnn_all t e k _ _ j (by omega) b
/-- a name is to be: 0 it is, else the fault -/
def nmC (t : Nat → Nat) (e i : Nat) : Nat := if tk t e i = 1 then (if tn t e i - tf t e i = 1 ∧ t (tf t e i) < 105 then 0 else 2) else 1
def wv0 (t : Nat → Nat) (f : Nat) : Nat → Nat
  | 0 => 0
  | k + 1 => wv0 t f k * 10 + (t (f + k) - 48)
def wv (t : Nat → Nat) (e i : Nat) : Nat := wv0 t (tf t e i) (tn t e i - tf t e i)
def isW (t : Nat → Nat) (e i w : Nat) : Prop := tk t e i = 1 ∧ tn t e i - tf t e i = stL.getD w 0 ∧ ∀ j, j < stL.getD w 0 → nI (t (tf t e i + j)) = stc w j
theorem dk {a b : Nat} (ha : a ≤ 5) (hb : b ≤ 5) : nI a = nI b ↔ a = b := nI_eq (by omega) (by omega)
theorem tk_le (t : Nat → Nat) (e i : Nat) : tk t e i ≤ 5 := by have := sgn_le t e (tf t e i); unfold tk; split <;> omega
set_option maxHeartbeats 1000000 in
theorem s_fail {l : Launch} {G : Gm} {D : Nat → Nat → Int32} {J : Nat → Nat → Int64} {t : Nat → Nat} {e : Nat} (hB : byOK D t) (he : D 66 4 = nI e) (he3 : e ≤ 300) {wr pl num nm : Int32} {i : Nat} (hi : i ≤ e) (x : Int32) : Sp l G iX3_fail [.ref (G.1 + 66), .int x] (mm (rdS D t e wr pl num nm i) J) (RetI 0 (mm (rdS D t e x (nI (tf t e i)) num nm i) J)) noT := by
  refine Sp.of (by decide +kernel) (Nat.le_of_ble_eq_true rfl) ?_
  intro X hXl C
  subst hXl
  show Go X G 2 0 0 _ 0 [.ref (G.1 + 66), .int x] [] (mm (rdS D t e wr pl num nm i) J)
  refine g_aload_n C dX3_fail_0 rfl ?_
  refine g_iload_n C dX3_fail_1 rfl ?_
  refine g_putI (ci := 3) (k := 2) .int C dX3_fail_2 rfl inGX3 tyX3_ok nmX3 (by decide) fwX3_26 ly_66 (by decide) rfl rfl rfl rfl rfl ?_
  rw [rd_2]
  refine g_aload_n C dX3_fail_5 rfl ?_
  refine g_aload_n C dX3_fail_6 rfl ?_
  refine g_getI (ci := 3) (k := 7) C dX3_fail_7 rfl inGX3 (by decide) fwX3_101 ly_66 (by decide) rfl ?_
  simp only [rd_g7]
  refine g_putI (ci := 3) (k := 3) .int C dX3_fail_10 rfl inGX3 tyX3_ok nmX3 (by decide) fwX3_29 ly_66 (by decide) rfl rfl rfl rfl rfl ?_
  rw [rd_3]
  refine g_iconst (v := 0) C dX3_fail_13 (by decide) ?_
  exact e_Z C dX3_fail_14 rfl rfl rfl (by first | exact Or.inl rfl | exact Or.inr rfl) rfl rfl
set_option maxHeartbeats 1000000 in
theorem s_isName {l : Launch} {G : Gm} {D : Nat → Nat → Int32} {J : Nat → Nat → Int64} {t : Nat → Nat} {e : Nat} (hB : byOK D t) (he : D 66 4 = nI e) (he3 : e ≤ 300) {wr pl num nm : Int32} {i : Nat} (hi : i ≤ e) : Sp l G iX3_isName [.ref (G.1 + 66)] (mm (rdS D t e wr pl num nm i) J) (RetI (if nmC t e i = 0 then 1 else 0) (mm (if nmC t e i = 0 then rdS D t e wr pl num nm i else rdS D t e (nI (nmC t e i)) (nI (tf t e i)) num nm i) J)) noT := by
  refine Sp.of (by decide +kernel) (Nat.le_of_ble_eq_true rfl) ?_
  intro X hXl C
  subst hXl
  show Go X G 1 0 0 _ 0 [.ref (G.1 + 66)] [] (mm (rdS D t e wr pl num nm i) J)
  have hfi := tf_in (t := t) hi
  have hni := tn_in (t := t) hi
  refine g_aload_n C dX3_isName_0 rfl ?_
  refine g_getIv (ci := 3) (k := 6) (v := nI (tk t e i)) C dX3_isName_1 rfl inGX3 (by decide) fwX3_48 ly_66 (by decide) rfl rd_g6 ?_
  refine g_iconst (v := 1) C dX3_isName_4 (by decide) ?_
  refine g_icmp_eq 14 C dX3_isName_5 (by decide) (fun c5 => ?_) (fun c5 => ?_)
  · have g5 : tk t e i = 1 := (dk (tk_le t e i) (b := 1) (by decide)).mp c5
    refine g_aload_n C dX3_isName_14 rfl ?_
    obtain ⟨h7, h8⟩ := tk_all g5 (Or.inl rfl)
    obtain ⟨h9, h10, h11⟩ := sgn1 (h8 _ (Nat.le_refl _) h7)
    obtain ⟨hb1, hb2⟩ := hB (tf t e i) (by omega)
    refine g_getIv (ci := 3) (k := 8) (v := nI (tn t e i)) C dX3_isName_15 rfl inGX3 (by decide) fwX3_38 ly_66 (by decide) rfl rd_g8 ?_
    refine g_aload_n C dX3_isName_18 rfl ?_
    refine g_getIv (ci := 3) (k := 7) (v := nI (tf t e i)) C dX3_isName_19 rfl inGX3 (by decide) fwX3_101 ly_66 (by decide) rfl rd_g7 ?_
    refine g_isub C dX3_isName_22 ?_
    refine g_iconst (v := 1) C dX3_isName_23 (by decide) ?_
    rw [pk_sub (by omega)]
    refine g_icmp_ne 47 C dX3_isName_24 (by decide) (fun c24 => ?_) (fun c24 => ?_)
    · have g24 : ¬ (tn t e i - tf t e i = 1 ∧ t (tf t e i) < 105) := fun q => c24 (by rw [q.1]; rfl)
      refine g_aload_n C dX3_isName_47 rfl ?_
      refine g_iconst (v := 2) C dX3_isName_48 (by decide) ?_
      refine gv1I (ci := 3) C dX3_isName_49 vwX3_fail mwX3_51 ⟨by decide, by decide⟩ rfl ly_66 (Nat.le_of_ble_eq_true rfl) (s_fail hB he he3 hi _) (Nat.le_of_ble_eq_true rfl) rfl ⟨by decide, by decide⟩ ?_
      exact e_Z C dX3_isName_52 rfl rfl rfl (Or.inl rfl) (by rw [nmC, if_pos g5, if_neg g24]; rfl) (by rw [nmC, if_pos g5, if_neg g24]; rfl)
    · have g23 : tn t e i - tf t e i = 1 := (nIe (by omega) (b := 1) (by decide)).mp c24
      refine g_aload_n C dX3_isName_27 rfl ?_
      refine g_getR (ci := 3) (k := 1) (q := 1) C dX3_isName_28 rfl inGX3 (by decide) fwX3_18 ly_66 (by decide) rfl rfl ?_
      refine g_getR (ci := 6) (k := 0) (q := 2) C dX3_isName_31 rfl inGX6 (by decide) fwX3_103 ly_1 (by decide) rfl rfl ?_
      refine g_aload_n C dX3_isName_34 rfl ?_
      refine g_getIv (ci := 3) (k := 7) (v := nI (tf t e i)) C dX3_isName_35 rfl inGX3 (by decide) fwX3_101 ly_66 (by decide) rfl rd_g7 ?_
      refine g_ialdv (v := nI (t (tf t e i))) _ C dX3_isName_38 ly_2 (by decide) (by decide) rfl (by omega) (by rw [rd_off (by decide)]; exact hb1) ?_
      refine g_bipush (v := 97) C dX3_isName_39 (by decide) ?_
      refine g_isub C dX3_isName_41 ?_
      refine g_bipush (v := 8) C dX3_isName_42 (by decide) ?_
      rw [show nI (t (tf t e i)) - 97 = nI (t (tf t e i) - 97) from pk_sub (b := 97) h10]
      refine g_icmp_lt 53 C dX3_isName_44 (by decide) (fun c44 => ?_) (fun c44 => ?_)
      · have g24 : tn t e i - tf t e i = 1 ∧ t (tf t e i) < 105 := ⟨g23, by have := nI_t (b := 8) c44 (by omega) (by decide); omega⟩
        refine g_iconst (v := 1) C dX3_isName_53 (by decide) ?_
        exact e_Z C dX3_isName_54 rfl rfl rfl (by first | exact Or.inl rfl | exact Or.inr rfl) (by rw [nmC, if_pos g5, if_pos g24]; rfl) (by rw [nmC, if_pos g5, if_pos g24]; rfl)
      · have g24 : ¬ (tn t e i - tf t e i = 1 ∧ t (tf t e i) < 105) := fun q => c44 (nI_lt (b := 8) (by omega) (by decide))
        refine g_aload_n C dX3_isName_47 rfl ?_
        refine g_iconst (v := 2) C dX3_isName_48 (by decide) ?_
        refine gv1I (ci := 3) C dX3_isName_49 vwX3_fail mwX3_51 ⟨by decide, by decide⟩ rfl ly_66 (Nat.le_of_ble_eq_true rfl) (s_fail hB he he3 hi _) (Nat.le_of_ble_eq_true rfl) rfl ⟨by decide, by decide⟩ ?_
        exact e_Z C dX3_isName_52 rfl rfl rfl (Or.inl rfl) (by rw [nmC, if_pos g5, if_neg g24]; rfl) (by rw [nmC, if_pos g5, if_neg g24]; rfl)
  · have g5 : ¬ tk t e i = 1 := fun q => c5 (by rw [q]; rfl)
    refine g_aload_n C dX3_isName_8 rfl ?_
    refine g_iconst (v := 1) C dX3_isName_9 (by decide) ?_
    refine gv1I (ci := 3) C dX3_isName_10 vwX3_fail mwX3_51 ⟨by decide, by decide⟩ rfl ly_66 (Nat.le_of_ble_eq_true rfl) (s_fail hB he he3 hi _) (Nat.le_of_ble_eq_true rfl) rfl ⟨by decide, by decide⟩ ?_
    exact e_Z C dX3_isName_13 rfl rfl rfl (Or.inl rfl) (by rw [nmC, if_neg g5]; rfl) (by rw [nmC, if_neg g5]; rfl)
theorem nm_ok {t : Nat → Nat} {e i : Nat} (h : nmC t e i = 0) : tk t e i = 1 ∧ tn t e i = tf t e i + 1 ∧ t (tf t e i) < 105 ∧ 97 ≤ t (tf t e i) ∧ tf t e i < e := by
  unfold nmC at h
  by_cases h1 : tk t e i = 1
  · rw [if_pos h1] at h
    by_cases h2 : tn t e i - tf t e i = 1 ∧ t (tf t e i) < 105
    · obtain ⟨h7, h8⟩ := tk_all h1 (Or.inl rfl)
      obtain ⟨h9, h10, h11⟩ := sgn1 (h8 _ (Nat.le_refl _) h7)
      exact ⟨h1, by omega, h2.2, h10, h9⟩
    · rw [if_neg h2] at h; omega
  · rw [if_neg h1] at h; omega
set_option maxHeartbeats 1000000 in
theorem s_takeName {l : Launch} {G : Gm} {D : Nat → Nat → Int32} {J : Nat → Nat → Int64} {t : Nat → Nat} {e : Nat} (hB : byOK D t) (he : D 66 4 = nI e) (he3 : e ≤ 300) {wr pl num nm : Int32} {i : Nat} (hi : i ≤ e) : Sp l G iX3_takeName [.ref (G.1 + 66)] (mm (rdS D t e wr pl num nm i) J) (RetI (if nmC t e i = 0 then 1 else 0) (mm (if nmC t e i = 0 then rdS D t e wr pl num (nI (t (tf t e i) - 97)) (tn t e i) else rdS D t e (nI (nmC t e i)) (nI (tf t e i)) num nm i) J)) noT := by
  refine Sp.of (by decide +kernel) (Nat.le_of_ble_eq_true rfl) ?_
  intro X hXl C
  subst hXl
  show Go X G 1 0 0 _ 0 [.ref (G.1 + 66)] [] (mm (rdS D t e wr pl num nm i) J)
  refine g_aload_n C dX3_takeName_0 rfl ?_
  refine gv0I (ci := 3) C dX3_takeName_1 vwX3_isName mwX3_96 ⟨by decide, by decide⟩ rfl ly_66 (Nat.le_of_ble_eq_true rfl) (s_isName hB he he3 hi) (Nat.le_of_ble_eq_true rfl) rfl ⟨by decide, by decide⟩ ?_
  refine g_if_ne 9 C dX3_takeName_4 (by decide) (fun c4 => ?_) (fun c4 => ?_)
  · have g4 : nmC t e i = 0 := Classical.not_not.mp (fun q => c4 (if01.mpr q))
    simp only [if_pos g4]
    obtain ⟨h1, h2, h3, h4, h5⟩ := nm_ok g4
    obtain ⟨hb1, hb2⟩ := hB (tf t e i) (by omega)
    refine g_aload_n C dX3_takeName_9 rfl ?_
    refine g_aload_n C dX3_takeName_10 rfl ?_
    refine g_getR (ci := 3) (k := 1) (q := 1) C dX3_takeName_11 rfl inGX3 (by decide) fwX3_18 ly_66 (by decide) rfl rfl ?_
    refine g_getR (ci := 6) (k := 0) (q := 2) C dX3_takeName_14 rfl inGX6 (by decide) fwX3_103 ly_1 (by decide) rfl rfl ?_
    refine g_aload_n C dX3_takeName_17 rfl ?_
    refine g_getIv (ci := 3) (k := 7) (v := nI (tf t e i)) C dX3_takeName_18 rfl inGX3 (by decide) fwX3_101 ly_66 (by decide) rfl rd_g7 ?_
    refine g_ialdv (v := nI (t (tf t e i))) _ C dX3_takeName_21 ly_2 (by decide) (by decide) rfl (by omega) (by rw [rd_off (by decide)]; exact hb1) ?_
    refine g_bipush (v := 97) C dX3_takeName_22 (by decide) ?_
    refine g_isub C dX3_takeName_24 ?_
    rw [show nI (t (tf t e i)) - 97 = nI (t (tf t e i) - 97) from pk_sub (b := 97) h4]
    refine g_putI (ci := 3) (k := 10) .int C dX3_takeName_25 rfl inGX3 tyX3_ok nmX3 (by decide) fwX3_87 ly_66 (by decide) rfl rfl rfl rfl rfl ?_
    rw [rd_10]
    refine g_aload_n C dX3_takeName_28 rfl ?_
    refine gv0V (ci := 3) C dX3_takeName_29 vwX3_advance mwX3_41 ⟨by decide, by decide⟩ rfl ly_66 (Nat.le_of_ble_eq_true rfl) (s_adv hB he he3 hi) (Nat.le_of_ble_eq_true rfl) rfl ⟨by decide, by decide⟩ ?_
    refine g_iconst (v := 1) C dX3_takeName_32 (by decide) ?_
    exact e_Z C dX3_takeName_33 rfl rfl rfl (by first | exact Or.inl rfl | exact Or.inr rfl) rfl rfl
  · have g4 : ¬ nmC t e i = 0 := if01.mp c4
    simp only [if_neg g4]
    refine g_iconst (v := 0) C dX3_takeName_7 (by decide) ?_
    exact e_Z C dX3_takeName_8 rfl rfl rfl (by first | exact Or.inl rfl | exact Or.inr rfl) rfl rfl
theorem isW_no {t : Nat → Nat} {e i w j : Nat} (hj : j < stL.getD w 0) (h : ¬ nI (t (tf t e i + j)) = stc w j) : ¬ isW t e i w := fun q => h (q.2.2 j hj)
noncomputable def wB (t : Nat → Nat) (e i w : Nat) : Int32 := by classical exact if isW t e i w then 1 else 0
theorem wB_1 {t : Nat → Nat} {e i w : Nat} (h : isW t e i w) : wB t e i w = 1 := by unfold wB; rw [if_pos h]
theorem wB_0 {t : Nat → Nat} {e i w : Nat} (h : ¬ isW t e i w) : wB t e i w = 0 := by unfold wB; rw [if_neg h]
theorem wB_z {t : Nat → Nat} {e i w : Nat} (h : wB t e i w = 0) : ¬ isW t e i w := fun q => by rw [wB_1 q] at h; exact absurd h (by decide)
theorem wB_nz {t : Nat → Nat} {e i w : Nat} (h : ¬ wB t e i w = 0) : isW t e i w := Classical.byContradiction fun q => h (wB_0 q)
set_option maxHeartbeats 1000000 in
theorem s_isWord {l : Launch} {G : Gm} {D : Nat → Nat → Int32} {J : Nat → Nat → Int64} {t : Nat → Nat} {e : Nat} (hB : byOK D t) (he : D 66 4 = nI e) (he3 : e ≤ 300) {wr pl num nm : Int32} {i : Nat} (hi : i ≤ e) {w : Nat} (hw : w < 11) : Sp l G iX3_isWord [.ref (G.1 + 66), .ref (G.2.2.2.1 w)] (mm (rdS D t e wr pl num nm i) J) (RetI (wB t e i w) (mm (rdS D t e wr pl num nm i) J)) noT := by
  refine Sp.of (by decide +kernel) (Nat.le_of_ble_eq_true rfl) ?_
  intro X hXl C
  subst hXl
  show Go X G 3 0 0 _ 0 [.ref (G.1 + 66), .ref (G.2.2.2.1 w), uu] [] (mm (rdS D t e wr pl num nm i) J)
  have hfi := tf_in (t := t) hi
  have hni := tn_in (t := t) hi
  refine g_aload_n C dX3_isWord_0 rfl ?_
  refine g_getIv (ci := 3) (k := 6) (v := nI (tk t e i)) C dX3_isWord_1 rfl inGX3 (by decide) fwX3_48 ly_66 (by decide) rfl rd_g6 ?_
  refine g_iconst (v := 1) C dX3_isWord_4 (by decide) ?_
  refine g_icmp_ne 24 C dX3_isWord_5 (by decide) (fun c5 => ?_) (fun c5 => ?_)
  · have g5 : ¬ tk t e i = 1 := fun q => c5 (by rw [q]; rfl)
    refine g_iconst (v := 0) C dX3_isWord_24 (by decide) ?_
    exact e_Z C dX3_isWord_25 rfl rfl rfl (by first | exact Or.inl rfl | exact Or.inr rfl) (by first | exact (wB_0 (fun q => g5 q.1)).symm | exact (wB_0 (fun q => g21 q.2.1)).symm) rfl
  · have g5 : tk t e i = 1 := (dk (tk_le t e i) (b := 1) (by decide)).mp c5
    obtain ⟨h7, h8⟩ := tk_all g5 (Or.inl rfl)
    refine g_aload_n C dX3_isWord_8 rfl ?_
    refine g_getIv (ci := 3) (k := 8) (v := nI (tn t e i)) C dX3_isWord_9 rfl inGX3 (by decide) fwX3_38 ly_66 (by decide) rfl rd_g8 ?_
    refine g_aload_n C dX3_isWord_12 rfl ?_
    refine g_getIv (ci := 3) (k := 7) (v := nI (tf t e i)) C dX3_isWord_13 rfl inGX3 (by decide) fwX3_101 ly_66 (by decide) rfl rd_g7 ?_
    refine g_isub C dX3_isWord_16 ?_
    refine g_aload_n C dX3_isWord_17 rfl ?_
    refine gk0I C dX3_isWord_18 vwJ0_length_8abf5 mwX3_124 ⟨by decide, by decide⟩ rfl hw (s_strLen hw) (Nat.le_of_ble_eq_true rfl) rfl ⟨by decide, by decide⟩ ?_
    rw [pk_sub (by omega)]
    refine g_icmp_eq 26 C dX3_isWord_21 (by decide) (fun c21 => ?_) (fun c21 => ?_)
    · have g21 : tn t e i - tf t e i = stL.getD w 0 := (nIe (by omega) (by have := stL_le w hw; omega)).mp c21
      have loop : ∀ j : Nat, j ≤ stL.getD w 0 → (∀ q, q < j → nI (t (tf t e i + q)) = stc w q) → Go X G 3 0 0 (KQ X G iX3_isWord (RetI (wB t e i w) (mm (rdS D t e wr pl num nm i) J)) noT) 28 [.ref (G.1 + 66), .ref (G.2.2.2.1 w), .int (nI j)] [] (mm (rdS D t e wr pl num nm i) J) := by
        refine loopN (stL.getD w 0) ?_ ?_
        · intro hq
          show Go X G 3 0 0 _ 28 _ [] _
          refine g_iload_n C dX3_isWord_28 rfl ?_
          refine g_aload_n C dX3_isWord_29 rfl ?_
          refine gk0I C dX3_isWord_30 vwJ0_length_8abf5 mwX3_124 ⟨by decide, by decide⟩ rfl hw (s_strLen hw) (Nat.le_of_ble_eq_true rfl) rfl ⟨by decide, by decide⟩ ?_
          refine g_icmp_ge 66 C dX3_isWord_33 (by decide) (fun c33 => ?_) (fun c33 => ?_)
          · refine g_iconst (v := 1) C dX3_isWord_66 (by decide) ?_
            exact e_Z C dX3_isWord_67 rfl rfl rfl (by first | exact Or.inl rfl | exact Or.inr rfl) (wB_1 ⟨g5, g21, hq⟩).symm rfl
          · exact absurd (Int32.le_refl _) c33
        · intro j hj ihj hq
          show Go X G 3 0 0 _ 28 _ [] _
          refine g_iload_n C dX3_isWord_28 rfl ?_
          refine g_aload_n C dX3_isWord_29 rfl ?_
          refine gk0I C dX3_isWord_30 vwJ0_length_8abf5 mwX3_124 ⟨by decide, by decide⟩ rfl hw (s_strLen hw) (Nat.le_of_ble_eq_true rfl) rfl ⟨by decide, by decide⟩ ?_
          refine g_icmp_ge 66 C dX3_isWord_33 (by decide) (fun c33 => ?_) (fun c33 => ?_)
          · exact (nI_ge_dead (n := stL.getD w 0) c33 hj (by have := stL_le w hw; omega)).elim
          · obtain ⟨hb1, hb2⟩ := hB (tf t e i + j) (by omega)
            refine g_aload_n C dX3_isWord_36 rfl ?_
            refine g_getR (ci := 3) (k := 1) (q := 1) C dX3_isWord_37 rfl inGX3 (by decide) fwX3_18 ly_66 (by decide) rfl rfl ?_
            refine g_getR (ci := 6) (k := 0) (q := 2) C dX3_isWord_40 rfl inGX6 (by decide) fwX3_103 ly_1 (by decide) rfl rfl ?_
            refine g_aload_n C dX3_isWord_43 rfl ?_
            refine g_getIv (ci := 3) (k := 7) (v := nI (tf t e i)) C dX3_isWord_44 rfl inGX3 (by decide) fwX3_101 ly_66 (by decide) rfl rd_g7 ?_
            refine g_iload_n C dX3_isWord_47 rfl ?_
            refine g_iadd C dX3_isWord_48 ?_
            rw [nI_add]
            refine g_ialdv (v := nI (t (tf t e i + j))) _ C dX3_isWord_49 ly_2 (by decide) (by decide) rfl (by omega) (by rw [rd_off (by decide)]; exact hb1) ?_
            refine g_aload_n C dX3_isWord_50 rfl ?_
            refine g_iload_n C dX3_isWord_51 rfl ?_
            refine gk1I C dX3_isWord_52 vwJ0_charAt_5068e mwX3_129 ⟨by decide, by decide⟩ rfl hw (s_charAt hw hj) (Nat.le_of_ble_eq_true rfl) rfl ⟨by decide, by decide⟩ ?_
            refine g_icmp_eq 60 C dX3_isWord_55 (by decide) (fun c55 => ?_) (fun c55 => ?_)
            · refine g_iinc_2 C dX3_isWord_60 (nI_1 j) (by decide) ?_
              refine g_goto 28 C dX3_isWord_63 (by decide) ?_
              exact ihj (fun q h => by rcases Nat.lt_or_ge q j with z | z; exact hq q z; rw [show q = j by omega]; exact c55)
            · refine g_iconst (v := 0) C dX3_isWord_58 (by decide) ?_
              exact e_Z C dX3_isWord_59 rfl rfl rfl (by first | exact Or.inl rfl | exact Or.inr rfl) (wB_0 (isW_no hj c55)).symm rfl
      refine g_iconst (v := 0) C dX3_isWord_26 (by decide) ?_
      refine g_istore_2 C dX3_isWord_27 (by decide) ?_
      exact loop 0 (Nat.zero_le _) (fun q h => absurd h (Nat.not_lt_zero q))
    · have g21 : ¬ tn t e i - tf t e i = stL.getD w 0 := fun q => c21 (by rw [q])
      refine g_iconst (v := 0) C dX3_isWord_24 (by decide) ?_
      exact e_Z C dX3_isWord_25 rfl rfl rfl (by first | exact Or.inl rfl | exact Or.inr rfl) (by first | exact (wB_0 (fun q => g5 q.1)).symm | exact (wB_0 (fun q => g21 q.2.1)).symm) rfl
set_option maxHeartbeats 1000000 in
theorem s_takeWord1 {l : Launch} {G : Gm} {D : Nat → Nat → Int32} {J : Nat → Nat → Int64} {t : Nat → Nat} {e : Nat} (hB : byOK D t) (he : D 66 4 = nI e) (he3 : e ≤ 300) {wr pl num nm : Int32} {i : Nat} (hi : i ≤ e) {w : Nat} (hw : w < 11) (h : isW t e i w) : Sp l G iX3_takeWord [.ref (G.1 + 66), .ref (G.2.2.2.1 w)] (mm (rdS D t e wr pl num nm i) J) (RetI 1 (mm (rdS D t e wr pl num nm (tn t e i)) J)) noT := by
  refine Sp.of (by decide +kernel) (Nat.le_of_ble_eq_true rfl) ?_
  intro X hXl C
  subst hXl
  show Go X G 2 0 0 _ 0 [.ref (G.1 + 66), .ref (G.2.2.2.1 w)] [] (mm (rdS D t e wr pl num nm i) J)
  refine g_aload_n C dX3_takeWord_0 rfl ?_
  refine g_aload_n C dX3_takeWord_1 rfl ?_
  refine gv1I (ci := 3) C dX3_takeWord_2 vwX3_isWord mwX3_109 ⟨by decide, by decide⟩ rfl ly_66 (Nat.le_of_ble_eq_true rfl) (s_isWord hB he he3 hi hw) (Nat.le_of_ble_eq_true rfl) rfl ⟨by decide, by decide⟩ ?_
  rw [wB_1 h]
  refine g_if_ne 14 C dX3_takeWord_5 (by decide) (fun c5 => ?_) (fun c5 => ?_)
  · refine g_aload_n C dX3_takeWord_14 rfl ?_
    refine gv0V (ci := 3) C dX3_takeWord_15 vwX3_advance mwX3_41 ⟨by decide, by decide⟩ rfl ly_66 (Nat.le_of_ble_eq_true rfl) (s_adv hB he he3 hi) (Nat.le_of_ble_eq_true rfl) rfl ⟨by decide, by decide⟩ ?_
    refine g_iconst (v := 1) C dX3_takeWord_18 (by decide) ?_
    exact e_Z C dX3_takeWord_19 rfl rfl rfl (by first | exact Or.inl rfl | exact Or.inr rfl) rfl rfl
  · exact absurd c5 (by decide)
set_option maxHeartbeats 1000000 in
theorem s_takeWord0 {l : Launch} {G : Gm} {D : Nat → Nat → Int32} {J : Nat → Nat → Int64} {t : Nat → Nat} {e : Nat} (hB : byOK D t) (he : D 66 4 = nI e) (he3 : e ≤ 300) {wr pl num nm : Int32} {i : Nat} (hi : i ≤ e) {w : Nat} (hw : w < 11) (h : ¬ isW t e i w) : Sp l G iX3_takeWord [.ref (G.1 + 66), .ref (G.2.2.2.1 w)] (mm (rdS D t e wr pl num nm i) J) (RetI 0 (mm (rdS D t e 1 (nI (tf t e i)) num nm i) J)) noT := by
  refine Sp.of (by decide +kernel) (Nat.le_of_ble_eq_true rfl) ?_
  intro X hXl C
  subst hXl
  show Go X G 2 0 0 _ 0 [.ref (G.1 + 66), .ref (G.2.2.2.1 w)] [] (mm (rdS D t e wr pl num nm i) J)
  refine g_aload_n C dX3_takeWord_0 rfl ?_
  refine g_aload_n C dX3_takeWord_1 rfl ?_
  refine gv1I (ci := 3) C dX3_takeWord_2 vwX3_isWord mwX3_109 ⟨by decide, by decide⟩ rfl ly_66 (Nat.le_of_ble_eq_true rfl) (s_isWord hB he he3 hi hw) (Nat.le_of_ble_eq_true rfl) rfl ⟨by decide, by decide⟩ ?_
  rw [wB_0 h]
  refine g_if_ne 14 C dX3_takeWord_5 (by decide) (fun c5 => ?_) (fun c5 => ?_)
  · exact absurd rfl c5
  · refine g_aload_n C dX3_takeWord_8 rfl ?_
    refine g_iconst (v := 1) C dX3_takeWord_9 (by decide) ?_
    refine gv1I (ci := 3) C dX3_takeWord_10 vwX3_fail mwX3_51 ⟨by decide, by decide⟩ rfl ly_66 (Nat.le_of_ble_eq_true rfl) (s_fail hB he he3 hi _) (Nat.le_of_ble_eq_true rfl) rfl ⟨by decide, by decide⟩ ?_
    exact e_Z C dX3_takeWord_13 rfl rfl rfl (Or.inl rfl) rfl rfl
noncomputable def kdH (t : Nat → Nat) (e i : Nat) : Int32 := if wB t e i 0 = 0 then (if wB t e i 1 = 0 then (if wB t e i 2 = 0 then (if wB t e i 3 = 0 then (if wB t e i 4 = 0 then (if wB t e i 5 = 0 then -1 else 5) else 4) else 3) else 2) else 1) else 0
set_option maxHeartbeats 1000000 in
theorem s_kindHere {l : Launch} {G : Gm} {D : Nat → Nat → Int32} {J : Nat → Nat → Int64} {t : Nat → Nat} {e : Nat} (hB : byOK D t) (he : D 66 4 = nI e) (he3 : e ≤ 300) {wr pl num nm : Int32} {i : Nat} (hi : i ≤ e) : Sp l G iX3_kindHere [.ref (G.1 + 66)] (mm (rdS D t e wr pl num nm i) J) (RetI (kdH t e i) (mm (rdS D t e wr pl num nm i) J)) noT := by
  refine Sp.of (by decide +kernel) (Nat.le_of_ble_eq_true rfl) ?_
  intro X hXl C
  subst hXl
  show Go X G 1 0 0 _ 0 [.ref (G.1 + 66)] [] (mm (rdS D t e wr pl num nm i) J)
  refine g_aload_n C dX3_kindHere_0 rfl ?_
  refine g_ldcS (i := 0) (tx := "get") C dX3_kindHere_1 (by decide +kernel) ?_
  refine gv1I (ci := 3) C dX3_kindHere_3 vwX3_isWord mwX3_109 ⟨by decide, by decide⟩ rfl ly_66 (Nat.le_of_ble_eq_true rfl) (s_isWord hB he he3 hi (w := 0) (by decide)) (Nat.le_of_ble_eq_true rfl) rfl ⟨by decide, by decide⟩ ?_
  refine g_if_eq 11 C dX3_kindHere_6 (by decide) (fun c6 => ?_) (fun c6 => ?_)
  · refine g_aload_n C dX3_kindHere_11 rfl ?_
    refine g_ldcS (i := 1) (tx := "let") C dX3_kindHere_12 (by decide +kernel) ?_
    refine gv1I (ci := 3) C dX3_kindHere_14 vwX3_isWord mwX3_109 ⟨by decide, by decide⟩ rfl ly_66 (Nat.le_of_ble_eq_true rfl) (s_isWord hB he he3 hi (w := 1) (by decide)) (Nat.le_of_ble_eq_true rfl) rfl ⟨by decide, by decide⟩ ?_
    refine g_if_eq 22 C dX3_kindHere_17 (by decide) (fun c17 => ?_) (fun c17 => ?_)
    · refine g_aload_n C dX3_kindHere_22 rfl ?_
      refine g_ldcS (i := 2) (tx := "ask") C dX3_kindHere_23 (by decide +kernel) ?_
      refine gv1I (ci := 3) C dX3_kindHere_25 vwX3_isWord mwX3_109 ⟨by decide, by decide⟩ rfl ly_66 (Nat.le_of_ble_eq_true rfl) (s_isWord hB he he3 hi (w := 2) (by decide)) (Nat.le_of_ble_eq_true rfl) rfl ⟨by decide, by decide⟩ ?_
      refine g_if_eq 33 C dX3_kindHere_28 (by decide) (fun c28 => ?_) (fun c28 => ?_)
      · refine g_aload_n C dX3_kindHere_33 rfl ?_
        refine g_ldcS (i := 3) (tx := "put") C dX3_kindHere_34 (by decide +kernel) ?_
        refine gv1I (ci := 3) C dX3_kindHere_36 vwX3_isWord mwX3_109 ⟨by decide, by decide⟩ rfl ly_66 (Nat.le_of_ble_eq_true rfl) (s_isWord hB he he3 hi (w := 3) (by decide)) (Nat.le_of_ble_eq_true rfl) rfl ⟨by decide, by decide⟩ ?_
        refine g_if_eq 44 C dX3_kindHere_39 (by decide) (fun c39 => ?_) (fun c39 => ?_)
        · refine g_aload_n C dX3_kindHere_44 rfl ?_
          refine g_ldcS (i := 4) (tx := "wash") C dX3_kindHere_45 (by decide +kernel) ?_
          refine gv1I (ci := 3) C dX3_kindHere_47 vwX3_isWord mwX3_109 ⟨by decide, by decide⟩ rfl ly_66 (Nat.le_of_ble_eq_true rfl) (s_isWord hB he he3 hi (w := 4) (by decide)) (Nat.le_of_ble_eq_true rfl) rfl ⟨by decide, by decide⟩ ?_
          refine g_if_eq 55 C dX3_kindHere_50 (by decide) (fun c50 => ?_) (fun c50 => ?_)
          · refine g_aload_n C dX3_kindHere_55 rfl ?_
            refine g_ldcS (i := 5) (tx := "result") C dX3_kindHere_56 (by decide +kernel) ?_
            refine gv1I (ci := 3) C dX3_kindHere_58 vwX3_isWord mwX3_109 ⟨by decide, by decide⟩ rfl ly_66 (Nat.le_of_ble_eq_true rfl) (s_isWord hB he he3 hi (w := 5) (by decide)) (Nat.le_of_ble_eq_true rfl) rfl ⟨by decide, by decide⟩ ?_
            refine g_if_eq 68 C dX3_kindHere_61 (by decide) (fun c61 => ?_) (fun c61 => ?_)
            · refine g_iconst (v := (-1)) C dX3_kindHere_68 (by decide) ?_
              exact e_I C dX3_kindHere_69 rfl rfl rfl (by simp [kdH, *]) rfl
            · refine g_iconst (v := 5) C dX3_kindHere_64 (by decide) ?_
              refine g_goto 69 C dX3_kindHere_65 (by decide) ?_
              exact e_I C dX3_kindHere_69 rfl rfl rfl (by simp [kdH, *]) rfl
          · refine g_iconst (v := 4) C dX3_kindHere_53 (by decide) ?_
            exact e_I C dX3_kindHere_54 rfl rfl rfl (by simp [kdH, *]) rfl
        · refine g_iconst (v := 3) C dX3_kindHere_42 (by decide) ?_
          exact e_I C dX3_kindHere_43 rfl rfl rfl (by simp [kdH, *]) rfl
      · refine g_iconst (v := 2) C dX3_kindHere_31 (by decide) ?_
        exact e_I C dX3_kindHere_32 rfl rfl rfl (by simp [kdH, *]) rfl
    · refine g_iconst (v := 1) C dX3_kindHere_20 (by decide) ?_
      exact e_I C dX3_kindHere_21 rfl rfl rfl (by simp [kdH, *]) rfl
  · refine g_iconst (v := 0) C dX3_kindHere_9 (by decide) ?_
    exact e_I C dX3_kindHere_10 rfl rfl rfl (by simp [kdH, *]) rfl
theorem wv_step {t : Nat → Nat} {f k : Nat} (h : 48 ≤ t (f + k)) : nI (wv0 t f k) * 10 + nI (t (f + k)) - 48 = nI (wv0 t f (k + 1)) := by
  rw [show (10 : Int32) = nI 10 from rfl, show (48 : Int32) = nI 48 from rfl, pk_mul, nI_add, pk_sub (by omega)]
  congr 1
  show _ = wv0 t f k * 10 + (t (f + k) - 48)
  omega
theorem wv_le {t : Nat → Nat} {e i : Nat} (h : tk t e i = 2) : wv t e i < 100 := by
  obtain ⟨h1, h2⟩ := tk_sgn h (by decide)
  obtain ⟨h7, h8⟩ := tk_all h (Or.inr rfl)
  have h3 : tn t e i - tf t e i ≤ 2 := h2
  unfold wv
  rcases (show tn t e i - tf t e i = 1 ∨ tn t e i - tf t e i = 2 by omega) with q | q
  · rw [q]
    have := sgn2 (h8 (tf t e i) (by omega) (by omega))
    show 0 * 10 + (t (tf t e i + 0) - 48) < 100
    rw [Nat.add_zero]; omega
  · rw [q]
    have g1 := sgn2 (h8 (tf t e i) (by omega) (by omega))
    have g2 := sgn2 (h8 (tf t e i + 1) (by omega) (by omega))
    show (0 * 10 + (t (tf t e i + 0) - 48)) * 10 + (t (tf t e i + 1) - 48) < 100
    rw [Nat.add_zero]; omega
set_option maxHeartbeats 1000000 in
theorem s_takeWhole1 {l : Launch} {G : Gm} {D : Nat → Nat → Int32} {J : Nat → Nat → Int64} {t : Nat → Nat} {e : Nat} (hB : byOK D t) (he : D 66 4 = nI e) (he3 : e ≤ 300) {wr pl num nm : Int32} {i : Nat} (hi : i ≤ e) {bd : Nat} (h : ¬ tk t e i = 2) : Sp l G iX3_takeWhole [.ref (G.1 + 66), .int (nI bd)] (mm (rdS D t e wr pl num nm i) J) (RetI 0 (mm (rdS D t e 1 (nI (tf t e i)) num nm i) J)) noT := by
  refine Sp.of (by decide +kernel) (Nat.le_of_ble_eq_true rfl) ?_
  intro X hXl C
  subst hXl
  show Go X G 3 0 0 _ 0 [.ref (G.1 + 66), .int (nI bd), uu] [] (mm (rdS D t e wr pl num nm i) J)
  refine g_aload_n C dX3_takeWhole_0 rfl ?_
  refine g_getIv (ci := 3) (k := 6) (v := nI (tk t e i)) C dX3_takeWhole_1 rfl inGX3 (by decide) fwX3_48 ly_66 (by decide) rfl rd_g6 ?_
  refine g_iconst (v := 2) C dX3_takeWhole_4 (by decide) ?_
  refine g_icmp_eq 14 C dX3_takeWhole_5 (by decide) (fun c5 => ?_) (fun c5 => ?_)
  · exact absurd ((dk (tk_le t e i) (b := 2) (by decide)).mp c5) h
  · refine g_aload_n C dX3_takeWhole_8 rfl ?_
    refine g_iconst (v := 1) C dX3_takeWhole_9 (by decide) ?_
    refine gv1I (ci := 3) C dX3_takeWhole_10 vwX3_fail mwX3_51 ⟨by decide, by decide⟩ rfl ly_66 (Nat.le_of_ble_eq_true rfl) (s_fail hB he he3 hi _) (Nat.le_of_ble_eq_true rfl) rfl ⟨by decide, by decide⟩ ?_
    exact e_Z C dX3_takeWhole_13 rfl rfl rfl (Or.inl rfl) rfl rfl
set_option maxHeartbeats 1000000 in
theorem s_takeWhole3 {l : Launch} {G : Gm} {D : Nat → Nat → Int32} {J : Nat → Nat → Int64} {t : Nat → Nat} {e : Nat} (hB : byOK D t) (he : D 66 4 = nI e) (he3 : e ≤ 300) {wr pl num nm : Int32} {i : Nat} (hi : i ≤ e) {bd : Nat} (hbd : bd < 2 ^ 31) (h : tk t e i = 2) (h2 : bd ≤ wv t e i) : Sp l G iX3_takeWhole [.ref (G.1 + 66), .int (nI bd)] (mm (rdS D t e wr pl num nm i) J) (RetI 0 (mm (rdS D t e 3 (nI (tf t e i)) (nI (wv t e i)) nm i) J)) noT := by
  refine Sp.of (by decide +kernel) (Nat.le_of_ble_eq_true rfl) ?_
  intro X hXl C
  subst hXl
  show Go X G 3 0 0 _ 0 [.ref (G.1 + 66), .int (nI bd), uu] [] (mm (rdS D t e wr pl num nm i) J)
  have hfi := tf_in (t := t) hi
  have hni := tn_in (t := t) hi
  obtain ⟨h7, h8⟩ := tk_all h (Or.inr rfl)
  have hw100 := wv_le h
  have loop : ∀ k : Nat, k ≤ (tn t e i - tf t e i) → Go X G 3 0 0 (KQ X G iX3_takeWhole (RetI 0 (mm (rdS D t e 3 (nI (tf t e i)) (nI (wv t e i)) nm i) J)) noT) 24 [.ref (G.1 + 66), .int (nI bd), .int (nI (tf t e i + k))] [] (mm (rdS D t e wr pl (nI (wv0 t (tf t e i) k)) nm i) J) := by
    refine loopN ((tn t e i - tf t e i)) ?_ ?_
    · skip
      show Go X G 3 0 0 _ 24 _ [] _
      refine g_iload_n C dX3_takeWhole_24 rfl ?_
      refine g_aload_n C dX3_takeWhole_25 rfl ?_
      refine g_getIv (ci := 3) (k := 8) (v := nI (tn t e i)) C dX3_takeWhole_26 rfl inGX3 (by decide) fwX3_38 ly_66 (by decide) rfl rd_g8 ?_
      refine g_icmp_ge 62 C dX3_takeWhole_29 (by decide) (fun c29 => ?_) (fun c29 => ?_)
      · refine g_aload_n C dX3_takeWhole_62 rfl ?_
        refine g_getIv (ci := 3) (k := 9) (v := nI (wv t e i)) C dX3_takeWhole_63 rfl inGX3 (by decide) fwX3_84 ly_66 (by decide) rfl rd_g9 ?_
        refine g_iload_n C dX3_takeWhole_66 rfl ?_
        refine g_icmp_lt 76 C dX3_takeWhole_67 (by decide) (fun c67 => ?_) (fun c67 => ?_)
        · exact absurd (nI_t c67 (by omega) hbd) (by omega)
        · refine g_aload_n C dX3_takeWhole_70 rfl ?_
          refine g_iconst (v := 3) C dX3_takeWhole_71 (by decide) ?_
          refine gv1I (ci := 3) C dX3_takeWhole_72 vwX3_fail mwX3_51 ⟨by decide, by decide⟩ rfl ly_66 (Nat.le_of_ble_eq_true rfl) (s_fail hB he he3 hi _) (Nat.le_of_ble_eq_true rfl) rfl ⟨by decide, by decide⟩ ?_
          exact e_Z C dX3_takeWhole_75 rfl rfl rfl (Or.inl rfl) rfl rfl
      · exact absurd (by rw [show tf t e i + (tn t e i - tf t e i) = tn t e i by omega]; exact Int32.le_refl _) c29
    · intro k hk ih 
      show Go X G 3 0 0 _ 24 _ [] _
      refine g_iload_n C dX3_takeWhole_24 rfl ?_
      refine g_aload_n C dX3_takeWhole_25 rfl ?_
      refine g_getIv (ci := 3) (k := 8) (v := nI (tn t e i)) C dX3_takeWhole_26 rfl inGX3 (by decide) fwX3_38 ly_66 (by decide) rfl rd_g8 ?_
      refine g_icmp_ge 62 C dX3_takeWhole_29 (by decide) (fun c29 => ?_) (fun c29 => ?_)
      · exact absurd (nI_l' c29 (by omega) (by omega)) (by omega)
      · obtain ⟨hb1, hb2⟩ := hB (tf t e i + k) (by omega)
        have g48 := sgn2 (h8 (tf t e i + k) (by omega) (by omega))
        refine g_aload_n C dX3_takeWhole_32 rfl ?_
        refine g_aload_n C dX3_takeWhole_33 rfl ?_
        refine g_getIv (ci := 3) (k := 9) (v := nI (wv0 t (tf t e i) k)) C dX3_takeWhole_34 rfl inGX3 (by decide) fwX3_84 ly_66 (by decide) rfl rd_g9 ?_
        refine g_bipush (v := 10) C dX3_takeWhole_37 (by decide) ?_
        refine g_imul C dX3_takeWhole_39 ?_
        refine g_aload_n C dX3_takeWhole_40 rfl ?_
        refine g_getR (ci := 3) (k := 1) (q := 1) C dX3_takeWhole_41 rfl inGX3 (by decide) fwX3_18 ly_66 (by decide) rfl rfl ?_
        refine g_getR (ci := 6) (k := 0) (q := 2) C dX3_takeWhole_44 rfl inGX6 (by decide) fwX3_103 ly_1 (by decide) rfl rfl ?_
        refine g_iload_n C dX3_takeWhole_47 rfl ?_
        refine g_ialdv (v := nI (t (tf t e i + k))) _ C dX3_takeWhole_48 ly_2 (by decide) (by decide) rfl (by omega) (by rw [rd_off (by decide)]; exact hb1) ?_
        refine g_iadd C dX3_takeWhole_49 ?_
        refine g_bipush (v := 48) C dX3_takeWhole_50 (by decide) ?_
        refine g_isub C dX3_takeWhole_52 ?_
        rw [wv_step g48.2.1]
        refine g_putI (ci := 3) (k := 9) .int C dX3_takeWhole_53 rfl inGX3 tyX3_ok nmX3 (by decide) fwX3_84 ly_66 (by decide) rfl rfl rfl rfl rfl ?_
        rw [rd_9]
        refine g_iinc_2 C dX3_takeWhole_56 (nI_1 _) (by decide) ?_
        refine g_goto 24 C dX3_takeWhole_59 (by decide) ?_
        exact ih
  refine g_aload_n C dX3_takeWhole_0 rfl ?_
  refine g_getIv (ci := 3) (k := 6) (v := nI (tk t e i)) C dX3_takeWhole_1 rfl inGX3 (by decide) fwX3_48 ly_66 (by decide) rfl rd_g6 ?_
  refine g_iconst (v := 2) C dX3_takeWhole_4 (by decide) ?_
  refine g_icmp_eq 14 C dX3_takeWhole_5 (by decide) (fun c5 => ?_) (fun c5 => ?_)
  · refine g_aload_n C dX3_takeWhole_14 rfl ?_
    refine g_iconst (v := 0) C dX3_takeWhole_15 (by decide) ?_
    refine g_putI (ci := 3) (k := 9) .int C dX3_takeWhole_16 rfl inGX3 tyX3_ok nmX3 (by decide) fwX3_84 ly_66 (by decide) rfl rfl rfl rfl rfl ?_
    rw [rd_9]
    refine g_aload_n C dX3_takeWhole_19 rfl ?_
    refine g_getIv (ci := 3) (k := 7) (v := nI (tf t e i)) C dX3_takeWhole_20 rfl inGX3 (by decide) fwX3_101 ly_66 (by decide) rfl rd_g7 ?_
    refine g_istore_2 C dX3_takeWhole_23 (by decide) ?_
    exact loop 0 (Nat.zero_le _)
  · exact absurd (by rw [h]; rfl) c5
set_option maxHeartbeats 1000000 in
theorem s_takeWhole {l : Launch} {G : Gm} {D : Nat → Nat → Int32} {J : Nat → Nat → Int64} {t : Nat → Nat} {e : Nat} (hB : byOK D t) (he : D 66 4 = nI e) (he3 : e ≤ 300) {wr pl num nm : Int32} {i : Nat} (hi : i ≤ e) {bd : Nat} (hbd : bd < 2 ^ 31) (h : tk t e i = 2) (h2 : wv t e i < bd) : Sp l G iX3_takeWhole [.ref (G.1 + 66), .int (nI bd)] (mm (rdS D t e wr pl num nm i) J) (RetI 1 (mm (rdS D t e wr pl (nI (wv t e i)) nm (tn t e i)) J)) noT := by
  refine Sp.of (by decide +kernel) (Nat.le_of_ble_eq_true rfl) ?_
  intro X hXl C
  subst hXl
  show Go X G 3 0 0 _ 0 [.ref (G.1 + 66), .int (nI bd), uu] [] (mm (rdS D t e wr pl num nm i) J)
  have hfi := tf_in (t := t) hi
  have hni := tn_in (t := t) hi
  obtain ⟨h7, h8⟩ := tk_all h (Or.inr rfl)
  have hw100 := wv_le h
  have loop : ∀ k : Nat, k ≤ (tn t e i - tf t e i) → Go X G 3 0 0 (KQ X G iX3_takeWhole (RetI 1 (mm (rdS D t e wr pl (nI (wv t e i)) nm (tn t e i)) J)) noT) 24 [.ref (G.1 + 66), .int (nI bd), .int (nI (tf t e i + k))] [] (mm (rdS D t e wr pl (nI (wv0 t (tf t e i) k)) nm i) J) := by
    refine loopN ((tn t e i - tf t e i)) ?_ ?_
    · skip
      show Go X G 3 0 0 _ 24 _ [] _
      refine g_iload_n C dX3_takeWhole_24 rfl ?_
      refine g_aload_n C dX3_takeWhole_25 rfl ?_
      refine g_getIv (ci := 3) (k := 8) (v := nI (tn t e i)) C dX3_takeWhole_26 rfl inGX3 (by decide) fwX3_38 ly_66 (by decide) rfl rd_g8 ?_
      refine g_icmp_ge 62 C dX3_takeWhole_29 (by decide) (fun c29 => ?_) (fun c29 => ?_)
      · refine g_aload_n C dX3_takeWhole_62 rfl ?_
        refine g_getIv (ci := 3) (k := 9) (v := nI (wv t e i)) C dX3_takeWhole_63 rfl inGX3 (by decide) fwX3_84 ly_66 (by decide) rfl rd_g9 ?_
        refine g_iload_n C dX3_takeWhole_66 rfl ?_
        refine g_icmp_lt 76 C dX3_takeWhole_67 (by decide) (fun c67 => ?_) (fun c67 => ?_)
        · refine g_aload_n C dX3_takeWhole_76 rfl ?_
          refine gv0V (ci := 3) C dX3_takeWhole_77 vwX3_advance mwX3_41 ⟨by decide, by decide⟩ rfl ly_66 (Nat.le_of_ble_eq_true rfl) (s_adv hB he he3 hi) (Nat.le_of_ble_eq_true rfl) rfl ⟨by decide, by decide⟩ ?_
          refine g_iconst (v := 1) C dX3_takeWhole_80 (by decide) ?_
          exact e_Z C dX3_takeWhole_81 rfl rfl rfl (by first | exact Or.inl rfl | exact Or.inr rfl) rfl rfl
        · exact absurd (nI_lt h2 hbd) c67
      · exact absurd (by rw [show tf t e i + (tn t e i - tf t e i) = tn t e i by omega]; exact Int32.le_refl _) c29
    · intro k hk ih 
      show Go X G 3 0 0 _ 24 _ [] _
      refine g_iload_n C dX3_takeWhole_24 rfl ?_
      refine g_aload_n C dX3_takeWhole_25 rfl ?_
      refine g_getIv (ci := 3) (k := 8) (v := nI (tn t e i)) C dX3_takeWhole_26 rfl inGX3 (by decide) fwX3_38 ly_66 (by decide) rfl rd_g8 ?_
      refine g_icmp_ge 62 C dX3_takeWhole_29 (by decide) (fun c29 => ?_) (fun c29 => ?_)
      · exact absurd (nI_l' c29 (by omega) (by omega)) (by omega)
      · obtain ⟨hb1, hb2⟩ := hB (tf t e i + k) (by omega)
        have g48 := sgn2 (h8 (tf t e i + k) (by omega) (by omega))
        refine g_aload_n C dX3_takeWhole_32 rfl ?_
        refine g_aload_n C dX3_takeWhole_33 rfl ?_
        refine g_getIv (ci := 3) (k := 9) (v := nI (wv0 t (tf t e i) k)) C dX3_takeWhole_34 rfl inGX3 (by decide) fwX3_84 ly_66 (by decide) rfl rd_g9 ?_
        refine g_bipush (v := 10) C dX3_takeWhole_37 (by decide) ?_
        refine g_imul C dX3_takeWhole_39 ?_
        refine g_aload_n C dX3_takeWhole_40 rfl ?_
        refine g_getR (ci := 3) (k := 1) (q := 1) C dX3_takeWhole_41 rfl inGX3 (by decide) fwX3_18 ly_66 (by decide) rfl rfl ?_
        refine g_getR (ci := 6) (k := 0) (q := 2) C dX3_takeWhole_44 rfl inGX6 (by decide) fwX3_103 ly_1 (by decide) rfl rfl ?_
        refine g_iload_n C dX3_takeWhole_47 rfl ?_
        refine g_ialdv (v := nI (t (tf t e i + k))) _ C dX3_takeWhole_48 ly_2 (by decide) (by decide) rfl (by omega) (by rw [rd_off (by decide)]; exact hb1) ?_
        refine g_iadd C dX3_takeWhole_49 ?_
        refine g_bipush (v := 48) C dX3_takeWhole_50 (by decide) ?_
        refine g_isub C dX3_takeWhole_52 ?_
        rw [wv_step g48.2.1]
        refine g_putI (ci := 3) (k := 9) .int C dX3_takeWhole_53 rfl inGX3 tyX3_ok nmX3 (by decide) fwX3_84 ly_66 (by decide) rfl rfl rfl rfl rfl ?_
        rw [rd_9]
        refine g_iinc_2 C dX3_takeWhole_56 (nI_1 _) (by decide) ?_
        refine g_goto 24 C dX3_takeWhole_59 (by decide) ?_
        exact ih
  refine g_aload_n C dX3_takeWhole_0 rfl ?_
  refine g_getIv (ci := 3) (k := 6) (v := nI (tk t e i)) C dX3_takeWhole_1 rfl inGX3 (by decide) fwX3_48 ly_66 (by decide) rfl rd_g6 ?_
  refine g_iconst (v := 2) C dX3_takeWhole_4 (by decide) ?_
  refine g_icmp_eq 14 C dX3_takeWhole_5 (by decide) (fun c5 => ?_) (fun c5 => ?_)
  · refine g_aload_n C dX3_takeWhole_14 rfl ?_
    refine g_iconst (v := 0) C dX3_takeWhole_15 (by decide) ?_
    refine g_putI (ci := 3) (k := 9) .int C dX3_takeWhole_16 rfl inGX3 tyX3_ok nmX3 (by decide) fwX3_84 ly_66 (by decide) rfl rfl rfl rfl rfl ?_
    rw [rd_9]
    refine g_aload_n C dX3_takeWhole_19 rfl ?_
    refine g_getIv (ci := 3) (k := 7) (v := nI (tf t e i)) C dX3_takeWhole_20 rfl inGX3 (by decide) fwX3_101 ly_66 (by decide) rfl rd_g7 ?_
    refine g_istore_2 C dX3_takeWhole_23 (by decide) ?_
    exact loop 0 (Nat.zero_le _)
  · exact absurd (by rw [h]; rfl) c5
