/-! ## words of the model -/
def wsI (w : Nat) : Nat → Int64
  | 0 => 0
  | k + 1 => 32 * wsI w k + (stc w k - 97 + 1).toInt64
def scN (w j : Nat) : Nat := (stc w j).toNatClampNeg
theorem stc_N : ∀ w, w < 11 → ∀ j, j < stL.getD w 0 → stc w j = nI (scN w j) ∧ 97 ≤ scN w j ∧ scN w j ≤ 122 := by decide +kernel
theorem wsI_N : ∀ w, w < 11 → wsI w (stL.getD w 0) = lN (wdN (scN w) 0 (stL.getD w 0)) := by decide +kernel
theorem wd_bd {t : Nat → Nat} {f : Nat} : ∀ {c : Nat}, (∀ j, j < c → 97 ≤ t (f + j) ∧ t (f + j) ≤ 122) → wdN t f c < 32 ^ c
  | 0, _ => by simp [wdN]
  | c + 1, h => by
    have := wd_bd (c := c) (fun j hj => h j (by omega))
    have h2 := h c (by omega)
    show 32 * wdN t f c + (t (f + c) - 96) < 32 ^ (c + 1)
    rw [Nat.pow_succ]
    omega
theorem wd_inj {t s : Nat → Nat} {f : Nat} : ∀ {c d : Nat}, (∀ j, j < c → 97 ≤ t (f + j) ∧ t (f + j) ≤ 122) → (∀ j, j < d → 97 ≤ s (0 + j) ∧ s (0 + j) ≤ 122) → wdN t f c = wdN s 0 d → c = d ∧ ∀ j, j < d → t (f + j) = s j
  | 0, 0, _, _, _ => ⟨rfl, fun j hj => absurd hj (Nat.not_lt_zero _)⟩
  | 0, d + 1, _, h2, h => by
    have := h2 d (by omega)
    have h : 0 = 32 * wdN s 0 d + (s (0 + d) - 96) := h
    omega
  | c + 1, 0, h1, _, h => by
    have := h1 c (by omega)
    have h : 32 * wdN t f c + (t (f + c) - 96) = 0 := h
    omega
  | c + 1, d + 1, h1, h2, h => by
    have a1 := h1 c (by omega)
    have a2 := h2 d (by omega)
    have h : 32 * wdN t f c + (t (f + c) - 96) = 32 * wdN s 0 d + (s (0 + d) - 96) := h
    have e1 : wdN t f c = wdN s 0 d := by omega
    have e2 : t (f + c) = s (0 + d) := by omega
    obtain ⟨e3, e4⟩ := wd_inj (c := c) (d := d) (fun j hj => h1 j (by omega)) (fun j hj => h2 j (by omega)) e1
    subst e3
    refine ⟨rfl, fun j hj => ?_⟩
    by_cases hjc : j = c
    · subst hjc; rw [e2, Nat.zero_add]
    · exact e4 j (by omega)
theorem wd_congr {t s : Nat → Nat} {f : Nat} : ∀ {c : Nat}, (∀ j, j < c → t (f + j) = s j) → wdN t f c = wdN s 0 c
  | 0, _ => rfl
  | c + 1, h => by
    show 32 * wdN t f c + (t (f + c) - 96) = 32 * wdN s 0 c + (s (0 + c) - 96)
    rw [wd_congr (c := c) (fun j hj => h j (by omega)), h c (by omega), Nat.zero_add]
theorem word_iff {t : Nat → Nat} {e i w : Nat} (hw : w < 11) (h1 : tk t e i = 1) : lN (wdN t (tf t e i) (tn t e i - tf t e i)) = wsI w (stL.getD w 0) ↔ isW t e i w := by
  obtain ⟨h2, h3⟩ := tk_all h1 (Or.inl rfl)
  have h8 : tn t e i - tf t e i ≤ 8 := (tk_sgn h1 (by decide)).2
  have hl : ∀ j, j < tn t e i - tf t e i → 97 ≤ t (tf t e i + j) ∧ t (tf t e i + j) ≤ 122 := fun j hj => (sgn1 (h3 (tf t e i + j) (by omega) (by omega))).2
  have hs : ∀ j, j < stL.getD w 0 → 97 ≤ scN w (0 + j) ∧ scN w (0 + j) ≤ 122 := fun j hj => by rw [Nat.zero_add]; exact (stc_N w hw j hj).2
  have b1 := wd_bd hl
  have b2 := wd_bd hs
  have l6 := stL_le w hw
  have p1 : 32 ^ (tn t e i - tf t e i) ≤ 32 ^ 8 := Nat.pow_le_pow_right (by decide) h8
  have p2 : 32 ^ (stL.getD w 0) ≤ 32 ^ 8 := Nat.pow_le_pow_right (by decide) (by omega)
  have p3 : (32 : Nat) ^ 8 < 2 ^ 63 := by decide
  rw [wsI_N w hw, pk_lEQ (by omega) (by omega)]
  constructor
  · intro h
    obtain ⟨e1, e2⟩ := wd_inj hl hs h
    exact ⟨h1, e1, fun j hj => by rw [e2 j hj, (stc_N w hw j hj).1]⟩
  · rintro ⟨-, e1, e2⟩
    rw [e1]
    apply wd_congr
    intro j hj
    have := e2 j hj
    rw [(stc_N w hw j hj).1] at this
    exact (nI_eq (by have := hl j (by omega); omega) (by have := (stc_N w hw j hj).2; omega)).mp this
set_option maxHeartbeats 1000000 in
theorem s_wordOf {l : Launch} {G : Gm} {M : Mm} {w : Nat} (hw : w < 11) : Sp l G iX10_wordOf [.ref (G.2.2.2.1 w)] (M) (fun v M2 => v = some (.long (wsI w (stL.getD w 0))) ∧ M2 = M) noT := by
  refine Sp.of (by decide +kernel) (Nat.le_of_ble_eq_true rfl) ?_
  intro X hXl C
  subst hXl
  show Go X G 4 0 0 _ 0 [.ref (G.2.2.2.1 w), uu, uu, uu] [] (M)
  have loop : ∀ j : Nat, j ≤ stL.getD w 0 → Go X G 4 0 0 (KQ X G iX10_wordOf (fun v M2 => v = some (.long (wsI w (stL.getD w 0))) ∧ M2 = M) noT) 4 [.ref (G.2.2.2.1 w), .long (wsI w j), uu, .int (nI j)] [] (M) := by
    refine loopN (stL.getD w 0) ?_ ?_
    · skip
      show Go X G 4 0 0 _ 4 _ [] _
      refine g_iload_n C dX10_wordOf_4 rfl ?_
      refine g_aload_n C dX10_wordOf_5 rfl ?_
      refine gk0I C dX10_wordOf_6 vwJ0_length_8abf5 mwX10_121 ⟨by decide, by decide⟩ rfl hw (s_strLen hw) (Nat.le_of_ble_eq_true rfl) rfl ⟨by decide, by decide⟩ ?_
      refine g_icmp_ge 36 C dX10_wordOf_9 (by decide) (fun c9 => ?_) (fun c9 => ?_)
      · refine g_lload_n C dX10_wordOf_36 rfl ?_
        exact g_lret C dX10_wordOf_37 rfl rfl rfl ⟨rfl, rfl⟩
      · exact absurd (Int32.le_refl _) c9
    · intro j hj ihj 
      show Go X G 4 0 0 _ 4 _ [] _
      refine g_iload_n C dX10_wordOf_4 rfl ?_
      refine g_aload_n C dX10_wordOf_5 rfl ?_
      refine gk0I C dX10_wordOf_6 vwJ0_length_8abf5 mwX10_121 ⟨by decide, by decide⟩ rfl hw (s_strLen hw) (Nat.le_of_ble_eq_true rfl) rfl ⟨by decide, by decide⟩ ?_
      refine g_icmp_ge 36 C dX10_wordOf_9 (by decide) (fun c9 => ?_) (fun c9 => ?_)
      · exact (nI_ge_dead (n := stL.getD w 0) c9 hj (by have := stL_le w hw; omega)).elim
      · refine g_ldc2 (v := 32) C dX10_wordOf_12 kwX10_127 ?_
        refine g_lload_n C dX10_wordOf_15 rfl ?_
        refine g_lmul C dX10_wordOf_16 ?_
        refine g_aload_n C dX10_wordOf_17 rfl ?_
        refine g_iload_n C dX10_wordOf_18 rfl ?_
        refine gk1I C dX10_wordOf_19 vwJ0_charAt_5068e mwX10_129 ⟨by decide, by decide⟩ rfl hw (s_charAt hw hj) (Nat.le_of_ble_eq_true rfl) rfl ⟨by decide, by decide⟩ ?_
        refine g_bipush (v := 97) C dX10_wordOf_22 (by decide) ?_
        refine g_isub C dX10_wordOf_24 ?_
        refine g_iconst (v := 1) C dX10_wordOf_25 (by decide) ?_
        refine g_iadd C dX10_wordOf_26 ?_
        refine g_i2l C dX10_wordOf_27 ?_
        refine g_ladd C dX10_wordOf_28 ?_
        refine g_lstore_1 C dX10_wordOf_29 (by decide) ?_
        refine g_iinc_3 C dX10_wordOf_30 (nI_1 j) (by decide) ?_
        refine g_goto 4 C dX10_wordOf_33 (by decide) ?_
        exact ihj
  refine g_lconst (v := 0) C dX10_wordOf_0 rfl ?_
  refine g_lstore_1 C dX10_wordOf_1 (by decide) ?_
  refine g_iconst (v := 0) C dX10_wordOf_2 (by decide) ?_
  refine g_istore_3 C dX10_wordOf_3 (by decide) ?_
  exact loop 0 (Nat.zero_le _)
theorem mso_2 {k : Nat} (h : k ≤ 5) : nI (mso k) = 2 ↔ k = 1 := by
  rcases (show k = 0 ∨ k = 1 ∨ k = 2 ∨ k = 3 ∨ k = 4 ∨ k = 5 by omega) with rfl | rfl | rfl | rfl | rfl | rfl <;> decide
theorem mso_3 {k : Nat} (h : k ≤ 5) : nI (mso k) = 3 ↔ k = 2 := by
  rcases (show k = 0 ∨ k = 1 ∨ k = 2 ∨ k = 3 ∨ k = 4 ∨ k = 5 by omega) with rfl | rfl | rfl | rfl | rfl | rfl <;> decide
theorem mso_1 {k : Nat} (h : k ≤ 5) : nI (mso k) = 1 ↔ k = 0 := by
  rcases (show k = 0 ∨ k = 1 ∨ k = 2 ∨ k = 3 ∨ k = 4 ∨ k = 5 by omega) with rfl | rfl | rfl | rfl | rfl | rfl <;> decide
theorem msg_44 {k : Nat} (h : k ≤ 5) : (nI (mso k) = 4 ∧ nI (msg k) = 44) ↔ k = 3 := by
  rcases (show k = 0 ∨ k = 1 ∨ k = 2 ∨ k = 3 ∨ k = 4 ∨ k = 5 by omega) with rfl | rfl | rfl | rfl | rfl | rfl <;> decide
theorem msg_59 {k : Nat} (h : k ≤ 5) : (nI (mso k) = 4 ∧ nI (msg k) = 59) ↔ k = 4 := by
  rcases (show k = 0 ∨ k = 1 ∨ k = 2 ∨ k = 3 ∨ k = 4 ∨ k = 5 by omega) with rfl | rfl | rfl | rfl | rfl | rfl <;> decide
theorem mat_tn {t : Nat → Nat} {e i : Nat} (h : ¬ tk t e i = 5) : mat t e i = tn t e i := by
  unfold mat
  split
  · next q => exact absurd (nx5 rfl q).2 h
  · rfl
/-- the model stands at the token behind i -/
def MS (D : Nat → Nat → Int32) (J : Nat → Nat → Int64) (t : Nat → Nat) (e i : Nat) : Mm → Prop := fun M => ∃ v x, nxK t e i v x ∧ M = mm (mrS D t e i v) (upJ J 103 22 x)
/-- it has been stopped -/
def TS (J : Nat → Nat → Int64) (R : (Nat → Nat → Int32) → Prop) (t : Nat → Nat) (e : Nat) (er : Er) : Mm → Prop := fun M => ∃ D v x i, R D ∧ M = mm (up1 (up1 (mrS D t e i v) 112 0 (nI er.1)) 112 1 (nI er.2)) (upJ J 103 22 x)
def rdOK (D : Nat → Nat → Int32) (t : Nat → Nat) (e : Nat) : Prop := byM D t ∧ D 103 16 = nI e ∧ e ≤ 300
theorem s_nextM {l : Launch} {G : Gm} {D : Nat → Nat → Int32} {J : Nat → Nat → Int64} {t : Nat → Nat} {e i : Nat} (hD : rdOK D t e) (hi : mat t e i ≤ e) {v : Int32} {x : Int64} : Sp l G iX10_next [.ref (G.1 + 103)] (mm (mrS D t e i v) (upJ J 103 22 x)) (fun r M' => r = none ∧ MS D J t e (mat t e i) M') noT := by
  refine Sp.mono (s_next hD.1 hD.2.1 hD.2.2 hi) ?_
  rintro r M' ⟨h1, v', x', h2, h3⟩
  refine ⟨h1, v', x', h2, ?_⟩
  rw [h3, upJ_upJ]
theorem mat_le {t : Nat → Nat} {e i : Nat} (h : i ≤ e) : mat t e i ≤ e := by
  unfold mat
  split
  · exact (tf_in h).2
  · exact tn_le h
set_option maxHeartbeats 1000000 in
theorem s_misWord {l : Launch} {G : Gm} {D : Nat → Nat → Int32} {J : Nat → Nat → Int64} {t : Nat → Nat} {e i : Nat} (hD : rdOK D t e) (hi : i ≤ e) {v : Int32} {x : Int64} (hk : nxK t e i v x) {w : Nat} (hw : w < 11) : Sp l G iX10_isWord [.ref (G.1 + 103), .ref (G.2.2.2.1 w)] (mm (mrS D t e i v) (upJ J 103 22 x)) (RetI (wB t e i w) (mm (mrS D t e i v) (upJ J 103 22 x))) noT := by
  refine Sp.of (by decide +kernel) (Nat.le_of_ble_eq_true rfl) ?_
  intro X hXl C
  subst hXl
  show Go X G 2 0 0 _ 0 [.ref (G.1 + 103), .ref (G.2.2.2.1 w)] [] (mm (mrS D t e i v) (upJ J 103 22 x))
  refine g_aload_n C dX10_isWord_0 rfl ?_
  refine g_getIv (ci := 10) (k := 18) (v := nI (mso (tk t e i))) C dX10_isWord_1 rfl inGX10 (by decide) fwX10_139 ly_103 (by decide) rfl mx_18 ?_
  refine g_iconst (v := 2) C dX10_isWord_4 (by decide) ?_
  refine g_icmp_ne 24 C dX10_isWord_5 (by decide) (fun c5 => ?_) (fun c5 => ?_)
  · have g5 : ¬ tk t e i = 1 := fun q => c5 ((mso_2 (tk_le t e i)).mpr q)
    refine g_iconst (v := 0) C dX10_isWord_24 (by decide) ?_
    exact e_Z C dX10_isWord_25 rfl rfl rfl (by first | exact Or.inl rfl | exact Or.inr rfl) (by first | exact (wB_1 g17).symm | exact (wB_0 g17).symm | exact (wB_0 (fun q => g5 q.1)).symm) rfl
  · have g5 : tk t e i = 1 := (mso_2 (tk_le t e i)).mp c5
    refine g_aload_n C dX10_isWord_8 rfl ?_
    refine g_getL (ci := 10) (k := 22) C dX10_isWord_9 rfl inGX10 (by decide) fwX10_148 ly_103 (by decide) rfl ?_
    refine g_aload_n C dX10_isWord_12 rfl ?_
    refine gs1 (M1 := mm D J) C dX10_isWord_13 swX10_wordOf mwX10_158 ⟨by decide, by decide⟩ (s_wordOf hw) (Nat.le_of_ble_eq_true rfl) rfl ⟨by decide, by decide⟩ (fun z M2 hP => ?_)
    obtain ⟨rfl, rfl⟩ := hP
    show Go X G 2 _ _ _ _ _ (.long (wsI w (stL.getD w 0)) :: .long (upJ J 103 22 x 103 22) :: []) _
    rw [upJ_same, hk.2 g5]
    refine g_lcmp C dX10_isWord_16 ?_
    refine g_if_ne 24 C dX10_isWord_17 (by decide) (fun c17 => ?_) (fun c17 => ?_)
    · have g17 : ¬ isW t e i w := fun q => c17 (cmp_eq.mpr ((word_iff hw g5).mpr q))
      refine g_iconst (v := 0) C dX10_isWord_24 (by decide) ?_
      exact e_Z C dX10_isWord_25 rfl rfl rfl (by first | exact Or.inl rfl | exact Or.inr rfl) (by first | exact (wB_1 g17).symm | exact (wB_0 g17).symm | exact (wB_0 (fun q => g5 q.1)).symm) rfl
    · have g17 : isW t e i w := (word_iff hw g5).mp (cmp_eq.mp c17)
      refine g_iconst (v := 1) C dX10_isWord_20 (by decide) ?_
      refine g_goto 25 C dX10_isWord_21 (by decide) ?_
      exact e_Z C dX10_isWord_25 rfl rfl rfl (by first | exact Or.inl rfl | exact Or.inr rfl) (by first | exact (wB_1 g17).symm | exact (wB_0 g17).symm | exact (wB_0 (fun q => g5 q.1)).symm) rfl
set_option maxHeartbeats 1000000 in
theorem s_is44 {l : Launch} {G : Gm} {D : Nat → Nat → Int32} {J : Nat → Nat → Int64} {t : Nat → Nat} {e i : Nat} (hD : rdOK D t e) (hi : i ≤ e) {v : Int32} {x : Int64} (hk : nxK t e i v x) : Sp l G iX10_is [.ref (G.1 + 103), .int 44] (mm (mrS D t e i v) (upJ J 103 22 x)) (RetI (if tk t e i = 3 then 1 else 0) (mm (mrS D t e i v) (upJ J 103 22 x))) noT := by
  refine Sp.of (by decide +kernel) (Nat.le_of_ble_eq_true rfl) ?_
  intro X hXl C
  subst hXl
  show Go X G 2 0 0 _ 0 [.ref (G.1 + 103), .int 44] [] (mm (mrS D t e i v) (upJ J 103 22 x))
  refine g_aload_n C dX10_is_0 rfl ?_
  refine g_getIv (ci := 10) (k := 18) (v := nI (mso (tk t e i))) C dX10_is_1 rfl inGX10 (by decide) fwX10_139 ly_103 (by decide) rfl mx_18 ?_
  refine g_iconst (v := 4) C dX10_is_4 (by decide) ?_
  refine g_icmp_ne 20 C dX10_is_5 (by decide) (fun c5 => ?_) (fun c5 => ?_)
  · skip
    refine g_iconst (v := 0) C dX10_is_20 (by decide) ?_
    exact e_Z C dX10_is_21 rfl rfl rfl (by first | exact Or.inl rfl | exact Or.inr rfl) (by first | exact (if_pos ((msg_44 (tk_le t e i)).mp ⟨c5, c13⟩)).symm | exact (if_neg (fun q => c13 ((msg_44 (tk_le t e i)).mpr q).2)).symm | exact (if_neg (fun q => c5 ((msg_44 (tk_le t e i)).mpr q).1)).symm) rfl
  · skip
    refine g_aload_n C dX10_is_8 rfl ?_
    refine g_getIv (ci := 10) (k := 20) (v := nI (msg (tk t e i))) C dX10_is_9 rfl inGX10 (by decide) fwX10_142 ly_103 (by decide) rfl mx_20 ?_
    refine g_iload_n C dX10_is_12 rfl ?_
    refine g_icmp_ne 20 C dX10_is_13 (by decide) (fun c13 => ?_) (fun c13 => ?_)
    · refine g_iconst (v := 0) C dX10_is_20 (by decide) ?_
      exact e_Z C dX10_is_21 rfl rfl rfl (by first | exact Or.inl rfl | exact Or.inr rfl) (by first | exact (if_pos ((msg_44 (tk_le t e i)).mp ⟨c5, c13⟩)).symm | exact (if_neg (fun q => c13 ((msg_44 (tk_le t e i)).mpr q).2)).symm | exact (if_neg (fun q => c5 ((msg_44 (tk_le t e i)).mpr q).1)).symm) rfl
    · refine g_iconst (v := 1) C dX10_is_16 (by decide) ?_
      refine g_goto 21 C dX10_is_17 (by decide) ?_
      exact e_Z C dX10_is_21 rfl rfl rfl (by first | exact Or.inl rfl | exact Or.inr rfl) (by first | exact (if_pos ((msg_44 (tk_le t e i)).mp ⟨c5, c13⟩)).symm | exact (if_neg (fun q => c13 ((msg_44 (tk_le t e i)).mpr q).2)).symm | exact (if_neg (fun q => c5 ((msg_44 (tk_le t e i)).mpr q).1)).symm) rfl
set_option maxHeartbeats 1000000 in
theorem s_is59 {l : Launch} {G : Gm} {D : Nat → Nat → Int32} {J : Nat → Nat → Int64} {t : Nat → Nat} {e i : Nat} (hD : rdOK D t e) (hi : i ≤ e) {v : Int32} {x : Int64} (hk : nxK t e i v x) : Sp l G iX10_is [.ref (G.1 + 103), .int 59] (mm (mrS D t e i v) (upJ J 103 22 x)) (RetI (if tk t e i = 4 then 1 else 0) (mm (mrS D t e i v) (upJ J 103 22 x))) noT := by
  refine Sp.of (by decide +kernel) (Nat.le_of_ble_eq_true rfl) ?_
  intro X hXl C
  subst hXl
  show Go X G 2 0 0 _ 0 [.ref (G.1 + 103), .int 59] [] (mm (mrS D t e i v) (upJ J 103 22 x))
  refine g_aload_n C dX10_is_0 rfl ?_
  refine g_getIv (ci := 10) (k := 18) (v := nI (mso (tk t e i))) C dX10_is_1 rfl inGX10 (by decide) fwX10_139 ly_103 (by decide) rfl mx_18 ?_
  refine g_iconst (v := 4) C dX10_is_4 (by decide) ?_
  refine g_icmp_ne 20 C dX10_is_5 (by decide) (fun c5 => ?_) (fun c5 => ?_)
  · skip
    refine g_iconst (v := 0) C dX10_is_20 (by decide) ?_
    exact e_Z C dX10_is_21 rfl rfl rfl (by first | exact Or.inl rfl | exact Or.inr rfl) (by first | exact (if_pos ((msg_59 (tk_le t e i)).mp ⟨c5, c13⟩)).symm | exact (if_neg (fun q => c13 ((msg_59 (tk_le t e i)).mpr q).2)).symm | exact (if_neg (fun q => c5 ((msg_59 (tk_le t e i)).mpr q).1)).symm) rfl
  · skip
    refine g_aload_n C dX10_is_8 rfl ?_
    refine g_getIv (ci := 10) (k := 20) (v := nI (msg (tk t e i))) C dX10_is_9 rfl inGX10 (by decide) fwX10_142 ly_103 (by decide) rfl mx_20 ?_
    refine g_iload_n C dX10_is_12 rfl ?_
    refine g_icmp_ne 20 C dX10_is_13 (by decide) (fun c13 => ?_) (fun c13 => ?_)
    · refine g_iconst (v := 0) C dX10_is_20 (by decide) ?_
      exact e_Z C dX10_is_21 rfl rfl rfl (by first | exact Or.inl rfl | exact Or.inr rfl) (by first | exact (if_pos ((msg_59 (tk_le t e i)).mp ⟨c5, c13⟩)).symm | exact (if_neg (fun q => c13 ((msg_59 (tk_le t e i)).mpr q).2)).symm | exact (if_neg (fun q => c5 ((msg_59 (tk_le t e i)).mpr q).1)).symm) rfl
    · refine g_iconst (v := 1) C dX10_is_16 (by decide) ?_
      refine g_goto 21 C dX10_is_17 (by decide) ?_
      exact e_Z C dX10_is_21 rfl rfl rfl (by first | exact Or.inl rfl | exact Or.inr rfl) (by first | exact (if_pos ((msg_59 (tk_le t e i)).mp ⟨c5, c13⟩)).symm | exact (if_neg (fun q => c13 ((msg_59 (tk_le t e i)).mpr q).2)).symm | exact (if_neg (fun q => c5 ((msg_59 (tk_le t e i)).mpr q).1)).symm) rfl
set_option maxHeartbeats 2000000 in
theorem s_nwO {l : Launch} {G : Gm} {D : Nat → Nat → Int32} {J : Nat → Nat → Int64} {t : Nat → Nat} {e i : Nat} (hD : rdOK D t e) (hi : i ≤ e) {v : Int32} {x : Int64} (hk : nxK t e i v x) {w : Nat} (hw : w < 11) {j : Nat} (h : pWord t e i w = .ok j) : Sp l G iX10_needWord [.ref (G.1 + 103), .ref (G.2.2.2.1 w)] (mm (mrS D t e i v) (upJ J 103 22 x)) (fun z M2 => z = none ∧ MS D J t e j M2) (noT) := by
  refine Sp.ofT (by decide +kernel) (Nat.le_of_ble_eq_true rfl) ?_
  intro X hXl C ht
  subst hXl
  show Go X G 2 0 0 _ 0 [.ref (G.1 + 103), .ref (G.2.2.2.1 w)] [] (mm (mrS D t e i v) (upJ J 103 22 x))
  obtain ⟨h0, rfl⟩ := pWord_ok h
  refine g_aload_n C dX10_needWord_0 rfl ?_
  refine g_aload_n C dX10_needWord_1 rfl ?_
  refine gv1I (ci := 10) C dX10_needWord_2 vwX10_isWord mwX10_162 ⟨by decide, by decide⟩ rfl ly_103 (Nat.le_of_ble_eq_true rfl) (s_misWord hD hi hk hw) (Nat.le_of_ble_eq_true rfl) rfl ⟨by decide, by decide⟩ ?_
  rw [wB_1 h0]
  refine g_if_ne 14 C dX10_needWord_5 (by decide) (fun c5 => ?_) (fun c5 => ?_)
  · refine g_aload_n C dX10_needWord_14 rfl ?_
    refine gv0 (ci := 10) (M1 := mm D J) C dX10_needWord_15 vwX10_next mwX10_169 ⟨by decide, by decide⟩ rfl ly_103 (Nat.le_of_ble_eq_true rfl) (s_nextM hD (mat_le hi)) (Nat.le_of_ble_eq_true rfl) rfl ⟨by decide, by decide⟩ (fun z M2 hP => ?_)
    obtain ⟨rfl, hM⟩ := hP
    exact g_vret C dX10_needWord_18 rfl rfl rfl ⟨rfl, by rw [← mat_tn (by rw [h0.1]; decide)]; exact hM⟩
  · first | exact absurd c5 (by decide) | exact absurd (by decide) c5 | exact absurd rfl c5
set_option maxHeartbeats 2000000 in
theorem s_nwE {l : Launch} {G : Gm} {D : Nat → Nat → Int32} {J : Nat → Nat → Int64} {t : Nat → Nat} {e i : Nat} (hD : rdOK D t e) (hi : i ≤ e) {v : Int32} {x : Int64} (hk : nxK t e i v x) {w : Nat} (hw : w < 11) {er : Er} (h : pWord t e i w = .error er) : Sp l G iX10_needWord [.ref (G.1 + 103), .ref (G.2.2.2.1 w)] (mm (mrS D t e i v) (upJ J 103 22 x)) (fun _ _ => False) (TS J (fun D2 => D2 = D) t e er) := by
  refine Sp.ofT (by decide +kernel) (Nat.le_of_ble_eq_true rfl) ?_
  intro X hXl C ht
  subst hXl
  show Go X G 2 0 0 _ 0 [.ref (G.1 + 103), .ref (G.2.2.2.1 w)] [] (mm (mrS D t e i v) (upJ J 103 22 x))
  obtain ⟨h0, rfl⟩ := pWord_er h
  refine g_aload_n C dX10_needWord_0 rfl ?_
  refine g_aload_n C dX10_needWord_1 rfl ?_
  refine gv1I (ci := 10) C dX10_needWord_2 vwX10_isWord mwX10_162 ⟨by decide, by decide⟩ rfl ly_103 (Nat.le_of_ble_eq_true rfl) (s_misWord hD hi hk hw) (Nat.le_of_ble_eq_true rfl) rfl ⟨by decide, by decide⟩ ?_
  rw [wB_0 h0]
  refine g_if_ne 14 C dX10_needWord_5 (by decide) (fun c5 => ?_) (fun c5 => ?_)
  · first | exact absurd c5 (by decide) | exact absurd (by decide) c5 | exact absurd rfl c5
  · refine g_aload_n C dX10_needWord_8 rfl ?_
    refine g_iconst (v := 1) C dX10_needWord_9 (by decide) ?_
    refine gv1 (ci := 10) (M1 := mm D J) C dX10_needWord_10 vwX10_stop mwX10_166 ⟨by decide, by decide⟩ rfl ly_103 (Nat.le_of_ble_eq_true rfl) (s_stop) (Nat.le_of_ble_eq_true rfl) rfl ⟨by decide, by decide⟩ (fun z M2 hP => ?_)
    obtain ⟨rfl, rfl⟩ := hP
    exact g_athrow C dX10_needWord_13 ht rfl rfl ⟨D, v, x, i, rfl, rfl⟩
theorem nm_code {t : Nat → Nat} {e i : Nat} (h1 : tk t e i = 1) : (1 ≤ wdN t (tf t e i) (tn t e i - tf t e i) ∧ wdN t (tf t e i) (tn t e i - tf t e i) < 32 ^ 8) ∧ (wdN t (tf t e i) (tn t e i - tf t e i) ≤ 8 ↔ nmC t e i = 0) ∧ (nmC t e i = 0 → wdN t (tf t e i) (tn t e i - tf t e i) = t (tf t e i) - 97 + 1) := by
  obtain ⟨h2, h3⟩ := tk_all h1 (Or.inl rfl)
  have h8 : tn t e i - tf t e i ≤ 8 := (tk_sgn h1 (by decide)).2
  have hl : ∀ j, j < tn t e i - tf t e i → 97 ≤ t (tf t e i + j) ∧ t (tf t e i + j) ≤ 122 := fun j hj => (sgn1 (h3 (tf t e i + j) (by omega) (by omega))).2
  have b1 := wd_bd hl
  have p1 : 32 ^ (tn t e i - tf t e i) ≤ 32 ^ 8 := Nat.pow_le_pow_right (by decide) h8
  have h10 : 1 ≤ tn t e i - tf t e i := by omega
  unfold nmC
  rw [if_pos h1]
  generalize tn t e i - tf t e i = L at *
  cases L with
  | zero => omega
  | succ c =>
  have hw : wdN t (tf t e i) (c + 1) = 32 * wdN t (tf t e i) c + (t (tf t e i + c) - 96) := rfl
  have hlc := hl c (by omega)
  cases c with
  | zero =>
    have hw : wdN t (tf t e i) (0 + 1) = t (tf t e i) - 96 := by rw [hw]; simp [wdN]
    have hlc : 97 ≤ t (tf t e i) ∧ t (tf t e i) ≤ 122 := hlc
    rw [hw]
    by_cases h : t (tf t e i) < 105
    · rw [if_pos ⟨rfl, h⟩]; refine ⟨by omega, by omega, fun _ => by omega⟩
    · rw [if_neg (fun q => h q.2)]; refine ⟨by omega, by omega, fun q => by omega⟩
  | succ c =>
    have h9 : 1 ≤ wdN t (tf t e i) (c + 1) := by
      have := hl c (by omega)
      show 1 ≤ 32 * wdN t (tf t e i) c + (t (tf t e i + c) - 96)
      omega
    rw [if_neg (fun q => by omega)]
    refine ⟨by omega, by omega, fun q => by omega⟩
theorem nm_1 {t : Nat → Nat} {e i : Nat} (h : nmC t e i = 0) : tk t e i = 1 := (nm_ok h).1
theorem nm_2 {t : Nat → Nat} {e i : Nat} (h1 : tk t e i = 1) (h : ¬ nmC t e i = 0) : nmC t e i = 2 := by
  unfold nmC at h ⊢
  rw [if_pos h1] at h ⊢
  split at h
  · exact absurd rfl h
  · next q => rw [if_neg q]
theorem nm_3 {t : Nat → Nat} {e i : Nat} (h1 : ¬ tk t e i = 1) : nmC t e i = 1 := if_neg h1
set_option maxHeartbeats 1000000 in
theorem s_nhO {l : Launch} {G : Gm} {D : Nat → Nat → Int32} {J : Nat → Nat → Int64} {t : Nat → Nat} {e i : Nat} (hD : rdOK D t e) (hi : i ≤ e) {v : Int32} {x : Int64} (hk : nxK t e i v x) (h0 : nmC t e i = 0) : Sp l G iX10_nameHere [.ref (G.1 + 103)] (mm (mrS D t e i v) (upJ J 103 22 x)) (RetI (nI (t (tf t e i) - 97)) (mm (mrS D t e i v) (upJ J 103 22 x))) noT := by
  refine Sp.of (by decide +kernel) (Nat.le_of_ble_eq_true rfl) ?_
  intro X hXl C
  subst hXl
  show Go X G 1 0 0 _ 0 [.ref (G.1 + 103)] [] (mm (mrS D t e i v) (upJ J 103 22 x))
  have h1 := nm_1 h0
  have hx := hk.2 h1
  subst hx
  obtain ⟨⟨n1, n2⟩, n3, n4⟩ := nm_code h1
  have n5 : (32 : Nat) ^ 8 < 2 ^ 63 := by decide
  refine g_aload_n C dX10_nameHere_0 rfl ?_
  refine g_getIv (ci := 10) (k := 18) (v := nI (mso (tk t e i))) C dX10_nameHere_1 rfl inGX10 (by decide) fwX10_139 ly_103 (by decide) rfl mx_18 ?_
  refine g_iconst (v := 2) C dX10_nameHere_4 (by decide) ?_
  refine g_icmp_eq 14 C dX10_nameHere_5 (by decide) (fun c5 => ?_) (fun c5 => ?_)
  · refine g_aload_n C dX10_nameHere_14 rfl ?_
    refine g_getL (ci := 10) (k := 22) C dX10_nameHere_15 rfl inGX10 (by decide) fwX10_148 ly_103 (by decide) rfl ?_
    refine g_lconst (v := 1) C dX10_nameHere_18 rfl ?_
    show Go X G 1 _ _ _ _ _ (.long _ :: .long (upJ J 103 22 _ 103 22) :: []) _
    rw [upJ_same]
    refine g_lcmp C dX10_nameHere_19 ?_
    refine g_if_lt 34 C dX10_nameHere_20 (by decide) (fun c20 => ?_) (fun c20 => ?_)
    · exact absurd ((pk_lLT (b := 1) (by omega) (by decide)).mp (cmp_lt.mp c20)) (by omega)
    · refine g_aload_n C dX10_nameHere_23 rfl ?_
      refine g_getL (ci := 10) (k := 22) C dX10_nameHere_24 rfl inGX10 (by decide) fwX10_148 ly_103 (by decide) rfl ?_
      refine g_ldc2 (v := 8) C dX10_nameHere_27 kwX10_172 ?_
      show Go X G 1 _ _ _ _ _ (.long _ :: .long (upJ J 103 22 _ 103 22) :: []) _
      rw [upJ_same]
      refine g_lcmp C dX10_nameHere_30 ?_
      refine g_if_le 40 C dX10_nameHere_31 (by decide) (fun c31 => ?_) (fun c31 => ?_)
      · refine g_aload_n C dX10_nameHere_40 rfl ?_
        refine g_getL (ci := 10) (k := 22) C dX10_nameHere_41 rfl inGX10 (by decide) fwX10_148 ly_103 (by decide) rfl ?_
        show Go X G 1 _ _ _ _ _ (.long (upJ J 103 22 _ 103 22) :: []) _
        rw [upJ_same]
        refine g_l2i C dX10_nameHere_44 ?_
        rw [lN_i, n4 h0]
        refine g_iconst (v := 1) C dX10_nameHere_45 (by decide) ?_
        refine g_isub C dX10_nameHere_46 ?_
        exact e_I C dX10_nameHere_47 rfl rfl rfl (nI_pred _) rfl
      · exact absurd ((pk_lLT (a := 8) (by decide) (by omega)).mp (cmp_gt.mp (Int32.not_le.mp c31))) (by have := n3.mpr h0; omega)
  · exact absurd ((mso_2 (tk_le t e i)).mpr h1) c5
set_option maxHeartbeats 2000000 in
theorem s_nhE {l : Launch} {G : Gm} {D : Nat → Nat → Int32} {J : Nat → Nat → Int64} {t : Nat → Nat} {e i : Nat} (hD : rdOK D t e) (hi : i ≤ e) {v : Int32} {x : Int64} (hk : nxK t e i v x) (h0 : ¬ nmC t e i = 0) : Sp l G iX10_nameHere [.ref (G.1 + 103)] (mm (mrS D t e i v) (upJ J 103 22 x)) (fun _ _ => False) (TS J (fun D2 => D2 = D) t e (nmC t e i, tf t e i)) := by
  refine Sp.ofT (by decide +kernel) (Nat.le_of_ble_eq_true rfl) ?_
  intro X hXl C ht
  subst hXl
  show Go X G 1 0 0 _ 0 [.ref (G.1 + 103)] [] (mm (mrS D t e i v) (upJ J 103 22 x))
  by_cases h1 : tk t e i = 1
  · have hx := hk.2 h1
    subst hx
    obtain ⟨⟨n1, n2⟩, n3, n4⟩ := nm_code h1
    have n5 : (32 : Nat) ^ 8 < 2 ^ 63 := by decide
    have n6 := nm_2 h1 h0
    refine g_aload_n C dX10_nameHere_0 rfl ?_
    refine g_getIv (ci := 10) (k := 18) (v := nI (mso (tk t e i))) C dX10_nameHere_1 rfl inGX10 (by decide) fwX10_139 ly_103 (by decide) rfl mx_18 ?_
    refine g_iconst (v := 2) C dX10_nameHere_4 (by decide) ?_
    refine g_icmp_eq 14 C dX10_nameHere_5 (by decide) (fun c5 => ?_) (fun c5 => ?_)
    · refine g_aload_n C dX10_nameHere_14 rfl ?_
      refine g_getL (ci := 10) (k := 22) C dX10_nameHere_15 rfl inGX10 (by decide) fwX10_148 ly_103 (by decide) rfl ?_
      refine g_lconst (v := 1) C dX10_nameHere_18 rfl ?_
      show Go X G 1 _ _ _ _ _ (.long _ :: .long (upJ J 103 22 _ 103 22) :: []) _
      rw [upJ_same]
      refine g_lcmp C dX10_nameHere_19 ?_
      refine g_if_lt 34 C dX10_nameHere_20 (by decide) (fun c20 => ?_) (fun c20 => ?_)
      · exact absurd ((pk_lLT (b := 1) (by omega) (by decide)).mp (cmp_lt.mp c20)) (by omega)
      · refine g_aload_n C dX10_nameHere_23 rfl ?_
        refine g_getL (ci := 10) (k := 22) C dX10_nameHere_24 rfl inGX10 (by decide) fwX10_148 ly_103 (by decide) rfl ?_
        refine g_ldc2 (v := 8) C dX10_nameHere_27 kwX10_172 ?_
        show Go X G 1 _ _ _ _ _ (.long _ :: .long (upJ J 103 22 _ 103 22) :: []) _
        rw [upJ_same]
        refine g_lcmp C dX10_nameHere_30 ?_
        refine g_if_le 40 C dX10_nameHere_31 (by decide) (fun c31 => ?_) (fun c31 => ?_)
        · exact absurd ((pk_lLT (a := 8) (by decide) (by omega)).mpr (Nat.lt_of_not_le (fun q => h0 (n3.mp q)))) (fun q => absurd (cmp_gt.mpr q) (Int32.not_lt.mpr c31))
        · refine g_aload_n C dX10_nameHere_34 rfl ?_
          refine g_iconst (v := 2) C dX10_nameHere_35 (by decide) ?_
          refine gv1 (ci := 10) (M1 := mm D J) C dX10_nameHere_36 vwX10_stop mwX10_166 ⟨by decide, by decide⟩ rfl ly_103 (Nat.le_of_ble_eq_true rfl) (s_stop) (Nat.le_of_ble_eq_true rfl) rfl ⟨by decide, by decide⟩ (fun z M2 hP => ?_)
          obtain ⟨rfl, rfl⟩ := hP
          exact g_athrow C dX10_nameHere_39 ht rfl rfl ⟨D, v, _, i, rfl, by rw [n6]; rfl⟩
    · exact absurd ((mso_2 (tk_le t e i)).mpr h1) c5
  · have n6 := nm_3 h1
    refine g_aload_n C dX10_nameHere_0 rfl ?_
    refine g_getIv (ci := 10) (k := 18) (v := nI (mso (tk t e i))) C dX10_nameHere_1 rfl inGX10 (by decide) fwX10_139 ly_103 (by decide) rfl mx_18 ?_
    refine g_iconst (v := 2) C dX10_nameHere_4 (by decide) ?_
    refine g_icmp_eq 14 C dX10_nameHere_5 (by decide) (fun c5 => ?_) (fun c5 => ?_)
    · exact absurd ((mso_2 (tk_le t e i)).mp c5) h1
    · refine g_aload_n C dX10_nameHere_8 rfl ?_
      refine g_iconst (v := 1) C dX10_nameHere_9 (by decide) ?_
      refine gv1 (ci := 10) (M1 := mm D J) C dX10_nameHere_10 vwX10_stop mwX10_166 ⟨by decide, by decide⟩ rfl ly_103 (Nat.le_of_ble_eq_true rfl) (s_stop) (Nat.le_of_ble_eq_true rfl) rfl ⟨by decide, by decide⟩ (fun z M2 hP => ?_)
      obtain ⟨rfl, rfl⟩ := hP
      exact g_athrow C dX10_nameHere_13 ht rfl rfl ⟨D, v, x, i, rfl, by rw [n6]; rfl⟩
set_option maxHeartbeats 1000000 in
theorem s_nnO {l : Launch} {G : Gm} {D : Nat → Nat → Int32} {J : Nat → Nat → Int64} {t : Nat → Nat} {e i : Nat} (hD : rdOK D t e) (hi : i ≤ e) {v : Int32} {x : Int64} (hk : nxK t e i v x) {a j : Nat} (h : pName t e i = .ok (a, j)) : Sp l G iX10_needName [.ref (G.1 + 103)] (mm (mrS D t e i v) (upJ J 103 22 x)) (fun z M2 => z = some (.int (nI a)) ∧ MS D J t e j M2) noT := by
  refine Sp.of (by decide +kernel) (Nat.le_of_ble_eq_true rfl) ?_
  intro X hXl C
  subst hXl
  show Go X G 2 0 0 _ 0 [.ref (G.1 + 103), uu] [] (mm (mrS D t e i v) (upJ J 103 22 x))
  obtain ⟨h0, rfl, rfl, -⟩ := pName_ok h
  refine g_aload_n C dX10_needName_0 rfl ?_
  refine gv0I (ci := 10) C dX10_needName_1 vwX10_nameHere mwX10_174 ⟨by decide, by decide⟩ rfl ly_103 (Nat.le_of_ble_eq_true rfl) (s_nhO hD hi hk h0) (Nat.le_of_ble_eq_true rfl) rfl ⟨by decide, by decide⟩ ?_
  refine g_istore_1 C dX10_needName_4 (by decide) ?_
  refine g_aload_n C dX10_needName_5 rfl ?_
  refine gv0 (ci := 10) (M1 := mm D J) C dX10_needName_6 vwX10_next mwX10_169 ⟨by decide, by decide⟩ rfl ly_103 (Nat.le_of_ble_eq_true rfl) (s_nextM hD (mat_le hi)) (Nat.le_of_ble_eq_true rfl) rfl ⟨by decide, by decide⟩ (fun z M2 hP => ?_)
  obtain ⟨rfl, hM⟩ := hP
  refine g_iload_n C dX10_needName_9 rfl ?_
  exact g_iret C dX10_needName_10 rfl rfl rfl ⟨rfl, by rw [← mat_tn (by rw [nm_1 h0]; decide)]; exact hM⟩
set_option maxHeartbeats 2000000 in
theorem s_nnE {l : Launch} {G : Gm} {D : Nat → Nat → Int32} {J : Nat → Nat → Int64} {t : Nat → Nat} {e i : Nat} (hD : rdOK D t e) (hi : i ≤ e) {v : Int32} {x : Int64} (hk : nxK t e i v x) {er : Er} (h : pName t e i = .error er) : Sp l G iX10_needName [.ref (G.1 + 103)] (mm (mrS D t e i v) (upJ J 103 22 x)) (fun _ _ => False) (TS J (fun D2 => D2 = D) t e er) := by
  refine Sp.ofT (by decide +kernel) (Nat.le_of_ble_eq_true rfl) ?_
  intro X hXl C ht
  subst hXl
  show Go X G 2 0 0 _ 0 [.ref (G.1 + 103), uu] [] (mm (mrS D t e i v) (upJ J 103 22 x))
  obtain ⟨h0, rfl⟩ := pName_er h
  refine g_aload_n C dX10_needName_0 rfl ?_
  exact g_callVT (na := 0) (As := []) (ci := 10) C dX10_needName_1 vwX10_nameHere mwX10_174 ⟨by decide, by decide⟩ rfl ly_103 (Nat.le_of_ble_eq_true rfl) (s_nhE hD hi hk h0) rfl (Nat.le_of_ble_eq_true rfl) rfl ⟨by decide, by decide⟩ _ rfl (fun z M2 hP => hP.elim) (fun M2 hT => gt_out C ht rfl rfl hT)
set_option maxHeartbeats 1000000 in
theorem s_nwhO {l : Launch} {G : Gm} {D : Nat → Nat → Int32} {J : Nat → Nat → Int64} {t : Nat → Nat} {e i : Nat} (hD : rdOK D t e) (hi : i ≤ e) {v : Int32} {x : Int64} (hk : nxK t e i v x) {b a j : Nat} (hb : b < 2 ^ 31) (h : pWhole t e i b = .ok (a, j)) : Sp l G iX10_needWhole [.ref (G.1 + 103), .int (nI b)] (mm (mrS D t e i v) (upJ J 103 22 x)) (fun z M2 => z = some (.int (nI a)) ∧ MS D J t e j M2) noT := by
  refine Sp.of (by decide +kernel) (Nat.le_of_ble_eq_true rfl) ?_
  intro X hXl C
  subst hXl
  show Go X G 3 0 0 _ 0 [.ref (G.1 + 103), .int (nI b), uu] [] (mm (mrS D t e i v) (upJ J 103 22 x))
  obtain ⟨h2, h3, rfl, rfl⟩ := pWhole_ok h
  refine g_aload_n C dX10_needWhole_0 rfl ?_
  refine g_getIv (ci := 10) (k := 18) (v := nI (mso (tk t e i))) C dX10_needWhole_1 rfl inGX10 (by decide) fwX10_139 ly_103 (by decide) rfl mx_18 ?_
  refine g_iconst (v := 3) C dX10_needWhole_4 (by decide) ?_
  refine g_icmp_eq 14 C dX10_needWhole_5 (by decide) (fun c5 => ?_) (fun c5 => ?_)
  · refine g_aload_n C dX10_needWhole_14 rfl ?_
    refine g_getIv (ci := 10) (k := 21) (v := nI (wv t e i)) C dX10_needWhole_15 rfl inGX10 (by decide) fwX10_155 ly_103 (by decide) rfl (mx_21.trans (hk.1 h2)) ?_
    refine g_iload_n C dX10_needWhole_18 rfl ?_
    refine g_icmp_lt 28 C dX10_needWhole_19 (by decide) (fun c19 => ?_) (fun c19 => ?_)
    · refine g_aload_n C dX10_needWhole_28 rfl ?_
      refine g_getIv (ci := 10) (k := 21) (v := nI (wv t e i)) C dX10_needWhole_29 rfl inGX10 (by decide) fwX10_155 ly_103 (by decide) rfl (mx_21.trans (hk.1 h2)) ?_
      refine g_istore_2 C dX10_needWhole_32 (by decide) ?_
      refine g_aload_n C dX10_needWhole_33 rfl ?_
      refine gv0 (ci := 10) (M1 := mm D J) C dX10_needWhole_34 vwX10_next mwX10_169 ⟨by decide, by decide⟩ rfl ly_103 (Nat.le_of_ble_eq_true rfl) (s_nextM hD (mat_le hi)) (Nat.le_of_ble_eq_true rfl) rfl ⟨by decide, by decide⟩ (fun z M2 hP => ?_)
      obtain ⟨rfl, hM⟩ := hP
      refine g_iload_n C dX10_needWhole_37 rfl ?_
      exact g_iret C dX10_needWhole_38 rfl rfl rfl ⟨rfl, by rw [← mat_tn (by rw [h2]; decide)]; exact hM⟩
    · exact absurd (nI_lt h3 hb) c19
  · exact absurd ((mso_3 (tk_le t e i)).mpr h2) c5
set_option maxHeartbeats 2000000 in
theorem s_nwhE {l : Launch} {G : Gm} {D : Nat → Nat → Int32} {J : Nat → Nat → Int64} {t : Nat → Nat} {e i : Nat} (hD : rdOK D t e) (hi : i ≤ e) {v : Int32} {x : Int64} (hk : nxK t e i v x) {b : Nat} {er : Er} (hb : b < 2 ^ 31) (h : pWhole t e i b = .error er) : Sp l G iX10_needWhole [.ref (G.1 + 103), .int (nI b)] (mm (mrS D t e i v) (upJ J 103 22 x)) (fun _ _ => False) (TS J (fun D2 => D2 = D) t e er) := by
  refine Sp.ofT (by decide +kernel) (Nat.le_of_ble_eq_true rfl) ?_
  intro X hXl C ht
  subst hXl
  show Go X G 3 0 0 _ 0 [.ref (G.1 + 103), .int (nI b), uu] [] (mm (mrS D t e i v) (upJ J 103 22 x))
  rcases pWhole_er h with ⟨h2, rfl⟩ | ⟨h2, h3, rfl⟩
  · refine g_aload_n C dX10_needWhole_0 rfl ?_
    refine g_getIv (ci := 10) (k := 18) (v := nI (mso (tk t e i))) C dX10_needWhole_1 rfl inGX10 (by decide) fwX10_139 ly_103 (by decide) rfl mx_18 ?_
    refine g_iconst (v := 3) C dX10_needWhole_4 (by decide) ?_
    refine g_icmp_eq 14 C dX10_needWhole_5 (by decide) (fun c5 => ?_) (fun c5 => ?_)
    · exact absurd ((mso_3 (tk_le t e i)).mp c5) h2
    · refine g_aload_n C dX10_needWhole_8 rfl ?_
      refine g_iconst (v := 1) C dX10_needWhole_9 (by decide) ?_
      refine gv1 (ci := 10) (M1 := mm D J) C dX10_needWhole_10 vwX10_stop mwX10_166 ⟨by decide, by decide⟩ rfl ly_103 (Nat.le_of_ble_eq_true rfl) (s_stop) (Nat.le_of_ble_eq_true rfl) rfl ⟨by decide, by decide⟩ (fun z M2 hP => ?_)
      obtain ⟨rfl, rfl⟩ := hP
      exact g_athrow C dX10_needWhole_13 ht rfl rfl ⟨D, v, x, i, rfl, rfl⟩
  · have hv := wv_le h2
    refine g_aload_n C dX10_needWhole_0 rfl ?_
    refine g_getIv (ci := 10) (k := 18) (v := nI (mso (tk t e i))) C dX10_needWhole_1 rfl inGX10 (by decide) fwX10_139 ly_103 (by decide) rfl mx_18 ?_
    refine g_iconst (v := 3) C dX10_needWhole_4 (by decide) ?_
    refine g_icmp_eq 14 C dX10_needWhole_5 (by decide) (fun c5 => ?_) (fun c5 => ?_)
    · refine g_aload_n C dX10_needWhole_14 rfl ?_
      refine g_getIv (ci := 10) (k := 21) (v := nI (wv t e i)) C dX10_needWhole_15 rfl inGX10 (by decide) fwX10_155 ly_103 (by decide) rfl (mx_21.trans (hk.1 h2)) ?_
      refine g_iload_n C dX10_needWhole_18 rfl ?_
      refine g_icmp_lt 28 C dX10_needWhole_19 (by decide) (fun c19 => ?_) (fun c19 => ?_)
      · exact absurd (nI_t c19 (by omega) hb) (by omega)
      · refine g_aload_n C dX10_needWhole_22 rfl ?_
        refine g_iconst (v := 3) C dX10_needWhole_23 (by decide) ?_
        refine gv1 (ci := 10) (M1 := mm D J) C dX10_needWhole_24 vwX10_stop mwX10_166 ⟨by decide, by decide⟩ rfl ly_103 (Nat.le_of_ble_eq_true rfl) (s_stop) (Nat.le_of_ble_eq_true rfl) rfl ⟨by decide, by decide⟩ (fun z M2 hP => ?_)
        obtain ⟨rfl, rfl⟩ := hP
        exact g_athrow C dX10_needWhole_27 ht rfl rfl ⟨D, v, x, i, rfl, rfl⟩
    · exact absurd ((mso_3 (tk_le t e i)).mpr h2) c5
