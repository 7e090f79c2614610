/-! ## the model's answers that read what is worked out -/
def fuOK (P : Pln) (n : Nat) (g : Rw) (F F2 : Nat) : Prop := whE (akQ P n) F (ak0 n) ∧ whE (goQ P n (wS P n g F).2 (wA P n F)) F2 ((wS P n g F).1, zr)
def akF (I : Nat → Nat → Int32) (P : Pln) (n F : Nat) : Nat → Nat → Int32 := wkM I (wA P n F) (I 114) (I 115) (I 116) (I 117)
theorem mOK_cg {I A : Nat → Nat → Int32} {n : Nat} {P : Pln} (h4 : A 103 4 = I 103 4) (h : ∀ q, q = 105 ∨ (107 ≤ q ∧ q ≤ 111) → A q = I q) (hm : mOK I n P) : mOK A n P := by
  obtain ⟨h1, h2, h3, h5⟩ := hm
  refine ⟨h1, h4.trans h2, fun p hp => by rw [h 105 (Or.inl rfl)]; exact h3 p hp, fun p hp k hk => ?_⟩
  rw [h 107 (by omega), h 108 (by omega), h 109 (by omega), h 110 (by omega), h 111 (by omega)]
  exact h5 p hp k hk
theorem mOK_T0 {I : Nat → Nat → Int32} {n : Nat} {P : Pln} (hm : mOK I n P) : mOK (T0 I) n P := mOK_cg (T0_103 (by decide)) (fun q hq => T0_off (by omega)) hm
theorem mOK_ak {I : Nat → Nat → Int32} {n F : Nat} {P : Pln} (hm : mOK I n P) : mOK (akF I P n F) n P := wk_ok hm
theorem mOK_wk {I : Nat → Nat → Int32} {n F F2 : Nat} {P : Pln} (hm : mOK I n P) : mOK (wkF I P n F F2) n P := wk_ok hm
theorem s_works {l : Launch} {G : Gm} {I : Nat → Nat → Int32} {J : Nat → Nat → Int64} {n : Nat} {P : Pln} (hm : mOK I n P) {F F2 : Nat} (hfu : ∀ g : Rw, fuOK P n g F F2) : Sp l G iX10_works [.ref (G.1 + 103)] (mm I J) (RetV (mm (wkF I P n F F2) J)) noT := by
  have := s_worksW (l := l) (G := G) (J := J) (a := I 118) (h := I 114) (w := I 115) (r := I 116) (lk := I 117) hm (hfu (I 104)).1 (hfu (I 104)).2
  rw [wk_self] at this
  exact this
theorem s_asksI {l : Launch} {G : Gm} {I : Nat → Nat → Int32} {J : Nat → Nat → Int64} {n : Nat} {P : Pln} (hm : mOK I n P) {F F2 : Nat} (hfu : ∀ g : Rw, fuOK P n g F F2) : Sp l G iX10_asks [.ref (G.1 + 103)] (mm I J) (RetV (mm (akF I P n F) J)) noT := by
  have := s_asks (l := l) (G := G) (J := J) (a := I 118) (h := I 114) (w := I 115) (r := I 116) (lk := I 117) hm (hfu (I 104)).1
  rw [wk_self] at this
  exact this
def nP (P : Pln) (a : Rw) (p : Nat) : Int32 := if a p = 0 then 0 else it (fun k x => x ||| (if P.kd p k = 0 ∨ P.kd p k = 3 then bt (P.nu p k) else 0)) (P.ml p) 0
theorem nof_eq {I : Nat → Nat → Int32} {n : Nat} {P : Pln} (hm : mOK I n P) {p : Nat} (hp : p < n) : nof I p (P.ml p) = nP P (I 118) p := by
  unfold nof nP
  by_cases h : I 118 p = 0
  · rw [if_pos h, if_pos h]
  · rw [if_neg h, if_neg h]
    apply it_congr
    intro k hk x
    have hL := hm.2.2.2 p hp k hk
    have hLo := hm.1.2.2 p hp k hk
    unfold ndf
    rw [hL.1, hL.2.1]
    have e0 : (nI (P.kd p k) = 0) ↔ P.kd p k = 0 := nI_eq (b := 0) (by omega) (by decide)
    have e3 : (nI (P.kd p k) = 3) ↔ P.kd p k = 3 := nI_eq (b := 3) (by omega) (by decide)
    simp only [e0, e3]
    rfl
theorem s_nP {l : Launch} {G : Gm} {I : Nat → Nat → Int32} {J : Nat → Nat → Int64} {n : Nat} {P : Pln} (hm : mOK I n P) {p : Nat} (hp : p < n) : Sp l G iX10_neededOf [.ref (G.1 + 103), .int (nI p)] (mm I J) (RetI (nP P (I 118) p) (mm I J)) noT := by
  rw [← nof_eq hm hp]
  exact s_neededOf (by have := hm.1.1; omega) (hm.2.2.1 p hp) (hm.1.2.1 p)
set_option maxHeartbeats 1000000 in
theorem s_mresult0 {l : Launch} {G : Gm} {I : Nat → Nat → Int32} {J : Nat → Nat → Int64} {x : Int32} (h : ¬ (¬ x < 0 ∧ x < I 103 4)) : Sp l G iX10_result [.ref (G.1 + 103), .int x] (mm I J) (RetI (-1) (mm (T0 I) J)) noT := by
  refine Sp.of (by decide +kernel) (Nat.le_of_ble_eq_true rfl) ?_
  intro X hXl C
  subst hXl
  show Go X G 2 0 0 _ 0 [.ref (G.1 + 103), .int x] [] (mm I J)
  refine g_aload_n C dX10_result_0 rfl ?_
  refine g_iconst (v := 0) C dX10_result_1 (by decide) ?_
  refine g_putI (ci := 10) (k := 0) .int C dX10_result_2 rfl inGX10 tyX10_ok nmX10 (by decide) fwX10_80 ly_103 (by decide) rfl rfl rfl rfl rfl ?_
  refine g_aload_n C dX10_result_5 rfl ?_
  refine g_iload_n C dX10_result_6 rfl ?_
  refine gv1I (ci := 10) C dX10_result_7 vwX10_isPart mwX10_101 ⟨by decide, by decide⟩ rfl ly_103 (Nat.le_of_ble_eq_true rfl) (s_isPart _) (Nat.le_of_ble_eq_true rfl) rfl ⟨by decide, by decide⟩ ?_
  refine g_if_ne 15 C dX10_result_10 (by decide) (fun c10 => ?_) (fun c10 => ?_)
  · exact absurd (if01.mpr h) c10
  · refine g_iconst (v := (-1)) C dX10_result_13 (by decide) ?_
    exact e_I C dX10_result_14 rfl rfl rfl rfl rfl
set_option maxHeartbeats 1000000 in
theorem s_masked0 {l : Launch} {G : Gm} {I : Nat → Nat → Int32} {J : Nat → Nat → Int64} {x : Int32} (h : ¬ (¬ x < 0 ∧ x < I 103 4)) : Sp l G iX10_asked [.ref (G.1 + 103), .int x] (mm I J) (RetI (-1) (mm (T0 I) J)) noT := by
  refine Sp.of (by decide +kernel) (Nat.le_of_ble_eq_true rfl) ?_
  intro X hXl C
  subst hXl
  show Go X G 2 0 0 _ 0 [.ref (G.1 + 103), .int x] [] (mm I J)
  refine g_aload_n C dX10_asked_0 rfl ?_
  refine g_iconst (v := 0) C dX10_asked_1 (by decide) ?_
  refine g_putI (ci := 10) (k := 0) .int C dX10_asked_2 rfl inGX10 tyX10_ok nmX10 (by decide) fwX10_80 ly_103 (by decide) rfl rfl rfl rfl rfl ?_
  refine g_aload_n C dX10_asked_5 rfl ?_
  refine g_iload_n C dX10_asked_6 rfl ?_
  refine gv1I (ci := 10) C dX10_asked_7 vwX10_isPart mwX10_101 ⟨by decide, by decide⟩ rfl ly_103 (Nat.le_of_ble_eq_true rfl) (s_isPart _) (Nat.le_of_ble_eq_true rfl) rfl ⟨by decide, by decide⟩ ?_
  refine g_if_ne 15 C dX10_asked_10 (by decide) (fun c10 => ?_) (fun c10 => ?_)
  · exact absurd (if01.mpr h) c10
  · refine g_iconst (v := (-1)) C dX10_asked_13 (by decide) ?_
    exact e_I C dX10_asked_14 rfl rfl rfl rfl rfl
set_option maxHeartbeats 1000000 in
theorem s_mneeded0 {l : Launch} {G : Gm} {I : Nat → Nat → Int32} {J : Nat → Nat → Int64} {x : Int32} (h : ¬ (¬ x < 0 ∧ x < I 103 4)) : Sp l G iX10_needed [.ref (G.1 + 103), .int x] (mm I J) (RetI (-1) (mm (T0 I) J)) noT := by
  refine Sp.of (by decide +kernel) (Nat.le_of_ble_eq_true rfl) ?_
  intro X hXl C
  subst hXl
  show Go X G 2 0 0 _ 0 [.ref (G.1 + 103), .int x] [] (mm I J)
  refine g_aload_n C dX10_needed_0 rfl ?_
  refine g_iconst (v := 0) C dX10_needed_1 (by decide) ?_
  refine g_putI (ci := 10) (k := 0) .int C dX10_needed_2 rfl inGX10 tyX10_ok nmX10 (by decide) fwX10_80 ly_103 (by decide) rfl rfl rfl rfl rfl ?_
  refine g_aload_n C dX10_needed_5 rfl ?_
  refine g_iload_n C dX10_needed_6 rfl ?_
  refine gv1I (ci := 10) C dX10_needed_7 vwX10_isPart mwX10_101 ⟨by decide, by decide⟩ rfl ly_103 (Nat.le_of_ble_eq_true rfl) (s_isPart _) (Nat.le_of_ble_eq_true rfl) rfl ⟨by decide, by decide⟩ ?_
  refine g_if_ne 15 C dX10_needed_10 (by decide) (fun c10 => ?_) (fun c10 => ?_)
  · exact absurd (if01.mpr h) c10
  · refine g_iconst (v := (-1)) C dX10_needed_13 (by decide) ?_
    exact e_I C dX10_needed_14 rfl rfl rfl rfl rfl
set_option maxHeartbeats 1000000 in
theorem s_midle0 {l : Launch} {G : Gm} {I : Nat → Nat → Int32} {J : Nat → Nat → Int64} {x : Int32} (h : ¬ (¬ x < 0 ∧ x < I 103 4)) : Sp l G iX10_idle [.ref (G.1 + 103), .int x] (mm I J) (RetI (-1) (mm (T0 I) J)) noT := by
  refine Sp.of (by decide +kernel) (Nat.le_of_ble_eq_true rfl) ?_
  intro X hXl C
  subst hXl
  show Go X G 2 0 0 _ 0 [.ref (G.1 + 103), .int x] [] (mm I J)
  refine g_aload_n C dX10_idle_0 rfl ?_
  refine g_iconst (v := 0) C dX10_idle_1 (by decide) ?_
  refine g_putI (ci := 10) (k := 0) .int C dX10_idle_2 rfl inGX10 tyX10_ok nmX10 (by decide) fwX10_80 ly_103 (by decide) rfl rfl rfl rfl rfl ?_
  refine g_aload_n C dX10_idle_5 rfl ?_
  refine g_iload_n C dX10_idle_6 rfl ?_
  refine gv1I (ci := 10) C dX10_idle_7 vwX10_isPart mwX10_101 ⟨by decide, by decide⟩ rfl ly_103 (Nat.le_of_ble_eq_true rfl) (s_isPart _) (Nat.le_of_ble_eq_true rfl) rfl ⟨by decide, by decide⟩ ?_
  refine g_if_ne 15 C dX10_idle_10 (by decide) (fun c10 => ?_) (fun c10 => ?_)
  · exact absurd (if01.mpr h) c10
  · refine g_iconst (v := (-1)) C dX10_idle_13 (by decide) ?_
    exact e_I C dX10_idle_14 rfl rfl rfl rfl rfl
set_option maxHeartbeats 1000000 in
theorem s_mlacking0 {l : Launch} {G : Gm} {I : Nat → Nat → Int32} {J : Nat → Nat → Int64} {x : Int32} (h : ¬ (¬ x < 0 ∧ x < I 103 4)) : Sp l G iX10_lacking [.ref (G.1 + 103), .int x] (mm I J) (RetI (-1) (mm (T0 I) J)) noT := by
  refine Sp.of (by decide +kernel) (Nat.le_of_ble_eq_true rfl) ?_
  intro X hXl C
  subst hXl
  show Go X G 2 0 0 _ 0 [.ref (G.1 + 103), .int x] [] (mm I J)
  refine g_aload_n C dX10_lacking_0 rfl ?_
  refine g_iconst (v := 0) C dX10_lacking_1 (by decide) ?_
  refine g_putI (ci := 10) (k := 0) .int C dX10_lacking_2 rfl inGX10 tyX10_ok nmX10 (by decide) fwX10_80 ly_103 (by decide) rfl rfl rfl rfl rfl ?_
  refine g_aload_n C dX10_lacking_5 rfl ?_
  refine g_iload_n C dX10_lacking_6 rfl ?_
  refine gv1I (ci := 10) C dX10_lacking_7 vwX10_isPart mwX10_101 ⟨by decide, by decide⟩ rfl ly_103 (Nat.le_of_ble_eq_true rfl) (s_isPart _) (Nat.le_of_ble_eq_true rfl) rfl ⟨by decide, by decide⟩ ?_
  refine g_if_ne 15 C dX10_lacking_10 (by decide) (fun c10 => ?_) (fun c10 => ?_)
  · exact absurd (if01.mpr h) c10
  · refine g_iconst (v := (-1)) C dX10_lacking_13 (by decide) ?_
    exact e_I C dX10_lacking_14 rfl rfl rfl rfl rfl
set_option maxHeartbeats 1000000 in
theorem s_mhelped0 {l : Launch} {G : Gm} {I : Nat → Nat → Int32} {J : Nat → Nat → Int64} {x : Int32} (h : ¬ (¬ x < 0 ∧ x < I 103 4)) : Sp l G iX10_helped [.ref (G.1 + 103), .int x] (mm I J) (RetI (-1) (mm (T0 I) J)) noT := by
  refine Sp.of (by decide +kernel) (Nat.le_of_ble_eq_true rfl) ?_
  intro X hXl C
  subst hXl
  show Go X G 6 0 0 _ 0 [.ref (G.1 + 103), .int x, uu, uu, uu, uu] [] (mm I J)
  refine g_aload_n C dX10_helped_0 rfl ?_
  refine g_iconst (v := 0) C dX10_helped_1 (by decide) ?_
  refine g_putI (ci := 10) (k := 0) .int C dX10_helped_2 rfl inGX10 tyX10_ok nmX10 (by decide) fwX10_80 ly_103 (by decide) rfl rfl rfl rfl rfl ?_
  refine g_aload_n C dX10_helped_5 rfl ?_
  refine g_iload_n C dX10_helped_6 rfl ?_
  refine gv1I (ci := 10) C dX10_helped_7 vwX10_isPart mwX10_101 ⟨by decide, by decide⟩ rfl ly_103 (Nat.le_of_ble_eq_true rfl) (s_isPart _) (Nat.le_of_ble_eq_true rfl) rfl ⟨by decide, by decide⟩ ?_
  refine g_if_ne 15 C dX10_helped_10 (by decide) (fun c10 => ?_) (fun c10 => ?_)
  · exact absurd (if01.mpr h) c10
  · refine g_iconst (v := (-1)) C dX10_helped_13 (by decide) ?_
    exact e_I C dX10_helped_14 rfl rfl rfl rfl rfl
set_option maxHeartbeats 1000000 in
theorem s_mholds0 {l : Launch} {G : Gm} {I : Nat → Nat → Int32} {J : Nat → Nat → Int64} {x y : Int32} (h : ¬ ((¬ x < 0 ∧ x < I 103 4) ∧ ¬ y < 0 ∧ ¬ 7 < y)) : Sp l G iX10_holds [.ref (G.1 + 103), .int x, .int y] (mm I J) (RetI (-1) (mm (T0 I) J)) noT := by
  refine Sp.of (by decide +kernel) (Nat.le_of_ble_eq_true rfl) ?_
  intro X hXl C
  subst hXl
  show Go X G 3 0 0 _ 0 [.ref (G.1 + 103), .int x, .int y] [] (mm I J)
  refine g_aload_n C dX10_holds_0 rfl ?_
  refine g_iconst (v := 0) C dX10_holds_1 (by decide) ?_
  refine g_putI (ci := 10) (k := 0) .int C dX10_holds_2 rfl inGX10 tyX10_ok nmX10 (by decide) fwX10_80 ly_103 (by decide) rfl rfl rfl rfl rfl ?_
  refine g_aload_n C dX10_holds_5 rfl ?_
  refine g_iload_n C dX10_holds_6 rfl ?_
  refine gv1I (ci := 10) C dX10_holds_7 vwX10_isPart mwX10_101 ⟨by decide, by decide⟩ rfl ly_103 (Nat.le_of_ble_eq_true rfl) (s_isPart _) (Nat.le_of_ble_eq_true rfl) rfl ⟨by decide, by decide⟩ ?_
  refine g_if_eq 23 C dX10_holds_10 (by decide) (fun c10 => ?_) (fun c10 => ?_)
  · refine g_iconst (v := (-1)) C dX10_holds_23 (by decide) ?_
    exact e_I C dX10_holds_24 rfl rfl rfl rfl rfl
  · have g10 := Classical.not_not.mp (fun q => c10 (if01.mpr q))
    refine g_iload_n C dX10_holds_13 rfl ?_
    refine g_iconst (v := 0) C dX10_holds_14 (by decide) ?_
    refine g_bipush (v := 7) C dX10_holds_15 (by decide) ?_
    refine gs3I C dX10_holds_17 swX10_in mwX10_90 ⟨by decide, by decide⟩ (s_in _ _ _) (Nat.le_of_ble_eq_true rfl) rfl ⟨by decide, by decide⟩ ?_
    refine g_if_ne 25 C dX10_holds_20 (by decide) (fun c20 => ?_) (fun c20 => ?_)
    · exact absurd ⟨g10, Classical.not_not.mp (fun q => c20 (if01.mpr q))⟩ h
    · refine g_iconst (v := (-1)) C dX10_holds_23 (by decide) ?_
      exact e_I C dX10_holds_24 rfl rfl rfl rfl rfl
set_option maxHeartbeats 1000000 in
theorem s_mholds {l : Launch} {G : Gm} {I : Nat → Nat → Int32} {J : Nat → Nat → Int64} {n : Nat} {P : Pln} (hm : mOK I n P) {F F2 : Nat} (hfu : ∀ g : Rw, fuOK P n g F F2) {p : Nat} (hp : p < n) {nm : Nat} (hnm : nm < 8) : Sp l G iX10_holds [.ref (G.1 + 103), .int (nI p), .int (nI nm)] (mm I J) (RetI ((wHR P n (I 104) F F2).1 (8 * p + nm)) (mm (wkF (T0 I) P n F F2) J)) noT := by
  refine Sp.of (by decide +kernel) (Nat.le_of_ble_eq_true rfl) ?_
  intro X hXl C
  subst hXl
  show Go X G 3 0 0 _ 0 [.ref (G.1 + 103), .int (nI p), .int (nI nm)] [] (mm I J)
  have hn10 := hm.1.1
  have hn := hm.2.1
  have hpp : ¬ nI p < 0 ∧ nI p < I 103 4 := ⟨nI_pos (by omega), by rw [hn]; exact nI_lt hp (by omega)⟩
  refine g_aload_n C dX10_holds_0 rfl ?_
  refine g_iconst (v := 0) C dX10_holds_1 (by decide) ?_
  refine g_putI (ci := 10) (k := 0) .int C dX10_holds_2 rfl inGX10 tyX10_ok nmX10 (by decide) fwX10_80 ly_103 (by decide) rfl rfl rfl rfl rfl ?_
  refine g_aload_n C dX10_holds_5 rfl ?_
  refine g_iload_n C dX10_holds_6 rfl ?_
  refine gv1I (ci := 10) C dX10_holds_7 vwX10_isPart mwX10_101 ⟨by decide, by decide⟩ rfl ly_103 (Nat.le_of_ble_eq_true rfl) (s_isPart _) (Nat.le_of_ble_eq_true rfl) rfl ⟨by decide, by decide⟩ ?_
  refine g_if_eq 23 C dX10_holds_10 (by decide) (fun c10 => ?_) (fun c10 => ?_)
  · exact absurd hpp (if01.mp c10)
  · refine g_iload_n C dX10_holds_13 rfl ?_
    refine g_iconst (v := 0) C dX10_holds_14 (by decide) ?_
    refine g_bipush (v := 7) C dX10_holds_15 (by decide) ?_
    refine gs3I C dX10_holds_17 swX10_in mwX10_90 ⟨by decide, by decide⟩ (s_in _ _ _) (Nat.le_of_ble_eq_true rfl) rfl ⟨by decide, by decide⟩ ?_
    refine g_if_ne 25 C dX10_holds_20 (by decide) (fun c20 => ?_) (fun c20 => ?_)
    · refine g_aload_n C dX10_holds_25 rfl ?_
      refine gv0V (ci := 10) C dX10_holds_26 vwX10_works mwX10_241 ⟨by decide, by decide⟩ rfl ly_103 (Nat.le_of_ble_eq_true rfl) (s_works (mOK_T0 hm) hfu) (Nat.le_of_ble_eq_true rfl) rfl ⟨by decide, by decide⟩ ?_
      refine g_aload_n C dX10_holds_29 rfl ?_
      refine g_getR (ci := 10) (k := 23) (q := 114) C dX10_holds_30 rfl inGX10 (by decide) fwX10_49 ly_103 (by decide) rfl rfl ?_
      refine g_bipush (v := 8) C dX10_holds_33 (by decide) ?_
      refine g_iload_n C dX10_holds_35 rfl ?_
      refine g_imul C dX10_holds_36 ?_
      rw [mul8]
      refine g_iload_n C dX10_holds_37 rfl ?_
      refine g_iadd C dX10_holds_38 ?_
      rw [nI_add]
      refine g_ialdv (v := (wHR P n (I 104) F F2).1 (8 * p + nm)) (8 * p + nm) C dX10_holds_39 ly_114 (by decide) (by decide) rfl (show 8 * p + nm < 80 by omega) (wk_114 (by omega)) ?_
      exact e_I C dX10_holds_40 rfl rfl rfl rfl rfl
    · exact absurd ⟨nI_pos (show nm < 2 ^ 31 by omega), nI_nlt (a := 7) (show nm ≤ 7 by omega) (by decide)⟩ (if01.mp c20)
set_option maxHeartbeats 1000000 in
theorem s_mresult {l : Launch} {G : Gm} {I : Nat → Nat → Int32} {J : Nat → Nat → Int64} {n : Nat} {P : Pln} (hm : mOK I n P) {F F2 : Nat} (hfu : ∀ g : Rw, fuOK P n g F F2) {p : Nat} (hp : p < n) : Sp l G iX10_result [.ref (G.1 + 103), .int (nI p)] (mm I J) (RetI ((wHR P n (I 104) F F2).2 p) (mm (wkF (T0 I) P n F F2) J)) noT := by
  refine Sp.of (by decide +kernel) (Nat.le_of_ble_eq_true rfl) ?_
  intro X hXl C
  subst hXl
  show Go X G 2 0 0 _ 0 [.ref (G.1 + 103), .int (nI p)] [] (mm I J)
  have hn10 := hm.1.1
  have hn := hm.2.1
  have hpp : ¬ nI p < 0 ∧ nI p < I 103 4 := ⟨nI_pos (by omega), by rw [hn]; exact nI_lt hp (by omega)⟩
  refine g_aload_n C dX10_result_0 rfl ?_
  refine g_iconst (v := 0) C dX10_result_1 (by decide) ?_
  refine g_putI (ci := 10) (k := 0) .int C dX10_result_2 rfl inGX10 tyX10_ok nmX10 (by decide) fwX10_80 ly_103 (by decide) rfl rfl rfl rfl rfl ?_
  refine g_aload_n C dX10_result_5 rfl ?_
  refine g_iload_n C dX10_result_6 rfl ?_
  refine gv1I (ci := 10) C dX10_result_7 vwX10_isPart mwX10_101 ⟨by decide, by decide⟩ rfl ly_103 (Nat.le_of_ble_eq_true rfl) (s_isPart _) (Nat.le_of_ble_eq_true rfl) rfl ⟨by decide, by decide⟩ ?_
  refine g_if_ne 15 C dX10_result_10 (by decide) (fun c10 => ?_) (fun c10 => ?_)
  · refine g_aload_n C dX10_result_15 rfl ?_
    refine gv0V (ci := 10) C dX10_result_16 vwX10_works mwX10_241 ⟨by decide, by decide⟩ rfl ly_103 (Nat.le_of_ble_eq_true rfl) (s_works (mOK_T0 hm) hfu) (Nat.le_of_ble_eq_true rfl) rfl ⟨by decide, by decide⟩ ?_
    refine g_aload_n C dX10_result_19 rfl ?_
    refine g_getR (ci := 10) (k := 25) (q := 116) C dX10_result_20 rfl inGX10 (by decide) fwX10_55 ly_103 (by decide) rfl rfl ?_
    refine g_iload_n C dX10_result_23 rfl ?_
    refine g_ialdv (v := (wHR P n (I 104) F F2).2 p) _ C dX10_result_24 ly_116 (by decide) (by decide) rfl (show p < 10 by omega) (wk_116 (by omega)) ?_
    exact e_I C dX10_result_25 rfl rfl rfl rfl rfl
  · exact absurd hpp (if01.mp c10)
set_option maxHeartbeats 1000000 in
theorem s_masked {l : Launch} {G : Gm} {I : Nat → Nat → Int32} {J : Nat → Nat → Int64} {n : Nat} {P : Pln} (hm : mOK I n P) {F F2 : Nat} (hfu : ∀ g : Rw, fuOK P n g F F2) {p : Nat} (hp : p < n) : Sp l G iX10_asked [.ref (G.1 + 103), .int (nI p)] (mm I J) (RetI (if (wA P n F) p = 0 then 0 else 1) (mm (akF (T0 I) P n F) J)) noT := by
  refine Sp.of (by decide +kernel) (Nat.le_of_ble_eq_true rfl) ?_
  intro X hXl C
  subst hXl
  show Go X G 2 0 0 _ 0 [.ref (G.1 + 103), .int (nI p)] [] (mm I J)
  have hn10 := hm.1.1
  have hn := hm.2.1
  have hpp : ¬ nI p < 0 ∧ nI p < I 103 4 := ⟨nI_pos (by omega), by rw [hn]; exact nI_lt hp (by omega)⟩
  refine g_aload_n C dX10_asked_0 rfl ?_
  refine g_iconst (v := 0) C dX10_asked_1 (by decide) ?_
  refine g_putI (ci := 10) (k := 0) .int C dX10_asked_2 rfl inGX10 tyX10_ok nmX10 (by decide) fwX10_80 ly_103 (by decide) rfl rfl rfl rfl rfl ?_
  refine g_aload_n C dX10_asked_5 rfl ?_
  refine g_iload_n C dX10_asked_6 rfl ?_
  refine gv1I (ci := 10) C dX10_asked_7 vwX10_isPart mwX10_101 ⟨by decide, by decide⟩ rfl ly_103 (Nat.le_of_ble_eq_true rfl) (s_isPart _) (Nat.le_of_ble_eq_true rfl) rfl ⟨by decide, by decide⟩ ?_
  refine g_if_ne 15 C dX10_asked_10 (by decide) (fun c10 => ?_) (fun c10 => ?_)
  · refine g_aload_n C dX10_asked_15 rfl ?_
    refine gv0V (ci := 10) C dX10_asked_16 vwX10_asks mwX10_231 ⟨by decide, by decide⟩ rfl ly_103 (Nat.le_of_ble_eq_true rfl) (s_asksI (mOK_T0 hm) hfu) (Nat.le_of_ble_eq_true rfl) rfl ⟨by decide, by decide⟩ ?_
    refine g_aload_n C dX10_asked_19 rfl ?_
    refine g_getR (ci := 10) (k := 27) (q := 118) C dX10_asked_20 rfl inGX10 (by decide) fwX10_61 ly_103 (by decide) rfl rfl ?_
    refine g_iload_n C dX10_asked_23 rfl ?_
    refine g_zald _ C dX10_asked_24 ly_118 (by decide) (by decide) rfl (show p < 10 by omega) ?_
    refine g_if_eq 32 C dX10_asked_25 (by decide) (fun c25 => ?_) (fun c25 => ?_)
    · have g25 : (wA P n F) p = 0 := (wk_118 (show p < 10 by omega)).symm.trans c25
      refine g_iconst (v := 0) C dX10_asked_32 (by decide) ?_
      exact e_I C dX10_asked_33 rfl rfl rfl (by first | exact (if_pos g25).symm | exact (if_neg g25).symm) rfl
    · have g25 : ¬ (wA P n F) p = 0 := fun q => c25 ((wk_118 (show p < 10 by omega)).trans q)
      refine g_iconst (v := 1) C dX10_asked_28 (by decide) ?_
      refine g_goto 33 C dX10_asked_29 (by decide) ?_
      exact e_I C dX10_asked_33 rfl rfl rfl (by first | exact (if_pos g25).symm | exact (if_neg g25).symm) rfl
  · exact absurd hpp (if01.mp c10)
set_option maxHeartbeats 1000000 in
theorem s_mdoor0 {l : Launch} {G : Gm} {I : Nat → Nat → Int32} {J : Nat → Nat → Int64} {x : Int32} (h : ¬ (¬ x < 0 ∧ x < 16)) : Sp l G iX10_door [.ref (G.1 + 103), .int x] (mm I J) (RetI (-1) (mm (T0 I) J)) noT := by
  refine Sp.of (by decide +kernel) (Nat.le_of_ble_eq_true rfl) ?_
  intro X hXl C
  subst hXl
  show Go X G 4 0 0 _ 0 [.ref (G.1 + 103), .int x, uu, uu] [] (mm I J)
  refine g_aload_n C dX10_door_0 rfl ?_
  refine g_iconst (v := 0) C dX10_door_1 (by decide) ?_
  refine g_putI (ci := 10) (k := 0) .int C dX10_door_2 rfl inGX10 tyX10_ok nmX10 (by decide) fwX10_80 ly_103 (by decide) rfl rfl rfl rfl rfl ?_
  refine g_iload_n C dX10_door_5 rfl ?_
  refine gs1I C dX10_door_6 swX10_isRight mwX10_228 ⟨by decide, by decide⟩ (s_misRight _) (Nat.le_of_ble_eq_true rfl) rfl ⟨by decide, by decide⟩ ?_
  refine g_if_ne 14 C dX10_door_9 (by decide) (fun c9 => ?_) (fun c9 => ?_)
  · exact absurd (if01.mpr h) c9
  · refine g_iconst (v := (-1)) C dX10_door_12 (by decide) ?_
    exact e_I C dX10_door_13 rfl rfl rfl rfl rfl
set_option maxHeartbeats 1000000 in
theorem s_mdoor {l : Launch} {G : Gm} {I : Nat → Nat → Int32} {J : Nat → Nat → Int64} {n : Nat} {P : Pln} (hm : mOK I n P) {F F2 : Nat} (hfu : ∀ g : Rw, fuOK P n g F F2) {d : Nat} (hd : d < 16) : Sp l G iX10_door [.ref (G.1 + 103), .int (nI d)] (mm I J) (RetI (it (fun s x => x ||| ((((wL P n (I 104) F F2) s >>> (nI d &&& 31)) &&& 1) <<< (nI s &&& 31))) 16 0) (mm (wkF (T0 I) P n F F2) J)) noT := by
  refine Sp.of (by decide +kernel) (Nat.le_of_ble_eq_true rfl) ?_
  intro X hXl C
  subst hXl
  show Go X G 4 0 0 _ 0 [.ref (G.1 + 103), .int (nI d), uu, uu] [] (mm I J)
  have loop : ∀ k : Nat, k ≤ 16 → Go X G 4 0 0 (KQ X G iX10_door (RetI (it (fun s x => x ||| ((((wL P n (I 104) F F2) s >>> (nI d &&& 31)) &&& 1) <<< (nI s &&& 31))) 16 0) (mm (wkF (T0 I) P n F F2) J)) noT) 22 [.ref (G.1 + 103), .int (nI d), .int (it (fun s x => x ||| ((((wL P n (I 104) F F2) s >>> (nI d &&& 31)) &&& 1) <<< (nI s &&& 31))) k 0), .int (nI k)] [] (mm (wkF (T0 I) P n F F2) J) := by
    refine loopN (16) ?_ ?_
    · skip
      show Go X G 4 0 0 _ 22 _ [] _
      refine g_iload_n C dX10_door_22 rfl ?_
      refine g_bipush (v := 16) C dX10_door_23 (by decide) ?_
      refine g_icmp_ge 49 C dX10_door_25 (by decide) (fun c25 => ?_) (fun c25 => ?_)
      · refine g_iload_n C dX10_door_49 rfl ?_
        exact e_I C dX10_door_50 rfl rfl rfl rfl rfl
      · exact absurd (Int32.le_refl _) c25
    · intro k hk ih 
      show Go X G 4 0 0 _ 22 _ [] _
      refine g_iload_n C dX10_door_22 rfl ?_
      refine g_bipush (v := 16) C dX10_door_23 (by decide) ?_
      refine g_icmp_ge 49 C dX10_door_25 (by decide) (fun c25 => ?_) (fun c25 => ?_)
      · exact (nI_ge_dead (n := 16) c25 hk (by omega)).elim
      · refine g_iload_n C dX10_door_28 rfl ?_
        refine g_aload_n C dX10_door_29 rfl ?_
        refine g_getR (ci := 10) (k := 26) (q := 117) C dX10_door_30 rfl inGX10 (by decide) fwX10_58 ly_103 (by decide) rfl rfl ?_
        refine g_iload_n C dX10_door_33 rfl ?_
        refine g_ialdv (v := (wL P n (I 104) F F2) k) _ C dX10_door_34 ly_117 (by decide) (by decide) rfl hk (wk_117 hk) ?_
        refine g_iload_n C dX10_door_35 rfl ?_
        refine g_ishr C dX10_door_36 ?_
        refine g_iconst (v := 1) C dX10_door_37 (by decide) ?_
        refine g_iand C dX10_door_38 ?_
        refine g_iload_n C dX10_door_39 rfl ?_
        refine g_ishl C dX10_door_40 ?_
        refine g_ior C dX10_door_41 ?_
        refine g_istore_2 C dX10_door_42 (by decide) ?_
        refine g_iinc_3 C dX10_door_43 (nI_1 k) (by decide) ?_
        refine g_goto 22 C dX10_door_46 (by decide) ?_
        exact ih
  refine g_aload_n C dX10_door_0 rfl ?_
  refine g_iconst (v := 0) C dX10_door_1 (by decide) ?_
  refine g_putI (ci := 10) (k := 0) .int C dX10_door_2 rfl inGX10 tyX10_ok nmX10 (by decide) fwX10_80 ly_103 (by decide) rfl rfl rfl rfl rfl ?_
  refine g_iload_n C dX10_door_5 rfl ?_
  refine gs1I C dX10_door_6 swX10_isRight mwX10_228 ⟨by decide, by decide⟩ (s_misRight _) (Nat.le_of_ble_eq_true rfl) rfl ⟨by decide, by decide⟩ ?_
  refine g_if_ne 14 C dX10_door_9 (by decide) (fun c9 => ?_) (fun c9 => ?_)
  · refine g_aload_n C dX10_door_14 rfl ?_
    refine gv0V (ci := 10) C dX10_door_15 vwX10_works mwX10_241 ⟨by decide, by decide⟩ rfl ly_103 (Nat.le_of_ble_eq_true rfl) (s_works (mOK_T0 hm) hfu) (Nat.le_of_ble_eq_true rfl) rfl ⟨by decide, by decide⟩ ?_
    refine g_iconst (v := 0) C dX10_door_18 (by decide) ?_
    refine g_istore_2 C dX10_door_19 (by decide) ?_
    refine g_iconst (v := 0) C dX10_door_20 (by decide) ?_
    refine g_istore_3 C dX10_door_21 (by decide) ?_
    exact loop 0 (Nat.zero_le _)
  · exact absurd ⟨nI_pos (show d < 2 ^ 31 by omega), nI_lt (b := 16) hd (by decide)⟩ (if01.mp c9)
set_option maxHeartbeats 1000000 in
theorem s_mleaks {l : Launch} {G : Gm} {I : Nat → Nat → Int32} {J : Nat → Nat → Int64} {n : Nat} {P : Pln} (hm : mOK I n P) {F F2 : Nat} (hfu : ∀ g : Rw, fuOK P n g F F2) : Sp l G iX10_leaks [.ref (G.1 + 103)] (mm I J) (RetI (it (fun s x => x + bts 32 ((wL P n (I 104) F F2) s) 0) 16 0) (mm (wkF (T0 I) P n F F2) J)) noT := by
  refine Sp.of (by decide +kernel) (Nat.le_of_ble_eq_true rfl) ?_
  intro X hXl C
  subst hXl
  show Go X G 3 0 0 _ 0 [.ref (G.1 + 103), uu, uu] [] (mm I J)
  have loop : ∀ k : Nat, k ≤ 16 → Go X G 3 0 0 (KQ X G iX10_leaks (RetI (it (fun s x => x + bts 32 ((wL P n (I 104) F F2) s) 0) 16 0) (mm (wkF (T0 I) P n F F2) J)) noT) 13 [.ref (G.1 + 103), .int (it (fun s x => x + bts 32 ((wL P n (I 104) F F2) s) 0) k 0), .int (nI k)] [] (mm (wkF (T0 I) P n F F2) J) := by
    refine loopN (16) ?_ ?_
    · skip
      show Go X G 3 0 0 _ 13 _ [] _
      refine g_iload_n C dX10_leaks_13 rfl ?_
      refine g_bipush (v := 16) C dX10_leaks_14 (by decide) ?_
      refine g_icmp_ge 37 C dX10_leaks_16 (by decide) (fun c16 => ?_) (fun c16 => ?_)
      · refine g_iload_n C dX10_leaks_37 rfl ?_
        exact e_I C dX10_leaks_38 rfl rfl rfl rfl rfl
      · exact absurd (Int32.le_refl _) c16
    · intro k hk ih 
      show Go X G 3 0 0 _ 13 _ [] _
      refine g_iload_n C dX10_leaks_13 rfl ?_
      refine g_bipush (v := 16) C dX10_leaks_14 (by decide) ?_
      refine g_icmp_ge 37 C dX10_leaks_16 (by decide) (fun c16 => ?_) (fun c16 => ?_)
      · exact (nI_ge_dead (n := 16) c16 hk (by omega)).elim
      · refine g_iload_n C dX10_leaks_19 rfl ?_
        refine g_aload_n C dX10_leaks_20 rfl ?_
        refine g_getR (ci := 10) (k := 26) (q := 117) C dX10_leaks_21 rfl inGX10 (by decide) fwX10_58 ly_103 (by decide) rfl rfl ?_
        refine g_iload_n C dX10_leaks_24 rfl ?_
        refine g_ialdv (v := (wL P n (I 104) F F2) k) _ C dX10_leaks_25 ly_117 (by decide) (by decide) rfl hk (wk_117 hk) ?_
        refine gs1I C dX10_leaks_26 swX10_bits mwX10_244 ⟨by decide, by decide⟩ (s_mbits _) (Nat.le_of_ble_eq_true rfl) rfl ⟨by decide, by decide⟩ ?_
        refine g_iadd C dX10_leaks_29 ?_
        refine g_istore_1 C dX10_leaks_30 (by decide) ?_
        refine g_iinc_2 C dX10_leaks_31 (nI_1 k) (by decide) ?_
        refine g_goto 13 C dX10_leaks_34 (by decide) ?_
        exact ih
  refine g_aload_n C dX10_leaks_0 rfl ?_
  refine g_iconst (v := 0) C dX10_leaks_1 (by decide) ?_
  refine g_putI (ci := 10) (k := 0) .int C dX10_leaks_2 rfl inGX10 tyX10_ok nmX10 (by decide) fwX10_80 ly_103 (by decide) rfl rfl rfl rfl rfl ?_
  refine g_aload_n C dX10_leaks_5 rfl ?_
  refine gv0V (ci := 10) C dX10_leaks_6 vwX10_works mwX10_241 ⟨by decide, by decide⟩ rfl ly_103 (Nat.le_of_ble_eq_true rfl) (s_works (mOK_T0 hm) hfu) (Nat.le_of_ble_eq_true rfl) rfl ⟨by decide, by decide⟩ ?_
  refine g_iconst (v := 0) C dX10_leaks_9 (by decide) ?_
  refine g_istore_1 C dX10_leaks_10 (by decide) ?_
  refine g_iconst (v := 0) C dX10_leaks_11 (by decide) ?_
  refine g_istore_2 C dX10_leaks_12 (by decide) ?_
  exact loop 0 (Nat.zero_le _)
def mMis (lk me : Rw) : Int32 := it (fun s x => x + bts 32 (lk s &&& (me s ^^^ (-1))) 0) 16 0
def mSrv (lk me : Rw) : Int32 := it (fun s x => x + bts 32 (lk s &&& me s) 0) 16 0
theorem s_mMis {l : Launch} {G : Gm} {I : Nat → Nat → Int32} {J : Nat → Nat → Int64} {n F F2 : Nat} {P : Pln} : Sp l G iX10_misuses [.ref (G.1 + 103)] (mm (wkF I P n F F2) J) (RetI (mMis (wL P n (I 104) F F2) (I 106)) (mm (wkF I P n F F2) J)) noT := by
  have := s_mmisuses (l := l) (G := G) (I := wkF I P n F F2) (J := J)
  rw [show it (fun s a => a + bts 32 (wkF I P n F F2 117 s &&& (wkF I P n F F2 106 s ^^^ (-1))) 0) 16 0 = mMis (wL P n (I 104) F F2) (I 106) from it_congr (fun k hk x => by
    rw [show wkF I P n F F2 117 k = wL P n (I 104) F F2 k from wk_117 hk, show wkF I P n F F2 106 k = I 106 k by unfold wkF; rw [wk_off (Or.inl (by decide))]])] at this
  exact this
set_option maxHeartbeats 1000000 in
theorem s_mmisuse {l : Launch} {G : Gm} {I : Nat → Nat → Int32} {J : Nat → Nat → Int64} {n : Nat} {P : Pln} (hm : mOK I n P) {F F2 : Nat} (hfu : ∀ g : Rw, fuOK P n g F F2) {y : Int32} : Sp l G iX10_misuse [.ref (G.1 + 103), .int y] (mm I J) (RetI (if y = 0 then mMis (wL P n (I 104) F F2) (I 106) else mSrv (wL P n (I 104) F F2) (I 106)) (mm (wkF (T0 I) P n F F2) J)) noT := by
  refine Sp.of (by decide +kernel) (Nat.le_of_ble_eq_true rfl) ?_
  intro X hXl C
  subst hXl
  show Go X G 4 0 0 _ 0 [.ref (G.1 + 103), .int y, uu, uu] [] (mm I J)
  have loop : ∀ k : Nat, k ≤ 16 → Go X G 4 0 0 (KQ X G iX10_misuse (RetI (if y = 0 then mMis (wL P n (I 104) F F2) (I 106) else mSrv (wL P n (I 104) F F2) (I 106)) (mm (wkF (T0 I) P n F F2) J)) noT) 13 [.ref (G.1 + 103), .int y, .int (it (fun s x => x + bts 32 ((wL P n (I 104) F F2) s &&& (I 106) s) 0) k 0), .int (nI k)] [] (mm (wkF (T0 I) P n F F2) J) := by
    refine loopN (16) ?_ ?_
    · skip
      show Go X G 4 0 0 _ 13 _ [] _
      refine g_iload_n C dX10_misuse_13 rfl ?_
      refine g_bipush (v := 16) C dX10_misuse_14 (by decide) ?_
      refine g_icmp_ge 44 C dX10_misuse_16 (by decide) (fun c16 => ?_) (fun c16 => ?_)
      · refine g_iload_n C dX10_misuse_44 rfl ?_
        refine g_if_eq 52 C dX10_misuse_45 (by decide) (fun c45 => ?_) (fun c45 => ?_)
        · skip
          refine g_aload_n C dX10_misuse_52 rfl ?_
          refine gv0I (ci := 10) C dX10_misuse_53 vwX10_misuses mwX10_247 ⟨by decide, by decide⟩ rfl ly_103 (Nat.le_of_ble_eq_true rfl) (s_mMis (I := T0 I)) (Nat.le_of_ble_eq_true rfl) rfl ⟨by decide, by decide⟩ ?_
          exact e_I C dX10_misuse_56 rfl rfl rfl (by first | exact (if_pos c45).symm | exact (if_neg c45).symm) rfl
        · skip
          refine g_iload_n C dX10_misuse_48 rfl ?_
          refine g_goto 56 C dX10_misuse_49 (by decide) ?_
          exact e_I C dX10_misuse_56 rfl rfl rfl (by first | exact (if_pos c45).symm | exact (if_neg c45).symm) rfl
      · exact absurd (Int32.le_refl _) c16
    · intro k hk ih 
      show Go X G 4 0 0 _ 13 _ [] _
      refine g_iload_n C dX10_misuse_13 rfl ?_
      refine g_bipush (v := 16) C dX10_misuse_14 (by decide) ?_
      refine g_icmp_ge 44 C dX10_misuse_16 (by decide) (fun c16 => ?_) (fun c16 => ?_)
      · exact (nI_ge_dead (n := 16) c16 hk (by omega)).elim
      · refine g_iload_n C dX10_misuse_19 rfl ?_
        refine g_aload_n C dX10_misuse_20 rfl ?_
        refine g_getR (ci := 10) (k := 26) (q := 117) C dX10_misuse_21 rfl inGX10 (by decide) fwX10_58 ly_103 (by decide) rfl rfl ?_
        refine g_iload_n C dX10_misuse_24 rfl ?_
        refine g_ialdv (v := (wL P n (I 104) F F2) k) _ C dX10_misuse_25 ly_117 (by decide) (by decide) rfl hk (wk_117 hk) ?_
        refine g_aload_n C dX10_misuse_26 rfl ?_
        refine g_getR (ci := 10) (k := 7) (q := 106) C dX10_misuse_27 rfl inGX10 (by decide) fwX10_20 ly_103 (by decide) rfl rfl ?_
        refine g_iload_n C dX10_misuse_30 rfl ?_
        refine g_ialdv (v := I 106 k) _ C dX10_misuse_31 ly_106 (by decide) (by decide) rfl hk (by unfold wkF; rw [wk_off (Or.inl (by decide)), T0_off (by decide)]) ?_
        refine g_iand C dX10_misuse_32 ?_
        refine gs1I C dX10_misuse_33 swX10_bits mwX10_244 ⟨by decide, by decide⟩ (s_mbits _) (Nat.le_of_ble_eq_true rfl) rfl ⟨by decide, by decide⟩ ?_
        refine g_iadd C dX10_misuse_36 ?_
        refine g_istore_2 C dX10_misuse_37 (by decide) ?_
        refine g_iinc_3 C dX10_misuse_38 (nI_1 k) (by decide) ?_
        refine g_goto 13 C dX10_misuse_41 (by decide) ?_
        exact ih
  refine g_aload_n C dX10_misuse_0 rfl ?_
  refine g_iconst (v := 0) C dX10_misuse_1 (by decide) ?_
  refine g_putI (ci := 10) (k := 0) .int C dX10_misuse_2 rfl inGX10 tyX10_ok nmX10 (by decide) fwX10_80 ly_103 (by decide) rfl rfl rfl rfl rfl ?_
  refine g_aload_n C dX10_misuse_5 rfl ?_
  refine gv0V (ci := 10) C dX10_misuse_6 vwX10_works mwX10_241 ⟨by decide, by decide⟩ rfl ly_103 (Nat.le_of_ble_eq_true rfl) (s_works (mOK_T0 hm) hfu) (Nat.le_of_ble_eq_true rfl) rfl ⟨by decide, by decide⟩ ?_
  refine g_iconst (v := 0) C dX10_misuse_9 (by decide) ?_
  refine g_istore_2 C dX10_misuse_10 (by decide) ?_
  refine g_iconst (v := 0) C dX10_misuse_11 (by decide) ?_
  refine g_istore_3 C dX10_misuse_12 (by decide) ?_
  exact loop 0 (Nat.zero_le _)
/-- the i-th misuse as the model looks for it -/
def mAtM (w : Rw) (i : Int32) : Nat → Nat → Int32 → Int32
  | 0, _, _ => -1
  | f + 1, q, b => if w (q / 16) &&& bt (q % 16) = 0 then mAtM w i f (q + 1) b else if b = i then 100 * nI (q / 16) + nI (q % 16) else mAtM w i f (q + 1) (b + 1)
set_option maxHeartbeats 1000000 in
theorem s_mwrong {l : Launch} {G : Gm} {I : Nat → Nat → Int32} {J : Nat → Nat → Int64} {n : Nat} {P : Pln} (hm : mOK I n P) {F F2 : Nat} (hfu : ∀ g : Rw, fuOK P n g F F2) {i : Int32} : Sp l G iX10_wrong [.ref (G.1 + 103), .int i] (mm I J) (RetI (mAtM (fun s => (wL P n (I 104) F F2) s &&& (I 106 s ^^^ (-1))) i 256 0 0) (mm (wkF (T0 I) P n F F2) J)) noT := by
  refine Sp.of (by decide +kernel) (Nat.le_of_ble_eq_true rfl) ?_
  intro X hXl C
  subst hXl
  show Go X G 5 0 0 _ 0 [.ref (G.1 + 103), .int i, uu, uu, uu] [] (mm I J)
  have lp : ∀ s : Nat, s ≤ 16 → ∀ (b : Int32) (a4 : Value), mAtM (fun s => (wL P n (I 104) F F2) s &&& (I 106 s ^^^ (-1))) i (256 - 16 * s) (16 * s) b = mAtM (fun s => (wL P n (I 104) F F2) s &&& (I 106 s ^^^ (-1))) i 256 0 0 → Go X G 5 0 0 (KQ X G iX10_wrong (RetI (mAtM (fun s => (wL P n (I 104) F F2) s &&& (I 106 s ^^^ (-1))) i 256 0 0) (mm (wkF (T0 I) P n F F2) J)) noT) 13 [.ref (G.1 + 103), .int i, .int b, .int (nI s), a4] [] (mm (wkF (T0 I) P n F F2) J) := by
    refine loopN (16) ?_ ?_
    · intro b a4 hf
      show Go X G 5 0 0 _ 13 _ [] _
      refine g_iload_n C dX10_wrong_13 rfl ?_
      refine g_bipush (v := 16) C dX10_wrong_14 (by decide) ?_
      refine g_icmp_ge 83 C dX10_wrong_16 (by decide) (fun c16 => ?_) (fun c16 => ?_)
      · refine g_iconst (v := (-1)) C dX10_wrong_83 (by decide) ?_
        exact e_I C dX10_wrong_84 rfl rfl rfl hf rfl
      · exact absurd (Int32.le_refl _) c16
    · intro s hs ihs b a4 hf
      show Go X G 5 0 0 _ 13 _ [] _
      have inner : ∀ d : Nat, d ≤ 16 → ∀ b : Int32, mAtM (fun s => (wL P n (I 104) F F2) s &&& (I 106 s ^^^ (-1))) i (256 - 16 * s - d) (16 * s + d) b = mAtM (fun s => (wL P n (I 104) F F2) s &&& (I 106 s ^^^ (-1))) i 256 0 0 → Go X G 5 0 0 (KQ X G iX10_wrong (RetI (mAtM (fun s => (wL P n (I 104) F F2) s &&& (I 106 s ^^^ (-1))) i 256 0 0) (mm (wkF (T0 I) P n F F2) J)) noT) 22 [.ref (G.1 + 103), .int i, .int b, .int (nI s), .int (nI d)] [] (mm (wkF (T0 I) P n F F2) J) := by
        refine loopN (16) ?_ ?_
        · intro b hf
          show Go X G 5 0 0 _ 22 _ [] _
          refine g_iload C dX10_wrong_22 rfl ?_
          refine g_bipush (v := 16) C dX10_wrong_24 (by decide) ?_
          refine g_icmp_ge 77 C dX10_wrong_26 (by decide) (fun c26 => ?_) (fun c26 => ?_)
          · refine g_iinc_3 C dX10_wrong_77 (nI_1 s) (by decide) ?_
            refine g_goto 13 C dX10_wrong_80 (by decide) ?_
            exact ihs _ _ (by rw [show 256 - 16 * (s + 1) = 256 - 16 * s - 16 by omega, show 16 * (s + 1) = 16 * s + 16 by omega]; exact hf)
          · exact absurd (Int32.le_refl _) c26
        · intro d hd ihd b hf
          show Go X G 5 0 0 _ 22 _ [] _
          refine g_iload C dX10_wrong_22 rfl ?_
          refine g_bipush (v := 16) C dX10_wrong_24 (by decide) ?_
          refine g_icmp_ge 77 C dX10_wrong_26 (by decide) (fun c26 => ?_) (fun c26 => ?_)
          · exact (nI_ge_dead (n := 16) c26 hd (by omega)).elim
          · rw [show 256 - 16 * s - d = (256 - 16 * s - (d + 1)) + 1 by omega, mAtM, show (16 * s + d) % 16 = d by omega, show (16 * s + d) / 16 = s by omega] at hf
            refine g_aload_n C dX10_wrong_29 rfl ?_
            refine g_getR (ci := 10) (k := 26) (q := 117) C dX10_wrong_30 rfl inGX10 (by decide) fwX10_58 ly_103 (by decide) rfl rfl ?_
            refine g_iload_n C dX10_wrong_33 rfl ?_
            refine g_ialdv (v := (wL P n (I 104) F F2) s) _ C dX10_wrong_34 ly_117 (by decide) (by decide) rfl hs (wk_117 hs) ?_
            refine g_aload_n C dX10_wrong_35 rfl ?_
            refine g_getR (ci := 10) (k := 7) (q := 106) C dX10_wrong_36 rfl inGX10 (by decide) fwX10_20 ly_103 (by decide) rfl rfl ?_
            refine g_iload_n C dX10_wrong_39 rfl ?_
            refine g_ialdv (v := I 106 s) _ C dX10_wrong_40 ly_106 (by decide) (by decide) rfl hs (by unfold wkF; rw [wk_off (Or.inl (by decide)), T0_off (by decide)]) ?_
            refine g_iconst (v := (-1)) C dX10_wrong_41 (by decide) ?_
            refine g_ixor C dX10_wrong_42 ?_
            refine g_iand C dX10_wrong_43 ?_
            refine g_iconst (v := 1) C dX10_wrong_44 (by decide) ?_
            refine g_iload C dX10_wrong_45 rfl ?_
            refine g_ishl C dX10_wrong_47 ?_
            refine g_iand C dX10_wrong_48 ?_
            refine g_if_ne 55 C dX10_wrong_49 (by decide) (fun c49 => ?_) (fun c49 => ?_)
            · replace hf := (if_neg (show ¬ ((wL P n (I 104) F F2) s &&& (I 106 s ^^^ (-1))) &&& bt d = 0 from c49)).symm.trans hf
              refine g_iload_n C dX10_wrong_55 rfl ?_
              refine g_iload_n C dX10_wrong_56 rfl ?_
              refine g_icmp_ne 68 C dX10_wrong_57 (by decide) (fun c57 => ?_) (fun c57 => ?_)
              · rw [if_neg c57] at hf
                refine g_iinc_2 C dX10_wrong_68 rfl (by decide) ?_
                refine g_iinc_4 C dX10_wrong_71 (nI_1 d) (by decide) ?_
                refine g_goto 22 C dX10_wrong_74 (by decide) ?_
                exact ihd _ hf
              · rw [if_pos c57] at hf
                refine g_bipush (v := 100) C dX10_wrong_60 (by decide) ?_
                refine g_iload_n C dX10_wrong_62 rfl ?_
                refine g_imul C dX10_wrong_63 ?_
                refine g_iload C dX10_wrong_64 rfl ?_
                refine g_iadd C dX10_wrong_66 ?_
                exact e_I C dX10_wrong_67 rfl rfl rfl hf rfl
            · replace hf := (if_pos (show ((wL P n (I 104) F F2) s &&& (I 106 s ^^^ (-1))) &&& bt d = 0 from c49)).symm.trans hf
              refine g_goto 71 C dX10_wrong_52 (by decide) ?_
              refine g_iinc_4 C dX10_wrong_71 (nI_1 d) (by decide) ?_
              refine g_goto 22 C dX10_wrong_74 (by decide) ?_
              exact ihd _ hf
      refine g_iload_n C dX10_wrong_13 rfl ?_
      refine g_bipush (v := 16) C dX10_wrong_14 (by decide) ?_
      refine g_icmp_ge 83 C dX10_wrong_16 (by decide) (fun c16 => ?_) (fun c16 => ?_)
      · exact (nI_ge_dead (n := 16) c16 hs (by omega)).elim
      · refine g_iconst (v := 0) C dX10_wrong_19 (by decide) ?_
        refine g_istore_4 C dX10_wrong_20 (by decide) ?_
        exact inner 0 (Nat.zero_le _) _ hf
  refine g_aload_n C dX10_wrong_0 rfl ?_
  refine g_iconst (v := 0) C dX10_wrong_1 (by decide) ?_
  refine g_putI (ci := 10) (k := 0) .int C dX10_wrong_2 rfl inGX10 tyX10_ok nmX10 (by decide) fwX10_80 ly_103 (by decide) rfl rfl rfl rfl rfl ?_
  refine g_aload_n C dX10_wrong_5 rfl ?_
  refine gv0V (ci := 10) C dX10_wrong_6 vwX10_works mwX10_241 ⟨by decide, by decide⟩ rfl ly_103 (Nat.le_of_ble_eq_true rfl) (s_works (mOK_T0 hm) hfu) (Nat.le_of_ble_eq_true rfl) rfl ⟨by decide, by decide⟩ ?_
  refine g_iconst (v := 0) C dX10_wrong_9 (by decide) ?_
  refine g_istore_2 C dX10_wrong_10 (by decide) ?_
  refine g_iconst (v := 0) C dX10_wrong_11 (by decide) ?_
  refine g_istore_3 C dX10_wrong_12 (by decide) ?_
  exact lp 0 (Nat.zero_le _) _ _ rfl
theorem nP_cg {P : Pln} {a b : Rw} {p : Nat} (h : a p = b p) : nP P a p = nP P b p := by unfold nP; rw [h]
set_option maxHeartbeats 1000000 in
theorem s_mneeded {l : Launch} {G : Gm} {I : Nat → Nat → Int32} {J : Nat → Nat → Int64} {n : Nat} {P : Pln} (hm : mOK I n P) {F F2 : Nat} (hfu : ∀ g : Rw, fuOK P n g F F2) {p : Nat} (hp : p < n) : Sp l G iX10_needed [.ref (G.1 + 103), .int (nI p)] (mm I J) (RetI (nP P (wA P n F) p) (mm (akF (T0 I) P n F) J)) noT := by
  refine Sp.of (by decide +kernel) (Nat.le_of_ble_eq_true rfl) ?_
  intro X hXl C
  subst hXl
  show Go X G 2 0 0 _ 0 [.ref (G.1 + 103), .int (nI p)] [] (mm I J)
  have hn10 := hm.1.1
  have hn := hm.2.1
  have hpp : ¬ nI p < 0 ∧ nI p < I 103 4 := ⟨nI_pos (by omega), by rw [hn]; exact nI_lt hp (by omega)⟩
  refine g_aload_n C dX10_needed_0 rfl ?_
  refine g_iconst (v := 0) C dX10_needed_1 (by decide) ?_
  refine g_putI (ci := 10) (k := 0) .int C dX10_needed_2 rfl inGX10 tyX10_ok nmX10 (by decide) fwX10_80 ly_103 (by decide) rfl rfl rfl rfl rfl ?_
  refine g_aload_n C dX10_needed_5 rfl ?_
  refine g_iload_n C dX10_needed_6 rfl ?_
  refine gv1I (ci := 10) C dX10_needed_7 vwX10_isPart mwX10_101 ⟨by decide, by decide⟩ rfl ly_103 (Nat.le_of_ble_eq_true rfl) (s_isPart _) (Nat.le_of_ble_eq_true rfl) rfl ⟨by decide, by decide⟩ ?_
  refine g_if_ne 15 C dX10_needed_10 (by decide) (fun c10 => ?_) (fun c10 => ?_)
  · refine g_aload_n C dX10_needed_15 rfl ?_
    refine gv0V (ci := 10) C dX10_needed_16 vwX10_asks mwX10_231 ⟨by decide, by decide⟩ rfl ly_103 (Nat.le_of_ble_eq_true rfl) (s_asksI (mOK_T0 hm) hfu) (Nat.le_of_ble_eq_true rfl) rfl ⟨by decide, by decide⟩ ?_
    refine g_aload_n C dX10_needed_19 rfl ?_
    refine g_iload_n C dX10_needed_20 rfl ?_
    refine gv1I (ci := 10) C dX10_needed_21 vwX10_neededOf mwX10_269 ⟨by decide, by decide⟩ rfl ly_103 (Nat.le_of_ble_eq_true rfl) (s_nP (mOK_ak (mOK_T0 hm)) hp) (Nat.le_of_ble_eq_true rfl) rfl ⟨by decide, by decide⟩ ?_
    rw [show nP P (akF (T0 I) P n F 118) p = nP P (wA P n F) p from nP_cg (wk_118 (by omega))]
    exact e_I C dX10_needed_24 rfl rfl rfl rfl rfl
  · exact absurd hpp (if01.mp c10)
set_option maxHeartbeats 1000000 in
theorem s_midle {l : Launch} {G : Gm} {I : Nat → Nat → Int32} {J : Nat → Nat → Int64} {n : Nat} {P : Pln} (hm : mOK I n P) {F F2 : Nat} (hfu : ∀ g : Rw, fuOK P n g F F2) {p : Nat} (hp : p < n) : Sp l G iX10_idle [.ref (G.1 + 103), .int (nI p)] (mm I J) (RetI (I 104 p &&& (nP P (wA P n F) p ^^^ (-1))) (mm (akF (T0 I) P n F) J)) noT := by
  refine Sp.of (by decide +kernel) (Nat.le_of_ble_eq_true rfl) ?_
  intro X hXl C
  subst hXl
  show Go X G 2 0 0 _ 0 [.ref (G.1 + 103), .int (nI p)] [] (mm I J)
  have hn10 := hm.1.1
  have hn := hm.2.1
  have hpp : ¬ nI p < 0 ∧ nI p < I 103 4 := ⟨nI_pos (by omega), by rw [hn]; exact nI_lt hp (by omega)⟩
  refine g_aload_n C dX10_idle_0 rfl ?_
  refine g_iconst (v := 0) C dX10_idle_1 (by decide) ?_
  refine g_putI (ci := 10) (k := 0) .int C dX10_idle_2 rfl inGX10 tyX10_ok nmX10 (by decide) fwX10_80 ly_103 (by decide) rfl rfl rfl rfl rfl ?_
  refine g_aload_n C dX10_idle_5 rfl ?_
  refine g_iload_n C dX10_idle_6 rfl ?_
  refine gv1I (ci := 10) C dX10_idle_7 vwX10_isPart mwX10_101 ⟨by decide, by decide⟩ rfl ly_103 (Nat.le_of_ble_eq_true rfl) (s_isPart _) (Nat.le_of_ble_eq_true rfl) rfl ⟨by decide, by decide⟩ ?_
  refine g_if_ne 15 C dX10_idle_10 (by decide) (fun c10 => ?_) (fun c10 => ?_)
  · refine g_aload_n C dX10_idle_15 rfl ?_
    refine gv0V (ci := 10) C dX10_idle_16 vwX10_asks mwX10_231 ⟨by decide, by decide⟩ rfl ly_103 (Nat.le_of_ble_eq_true rfl) (s_asksI (mOK_T0 hm) hfu) (Nat.le_of_ble_eq_true rfl) rfl ⟨by decide, by decide⟩ ?_
    refine g_aload_n C dX10_idle_19 rfl ?_
    refine g_getR (ci := 10) (k := 5) (q := 104) C dX10_idle_20 rfl inGX10 (by decide) fwX10_13 ly_103 (by decide) rfl rfl ?_
    refine g_iload_n C dX10_idle_23 rfl ?_
    refine g_ialdv (v := I 104 p) _ C dX10_idle_24 ly_104 (by decide) (by decide) rfl (show p < 10 by omega) (by unfold akF; rw [wk_off (Or.inl (by decide)), T0_off (by decide)]) ?_
    refine g_aload_n C dX10_idle_25 rfl ?_
    refine g_iload_n C dX10_idle_26 rfl ?_
    refine gv1I (ci := 10) C dX10_idle_27 vwX10_neededOf mwX10_269 ⟨by decide, by decide⟩ rfl ly_103 (Nat.le_of_ble_eq_true rfl) (s_nP (mOK_ak (mOK_T0 hm)) hp) (Nat.le_of_ble_eq_true rfl) rfl ⟨by decide, by decide⟩ ?_
    rw [show nP P (akF (T0 I) P n F 118) p = nP P (wA P n F) p from nP_cg (wk_118 (by omega))]
    refine g_iconst (v := (-1)) C dX10_idle_30 (by decide) ?_
    refine g_ixor C dX10_idle_31 ?_
    refine g_iand C dX10_idle_32 ?_
    exact e_I C dX10_idle_33 rfl rfl rfl rfl rfl
  · exact absurd hpp (if01.mp c10)
set_option maxHeartbeats 1000000 in
theorem s_mlacking {l : Launch} {G : Gm} {I : Nat → Nat → Int32} {J : Nat → Nat → Int64} {n : Nat} {P : Pln} (hm : mOK I n P) {F F2 : Nat} (hfu : ∀ g : Rw, fuOK P n g F F2) {p : Nat} (hp : p < n) : Sp l G iX10_lacking [.ref (G.1 + 103), .int (nI p)] (mm I J) (RetI (nP P (wA P n F) p &&& (I 104 p ^^^ (-1))) (mm (akF (T0 I) P n F) J)) noT := by
  refine Sp.of (by decide +kernel) (Nat.le_of_ble_eq_true rfl) ?_
  intro X hXl C
  subst hXl
  show Go X G 2 0 0 _ 0 [.ref (G.1 + 103), .int (nI p)] [] (mm I J)
  have hn10 := hm.1.1
  have hn := hm.2.1
  have hpp : ¬ nI p < 0 ∧ nI p < I 103 4 := ⟨nI_pos (by omega), by rw [hn]; exact nI_lt hp (by omega)⟩
  refine g_aload_n C dX10_lacking_0 rfl ?_
  refine g_iconst (v := 0) C dX10_lacking_1 (by decide) ?_
  refine g_putI (ci := 10) (k := 0) .int C dX10_lacking_2 rfl inGX10 tyX10_ok nmX10 (by decide) fwX10_80 ly_103 (by decide) rfl rfl rfl rfl rfl ?_
  refine g_aload_n C dX10_lacking_5 rfl ?_
  refine g_iload_n C dX10_lacking_6 rfl ?_
  refine gv1I (ci := 10) C dX10_lacking_7 vwX10_isPart mwX10_101 ⟨by decide, by decide⟩ rfl ly_103 (Nat.le_of_ble_eq_true rfl) (s_isPart _) (Nat.le_of_ble_eq_true rfl) rfl ⟨by decide, by decide⟩ ?_
  refine g_if_ne 15 C dX10_lacking_10 (by decide) (fun c10 => ?_) (fun c10 => ?_)
  · refine g_aload_n C dX10_lacking_15 rfl ?_
    refine gv0V (ci := 10) C dX10_lacking_16 vwX10_asks mwX10_231 ⟨by decide, by decide⟩ rfl ly_103 (Nat.le_of_ble_eq_true rfl) (s_asksI (mOK_T0 hm) hfu) (Nat.le_of_ble_eq_true rfl) rfl ⟨by decide, by decide⟩ ?_
    refine g_aload_n C dX10_lacking_19 rfl ?_
    refine g_iload_n C dX10_lacking_20 rfl ?_
    refine gv1I (ci := 10) C dX10_lacking_21 vwX10_neededOf mwX10_269 ⟨by decide, by decide⟩ rfl ly_103 (Nat.le_of_ble_eq_true rfl) (s_nP (mOK_ak (mOK_T0 hm)) hp) (Nat.le_of_ble_eq_true rfl) rfl ⟨by decide, by decide⟩ ?_
    rw [show nP P (akF (T0 I) P n F 118) p = nP P (wA P n F) p from nP_cg (wk_118 (by omega))]
    refine g_aload_n C dX10_lacking_24 rfl ?_
    refine g_getR (ci := 10) (k := 5) (q := 104) C dX10_lacking_25 rfl inGX10 (by decide) fwX10_13 ly_103 (by decide) rfl rfl ?_
    refine g_iload_n C dX10_lacking_28 rfl ?_
    refine g_ialdv (v := I 104 p) _ C dX10_lacking_29 ly_104 (by decide) (by decide) rfl (show p < 10 by omega) (by unfold akF; rw [wk_off (Or.inl (by decide)), T0_off (by decide)]) ?_
    refine g_iconst (v := (-1)) C dX10_lacking_30 (by decide) ?_
    refine g_ixor C dX10_lacking_31 ?_
    refine g_iand C dX10_lacking_32 ?_
    exact e_I C dX10_lacking_33 rfl rfl rfl rfl rfl
  · exact absurd hpp (if01.mp c10)
def tmM (P : Pln) (a : Rw) (p : Nat) (s : Int32 × Rw) : Int32 × Rw := (s.1 + bts 32 (s.2 p &&& (nP P a p ^^^ (-1))) 0, upd s.2 p (s.2 p &&& ((s.2 p &&& (nP P a p ^^^ (-1))) ^^^ (-1))))
theorem mOK_st {I : Nat → Nat → Int32} {n : Nat} {P : Pln} {g : Rw} (hm : mOK I n P) : mOK (stRow I 104 10 g) n P := mOK_cg (by rw [stRow_off (by decide)]) (fun q hq => stRow_off (by omega)) hm
set_option maxHeartbeats 1000000 in
theorem s_mtrim {l : Launch} {G : Gm} {I : Nat → Nat → Int32} {J : Nat → Nat → Int64} {n : Nat} {P : Pln} (hm : mOK I n P) {F F2 : Nat} (hfu : ∀ g : Rw, fuOK P n g F F2) : Sp l G iX10_trim [.ref (G.1 + 103)] (mm I J) (RetI (it (tmM P (wA P n F)) n (0, I 104)).1 (mm (stRow (akF (T0 I) P n F) 104 10 (it (tmM P (wA P n F)) n (0, I 104)).2) J)) noT := by
  refine Sp.of (by decide +kernel) (Nat.le_of_ble_eq_true rfl) ?_
  intro X hXl C
  subst hXl
  show Go X G 4 0 0 _ 0 [.ref (G.1 + 103), uu, uu, uu] [] (mm I J)
  have hn10 := hm.1.1
  have hn := hm.2.1
  have loop : ∀ k : Nat, k ≤ n → ∀ a3 : Value, Go X G 4 0 0 (KQ X G iX10_trim (RetI (it (tmM P (wA P n F)) n (0, I 104)).1 (mm (stRow (akF (T0 I) P n F) 104 10 (it (tmM P (wA P n F)) n (0, I 104)).2) J)) noT) 13 [.ref (G.1 + 103), .int (it (tmM P (wA P n F)) k (0, I 104)).1, .int (nI k), a3] [] (mm (stRow (akF (T0 I) P n F) 104 10 (it (tmM P (wA P n F)) k (0, I 104)).2) J) := by
    refine loopN (n) ?_ ?_
    · intro a3
      show Go X G 4 0 0 _ 13 _ [] _
      refine g_iload_n C dX10_trim_13 rfl ?_
      refine g_aload_n C dX10_trim_14 rfl ?_
      refine g_getIv (ci := 10) (k := 4) (v := nI n) C dX10_trim_15 rfl inGX10 (by decide) fwX10_86 ly_103 (by decide) rfl (by rw [stRow_off (by decide)]; unfold akF; rw [wk_off (Or.inl (by decide)), T0_103 (by decide)]; exact hn) ?_
      refine g_icmp_ge 61 C dX10_trim_18 (by decide) (fun c18 => ?_) (fun c18 => ?_)
      · refine g_iload_n C dX10_trim_61 rfl ?_
        exact e_I C dX10_trim_62 rfl rfl rfl rfl rfl
      · exact absurd (Int32.le_refl _) c18
    · intro k hk ih a3
      show Go X G 4 0 0 _ 13 _ [] _
      refine g_iload_n C dX10_trim_13 rfl ?_
      refine g_aload_n C dX10_trim_14 rfl ?_
      refine g_getIv (ci := 10) (k := 4) (v := nI n) C dX10_trim_15 rfl inGX10 (by decide) fwX10_86 ly_103 (by decide) rfl (by rw [stRow_off (by decide)]; unfold akF; rw [wk_off (Or.inl (by decide)), T0_103 (by decide)]; exact hn) ?_
      refine g_icmp_ge 61 C dX10_trim_18 (by decide) (fun c18 => ?_) (fun c18 => ?_)
      · exact (nI_ge_dead (n := n) c18 hk (by omega)).elim
      · refine g_aload_n C dX10_trim_21 rfl ?_
        refine g_getR (ci := 10) (k := 5) (q := 104) C dX10_trim_22 rfl inGX10 (by decide) fwX10_13 ly_103 (by decide) rfl rfl ?_
        refine g_iload_n C dX10_trim_25 rfl ?_
        refine g_ialdv (v := (it (tmM P (wA P n F)) k (0, I 104)).2 k) _ C dX10_trim_26 ly_104 (by decide) (by decide) rfl (show k < 10 by omega) (stRow_in (by omega)) ?_
        refine g_aload_n C dX10_trim_27 rfl ?_
        refine g_iload_n C dX10_trim_28 rfl ?_
        refine gv1I (ci := 10) C dX10_trim_29 vwX10_neededOf mwX10_269 ⟨by decide, by decide⟩ rfl ly_103 (Nat.le_of_ble_eq_true rfl) (s_nP (mOK_st (mOK_ak (mOK_T0 hm))) hk) (Nat.le_of_ble_eq_true rfl) rfl ⟨by decide, by decide⟩ ?_
        rw [show nP P (stRow (akF (T0 I) P n F) 104 10 (it (tmM P (wA P n F)) k (0, I 104)).2 118) k = nP P (wA P n F) k from nP_cg (by rw [stRow_off (by decide)]; exact wk_118 (by omega))]
        refine g_iconst (v := (-1)) C dX10_trim_32 (by decide) ?_
        refine g_ixor C dX10_trim_33 ?_
        refine g_iand C dX10_trim_34 ?_
        refine g_istore_3 C dX10_trim_35 (by decide) ?_
        refine g_iload_n C dX10_trim_36 rfl ?_
        refine g_iload_n C dX10_trim_37 rfl ?_
        refine gs1I C dX10_trim_38 swX10_bits mwX10_244 ⟨by decide, by decide⟩ (s_mbits _) (Nat.le_of_ble_eq_true rfl) rfl ⟨by decide, by decide⟩ ?_
        refine g_iadd C dX10_trim_41 ?_
        refine g_istore_1 C dX10_trim_42 (by decide) ?_
        refine g_aload_n C dX10_trim_43 rfl ?_
        refine g_getR (ci := 10) (k := 5) (q := 104) C dX10_trim_44 rfl inGX10 (by decide) fwX10_13 ly_103 (by decide) rfl rfl ?_
        refine g_iload_n C dX10_trim_47 rfl ?_
        refine g_dup2 C dX10_trim_48 rfl rfl ?_
        refine g_ialdv (v := (it (tmM P (wA P n F)) k (0, I 104)).2 k) _ C dX10_trim_49 ly_104 (by decide) (by decide) rfl (show k < 10 by omega) (stRow_in (by omega)) ?_
        refine g_iload_n C dX10_trim_50 rfl ?_
        refine g_iconst (v := (-1)) C dX10_trim_51 (by decide) ?_
        refine g_ixor C dX10_trim_52 ?_
        refine g_iand C dX10_trim_53 ?_
        refine g_iast _ C dX10_trim_54 ly_104 (by decide) (by decide) rfl (show k < 10 by omega) ?_
        refine g_iinc_2 C dX10_trim_55 (nI_1 k) (by decide) ?_
        refine g_goto 13 C dX10_trim_58 (by decide) ?_
        rw [stRow_up (show k < 10 by omega)]
        exact ih _
  refine g_aload_n C dX10_trim_0 rfl ?_
  refine g_iconst (v := 0) C dX10_trim_1 (by decide) ?_
  refine g_putI (ci := 10) (k := 0) .int C dX10_trim_2 rfl inGX10 tyX10_ok nmX10 (by decide) fwX10_80 ly_103 (by decide) rfl rfl rfl rfl rfl ?_
  refine g_aload_n C dX10_trim_5 rfl ?_
  refine gv0V (ci := 10) C dX10_trim_6 vwX10_asks mwX10_231 ⟨by decide, by decide⟩ rfl ly_103 (Nat.le_of_ble_eq_true rfl) (s_asksI (mOK_T0 hm) hfu) (Nat.le_of_ble_eq_true rfl) rfl ⟨by decide, by decide⟩ ?_
  refine g_iconst (v := 0) C dX10_trim_9 (by decide) ?_
  refine g_istore_1 C dX10_trim_10 (by decide) ?_
  refine g_iconst (v := 0) C dX10_trim_11 (by decide) ?_
  refine g_istore_2 C dX10_trim_12 (by decide) ?_
  have h0 := loop 0 (Nat.zero_le _)
  rw [show (it (tmM P (wA P n F)) 0 (0, I 104)).2 = (akF (T0 I) P n F) 104 by (unfold akF; rw [wk_off (Or.inl (by decide)), T0_off (by decide)]; rfl), stRow_self] at h0
  exact h0 _
def wlS (lk sv : Rw) (s : Nat) (w : Int32) : Int32 := if w = 0 then 0 else if lk s = sv s then 1 else 0
theorem wlS_or (lk sv : Rw) : ∀ k, it (wlS lk sv) k 1 = 0 ∨ it (wlS lk sv) k 1 = 1
  | 0 => Or.inr rfl
  | k + 1 => by
    show wlS lk sv k (it (wlS lk sv) k 1) = 0 ∨ wlS lk sv k (it (wlS lk sv) k 1) = 1
    unfold wlS
    split
    · exact Or.inl rfl
    · split
      · exact Or.inr rfl
      · exact Or.inl rfl
set_option maxHeartbeats 1000000 in
theorem s_isWell {l : Launch} {G : Gm} {I : Nat → Nat → Int32} {J : Nat → Nat → Int64} {n : Nat} {P : Pln} (hm : mOK I n P) {F F2 : Nat} (hfu : ∀ g : Rw, fuOK P n g F F2) : Sp l G iX10_isWell [.ref (G.1 + 103)] (mm I J) (RetI (it (wlS (wL P n (I 104) F F2) (I 123)) 16 1) (mm (wkF I P n F F2) J)) noT := by
  refine Sp.of (by decide +kernel) (Nat.le_of_ble_eq_true rfl) ?_
  intro X hXl C
  subst hXl
  show Go X G 3 0 0 _ 0 [.ref (G.1 + 103), uu, uu] [] (mm I J)
  have loop : ∀ k : Nat, k ≤ 16 → Go X G 3 0 0 (KQ X G iX10_isWell (RetI (it (wlS (wL P n (I 104) F F2) (I 123)) 16 1) (mm (wkF I P n F F2) J)) noT) 8 [.ref (G.1 + 103), .int (it (wlS (wL P n (I 104) F F2) (I 123)) k 1), .int (nI k)] [] (mm (wkF I P n F F2) J) := by
    refine loopN (16) ?_ ?_
    · skip
      show Go X G 3 0 0 _ 8 _ [] _
      refine g_iload_n C dX10_isWell_8 rfl ?_
      refine g_bipush (v := 16) C dX10_isWell_9 (by decide) ?_
      refine g_icmp_ge 45 C dX10_isWell_11 (by decide) (fun c11 => ?_) (fun c11 => ?_)
      · refine g_iload_n C dX10_isWell_45 rfl ?_
        exact e_Z C dX10_isWell_46 rfl rfl rfl (wlS_or _ _ 16) rfl rfl
      · exact absurd (Int32.le_refl _) c11
    · intro k hk ih 
      show Go X G 3 0 0 _ 8 _ [] _
      refine g_iload_n C dX10_isWell_8 rfl ?_
      refine g_bipush (v := 16) C dX10_isWell_9 (by decide) ?_
      refine g_icmp_ge 45 C dX10_isWell_11 (by decide) (fun c11 => ?_) (fun c11 => ?_)
      · exact (nI_ge_dead (n := 16) c11 hk (by omega)).elim
      · refine g_iload_n C dX10_isWell_14 rfl ?_
        refine g_if_eq 37 C dX10_isWell_15 (by decide) (fun c15 => ?_) (fun c15 => ?_)
        · refine g_iconst (v := 0) C dX10_isWell_37 (by decide) ?_
          refine g_istore_1 C dX10_isWell_38 (by decide) ?_
          refine g_iinc_2 C dX10_isWell_39 (nI_1 k) (by decide) ?_
          refine g_goto 8 C dX10_isWell_42 (by decide) ?_
          first
            | (have h9 : it (wlS (wL P n (I 104) F F2) (I 123)) (k + 1) 1 = 0 := if_pos c15
               rw [h9] at ih; exact ih)
            | (have h9 : it (wlS (wL P n (I 104) F F2) (I 123)) (k + 1) 1 = 1 := (if_neg c15).trans (if_pos c30)
               rw [h9] at ih; exact ih)
            | (have h9 : it (wlS (wL P n (I 104) F F2) (I 123)) (k + 1) 1 = 0 := (if_neg c15).trans (if_neg c30)
               rw [h9] at ih; exact ih)
        · refine g_aload_n C dX10_isWell_18 rfl ?_
          refine g_getR (ci := 10) (k := 26) (q := 117) C dX10_isWell_19 rfl inGX10 (by decide) fwX10_58 ly_103 (by decide) rfl rfl ?_
          refine g_iload_n C dX10_isWell_22 rfl ?_
          refine g_ialdv (v := (wL P n (I 104) F F2) k) _ C dX10_isWell_23 ly_117 (by decide) (by decide) rfl hk (wk_117 hk) ?_
          refine g_aload_n C dX10_isWell_24 rfl ?_
          refine g_getR (ci := 10) (k := 33) (q := 123) C dX10_isWell_25 rfl inGX10 (by decide) fwX10_77 ly_103 (by decide) rfl rfl ?_
          refine g_iload_n C dX10_isWell_28 rfl ?_
          refine g_ialdv (v := I 123 k) _ C dX10_isWell_29 ly_123 (by decide) (by decide) rfl hk (by unfold wkF; rw [wk_off (Or.inr (by decide))]) ?_
          refine g_icmp_ne 37 C dX10_isWell_30 (by decide) (fun c30 => ?_) (fun c30 => ?_)
          · refine g_iconst (v := 0) C dX10_isWell_37 (by decide) ?_
            refine g_istore_1 C dX10_isWell_38 (by decide) ?_
            refine g_iinc_2 C dX10_isWell_39 (nI_1 k) (by decide) ?_
            refine g_goto 8 C dX10_isWell_42 (by decide) ?_
            first
              | (have h9 : it (wlS (wL P n (I 104) F F2) (I 123)) (k + 1) 1 = 0 := if_pos c15
                 rw [h9] at ih; exact ih)
              | (have h9 : it (wlS (wL P n (I 104) F F2) (I 123)) (k + 1) 1 = 1 := (if_neg c15).trans (if_pos c30)
                 rw [h9] at ih; exact ih)
              | (have h9 : it (wlS (wL P n (I 104) F F2) (I 123)) (k + 1) 1 = 0 := (if_neg c15).trans (if_neg c30)
                 rw [h9] at ih; exact ih)
          · refine g_iconst (v := 1) C dX10_isWell_33 (by decide) ?_
            refine g_goto 38 C dX10_isWell_34 (by decide) ?_
            refine g_istore_1 C dX10_isWell_38 (by decide) ?_
            refine g_iinc_2 C dX10_isWell_39 (nI_1 k) (by decide) ?_
            refine g_goto 8 C dX10_isWell_42 (by decide) ?_
            first
              | (have h9 : it (wlS (wL P n (I 104) F F2) (I 123)) (k + 1) 1 = 0 := if_pos c15
                 rw [h9] at ih; exact ih)
              | (have h9 : it (wlS (wL P n (I 104) F F2) (I 123)) (k + 1) 1 = 1 := (if_neg c15).trans (if_pos c30)
                 rw [h9] at ih; exact ih)
              | (have h9 : it (wlS (wL P n (I 104) F F2) (I 123)) (k + 1) 1 = 0 := (if_neg c15).trans (if_neg c30)
                 rw [h9] at ih; exact ih)
  refine g_aload_n C dX10_isWell_0 rfl ?_
  refine gv0V (ci := 10) C dX10_isWell_1 vwX10_works mwX10_241 ⟨by decide, by decide⟩ rfl ly_103 (Nat.le_of_ble_eq_true rfl) (s_works hm hfu) (Nat.le_of_ble_eq_true rfl) rfl ⟨by decide, by decide⟩ ?_
  refine g_iconst (v := 1) C dX10_isWell_4 (by decide) ?_
  refine g_istore_1 C dX10_isWell_5 (by decide) ?_
  refine g_iconst (v := 0) C dX10_isWell_6 (by decide) ?_
  refine g_istore_2 C dX10_isWell_7 (by decide) ?_
  exact loop 0 (Nat.zero_le _)
set_option maxHeartbeats 1000000 in
theorem s_mwithout1 {l : Launch} {G : Gm} {I : Nat → Nat → Int32} {J : Nat → Nat → Int64} {x y : Int32} (h : ¬ (¬ x < 0 ∧ x < I 103 4)) : Sp l G iX10_without [.ref (G.1 + 103), .int x, .int y] (mm I J) (RetI (-1) (mm (tr (T0 I) 1) J)) noT := by
  refine Sp.of (by decide +kernel) (Nat.le_of_ble_eq_true rfl) ?_
  intro X hXl C
  subst hXl
  show Go X G 4 0 0 _ 0 [.ref (G.1 + 103), .int x, .int y, uu] [] (mm I J)
  refine g_aload_n C dX10_without_0 rfl ?_
  refine g_iconst (v := 0) C dX10_without_1 (by decide) ?_
  refine g_putI (ci := 10) (k := 0) .int C dX10_without_2 rfl inGX10 tyX10_ok nmX10 (by decide) fwX10_80 ly_103 (by decide) rfl rfl rfl rfl rfl ?_
  refine g_aload_n C dX10_without_5 rfl ?_
  refine g_iload_n C dX10_without_6 rfl ?_
  refine gv1I (ci := 10) C dX10_without_7 vwX10_isPart mwX10_101 ⟨by decide, by decide⟩ rfl ly_103 (Nat.le_of_ble_eq_true rfl) (s_isPart _) (Nat.le_of_ble_eq_true rfl) rfl ⟨by decide, by decide⟩ ?_
  refine g_if_ne 19 C dX10_without_10 (by decide) (fun c10 => ?_) (fun c10 => ?_)
  · exact absurd (if01.mpr h) c10
  · refine g_aload_n C dX10_without_13 rfl ?_
    refine g_iconst (v := 1) C dX10_without_14 (by decide) ?_
    refine gv1I (ci := 10) C dX10_without_15 vwX10_refused mwX10_94 ⟨by decide, by decide⟩ rfl ly_103 (Nat.le_of_ble_eq_true rfl) (s_refused _) (Nat.le_of_ble_eq_true rfl) rfl ⟨by decide, by decide⟩ ?_
    exact e_I C dX10_without_18 rfl rfl rfl rfl rfl
set_option maxHeartbeats 1000000 in
theorem s_mwithout2 {l : Launch} {G : Gm} {I : Nat → Nat → Int32} {J : Nat → Nat → Int64} {x y : Int32} (h : ¬ x < 0 ∧ x < I 103 4) (h2 : ¬ (¬ y < 0 ∧ y < 16)) : Sp l G iX10_without [.ref (G.1 + 103), .int x, .int y] (mm I J) (RetI (-1) (mm (tr (T0 I) 2) J)) noT := by
  refine Sp.of (by decide +kernel) (Nat.le_of_ble_eq_true rfl) ?_
  intro X hXl C
  subst hXl
  show Go X G 4 0 0 _ 0 [.ref (G.1 + 103), .int x, .int y, uu] [] (mm I J)
  refine g_aload_n C dX10_without_0 rfl ?_
  refine g_iconst (v := 0) C dX10_without_1 (by decide) ?_
  refine g_putI (ci := 10) (k := 0) .int C dX10_without_2 rfl inGX10 tyX10_ok nmX10 (by decide) fwX10_80 ly_103 (by decide) rfl rfl rfl rfl rfl ?_
  refine g_aload_n C dX10_without_5 rfl ?_
  refine g_iload_n C dX10_without_6 rfl ?_
  refine gv1I (ci := 10) C dX10_without_7 vwX10_isPart mwX10_101 ⟨by decide, by decide⟩ rfl ly_103 (Nat.le_of_ble_eq_true rfl) (s_isPart _) (Nat.le_of_ble_eq_true rfl) rfl ⟨by decide, by decide⟩ ?_
  refine g_if_ne 19 C dX10_without_10 (by decide) (fun c10 => ?_) (fun c10 => ?_)
  · refine g_iload_n C dX10_without_19 rfl ?_
    refine gs1I C dX10_without_20 swX10_isRight mwX10_228 ⟨by decide, by decide⟩ (s_misRight _) (Nat.le_of_ble_eq_true rfl) rfl ⟨by decide, by decide⟩ ?_
    refine g_if_ne 32 C dX10_without_23 (by decide) (fun c23 => ?_) (fun c23 => ?_)
    · exact absurd (if01.mpr h2) c23
    · refine g_aload_n C dX10_without_26 rfl ?_
      refine g_iconst (v := 2) C dX10_without_27 (by decide) ?_
      refine gv1I (ci := 10) C dX10_without_28 vwX10_refused mwX10_94 ⟨by decide, by decide⟩ rfl ly_103 (Nat.le_of_ble_eq_true rfl) (s_refused _) (Nat.le_of_ble_eq_true rfl) rfl ⟨by decide, by decide⟩ ?_
      exact e_I C dX10_without_31 rfl rfl rfl rfl rfl
  · exact absurd h (if01.mp c10)
theorem mOK_trn {I : Nat → Nat → Int32} {n : Nat} {P : Pln} {p r : Nat} (hm : mOK I n P) : mOK (trnF I p r) n P := mOK_cg (by unfold trnF; rw [up1_off (by decide)]) (fun q hq => by unfold trnF; exact up1_off (by omega)) hm
/-- turned, worked out, turned back -/
def twF (I : Nat → Nat → Int32) (P : Pln) (n F F2 p r : Nat) : Nat → Nat → Int32 := trnF (wkF (trnF I p r) P n F F2) p r
def trnG (g : Rw) (p r : Nat) : Rw := upd g p (g p ^^^ bt r)
theorem trnF_104 (I : Nat → Nat → Int32) (p r : Nat) : trnF I p r 104 = trnG (I 104) p r := by unfold trnF trnG; rw [up1_row]; rfl
theorem trnF_off {I : Nat → Nat → Int32} {p r o : Nat} (h : o ≠ 104) : trnF I p r o = I o := up1_off h
theorem xor_back (x y : Int32) : (x ^^^ y) ^^^ y = x := by rw [Int32.xor_assoc, Int32.xor_self, Int32.xor_zero]
theorem twF_off {I : Nat → Nat → Int32} {P : Pln} {n F F2 p r o : Nat} (h : o < 114 ∨ 118 < o) : twF I P n F F2 p r o = I o := by
  unfold twF
  by_cases h4 : o = 104
  · subst h4
    rw [trnF_104]
    unfold wkF
    rw [wk_off h, trnF_104]
    unfold trnG
    funext b
    unfold upd
    by_cases hb : b = p
    · subst hb; simp [xor_back]
    · simp [hb]
  · rw [trnF_off h4]
    unfold wkF
    rw [wk_off h, trnF_off h4]
theorem mOK_tw {I : Nat → Nat → Int32} {n F F2 : Nat} {P : Pln} {p r : Nat} (hm : mOK I n P) : mOK (twF I P n F F2 p r) n P := mOK_cg (by rw [twF_off (Or.inl (by decide))]) (fun q hq => twF_off (Or.inl (by omega))) hm
set_option maxHeartbeats 1000000 in
theorem s_mwithout {l : Launch} {G : Gm} {I : Nat → Nat → Int32} {J : Nat → Nat → Int64} {n : Nat} {P : Pln} (hm : mOK I n P) {F F2 : Nat} (hfu : ∀ g : Rw, fuOK P n g F F2) {p : Nat} (hp : p < n) {r : Nat} (hr : r < 16) : Sp l G iX10_without [.ref (G.1 + 103), .int (nI p), .int (nI r)] (mm I J) (RetI (mMis (wL P n (trnG (I 104) p r) F F2) (I 106)) (mm (tr (twF (T0 I) P n F F2 p r) 0) J)) noT := by
  refine Sp.of (by decide +kernel) (Nat.le_of_ble_eq_true rfl) ?_
  intro X hXl C
  subst hXl
  show Go X G 4 0 0 _ 0 [.ref (G.1 + 103), .int (nI p), .int (nI r), uu] [] (mm I J)
  have hn10 := hm.1.1
  have hn := hm.2.1
  have hpp : ¬ nI p < 0 ∧ nI p < I 103 4 := ⟨nI_pos (by omega), by rw [hn]; exact nI_lt hp (by omega)⟩
  refine g_aload_n C dX10_without_0 rfl ?_
  refine g_iconst (v := 0) C dX10_without_1 (by decide) ?_
  refine g_putI (ci := 10) (k := 0) .int C dX10_without_2 rfl inGX10 tyX10_ok nmX10 (by decide) fwX10_80 ly_103 (by decide) rfl rfl rfl rfl rfl ?_
  refine g_aload_n C dX10_without_5 rfl ?_
  refine g_iload_n C dX10_without_6 rfl ?_
  refine gv1I (ci := 10) C dX10_without_7 vwX10_isPart mwX10_101 ⟨by decide, by decide⟩ rfl ly_103 (Nat.le_of_ble_eq_true rfl) (s_isPart _) (Nat.le_of_ble_eq_true rfl) rfl ⟨by decide, by decide⟩ ?_
  refine g_if_ne 19 C dX10_without_10 (by decide) (fun c10 => ?_) (fun c10 => ?_)
  · refine g_iload_n C dX10_without_19 rfl ?_
    refine gs1I C dX10_without_20 swX10_isRight mwX10_228 ⟨by decide, by decide⟩ (s_misRight _) (Nat.le_of_ble_eq_true rfl) rfl ⟨by decide, by decide⟩ ?_
    refine g_if_ne 32 C dX10_without_23 (by decide) (fun c23 => ?_) (fun c23 => ?_)
    · refine g_aload_n C dX10_without_32 rfl ?_
      refine g_bipush (v := 100) C dX10_without_33 (by decide) ?_
      refine g_iload_n C dX10_without_35 rfl ?_
      refine g_imul C dX10_without_36 ?_
      rw [mul100]
      refine g_iload_n C dX10_without_37 rfl ?_
      refine g_iadd C dX10_without_38 ?_
      rw [nI_add]
      refine gv1V (ci := 10) C dX10_without_39 vwX10_turns mwX10_278 ⟨by decide, by decide⟩ rfl ly_103 (Nat.le_of_ble_eq_true rfl) (s_turns (show p < 10 by omega) (show r < 100 by omega)) (Nat.le_of_ble_eq_true rfl) rfl ⟨by decide, by decide⟩ ?_
      refine g_aload_n C dX10_without_42 rfl ?_
      refine gv0V (ci := 10) C dX10_without_43 vwX10_works mwX10_241 ⟨by decide, by decide⟩ rfl ly_103 (Nat.le_of_ble_eq_true rfl) (s_works (mOK_trn (mOK_T0 hm)) hfu) (Nat.le_of_ble_eq_true rfl) rfl ⟨by decide, by decide⟩ ?_
      refine g_aload_n C dX10_without_46 rfl ?_
      refine gv0I (ci := 10) C dX10_without_47 vwX10_misuses mwX10_247 ⟨by decide, by decide⟩ rfl ly_103 (Nat.le_of_ble_eq_true rfl) (s_mMis (I := trnF (T0 I) p r)) (Nat.le_of_ble_eq_true rfl) rfl ⟨by decide, by decide⟩ ?_
      rw [trnF_104, trnF_off (show 106 ≠ 104 by decide), T0_off (show 104 ≠ 103 by decide), T0_off (show 106 ≠ 103 by decide)]
      refine g_istore_3 C dX10_without_50 (by decide) ?_
      refine g_aload_n C dX10_without_51 rfl ?_
      refine g_bipush (v := 100) C dX10_without_52 (by decide) ?_
      refine g_iload_n C dX10_without_54 rfl ?_
      refine g_imul C dX10_without_55 ?_
      rw [mul100]
      refine g_iload_n C dX10_without_56 rfl ?_
      refine g_iadd C dX10_without_57 ?_
      rw [nI_add]
      refine gv1V (ci := 10) C dX10_without_58 vwX10_turns mwX10_278 ⟨by decide, by decide⟩ rfl ly_103 (Nat.le_of_ble_eq_true rfl) (s_turns (show p < 10 by omega) (show r < 100 by omega)) (Nat.le_of_ble_eq_true rfl) rfl ⟨by decide, by decide⟩ ?_
      refine g_aload_n C dX10_without_61 rfl ?_
      refine g_iload_n C dX10_without_62 rfl ?_
      refine gv1I (ci := 10) C dX10_without_63 vwX10_done mwX10_98 ⟨by decide, by decide⟩ rfl ly_103 (Nat.le_of_ble_eq_true rfl) (s_done _) (Nat.le_of_ble_eq_true rfl) rfl ⟨by decide, by decide⟩ ?_
      exact e_I C dX10_without_66 rfl rfl rfl rfl rfl
    · exact absurd ⟨nI_pos (show r < 2 ^ 31 by omega), nI_lt (b := 16) hr (by decide)⟩ (if01.mp c23)
  · exact absurd hpp (if01.mp c10)
/-- off what is worked out -/
def offW (I A : Nat → Nat → Int32) : Prop := ∀ q, q < 114 ∨ 118 < q → A q = I q
theorem offW_ok {I A : Nat → Nat → Int32} {n : Nat} {P : Pln} (h : offW I A) (hm : mOK I n P) : mOK A n P := mOK_cg (by rw [h 103 (by omega)]) (fun q hq => h q (by omega)) hm
theorem offW_wk {I : Nat → Nat → Int32} {n F F2 : Nat} {P : Pln} : offW I (wkF I P n F F2) := fun q hq => by unfold wkF; exact wk_off hq
theorem offW_ak {I : Nat → Nat → Int32} {n F : Nat} {P : Pln} : offW I (akF I P n F) := fun q hq => by unfold akF; exact wk_off hq
theorem offW_tw {I A : Nat → Nat → Int32} {n F F2 : Nat} {P : Pln} {p r : Nat} (h : offW I A) : offW I (twF A P n F F2 p r) := fun q hq => (twF_off hq).trans (h q hq)
def RetW (J : Nat → Nat → Int64) (x : Int32) (f : (Nat → Nat → Int32) → (Nat → Nat → Int32)) (I : Nat → Nat → Int32) : Option Value → Mm → Prop := fun v M' => v = some (.int x) ∧ ∃ A, offW I A ∧ M' = mm (f A) J
/-- (best, gone) -/
def kyR (P : Pln) (n : Nat) (g me : Rw) (F F2 : Nat) (now : Int32) (p r : Nat) (s : Int32 × Int32) : Int32 × Int32 :=
  if (g p >>> (nI r &&& 31)) &&& 1 = 0 then s else if s.2 < now - mMis (wL P n (trnG g p r) F F2) me then (nI (100 * p + r), now - mMis (wL P n (trnG g p r) F F2) me) else s
def kyP (P : Pln) (n : Nat) (g me : Rw) (F F2 : Nat) (now : Int32) (p : Nat) (s : Int32 × Int32) : Int32 × Int32 := it (kyR P n g me F F2 now p) 16 s
def kyF (P : Pln) (n : Nat) (g me : Rw) (F F2 : Nat) (now : Int32) : Int32 × Int32 := it (kyP P n g me F F2 now) n (-2, 0)
set_option maxHeartbeats 1000000 in
theorem s_mkey0 {l : Launch} {G : Gm} {I : Nat → Nat → Int32} {J : Nat → Nat → Int64} {n : Nat} {P : Pln} (hm : mOK I n P) {F F2 : Nat} (hfu : ∀ g : Rw, fuOK P n g F F2) (h0 : (mMis (wL P n (I 104) F F2) (I 106)) = 0) : Sp l G iX10_key [.ref (G.1 + 103)] (mm I J) (RetI (-1) (mm (tr (wkF (T0 I) P n F F2) 5) J)) noT := by
  refine Sp.of (by decide +kernel) (Nat.le_of_ble_eq_true rfl) ?_
  intro X hXl C
  subst hXl
  show Go X G 7 0 0 _ 0 [.ref (G.1 + 103), uu, uu, uu, uu, uu, uu] [] (mm I J)
  refine g_aload_n C dX10_key_0 rfl ?_
  refine g_iconst (v := 0) C dX10_key_1 (by decide) ?_
  refine g_putI (ci := 10) (k := 0) .int C dX10_key_2 rfl inGX10 tyX10_ok nmX10 (by decide) fwX10_80 ly_103 (by decide) rfl rfl rfl rfl rfl ?_
  refine g_aload_n C dX10_key_5 rfl ?_
  refine gv0V (ci := 10) C dX10_key_6 vwX10_works mwX10_241 ⟨by decide, by decide⟩ rfl ly_103 (Nat.le_of_ble_eq_true rfl) (s_works (mOK_T0 hm) hfu) (Nat.le_of_ble_eq_true rfl) rfl ⟨by decide, by decide⟩ ?_
  refine g_aload_n C dX10_key_9 rfl ?_
  refine gv0I (ci := 10) C dX10_key_10 vwX10_misuses mwX10_247 ⟨by decide, by decide⟩ rfl ly_103 (Nat.le_of_ble_eq_true rfl) (s_mMis (I := T0 I)) (Nat.le_of_ble_eq_true rfl) rfl ⟨by decide, by decide⟩ ?_
  refine g_istore_1 C dX10_key_13 (by decide) ?_
  refine g_iload_n C dX10_key_14 rfl ?_
  refine g_if_ne 24 C dX10_key_15 (by decide) (fun c15 => ?_) (fun c15 => ?_)
  · exact absurd h0 c15
  · refine g_aload_n C dX10_key_18 rfl ?_
    refine g_iconst (v := 5) C dX10_key_19 (by decide) ?_
    refine gv1I (ci := 10) C dX10_key_20 vwX10_refused mwX10_94 ⟨by decide, by decide⟩ rfl ly_103 (Nat.le_of_ble_eq_true rfl) (s_refused _) (Nat.le_of_ble_eq_true rfl) rfl ⟨by decide, by decide⟩ ?_
    exact e_I C dX10_key_23 rfl rfl rfl rfl rfl
set_option maxHeartbeats 1000000 in
theorem s_mkey {l : Launch} {G : Gm} {I : Nat → Nat → Int32} {J : Nat → Nat → Int64} {n : Nat} {P : Pln} (hm : mOK I n P) {F F2 : Nat} (hfu : ∀ g : Rw, fuOK P n g F F2) (h0 : ¬ (mMis (wL P n (I 104) F F2) (I 106)) = 0) : Sp l G iX10_key [.ref (G.1 + 103)] (mm I J) (RetW J (kyF P n (I 104) (I 106) F F2 (mMis (wL P n (I 104) F F2) (I 106))).1 (fun A => tr A 0) (T0 I)) noT := by
  refine Sp.of (by decide +kernel) (Nat.le_of_ble_eq_true rfl) ?_
  intro X hXl C
  subst hXl
  show Go X G 7 0 0 _ 0 [.ref (G.1 + 103), uu, uu, uu, uu, uu, uu] [] (mm I J)
  have hn10 := hm.1.1
  have hn := hm.2.1
  have lp : ∀ p : Nat, p ≤ n → ∀ A : Nat → Nat → Int32, offW (T0 I) A → ∀ a5 a6 : Value, Go X G 7 0 0 (KQ X G iX10_key (RetW J (kyF P n (I 104) (I 106) F F2 (mMis (wL P n (I 104) F F2) (I 106))).1 (fun A => tr A 0) (T0 I)) noT) 32 [.ref (G.1 + 103), .int (mMis (wL P n (I 104) F F2) (I 106)), .int (it (kyP P n (I 104) (I 106) F F2 (mMis (wL P n (I 104) F F2) (I 106))) p (-2, 0)).1, .int (it (kyP P n (I 104) (I 106) F F2 (mMis (wL P n (I 104) F F2) (I 106))) p (-2, 0)).2, .int (nI p), a5, a6] [] (mm A J) := by
    refine loopN (n) ?_ ?_
    · intro A hA a5 a6
      show Go X G 7 0 0 _ 32 _ [] _
      refine g_iload C dX10_key_32 rfl ?_
      refine g_aload_n C dX10_key_34 rfl ?_
      refine g_getIv (ci := 10) (k := 4) (v := nI n) C dX10_key_35 rfl inGX10 (by decide) fwX10_86 ly_103 (by decide) rfl (by rw [hA 103 (by omega), T0_103 (by decide)]; exact hn) ?_
      refine g_icmp_ge 138 C dX10_key_38 (by decide) (fun c38 => ?_) (fun c38 => ?_)
      · refine g_aload_n C dX10_key_138 rfl ?_
        refine g_iload_n C dX10_key_139 rfl ?_
        refine gv1I (ci := 10) C dX10_key_140 vwX10_done mwX10_98 ⟨by decide, by decide⟩ rfl ly_103 (Nat.le_of_ble_eq_true rfl) (s_done _) (Nat.le_of_ble_eq_true rfl) rfl ⟨by decide, by decide⟩ ?_
        exact g_iret C dX10_key_143 rfl rfl rfl ⟨rfl, A, hA, rfl⟩
      · exact absurd (Int32.le_refl _) c38
    · intro p hp ihp A hA a5 a6
      show Go X G 7 0 0 _ 32 _ [] _
      have inner : ∀ r : Nat, r ≤ 16 → ∀ A : Nat → Nat → Int32, offW (T0 I) A → ∀ a6 : Value, Go X G 7 0 0 (KQ X G iX10_key (RetW J (kyF P n (I 104) (I 106) F F2 (mMis (wL P n (I 104) F F2) (I 106))).1 (fun A => tr A 0) (T0 I)) noT) 44 [.ref (G.1 + 103), .int (mMis (wL P n (I 104) F F2) (I 106)), .int (it (kyR P n (I 104) (I 106) F F2 (mMis (wL P n (I 104) F F2) (I 106)) p) r (it (kyP P n (I 104) (I 106) F F2 (mMis (wL P n (I 104) F F2) (I 106))) p (-2, 0))).1, .int (it (kyR P n (I 104) (I 106) F F2 (mMis (wL P n (I 104) F F2) (I 106)) p) r (it (kyP P n (I 104) (I 106) F F2 (mMis (wL P n (I 104) F F2) (I 106))) p (-2, 0))).2, .int (nI p), .int (nI r), a6] [] (mm A J) := by
        refine loopN (16) ?_ ?_
        · intro A hA a6
          show Go X G 7 0 0 _ 44 _ [] _
          refine g_iload C dX10_key_44 rfl ?_
          refine g_bipush (v := 16) C dX10_key_46 (by decide) ?_
          refine g_icmp_ge 132 C dX10_key_48 (by decide) (fun c48 => ?_) (fun c48 => ?_)
          · refine g_iinc_4 C dX10_key_132 (nI_1 p) (by decide) ?_
            refine g_goto 32 C dX10_key_135 (by decide) ?_
            exact ihp A hA _ _
          · exact absurd (Int32.le_refl _) c48
        · intro r hr ihr A hA a6
          show Go X G 7 0 0 _ 44 _ [] _
          refine g_iload C dX10_key_44 rfl ?_
          refine g_bipush (v := 16) C dX10_key_46 (by decide) ?_
          refine g_icmp_ge 132 C dX10_key_48 (by decide) (fun c48 => ?_) (fun c48 => ?_)
          · exact (nI_ge_dead (n := 16) c48 hr (by omega)).elim
          · refine g_aload_n C dX10_key_51 rfl ?_
            refine g_getR (ci := 10) (k := 5) (q := 104) C dX10_key_52 rfl inGX10 (by decide) fwX10_13 ly_103 (by decide) rfl rfl ?_
            refine g_iload C dX10_key_55 rfl ?_
            refine g_ialdv (v := I 104 p) p C dX10_key_57 ly_104 (by decide) (by decide) rfl (show p < 10 by omega) (by rw [hA 104 (by omega), T0_off (by decide)]) ?_
            refine g_iload C dX10_key_58 rfl ?_
            refine g_ishr C dX10_key_60 ?_
            refine g_iconst (v := 1) C dX10_key_61 (by decide) ?_
            refine g_iand C dX10_key_62 ?_
            refine g_if_ne 69 C dX10_key_63 (by decide) (fun c63 => ?_) (fun c63 => ?_)
            · refine g_aload_n C dX10_key_69 rfl ?_
              refine g_bipush (v := 100) C dX10_key_70 (by decide) ?_
              refine g_iload C dX10_key_72 rfl ?_
              refine g_imul C dX10_key_74 ?_
              rw [mul100]
              refine g_iload C dX10_key_75 rfl ?_
              refine g_iadd C dX10_key_77 ?_
              rw [nI_add]
              refine gv1V (ci := 10) C dX10_key_78 vwX10_turns mwX10_278 ⟨by decide, by decide⟩ rfl ly_103 (Nat.le_of_ble_eq_true rfl) (s_turns (show p < 10 by omega) (show r < 100 by omega)) (Nat.le_of_ble_eq_true rfl) rfl ⟨by decide, by decide⟩ ?_
              refine g_aload_n C dX10_key_81 rfl ?_
              refine gv0V (ci := 10) C dX10_key_82 vwX10_works mwX10_241 ⟨by decide, by decide⟩ rfl ly_103 (Nat.le_of_ble_eq_true rfl) (s_works (mOK_trn (offW_ok hA (mOK_T0 hm))) hfu) (Nat.le_of_ble_eq_true rfl) rfl ⟨by decide, by decide⟩ ?_
              refine g_iload_n C dX10_key_85 rfl ?_
              refine g_aload_n C dX10_key_86 rfl ?_
              refine gv0I (ci := 10) C dX10_key_87 vwX10_misuses mwX10_247 ⟨by decide, by decide⟩ rfl ly_103 (Nat.le_of_ble_eq_true rfl) (s_mMis (I := trnF A p r)) (Nat.le_of_ble_eq_true rfl) rfl ⟨by decide, by decide⟩ ?_
              rw [trnF_104, trnF_off (show 106 ≠ 104 by decide), hA 104 (by omega), hA 106 (by omega), T0_off (show 104 ≠ 103 by decide), T0_off (show 106 ≠ 103 by decide)]
              refine g_isub C dX10_key_90 ?_
              refine g_istore_6 C dX10_key_91 (by decide) ?_
              refine g_aload_n C dX10_key_93 rfl ?_
              refine g_bipush (v := 100) C dX10_key_94 (by decide) ?_
              refine g_iload C dX10_key_96 rfl ?_
              refine g_imul C dX10_key_98 ?_
              rw [mul100]
              refine g_iload C dX10_key_99 rfl ?_
              refine g_iadd C dX10_key_101 ?_
              rw [nI_add]
              refine gv1V (ci := 10) C dX10_key_102 vwX10_turns mwX10_278 ⟨by decide, by decide⟩ rfl ly_103 (Nat.le_of_ble_eq_true rfl) (s_turns (show p < 10 by omega) (show r < 100 by omega)) (Nat.le_of_ble_eq_true rfl) rfl ⟨by decide, by decide⟩ ?_
              refine g_iload C dX10_key_105 rfl ?_
              refine g_iload_n C dX10_key_107 rfl ?_
              refine g_icmp_gt 114 C dX10_key_108 (by decide) (fun c108 => ?_) (fun c108 => ?_)
              · refine g_iload C dX10_key_114 rfl ?_
                refine g_istore_3 C dX10_key_116 (by decide) ?_
                refine g_bipush (v := 100) C dX10_key_117 (by decide) ?_
                refine g_iload C dX10_key_119 rfl ?_
                refine g_imul C dX10_key_121 ?_
                rw [mul100]
                refine g_iload C dX10_key_122 rfl ?_
                refine g_iadd C dX10_key_124 ?_
                rw [nI_add]
                refine g_istore_2 C dX10_key_125 (by decide) ?_
                refine g_iinc_5 C dX10_key_126 (nI_1 r) (by decide) ?_
                refine g_goto 44 C dX10_key_129 (by decide) ?_
                first
                  | (have h9 : it (kyR P n (I 104) (I 106) F F2 (mMis (wL P n (I 104) F F2) (I 106)) p) (r + 1) (it (kyP P n (I 104) (I 106) F F2 (mMis (wL P n (I 104) F F2) (I 106))) p (-2, 0)) = (it (kyR P n (I 104) (I 106) F F2 (mMis (wL P n (I 104) F F2) (I 106)) p) r (it (kyP P n (I 104) (I 106) F F2 (mMis (wL P n (I 104) F F2) (I 106))) p (-2, 0))) := if_pos c63
                     rw [h9] at ihr; exact ihr A hA _)
                  | (have h9 : it (kyR P n (I 104) (I 106) F F2 (mMis (wL P n (I 104) F F2) (I 106)) p) (r + 1) (it (kyP P n (I 104) (I 106) F F2 (mMis (wL P n (I 104) F F2) (I 106))) p (-2, 0)) = _ := (if_neg c63).trans (if_pos c108)
                     rw [h9] at ihr; exact ihr (twF A P n F F2 p r) (offW_tw hA) _)
                  | (have h9 : it (kyR P n (I 104) (I 106) F F2 (mMis (wL P n (I 104) F F2) (I 106)) p) (r + 1) (it (kyP P n (I 104) (I 106) F F2 (mMis (wL P n (I 104) F F2) (I 106))) p (-2, 0)) = (it (kyR P n (I 104) (I 106) F F2 (mMis (wL P n (I 104) F F2) (I 106)) p) r (it (kyP P n (I 104) (I 106) F F2 (mMis (wL P n (I 104) F F2) (I 106))) p (-2, 0))) := (if_neg c63).trans (if_neg c108)
                     rw [h9] at ihr; exact ihr (twF A P n F F2 p r) (offW_tw hA) _)
              · refine g_goto 126 C dX10_key_111 (by decide) ?_
                refine g_iinc_5 C dX10_key_126 (nI_1 r) (by decide) ?_
                refine g_goto 44 C dX10_key_129 (by decide) ?_
                first
                  | (have h9 : it (kyR P n (I 104) (I 106) F F2 (mMis (wL P n (I 104) F F2) (I 106)) p) (r + 1) (it (kyP P n (I 104) (I 106) F F2 (mMis (wL P n (I 104) F F2) (I 106))) p (-2, 0)) = (it (kyR P n (I 104) (I 106) F F2 (mMis (wL P n (I 104) F F2) (I 106)) p) r (it (kyP P n (I 104) (I 106) F F2 (mMis (wL P n (I 104) F F2) (I 106))) p (-2, 0))) := if_pos c63
                     rw [h9] at ihr; exact ihr A hA _)
                  | (have h9 : it (kyR P n (I 104) (I 106) F F2 (mMis (wL P n (I 104) F F2) (I 106)) p) (r + 1) (it (kyP P n (I 104) (I 106) F F2 (mMis (wL P n (I 104) F F2) (I 106))) p (-2, 0)) = _ := (if_neg c63).trans (if_pos c108)
                     rw [h9] at ihr; exact ihr (twF A P n F F2 p r) (offW_tw hA) _)
                  | (have h9 : it (kyR P n (I 104) (I 106) F F2 (mMis (wL P n (I 104) F F2) (I 106)) p) (r + 1) (it (kyP P n (I 104) (I 106) F F2 (mMis (wL P n (I 104) F F2) (I 106))) p (-2, 0)) = (it (kyR P n (I 104) (I 106) F F2 (mMis (wL P n (I 104) F F2) (I 106)) p) r (it (kyP P n (I 104) (I 106) F F2 (mMis (wL P n (I 104) F F2) (I 106))) p (-2, 0))) := (if_neg c63).trans (if_neg c108)
                     rw [h9] at ihr; exact ihr (twF A P n F F2 p r) (offW_tw hA) _)
            · refine g_goto 126 C dX10_key_66 (by decide) ?_
              refine g_iinc_5 C dX10_key_126 (nI_1 r) (by decide) ?_
              refine g_goto 44 C dX10_key_129 (by decide) ?_
              first
                | (have h9 : it (kyR P n (I 104) (I 106) F F2 (mMis (wL P n (I 104) F F2) (I 106)) p) (r + 1) (it (kyP P n (I 104) (I 106) F F2 (mMis (wL P n (I 104) F F2) (I 106))) p (-2, 0)) = (it (kyR P n (I 104) (I 106) F F2 (mMis (wL P n (I 104) F F2) (I 106)) p) r (it (kyP P n (I 104) (I 106) F F2 (mMis (wL P n (I 104) F F2) (I 106))) p (-2, 0))) := if_pos c63
                   rw [h9] at ihr; exact ihr A hA _)
                | (have h9 : it (kyR P n (I 104) (I 106) F F2 (mMis (wL P n (I 104) F F2) (I 106)) p) (r + 1) (it (kyP P n (I 104) (I 106) F F2 (mMis (wL P n (I 104) F F2) (I 106))) p (-2, 0)) = _ := (if_neg c63).trans (if_pos c108)
                   rw [h9] at ihr; exact ihr (twF A P n F F2 p r) (offW_tw hA) _)
                | (have h9 : it (kyR P n (I 104) (I 106) F F2 (mMis (wL P n (I 104) F F2) (I 106)) p) (r + 1) (it (kyP P n (I 104) (I 106) F F2 (mMis (wL P n (I 104) F F2) (I 106))) p (-2, 0)) = (it (kyR P n (I 104) (I 106) F F2 (mMis (wL P n (I 104) F F2) (I 106)) p) r (it (kyP P n (I 104) (I 106) F F2 (mMis (wL P n (I 104) F F2) (I 106))) p (-2, 0))) := (if_neg c63).trans (if_neg c108)
                   rw [h9] at ihr; exact ihr (twF A P n F F2 p r) (offW_tw hA) _)
      refine g_iload C dX10_key_32 rfl ?_
      refine g_aload_n C dX10_key_34 rfl ?_
      refine g_getIv (ci := 10) (k := 4) (v := nI n) C dX10_key_35 rfl inGX10 (by decide) fwX10_86 ly_103 (by decide) rfl (by rw [hA 103 (by omega), T0_103 (by decide)]; exact hn) ?_
      refine g_icmp_ge 138 C dX10_key_38 (by decide) (fun c38 => ?_) (fun c38 => ?_)
      · exact (nI_ge_dead (n := n) c38 hp (by omega)).elim
      · refine g_iconst (v := 0) C dX10_key_41 (by decide) ?_
        refine g_istore_5 C dX10_key_42 (by decide) ?_
        exact inner 0 (Nat.zero_le _) A hA _
  refine g_aload_n C dX10_key_0 rfl ?_
  refine g_iconst (v := 0) C dX10_key_1 (by decide) ?_
  refine g_putI (ci := 10) (k := 0) .int C dX10_key_2 rfl inGX10 tyX10_ok nmX10 (by decide) fwX10_80 ly_103 (by decide) rfl rfl rfl rfl rfl ?_
  refine g_aload_n C dX10_key_5 rfl ?_
  refine gv0V (ci := 10) C dX10_key_6 vwX10_works mwX10_241 ⟨by decide, by decide⟩ rfl ly_103 (Nat.le_of_ble_eq_true rfl) (s_works (mOK_T0 hm) hfu) (Nat.le_of_ble_eq_true rfl) rfl ⟨by decide, by decide⟩ ?_
  refine g_aload_n C dX10_key_9 rfl ?_
  refine gv0I (ci := 10) C dX10_key_10 vwX10_misuses mwX10_247 ⟨by decide, by decide⟩ rfl ly_103 (Nat.le_of_ble_eq_true rfl) (s_mMis (I := T0 I)) (Nat.le_of_ble_eq_true rfl) rfl ⟨by decide, by decide⟩ ?_
  refine g_istore_1 C dX10_key_13 (by decide) ?_
  refine g_iload_n C dX10_key_14 rfl ?_
  refine g_if_ne 24 C dX10_key_15 (by decide) (fun c15 => ?_) (fun c15 => ?_)
  · refine g_bipush (v := (-2)) C dX10_key_24 (by decide) ?_
    refine g_istore_2 C dX10_key_26 (by decide) ?_
    refine g_iconst (v := 0) C dX10_key_27 (by decide) ?_
    refine g_istore_3 C dX10_key_28 (by decide) ?_
    refine g_iconst (v := 0) C dX10_key_29 (by decide) ?_
    refine g_istore_4 C dX10_key_30 (by decide) ?_
    exact lp 0 (Nat.zero_le _) _ offW_wk _ _
  · exact absurd c15 h0
