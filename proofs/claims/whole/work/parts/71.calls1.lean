/-! ## the calls that only look -/
theorem lt8 {y : Int32} : y < 8 ↔ ¬ 7 < y := by
  rw [Int32.lt_iff_toInt_lt, Int32.lt_iff_toInt_lt]
  have e1 : (8 : Int32).toInt = 8 := rfl
  have e2 : (7 : Int32).toInt = 7 := rfl
  omega
theorem le65 {y : Int32} : y ≤ 65535 ↔ ¬ 65535 < y := by
  rw [Int32.lt_iff_toInt_lt, Int32.le_iff_toInt_le]; omega
theorem iv_n {I : Nat → Nat → Int32} {n : Nat} {P : Pln} {t : Nat → Nat} {sz z y : Nat} (h : Inv I n P t sz z y) : I 3 2 = nI n ∧ n ≤ 10 ∧ shOK I P.ml ∧ mOK I n P ∧ P.ok n ∧ I 103 4 = nI n :=
  ⟨h.1.1.2.2.1, h.1.1.1.1, shP_OK h.1.1, h.2.1.1, h.1.1.1, h.2.1.1.2.1⟩
theorem iv_34 {I : Nat → Nat → Int32} {n : Nat} {P : Pln} {t : Nat → Nat} {sz z y : Nat} (h : Inv I n P t sz z y) : I 3 2 = I 103 4 := by
  obtain ⟨a, -, -, -, -, b⟩ := iv_n h; rw [a, b]
theorem iv_g {I A : Nat → Nat → Int32} {n : Nat} {P : Pln} {t : Nat → Nat} {sz z y : Nat} (h : Inv I n P t sz z y) (hk : Kp I A) : ∀ p, p < 10 → A 4 p = A 104 p := fun p hp => by
  rw [Kp_row hk (fun b => rel_t (by decide)), Kp_104 hk]; exact h.2.2.1 p hp
theorem Inv_q0 {I : Nat → Nat → Int32} {n : Nat} {P : Pln} {t : Nat → Nat} {sz z y : Nat} (h : Inv I n P t sz z y) : Inv (T0 I) n P t sz z y :=
  Inv_at h T0_kp (fun q h1 h2 => T0_off (by omega)) (by rw [T0_off (by decide)])
theorem Inv_q1 {I : Nat → Nat → Int32} {n : Nat} {P : Pln} {t : Nat → Nat} {sz z y : Nat} {a hh w r lk : Rw} (h : Inv I n P t sz z y) : Inv (wkM (T0 (buF I n P.ml)) a hh w r lk) n P t sz z y :=
  Inv_rd h (Kp_tr (bu_kp h) (Kp_tr T0_kp wk_kp)) (fun q h1 h2 => by rw [wk_off (by omega), T0_off (by omega)])
theorem Inv_q2 {I : Nat → Nat → Int32} {n g : Nat} {P : Pln} {t : Nat → Nat} {sz z y : Nat} {a hh w r lk : Rw} (h : Inv I n P t sz z y) : Inv (wkM (T0 (lookF (buF I n P.ml) n g)) a hh w r lk) n P t sz z y :=
  Inv_rd h (Kp_tr (bu_kp h) (Kp_tr look_kp (Kp_tr T0_kp wk_kp))) (fun q h1 h2 => by rw [wk_off (by omega), T0_off (by omega), look_off (by omega)])
theorem pre_p {n p : Nat} {x : Int32} (hn : x = nI n) (hn10 : n ≤ 10) (hp : p < n) : ¬ nI p < 0 ∧ nI p < x := ⟨nI_pos (by omega), by rw [hn]; exact nI_lt hp (by omega)⟩
theorem c_holds {l : Launch} {G : Gm} {I : Nat → Nat → Int32} {J : Nat → Nat → Int64} (hI : InvE I) (x w : Int32) : CPr l G iX8_holds iX10_holds [.int x, .int w] I J := by
  obtain ⟨n, P, t, sz, z, y, h⟩ := hI
  obtain ⟨hn, hn10, hs, hmo, hok, hn4⟩ := iv_n h
  by_cases hx : (¬ x < 0 ∧ x < I 3 2) ∧ ¬ w < 0 ∧ w < 8
  · obtain ⟨p, hp, rfl⟩ := part_of hn10 (by rw [← hn]; exact hx.1)
    obtain ⟨nm, hnm, rfl⟩ : ∃ nm, nm < 8 ∧ w = nI nm := by
      obtain ⟨j, hj, rfl⟩ := nI_of hx.2.1
      exact ⟨j, (nI_ltI (b := 8) hj (by decide)).mp hx.2.2, rfl⟩
    obtain ⟨F, F2, hfu⟩ := fu_ex hok
    have hk := bu_kp h
    refine CPr.mk' (s_holds hn hn10 hs (by omega) hx.1 hnm) (s_mholds (mOK_kp hmo hk) hfu hp hnm) ?_ ⟨n, P, t, sz, z, y, Inv_q1 h⟩
    apply B_ext
    intro s hs
    rw [scA_iff (bu_all h).1 (by omega) hs, wH_iff hok (hfu _) hp hnm]
    exact Rg_cg (fun p hp => iv_g h hk p (by omega))
  · refine CPr.mk (s_holds0 x w hx) (s_mholds0 (fun q => hx ⟨by rw [iv_34 h]; exact q.1, q.2.1, lt8.mpr q.2.2⟩)) ⟨n, P, t, sz, z, y, Inv_q0 h⟩
theorem c_result {l : Launch} {G : Gm} {I : Nat → Nat → Int32} {J : Nat → Nat → Int64} (hI : InvE I) (x : Int32) : CPr l G iX8_result iX10_result [.int x] I J := by
  obtain ⟨n, P, t, sz, z, y, h⟩ := hI
  obtain ⟨hn, hn10, hs, hmo, hok, hn4⟩ := iv_n h
  by_cases hx : ¬ x < 0 ∧ x < I 3 2
  · obtain ⟨p, hp, rfl⟩ := part_of hn10 (by rw [← hn]; exact hx)
    obtain ⟨F, F2, hfu⟩ := fu_ex hok
    have hk := bu_kp h
    refine CPr.mk' (s_result hn hn10 hs (by omega) hx) (s_mresult (mOK_kp hmo hk) hfu hp) ?_ ⟨n, P, t, sz, z, y, Inv_q1 h⟩
    apply B_ext
    intro s hs
    rw [scA_iff (bu_all h).1 (by omega) hs, wR_iff hok (hfu _) hp]
    exact Rg_cg (fun p hp => iv_g h hk p (by omega))
  · exact CPr.mk (s_result0 x hx) (s_mresult0 (fun q => hx (by rw [iv_34 h]; exact q))) ⟨n, P, t, sz, z, y, Inv_q0 h⟩
theorem c_asked {l : Launch} {G : Gm} {I : Nat → Nat → Int32} {J : Nat → Nat → Int64} (hI : InvE I) (x : Int32) : CPr l G iX8_asked iX10_asked [.int x] I J := by
  obtain ⟨n, P, t, sz, z, y, h⟩ := hI
  obtain ⟨hn, hn10, hs, hmo, hok, hn4⟩ := iv_n h
  by_cases hx : ¬ x < 0 ∧ x < I 3 2
  · obtain ⟨p, hp, rfl⟩ := part_of hn10 (by rw [← hn]; exact hx)
    obtain ⟨F, F2, hfu⟩ := fu_ex hok
    have hk := bu_kp h
    exact CPr.mk' (s_asked hn hn10 hs (by omega) hx) (s_masked (mOK_kp hmo hk) hfu hp) (live_eq hok (bu_all h).1.1 (hfu (fun _ => 0)).1 hp) ⟨n, P, t, sz, z, y, Inv_q1 h⟩
  · exact CPr.mk (s_asked0 x hx) (s_masked0 (fun q => hx (by rw [iv_34 h]; exact q))) ⟨n, P, t, sz, z, y, Inv_q0 h⟩
theorem c_needed {l : Launch} {G : Gm} {I : Nat → Nat → Int32} {J : Nat → Nat → Int64} (hI : InvE I) (x : Int32) : CPr l G iX8_needed iX10_needed [.int x] I J := by
  obtain ⟨n, P, t, sz, z, y, h⟩ := hI
  obtain ⟨hn, hn10, hs, hmo, hok, hn4⟩ := iv_n h
  by_cases hx : ¬ x < 0 ∧ x < I 3 2
  · obtain ⟨p, hp, rfl⟩ := part_of hn10 (by rw [← hn]; exact hx)
    obtain ⟨F, F2, hfu⟩ := fu_ex hok
    have hk := bu_kp h
    exact CPr.mk' (s_needed hn hn10 hs (by omega) hx) (s_mneeded (mOK_kp hmo hk) hfu hp) (use_eq hok (bu_all h).1.1 (hfu (fun _ => 0)).1 hp) ⟨n, P, t, sz, z, y, Inv_q1 h⟩
  · exact CPr.mk (s_needed0 x hx) (s_mneeded0 (fun q => hx (by rw [iv_34 h]; exact q))) ⟨n, P, t, sz, z, y, Inv_q0 h⟩
theorem c_idle {l : Launch} {G : Gm} {I : Nat → Nat → Int32} {J : Nat → Nat → Int64} (hI : InvE I) (x : Int32) : CPr l G iX8_idle iX10_idle [.int x] I J := by
  obtain ⟨n, P, t, sz, z, y, h⟩ := hI
  obtain ⟨hn, hn10, hs, hmo, hok, hn4⟩ := iv_n h
  by_cases hx : ¬ x < 0 ∧ x < I 3 2
  · obtain ⟨p, hp, rfl⟩ := part_of hn10 (by rw [← hn]; exact hx)
    obtain ⟨F, F2, hfu⟩ := fu_ex hok
    have hk := bu_kp h
    exact CPr.mk' (s_idle hn hn10 hs (by omega) hx) (s_midle (mOK_kp hmo hk) hfu hp) (by rw [use_eq hok (bu_all h).1.1 (hfu (fun _ => 0)).1 hp, iv_g h hk p (by omega)]) ⟨n, P, t, sz, z, y, Inv_q1 h⟩
  · exact CPr.mk (s_idle0 x hx) (s_midle0 (fun q => hx (by rw [iv_34 h]; exact q))) ⟨n, P, t, sz, z, y, Inv_q0 h⟩
theorem c_lacking {l : Launch} {G : Gm} {I : Nat → Nat → Int32} {J : Nat → Nat → Int64} (hI : InvE I) (x : Int32) : CPr l G iX8_lacking iX10_lacking [.int x] I J := by
  obtain ⟨n, P, t, sz, z, y, h⟩ := hI
  obtain ⟨hn, hn10, hs, hmo, hok, hn4⟩ := iv_n h
  by_cases hx : ¬ x < 0 ∧ x < I 3 2
  · obtain ⟨p, hp, rfl⟩ := part_of hn10 (by rw [← hn]; exact hx)
    obtain ⟨F, F2, hfu⟩ := fu_ex hok
    have hk := bu_kp h
    exact CPr.mk' (s_lacking hn hn10 hs (by omega) hx) (s_mlacking (mOK_kp hmo hk) hfu hp) (by rw [use_eq hok (bu_all h).1.1 (hfu (fun _ => 0)).1 hp, iv_g h hk p (by omega)]) ⟨n, P, t, sz, z, y, Inv_q1 h⟩
  · exact CPr.mk (s_lacking0 x hx) (s_mlacking0 (fun q => hx (by rw [iv_34 h]; exact q))) ⟨n, P, t, sz, z, y, Inv_q0 h⟩
theorem c_helped {l : Launch} {G : Gm} {I : Nat → Nat → Int32} {J : Nat → Nat → Int64} (hI : InvE I) (x : Int32) : CPr l G iX8_helped iX10_helped [.int x] I J := by
  obtain ⟨n, P, t, sz, z, y, h⟩ := hI
  obtain ⟨hn, hn10, hs, hmo, hok, hn4⟩ := iv_n h
  by_cases hx : ¬ x < 0 ∧ x < I 3 2
  · obtain ⟨p, hp, rfl⟩ := part_of hn10 (by rw [← hn]; exact hx)
    obtain ⟨F, F2, hfu⟩ := fu_ex hok
    have hk := bu_kp h
    by_cases ha : wA P n F p = 0
    · exact CPr.mk' (s_helped hn hn10 hs (by omega) hx) (s_mhelpedN (mOK_kp hmo hk) hfu hp ha) (by rw [help_0 hok (bu_all h).1.1 (hfu (fun _ => 0)).1 hp ha]; simp) ⟨n, P, t, sz, z, y, Inv_q1 h⟩
    · exact CPr.mk' (s_helped hn hn10 hs (by omega) hx) (s_mhelped (mOK_kp hmo hk) hfu hp ha hp_fuel) (help_eq hok (bu_all h).1.1 (hfu (fun _ => 0)).1 hp (fun p hp => iv_g h hk p (by omega)) ha hp_fuel) ⟨n, P, t, sz, z, y, Inv_q1 h⟩
  · exact CPr.mk (s_helped0 x hx) (s_mhelped0 (fun q => hx (by rw [iv_34 h]; exact q))) ⟨n, P, t, sz, z, y, Inv_q0 h⟩
/-! ## doors -/
theorem iv_TR {I : Nat → Nat → Int32} {n F F2 : Nat} {P : Pln} {t : Nat → Nat} {sz z y : Nat} (h : Inv I n P t sz z y) (hfu : ∀ g, fuOK P n g F F2) : TR (lkR (buF I n P.ml) n 4) (wL P n (lookF (buF I n P.ml) n 4 104) F F2) := by
  have hk := bu_kp h
  rw [look_off (by decide)]
  exact TR_lk h.1.1.1 (bu_all h).1 (fun p hp => iv_g h hk p (by have := h.1.1.1.1; omega)) (hfu _)
theorem iv_TT {I A : Nat → Nat → Int32} {n : Nat} {P : Pln} {t : Nat → Nat} {sz z y : Nat} (h : Inv I n P t sz z y) (hk : Kp I A) : TR (A 93) (A 106) := by
  rw [Kp_row (a := 93) hk (fun b => rel_t (by decide)), Kp_106 hk]; exact h.2.2.2.1
theorem lk_kp {I : Nat → Nat → Int32} {n g : Nat} {P : Pln} {t : Nat → Nat} {sz z y : Nat} (h : Inv I n P t sz z y) : Kp I (lookF (buF I n P.ml) n g) := Kp_tr (bu_kp h) look_kp
theorem c_door {l : Launch} {G : Gm} {I : Nat → Nat → Int32} {J : Nat → Nat → Int64} (hI : InvE I) (x : Int32) : CPr l G iX8_door iX10_door [.int x] I J := by
  obtain ⟨n, P, t, sz, z, y, h⟩ := hI
  obtain ⟨hn, hn10, hs, hmo, hok, hn4⟩ := iv_n h
  by_cases hx : ¬ x < 0 ∧ x < 16
  · obtain ⟨d, hd, rfl⟩ := right_of hx
    obtain ⟨F, F2, hfu⟩ := fu_ex hok
    exact CPr.mk' (s_door hn hn10 hs hd) (s_mdoor (mOK_kp hmo (lk_kp h)) hfu hd) (door_eq (iv_TR h hfu) hd) ⟨n, P, t, sz, z, y, Inv_q2 h⟩
  · exact CPr.mk (s_door0 x hx) (s_mdoor0 hx) ⟨n, P, t, sz, z, y, Inv_q0 h⟩
/-- the counts -/
theorem iv_ms {I : Nat → Nat → Int32} {n F F2 : Nat} {P : Pln} {t : Nat → Nat} {sz z y : Nat} (h : Inv I n P t sz z y) (hfu : ∀ g, fuOK P n g F F2) :
    msF (lookF (buF I n P.ml) n 4) = mMis (wL P n (lookF (buF I n P.ml) n 4 104) F F2) (lookF (buF I n P.ml) n 4 106) ∧ svF (lookF (buF I n P.ml) n 4) = mSrv (wL P n (lookF (buF I n P.ml) n 4 104) F F2) (lookF (buF I n P.ml) n 4 106) ∧
    msF (lookF (buF I n P.ml) n 4) + svF (lookF (buF I n P.ml) n 4) = it (fun s x => x + bts 32 ((wL P n (lookF (buF I n P.ml) n 4 104) F F2) s) 0) 16 0 := by
  have hT := iv_TR h hfu
  have hk := lk_kp (g := 4) h
  have hTT := iv_TT h hk
  obtain ⟨e1, e2, e3, e4⟩ := msF_eq (A := lookF (buF I n P.ml) n 4) (x := lkR (buF I n P.ml) n 4) (t := lookF (buF I n P.ml) n 4 93) (fun d hd => look_at hd) (fun d hd => rfl) hT hTT
  refine ⟨by rw [e1, e2], by rw [e3, e4], ?_⟩
  rw [e1, e3, nI_add, trC_split, bts_sum hT.2.1, TR_C hT]
theorem c_leaks {l : Launch} {G : Gm} {I : Nat → Nat → Int32} {J : Nat → Nat → Int64} (hI : InvE I) : CPr l G iX8_leaks iX10_leaks [] I J := by
  obtain ⟨n, P, t, sz, z, y, h⟩ := hI
  obtain ⟨hn, hn10, hs, hmo, hok, hn4⟩ := iv_n h
  obtain ⟨F, F2, hfu⟩ := fu_ex hok
  exact CPr.mk' (s_leaks hn hn10 hs) (s_mleaks (mOK_kp hmo (lk_kp h)) hfu) (iv_ms h hfu).2.2 ⟨n, P, t, sz, z, y, Inv_q2 h⟩
theorem c_misuse {l : Launch} {G : Gm} {I : Nat → Nat → Int32} {J : Nat → Nat → Int64} (hI : InvE I) (w : Int32) : CPr l G iX8_misuse iX10_misuse [.int w] I J := by
  obtain ⟨n, P, t, sz, z, y, h⟩ := hI
  obtain ⟨hn, hn10, hs, hmo, hok, hn4⟩ := iv_n h
  obtain ⟨F, F2, hfu⟩ := fu_ex hok
  exact CPr.mk' (s_misuse hn hn10 hs w) (s_mmisuse (mOK_kp hmo (lk_kp h)) hfu) (by rw [(iv_ms h hfu).1, (iv_ms h hfu).2.1]) ⟨n, P, t, sz, z, y, Inv_q2 h⟩
theorem c_wrong {l : Launch} {G : Gm} {I : Nat → Nat → Int32} {J : Nat → Nat → Int64} (hI : InvE I) (i : Int32) : CPr l G iX8_wrong iX10_wrong [.int i] I J := by
  obtain ⟨n, P, t, sz, z, y, h⟩ := hI
  obtain ⟨hn, hn10, hs, hmo, hok, hn4⟩ := iv_n h
  obtain ⟨F, F2, hfu⟩ := fu_ex hok
  refine CPr.mk' (s_wrong hn hn10 hs i) (s_mwrong (mOK_kp hmo (lk_kp h)) hfu) ?_ ⟨n, P, t, sz, z, y, Inv_q2 h⟩
  have hT := TR_an (iv_TR h hfu) (iv_TT h (lk_kp (g := 4) h))
  exact mAt_eq (TR_cg hT (fun d hd => by unfold msw; rw [look_at hd]) (fun s _ => rfl)) i 256 0 0 (Nat.le_refl _)
