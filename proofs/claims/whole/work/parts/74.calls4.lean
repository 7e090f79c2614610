/-! ## trim -/
theorem c_trim {l : Launch} {G : Gm} {I : Nat → Nat → Int32} {J : Nat → Nat → Int64} (hI : InvE I) : CPr l G iX8_trim iX10_trim [] I J := by
  obtain ⟨n, P, t, sz, z, y, h⟩ := hI
  obtain ⟨hn, hn10, hs, hmo, hok, hn4⟩ := iv_n h
  obtain ⟨F, F2, hfu⟩ := fu_ex hok
  have hk := bu_kp h
  have hN := (bu_all h).1
  have h4 : ∀ p, p < 10 → buF I n P.ml 4 p = buF I n P.ml 104 p ∧ W16 (buF I n P.ml 104 p) := fun p hp => by
    have e4 : buF I n P.ml 4 = I 4 := Kp_row hk (fun b => rel_t (by decide))
    have := iv_gw h p hp
    rw [Kp_104 hk, e4]
    exact ⟨this.1, this.1 ▸ this.2⟩
  let B0 := buF I n P.ml
  let gc := (it (tmF B0) n (0, B0 4)).2
  let A1 := stRow B0 4 10 gc
  have e104 : A1 104 = B0 104 := stRow_off (by decide)
  obtain ⟨t1, t2⟩ := trim_eq hok hN.1 (hfu (fun _ => 0)).1 (g := B0 104) (g' := B0 4) (fun p hp => (h4 p hp).1) (fun p hp => (h4 p hp).2)
  have hmo1 : mOK A1 n P := mOK_cg (by rw [show A1 103 = B0 103 from stRow_off (by decide)]) (fun q hq => stRow_off (by omega)) (mOK_kp hmo hk)
  refine CPr.mk' (I1 := A1) (I2 := stRow (akF (T0 A1) P n F) 104 10 (it (tmM P (wA P n F)) n (0, A1 104)).2) (s_trim hn hn10 hs) (s_mtrim hmo1 hfu) (by rw [e104]; exact t1) ⟨n, P, t, sz, z, y, ?_⟩
  have ro : ∀ a, a ≠ 104 → a ≠ 4 → a ≠ 103 → a < 114 ∨ 118 < a → stRow (akF (T0 A1) P n F) 104 10 (it (tmM P (wA P n F)) n (0, A1 104)).2 a = B0 a := by
    intro a h1 h2 h3 h5
    rw [stRow_off h1]
    unfold akF
    rw [wk_off h5, T0_off h3]
    exact stRow_off h2
  have r3 : ∀ b, b ≠ 0 → stRow (akF (T0 A1) P n F) 104 10 (it (tmM P (wA P n F)) n (0, A1 104)).2 103 b = B0 103 b := by
    intro b hb
    rw [stRow_off (by decide)]
    unfold akF
    rw [wk_off (by decide), T0_103 hb]
    exact congrFun (stRow_off (by decide)) b
  have r4 : ∀ p, p < 10 → stRow (akF (T0 A1) P n F) 104 10 (it (tmM P (wA P n F)) n (0, A1 104)).2 4 p = gc p := by
    intro p hp
    rw [stRow_off (by decide)]
    unfold akF
    rw [wk_off (by decide), T0_off (by decide)]
    exact stRow_in hp
  refine Inv_gen h (fun a b hr hc => ?_) (fun q => ?_) (fun q hq => ?_) ?_ ?_ ?_
  · have h1 : a ≠ 4 := by rintro rfl; simp [chg] at hc
    have h2 : a ≠ 104 := by rintro rfl; simp [chg] at hc
    by_cases e : a = 103
    · subst e; rw [r3 b (rel_103 hr)]; exact hk 103 b hr
    · rw [ro a h2 h1 e (rel_w hr)]; exact hk a b hr
  · exact Fr_cg hn10 hN (fun q h1 h2 => ro q (by omega) (by omega) (by omega) (by omega))
  · rw [r4 q hq, stRow_in hq, e104]
    have := t2 q hq
    exact ⟨this.1, by rw [show gc q = _ from this.1]; exact this.2⟩
  · rw [ro 93 (by decide) (by decide) (by decide) (by decide), ro 106 (by decide) (by decide) (by decide) (by decide)]; exact iv_TT h hk
  · rw [ro 95 (by decide) (by decide) (by decide) (by decide), r3 30 (by decide), ro 97 (by decide) (by decide) (by decide) (by decide), ro 120 (by decide) (by decide) (by decide) (by decide)]
    rw [show B0 95 4 = I 95 4 from hk 95 4 (Or.inr (by decide)), show B0 103 30 = I 103 30 from hk 103 30 (Or.inr (by decide)), show B0 97 = I 97 from Kp_row hk (fun b => rel_t (by decide)), show B0 120 = I 120 from Kp_row hk (fun b => rel_t (by decide))]
    exact iv_z h
  · rw [ro 98 (by decide) (by decide) (by decide) (by decide), r3 34 (by decide), ro 102 (by decide) (by decide) (by decide) (by decide), ro 122 (by decide) (by decide) (by decide) (by decide)]
    rw [show B0 98 8 = I 98 8 from hk 98 8 (Or.inr (by decide)), show B0 103 34 = I 103 34 from hk 103 34 (Or.inr (by decide)), show B0 102 = I 102 from Kp_row hk (fun b => rel_t (by decide)), show B0 122 = I 122 from Kp_row hk (fun b => rel_t (by decide))]
    exact iv_y h
/-! ## without -/
theorem mw_kp {A : Nat → Nat → Int32} {n p : Nat} {r : Int32} : Kp A (mwF A n p r) := fun a b hr => by rw [mw_off (rel_99 hr) (rel_94 hr)]
theorem tw_kp {I : Nat → Nat → Int32} {P : Pln} {n F F2 p r : Nat} : Kp I (twF I P n F F2 p r) := by
  intro a b hr
  have hw : ∀ q, q < 114 → wkF (trnF I p r) P n F F2 q = trnF I p r q := fun q hq => by unfold wkF; exact wk_off (Or.inl hq)
  by_cases e : a = 104
  · subst e
    unfold twF
    generalize wkF (trnF I p r) P n F F2 = Z at hw ⊢
    have h104 := hw 104 (by decide)
    unfold trnF at h104 ⊢
    by_cases e2 : b = p
    · subst e2
      rw [up1_same, h104, up1_same, Int32.xor_assoc, Int32.xor_self, Int32.xor_zero]
    · have e3 : ∀ (Y : Nat → Nat → Int32) (v : Int32), up1 Y 104 p v 104 b = Y 104 b := fun Y v => by simp [up1, e2]
      rw [e3, h104, e3]
  · unfold twF
    rw [show trnF (wkF (trnF I p r) P n F F2) p r a b = wkF (trnF I p r) P n F F2 a b from up1_ne e]
    unfold wkF
    rw [wk_off (rel_w hr)]
    exact up1_ne e
theorem tw_row {I : Nat → Nat → Int32} {P : Pln} {n F F2 p r q : Nat} (h : q < 104) : twF I P n F F2 p r q = I q := by
  unfold twF trnF wkF
  rw [up1_nf (by omega), wk_off (by omega), up1_nf (by omega)]
theorem up07_kp {A Z : Nat → Nat → Int32} {x : Int32} (h : Kp A Z) : Kp (up1 A 0 7 x) (up1 Z 0 7 x) := fun a b hr => by
  unfold up1
  by_cases e : a = 0 ∧ b = 7
  · rw [if_pos e, if_pos e]
  · rw [if_neg e, if_neg e]; exact h a b hr
/-- a reading, then the trouble set by both: over the class's memory with the flow -/
theorem Inv_rdT {I Z : Nat → Nat → Int32} {n : Nat} {P : Pln} {t : Nat → Nat} {sz z y : Nat} {x : Int32} (h : Inv I n P t sz z y) (hx : x ≠ 4) (hk : Kp (up1 (buF I n P.ml) 0 7 x) Z) (hf : ∀ q, 73 ≤ q → q < 92 → Z q = buF I n P.ml q) (h8 : Z 0 8 = buF I n P.ml 0 8) : Inv (tr Z x) n P t sz z y :=
  Inv_trZ (Inv_rd h (bu_kp h) (fun _ _ _ => rfl)) hx hk hf h8
theorem c_without {l : Launch} {G : Gm} {I : Nat → Nat → Int32} {J : Nat → Nat → Int64} (hI : InvE I) (x r : Int32) : CPr l G iX8_without iX10_without [.int x, .int r] I J := by
  obtain ⟨n, P, t, sz, z, y, h⟩ := hI
  obtain ⟨hn, hn10, hs, hmo, hok, hn4⟩ := iv_n h
  have e34 : ∀ v : Int32, up1 I 0 7 v 103 4 = I 3 2 := fun v => by rw [up1_off (by decide), ← iv_34 h]
  by_cases hx : ¬ x < 0 ∧ x < I 3 2
  · obtain ⟨p, hp, rfl⟩ := part_of hn10 (by rw [← hn]; exact hx)
    by_cases hr : ¬ r < 0 ∧ r < 16
    · obtain ⟨r, hr16, rfl⟩ := right_of hr
      obtain ⟨F, F2, hfu⟩ := fu_ex hok
      have hk := bu_kp h
      have hN := (bu_all h).1
      let B0 := buF I n P.ml
      let C := mwF B0 n p (nI r)
      have hC : Kp B0 C := mw_kp
      have hr4 : ∀ q, q ≠ 0 → up1 C 0 7 0 q = C q := fun q hq => up1_nf hq
      have hmo1 : mOK (up1 C 0 7 0) n P := mOK_cg (by rw [hr4 103 (by decide)]) (fun q hq => hr4 q (by omega)) (mOK_kp hmo (Kp_tr hk hC))
      refine CPr.mk' (s_without hn hn10 hs (nI r) (by omega) hx hr) (s_mwithout hmo1 hfu hp hr16) ?_ ⟨n, P, t, sz, z, y, ?_⟩
      · rw [hr4 104 (by decide), hr4 106 (by decide), Kp_104 hC, Kp_106 hC]
        exact mw_eq hok hN (fun p hp => iv_g h hk p hp) (iv_TT h hk) hfu
      · refine Inv_rdT h (by decide) (Kp_tr (up07_kp hC) (Kp_tr T0_kp tw_kp)) (fun q h1 h2 => ?_) ?_
        · rw [tw_row (by omega), T0_off (by omega), up1_nf (by omega)]
          exact mw_off (by omega) (by omega)
        · rw [tw_row (by decide), T0_off (by decide)]
          show up1 C 0 7 0 0 8 = _
          simp only [up1, show ¬ ((8 : Nat) = 7) by decide, and_false, if_false]
          exact congrFun (mw_off (by decide) (by decide)) 8
    · exact CPr.mk (s_without2 _ r hx hr) (s_mwithout2 (by rw [e34]; exact hx) hr) ⟨n, P, t, sz, z, y, Inv_ref h (by decide)⟩
  · exact CPr.mk (s_without1 x r hx) (s_mwithout1 (by rw [e34]; exact hx)) ⟨n, P, t, sz, z, y, Inv_ref h (by decide)⟩
/-! ## key -/
theorem offW_kp {I A : Nat → Nat → Int32} (h : offW I A) : Kp I A := fun a b hr => by rw [h a (rel_w hr)]
theorem offTD_kp {I A : Nat → Nat → Int32} (h : offTD I A) : Kp I A := fun a b hr => by rw [h a (rel_99 hr) (rel_94 hr)]
theorem c_key {l : Launch} {G : Gm} {I : Nat → Nat → Int32} {J : Nat → Nat → Int64} (hI : InvE I) : CPr l G iX8_key iX10_key [] I J := by
  obtain ⟨n, P, t, sz, z, y, h⟩ := hI
  obtain ⟨hn, hn10, hs, hmo, hok, hn4⟩ := iv_n h
  obtain ⟨F, F2, hfu⟩ := fu_ex hok
  have hk := bu_kp h
  have hN := (bu_all h).1
  have hms := (iv_ms h hfu).1
  have hc := s_key (l := l) (G := G) (J := J) hn hn10 hs
  have hkl := lk_kp (g := 4) h
  have hlN : Fr (lookF (buF I n P.ml) n 4) n P := Fr_cg hn10 hN (fun q h1 h2 => look_off (by omega))
  by_cases h0 : msF (lookF (buF I n P.ml) n 4) = 0
  · unfold xKey at hc
    rw [if_pos h0] at hc
    dsimp only at hc
    refine CPr.mk hc (s_mkey0 (mOK_cg (by rw [up1_nf (by decide)]) (fun q hq => up1_nf (by omega)) (mOK_kp hmo hkl)) hfu ?_) ⟨n, P, t, sz, z, y, ?_⟩
    · rw [up1_nf (by decide), up1_nf (by decide), ← hms]; exact h0
    · refine Inv_rdT h (by decide) (Kp_tr (up07_kp look_kp) (Kp_tr T0_kp wk_kp)) (fun q h1 h2 => ?_) ?_
      · unfold wkF; rw [wk_off (by omega), T0_off (by omega), up1_nf (by omega)]; exact look_off (by omega)
      · unfold wkF; rw [wk_off (by decide), T0_off (by decide)]
        simp only [up1, show ¬ ((8 : Nat) = 7) by decide, and_false, if_false]
        rw [look_off (by decide)]
  · unfold xKey at hc
    rw [if_neg h0] at hc
    dsimp only at hc
    obtain ⟨N, hN256, eN⟩ : ∃ N, N ≤ 256 ∧ mMis (wL P n (lookF (buF I n P.ml) n 4 104) F F2) (lookF (buF I n P.ml) n 4 106) = nI N := mMis_le (iv_TR h hfu) (iv_TT h hkl)
    have eM : msF (lookF (buF I n P.ml) n 4) = nI N := hms.trans eN
    rw [eM] at hc
    obtain ⟨k1, k2⟩ := key_eq hok hlN (g := lookF (buF I n P.ml) n 4 104) (me := lookF (buF I n P.ml) n 4 106) (fun p hp => iv_g h hkl p hp) (iv_TT h hkl) hfu hN256 eN
    have hk2 := offTD_kp k2
    let C := (bsF (lookF (buF I n P.ml) n 4) n (nI N)).2.2
    have hr4 : ∀ q, q ≠ 0 → up1 C 0 7 0 q = C q := fun q hq => up1_nf hq
    have e104 : up1 C 0 7 0 104 = lookF (buF I n P.ml) n 4 104 := (hr4 104 (by decide)).trans (Kp_104 hk2)
    have e106 : up1 C 0 7 0 106 = lookF (buF I n P.ml) n 4 106 := (hr4 106 (by decide)).trans (Kp_106 hk2)
    have hmo1 : mOK (up1 C 0 7 0) n P := mOK_cg (by rw [hr4 103 (by decide)]) (fun q hq => hr4 q (by omega)) (mOK_kp hmo (Kp_tr hkl hk2))
    have hne : ¬ mMis (wL P n (up1 C 0 7 0 104) F F2) (up1 C 0 7 0 106) = 0 := by rw [e104, e106, ← hms]; exact h0
    have hm := s_mkey (l := l) (G := G) (J := J) hmo1 hfu hne
    rw [e104, e106, eN] at hm
    refine hc.mono fun v M hv => ⟨_, _, hv.1, hv.2, hm.mono fun v' M' hv' => ?_⟩
    obtain ⟨q1, A, q2, q3⟩ := hv'
    refine ⟨by rw [q1, k1], tr A 0, q3, n, P, t, sz, z, y, ?_⟩
    refine Inv_rdT h (by decide) (Kp_tr (up07_kp (Kp_tr look_kp hk2)) (Kp_tr T0_kp (offW_kp q2))) (fun q h1 h2 => ?_) ?_
    · rw [q2 q (by omega), T0_off (by omega), hr4 q (by omega), show C q = _ from k2 q (by omega) (by omega), look_off (by omega)]
    · rw [q2 0 (by decide), T0_off (by decide)]
      show up1 C 0 7 0 0 8 = _
      simp only [up1, show ¬ ((8 : Nat) = 7) by decide, and_false, if_false]
      rw [show C 0 = _ from k2 0 (by decide) (by decide), look_off (by decide)]
