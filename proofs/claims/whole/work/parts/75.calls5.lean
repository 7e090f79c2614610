/-! ## the way -/
theorem Inv_fin {I Z : Nat → Nat → Int32} {n : Nat} {P : Pln} {t : Nat → Nat} {sz z y z' y' : Nat} {x : Int32} (h : Inv I n P t sz z y) (hx : x ≠ 4) (h07 : Z 0 7 = x) (hk : ∀ a b, rel a b → chg a b = false → ¬ (a = 0 ∧ b = 7) → Z a b = I a b) (hF : Z 0 8 = 0 → Fr Z n P)
    (hg : ∀ p, p < 10 → Z 4 p = Z 104 p ∧ W16 (Z 4 p)) (hT : TR (Z 93) (Z 106)) (hz : Z 95 4 = nI z' ∧ z' ≤ 91 ∧ Z 103 30 = nI z' ∧ ∀ i, i < z' → Z 97 i = Z 120 i) (hy : Z 98 8 = nI y' ∧ y' ≤ 10 ∧ Z 103 34 = nI y' ∧ ∀ i, i < y' → Z 102 i = Z 122 i) : Inv (tr Z x) n P t sz z' y' := by
  have hn := h.1.1.1.1
  have hr : ∀ q, q ≠ 0 → up1 Z 0 7 (I 0 7) q = Z q := fun q hq => up1_nf hq
  have hA : Inv (up1 Z 0 7 (I 0 7)) n P t sz z' y' := by
    refine Inv_gen h (fun a b hr hc => ?_) (fun q => ?_) ?_ ?_ ?_ ?_
    · unfold up1
      by_cases e : a = 0 ∧ b = 7
      · rw [if_pos e, e.1, e.2]
      · rw [if_neg e]; exact hk a b hr hc e
    · refine Fr_cg hn (hF ?_) (fun q h1 h2 => hr q (by omega))
      have : up1 Z 0 7 (I 0 7) 0 8 = Z 0 8 := by simp [up1]
      rw [← this]; exact q
    · rw [hr 4 (by decide), hr 104 (by decide)]; exact hg
    · rw [hr 93 (by decide), hr 106 (by decide)]; exact hT
    · rw [hr 95 (by decide), hr 103 (by decide), hr 97 (by decide), hr 120 (by decide)]; exact hz
    · rw [hr 98 (by decide), hr 103 (by decide), hr 102 (by decide), hr 122 (by decide)]; exact hy
  refine Inv_trZ hA hx (fun a b hr => ?_) (fun q h1 h2 => (hr q (by omega)).symm) (by simp [up1])
  unfold up1
  by_cases e : a = 0 ∧ b = 7
  · rw [if_pos e, e.1, e.2]; exact h07
  · rw [if_neg e, if_neg e]
theorem lks_of {A : Nat → Nat → Int32} {n : Nat} {P : Pln} (hok : P.ok n) (hA : Nf A n P) : lksOK A (llP P n n).length := by
  have hlen := llP_len hok n (Nat.le_refl _)
  have h10 := hok.1
  refine ⟨hA.2.2.2.2.2.1, by omega, fun i hi => ?_⟩
  obtain ⟨x, hx⟩ : ∃ x, (llP P n n)[i]? = some x := ⟨_, List.getElem?_eq_getElem hi⟩
  obtain ⟨g1, g2, g3⟩ := hA.2.2.2.2.2.2 i x hx
  have := Lk_lt hok ((LL_mem hok).mp ⟨x.2.2, List.mem_of_getElem? hx⟩)
  exact ⟨⟨x.1, g1, this.1⟩, ⟨x.2.1, g2, this.2⟩⟩
theorem c_way {l : Launch} {G : Gm} {I : Nat → Nat → Int32} {J : Nat → Nat → Int64} (hI : InvE I) (x d : Int32) : CPr l G iX8_way iX10_way [.int x, .int d] I J := by
  obtain ⟨n, P, t, sz, z, y, h⟩ := hI
  obtain ⟨hn, hn10, hs, hmo, hok, hn4⟩ := iv_n h
  by_cases hx : (¬ x < 0 ∧ x < 16) ∧ (¬ d < 0 ∧ d < 16)
  · obtain ⟨sec, hsec, rfl⟩ := right_of hx.1
    obtain ⟨door, hdo, rfl⟩ := right_of hx.2
    obtain ⟨F, F2, hfu⟩ := fu_ex hok
    have hE := (hfu (fun _ => 0)).1
    have hk := bu_kp h
    have hN := (bu_all h).1
    have hBn : buF I n P.ml 3 2 = nI n := (hk 3 2 (Or.inr (by decide))).trans hn
    have hshB : shP (buF I n P.ml) n P := shP_cg h.1.1 (hk 3 2 (Or.inr (by decide))) (fun q h1 h2 => Kp_row hk (fun b => rel_t (row_sh h1 h2)))
    have hsB := shP_OK hshB
    have hlk := lks_of hok hN.1
    have hgB : ∀ p, p < n → buF I n P.ml 4 p = buF I n P.ml 104 p := fun p hp => iv_g h hk p (by omega)
    have hE3 := ms_fuel (w := (wS P n (buF I n P.ml 104) F).2) (g := buF I n P.ml 104) hok hE (sec := sec) (door := door)
    have hFR := FR_of hok hE hN.1 hsec hdo hgB hE3
    generalize hB0 : buF I n P.ml = B0 at *
    generalize hc : (llP P n n).length = c at *
    generalize hf : wh (msQ P n (wA P n F) (wS P n (B0 104) F).2 (B0 104) sec door) 9000001 ms0 = f at *
    let M := meF B0 n (nI sec) door c
    have hMo : ∀ q, q ≠ 96 → M q = B0 q := fun q hq => stRow_off hq
    have hM96 : ∀ pl, pl < 250 → M 96 pl = meR B0 n (nI sec) door c pl := fun pl hpl => stRow_in hpl
    have hNM : Nf M n P := Nf_cg hN.1 (fun q h1 h2 => hMo q (by omega))
    have hbg : bgQ P n f (meR B0 n (nI sec) door c) (bgF M n P.ml (nI sec)) (wyF P n (wA P n F) (B0 104) sec f) := bg_eq hshB (fun q hq => hMo q (by omega)) hE hNM hsec (fun p hp => by rw [hMo 4 (by decide)]; exact hgB p hp) hM96 hFR
    rcases hbg with ⟨e1, e2⟩ | ⟨p, k, v, hp, hL, hkp, hk0, hv0, hv90, e1, e2, e3, e4⟩
    · -- none comes there
      have hfind := s_find0 (l := l) (G := G) (J := J) hBn hn10 hsB hlk hdo (nI sec) (show (bgF M n P.ml (nI sec)).1 = -1 by rw [e1])
      have hway := s_wayR hn hn10 hs hsec hdo (by rw [hB0]; exact hfind)
      have e104 : up1 M 0 7 0 104 = B0 104 := (up1_nf (by decide)).trans (hMo 104 (by decide))
      have hmo1 : mOK (up1 M 0 7 0) n P := mOK_cg (by rw [up1_nf (by decide), hMo 103 (by decide)]) (fun q hq => (up1_nf (by omega)).trans (hMo q (by omega))) (mOK_kp hmo hk)
      have hm := s_mway0 (l := l) (G := G) (J := J) hmo1 hfu hsec hdo (F3 := 9000001) (by rw [e104]; exact hE3) (by rw [e104, hf, e2]; exact (by decide : ¬ nI 100000 < 100000))
      refine CPr.mk hway hm ⟨n, P, t, sz, z, y, ?_⟩
      refine Inv_rdT h (by decide) ?_ (fun q h1 h2 => ?_) ?_
      · rw [hB0]
        refine Kp_tr (up07_kp (A := B0) (Z := M) (fun a b hr => by rw [hMo a (by rintro rfl; exact rel_no hr (by decide))])) (Kp_tr T0_kp (Kp_tr wk_kp (fun a b hr => by rw [stRow_off (rel_119 hr)]; rfl)))
      · rw [hB0, stRow_off (by omega)]; unfold wkF; rw [wk_off (by omega), T0_off (by omega), up1_nf (by omega), hMo q (by omega)]
      · rw [hB0, stRow_off (by decide)]; unfold wkF; rw [wk_off (by decide), T0_off (by decide)]
        simp only [up1, show ¬ ((8 : Nat) = 7) by decide, and_false, if_false]
        rw [hMo 0 (by decide)]
    · -- the way
      have hbd := hok.2.2 p hp k hkp
      have hfs : B0 (6 + 6 * p + 1 + 2) k = nI (P.fs p k) := (hshB.2.2.2.2 p hp k hkp).2.2.1
      have h12 := hok.2.1 p
      have hfind := s_find (l := l) (G := G) (J := J) hBn hn10 hsB hlk hdo (nI sec) (show (bgF M n P.ml (nI sec)).1 = nI (100 * p + k) by rw [e1]) (by omega) (by omega) hfs hbd.2.2.1 e3 (by omega)
      have hway := s_wayR hn hn10 hs hsec hdo (by rw [hB0]; exact hfind)
      have hst : 8 * p + P.fs p k < 90 := by omega
      have hpl : plc (8 * p + P.fs p k) = 25 * p + P.fs p k := plc_n (by omega) (by omega)
      let r0 : Rw := B0 120
      have hR0 : wkR M (up1 M 95 4 0) (0, r0) := ⟨up1_same _ _ _ _, fun i hi => absurd hi (Nat.not_lt_zero _), fun q h1 h2 => up1_nf h1⟩
      have hR1 : wkR M (apT (up1 M 95 4 0) (nI (100 * p + k))) (1, upd r0 0 (nI (100 * p + k))) := apT_R hR0 (show 0 < 91 by decide) _
      have hwk := walk_eq hok hE hN.1 hsec hdo hgB (by rw [hc]; exact hFR) hMo (by rw [hc]; exact hM96) v 91 (8 * p + P.fs p k) _ _ hst e4 hv0 hv90 (by omega) (show 1 + v ≤ 91 by omega) hR1
      rw [hc, hpl] at hwk
      obtain ⟨w1, w2, w3⟩ := hwk
      have hcn : cn (M 96 (25 * p + P.fs p k)) = v := by rw [hM96 _ (by omega), e3]; exact nI_clamp (by omega)
      have hwl : wlF M (nI sec) c p k (P.fs p k) = waF M (nI sec) c v (25 * p + P.fs p k) (apT (up1 M 95 4 0) (nI (100 * p + k))) := by unfold wlF; rw [hcn]
      generalize hW : wyW P n (wA P n F) (wS P n (B0 104) F).2 (B0 104) sec door f 91 (8 * p + P.fs p k) (1, upd r0 0 (nI (100 * p + k))) = W at w1 w2
      rw [← hwl] at w1
      let D := wlF M (nI sec) c p k (P.fs p k)
      have hDo : ∀ q, q ≠ 95 → q ≠ 97 → q ≠ 96 → D q = B0 q := fun q h1 h2 h3 => (w1.2.2 q h1 h2).trans (hMo q h3)
      have e104 : up1 D 0 7 0 104 = B0 104 := (up1_nf (by decide)).trans (hDo 104 (by decide) (by decide) (by decide))
      have e120 : up1 D 0 7 0 120 = B0 120 := (up1_nf (by decide)).trans (hDo 120 (by decide) (by decide) (by decide))
      have hmo1 : mOK (up1 D 0 7 0) n P := mOK_cg (by rw [up1_nf (by decide), hDo 103 (by decide) (by decide) (by decide)]) (fun q hq => (up1_nf (by omega)).trans (hDo q (by omega) (by omega) (by omega))) (mOK_kp hmo hk)
      have hm := s_mway (l := l) (G := G) (J := J) hmo1 hfu hsec hdo (F3 := 9000001) (x := (p, k)) (by rw [e104]; exact hE3) (by rw [e104, hf, e2]; exact (nI_ltI (by omega) (by decide)).mpr (show v + 1 < 100000 by omega)) (by rw [e104, hf, e2]) ⟨hp, hkp⟩ (by rw [e104, hf]; exact w3)
      rw [e104, e120, hf, show upd (B0 120) 0 = upd r0 0 from rfl, hW] at hm
      refine CPr.mk' hway hm ?_ ⟨n, P, t, sz, W.1, y, ?_⟩
      · rw [e2]
        show D 95 4 = nI (v + 1)
        rw [show D 95 4 = nI W.1 from w1.1, w2]
        congr 1
        show 1 + v = v + 1
        omega
      · have hZo : ∀ q, q ≠ 0 → q ≠ 95 → q ≠ 97 → q ≠ 96 → q ≠ 103 → q ≠ 119 → q ≠ 120 → q < 114 ∨ 118 < q → wyM (stRow (wkF (T0 (up1 D 0 7 0)) P n F F2) 119 91 f) W q = B0 q := by
          intro q g0 g1 g2 g3 g4 g5 g6 g7
          unfold wyM
          rw [up1_nf g4, stRow_off g6, stRow_off g5]
          unfold wkF
          rw [wk_off g7, T0_off g4, up1_nf g0]
          exact hDo q g1 g2 g3
        have hZ3 : ∀ b, b ≠ 0 → b ≠ 30 → wyM (stRow (wkF (T0 (up1 D 0 7 0)) P n F F2) 119 91 f) W 103 b = B0 103 b := by
          intro b g0 g1
          unfold wyM
          rw [show up1 (stRow (stRow (wkF (T0 (up1 D 0 7 0)) P n F F2) 119 91 f) 120 92 W.2) 103 30 (nI W.1) 103 b = stRow (stRow (wkF (T0 (up1 D 0 7 0)) P n F F2) 119 91 f) 120 92 W.2 103 b by simp [up1, g1], stRow_off (by decide), stRow_off (by decide)]
          unfold wkF
          rw [wk_off (by decide), T0_103 g0, up1_nf (by decide), hDo 103 (by decide) (by decide) (by decide)]
        have hZD : ∀ q, q ≠ 0 → q < 103 → wyM (stRow (wkF (T0 (up1 D 0 7 0)) P n F F2) 119 91 f) W q = D q := by
          intro q g0 g1
          unfold wyM
          rw [up1_nf (by omega), stRow_off (by omega), stRow_off (by omega)]
          unfold wkF
          rw [wk_off (by omega), T0_off (by omega), up1_nf g0]
        have hZ0 : wyM (stRow (wkF (T0 (up1 D 0 7 0)) P n F F2) 119 91 f) W 0 = up1 D 0 7 0 0 := by
          unfold wyM
          rw [up1_nf (by decide), stRow_off (by decide), stRow_off (by decide)]
          unfold wkF
          rw [wk_off (by decide), T0_off (by decide)]
        have hW1 : W.1 = 1 + v := w2
        refine Inv_fin h (by decide) (by rw [hZ0]; exact up1_same _ _ _ _) (fun a b hr hcg hne => ?_) (fun _ => ?_) (fun q hq => ?_) ?_ ⟨?_, by omega, ?_, fun i hi => ?_⟩ ?_
        · by_cases a0 : a = 0
          · subst a0; exact absurd ⟨rfl, rel_0 hr⟩ hne
          · by_cases a3 : a = 103
            · subst a3
              rw [hZ3 b (rel_103 hr) (by rintro rfl; simp [chg] at hcg)]
              exact hk 103 b hr
            · by_cases a95 : a = 95
              · subst a95
                rcases hr with q | q
                · exact absurd q (by decide)
                · simp [relL] at q; subst q; simp [chg] at hcg
              · have g1 : a ≠ 97 := by rintro rfl; simp [chg] at hcg
                have g2 : a ≠ 96 := by rintro rfl; exact rel_no hr (by decide)
                have g3 : a ≠ 120 := by rintro rfl; simp [chg] at hcg
                rw [hZo a a0 a95 g1 g2 a3 (rel_119 hr) g3 (rel_w hr)]
                exact hk a b hr
        · refine Fr_cg hn10 hN (fun q h1 h2 => ?_)
          rw [hZo q (by omega) (by omega) (by omega) (by omega) (by omega) (by omega) (by omega) (by omega)]
        · rw [hZo 4 (by decide) (by decide) (by decide) (by decide) (by decide) (by decide) (by decide) (by decide), hZo 104 (by decide) (by decide) (by decide) (by decide) (by decide) (by decide) (by decide) (by decide)]
          have := iv_gw h q hq
          rw [Kp_row (a := 4) hk (fun b => rel_t (by decide)), Kp_104 hk]; exact this
        · rw [hZo 93 (by decide) (by decide) (by decide) (by decide) (by decide) (by decide) (by decide) (by decide), hZo 106 (by decide) (by decide) (by decide) (by decide) (by decide) (by decide) (by decide) (by decide)]
          exact iv_TT h hk
        · rw [hZD 95 (by decide) (by decide)]; exact w1.1
        · unfold wyM; rw [up1_same]
        · rw [hZD 97 (by decide) (by decide), show D 97 i = W.2 i from w1.2.1 i hi]
          unfold wyM
          rw [up1_nf (by decide), stRow_in (by omega)]
        · rw [hZD 98 (by decide) (by decide), hZ3 34 (by decide) (by decide), hZD 102 (by decide) (by decide), hZo 122 (by decide) (by decide) (by decide) (by decide) (by decide) (by decide) (by decide) (by decide), hDo 98 (by decide) (by decide) (by decide), hDo 102 (by decide) (by decide) (by decide)]
          rw [show B0 98 8 = I 98 8 from hk 98 8 (Or.inr (by decide)), show B0 103 34 = I 103 34 from hk 103 34 (Or.inr (by decide)), show B0 102 = I 102 from Kp_row hk (fun b => rel_t (by decide)), show B0 122 = I 122 from Kp_row hk (fun b => rel_t (by decide))]
          exact iv_y h
  · exact CPr.mk (s_way0 x d hx) (s_mway2 hx) ⟨n, P, t, sz, z, y, Inv_ref h (by decide)⟩
