/-! ## the calls that change grants, uses, rows -/
def chg (a b : Nat) : Bool := [4, 104, 93, 106, 97, 120, 102, 122].contains a || [(95, 4), (103, 30), (98, 8), (103, 34)].contains (a, b)
theorem Inv_gen {I I' : Nat → Nat → Int32} {n : Nat} {P : Pln} {t : Nat → Nat} {sz z y z' y' : Nat} (h : Inv I n P t sz z y) (hk : ∀ a b, rel a b → chg a b = false → I' a b = I a b) (hF : I' 0 8 = 0 → Fr I' n P)
    (hg : ∀ p, p < 10 → I' 4 p = I' 104 p ∧ W16 (I' 4 p)) (hT : TR (I' 93) (I' 106)) (hz : I' 95 4 = nI z' ∧ z' ≤ 91 ∧ I' 103 30 = nI z' ∧ ∀ i, i < z' → I' 97 i = I' 120 i) (hy : I' 98 8 = nI y' ∧ y' ≤ 10 ∧ I' 103 34 = nI y' ∧ ∀ i, i < y' → I' 102 i = I' 122 i) : Inv I' n P t sz z' y' := by
  obtain ⟨⟨a1, a2, a3, a4, a5, a6, a7, a8⟩, ⟨b1, b2, b3, b4, b5⟩, c1, c2, c3, c4, c5, c6, c7, c8⟩ := h
  have hn := a1.1.1
  have r0 : ∀ a, rowAll a = true → (∀ b, chg a b = false) → I' a = I a := fun a ha hb => by funext b; exact hk a b (rel_t ha) (hb b)
  have r1 : ∀ a b, (a, b) ∈ relL → chg a b = false → I' a b = I a b := fun a b ha hb => hk a b (Or.inr ha) hb
  have nsh : ∀ a, 6 ≤ a → a ≤ 65 → ∀ b, chg a b = false := by
    intro a h1 h2 b
    simp [chg]
    omega
  have n8 : ∀ a, a = 105 ∨ (107 ≤ a ∧ a ≤ 111) → ∀ b, chg a b = false := by
    intro a h b
    simp [chg]
    omega
  refine ⟨⟨shP_cg a1 (r1 3 2 (by decide) (by decide)) (fun q h1 h2 => r0 q (row_sh h1 h2) (nsh q h1 h2)), ?_, ?_, a4, hF, fun p hp => (hg p hp).2, ⟨hz.1, hz.2.1⟩, ⟨hy.1, hy.2.1⟩⟩, ⟨?_, ?_, ?_, hz.2.2.1, hy.2.2.1⟩, fun p hp => (hg p hp).1, hT, ?_, ?_, ?_, ?_, hz.2.2.2, hy.2.2.2⟩
  · unfold byOK; rw [r0 2 (by decide) (fun b => by simp [chg])]; exact a2
  · rw [r1 1 1 (by decide) (by decide)]; exact a3
  · exact mOK_cg (r1 103 4 (by decide) (by decide)) (fun q hq => r0 q (row_m hq) (n8 q hq)) b1
  · unfold byM; rw [r0 113 (by decide) (fun b => by simp [chg])]; exact b2
  · rw [r1 103 15 (by decide) (by decide)]; exact b3
  · rw [r1 0 7 (by decide) (by decide), r1 103 1 (by decide) (by decide)]; exact c3
  · rw [r1 0 7 (by decide) (by decide), r1 103 2 (by decide) (by decide), r1 66 3 (by decide) (by decide)]; exact c4
  · rw [r1 66 2 (by decide) (by decide), r1 103 3 (by decide) (by decide)]; exact c5
  · intro p hp k hkk
    rw [r0 (6 + 6 * p + 1 + 3) (row_sh (by omega) (by omega)) (nsh _ (by omega) (by omega)), r0 110 (by decide) (n8 110 (by omega))]; exact c6 p hp k hkk
theorem iv_z {I : Nat → Nat → Int32} {n : Nat} {P : Pln} {t : Nat → Nat} {sz z y : Nat} (h : Inv I n P t sz z y) : I 95 4 = nI z ∧ z ≤ 91 ∧ I 103 30 = nI z ∧ ∀ i, i < z → I 97 i = I 120 i := ⟨h.1.2.2.2.2.2.2.1.1, h.1.2.2.2.2.2.2.1.2, h.2.1.2.2.2.1, h.2.2.2.2.2.2.2.2.1⟩
theorem iv_y {I : Nat → Nat → Int32} {n : Nat} {P : Pln} {t : Nat → Nat} {sz z y : Nat} (h : Inv I n P t sz z y) : I 98 8 = nI y ∧ y ≤ 10 ∧ I 103 34 = nI y ∧ ∀ i, i < y → I 102 i = I 122 i := ⟨h.1.2.2.2.2.2.2.2.1, h.1.2.2.2.2.2.2.2.2, h.2.1.2.2.2.2, h.2.2.2.2.2.2.2.2.2⟩
theorem iv_gw {I : Nat → Nat → Int32} {n : Nat} {P : Pln} {t : Nat → Nat} {sz z y : Nat} (h : Inv I n P t sz z y) : ∀ p, p < 10 → I 4 p = I 104 p ∧ W16 (I 4 p) := fun p hp => ⟨h.2.2.1 p hp, h.1.2.2.2.2.2.1 p hp⟩
/-- a change, then the trouble set by both -/
theorem Inv_trZ {A Z : Nat → Nat → Int32} {n : Nat} {P : Pln} {t : Nat → Nat} {sz z y : Nat} {x : Int32} (h : Inv A n P t sz z y) (hx : x ≠ 4) (hk : Kp (up1 A 0 7 x) Z) (hf : ∀ q, 73 ≤ q → q < 92 → Z q = A q) (h8 : Z 0 8 = A 0 8) : Inv (tr Z x) n P t sz z y := by
  refine Inv_at (Inv_set h hx) (fun a b hr => ?_) (fun q h1 h2 => ?_) ?_
  · by_cases e : a = 103
    · subst e
      unfold setT
      rw [up1_off (by decide)]
      by_cases e1 : b = 1
      · subst e1; simp [tr, up1]
      · by_cases e2 : b = 2
        · subst e2; simp [tr, up1]
        · rw [tr_103 e1 e2, tr_103 e1 e2, hk 103 b hr, up1_off (by decide)]
    · rw [tr_off e, hk a b hr]
      unfold setT
      by_cases e0 : a = 0
      · subst e0
        rw [rel_0 hr, up1_same, up1_same]
      · rw [up1_off e0, up1_off e0, tr_off e]
  · unfold setT; rw [tr_off (by omega), hf q h1 h2, up1_off (by omega), tr_off (by omega)]
  · rw [tr_off (by decide), h8]; unfold setT; simp [up1, tr]
/-- a refusal alone -/
theorem Inv_ref {I : Nat → Nat → Int32} {n : Nat} {P : Pln} {t : Nat → Nat} {sz z y : Nat} {x : Int32} (h : Inv I n P t sz z y) (hx : x ≠ 4) : Inv (tr (T0 (up1 I 0 7 x)) x) n P t sz z y :=
  Inv_trZ h hx T0_kp (fun q h1 h2 => by rw [T0_off (by omega), up1_off (by omega)]) (by rw [T0_off (by decide)]; simp [up1])
theorem c_fault {l : Launch} {G : Gm} {I : Nat → Nat → Int32} {J : Nat → Nat → Int64} (hI : InvE I) : CPr l G iX8_fault iX10_fault [] I J := by
  obtain ⟨n, P, t, sz, z, y, h⟩ := hI
  exact CPr.mk' s_fault s_mfault h.2.2.2.2.2.2.1 ⟨n, P, t, sz, z, y, Inv_q0 h⟩
theorem c_where {l : Launch} {G : Gm} {I : Nat → Nat → Int32} {J : Nat → Nat → Int64} (hI : InvE I) : CPr l G iX8_where iX10_where [] I J := by
  obtain ⟨n, P, t, sz, z, y, h⟩ := hI
  exact CPr.mk' s_where s_mwhere h.2.2.2.2.2.1 ⟨n, P, t, sz, z, y, Inv_q0 h⟩
theorem c_trouble {l : Launch} {G : Gm} {I : Nat → Nat → Int32} {J : Nat → Nat → Int64} (hI : InvE I) : CPr l G iX8_trouble iX10_trouble [] I J := by
  obtain ⟨n, P, t, sz, z, y, h⟩ := hI
  exact CPr.mk' s_trouble s_mtrouble h.2.2.2.2.1 ⟨n, P, t, sz, z, y, Inv_q0 h⟩
theorem c_cured {l : Launch} {G : Gm} {I : Nat → Nat → Int32} {J : Nat → Nat → Int64} (hI : InvE I) (x : Int32) : CPr l G iX8_cured iX10_cured [.int x] I J := by
  obtain ⟨n, P, t, sz, z, y, h⟩ := hI
  obtain ⟨y1, y2, y3, y4⟩ := iv_y h
  by_cases hx : x < 0 ∨ ¬ x < I 98 8
  · exact CPr.mk (s_cured1 x hx) (s_mcured1 (by rw [y3, ← y1]; exact hx)) ⟨n, P, t, sz, z, y, Inv_q0 h⟩
  · rw [not_or, Classical.not_not] at hx
    obtain ⟨i, hi, rfl⟩ := nI_of hx.1
    have hiy : i < y := (nI_ltI hi (by omega)).mp (y1 ▸ hx.2)
    exact CPr.mk' (s_cured (by omega) hx.2) (s_mcured (by omega) (by rw [y3, ← y1]; exact hx.2)) (y4 i hiy) ⟨n, P, t, sz, z, y, Inv_q0 h⟩
theorem c_line {l : Launch} {G : Gm} {I : Nat → Nat → Int32} {J : Nat → Nat → Int64} (hI : InvE I) (x k w : Int32) : CPr l G iX8_line iX10_line [.int x, .int k, .int w] I J := by
  obtain ⟨n, P, t, sz, z, y, h⟩ := hI
  obtain ⟨hn, hn10, hs, hmo, hok, hn4⟩ := iv_n h
  by_cases hx : ¬ x < 0 ∧ x < I 3 2
  · obtain ⟨p, hp, rfl⟩ := part_of hn10 (by rw [← hn]; exact hx)
    have hx' : ¬ nI p < 0 ∧ nI p < I 103 4 := by rw [← iv_34 h]; exact hx
    have e5 : I (6 + 6 * p) 5 = I 105 p := by rw [h.1.1.2.2.2.1 p (by omega), hmo.2.2.1 p hp]
    by_cases hk : ¬ k < 0 ∧ k < I (6 + 6 * p) 5
    · obtain ⟨k', hk', rfl⟩ := nI_of hk.1
      have h12 := hok.2.1 p
      have hkm : k' < P.ml p := (nI_ltI hk' (by omega)).mp (by rw [← h.1.1.2.2.2.1 p (by omega)]; exact hk.2)
      refine CPr.mk' (s_line3 w (by omega) (by omega) hx hk) (s_mline3 (by omega) (by omega) hx' (by rw [← e5]; exact hk)) ?_ ⟨n, P, t, sz, z, y, Inv_q0 h⟩
      have h1 := h.1.1.2.2.2.2 p hp k' hkm
      have h2 := hmo.2.2.2 p hp k' hkm
      unfold lnv mlnv
      rw [h1.1, h1.2.1, h1.2.2.1, h2.1, h2.2.1, h2.2.2.1, h.2.2.2.2.2.2.2.1 p hp k' hkm]
    · exact CPr.mk (s_line2 k w (by omega) hx hk) (s_mline2 (by omega) hx' (by rw [← e5]; exact hk)) ⟨n, P, t, sz, z, y, Inv_q0 h⟩
  · exact CPr.mk (s_line1 x k w hx) (s_mline1 (fun q => hx (by rw [iv_34 h]; exact q))) ⟨n, P, t, sz, z, y, Inv_q0 h⟩
theorem c_count {l : Launch} {G : Gm} {I : Nat → Nat → Int32} {J : Nat → Nat → Int64} (hI : InvE I) (w : Int32) : CPr l G iX8_count iX10_count [.int w] I J := by
  obtain ⟨n, P, t, sz, z, y, h⟩ := hI
  obtain ⟨hn, hn10, hs, hmo, hok, hn4⟩ := iv_n h
  refine CPr.mk' (s_count hn hn10 w) (s_mcount hn4 hn10) ?_ ⟨n, P, t, sz, z, y, Inv_q0 h⟩
  unfold xCount mCount
  have e1 : it (fun p a => a + I (6 + 6 * p) 5) n 0 = it (fun p a => a + I 105 p) n 0 := it_cg (fun p a hp => by rw [h.1.1.2.2.2.1 p (by omega), hmo.2.2.1 p hp])
  have e2 : it (fun p a => a + bc (I 4 p)) n 0 = it (fun p a => a + bts 32 (I 104 p) 0) n 0 := it_cg (fun p a hp => by
    have := iv_gw h p (by omega)
    rw [bc_cb this.2, ← this.1, bts_cb this.2])
  have hT := h.2.2.2.1
  have e3 : it (fun d a => a + bc (I 93 d)) 16 0 = it (fun s a => a + bts 32 (I 106 s) 0) 16 0 := by rw [bc_sum hT.1, bts_sum hT.2.1, TR_C hT]
  rw [e1, e2, e3, h.1.2.2.1, h.2.1.2.2.1]
/-! ## grants -/
theorem c_grant {l : Launch} {G : Gm} {I : Nat → Nat → Int32} {J : Nat → Nat → Int64} (hI : InvE I) (x g : Int32) : CPr l G iX8_grant iX10_grant [.int x, .int g] I J := by
  obtain ⟨n, P, t, sz, z, y, h⟩ := hI
  obtain ⟨hn, hn10, hs, hmo, hok, hn4⟩ := iv_n h
  have e34 : ∀ v : Int32, up1 I 0 7 v 103 4 = I 3 2 := fun v => by rw [up1_off (by decide), ← iv_34 h]
  by_cases hx : ¬ x < 0 ∧ x < I 3 2
  · obtain ⟨p, hp, rfl⟩ := part_of hn10 (by rw [← hn]; exact hx)
    by_cases hg : ¬ g < 0 ∧ g ≤ 65535
    · refine CPr.mk (s_grant g (by omega) hx hg) (s_mgrant (by omega) (by rw [up1_off (by decide), up1_off (by decide), ← iv_34 h]; exact hx) ⟨hg.1, le65.mp hg.2⟩) ⟨n, P, t, sz, z, y, ?_⟩
      have hA : Inv (up1 (up1 I 4 p g) 104 p g) n P t sz z y := by
        refine Inv_gen h (fun a b hr hc => ?_) (fun q => ?_) (fun q hq => ?_) ?_ ?_ ?_
        · have h1 : a ≠ 4 := by rintro rfl; simp [chg] at hc
          have h2 : a ≠ 104 := by rintro rfl; simp [chg] at hc
          rw [up1_ne h2, up1_ne h1]
        · refine Fr_cg hn10 (h.1.2.2.2.2.1 (by rw [up1_ne (by decide), up1_ne (by decide)] at q; exact q)) (fun q h1 h2 => by rw [up1_nf (by omega), up1_nf (by omega)])
        · rw [up1_nf (show (4 : Nat) ≠ 104 by decide)]
          by_cases e : q = p
          · subst e; rw [up1_same, up1_same]; exact ⟨rfl, W16_of hg⟩
          · have := iv_gw h q hq
            have e1 : up1 I 4 p g 4 q = I 4 q := by simp [up1, e]
            have e2 : up1 (up1 I 4 p g) 104 p g 104 q = I 104 q := by simp [up1, e]
            rw [e1, e2]; exact this
        · rw [up1_nf (by decide), up1_nf (by decide), up1_nf (show (106 : Nat) ≠ 104 by decide), up1_nf (by decide)]; exact h.2.2.2.1
        · simp only [up1_nf (show (95 : Nat) ≠ 104 by decide), up1_nf (show (95 : Nat) ≠ 4 by decide), up1_nf (show (103 : Nat) ≠ 104 by decide), up1_nf (show (103 : Nat) ≠ 4 by decide), up1_nf (show (97 : Nat) ≠ 104 by decide), up1_nf (show (97 : Nat) ≠ 4 by decide), up1_nf (show (120 : Nat) ≠ 104 by decide), up1_nf (show (120 : Nat) ≠ 4 by decide)]
          exact iv_z h
        · simp only [up1_nf (show (98 : Nat) ≠ 104 by decide), up1_nf (show (98 : Nat) ≠ 4 by decide), up1_nf (show (103 : Nat) ≠ 104 by decide), up1_nf (show (103 : Nat) ≠ 4 by decide), up1_nf (show (102 : Nat) ≠ 104 by decide), up1_nf (show (102 : Nat) ≠ 4 by decide), up1_nf (show (122 : Nat) ≠ 104 by decide), up1_nf (show (122 : Nat) ≠ 4 by decide)]
          exact iv_y h
      refine Inv_trZ hA (by decide) (fun a b hr => ?_) (fun q h1 h2 => ?_) ?_
      · by_cases e0 : a = 103
        · subst e0
          rw [up1_ne (by decide), T0_103 (rel_103 hr), up1_ne (by decide), up1_ne (by decide), up1_ne (by decide), up1_ne (by decide), up1_ne (by decide)]
        · unfold up1; rw [T0_off e0]
          by_cases c1 : a = 104 ∧ b = p
          · rw [if_pos c1, if_neg (by omega), if_pos c1]
          · rw [if_neg c1]
            by_cases c2 : a = 0 ∧ b = 7
            · rw [if_pos c2, if_pos c2]
            · rw [if_neg c2, if_neg c2, if_neg c1]
      · rw [up1_nf (by omega), T0_off (by omega), up1_nf (by omega), up1_nf (by omega), up1_nf (by omega), up1_nf (by omega)]
      · rw [up1_nf (by decide), T0_off (by decide), up1_nf (show (0 : Nat) ≠ 104 by decide)]
        simp [up1]
    · exact CPr.mk (s_grant2 _ g hx hg) (s_mgrant2 (by rw [e34]; exact hx) (fun q => hg ⟨q.1, le65.mpr q.2⟩)) ⟨n, P, t, sz, z, y, Inv_ref h (by decide)⟩
  · exact CPr.mk (s_grant1 x g hx) (s_mgrant1 (by rw [e34]; exact hx)) ⟨n, P, t, sz, z, y, Inv_ref h (by decide)⟩
