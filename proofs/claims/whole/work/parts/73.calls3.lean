/-! ## told uses -/
theorem c_meant {l : Launch} {G : Gm} {I : Nat → Nat → Int32} {J : Nat → Nat → Int64} (hI : InvE I) (x d w : Int32) : CPr l G iX8_meant iX10_meant [.int x, .int d, .int w] I J := by
  obtain ⟨n, P, t, sz, z, y, h⟩ := hI
  obtain ⟨hn, hn10, hs, hmo, hok, hn4⟩ := iv_n h
  by_cases hx : (¬ x < 0 ∧ x < 16) ∧ (¬ d < 0 ∧ d < 16)
  · obtain ⟨s, hs16, rfl⟩ := right_of hx.1
    obtain ⟨d, hd16, rfl⟩ := right_of hx.2
    refine CPr.mk (s_meant (nI s) w hd16 hx.1 hx.2) (s_mmeant hs16 hx.2) ⟨n, P, t, sz, z, y, ?_⟩
    let v1 : Int32 := if w = 0 then I 93 d &&& (bt s ^^^ (-1)) else I 93 d ||| bt s
    let v2 : Int32 := if w = 0 then I 106 s &&& (bt d ^^^ (-1)) else I 106 s ||| bt d
    have hT := h.2.2.2.1
    have hA : Inv (up1 (up1 I 93 d v1) 106 s v2) n P t sz z y := by
      refine Inv_gen h (fun a b hr hc => ?_) (fun q => ?_) (fun q hq => ?_) ?_ ?_ ?_
      · have h1 : a ≠ 93 := by rintro rfl; simp [chg] at hc
        have h2 : a ≠ 106 := by rintro rfl; simp [chg] at hc
        rw [up1_ne h2, up1_ne h1]
      · refine Fr_cg hn10 (h.1.2.2.2.2.1 (by rw [up1_ne (by decide), up1_ne (by decide)] at q; exact q)) (fun q h1 h2 => by rw [up1_nf (by omega), up1_nf (by omega)])
      · rw [up1_nf (show (4 : Nat) ≠ 106 by decide), up1_nf (by decide), up1_nf (show (104 : Nat) ≠ 106 by decide), up1_nf (by decide)]; exact iv_gw h q hq
      · rw [up1_nf (show (93 : Nat) ≠ 106 by decide), up1_row, up1_row, up1_nf (show (106 : Nat) ≠ 93 by decide)]
        have w1 : W16 v1 := by
          show W16 (if w = 0 then I 93 d &&& (bt s ^^^ (-1)) else I 93 d ||| bt s)
          split
          · exact W16_andl (hT.1 d hd16)
          · exact W16_or (hT.1 d hd16) (W16_bt hs16)
        have w2 : W16 v2 := by
          show W16 (if w = 0 then I 106 s &&& (bt d ^^^ (-1)) else I 106 s ||| bt d)
          split
          · exact W16_andl (hT.2.1 s hs16)
          · exact W16_or (hT.2.1 s hs16) (W16_bt hd16)
        refine ⟨fun d' hd' => ?_, fun s' hs' => ?_, fun s' hs' d' hd' => ?_⟩
        · unfold upd; split
          · exact w1
          · exact hT.1 d' hd'
        · unfold upd; split
          · exact w2
          · exact hT.2.1 s' hs'
        · have hb := hT.2.2 s' hs' d' hd'
          have b1 : B v1 s' ↔ if w = 0 then B (I 93 d) s' ∧ ¬ s' = s else B (I 93 d) s' ∨ s' = s := by
            show B (if w = 0 then I 93 d &&& (bt s ^^^ (-1)) else I 93 d ||| bt s) s' ↔ _
            by_cases hw : w = 0
            · rw [if_pos hw, if_pos hw, B_and, B_not (by omega), B_bt (by omega) (by omega)]
            · rw [if_neg hw, if_neg hw, B_or, B_bt (by omega) (by omega)]
          have b2 : B v2 d' ↔ if w = 0 then B (I 106 s) d' ∧ ¬ d' = d else B (I 106 s) d' ∨ d' = d := by
            show B (if w = 0 then I 106 s &&& (bt d ^^^ (-1)) else I 106 s ||| bt d) d' ↔ _
            by_cases hw : w = 0
            · rw [if_pos hw, if_pos hw, B_and, B_not (by omega), B_bt (by omega) (by omega)]
            · rw [if_neg hw, if_neg hw, B_or, B_bt (by omega) (by omega)]
          unfold upd
          by_cases ed : d' = d
          · by_cases es : s' = s
            · subst ed es
              rw [if_pos rfl, if_pos rfl, b1, b2]
              by_cases hw : w = 0
              · rw [if_pos hw, if_pos hw]; exact ⟨fun q => absurd rfl q.2, fun q => absurd rfl q.2⟩
              · rw [if_neg hw, if_neg hw]; exact ⟨fun _ => Or.inr rfl, fun _ => Or.inr rfl⟩
            · subst ed
              rw [if_pos rfl, if_neg es, b1, ← hb]
              by_cases hw : w = 0
              · rw [if_pos hw]; exact ⟨fun q => q.1, fun q => ⟨q, es⟩⟩
              · rw [if_neg hw]; exact ⟨fun q => q.elim id (fun r => absurd r es), fun q => Or.inl q⟩
          · by_cases es : s' = s
            · subst es
              rw [if_neg ed, if_pos rfl, b2, hb]
              by_cases hw : w = 0
              · rw [if_pos hw]; exact ⟨fun q => ⟨q, ed⟩, fun q => q.1⟩
              · rw [if_neg hw]; exact ⟨fun q => Or.inl q, fun q => q.elim id (fun r => absurd r ed)⟩
            · rw [if_neg ed, if_neg es]; exact hb
      · simp only [up1_nf (show (95 : Nat) ≠ 106 by decide), up1_nf (show (95 : Nat) ≠ 93 by decide), up1_nf (show (103 : Nat) ≠ 106 by decide), up1_nf (show (103 : Nat) ≠ 93 by decide), up1_nf (show (97 : Nat) ≠ 106 by decide), up1_nf (show (97 : Nat) ≠ 93 by decide), up1_nf (show (120 : Nat) ≠ 106 by decide), up1_nf (show (120 : Nat) ≠ 93 by decide)]
        exact iv_z h
      · simp only [up1_nf (show (98 : Nat) ≠ 106 by decide), up1_nf (show (98 : Nat) ≠ 93 by decide), up1_nf (show (103 : Nat) ≠ 106 by decide), up1_nf (show (103 : Nat) ≠ 93 by decide), up1_nf (show (102 : Nat) ≠ 106 by decide), up1_nf (show (102 : Nat) ≠ 93 by decide), up1_nf (show (122 : Nat) ≠ 106 by decide), up1_nf (show (122 : Nat) ≠ 93 by decide)]
        exact iv_y h
    have e106 : T0 (up1 (tel I (nI s) d w) 0 7 0) 106 = I 106 := by
      rw [T0_off (by decide), up1_nf (by decide)]; unfold tel; rw [up1_nf (by decide)]
    refine Inv_trZ hA (by decide) (fun a b hr => ?_) (fun q h1 h2 => ?_) ?_
    · unfold mTel
      rw [e106]
      show up1 _ 106 s v2 a b = _
      by_cases e0 : a = 103
      · subst e0
        rw [up1_ne (by decide), T0_103 (rel_103 hr), up1_ne (by decide), up1_ne (by decide), up1_ne (by decide)]
        unfold tel
        rw [up1_ne (by decide), up1_ne (by decide)]
      · unfold up1
        rw [T0_off e0]
        unfold tel up1
        by_cases c1 : a = 106 ∧ b = s
        · rw [if_pos c1, if_neg (by omega), if_pos c1]
        · rw [if_neg c1]
          by_cases c2 : a = 0 ∧ b = 7
          · rw [if_pos c2, if_pos c2]
          · rw [if_neg c2, if_neg c2, if_neg c1]; rfl
    · unfold mTel; rw [up1_nf (by omega), T0_off (by omega), up1_nf (by omega)]; unfold tel; rw [up1_nf (by omega), up1_nf (by omega), up1_nf (by omega)]
    · unfold mTel; rw [up1_nf (by decide), T0_off (by decide)]; unfold tel; simp [up1]
  · exact CPr.mk (s_meant1 x d w hx) (s_mmeant1 hx) ⟨n, P, t, sz, z, y, Inv_ref h (by decide)⟩
/-! ## a new part -/
theorem c_part {l : Launch} {G : Gm} {I : Nat → Nat → Int32} {J : Nat → Nat → Int64} (hI : InvE I) (x : Int32) : CPr l G iX8_part iX10_part [.int x] I J := by
  obtain ⟨n, P, t, sz, z, y, h⟩ := hI
  obtain ⟨hn, hn10, hs, hmo, hok, hn4⟩ := iv_n h
  have hc := s_part (l := l) (G := G) (J := J) hn hn10 x
  by_cases hx : ¬ x < 0 ∧ x ≤ 65535
  · have hx' : ¬ x < 0 ∧ ¬ 65535 < x := ⟨hx.1, le65.mp hx.2⟩
    by_cases h10 : 10 ≤ n
    · have en : n = 10 := by omega
      unfold xPart at hc
      rw [if_neg (fun q => q hx), if_pos h10] at hc
      dsimp only at hc
      exact CPr.mk hc (s_mpart3 hx' (by rw [up1_off (by decide), hn4, en]; rfl)) ⟨n, P, t, sz, z, y, Inv_ref h (by decide)⟩
    · unfold xPart at hc
      rw [if_neg (fun q => q hx), if_neg h10] at hc
      dsimp only at hc
      refine CPr.mk hc (s_mpart hx' (n := n) (by rw [up1_off (by decide), up1_off (by decide), up1_off (by decide), up1_off (by decide)]; exact hn4) (by omega)) ⟨n + 1, P, t, sz, z, y, ?_⟩
      have hml : P.ml n = 0 := h.1.1.2.1 n (Nat.le_refl _)
      have hok' : P.ok (n + 1) := by
        refine ⟨by omega, hok.2.1, fun p hp k hk => ?_⟩
        by_cases e : p = n
        · subst e; rw [hml] at hk; omega
        · have := hok.2.2 p (by omega) k hk
          exact ⟨this.1, this.2.1, this.2.2.1, fun q => ⟨by have := (this.2.2.2.1 q).1; omega, (this.2.2.2.1 q).2⟩, this.2.2.2.2⟩
      have lt' : ∀ p, p < n + 1 → ∀ k, k < P.ml p → p < n := by
        intro p hp k hk
        apply Classical.byContradiction; intro q
        have e : p = n := by omega
        subst e; rw [hml] at hk; omega
      let A : Nat → Nat → Int32 := fun a b => if a = 0 ∧ b = 8 then 1 else if a = 4 ∧ b = n then x else if a = 3 ∧ b = 2 then nI (n + 1) else if a = 104 ∧ b = n then x else if a = 105 ∧ b = n then 0 else if a = 103 ∧ b = 4 then nI (n + 1) else I a b
      have ro : ∀ a, a ≠ 0 → a ≠ 4 → a ≠ 3 → a ≠ 104 → a ≠ 105 → a ≠ 103 → A a = I a := fun a q1 q2 q3 q4 q5 q6 => by funext b; simp [A, q1, q2, q3, q4, q5, q6]
      have hA : Inv A (n + 1) P t sz z y := by
        obtain ⟨⟨a1, a2, a3, a4, a5, a6, a7, a8⟩, ⟨b1, b2, b3, b4, b5⟩, c1, c2, c3, c4, c5, c6, c7, c8⟩ := h
        have m3 : ∀ b, b ≠ 4 → A 103 b = I 103 b := fun b hb => by simp [A, hb]
        have m0 : ∀ b, b ≠ 8 → A 0 b = I 0 b := fun b hb => by simp [A, hb]
        refine ⟨⟨⟨hok', fun p hp => a1.2.1 p (by omega), by simp [A], fun p hp => ?_, fun p hp k hk => ?_⟩, ?_, ?_, a4, fun q => absurd q (by simp [A]), fun p hp => ?_, ⟨?_, a7.2⟩, ⟨?_, a8.2⟩⟩, ⟨⟨hok', by simp [A], fun p hp => ?_, fun p hp k hk => ?_⟩, ?_, ?_, ?_, ?_⟩, fun p hp => ?_, ?_, ?_, ?_, ?_, ?_, ?_, ?_⟩
        · rw [ro _ (by omega) (by omega) (by omega) (by omega) (by omega) (by omega)]; exact a1.2.2.2.1 p hp
        · have hpn := lt' p hp k hk
          rw [ro (6 + 6 * p + 1 + 0) (by omega) (by omega) (by omega) (by omega) (by omega) (by omega), ro (6 + 6 * p + 1 + 1) (by omega) (by omega) (by omega) (by omega) (by omega) (by omega), ro (6 + 6 * p + 1 + 2) (by omega) (by omega) (by omega) (by omega) (by omega) (by omega), ro (6 + 6 * p + 1 + 3) (by omega) (by omega) (by omega) (by omega) (by omega) (by omega), ro (6 + 6 * p + 1 + 4) (by omega) (by omega) (by omega) (by omega) (by omega) (by omega)]
          exact a1.2.2.2.2 p hpn k hk
        · unfold byOK; rw [ro 2 (by decide) (by decide) (by decide) (by decide) (by decide) (by decide)]; exact a2
        · rw [ro 1 (by decide) (by decide) (by decide) (by decide) (by decide) (by decide)]; exact a3
        · by_cases e : p = n
          · subst e; rw [show A 4 p = x by simp [A]]; exact W16_of hx
          · rw [show A 4 p = I 4 p by simp [A, e]]; exact a6 p hp
        · rw [ro 95 (by decide) (by decide) (by decide) (by decide) (by decide) (by decide)]; exact a7.1
        · rw [ro 98 (by decide) (by decide) (by decide) (by decide) (by decide) (by decide)]; exact a8.1
        · by_cases e : p = n
          · subst e; rw [show A 105 p = 0 by simp [A], hml]; rfl
          · rw [show A 105 p = I 105 p by simp [A, e]]; exact b1.2.2.1 p (by omega)
        · have hpn := lt' p hp k hk
          rw [ro 107 (by decide) (by decide) (by decide) (by decide) (by decide) (by decide), ro 108 (by decide) (by decide) (by decide) (by decide) (by decide) (by decide), ro 109 (by decide) (by decide) (by decide) (by decide) (by decide) (by decide), ro 110 (by decide) (by decide) (by decide) (by decide) (by decide) (by decide), ro 111 (by decide) (by decide) (by decide) (by decide) (by decide) (by decide)]
          exact b1.2.2.2 p hpn k hk
        · unfold byM; rw [ro 113 (by decide) (by decide) (by decide) (by decide) (by decide) (by decide)]; exact b2
        · rw [m3 15 (by decide)]; exact b3
        · rw [m3 30 (by decide)]; exact b4
        · rw [m3 34 (by decide)]; exact b5
        · by_cases e : p = n
          · subst e; simp [A]
          · rw [show A 4 p = I 4 p by simp [A, e], show A 104 p = I 104 p by simp [A, e]]; exact c1 p hp
        · rw [ro 93 (by decide) (by decide) (by decide) (by decide) (by decide) (by decide), ro 106 (by decide) (by decide) (by decide) (by decide) (by decide) (by decide)]; exact c2
        · rw [m0 7 (by decide), m3 1 (by decide)]; exact c3
        · rw [m0 7 (by decide), m3 2 (by decide), ro 66 (by decide) (by decide) (by decide) (by decide) (by decide) (by decide)]; exact c4
        · rw [m3 3 (by decide), ro 66 (by decide) (by decide) (by decide) (by decide) (by decide) (by decide)]; exact c5
        · intro p hp k hk
          have hpn := lt' p hp k hk
          rw [ro (6 + 6 * p + 1 + 3) (by omega) (by omega) (by omega) (by omega) (by omega) (by omega), ro 110 (by decide) (by decide) (by decide) (by decide) (by decide) (by decide)]
          exact c6 p hpn k hk
        · rw [ro 97 (by decide) (by decide) (by decide) (by decide) (by decide) (by decide), ro 120 (by decide) (by decide) (by decide) (by decide) (by decide) (by decide)]; exact c7
        · rw [ro 102 (by decide) (by decide) (by decide) (by decide) (by decide) (by decide), ro 122 (by decide) (by decide) (by decide) (by decide) (by decide) (by decide)]; exact c8
      unfold mPart
      refine Inv_trZ hA (by decide) (fun a b hr => ?_) (fun q h1 h2 => ?_) ?_
      · by_cases e0 : a = 103
        · subst e0
          have hb0 := rel_103 hr
          by_cases e4 : b = 4
          · subst e4; simp [up1, A]
          · simp [up1, A, T0, e4, hb0]
        · unfold up1
          rw [T0_off e0]
          show _ = if a = 0 ∧ b = 7 then 0 else A a b
          simp only [A]
          by_cases g1 : a = 0
          · subst g1; rw [rel_0 hr]; simp [up1]
          · by_cases g2 : a = 4
            · subst g2; simp [up1]
            · by_cases g3 : a = 3
              · subst g3; simp [up1]
              · by_cases g4 : a = 104
                · subst g4; simp [up1]
                · by_cases g5 : a = 105
                  · subst g5; simp [up1]
                  · simp [up1, e0, g1, g2, g3, g4, g5]
      · rw [up1_nf (by omega), up1_nf (by omega), up1_nf (by omega), T0_off (by omega), up1_nf (by omega), up1_nf (by omega), up1_nf (by omega), up1_nf (by omega), ro q (by omega) (by omega) (by omega) (by omega) (by omega) (by omega)]
      · simp [up1, A, T0]
  · unfold xPart at hc
    rw [if_pos hx] at hc
    dsimp only at hc
    exact CPr.mk hc (s_mpart2 (fun q => hx ⟨q.1, le65.mpr q.2⟩)) ⟨n, P, t, sz, z, y, Inv_ref h (by decide)⟩
