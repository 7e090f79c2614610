/-! ## lines -/
def CPw (l : Launch) (G : Gm) (Yc Ym : MI) (hh : HT) (a : List Value) (I : Nat → Nat → Int32) (J : Nat → Nat → Int64) : Prop :=
  Sp l G Yc (.ref (G.1 + 0) :: a) (mm I J) (fun v M => ∃ x I1, v = some (.int x) ∧ M = mm I1 J ∧ SpW l G Ym hh (.ref (G.1 + 103) :: a) (mm I1 J) (fun v' M' => v' = some (.int x) ∧ ∃ I2 J2, M' = mm I2 J2 ∧ InvE I2)) noT
theorem SpW.mono {l : Launch} {G : Gm} {Y : MI} {hh : HT} {av : List Value} {M : Mm} {P P' : Option Value → Mm → Prop} (h : SpW l G Y hh av M P) (hp : ∀ v M', P v M' → P' v M') : SpW l G Y hh av M P' := by
  intro p e ha hc hk s m args below hf happ hP hK
  obtain ⟨n, o, h1, h2, h3, h4, h5⟩ := h p e ha hc hk s m args below hf happ hP hK
  refine ⟨n, o, h1, h2, h3, ?_, h5⟩
  obtain ⟨h6, h7⟩ := h4
  refine ⟨?_, h7⟩
  rcases h6 with ⟨v, M', e1, e2, e3⟩ | ⟨M', e1, e2, e3⟩
  · exact Or.inl ⟨v, M', e1, hp v M' e2, e3⟩
  · exact e2.elim
theorem CPw.mk {l : Launch} {G : Gm} {Yc Ym : MI} {hh : HT} {a : List Value} {I I1 I2 : Nat → Nat → Int32} {J : Nat → Nat → Int64} {x : Int32} (hc : Sp l G Yc (.ref (G.1 + 0) :: a) (mm I J) (RetI x (mm I1 J)) noT) (hm : SpW l G Ym hh (.ref (G.1 + 103) :: a) (mm I1 J) (RetI x (mm I2 J))) (hI : InvE I2) : CPw l G Yc Ym hh a I J :=
  hc.mono fun v M h => ⟨x, I1, h.1, h.2, hm.mono fun v' M' h' => ⟨h'.1, I2, J, h'.2, hI⟩⟩
theorem offR_at {D D' : Nat → Nat → Int32} (h : offR D D') {a b : Nat} (h1 : 107 ≤ a → a ≤ 110 → b < 120) (h2 : a = 111 → b < 480) (h3 : a = 105 → b ≠ 10) : D' a b = D a b :=
  h a b (fun q => by have := h1 q.1 q.2.1; omega) (fun q => by have := h2 q.1; omega) (fun q => h3 q.1 q.2)
theorem D0m_at {I : Nat → Nat → Int32} {e : Nat} : (∀ q, q ≠ 103 → D0m I e q = I q) ∧ D0m I e 103 15 = 0 ∧ D0m I e 103 3 = 0 ∧ ∀ b, b ≠ 0 → b ≠ 3 → b ≠ 15 → b ≠ 16 → b ≠ 17 → D0m I e 103 b = I 103 b := by
  unfold D0m
  refine ⟨fun q hq => by rw [up1_nf hq, up1_nf hq, up1_nf hq, up1_nf hq, T0_off hq], by simp [up1], by simp [up1], fun b h0 h3 h15 h16 h17 => ?_⟩
  simp [up1, h3, h15, h16, h17]
  exact T0_103 h0
theorem c_lines {l : Launch} {G : Gm} {I : Nat → Nat → Int32} {J : Nat → Nat → Int64} (hI : InvE I) (x w : Int32) : CPw l G iX8_lines iX10_lines hhL [.int x, .int w] I J := by
  obtain ⟨n, P, t, sz, z, y, h⟩ := hI
  obtain ⟨hn, hn10, hs, hmo, hok, hn4⟩ := iv_n h
  have e34 : ∀ v : Int32, up1 I 0 7 v 103 4 = I 3 2 := fun v => by rw [up1_off (by decide), ← iv_34 h]
  have h11 := h.1.2.2.1
  have h300 := h.1.2.2.2.1
  have h15 := h.2.1.2.2.1
  by_cases hx : ¬ x < 0 ∧ x < I 3 2
  · by_cases hw : w < 0 ∨ ¬ w ≤ I 1 1
    · exact CPw.mk (s_lines2 hx hw) (s_mlines2 (by rw [e34]; exact hx) (by rw [up1_off (by decide), h15, ← h11]; exact hw)) ⟨n, P, t, sz, z, y, Inv_ref h (by decide)⟩
    · rw [not_or, Classical.not_not] at hw
      obtain ⟨p, hp, rfl⟩ := part_of hn10 (by rw [← hn]; exact hx)
      obtain ⟨e, he31, rfl⟩ := nI_of hw.1
      have he : e ≤ sz := (nI_leI he31 (by omega)).mp (h11 ▸ hw.2)
      have hc := s_lines (l := l) (G := G) (J := J) h.1.2.1 h11 h300 hn hn10 hp he
      refine hc.mono fun v M hv => ?_
      unfold LnR at hv
      -- the model, over what the class leaves
      have mdl : ∀ A : Nat → Nat → Int32, (∀ q, 103 ≤ q → A q = I q) → SpW l G iX10_lines hhL [.ref (G.1 + 103), .int (nI p), .int (nI e)] (mm A J) (MlR A J t e n p) := by
        intro A hA
        refine s_mlines ?_ (by rw [hA 103 (by decide)]; exact h15) h300 (by rw [hA 103 (by decide)]; exact hn4) hn10 hp he
        unfold byM; rw [hA 113 (by decide)]; exact h.2.1.2.1
      obtain ⟨⟨a1, a2, a3, a4, a5, a6, a7, a8⟩, ⟨b1, b2, b3, b4, b5⟩, c1, c2, c3, c4, c5, c6, c7, c8⟩ := h
      cases hpt : pText t e n 13 [] 0 with
      | ok ls =>
        rw [hpt] at hv
        obtain ⟨hv1, num, nm, j, rfl⟩ := hv
        obtain ⟨hG, hl12⟩ := pText_G hn10 13 [] 0 ls hpt (fun ln hln => by cases hln)
        obtain ⟨l1, l2, l3, l4, l5, l6, l7⟩ := LnC_of (I := I) (t := t) (e := e) (np := n) (p := p) (ls := ls) (num := num) (nm := nm) (j := j) (by omega) hl12
        generalize LnM I t e n p ls num nm j = A at l1 l2 l3 l4 l5 l6 l7
        have hA2 : ∀ q, 103 ≤ q → A q = I q := fun q hq => l1 q (by omega) (by omega) (by omega) (by omega)
        refine ⟨_, A, hv1, rfl, (mdl A hA2).mono fun v' M' hv' => ?_⟩
        rcases hv' with ⟨ls', i, D', vv, xx, q1, q2, q3, q4, q5, q6, q7⟩ | ⟨er, i, D', vv, xx, q1, q2, q3, q4⟩
        · rw [hpt] at q1
          cases q1
          refine ⟨q6, _, _, q7, n, setP P p ls, t, 0, z, y, ?_⟩
          obtain ⟨d1, d2, d3, d4⟩ := D0m_at (I := A) (e := e)
          have hD : ∀ q, q < 105 ∨ q = 106 ∨ 111 < q → D' q = D0m A e q := fun q hq => by
            funext b; exact offR_at q5 (by omega) (by omega) (by omega)
          unfold MlO
          generalize hE : up1 (mrS D' t e i vv) 105 p (nI ls.length) = E
          have hEo : ∀ q, q ≠ 105 → q ≠ 103 → E q = D' q := fun q k1 k2 => by rw [← hE, up1_nf k1, mr_off k2]
          have hE3 : ∀ b, b < 17 ∨ 21 < b → E 103 b = D0m A e 103 b := fun b hb => by rw [← hE, up1_nf (by decide), mr_103 hb, hD 103 (by decide)]
          have hE5 : ∀ q, E 105 q = if q = p then nI ls.length else D' 105 q := fun q => by
            rw [← hE]; simp only [up1, true_and]
            split
            · rfl
            · rw [mr_off (by decide)]
          obtain ⟨z1, z2, z3⟩ := cpA_at p E (by omega) 12 (Nat.le_refl _)
          generalize it (cpL p) 12 E = Z at z1 z2 z3
          have hZo : ∀ q, q ≠ 103 → q < 105 ∨ q = 106 ∨ 111 < q → tr Z 0 q = A q := fun q k1 k2 => by
            rw [tr_off k1, z1 q (by omega), hEo q (by omega) k1, hD q k2, d1 q k1]
          have hZ3 : ∀ b, b ≠ 0 → b ≠ 1 → b ≠ 2 → b ≠ 3 → b < 15 ∨ 21 < b → tr Z 0 103 b = A 103 b := fun b k0 k1 k2 k3 k4 => by
            rw [tr_103 k1 k2, z1 103 (by decide), hE3 b (by omega), d4 b k0 k3 (by omega) (by omega) (by omega)]
          have hok' := setP_ok (p := p) hok hG hl12
          have mlp : (setP P p ls).ml p = ls.length := by show (if p = p then ls.length else P.1 p) = _; rw [if_pos rfl]
          have mlo : ∀ q, q ≠ p → (setP P p ls).ml q = P.ml q := fun q hq => by show (if q = p then ls.length else P.1 q) = _; rw [if_neg hq]
          have plp : ∀ k, (setP P p ls).2 p k = lnPl ls k := fun k => by show (if p = p then lnPl ls k else P.2 p k) = _; rw [if_pos rfl]
          have plo : ∀ q k, q ≠ p → (setP P p ls).2 q k = P.2 q k := fun q k hq => by show (if q = p then lnPl ls k else P.2 q k) = _; rw [if_neg hq]
          have hsh : ∀ q, q ≠ p → ∀ x, x ≤ 5 → q < 10 → tr Z 0 (6 + 6 * q + x) = I (6 + 6 * q + x) := fun q hq x hx hq10 => by
            rw [hZo _ (by omega) (by omega), l1 _ (by omega) (by omega) (by omega) (by omega)]
          have hshp : ∀ x, x ≤ 5 → tr Z 0 (6 + 6 * p + x) = A (6 + 6 * p + x) := fun x hx => hZo _ (by omega) (by omega)
          -- a line of the model's rows
          have hrow : ∀ r, 107 ≤ r → r ≤ 110 → ∀ q k, q < n → k < 12 → tr Z 0 r (12 * q + k) = if q = p then D' r (120 + k) else I r (12 * q + k) := by
            intro r r1 r2 q k hq hk
            rw [tr_off (by omega), z2 r r1 r2]
            by_cases eq : q = p
            · subst eq
              rw [if_pos (by omega), if_pos rfl, show 12 * q + k - 12 * q = k by omega, hEo r (by omega) (by omega)]
            · rw [if_neg (by omega), if_neg eq, hEo r (by omega) (by omega), offR_at q5 (by omega) (by omega) (by omega), d1 r (by omega), hA2 r (by omega)]
          have hrow4 : ∀ q k i, q < n → k < 12 → i < 4 → tr Z 0 111 (4 * (12 * q + k) + i) = if q = p then D' 111 (4 * (120 + k) + i) else I 111 (4 * (12 * q + k) + i) := by
            intro q k i hq hk hi
            rw [tr_off (by decide), z3]
            by_cases eq : q = p
            · subst eq
              rw [if_pos (by omega), if_pos rfl, hEo 111 (by decide) (by decide), show 4 * 120 + (4 * (12 * q + k) + i - 4 * (12 * q)) = 4 * (120 + k) + i by omega]
            · rw [if_neg (by omega), if_neg eq, hEo 111 (by decide) (by decide), offR_at q5 (by omega) (by omega) (by omega), d1 111 (by decide), hA2 111 (by decide)]
          have e07 : tr Z 0 0 7 = 0 := by rw [hZo 0 (by decide) (by decide)]; exact l2
          refine ⟨⟨⟨hok', fun q hq => by rw [mlo q (by omega)]; exact a1.2.1 q hq, ?_, fun q hq => ?_, fun q hq k hk => ?_⟩, ?_, ?_, by omega, fun q => ?_, ?_, ⟨?_, a7.2⟩, ⟨?_, a8.2⟩⟩, ⟨⟨hok', ?_, fun q hq => ?_, fun q hq k hk => ?_⟩, ?_, ?_, ?_, ?_⟩, ?_, ?_, ?_, ?_, ?_, fun q hq k hk => ?_, ?_, ?_⟩
          · rw [hZo 3 (by decide) (by decide), l1 3 (by decide) (by decide) (by omega) (by decide)]; exact hn
          · by_cases eq : q = p
            · subst eq; rw [mlp]; exact (congrFun (hshp 0 (by decide)) 5).trans l6
            · rw [mlo q eq]; exact (congrFun (hsh q eq 0 (by decide) hq) 5).trans (a1.2.2.2.1 q hq)
          · by_cases eq : q = p
            · subst eq
              rw [mlp] at hk
              obtain ⟨m1, m2, m3, m4, m5⟩ := l7 k hk
              obtain ⟨g1, g2, g3, g4, g5⟩ := hG _ (getD_mem hk)
              unfold Pln.kd Pln.nu Pln.fs Pln.sc Pln.fr
              rw [plp k]
              rw [show tr Z 0 (6 + 6 * q + 1 + 0) = A (6 + 6 * q + 1 + 0) from hshp 1 (by decide), show tr Z 0 (6 + 6 * q + 1 + 1) = A (6 + 6 * q + 1 + 1) from hshp 2 (by decide), show tr Z 0 (6 + 6 * q + 1 + 2) = A (6 + 6 * q + 1 + 2) from hshp 3 (by decide), show tr Z 0 (6 + 6 * q + 1 + 3) = A (6 + 6 * q + 1 + 3) from hshp 4 (by decide), show tr Z 0 (6 + 6 * q + 1 + 4) = A (6 + 6 * q + 1 + 4) from hshp 5 (by decide)]
              refine ⟨m1, m2, m3, fun r => ?_, fun r s hs => ?_⟩
              · obtain ⟨s, hs, es⟩ := (g4 r).2
                rw [m4]
                show _ = nI (cn (ls.getD k ln0).2.2.2.1)
                rw [es, show cn (nI s) = s from nI_clamp (by omega)]
              · obtain ⟨f1, f2, f3⟩ := g5 r
                rw [m5]
                unfold mskL
                rw [msk_B hs _ _ f3]
                show _ ↔ ∃ i, i < (ls.getD k ln0).2.1 ∧ (ls.getD k ln0).2.2.2.2.getD i 0 = s
                rw [f1]
                simp [B_0]
            · rw [mlo q eq] at hk
              unfold Pln.kd Pln.nu Pln.fs Pln.sc Pln.fr
              rw [plo q k eq]
              rw [show tr Z 0 (6 + 6 * q + 1 + 0) = I (6 + 6 * q + 1 + 0) from hsh q eq 1 (by decide) (by omega), show tr Z 0 (6 + 6 * q + 1 + 1) = I (6 + 6 * q + 1 + 1) from hsh q eq 2 (by decide) (by omega), show tr Z 0 (6 + 6 * q + 1 + 2) = I (6 + 6 * q + 1 + 2) from hsh q eq 3 (by decide) (by omega), show tr Z 0 (6 + 6 * q + 1 + 3) = I (6 + 6 * q + 1 + 3) from hsh q eq 4 (by decide) (by omega), show tr Z 0 (6 + 6 * q + 1 + 4) = I (6 + 6 * q + 1 + 4) from hsh q eq 5 (by decide) (by omega)]
              exact a1.2.2.2.2 q hq k hk
          · unfold byOK; rw [hZo 2 (by decide) (by decide), l1 2 (by decide) (by decide) (by omega) (by decide)]; exact a2
          · rw [hZo 1 (by decide) (by decide)]; exact l4
          · rw [hZo 0 (by decide) (by decide), l3] at q; exact absurd q (by decide)
          · rw [hZo 4 (by decide) (by decide), l1 4 (by decide) (by decide) (by omega) (by decide)]; exact a6
          · rw [hZo 95 (by decide) (by decide), l1 95 (by decide) (by decide) (by omega) (by decide)]; exact a7.1
          · rw [hZo 98 (by decide) (by decide), l1 98 (by decide) (by decide) (by omega) (by decide)]; exact a8.1
          · rw [hZ3 4 (by decide) (by decide) (by decide) (by decide) (by decide), hA2 103 (by decide)]; exact hn4
          · rw [tr_off (by decide), z1 105 (by decide), hE5 q]
            by_cases eq : q = p
            · rw [if_pos eq, eq, mlp]
            · rw [if_neg eq, mlo q eq, offR_at q5 (by omega) (by omega) (by omega), d1 105 (by decide), hA2 105 (by decide)]; exact b1.2.2.1 q hq
          · have h12 := hok'.2.1 q
            rw [hrow 107 (by decide) (by decide) q k hq (by omega), hrow 108 (by decide) (by decide) q k hq (by omega), hrow 109 (by decide) (by decide) q k hq (by omega), hrow 110 (by decide) (by decide) q k hq (by omega)]
            by_cases eq : q = p
            · subst eq
              rw [mlp] at hk
              obtain ⟨g1, g2, g3, g4, g5⟩ := hG _ (getD_mem hk)
              obtain ⟨w1, w2, w3, w4, w5⟩ := q3.2 k hk
              unfold Pln.kd Pln.nu Pln.fs Pln.sc Pln.fr
              rw [plp k, if_pos rfl, if_pos rfl, if_pos rfl, if_pos rfl]
              refine ⟨w1, w2, w3, fun r => ?_, fun r i hi => ?_⟩
              · obtain ⟨s, hs, es⟩ := (g4 r).2
                rw [w4]
                show _ = nI (cn (ls.getD k ln0).2.2.2.1)
                rw [es, show cn (nI s) = s from nI_clamp (by omega)]
              · obtain ⟨f1, f2, f3⟩ := g5 r
                have hi' : i < (ls.getD k ln0).2.1 := hi
                rw [hrow4 q k i hq (by omega) (by omega), if_pos rfl]
                exact w5 r i (by omega)
            · rw [mlo q eq] at hk
              unfold Pln.kd Pln.nu Pln.fs Pln.sc Pln.fr
              rw [plo q k eq, if_neg eq, if_neg eq, if_neg eq, if_neg eq]
              obtain ⟨w1, w2, w3, w4, w5⟩ := b1.2.2.2 q hq k hk
              refine ⟨w1, w2, w3, w4, fun r i hi => ?_⟩
              have := ((hok.2.2 q hq k hk).2.2.2.2 r).1
              have hi' : i < P.nu q k := hi
              have h12' := hok.2.1 q
              rw [hrow4 q k i hq (by omega) (by omega), if_neg eq]
              exact w5 r i hi
          · unfold byM; rw [hZo 113 (by decide) (by decide), hA2 113 (by decide)]; exact b2
          · rw [tr_103 (by decide) (by decide), z1 103 (by decide), hE3 15 (by decide), d2]; rfl
          · rw [hZ3 30 (by decide) (by decide) (by decide) (by decide) (by decide), hA2 103 (by decide)]; exact b4
          · rw [hZ3 34 (by decide) (by decide) (by decide) (by decide) (by decide), hA2 103 (by decide)]; exact b5
          · rw [hZo 4 (by decide) (by decide), l1 4 (by decide) (by decide) (by omega) (by decide), hZo 104 (by decide) (by decide), hA2 104 (by decide)]; exact c1
          · rw [hZo 93 (by decide) (by decide), l1 93 (by decide) (by decide) (by omega) (by decide), hZo 106 (by decide) (by decide), hA2 106 (by decide)]; exact c2
          · rw [e07]; simp [tr, up1]
          · rw [e07, if_neg (by decide)]; simp [tr, up1]
          · rw [hZo 66 (by decide) (by decide), l5, tr_103 (by decide) (by decide), z1 103 (by decide), hE3 3 (by decide), d3]
          · have h12 := hok'.2.1 q
            rw [hrow 110 (by decide) (by decide) q k hq (by omega)]
            by_cases eq : q = p
            · subst eq
              rw [mlp] at hk
              rw [if_pos rfl, show tr Z 0 (6 + 6 * q + 1 + 3) = A (6 + 6 * q + 1 + 3) from hshp 4 (by decide), (l7 k hk).2.2.2.1, (q3.2 k hk).2.2.2.1]
            · rw [mlo q eq] at hk
              rw [if_neg eq, show tr Z 0 (6 + 6 * q + 1 + 3) = I (6 + 6 * q + 1 + 3) from hsh q eq 4 (by decide) (by omega)]
              exact c6 q hq k hk
          · rw [hZo 97 (by decide) (by decide), l1 97 (by decide) (by decide) (by omega) (by decide), hZo 120 (by decide) (by decide), hA2 120 (by decide)]; exact c7
          · rw [hZo 102 (by decide) (by decide), l1 102 (by decide) (by decide) (by omega) (by decide), hZo 122 (by decide) (by decide), hA2 122 (by decide)]; exact c8
        · rw [hpt] at q1; cases q1
      | error er =>
        rw [hpt] at hv
        obtain ⟨hv1, acc, num, nm, j, rfl⟩ := hv
        obtain ⟨l1, l2, l3, l4, l5, l6⟩ := LnE_at (I := I) (t := t) (e := e) (np := n) (er := er) (acc := acc) (num := num) (nm := nm) (j := j)
        generalize LnE I t e n er acc num nm j = A at l1 l2 l3 l4 l5 l6
        have hA2 : ∀ q, 103 ≤ q → A q = I q := fun q hq => l1 q (by omega) (by omega) (by omega)
        refine ⟨_, A, hv1, rfl, (mdl A hA2).mono fun v' M' hv' => ?_⟩
        rcases hv' with ⟨ls', i, D', vv, xx, q1, _⟩ | ⟨er', i, D', vv, xx, q1, q2, q3, q4⟩
        · rw [hpt] at q1; cases q1
        · rw [hpt] at q1
          cases q1
          refine ⟨q3, _, _, q4, n, P, t, 0, z, y, ?_⟩
          obtain ⟨d1, d2, d3, d4⟩ := D0m_at (I := A) (e := e)
          unfold MlE
          generalize hE : up1 (up1 (mrS D' t e i vv) 112 0 (nI er.1)) 112 1 (nI er.2) = E
          have hEo : ∀ q, q ≠ 112 → q ≠ 103 → E q = D' q := fun q k1 k2 => by rw [← hE, up1_nf k1, up1_nf k1, mr_off k2]
          have hE3 : ∀ b, b < 17 ∨ 21 < b → E 103 b = D0m A e 103 b := fun b hb => by
            rw [← hE, up1_nf (by decide), up1_nf (by decide), mr_103 hb]
            exact offR_at q2 (by omega) (by omega) (by omega)
          have hZo : ∀ q, q ≠ 103 → q ≠ 112 → q < 105 ∨ q = 106 ∨ 111 < q → up1 (up1 (up1 E 103 3 (nI er.1)) 103 1 4) 103 2 (nI er.2) q = A q := fun q k1 k2 k3 => by
            rw [up1_nf k1, up1_nf k1, up1_nf k1, hEo q k2 k1]
            funext b
            rw [offR_at q2 (by omega) (by omega) (by omega), d1 q k1]
          have hZ3 : ∀ b, b ≠ 0 → b ≠ 1 → b ≠ 2 → b ≠ 3 → b < 15 ∨ 21 < b → up1 (up1 (up1 E 103 3 (nI er.1)) 103 1 4) 103 2 (nI er.2) 103 b = A 103 b := fun b k0 k1 k2 k3 k4 => by
            have : up1 (up1 (up1 E 103 3 (nI er.1)) 103 1 4) 103 2 (nI er.2) 103 b = E 103 b := by simp [up1, k1, k2, k3]
            rw [this, hE3 b (by omega), d4 b k0 k3 (by omega) (by omega) (by omega)]
          have hlo : ∀ q b, q = 105 ∨ (107 ≤ q ∧ q ≤ 111) → (107 ≤ q → q ≤ 110 → b < 120) → (q = 111 → b < 480) → (q = 105 → b ≠ 10) → up1 (up1 (up1 E 103 3 (nI er.1)) 103 1 4) 103 2 (nI er.2) q b = I q b := fun q b k1 k2 k3 k4 => by
            rw [up1_nf (by omega), up1_nf (by omega), up1_nf (by omega), hEo q (by omega) (by omega), offR_at q2 k2 k3 k4, d1 q (by omega), hA2 q (by omega)]
          generalize hZ : up1 (up1 (up1 E 103 3 (nI er.1)) 103 1 4) 103 2 (nI er.2) = Z at hZo hZ3 hlo
          have z1 : Z 103 1 = 4 := by rw [← hZ]; simp [up1]
          have z2 : Z 103 2 = nI er.2 := by rw [← hZ, up1_same]
          have z3 : Z 103 3 = nI er.1 := by rw [← hZ]; simp [up1]
          have z15 : Z 103 15 = 0 := by
            have : Z 103 15 = E 103 15 := by rw [← hZ]; simp [up1]
            rw [this, hE3 15 (by decide), d2]
          have h07 : Z 0 7 = 4 := by rw [hZo 0 (by decide) (by decide) (by decide)]; exact l2
          have hI : ∀ q, q ≠ 0 → q ≠ 1 → q < 66 ∨ 72 < q → q < 103 → Z q = I q := fun q k0 k1 k2 k3 => by rw [hZo q (by omega) (by omega) (by omega)]; exact l1 q k0 k1 k2
          have hI2 : ∀ q, q = 104 ∨ q = 106 ∨ 112 < q → Z q = I q := fun q hq => by rw [hZo q (by omega) (by omega) (by omega), hA2 q (by omega)]
          refine ⟨⟨shP_cg a1 (by rw [hI 3 (by decide) (by decide) (by decide) (by decide)]) (fun q h1 h2 => hI q (by omega) (by omega) (by omega) (by omega)), ?_, ?_, by omega, fun q => ?_, ?_, ⟨?_, a7.2⟩, ⟨?_, a8.2⟩⟩, ⟨⟨b1.1, ?_, fun q hq => ?_, fun q hq k hk => ?_⟩, ?_, ?_, ?_, ?_⟩, ?_, ?_, ?_, ?_, ?_, fun q hq k hk => ?_, ?_, ?_⟩
          · unfold byOK; rw [hI 2 (by decide) (by decide) (by decide) (by decide)]; exact a2
          · rw [hZo 1 (by decide) (by decide) (by decide)]; exact l4
          · refine Fr_cg hn10 (a5 ?_) (fun q h1 h2 => hI q (by omega) (by omega) (by omega) (by omega))
            rw [hZo 0 (by decide) (by decide) (by decide), l3] at q; exact q
          · rw [hI 4 (by decide) (by decide) (by decide) (by decide)]; exact a6
          · rw [hI 95 (by decide) (by decide) (by decide) (by decide)]; exact a7.1
          · rw [hI 98 (by decide) (by decide) (by decide) (by decide)]; exact a8.1
          · rw [hZ3 4 (by decide) (by decide) (by decide) (by decide) (by decide), hA2 103 (by decide)]; exact hn4
          · rw [hlo 105 q (by omega) (by omega) (by omega) (by omega)]; exact b1.2.2.1 q hq
          · have h12 := hok.2.1 q
            rw [hlo 107 _ (by omega) (by omega) (by omega) (by omega), hlo 108 _ (by omega) (by omega) (by omega) (by omega), hlo 109 _ (by omega) (by omega) (by omega) (by omega), hlo 110 _ (by omega) (by omega) (by omega) (by omega)]
            obtain ⟨w1, w2, w3, w4, w5⟩ := b1.2.2.2 q hq k hk
            refine ⟨w1, w2, w3, w4, fun r i hi => ?_⟩
            have := ((hok.2.2 q hq k hk).2.2.2.2 r).1
            rw [hlo 111 _ (by omega) (by omega) (by omega) (by omega)]
            exact w5 r i hi
          · unfold byM; rw [hI2 113 (by decide)]; exact b2
          · rw [z15]; rfl
          · rw [hZ3 30 (by decide) (by decide) (by decide) (by decide) (by decide), hA2 103 (by decide)]; exact b4
          · rw [hZ3 34 (by decide) (by decide) (by decide) (by decide) (by decide), hA2 103 (by decide)]; exact b5
          · rw [hI 4 (by decide) (by decide) (by decide) (by decide), hI2 104 (by decide)]; exact c1
          · rw [hI 93 (by decide) (by decide) (by decide) (by decide), hI2 106 (by decide)]; exact c2
          · rw [h07, z1]
          · rw [h07, if_pos rfl, z2, hZo 66 (by decide) (by decide) (by decide)]; exact l6
          · rw [z3, hZo 66 (by decide) (by decide) (by decide)]; exact l5
          · have h12 := hok.2.1 q
            rw [hI (6 + 6 * q + 1 + 3) (by omega) (by omega) (by omega) (by omega), hlo 110 _ (by omega) (by omega) (by omega) (by omega)]; exact c6 q hq k hk
          · rw [hI 97 (by decide) (by decide) (by decide) (by decide), hI2 120 (by decide)]; exact c7
          · rw [hI 102 (by decide) (by decide) (by decide) (by decide), hI2 122 (by decide)]; exact c8
  · exact CPw.mk (s_lines1 hx) (s_mlines1 (by rw [e34]; exact hx)) ⟨n, P, t, sz, z, y, Inv_ref h (by decide)⟩
