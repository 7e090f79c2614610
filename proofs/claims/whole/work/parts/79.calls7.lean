/-! ## lines: the class's memory -/
theorem adLs_lt : ∀ (ls : List Ln) (c : Nat) (D : Nat → Nat → Int32) (o b : Nat), 68 ≤ o → o ≤ 72 → b < c → adLs D c ls o b = D o b
  | [], _, _, _, _, _, _, _ => rfl
  | ln :: ls, c, D, o, b, h1, h2, h => by
    show adLs (adLn D c ln) (c + 1) ls o b = _
    rw [adLs_lt ls (c + 1) _ o b h1 h2 (by omega)]
    unfold adLn adL
    have : b ≠ c := by omega
    have h67 : o ≠ 67 := by omega
    simp [up1, this, h67]
theorem adLs_at : ∀ (ls : List Ln) (c : Nat) (D : Nat → Nat → Int32) (k : Nat), k < ls.length → adLs D c ls 68 (c + k) = nI (ls.getD k ln0).1 ∧ adLs D c ls 69 (c + k) = nI (ls.getD k ln0).2.1 ∧ adLs D c ls 70 (c + k) = nI (ls.getD k ln0).2.2.1 ∧ adLs D c ls 71 (c + k) = (ls.getD k ln0).2.2.2.1 ∧ adLs D c ls 72 (c + k) = mskL (ls.getD k ln0).2.2.2.2
  | [], _, _, k, hk => absurd hk (by simp)
  | ln :: ls, c, D, 0, _ => by
    show adLs (adLn D c ln) (c + 1) ls 68 c = _ ∧ adLs (adLn D c ln) (c + 1) ls 69 c = _ ∧ adLs (adLn D c ln) (c + 1) ls 70 c = _ ∧ adLs (adLn D c ln) (c + 1) ls 71 c = _ ∧ adLs (adLn D c ln) (c + 1) ls 72 c = _
    rw [adLs_lt ls (c + 1) _ 68 c (by decide) (by decide) (by omega), adLs_lt ls (c + 1) _ 69 c (by decide) (by decide) (by omega), adLs_lt ls (c + 1) _ 70 c (by decide) (by decide) (by omega), adLs_lt ls (c + 1) _ 71 c (by decide) (by decide) (by omega), adLs_lt ls (c + 1) _ 72 c (by decide) (by decide) (by omega)]
    unfold adLn adL
    simp [up1]
  | ln :: ls, c, D, k + 1, hk => by
    have := adLs_at ls (c + 1) (adLn D c ln) k (by simpa using hk)
    rw [show c + 1 + k = c + (k + 1) by omega] at this
    exact this
theorem rdS_off {D : Nat → Nat → Int32} {t : Nat → Nat} {e : Nat} {wr pl num nm : Int32} {i o : Nat} (h : o ≠ 66) : rdS D t e wr pl num nm i o = D o := by funext b; simp [rdS, h]
theorem tkS_off {I : Nat → Nat → Int32} {p q : Nat} (h : q < 6 + 6 * p ∨ 6 + 6 * p + 5 < q) : tkS I p q = I q := by
  unfold tkS
  rw [up1_nf (by omega), cpRow_off (by omega), cpRow_off (by omega), cpRow_off (by omega), cpRow_off (by omega), cpRow_off (by omega)]
theorem tkS_at {I : Nat → Nat → Int32} {p : Nat} (hp : p < 10) : tkS I p (6 + 6 * p) 5 = I 67 5 ∧ ∀ k, k < 12 → tkS I p (6 + 6 * p + 1 + 0) k = I 68 k ∧ tkS I p (6 + 6 * p + 1 + 1) k = I 69 k ∧ tkS I p (6 + 6 * p + 1 + 2) k = I 70 k ∧ tkS I p (6 + 6 * p + 1 + 3) k = I 71 k ∧ tkS I p (6 + 6 * p + 1 + 4) k = I 72 k := by
  refine ⟨up1_same _ _ _ _, fun k hk => ⟨?_, ?_, ?_, ?_, ?_⟩⟩
  · unfold tkS
    rw [up1_nf (by omega), cpRow_off (by omega), cpRow_off (by omega), cpRow_off (by omega), cpRow_off (by omega)]
    unfold cpRow; rw [if_pos ⟨rfl, hk⟩]
  · unfold tkS
    rw [up1_nf (by omega), cpRow_off (by omega), cpRow_off (by omega), cpRow_off (by omega)]
    have : ∀ Z : Nat → Nat → Int32, cpRow Z 69 (6 + 6 * p + 1 + 1) 12 (6 + 6 * p + 1 + 1) k = Z 69 k := fun Z => by unfold cpRow; rw [if_pos ⟨rfl, hk⟩]
    rw [this, cpRow_off (by omega)]
  · unfold tkS
    rw [up1_nf (by omega), cpRow_off (by omega), cpRow_off (by omega)]
    have : ∀ Z : Nat → Nat → Int32, cpRow Z 70 (6 + 6 * p + 1 + 2) 12 (6 + 6 * p + 1 + 2) k = Z 70 k := fun Z => by unfold cpRow; rw [if_pos ⟨rfl, hk⟩]
    rw [this, cpRow_off (by omega), cpRow_off (by omega)]
  · unfold tkS
    rw [up1_nf (by omega), cpRow_off (by omega)]
    have : ∀ Z : Nat → Nat → Int32, cpRow Z 71 (6 + 6 * p + 1 + 3) 12 (6 + 6 * p + 1 + 3) k = Z 71 k := fun Z => by unfold cpRow; rw [if_pos ⟨rfl, hk⟩]
    rw [this, cpRow_off (by omega), cpRow_off (by omega), cpRow_off (by omega)]
  · unfold tkS
    rw [up1_nf (by omega)]
    have : ∀ Z : Nat → Nat → Int32, cpRow Z 72 (6 + 6 * p + 1 + 4) 12 (6 + 6 * p + 1 + 4) k = Z 72 k := fun Z => by unfold cpRow; rw [if_pos ⟨rfl, hk⟩]
    rw [this, cpRow_off (by omega), cpRow_off (by omega), cpRow_off (by omega), cpRow_off (by omega)]
/-- what the class leaves when the text was good -/
def LnC (I A : Nat → Nat → Int32) (p : Nat) (ls : List Ln) : Prop :=
  (∀ q, q ≠ 0 → q ≠ 1 → q < 6 + 6 * p ∨ 6 + 6 * p + 5 < q → q < 66 ∨ 72 < q → A q = I q) ∧ A 0 7 = 0 ∧ A 0 8 = 1 ∧ A 1 1 = 0 ∧ A 66 2 = 0 ∧ A (6 + 6 * p) 5 = nI ls.length ∧ ∀ k, k < ls.length → A (6 + 6 * p + 1 + 0) k = nI (ls.getD k ln0).1 ∧ A (6 + 6 * p + 1 + 1) k = nI (ls.getD k ln0).2.1 ∧ A (6 + 6 * p + 1 + 2) k = nI (ls.getD k ln0).2.2.1 ∧ A (6 + 6 * p + 1 + 3) k = (ls.getD k ln0).2.2.2.1 ∧ A (6 + 6 * p + 1 + 4) k = mskL (ls.getD k ln0).2.2.2.2
theorem LnC_of {I : Nat → Nat → Int32} {t : Nat → Nat} {e np p : Nat} {ls : List Ln} {num nm : Int32} {j : Nat} (hp : p < 10) (hl : ls.length ≤ 12) : LnC I (LnM I t e np p ls num nm j) p ls := by
  unfold LnM
  have hD : ∀ q, q < 66 ∨ 72 < q → adLs (D0r I e np) 0 ls q = I q := fun q hq => by
    rw [adLs_off (by omega)]; unfold D0r; rw [up1_nf (by omega), up1_nf (by omega), up1_nf (by omega)]
  have h67 : adLs (D0r I e np) 0 ls 67 5 = nI ls.length := by
    have := adLs_67 ls 0 (D0r I e np) (by unfold D0r; rw [up1_ne (by decide), up1_ne (by decide), up1_same]; rfl)
    rwa [Nat.zero_add] at this
  have hat := fun k hk => adLs_at ls 0 (D0r I e np) k hk
  generalize adLs (D0r I e np) 0 ls = D at hD h67 hat
  generalize hR : up1 (rdS D t e 0 (-1) num nm j) 1 1 0 = R
  have hRo : ∀ q, q ≠ 1 → q ≠ 66 → R q = D q := fun q h1 h2 => by rw [← hR, up1_nf h1, rdS_off h2]
  obtain ⟨t1, t2⟩ := tkS_at (I := R) hp
  refine ⟨fun q h0 h1 h2 h3 => ?_, up1_same _ _ _ _, ?_, ?_, ?_, ?_, fun k hk => ?_⟩
  · rw [up1_nf h0, up1_nf h0, tkS_off h2, hRo q h1 (by omega), hD q h3]
  · simp [up1]
  · rw [up1_nf (by decide), up1_nf (by decide), tkS_off (Or.inl (by omega)), ← hR, up1_same]
  · rw [up1_nf (by decide), up1_nf (by decide), tkS_off (Or.inr (by omega)), ← hR, up1_nf (by decide)]
    simp [rdS]
  · rw [up1_nf (by omega), up1_nf (by omega), t1, hRo 67 (by decide) (by decide), h67]
  · obtain ⟨a1, a2, a3, a4, a5⟩ := hat k hk
    obtain ⟨b1, b2, b3, b4, b5⟩ := t2 k (by omega)
    rw [Nat.zero_add] at a1 a2 a3 a4 a5
    have hz : ∀ x, up1 (up1 (tkS R p) 0 8 1) 0 7 0 (6 + 6 * p + 1 + x) = tkS R p (6 + 6 * p + 1 + x) := fun x => by rw [up1_nf (by omega), up1_nf (by omega)]
    rw [hz, hz, hz, hz, hz, b1, b2, b3, b4, b5, hRo 68 (by decide) (by decide), hRo 69 (by decide) (by decide), hRo 70 (by decide) (by decide), hRo 71 (by decide) (by decide), hRo 72 (by decide) (by decide)]
    exact ⟨a1, a2, a3, a4, a5⟩
/-- what it leaves when the text was not -/
theorem LnE_at {I : Nat → Nat → Int32} {t : Nat → Nat} {e np : Nat} {er : Er} {acc : List Ln} {num nm : Int32} {j : Nat} : (∀ q, q ≠ 0 → q ≠ 1 → q < 66 ∨ 72 < q → LnE I t e np er acc num nm j q = I q) ∧ LnE I t e np er acc num nm j 0 7 = 4 ∧ LnE I t e np er acc num nm j 0 8 = I 0 8 ∧ LnE I t e np er acc num nm j 1 1 = 0 ∧ LnE I t e np er acc num nm j 66 2 = nI er.1 ∧ LnE I t e np er acc num nm j 66 3 = nI er.2 := by
  unfold LnE
  have hD : ∀ q, q < 66 ∨ 72 < q → adLs (D0r I e np) 0 acc q = I q := fun q hq => by
    rw [adLs_off (by omega)]; unfold D0r; rw [up1_nf (by omega), up1_nf (by omega), up1_nf (by omega)]
  generalize adLs (D0r I e np) 0 acc = D at hD
  refine ⟨fun q h0 h1 h2 => ?_, up1_same _ _ _ _, ?_, ?_, ?_, ?_⟩
  · rw [up1_nf h0, up1_nf h1, rdS_off (by omega), hD q h2]
  · have : up1 (up1 (rdS D t e (nI er.1) (nI er.2) num nm j) 1 1 0) 0 7 4 0 8 = rdS D t e (nI er.1) (nI er.2) num nm j 0 8 := by simp [up1]
    rw [this, rdS_off (by decide), hD 0 (by decide)]
  · rw [up1_nf (by decide), up1_same]
  · rw [up1_nf (by decide), up1_nf (by decide)]; simp [rdS]
  · rw [up1_nf (by decide), up1_nf (by decide)]; simp [rdS]
/-! ## the model's memory -/
theorem cp4_at (p k : Nat) (E : Nat → Nat → Int32) (hp : p < 10) (hk : k < 12) : ∀ m, m ≤ 4 → (∀ q, q ≠ 111 → it (cp4 p k) m E q = E q) ∧ ∀ b, it (cp4 p k) m E 111 b = if 4 * (12 * p + k) ≤ b ∧ b < 4 * (12 * p + k) + m then E 111 (4 * (120 + k) + (b - 4 * (12 * p + k))) else E 111 b
  | 0, _ => ⟨fun _ _ => rfl, fun b => by rw [if_neg (by omega)]; rfl⟩
  | m + 1, hm => by
    obtain ⟨h1, h2⟩ := cp4_at p k E hp hk m (by omega)
    have hs : it (cp4 p k) (m + 1) E = cp4 p k m (it (cp4 p k) m E) := rfl
    rw [hs]
    generalize it (cp4 p k) m E = Z at h1 h2 ⊢
    unfold cp4
    refine ⟨fun q hq => by rw [up1_nf hq]; exact h1 q hq, fun b => ?_⟩
    simp only [up1, true_and]
    by_cases e : b = 4 * (12 * p + k) + m
    · rw [if_pos e, if_pos (by omega), h2, if_neg (by omega), e, show 4 * (12 * p + k) + m - 4 * (12 * p + k) = m by omega]
    · rw [if_neg e, h2]
      by_cases h : 4 * (12 * p + k) ≤ b ∧ b < 4 * (12 * p + k) + m
      · rw [if_pos h, if_pos (by omega)]
      · rw [if_neg h, if_neg (by omega)]
theorem cp1_at (o p k : Nat) (E : Nat → Nat → Int32) : (∀ q, q ≠ o → cp1 o p k E q = E q) ∧ ∀ b, cp1 o p k E o b = if b = 12 * p + k then E o (120 + k) else E o b := by
  unfold cp1
  refine ⟨fun q hq => up1_nf hq, fun b => by simp [up1]⟩
theorem cpL_at (p k : Nat) (E : Nat → Nat → Int32) (hp : p < 10) (hk : k < 12) : (∀ q, q < 107 ∨ 111 < q → cpL p k E q = E q) ∧ (∀ q, 107 ≤ q → q ≤ 110 → ∀ b, cpL p k E q b = if b = 12 * p + k then E q (120 + k) else E q b) ∧ ∀ b, cpL p k E 111 b = if 4 * (12 * p + k) ≤ b ∧ b < 4 * (12 * p + k) + 4 then E 111 (4 * (120 + k) + (b - 4 * (12 * p + k))) else E 111 b := by
  unfold cpL
  obtain ⟨a1, a2⟩ := cp1_at 107 p k E
  generalize cp1 107 p k E = E1 at a1 a2
  obtain ⟨b1, b2⟩ := cp1_at 108 p k E1
  generalize cp1 108 p k E1 = E2 at b1 b2
  obtain ⟨c1, c2⟩ := cp1_at 109 p k E2
  generalize cp1 109 p k E2 = E3 at c1 c2
  obtain ⟨d1, d2⟩ := cp1_at 110 p k E3
  generalize cp1 110 p k E3 = E4 at d1 d2
  obtain ⟨f1, f2⟩ := cp4_at p k E4 hp hk 4 (Nat.le_refl _)
  refine ⟨fun q hq => ?_, fun q h1 h2 b => ?_, fun b => ?_⟩
  · rw [f1 q (by omega), d1 q (by omega), c1 q (by omega), b1 q (by omega), a1 q (by omega)]
  · rw [f1 q (by omega)]
    have : q = 107 ∨ q = 108 ∨ q = 109 ∨ q = 110 := by omega
    rcases this with rfl | rfl | rfl | rfl
    · rw [d1 107 (by decide), c1 107 (by decide), b1 107 (by decide), a2]
    · rw [d1 108 (by decide), c1 108 (by decide), b2, a1 108 (by decide)]
    · rw [d1 109 (by decide), c2, b1 109 (by decide), a1 109 (by decide)]
    · rw [d2, c1 110 (by decide), b1 110 (by decide), a1 110 (by decide)]
  · rw [f2, d1 111 (by decide), c1 111 (by decide), b1 111 (by decide), a1 111 (by decide)]
theorem cpA_at (p : Nat) (E : Nat → Nat → Int32) (hp : p < 10) : ∀ m, m ≤ 12 → (∀ q, q < 107 ∨ 111 < q → it (cpL p) m E q = E q) ∧ (∀ q, 107 ≤ q → q ≤ 110 → ∀ b, it (cpL p) m E q b = if 12 * p ≤ b ∧ b < 12 * p + m then E q (120 + (b - 12 * p)) else E q b) ∧ ∀ b, it (cpL p) m E 111 b = if 4 * (12 * p) ≤ b ∧ b < 4 * (12 * p) + 4 * m then E 111 (4 * 120 + (b - 4 * (12 * p))) else E 111 b
  | 0, _ => ⟨fun _ _ => rfl, fun q _ _ b => by rw [if_neg (by omega)]; rfl, fun b => by rw [if_neg (by omega)]; rfl⟩
  | m + 1, hm => by
    obtain ⟨h1, h2, h3⟩ := cpA_at p E hp m (by omega)
    have hs : it (cpL p) (m + 1) E = cpL p m (it (cpL p) m E) := rfl
    rw [hs]
    generalize it (cpL p) m E = Z at h1 h2 h3 ⊢
    obtain ⟨g1, g2, g3⟩ := cpL_at p m Z hp (by omega)
    refine ⟨fun q hq => by rw [g1 q hq]; exact h1 q hq, fun q q1 q2 b => ?_, fun b => ?_⟩
    · rw [g2 q q1 q2 b]
      by_cases e : b = 12 * p + m
      · rw [if_pos e, if_pos (by omega), h2 q q1 q2, if_neg (by omega), e, show 12 * p + m - 12 * p = m by omega]
      · rw [if_neg e, h2 q q1 q2]
        by_cases h : 12 * p ≤ b ∧ b < 12 * p + m
        · rw [if_pos h, if_pos (by omega)]
        · rw [if_neg h, if_neg (by omega)]
    · rw [g3 b]
      by_cases e : 4 * (12 * p + m) ≤ b ∧ b < 4 * (12 * p + m) + 4
      · rw [if_pos e, if_pos (by omega), h3, if_neg (by omega), show 4 * (120 + m) + (b - 4 * (12 * p + m)) = 4 * 120 + (b - 4 * (12 * p)) by omega]
      · rw [if_neg e, h3]
        by_cases h : 4 * (12 * p) ≤ b ∧ b < 4 * (12 * p) + 4 * m
        · rw [if_pos h, if_pos (by omega)]
        · rw [if_neg h, if_neg (by omega)]
