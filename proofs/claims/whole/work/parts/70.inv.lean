/-! ## what holds between the calls -/
def Inv (I : Nat → Nat → Int32) (n : Nat) (P : Pln) (t : Nat → Nat) (sz z y : Nat) : Prop :=
  (shP I n P ∧ byOK I t ∧ I 1 1 = nI sz ∧ sz ≤ 300 ∧ (I 0 8 = 0 → Fr I n P) ∧ (∀ p, p < 10 → W16 (I 4 p)) ∧ (I 95 4 = nI z ∧ z ≤ 91) ∧ (I 98 8 = nI y ∧ y ≤ 10)) ∧
  (mOK I n P ∧ byM I t ∧ I 103 15 = nI sz ∧ I 103 30 = nI z ∧ I 103 34 = nI y) ∧
  ((∀ p, p < 10 → I 4 p = I 104 p) ∧ TR (I 93) (I 106) ∧ I 0 7 = I 103 1 ∧ (if I 0 7 = 4 then I 66 3 else -1) = I 103 2 ∧ I 66 2 = I 103 3 ∧ (∀ p, p < n → ∀ k, k < P.ml p → I (6 + 6 * p + 1 + 3) k = I 110 (12 * p + k)) ∧ (∀ i, i < z → I 97 i = I 120 i) ∧ ∀ i, i < y → I 102 i = I 122 i)
def InvE (I : Nat → Nat → Int32) : Prop := ∃ n P t sz z y, Inv I n P t sz z y
/-- the rows that are spoken of (0 8 and 73 .. 91 apart) -/
def rowAll (a : Nat) : Bool := (6 ≤ a && a ≤ 65) || (104 ≤ a && a ≤ 111) || [2, 4, 93, 97, 102, 113, 120, 122].contains a
def relL : List (Nat × Nat) := [(0, 7), (1, 1), (3, 2), (66, 2), (66, 3), (95, 4), (98, 8), (103, 1), (103, 2), (103, 3), (103, 4), (103, 15), (103, 30), (103, 34)]
def rel (a b : Nat) : Prop := rowAll a = true ∨ (a, b) ∈ relL
theorem rel_row {a b : Nat} (h : rel a b) : (rowAll a || [0, 1, 3, 66, 95, 98, 103].contains a) = true := by
  rcases h with h | h
  · rw [h]; rfl
  · have : a = (a, b).1 := rfl
    rw [this]
    generalize (a, b) = x at h
    revert x
    decide
theorem rel_no {a b : Nat} (h : rel a b) (ha : (rowAll a || [0, 1, 3, 66, 95, 98, 103].contains a) = false) : False := by rw [rel_row h] at ha; cases ha
theorem rel_94 {a b : Nat} (h : rel a b) : a ≠ 94 := by rintro rfl; exact rel_no h (by decide)
theorem rel_99 {a b : Nat} (h : rel a b) : a ≠ 99 := by rintro rfl; exact rel_no h (by decide)
theorem rel_119 {a b : Nat} (h : rel a b) : a ≠ 119 := by rintro rfl; exact rel_no h (by decide)
theorem rel_rg {a b lo hi : Nat} (h : rel a b) (hd : ∀ a, lo ≤ a → a ≤ hi → (rowAll a || [0, 1, 3, 66, 95, 98, 103].contains a) = false) : a < lo ∨ hi < a := by
  by_cases h1 : a < lo
  · exact Or.inl h1
  · by_cases h2 : hi < a
    · exact Or.inr h2
    · exact (rel_no h (hd a (by omega) (by omega))).elim
theorem rg_dec {lo hi : Nat} {p : Nat → Prop} (h : ∀ k, k < hi + 1 - lo → p (lo + k)) : ∀ a, lo ≤ a → a ≤ hi → p a := by
  intro a h1 h2
  have := h (a - lo) (by omega)
  rwa [show lo + (a - lo) = a by omega] at this
theorem rel_w {a b : Nat} (h : rel a b) : a < 114 ∨ 118 < a := rel_rg h (rg_dec (by decide))
theorem rel_f {a b : Nat} (h : rel a b) : a < 73 ∨ 91 < a := rel_rg h (rg_dec (by decide))
theorem rel_0 {b : Nat} (h : rel 0 b) : b = 7 := by
  rcases h with h | h
  · exact absurd h (by decide)
  · simp [relL] at h; exact h
theorem rel_103 {b : Nat} (h : rel 103 b) : b ≠ 0 := by
  rintro rfl
  rcases h with h | h
  · exact absurd h (by decide)
  · exact absurd h (by decide)
/-- all that is spoken of is kept -/
def Kp (I I' : Nat → Nat → Int32) : Prop := ∀ a b, rel a b → I' a b = I a b
theorem Kp_row {I I' : Nat → Nat → Int32} (h : Kp I I') {a : Nat} (ha : ∀ b, rel a b) : I' a = I a := by funext b; exact h a b (ha b)
theorem Kp_rfl {I : Nat → Nat → Int32} : Kp I I := fun _ _ _ => rfl
theorem Kp_tr {I A C : Nat → Nat → Int32} (h : Kp I A) (h2 : Kp A C) : Kp I C := fun a b hr => (h2 a b hr).trans (h a b hr)
theorem rel_t {a b : Nat} (h : rowAll a = true) : rel a b := Or.inl h
theorem row_sh {a : Nat} (h1 : 6 ≤ a) (h2 : a ≤ 65) : rowAll a = true := by simp [rowAll, h1, h2]
theorem row_m {q : Nat} (h : q = 105 ∨ (107 ≤ q ∧ q ≤ 111)) : rowAll q = true := by
  have : 104 ≤ q ∧ q ≤ 111 := by omega
  simp [rowAll, this]
theorem shP_cg {I I' : Nat → Nat → Int32} {n : Nat} {P : Pln} (h : shP I n P) (h3 : I' 3 2 = I 3 2) (hs : ∀ q, 6 ≤ q → q ≤ 65 → I' q = I q) : shP I' n P := by
  obtain ⟨h1, h2, h4, h5, h6⟩ := h
  have hn := h1.1
  refine ⟨h1, h2, h3.trans h4, fun p hp => by rw [hs _ (by omega) (by omega)]; exact h5 p hp, fun p hp k hk => ?_⟩
  rw [hs (6 + 6 * p + 1 + 0) (by omega) (by omega), hs (6 + 6 * p + 1 + 1) (by omega) (by omega), hs (6 + 6 * p + 1 + 2) (by omega) (by omega), hs (6 + 6 * p + 1 + 3) (by omega) (by omega), hs (6 + 6 * p + 1 + 4) (by omega) (by omega)]
  exact h6 p hp k hk
theorem shP_OK {I : Nat → Nat → Int32} {n : Nat} {P : Pln} (h : shP I n P) : shOK I P.ml := by
  obtain ⟨h1, h2, h4, h5, h6⟩ := h
  refine ⟨fun p hp => ⟨h5 p hp, h1.2.1 p⟩, fun p hp k hk => ?_⟩
  have hpn : p < n := by
    apply Classical.byContradiction; intro q
    rw [h2 p (by omega)] at hk; omega
  have hb := h1.2.2 p hpn k hk
  have hL := h6 p hpn k hk
  have h10 := h1.1
  exact ⟨P.kd p k, P.nu p k, P.fs p k, hL.1, hb.1, hL.2.1, hb.2.1, hL.2.2.1, hb.2.2.1, fun q => ⟨by have := hb.2.2.2.1 q; omega, P.sc p k, hL.2.2.2.1 q, (hb.2.2.2.1 q).2⟩⟩
theorem Inv_kp {I I' : Nat → Nat → Int32} {n : Nat} {P : Pln} {t : Nat → Nat} {sz z y : Nat} (h : Inv I n P t sz z y) (hk : Kp I I') (hF : I' 0 8 = 0 → Fr I' n P) : Inv I' n P t sz z y := by
  obtain ⟨⟨a1, a2, a3, a4, a5, a6, a7, a8⟩, ⟨b1, b2, b3, b4, b5⟩, c1, c2, c3, c4, c5, c6, c7, c8⟩ := h
  have hn := a1.1.1
  have r0 : ∀ a, rowAll a = true → I' a = I a := fun a ha => Kp_row hk (fun b => rel_t ha)
  have r1 : ∀ a b, rel a b → I' a b = I a b := hk
  refine ⟨⟨shP_cg a1 (r1 3 2 (Or.inr (by decide))) (fun q h1 h2 => r0 q (row_sh h1 h2)), ?_, ?_, a4, hF, ?_, ⟨?_, a7.2⟩, ⟨?_, a8.2⟩⟩, ⟨?_, ?_, ?_, ?_, ?_⟩, ?_, ?_, ?_, ?_, ?_, ?_, ?_, ?_⟩
  · unfold byOK; rw [r0 2 (by decide)]; exact a2
  · rw [r1 1 1 (Or.inr (by decide))]; exact a3
  · rw [r0 4 (by decide)]; exact a6
  · rw [r1 95 4 (Or.inr (by decide))]; exact a7.1
  · rw [r1 98 8 (Or.inr (by decide))]; exact a8.1
  · exact mOK_cg (r1 103 4 (Or.inr (by decide))) (fun q hq => r0 q (row_m hq)) b1
  · unfold byM; rw [r0 113 (by decide)]; exact b2
  · rw [r1 103 15 (Or.inr (by decide))]; exact b3
  · rw [r1 103 30 (Or.inr (by decide))]; exact b4
  · rw [r1 103 34 (Or.inr (by decide))]; exact b5
  · rw [r0 4 (by decide), r0 104 (by decide)]; exact c1
  · rw [r0 93 (by decide), r0 106 (by decide)]; exact c2
  · rw [r1 0 7 (Or.inr (by decide)), r1 103 1 (Or.inr (by decide))]; exact c3
  · rw [r1 0 7 (Or.inr (by decide)), r1 103 2 (Or.inr (by decide)), r1 66 3 (Or.inr (by decide))]; exact c4
  · rw [r1 66 2 (Or.inr (by decide)), r1 103 3 (Or.inr (by decide))]; exact c5
  · intro p hp k hkk
    rw [r0 (6 + 6 * p + 1 + 3) (row_sh (by omega) (by omega)), r0 110 (by decide)]; exact c6 p hp k hkk
  · rw [r0 97 (by decide), r0 120 (by decide)]; exact c7
  · rw [r0 102 (by decide), r0 122 (by decide)]; exact c8
/-- the trouble of both is set anew -/
def setT (I : Nat → Nat → Int32) (x : Int32) : Nat → Nat → Int32 := up1 (tr I x) 0 7 x
theorem Inv_set {I : Nat → Nat → Int32} {n : Nat} {P : Pln} {t : Nat → Nat} {sz z y : Nat} (h : Inv I n P t sz z y) {x : Int32} (hx : x ≠ 4) : Inv (setT I x) n P t sz z y := by
  obtain ⟨⟨a1, a2, a3, a4, a5, a6, a7, a8⟩, ⟨b1, b2, b3, b4, b5⟩, c1, c2, c3, c4, c5, c6, c7, c8⟩ := h
  have hn := a1.1.1
  have ro : ∀ a, a ≠ 0 → a ≠ 103 → setT I x a = I a := fun a h1 h2 => by unfold setT; rw [up1_off h1, tr_off h2]
  have r3 : ∀ b, b ≠ 1 → b ≠ 2 → setT I x 103 b = I 103 b := fun b h1 h2 => by unfold setT; rw [up1_off (by decide), tr_103 h1 h2]
  have e07 : setT I x 0 7 = x := up1_same _ _ _ _
  have e1 : setT I x 103 1 = x := by unfold setT; rw [up1_off (by decide)]; simp [tr, up1]
  have e2 : setT I x 103 2 = -1 := by unfold setT; rw [up1_off (by decide)]; simp [tr, up1]
  have e08 : setT I x 0 8 = I 0 8 := by unfold setT; simp [up1, tr]
  refine ⟨⟨shP_cg a1 (by rw [ro 3 (by decide) (by decide)]) (fun q h1 h2 => ro q (by omega) (by omega)), ?_, ?_, a4, fun q => ?_, ?_, ⟨?_, a7.2⟩, ⟨?_, a8.2⟩⟩, ⟨?_, ?_, ?_, ?_, ?_⟩, ?_, ?_, ?_, ?_, ?_, ?_, ?_, ?_⟩
  · unfold byOK; rw [ro 2 (by decide) (by decide)]; exact a2
  · rw [ro 1 (by decide) (by decide)]; exact a3
  · exact Fr_cg hn (a5 (e08.symm.trans q)) (fun q h1 h2 => ro q (by omega) (by omega))
  · rw [ro 4 (by decide) (by decide)]; exact a6
  · rw [ro 95 (by decide) (by decide)]; exact a7.1
  · rw [ro 98 (by decide) (by decide)]; exact a8.1
  · exact mOK_cg (r3 4 (by decide) (by decide)) (fun q hq => ro q (by omega) (by omega)) b1
  · unfold byM; rw [ro 113 (by decide) (by decide)]; exact b2
  · rw [r3 15 (by decide) (by decide)]; exact b3
  · rw [r3 30 (by decide) (by decide)]; exact b4
  · rw [r3 34 (by decide) (by decide)]; exact b5
  · rw [ro 4 (by decide) (by decide), ro 104 (by decide) (by decide)]; exact c1
  · rw [ro 93 (by decide) (by decide), ro 106 (by decide) (by decide)]; exact c2
  · rw [e07, e1]
  · rw [e07, e2, if_neg hx]
  · rw [ro 66 (by decide) (by decide), r3 3 (by decide) (by decide)]; exact c5
  · intro p hp k hk
    rw [ro _ (by omega) (by omega), ro 110 (by decide) (by decide)]; exact c6 p hp k hk
  · rw [ro 97 (by decide) (by decide), ro 120 (by decide) (by decide)]; exact c7
  · rw [ro 102 (by decide) (by decide), ro 122 (by decide) (by decide)]; exact c8
/-! ## a call of both -/
def CPr (l : Launch) (G : Gm) (Yc Ym : MI) (a : List Value) (I : Nat → Nat → Int32) (J : Nat → Nat → Int64) : Prop :=
  Sp l G Yc (.ref (G.1 + 0) :: a) (mm I J) (fun v M => ∃ x I1, v = some (.int x) ∧ M = mm I1 J ∧ Sp l G Ym (.ref (G.1 + 103) :: a) (mm I1 J) (fun v' M' => v' = some (.int x) ∧ ∃ I2, M' = mm I2 J ∧ InvE I2) noT) noT
theorem CPr.mk {l : Launch} {G : Gm} {Yc Ym : MI} {a : List Value} {I I1 I2 : Nat → Nat → Int32} {J : Nat → Nat → Int64} {x : Int32} (hc : Sp l G Yc (.ref (G.1 + 0) :: a) (mm I J) (RetI x (mm I1 J)) noT) (hm : Sp l G Ym (.ref (G.1 + 103) :: a) (mm I1 J) (RetI x (mm I2 J)) noT) (hI : InvE I2) : CPr l G Yc Ym a I J :=
  hc.mono fun v M h => ⟨x, I1, h.1, h.2, hm.mono fun v' M' h' => ⟨h'.1, I2, h'.2, hI⟩⟩
/-- with an answer that is shown to be the same -/
theorem CPr.mk' {l : Launch} {G : Gm} {Yc Ym : MI} {a : List Value} {I I1 I2 : Nat → Nat → Int32} {J : Nat → Nat → Int64} {x x' : Int32} (hc : Sp l G Yc (.ref (G.1 + 0) :: a) (mm I J) (RetI x (mm I1 J)) noT) (hm : Sp l G Ym (.ref (G.1 + 103) :: a) (mm I1 J) (RetI x' (mm I2 J)) noT) (he : x = x') (hI : InvE I2) : CPr l G Yc Ym a I J := by
  subst he; exact CPr.mk hc hm hI
/-- the part that a number names -/
theorem part_of {x : Int32} {n : Nat} (hn : n ≤ 10) (h : ¬ x < 0 ∧ x < nI n) : ∃ p, p < n ∧ x = nI p := by
  obtain ⟨j, hj, rfl⟩ := nI_of h.1
  exact ⟨j, (nI_ltI hj (by omega)).mp h.2, rfl⟩
theorem right_of {x : Int32} (h : ¬ x < 0 ∧ x < 16) : ∃ p, p < 16 ∧ x = nI p := by
  obtain ⟨j, hj, rfl⟩ := nI_of h.1
  exact ⟨j, (nI_ltI (b := 16) hj (by decide)).mp h.2, rfl⟩
/-- the memory once the flow stands -/
theorem bu_all {I : Nat → Nat → Int32} {n : Nat} {P : Pln} {t : Nat → Nat} {sz z y : Nat} (h : Inv I n P t sz z y) : Fr (buF I n P.ml) n P ∧ (∀ q, q ≠ 0 → q < 73 ∨ 91 < q → buF I n P.ml q = I q) ∧ (∀ b, b ≠ 8 → buF I n P.ml 0 b = I 0 b) := by
  obtain ⟨⟨a1, -, -, -, a5, -⟩, -⟩ := h
  unfold buF
  by_cases e : I 0 8 = 0
  · rw [if_pos e]; exact ⟨a5 e, fun _ _ _ => rfl, fun _ _ => rfl⟩
  · rw [if_neg e]
    obtain ⟨f1, f2⟩ := Fr_trF a1
    refine ⟨Fr_cg a1.1.1 f1 (fun q h1 h2 => up1_off (by omega)), fun q h1 h2 => by rw [up1_off h1]; exact f2 q h2, fun b hb => ?_⟩
    have : up1 (trF I n P.ml) 0 8 0 0 b = trF I n P.ml 0 b := by simp [up1, hb]
    rw [this, f2 0 (by decide)]
theorem bu_kp {I : Nat → Nat → Int32} {n : Nat} {P : Pln} {t : Nat → Nat} {sz z y : Nat} (h : Inv I n P t sz z y) : Kp I (buF I n P.ml) := by
  obtain ⟨-, h2, h3⟩ := bu_all h
  intro a b hr
  by_cases e : a = 0
  · subst e
    exact h3 b (by rw [rel_0 hr]; decide)
  · rw [h2 a e (rel_f hr)]
theorem look_kp {I : Nat → Nat → Int32} {n g : Nat} : Kp I (lookF I n g) := fun a b hr => by rw [look_off (rel_94 hr)]
theorem T0_kp {I : Nat → Nat → Int32} : Kp I (T0 I) := fun a b hr => by
  unfold T0 up1
  rw [if_neg (fun q => rel_103 (q.1 ▸ hr) q.2)]
theorem wk_kp {I : Nat → Nat → Int32} {a h w r lk : Rw} : Kp I (wkM I a h w r lk) := fun x b hr => by rw [wk_off (rel_w hr)]
/-- what a reading of both leaves: the class's flow and doors, the model's rows -/
theorem Inv_rd {I A : Nat → Nat → Int32} {n : Nat} {P : Pln} {t : Nat → Nat} {sz z y : Nat} (h : Inv I n P t sz z y) (hk : Kp I A) (hf : ∀ q, 73 ≤ q → q < 92 → A q = buF I n P.ml q) : Inv A n P t sz z y :=
  Inv_kp h hk (fun _ => Fr_cg h.1.1.1.1 (bu_all h).1 hf)
theorem Inv_at {I A : Nat → Nat → Int32} {n : Nat} {P : Pln} {t : Nat → Nat} {sz z y : Nat} (h : Inv I n P t sz z y) (hk : Kp I A) (hf : ∀ q, 73 ≤ q → q < 92 → A q = I q) (h8 : A 0 8 = I 0 8) : Inv A n P t sz z y :=
  Inv_kp h hk (fun q => Fr_cg h.1.1.1.1 (h.1.2.2.2.2.1 (h8.symm.trans q)) hf)
/-- the model's plan after the class has worked -/
theorem mOK_kp {I A : Nat → Nat → Int32} {n : Nat} {P : Pln} (h : mOK I n P) (hk : Kp I A) : mOK A n P :=
  mOK_cg (hk 103 4 (Or.inr (by decide))) (fun q hq => Kp_row hk (fun b => rel_t (row_m hq))) h
theorem Kp_104 {I A : Nat → Nat → Int32} (hk : Kp I A) : A 104 = I 104 := Kp_row hk (fun b => rel_t (by decide))
theorem Kp_106 {I A : Nat → Nat → Int32} (hk : Kp I A) : A 106 = I 106 := Kp_row hk (fun b => rel_t (by decide))
