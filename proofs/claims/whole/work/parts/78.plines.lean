/-! ## what the reading of a text yields -/
def lnG (n : Nat) (ln : Ln) : Prop := ln.1 ≤ 5 ∧ ln.2.1 < 16 ∧ ln.2.2.1 < 8 ∧ (ln.1 = 2 → ln.2.1 < n ∧ ∃ s, s < 8 ∧ ln.2.2.2.1 = nI s) ∧ (ln.1 = 1 → ln.2.1 = ln.2.2.2.2.length ∧ ln.2.2.2.2.length ≤ 4 ∧ ∀ x ∈ ln.2.2.2.2, x < 8)
theorem pWhole_lt {t : Nat → Nat} {e i b a j : Nat} (h : pWhole t e i b = .ok (a, j)) : a < b := by
  unfold pWhole at h
  split at h
  · split at h
    · rename_i h2; cases h; exact h2
    · cases h
  · cases h
theorem pFrom_ok {t : Nat → Nat} {e : Nat} : ∀ (f : Nat) (acc : List Nat) (i : Nat) (fr : List Nat) (j : Nat), pFrom t e f acc i = .ok (fr, j) → (∀ x ∈ acc, x < 8) → (∀ x ∈ fr, x < 8) ∧ fr.length ≤ acc.length + f
  | 0, acc, i, fr, j, h, _ => by
    unfold pFrom at h
    split at h <;> cases h
  | f + 1, acc, i, fr, j, h, ha => by
    unfold pFrom at h
    cases hn : pName t e i with
    | error er => rw [hn] at h; cases h
    | ok a =>
      obtain ⟨a, j1⟩ := a
      rw [hn] at h
      simp only at h
      have h8 := (pName_ok hn).2.2.2
      have hacc : ∀ x ∈ acc ++ [a], x < 8 := by
        intro x hx
        rcases List.mem_append.mp hx with q | q
        · exact ha x q
        · rw [List.mem_singleton.mp q]; exact h8
      split at h
      · have := pFrom_ok f _ _ _ _ h hacc
        refine ⟨this.1, ?_⟩
        have h2 := this.2
        simp at h2
        omega
      · cases h
        refine ⟨hacc, ?_⟩
        simp
theorem pGet_G {t : Nat → Nat} {e n i j : Nat} {ln : Ln} (h : pGet t e i = .ok (ln, j)) : lnG n ln := by
  unfold pGet at h
  cases h1 : pWhole t e i 16 with
  | error er => rw [h1] at h; cases h
  | ok a =>
    obtain ⟨r, j1⟩ := a
    rw [h1] at h
    simp only at h
    cases h2 : pWord t e j1 6 with
    | error er => rw [h2] at h; cases h
    | ok j2 =>
      rw [h2] at h
      simp only at h
      cases h3 : pName t e j2 with
      | error er => rw [h3] at h; cases h
      | ok b =>
        obtain ⟨b, j3⟩ := b
        rw [h3] at h
        cases h
        exact ⟨by show 0 ≤ 5; omega, pWhole_lt h1, (pName_ok h3).2.2.2, fun q => absurd q (show ¬ (0 : Nat) = 2 by decide), fun q => absurd q (show ¬ (0 : Nat) = 1 by decide)⟩
theorem pLet_G {t : Nat → Nat} {e n i j : Nat} {ln : Ln} (h : pLet t e i = .ok (ln, j)) : lnG n ln := by
  unfold pLet at h
  cases h1 : pName t e i with
  | error er => rw [h1] at h; cases h
  | ok a =>
    obtain ⟨r, j1⟩ := a
    rw [h1] at h
    simp only at h
    cases h2 : pWord t e j1 7 with
    | error er => rw [h2] at h; cases h
    | ok j2 =>
      rw [h2] at h
      simp only at h
      cases h3 : pFrom t e 4 [] j2 with
      | error er => rw [h3] at h; cases h
      | ok b =>
        obtain ⟨b, j3⟩ := b
        rw [h3] at h
        cases h
        obtain ⟨q1, q2⟩ := pFrom_ok 4 [] j2 _ _ h3 (fun x hx => by cases hx)
        have q3 : b.length ≤ 4 := by simpa using q2
        exact ⟨by show 1 ≤ 5; omega, by show b.length < 16; omega, (pName_ok h1).2.2.2, fun q => absurd q (show ¬ (1 : Nat) = 2 by decide), fun _ => ⟨rfl, q3, q1⟩⟩
theorem pAsk_G {t : Nat → Nat} {e n i j : Nat} {ln : Ln} (hn : n ≤ 10) (h : pAsk t e n i = .ok (ln, j)) : lnG n ln := by
  unfold pAsk at h
  cases h1 : pWhole t e i n with
  | error er => rw [h1] at h; cases h
  | ok a =>
    obtain ⟨r, j1⟩ := a
    rw [h1] at h
    simp only at h
    cases h2 : pWord t e j1 8 with
    | error er => rw [h2] at h; cases h
    | ok j2 =>
      rw [h2] at h
      simp only at h
      cases h3 : pName t e j2 with
      | error er => rw [h3] at h; cases h
      | ok b =>
        obtain ⟨b, j3⟩ := b
        rw [h3] at h
        simp only at h
        cases h4 : pWord t e j3 6 with
        | error er => rw [h4] at h; cases h
        | ok j4 =>
          rw [h4] at h
          simp only at h
          cases h5 : pName t e j4 with
          | error er => rw [h5] at h; cases h
          | ok c =>
            obtain ⟨c, j5⟩ := c
            rw [h5] at h
            cases h
            have := pWhole_lt h1
            exact ⟨by show 2 ≤ 5; omega, by show r < 16; omega, (pName_ok h3).2.2.2, fun _ => ⟨this, c, (pName_ok h5).2.2.2, rfl⟩, fun q => absurd q (show ¬ (2 : Nat) = 1 by decide)⟩
theorem pOut_G {t : Nat → Nat} {e n k w i j : Nat} {ln : Ln} (hk : k = 3 ∨ k = 4) (h : pOut t e k w i = .ok (ln, j)) : lnG n ln := by
  unfold pOut at h
  cases h1 : pName t e i with
  | error er => rw [h1] at h; cases h
  | ok a =>
    obtain ⟨r, j1⟩ := a
    rw [h1] at h
    simp only at h
    cases h2 : pWord t e j1 w with
    | error er => rw [h2] at h; cases h
    | ok j2 =>
      rw [h2] at h
      simp only at h
      cases h3 : pWhole t e j2 16 with
      | error er => rw [h3] at h; cases h
      | ok b =>
        obtain ⟨b, j3⟩ := b
        rw [h3] at h
        cases h
        exact ⟨by show k ≤ 5; omega, pWhole_lt h3, (pName_ok h1).2.2.2, fun q => absurd (show k = 2 from q) (by omega), fun q => absurd (show k = 1 from q) (by omega)⟩
theorem pRes_G {t : Nat → Nat} {e n i j : Nat} {ln : Ln} (h : pRes t e i = .ok (ln, j)) : lnG n ln := by
  unfold pRes at h
  cases h1 : pName t e i with
  | error er => rw [h1] at h; cases h
  | ok a =>
    obtain ⟨r, j1⟩ := a
    rw [h1] at h
    cases h
    exact ⟨by show 5 ≤ 5; omega, by show 0 < 16; omega, (pName_ok h1).2.2.2, fun q => absurd q (show ¬ (5 : Nat) = 2 by decide), fun q => absurd q (show ¬ (5 : Nat) = 1 by decide)⟩
theorem pLine_G {t : Nat → Nat} {e n c i j : Nat} {ln : Ln} (hn : n ≤ 10) (h : pLine t e n c i = .ok (ln, j)) : lnG n ln ∧ c < 12 := by
  unfold pLine at h
  split at h
  · cases h
  · split at h
    · cases h
    · rename_i h12
      refine ⟨?_, by omega⟩
      split at h
      · exact pGet_G h
      · split at h
        · exact pLet_G h
        · split at h
          · exact pAsk_G hn h
          · split at h
            · exact pOut_G (Or.inl rfl) h
            · split at h
              · exact pOut_G (Or.inr rfl) h
              · exact pRes_G h
theorem pText_G {t : Nat → Nat} {e n : Nat} (hn : n ≤ 10) : ∀ (f : Nat) (acc : List Ln) (i : Nat) (ls : List Ln), pText t e n f acc i = .ok ls → (∀ ln ∈ acc, lnG n ln) → (∀ ln ∈ ls, lnG n ln) ∧ ls.length ≤ 12
  | 0, acc, i, ls, h, _ => by unfold pText at h; cases h
  | f + 1, acc, i, ls, h, ha => by
    unfold pText at h
    cases hl : pLine t e n acc.length i with
    | error er => rw [hl] at h; cases h
    | ok a =>
      obtain ⟨ln, j⟩ := a
      rw [hl] at h
      simp only at h
      obtain ⟨hg, hlt⟩ := pLine_G hn hl
      have hacc : ∀ x ∈ acc ++ [ln], lnG n x := by
        intro x hx
        rcases List.mem_append.mp hx with q | q
        · exact ha x q
        · rw [List.mem_singleton.mp q]; exact hg
      split at h
      · cases h
        refine ⟨hacc, ?_⟩
        simp; omega
      · split at h
        · exact pText_G hn f _ _ _ h hacc
        · cases h
/-! ## the plan with a part's lines set anew -/
def lnPl (ls : List Ln) (k : Nat) : Nat × Nat × Nat × Nat × (Nat → Nat) := ((ls.getD k ln0).1, (ls.getD k ln0).2.1, (ls.getD k ln0).2.2.1, cn (ls.getD k ln0).2.2.2.1, fun i => (ls.getD k ln0).2.2.2.2.getD i 0)
def setP (P : Pln) (p : Nat) (ls : List Ln) : Pln := (fun q => if q = p then ls.length else P.1 q, fun q k => if q = p then lnPl ls k else P.2 q k)
theorem getD_mem {ls : List Ln} {k : Nat} (hk : k < ls.length) : ls.getD k ln0 ∈ ls := by
  rw [List.getD_eq_getElem?_getD, List.getElem?_eq_getElem hk]; exact List.getElem_mem hk
theorem setP_ok {P : Pln} {n p : Nat} {ls : List Ln} (hok : P.ok n) (hg : ∀ ln ∈ ls, lnG n ln) (hl : ls.length ≤ 12) : (setP P p ls).ok n := by
  refine ⟨hok.1, fun q => ?_, fun q hq k hk => ?_⟩
  · show (if q = p then ls.length else P.1 q) ≤ 12
    split
    · exact hl
    · exact hok.2.1 q
  · by_cases e : q = p
    · have hk' : k < ls.length := by
        have : k < (if q = p then ls.length else P.1 q) := hk
        rwa [if_pos e] at this
      have e2 : (setP P p ls).2 q k = lnPl ls k := by show (if q = p then lnPl ls k else P.2 q k) = _; rw [if_pos e]
      unfold Pln.kd Pln.nu Pln.fs Pln.sc Pln.fr
      rw [e2]
      obtain ⟨g1, g2, g3, g4, g5⟩ := hg _ (getD_mem hk')
      unfold lnPl
      refine ⟨g1, g2, g3, fun q2 => ⟨(g4 q2).1, ?_⟩, fun q1 => ?_⟩
      · obtain ⟨s, hs, es⟩ := (g4 q2).2
        show cn _ < 8
        rw [es, show cn (nI s) = s from nI_clamp (by omega)]; exact hs
      · obtain ⟨e1, e4, e8⟩ := g5 q1
        refine ⟨by show (ls.getD k ln0).2.1 ≤ 4; omega, fun i hi => ?_⟩
        have hi' : i < (ls.getD k ln0).2.2.2.2.length := by rw [← e1]; exact hi
        show (ls.getD k ln0).2.2.2.2.getD i 0 < 8
        rw [List.getD_eq_getElem?_getD, List.getElem?_eq_getElem hi']
        exact e8 _ (List.getElem_mem hi')
    · have e1 : (setP P p ls).ml q = P.ml q := by show (if q = p then ls.length else P.1 q) = _; rw [if_neg e]
      have e2 : (setP P p ls).2 q k = P.2 q k := by show (if q = p then lnPl ls k else P.2 q k) = _; rw [if_neg e]
      unfold Pln.kd Pln.nu Pln.fs Pln.sc Pln.fr
      rw [e2]
      exact hok.2.2 q hq k (e1 ▸ hk)
theorem msk_B {s : Nat} (hs : s < 32) : ∀ (fr : List Nat) (a : Int32), (∀ x ∈ fr, x < 8) → (B (fr.foldl (fun a n => a ||| ((1 : Int32) <<< (nI n &&& 31))) a) s ↔ B a s ∨ ∃ i, i < fr.length ∧ fr.getD i 0 = s)
  | [], a, _ => by simp
  | x :: fr, a, h => by
    rw [List.foldl_cons, msk_B hs fr _ (fun y hy => h y (List.mem_cons_of_mem _ hy)), B_or, bt_nI, B_bt (by have := h x List.mem_cons_self; omega) hs]
    constructor
    · rintro ((q | q) | ⟨i, hi, q⟩)
      · exact Or.inl q
      · exact Or.inr ⟨0, by simp, by simp [q]⟩
      · exact Or.inr ⟨i + 1, by simpa using hi, by simpa using q⟩
    · rintro (q | ⟨i, hi, q⟩)
      · exact Or.inl (Or.inl q)
      · cases i with
        | zero => exact Or.inl (Or.inr (by simpa using q.symm))
        | succ i => exact Or.inr ⟨i, by simpa using hi, by simpa using q⟩
