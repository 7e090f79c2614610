/-! ## grants without the chosen -/
def GX (g : Rw) (cd : Nat → Nat) (c : Nat) (sel : Nat → Prop) (p b : Nat) : Prop := B (g p) b ∧ ¬ ∃ k, k < c ∧ sel k ∧ cd k / 100 = p ∧ cd k % 100 = b
def cdJ (s : CdS) : Prop := ∀ i j, i < j → j < s.1 → s.2 i < s.2 j
theorem mg_J {v : Rw} : ∀ (f q : Nat) (s : CdS), cdJ s → (∀ i, i < s.1 → s.2 i < 100 * (q / 16) + q % 16) → cdJ (mgF v f q s).2
  | 0, q, s, h, _ => h
  | f + 1, q, s, h, hb => by
    unfold mgF
    have hnx : 100 * (q / 16) + q % 16 < 100 * ((q + 1) / 16) + (q + 1) % 16 := by omega
    split
    · exact mg_J f (q + 1) s h (fun i hi => Nat.lt_trans (hb i hi) hnx)
    · split
      · exact h
      · refine mg_J f (q + 1) _ (fun i j hij hj => ?_) (fun i hi => ?_)
        · have hj' : j < s.1 + 1 := hj
          simp only [updN]
          by_cases e : j = s.1
          · subst e
            rw [if_pos rfl, if_neg (by omega)]
            exact hb i hij
          · rw [if_neg e, if_neg (by omega)]
            exact h i j hij (by omega)
        · have hi' : i < s.1 + 1 := hi
          simp only [updN]
          by_cases e : i = s.1
          · rw [if_pos e]; exact hnx
          · rw [if_neg e]; exact Nat.lt_trans (hb i (by omega)) hnx
theorem tg_GX {g : Rw} {s : CdS} {x : Nat} (hc : s.1 ≤ 10) (hJ : cdJ s) (hB : ∀ i, i < s.1 → s.2 i % 100 < 16 ∧ B (g (s.2 i / 100)) (s.2 i % 100)) {p b : Nat} (hb : b < 32) : B (it (tgS s.2 (nI x)) s.1 g p) b ↔ GX g s.2 s.1 (fun k => x.testBit k = true) p b := by
  have key : (fun (m : Nat) (t : Rw) => ∀ p b, b < 32 → (B (t p) b ↔ GX g s.2 m (fun k => x.testBit k = true) p b)) s.1 (it (tgS s.2 (nI x)) s.1 g) := by
    refine it_ind (Q := fun (m : Nat) (t : Rw) => ∀ p b, b < 32 → (B (t p) b ↔ GX g s.2 m (fun k => x.testBit k = true) p b)) (fun p b _ => ?_) (fun k t hk ht p b hb => ?_)
    · unfold GX
      exact ⟨fun h => ⟨h, fun ⟨k, hk, _⟩ => absurd hk (by omega)⟩, fun h => h.1⟩
    · have hsucc : ∀ sel : Prop, (x.testBit k = true ↔ sel) → (GX g s.2 (k + 1) (fun k => x.testBit k = true) p b ↔ GX g s.2 k (fun k => x.testBit k = true) p b ∧ ¬ (sel ∧ s.2 k / 100 = p ∧ s.2 k % 100 = b)) := by
        intro sel hsel
        unfold GX
        constructor
        · rintro ⟨h1, h2⟩
          exact ⟨⟨h1, fun ⟨i, hi, h3⟩ => h2 ⟨i, by omega, h3⟩⟩, fun ⟨h3, h4⟩ => h2 ⟨k, by omega, hsel.mpr h3, h4⟩⟩
        · rintro ⟨⟨h1, h2⟩, h3⟩
          refine ⟨h1, fun ⟨i, hi, h4, h5⟩ => ?_⟩
          by_cases e : i = k
          · subst e; exact h3 ⟨hsel.mp h4, h5⟩
          · exact h2 ⟨i, by omega, h4, h5⟩
      unfold tgS
      by_cases hx : x.testBit k = true
      · rw [if_pos ((sh_1 (by omega)).mpr ((B_nI (by omega)).mpr hx)), hsucc True (by simp [hx])]
        unfold trnG upd
        by_cases e : p = s.2 k / 100
        · rw [if_pos e, B_xor, ← e, ht p b hb, B_bt (by have := (hB k hk).1; omega) hb]
          by_cases e2 : b = s.2 k % 100
          · have hin : GX g s.2 k (fun k => x.testBit k = true) p b := by
              refine ⟨by rw [e, e2]; exact (hB k hk).2, fun ⟨i, hi, _, h3, h4⟩ => ?_⟩
              have := hJ i k hi hk
              omega
            constructor
            · intro q; exact absurd ⟨fun _ => e2, fun _ => hin⟩ q
            · rintro ⟨_, q⟩; exact absurd ⟨trivial, rfl, e2.symm⟩ q
          · constructor
            · intro q
              refine ⟨?_, fun z => e2 z.2.2.symm⟩
              apply Classical.byContradiction
              intro hn
              exact q ⟨fun z => absurd z hn, fun z => absurd z e2⟩
            · rintro ⟨q, _⟩ z
              exact e2 (z.mp q)
        · rw [if_neg e, ht p b hb]
          exact ⟨fun q => ⟨q, fun z => e z.2.1.symm⟩, fun q => q.1⟩
      · rw [if_neg (fun q => hx ((B_nI (by omega)).mp ((sh_1 (by omega)).mp q))), hsucc False (by simp [hx]), ht p b hb]
        exact ⟨fun q => ⟨q, fun z => z.1⟩, fun q => q.1⟩
  exact key p b hb
theorem ic_GX {A : Nat → Nat → Int32} {g : Rw} {s : CdS} {j : Nat} (hc : s.1 ≤ 10) (hg : ∀ p, p < 10 → A 4 p = g p) (hcd : ∀ i, i < s.1 → A 101 i = nI (s.2 i) ∧ s.2 i / 100 < 10 ∧ s.2 i % 100 < 16) {p b : Nat} (hp : p < 10) (hb : b < 32) : B (icT A s.1 (nI j) p) b ↔ GX g s.2 s.1 (fun k => (rev s.1 j).testBit k = true) p b := by
  have hstep : ∀ i, i < s.1 → ∀ t : Rw, ¬ B (icS (A 101) s.1 (nI j) i t p) b ↔ ¬ B (t p) b ∨ ((rev s.1 j).testBit i = true ∧ s.2 i / 100 = p ∧ s.2 i % 100 = b) := by
    intro i hi t
    obtain ⟨c1, c2, c3⟩ := hcd i hi
    have hcn : cn (A 101 i) = s.2 i := by rw [c1]; exact nI_clamp (by omega)
    have hsel : B (nI j) (s.1 - 1 - i) ↔ (rev s.1 j).testBit i = true := by
      rw [B_nI (by omega), rev_bit]; simp [hi]
    unfold icS
    rw [hcn]
    by_cases hB : B (nI j) (s.1 - 1 - i)
    · rw [if_neg (by rw [hb_z (by omega)]; exact fun q => q hB)]
      unfold upd
      by_cases e : p = s.2 i / 100
      · rw [if_pos e, B_and, B_not hb, bt_nI, B_bt (by omega) hb, ← e]
        constructor
        · intro q
          by_cases e2 : b = s.2 i % 100
          · exact Or.inr ⟨hsel.mp hB, rfl, e2.symm⟩
          · exact Or.inl fun z => q ⟨z, e2⟩
        · rintro (q | ⟨_, _, q⟩) z
          · exact q z.1
          · exact z.2 q.symm
      · rw [if_neg e]
        exact ⟨Or.inl, fun z => z.elim id (fun y => absurd y.2.1.symm e)⟩
    · rw [if_pos ((hb_z (by omega)).mpr hB)]
      exact ⟨Or.inl, fun z => z.elim id (fun y => absurd (hsel.mpr y.1) hB)⟩
  have h := it_or (R := fun t : Rw => ¬ B (t p) b) (n := s.1) (s := A 4) hstep
  unfold icT GX
  rw [hg p hp] at h
  constructor
  · intro q
    constructor
    · apply Classical.byContradiction; intro z; exact (h.mpr (Or.inl z)) q
    · rintro ⟨k, hk, q2⟩; exact (h.mpr (Or.inr ⟨k, hk, q2⟩)) q
  · rintro ⟨q1, q2⟩
    apply Classical.byContradiction
    intro z
    rcases h.mp z with r | r
    · exact r q1
    · exact q2 r
theorem TR_eq {x y x' y' : Rw} (h : TR x y) (h' : TR x' y') : (∀ d, d < 16 → x d = x' d) ↔ ∀ s, s < 16 → y s = y' s := by
  constructor
  · intro q s hs
    refine W16_ext (h.2.1 s hs) (h'.2.1 s hs) (fun d hd => ?_)
    rw [← h.2.2 s hs d hd, ← h'.2.2 s hs d hd, q d hd]
  · intro q d hd
    refine W16_ext (h.1 d hd) (h'.1 d hd) (fun s hs => ?_)
    rw [h.2.2 s hs d hd, h'.2.2 s hs d hd, q s hs]
theorem icE_iff {A : Nat → Nat → Int32} : ∀ k, k ≤ 16 → (icE A k = 0 ↔ ¬ ∀ d, 16 - k ≤ d → d < 16 → A 94 d = A 100 d)
  | 0, _ => ⟨fun q => absurd q (show ¬ (1 : Int32) = 0 by decide), fun q => absurd (fun d h1 h2 => absurd h1 (by omega)) q⟩
  | k + 1, hk => by
    have ih := icE_iff (A := A) k (by omega)
    unfold icE
    by_cases e : A 94 (15 - k) = A 100 (15 - k)
    · rw [if_pos e, ih]
      refine not_congr ⟨fun q d h1 h2 => ?_, fun q d h1 h2 => q d (by omega) h2⟩
      by_cases e2 : d = 15 - k
      · rw [e2]; exact e
      · exact q d (by omega) h2
    · rw [if_neg e]
      exact ⟨fun _ q => e (q _ (by omega) (by omega)), fun _ => rfl⟩
theorem wl_iff {lk sv : Rw} : ∀ k, it (wlS lk sv) k 1 = 0 ↔ ¬ ∀ s, s < k → lk s = sv s
  | 0 => ⟨fun q => absurd q (show ¬ (1 : Int32) = 0 by decide), fun q => absurd (fun d h1 => absurd h1 (by omega)) q⟩
  | k + 1 => by
    have ih := wl_iff (lk := lk) (sv := sv) k
    show wlS lk sv k (it (wlS lk sv) k 1) = 0 ↔ _
    generalize it (wlS lk sv) k 1 = z at ih ⊢
    unfold wlS
    by_cases h0 : z = 0
    · rw [if_pos h0]
      exact ⟨fun _ q => ih.mp h0 (fun s hs => q s (by omega)), fun _ => rfl⟩
    · rw [if_neg h0]
      have hall : ∀ s, s < k → lk s = sv s := by
        apply Classical.byContradiction; intro q; exact h0 (ih.mpr q)
      by_cases e : lk k = sv k
      · rw [if_pos e]
        refine ⟨fun q => absurd q (show ¬ (1 : Int32) = 0 by decide), fun q => absurd (fun s hs => ?_) q⟩
        by_cases e2 : s = k
        · rw [e2]; exact e
        · exact hall s (by omega)
      · rw [if_neg e]
        exact ⟨fun _ q => e (q k (by omega)), fun _ => rfl⟩
/-! ## what both keep -/
theorem keep_eq {A : Nat → Nat → Int32} {s : CdS} {ch : Nat} {r : Rw} (hc : s.1 ≤ 10) (hcd : ∀ i, i < s.1 → A 101 i = nI (s.2 i)) (hr : ∀ i, i < 0 → A 102 i = r i) :
    kpF A s.1 (nI ch) s.1 98 8 = nI (it (kpM s.2 (nI (rev s.1 ch))) s.1 (0, r)).1 ∧ (it (kpM s.2 (nI (rev s.1 ch))) s.1 (0, r)).1 ≤ s.1 ∧ (∀ i, i < (it (kpM s.2 (nI (rev s.1 ch))) s.1 (0, r)).1 → kpF A s.1 (nI ch) s.1 102 i = (it (kpM s.2 (nI (rev s.1 ch))) s.1 (0, r)).2 i) ∧ ∀ q, q ≠ 98 → q ≠ 102 → kpF A s.1 (nI ch) s.1 q = A q := by
  have key : (fun (m : Nat) (Z : Nat → Nat → Int32) (t : Nat × Rw) => Z 98 8 = nI t.1 ∧ t.1 ≤ m ∧ (∀ i, i < t.1 → Z 102 i = t.2 i) ∧ ∀ q, q ≠ 98 → q ≠ 102 → Z q = A q) s.1 (kpF A s.1 (nI ch) s.1) (it (kpM s.2 (nI (rev s.1 ch))) s.1 (0, r)) := by
    have hgo : ∀ m, m ≤ s.1 → (fun (m : Nat) (Z : Nat → Nat → Int32) (t : Nat × Rw) => Z 98 8 = nI t.1 ∧ t.1 ≤ m ∧ (∀ i, i < t.1 → Z 102 i = t.2 i) ∧ ∀ q, q ≠ 98 → q ≠ 102 → Z q = A q) m (kpF A s.1 (nI ch) m) (it (kpM s.2 (nI (rev s.1 ch))) m (0, r)) := by
      intro m
      induction m with
      | zero => intro _; exact ⟨by simp [kpF, it, up1, nI], Nat.le_refl _, fun i hi => absurd hi (Nat.not_lt_zero _), fun q h1 h2 => by funext j; simp [kpF, it, up1, h1]⟩
      | succ m ih =>
        intro hm
        obtain ⟨k1, k2, k3, k4⟩ := ih (by omega)
        show (fun (m : Nat) (Z : Nat → Nat → Int32) (t : Nat × Rw) => Z 98 8 = nI t.1 ∧ t.1 ≤ m ∧ (∀ i, i < t.1 → Z 102 i = t.2 i) ∧ ∀ q, q ≠ 98 → q ≠ 102 → Z q = A q) (m + 1) (kpS s.1 (nI ch) m (kpF A s.1 (nI ch) m)) (kpM s.2 (nI (rev s.1 ch)) m (it (kpM s.2 (nI (rev s.1 ch))) m (0, r)))
        generalize kpF A s.1 (nI ch) m = Z at k1 k3 k4 ⊢
        generalize it (kpM s.2 (nI (rev s.1 ch))) m (0, r) = t at k1 k2 k3 ⊢
        have hsel : B (nI ch) (s.1 - 1 - m) ↔ B (nI (rev s.1 ch)) m := by
          rw [B_nI (by omega), B_nI (by omega), rev_bit]; simp [show m < s.1 by omega]
        unfold kpS kpM
        by_cases hB : B (nI ch) (s.1 - 1 - m)
        · rw [if_neg (by rw [hb_z (by omega)]; exact fun q => q hB), if_neg (by rw [sh_z (by omega)]; exact fun q => q (hsel.mp hB))]
          have hcn : cn (Z 98 8) = t.1 := by rw [k1]; exact nI_clamp (by omega)
          have h101 : Z 101 m = nI (s.2 m) := by rw [k4 101 (by decide) (by decide)]; exact hcd m (by omega)
          rw [hcn, h101]
          refine ⟨by simp [up1], by show t.1 + 1 ≤ m + 1; omega, fun i hi => ?_, fun q h1 h2 => ?_⟩
          · have hi' : i < t.1 + 1 := hi
            simp only [upd]
            by_cases e : i = t.1
            · subst e; simp [up1]
            · rw [if_neg e, ← k3 i (by omega)]; simp [up1, e]
          · rw [← k4 q h1 h2]; funext j; simp [up1, h1, h2]
        · rw [if_pos ((hb_z (by omega)).mpr hB), if_pos ((sh_z (by omega)).mpr (fun q => hB (hsel.mpr q)))]
          exact ⟨k1, by omega, k3, k4⟩
    exact hgo s.1 (Nat.le_refl _)
  exact key
