/-! ## iterations -/
theorem it_ind {α : Type} {f : Nat → α → α} {a : α} {n : Nat} {Q : Nat → α → Prop} (h0 : Q 0 a) (hs : ∀ k b, k < n → Q k b → Q (k + 1) (f k b)) : Q n (it f n a) := by
  have : ∀ k, k ≤ n → Q k (it f k a) := by
    intro k
    induction k with
    | zero => intro _; exact h0
    | succ k ih => intro hk; exact hs k _ (by omega) (ih (by omega))
  exact this n (Nat.le_refl _)
theorem pit_inv {α : Type} {f : Nat → α → α} {a : α} {n : Nat} {Q : α → Prop} (h0 : Q a) (hs : ∀ k b, k < n → Q b → Q (f k b)) : Q (it f n a) :=
  it_ind (Q := fun _ => Q) h0 hs
theorem it_cg {α : Type} {f g : Nat → α → α} {a : α} : ∀ {n : Nat}, (∀ k b, k < n → f k b = g k b) → it f n a = it g n a
  | 0, _ => rfl
  | n + 1, h => by
    show f n (it f n a) = g n (it g n a)
    rw [it_cg (n := n) (fun k b hk => h k b (by omega)), h n _ (by omega)]
/-- related iterations -/
theorem it_rel {α β : Type} {f : Nat → α → α} {g : Nat → β → β} {a : α} {b : β} {n : Nat} {Q : α → β → Prop} (h0 : Q a b) (hs : ∀ k x y, k < n → Q x y → Q (f k x) (g k y)) : Q (it f n a) (it g n b) := by
  have : ∀ k, k ≤ n → Q (it f k a) (it g k b) := by
    intro k
    induction k with
    | zero => intro _; exact h0
    | succ k ih => intro hk; exact hs k _ _ (by omega) (ih (by omega))
  exact this n (Nat.le_refl _)
theorem wh_fix {α : Type} {q : α → α × Int32} (hq : ∀ a, (q a).2 = 0 → (q a).1 = a) : ∀ (F : Nat) (a : α), whE q F a → q (wh q F a) = (wh q F a, 0)
  | 0, _, h => h.elim
  | f + 1, a, h => by
    unfold wh
    by_cases h0 : (q a).2 = 0
    · rw [if_pos h0, hq a h0]
      exact Prod.ext (hq a h0) h0
    · rw [if_neg h0]
      exact wh_fix hq f _ (h.resolve_left h0)
theorem wh_inv {α : Type} {q : α → α × Int32} {Inv : α → Prop} (hs : ∀ b, Inv b → Inv (q b).1) : ∀ (F : Nat) (a : α), Inv a → Inv (wh q F a)
  | 0, _, h => h
  | f + 1, a, h => by
    unfold wh
    by_cases h0 : (q a).2 = 0
    · rw [if_pos h0]; exact hs a h
    · rw [if_neg h0]; exact wh_inv hs f _ (hs a h)
theorem whE_of {α : Type} {q : α → α × Int32} {Inv : α → Prop} {μ : α → Nat} (hs : ∀ b, Inv b → Inv (q b).1 ∧ ((q b).2 ≠ 0 → μ (q b).1 < μ b)) : ∀ (F : Nat) (a : α), Inv a → μ a < F → whE q F a
  | 0, _, _, h => absurd h (by omega)
  | f + 1, a, hi, h => by
    by_cases h0 : (q a).2 = 0
    · exact Or.inl h0
    · exact Or.inr (whE_of hs f _ (hs a hi).1 (by have := (hs a hi).2 h0; omega))
/-! ## growing sets below N are settled after N - 1 steps -/
noncomputable def cS (S : Nat → Prop) (N : Nat) : Nat := sm (fun a => by classical exact if S a then 1 else 0) N
theorem cS_le (S : Nat → Prop) (N : Nat) : cS S N ≤ N := by
  classical
  have := sm_le (f := fun a => if S a then 1 else 0) (b := 1) N (fun i _ => by show (if S i then 1 else 0) ≤ 1; split <;> omega)
  unfold cS; omega
theorem cS_lt {S T : Nat → Prop} {N : Nat} (h : ∀ a, S a → T a) (hx : ∃ a, a < N ∧ T a ∧ ¬ S a) : cS S N < cS T N := by
  unfold cS
  refine sm_lt N (fun i _ => ?_) ?_
  · by_cases h1 : S i
    · simp [h1, h i h1]
    · simp [h1]
  · obtain ⟨a, ha, h1, h2⟩ := hx
    exact ⟨a, ha, by simp [h1, h2]⟩
theorem cS_pos {S : Nat → Prop} {N : Nat} (hx : ∃ a, a < N ∧ S a) : 0 < cS S N := by
  obtain ⟨a, ha, h1⟩ := hx
  have := cS_lt (S := fun _ => False) (T := S) (N := N) (fun _ h => h.elim) ⟨a, ha, h1, fun h => h⟩
  omega
theorem stab {N : Nat} {S : Nat → Nat → Prop} (hN : ∀ k a, S k a → a < N) (hm : ∀ k a, S k a → S (k + 1) a) (hst : ∀ k, (∀ a, S (k + 1) a → S k a) → ∀ a, S (k + 2) a → S (k + 1) a) (h0 : ∃ a, S 0 a) : ∀ k a, S k a → S (N - 1) a := by
  have hle : ∀ j k a, S j a → S (j + k) a := by
    intro j k a h
    induction k with
    | zero => exact h
    | succ k ih => exact hm _ _ ih
  have hgrow : ∀ k, (∀ j, j < k → ¬ ∀ a, S (j + 1) a → S j a) → k + 1 ≤ cS (S k) N := by
    intro k
    induction k with
    | zero =>
      intro _
      obtain ⟨a, ha⟩ := h0
      exact cS_pos ⟨a, hN 0 a ha, ha⟩
    | succ k ih =>
      intro h
      have h1 := ih (fun j hj => h j (by omega))
      have h2 := h k (by omega)
      rw [Classical.not_forall] at h2
      obtain ⟨a, ha⟩ := h2
      rw [Classical.not_imp] at ha
      have := cS_lt (N := N) (hm k) ⟨a, hN _ _ ha.1, ha.1, ha.2⟩
      omega
  have hex : ∃ j, j < N ∧ ∀ a, S (j + 1) a → S j a := by
    apply Classical.byContradiction
    intro hno
    have := hgrow N (fun j hj hq => hno ⟨j, hj, hq⟩)
    have := cS_le (S N) N
    omega
  obtain ⟨j, hj, hs⟩ := hex
  have hstay : ∀ m, ∀ a, S (j + m + 1) a → S (j + m) a := by
    intro m
    induction m with
    | zero => exact hs
    | succ m ih => exact hst (j + m) ih
  have hback : ∀ m a, S (j + m) a → S j a := by
    intro m
    induction m with
    | zero => intro a h; exact h
    | succ m ih => intro a h; exact ih a (hstay m a h)
  intro k a h
  have hj1 : S j a := by
    by_cases hk : k ≤ j
    · have := hle k (j - k) a h
      rwa [show k + (j - k) = j by omega] at this
    · have : S (j + (k - j)) a := by rwa [show j + (k - j) = k by omega]
      exact hback _ a this
  have := hle j (N - 1 - j) a hj1
  rwa [show j + (N - 1 - j) = N - 1 by omega] at this
