/-! ## the class's links -/
abbrev L3 : Type := Nat × Nat × Nat
def frB (P : Pln) (p k nm : Nat) : Bool := (List.range (P.nu p k)).any (fun i => P.fr p k i == nm)
theorem frB_iff {P : Pln} {p k nm : Nat} : frB P p k nm = true ↔ ∃ i, i < P.nu p k ∧ P.fr p k i = nm := by
  simp [frB, List.any_eq_true]
def letL (P : Pln) (p k : Nat) : Nat → List L3
  | 0 => []
  | m + 1 => letL P p k m ++ (if frB P p k m then [(25 * p + m, 25 * p + P.fs p k, 100 * p + k)] else [])
def lnks (P : Pln) (p k : Nat) : List L3 :=
  if P.kd p k = 1 then letL P p k 8
  else if P.kd p k = 2 then [(25 * p + P.fs p k, 25 * P.nu p k + 0, 100 * p + k), (25 * P.nu p k + 8, 25 * p + P.sc p k, 100 * p + k)]
  else if P.kd p k = 3 then [(25 * p + P.fs p k, 25 * p + (9 + P.nu p k), 100 * p + k)]
  else if P.kd p k = 5 then [(25 * p + P.fs p k, 25 * p + 8, 100 * p + k)] else []
def llK (P : Pln) (p : Nat) : Nat → List L3
  | 0 => []
  | k + 1 => llK P p k ++ lnks P p k
noncomputable def llP (P : Pln) (n : Nat) : Nat → List L3
  | 0 => []
  | p + 1 => llP P n p ++ (by classical exact if Lv P n p then llK P p (P.ml p) else [])
theorem letL_mem {P : Pln} {p k : Nat} {x : L3} : ∀ {m : Nat}, x ∈ letL P p k m ↔ ∃ nm, nm < m ∧ frB P p k nm = true ∧ x = (25 * p + nm, 25 * p + P.fs p k, 100 * p + k)
  | 0 => by simp [letL]
  | m + 1 => by
    unfold letL
    rw [List.mem_append, letL_mem]
    constructor
    · rintro (⟨nm, h1, h2⟩ | h)
      · exact ⟨nm, by omega, h2⟩
      · by_cases e : frB P p k m = true
        · rw [if_pos e] at h
          exact ⟨m, by omega, e, by simpa using h⟩
        · rw [if_neg e] at h; cases h
    · rintro ⟨nm, h1, h2, h3⟩
      by_cases e : nm = m
      · subst e; right; rw [if_pos h2]; simp [h3]
      · left; exact ⟨nm, by omega, h2, h3⟩
theorem lnks_mem {P : Pln} {n p k : Nat} (hok : P.ok n) (hp : p < n) (hk : k < P.ml p) {a b st : Nat} : (a, b, st) ∈ lnks P p k ↔ st = 100 * p + k ∧ LkA P p k a b := by
  have hb := hok.2.2 p hp k hk
  unfold lnks LkA
  by_cases h1 : P.kd p k = 1
  · rw [if_pos h1, letL_mem]
    constructor
    · rintro ⟨nm, h2, h3, h4⟩
      obtain ⟨i, hi, e⟩ := frB_iff.mp h3
      simp only [Prod.mk.injEq] at h4
      exact ⟨h4.2.2, Or.inl ⟨h1, ⟨i, hi, by rw [e]; exact h4.1⟩, h4.2.1⟩⟩
    · rintro ⟨h2, h3⟩
      rcases h3 with ⟨_, ⟨i, hi, e⟩, e2⟩ | ⟨c, _⟩ | ⟨c, _⟩ | ⟨c, _⟩ | ⟨c, _⟩
      · exact ⟨P.fr p k i, (hb.2.2.2.2 h1).2 i hi, frB_iff.mpr ⟨i, hi, rfl⟩, by simp [e, e2, h2]⟩
      all_goals omega
  · rw [if_neg h1]
    by_cases h2 : P.kd p k = 2
    · rw [if_pos h2]
      simp only [List.mem_cons, Prod.mk.injEq, List.not_mem_nil, or_false]
      constructor
      · rintro (⟨x, y, z⟩ | ⟨x, y, z⟩)
        · exact ⟨z, Or.inr (Or.inl ⟨h2, x, y⟩)⟩
        · exact ⟨z, Or.inr (Or.inr (Or.inl ⟨h2, x, y⟩))⟩
      · rintro ⟨z, ⟨c, _⟩ | ⟨_, x, y⟩ | ⟨_, x, y⟩ | ⟨c, _⟩ | ⟨c, _⟩⟩
        · omega
        · exact Or.inl ⟨x, y, z⟩
        · exact Or.inr ⟨x, y, z⟩
        · omega
        · omega
    · rw [if_neg h2]
      by_cases h3 : P.kd p k = 3
      · rw [if_pos h3]
        simp only [List.mem_cons, Prod.mk.injEq, List.not_mem_nil, or_false]
        constructor
        · rintro ⟨x, y, z⟩
          exact ⟨z, Or.inr (Or.inr (Or.inr (Or.inl ⟨h3, x, y⟩)))⟩
        · rintro ⟨z, ⟨c, _⟩ | ⟨c, _⟩ | ⟨c, _⟩ | ⟨_, x, y⟩ | ⟨c, _⟩⟩
          · omega
          · omega
          · omega
          · exact ⟨x, y, z⟩
          · omega
      · rw [if_neg h3]
        by_cases h5 : P.kd p k = 5
        · rw [if_pos h5]
          simp only [List.mem_cons, Prod.mk.injEq, List.not_mem_nil, or_false]
          constructor
          · rintro ⟨x, y, z⟩
            exact ⟨z, Or.inr (Or.inr (Or.inr (Or.inr ⟨h5, x, y⟩)))⟩
          · rintro ⟨z, ⟨c, _⟩ | ⟨c, _⟩ | ⟨c, _⟩ | ⟨c, _⟩ | ⟨_, x, y⟩⟩
            · omega
            · omega
            · omega
            · omega
            · exact ⟨x, y, z⟩
        · rw [if_neg h5]
          constructor
          · intro h; cases h
          · rintro ⟨z, ⟨c, _⟩ | ⟨c, _⟩ | ⟨c, _⟩ | ⟨c, _⟩ | ⟨c, _⟩⟩ <;> omega
theorem letL_len {P : Pln} {p k : Nat} : ∀ m, (letL P p k m).length = sm (fun nm => if frB P p k nm then 1 else 0) m
  | 0 => rfl
  | m + 1 => by
    unfold letL
    rw [List.length_append, letL_len m]
    simp only [sm]
    split <;> simp
theorem sm_one {c : Nat} : ∀ m, sm (fun nm => if c = nm then 1 else 0) m = if c < m then 1 else 0
  | 0 => rfl
  | m + 1 => by
    simp only [sm, sm_one m]
    by_cases e : c = m
    · subst e; simp
    · simp only [e, if_false]
      by_cases h : c < m
      · rw [if_pos h, if_pos (by omega)]
      · rw [if_neg h, if_neg (by omega)]
theorem frB_le {P : Pln} {p k : Nat} (nm : Nat) : (if frB P p k nm then 1 else 0) ≤ sm (fun i => if P.fr p k i = nm then 1 else 0) (P.nu p k) := by
  by_cases h : frB P p k nm = true
  · rw [if_pos h]
    obtain ⟨i, hi, e⟩ := frB_iff.mp h
    have := sm_lt (f := fun _ => 0) (g := fun i => if P.fr p k i = nm then 1 else 0) (P.nu p k) (fun _ _ => Nat.zero_le _) ⟨i, hi, by simp [e]⟩
    rw [sm_0] at this
    omega
  · rw [if_neg h]; exact Nat.zero_le _
theorem letL_4 {P : Pln} {p k : Nat} (m : Nat) : (letL P p k m).length ≤ P.nu p k := by
  rw [letL_len]
  refine Nat.le_trans (sm_mono m (fun nm _ => frB_le nm)) ?_
  rw [sm_swap (fun nm i => if P.fr p k i = nm then 1 else 0) (P.nu p k) m]
  have := sm_le (f := fun j => sm (fun i => if P.fr p k j = i then 1 else 0) m) (b := 1) (P.nu p k) (fun j _ => by
    show sm (fun i => if P.fr p k j = i then 1 else 0) m ≤ 1
    rw [sm_one]; split <;> omega)
  omega
theorem lnks_len {P : Pln} {n p k : Nat} (hok : P.ok n) (hp : p < n) (hk : k < P.ml p) : (lnks P p k).length ≤ 4 := by
  have hb := hok.2.2 p hp k hk
  unfold lnks
  split
  · rename_i h; have := (hb.2.2.2.2 h).1; have := letL_4 (P := P) (p := p) (k := k) 8; omega
  · split
    · simp
    · split
      · simp
      · split <;> simp
theorem llK_len {P : Pln} {n p : Nat} (hok : P.ok n) (hp : p < n) : ∀ m, m ≤ P.ml p → (llK P p m).length ≤ 4 * m
  | 0, _ => by simp [llK]
  | m + 1, h => by
    have h1 := llK_len hok hp m (by omega)
    have h2 := lnks_len hok hp (show m < P.ml p by omega)
    simp only [llK, List.length_append]; omega
theorem llP_len {P : Pln} {n : Nat} (hok : P.ok n) : ∀ m, m ≤ n → (llP P n m).length ≤ 48 * m
  | 0, _ => by simp [llP]
  | m + 1, h => by
    have h1 := llP_len hok m (by omega)
    have h2 := llK_len hok (show m < n by omega) (P.ml m) (Nat.le_refl _)
    have h3 := hok.2.1 m
    simp only [llP, List.length_append]
    split
    · omega
    · simp; omega
theorem llK_mem {P : Pln} {p : Nat} {x : L3} : ∀ {m : Nat}, x ∈ llK P p m ↔ ∃ k, k < m ∧ x ∈ lnks P p k
  | 0 => by simp [llK]
  | m + 1 => by
    unfold llK
    rw [List.mem_append, llK_mem]
    constructor
    · rintro (⟨k, h1, h2⟩ | h)
      · exact ⟨k, by omega, h2⟩
      · exact ⟨m, by omega, h⟩
    · rintro ⟨k, h1, h2⟩
      by_cases e : k = m
      · subst e; exact Or.inr h2
      · exact Or.inl ⟨k, by omega, h2⟩
theorem llP_mem {P : Pln} {n : Nat} {x : L3} : ∀ {m : Nat}, x ∈ llP P n m ↔ ∃ p, p < m ∧ Lv P n p ∧ x ∈ llK P p (P.ml p)
  | 0 => by simp [llP]
  | m + 1 => by
    unfold llP
    rw [List.mem_append, llP_mem]
    constructor
    · rintro (⟨k, h1, h2⟩ | h)
      · exact ⟨k, by omega, h2⟩
      · by_cases e : Lv P n m
        · rw [if_pos e] at h; exact ⟨m, by omega, e, h⟩
        · rw [if_neg e] at h; cases h
    · rintro ⟨k, h1, h2, h3⟩
      by_cases e : k = m
      · subst e; right; rw [if_pos h2]; exact h3
      · exact Or.inl ⟨k, by omega, h2, h3⟩
theorem LL_mem {P : Pln} {n : Nat} (hok : P.ok n) {a b : Nat} : (∃ st, (a, b, st) ∈ llP P n n) ↔ Lk P n a b := by
  constructor
  · rintro ⟨st, h⟩
    obtain ⟨p, hp, hL, h⟩ := llP_mem.mp h
    obtain ⟨k, hk, h⟩ := llK_mem.mp h
    exact ⟨p, k, hL, hk, ((lnks_mem hok hp hk).mp h).2⟩
  · rintro ⟨p, k, hL, hk, h⟩
    have hp := Lv_lt hok hL
    exact ⟨100 * p + k, llP_mem.mpr ⟨p, hp, hL, llK_mem.mpr ⟨k, hk, (lnks_mem hok hp hk).mpr ⟨rfl, h⟩⟩⟩⟩
theorem LkA_lt {P : Pln} {n p k a b : Nat} (hok : P.ok n) (hp : p < n) (hk : k < P.ml p) (h : LkA P p k a b) : a < 250 ∧ b < 250 := by
  have hb := hok.2.2 p hp k hk
  have h10 := hok.1
  rcases h with ⟨h1, ⟨i, hi, rfl⟩, rfl⟩ | ⟨h2, rfl, rfl⟩ | ⟨h2, rfl, rfl⟩ | ⟨h3, rfl, rfl⟩ | ⟨h5, rfl, rfl⟩
  · have := (hb.2.2.2.2 h1).2 i hi; omega
  · have := hb.2.2.2.1 h2; omega
  · have := hb.2.2.2.1 h2; omega
  · omega
  · omega
theorem Lk_lt {P : Pln} {n a b : Nat} (hok : P.ok n) (h : Lk P n a b) : a < 250 ∧ b < 250 := by
  obtain ⟨p, k, hL, hk, h⟩ := h
  exact LkA_lt hok (Lv_lt hok hL) hk h
/-! ## the links in the memory -/
def LkOf (A : Nat → Nat → Int32) (L : List L3) : Prop := A 73 9 = nI L.length ∧ ∀ (i : Nat) (x : L3), L[i]? = some x → A 78 i = nI x.1 ∧ A 79 i = nI x.2.1 ∧ A 80 i = nI x.2.2
theorem plkN_off {A : Nat → Nat → Int32} {a b s : Int32} {q : Nat} (h : q ≠ 73 ∧ q ≠ 78 ∧ q ≠ 79 ∧ q ≠ 80) : lkN A a b s q = A q := by
  unfold lkN
  split
  · funext j; simp [up1, h]
  · rfl
theorem lkN_10 {A : Nat → Nat → Int32} {a b s : Int32} : lkN A a b s 73 10 = A 73 10 := by
  unfold lkN
  split
  · simp [up1]
  · rfl
theorem lkN_L {A : Nat → Nat → Int32} {a b s : Nat} {L : List L3} (h : LkOf A L) (hl : L.length < 480) : LkOf (lkN A (nI a) (nI b) (nI s)) (L ++ [(a, b, s)]) := by
  obtain ⟨h1, h2⟩ := h
  have hc : cn (A 73 9) = L.length := by rw [h1]; exact nI_clamp (by omega)
  unfold lkN
  rw [if_pos (by rw [h1]; exact (nI_ltI (b := 480) (by omega) (by decide)).mpr hl), hc]
  refine ⟨by simp [up1], fun i x hx => ?_⟩
  by_cases hi : i < L.length
  · rw [List.getElem?_append_left hi] at hx
    obtain ⟨g1, g2, g3⟩ := h2 i x hx
    have hne : i ≠ L.length := by omega
    exact ⟨by simpa [up1, hne] using g1, by simpa [up1, hne] using g2, by simpa [up1, hne] using g3⟩
  · have hi2 : i = L.length := by
      have := (List.getElem?_eq_some_iff.mp hx).1
      simp at this; omega
    subst hi2
    simp at hx
    subst hx
    simp [up1]
theorem LkOf_cg {A A' : Nat → Nat → Int32} {L : List L3} (h : LkOf A L) (h0 : A' 73 9 = A 73 9) (h1 : A' 78 = A 78) (h2 : A' 79 = A 79) (h3 : A' 80 = A 80) : LkOf A' L := by
  unfold LkOf; rw [h0, h1, h2, h3]; exact h
theorem up1_ne {A : Nat → Nat → Int32} {o k : Nat} {x : Int32} {q j : Nat} (h : q ≠ o) : up1 A o k x q j = A q j := by simp [up1, h]
theorem up1_nf {A : Nat → Nat → Int32} {o k : Nat} {x : Int32} {q : Nat} (h : q ≠ o) : up1 A o k x q = A q := by funext j; exact up1_ne h
theorem nt_let {P : Pln} {p k : Nat} {I : Nat → Nat → Int32} {src : Int32} (hs : ∀ s, s < 32 → (B src s ↔ ∃ i, i < P.nu p k ∧ P.fr p k i = s)) : ∀ (m : Nat), m ≤ 8 → ∀ {A : Nat → Nat → Int32} {L : List L3}, LkOf A L → L.length + P.nu p k ≤ 480 → LkOf (it (ntl I p k (P.fs p k) src) m A) (L ++ letL P p k m)
  | 0, _, A, L, h, _ => by simpa [it, letL] using h
  | m + 1, hm, A, L, h, hl => by
    have ih := nt_let (I := I) hs m (by omega) h hl
    show LkOf (ntl I p k (P.fs p k) src m (it (ntl I p k (P.fs p k) src) m A)) _
    generalize it (ntl I p k (P.fs p k) src) m A = Z at ih ⊢
    unfold ntl letL
    rw [← List.append_assoc]
    by_cases hB : B src m
    · rw [if_neg (by rw [hb_z (by omega)]; exact fun q => q hB), if_pos (frB_iff.mpr ((hs m (by omega)).mp hB))]
      refine lkN_L ih ?_
      have h4 := letL_4 (P := P) (p := p) (k := k) (m + 1)
      rw [letL, List.length_append, if_pos (frB_iff.mpr ((hs m (by omega)).mp hB))] at h4
      simp at h4 ⊢
      omega
    · rw [if_pos ((hb_z (by omega)).mpr hB), if_neg (fun q => hB ((hs m (by omega)).mpr (frB_iff.mp q))), List.append_nil]
      exact ih
theorem pntl_off {I A : Nat → Nat → Int32} {p k f : Nat} {src : Int32} {q : Nat} (h : q ≠ 73 ∧ q ≠ 78 ∧ q ≠ 79 ∧ q ≠ 80) (m : Nat) : it (ntl I p k f src) m A q = A q := by
  refine pit_inv (Q := fun Z : Nat → Nat → Int32 => Z q = A q) rfl (fun nm Z _ hZ => ?_)
  unfold ntl
  split
  · exact hZ
  · rw [plkN_off h]; exact hZ
theorem ntl_10 {I A : Nat → Nat → Int32} {p k f : Nat} {src : Int32} (m : Nat) : it (ntl I p k f src) m A 73 10 = A 73 10 := by
  refine pit_inv (Q := fun Z : Nat → Nat → Int32 => Z 73 10 = A 73 10) rfl (fun nm Z _ hZ => ?_)
  unfold ntl
  split
  · exact hZ
  · rw [lkN_10]; exact hZ
theorem ntS_eq {I A : Nat → Nat → Int32} {n : Nat} {P : Pln} (h : shP I n P) {p k : Nat} (hp : p < n) (hk : k < P.ml p) : ntS I p k A = ntF A p k (P.kd p k) (P.nu p k) (P.fs p k) (cn (I (6 + 6 * p + 1 + 3) k)) (I (6 + 6 * p + 1 + 4) k) ∧ (P.kd p k = 2 → cn (I (6 + 6 * p + 1 + 3) k) = P.sc p k) := by
  obtain ⟨hok, -, -, -, hl⟩ := h
  have hL := hl p hp k hk
  have hb := hok.2.2 p hp k hk
  unfold ntS
  rw [hL.1, hL.2.1, hL.2.2.1]
  rw [show cn (nI (P.kd p k)) = P.kd p k from nI_clamp (by omega), show cn (nI (P.nu p k)) = P.nu p k from nI_clamp (by omega), show cn (nI (P.fs p k)) = P.fs p k from nI_clamp (by omega)]
  refine ⟨rfl, fun h2 => ?_⟩
  rw [hL.2.2.2.1 h2]
  exact nI_clamp (by have := hb.2.2.2.1 h2; omega)
theorem ntS_L {I A : Nat → Nat → Int32} {n : Nat} {P : Pln} (h : shP I n P) {p k : Nat} (hp : p < n) (hk : k < P.ml p) {L : List L3} (hL : LkOf A L) (hl : L.length + 4 ≤ 480) : LkOf (ntS I p k A) (L ++ lnks P p k) := by
  obtain ⟨e1, e2⟩ := ntS_eq (A := A) h hp hk
  have hb := h.1.2.2 p hp k hk
  rw [e1]
  unfold ntF lnks
  by_cases h0 : P.kd p k = 0
  · simp only [h0, if_true]
    simp only [show ¬ (0 : Nat) = 1 by decide, show ¬ (0 : Nat) = 2 by decide, show ¬ (0 : Nat) = 3 by decide, show ¬ (0 : Nat) = 5 by decide, if_false, List.append_nil]
    exact LkOf_cg hL (up1_ne (by decide)) (up1_nf (by decide)) (up1_nf (by decide)) (up1_nf (by decide))
  · rw [if_neg h0]
    by_cases h1 : P.kd p k = 1
    · rw [if_pos h1, if_pos h1]
      exact nt_let ((h.2.2.2.2 p hp k hk).2.2.2.2 h1) 8 (Nat.le_refl _) hL (by have := (hb.2.2.2.2 h1).1; omega)
    · rw [if_neg h1, if_neg h1]
      by_cases h2 : P.kd p k = 2
      · rw [if_pos h2, if_pos h2, e2 h2]
        have := lkN_L (lkN_L (a := 25 * p + P.fs p k) (b := 25 * P.nu p k + 0) (s := 100 * p + k) hL (by omega)) (a := 25 * P.nu p k + 8) (b := 25 * p + P.sc p k) (s := 100 * p + k) (by simp; omega)
        simpa [List.append_assoc] using this
      · rw [if_neg h2, if_neg h2]
        by_cases h3 : P.kd p k = 3
        · rw [if_pos h3, if_pos h3]
          exact lkN_L (LkOf_cg hL (up1_ne (by decide)) (up1_nf (by decide)) (up1_nf (by decide)) (up1_nf (by decide))) (by omega)
        · rw [if_neg h3, if_neg h3]
          by_cases h4 : P.kd p k = 4
          · rw [if_pos h4, if_neg (by omega), List.append_nil]
            exact LkOf_cg hL (up1_ne (by decide)) (up1_nf (by decide)) (up1_nf (by decide)) (up1_nf (by decide))
          · rw [if_neg h4, if_pos (show P.kd p k = 5 by omega)]
            exact lkN_L hL (by omega)
theorem orB_B {x : Int32} {a b : Nat} (ha : a < 32) (hb : b < 32) : B (orB x a) b ↔ B x b ∨ a = b := by
  unfold orB; rw [B_or, bt_nI, B_bt ha hb]; constructor
  · rintro (h | h)
    · exact Or.inl h
    · exact Or.inr h.symm
  · rintro (h | h)
    · exact Or.inl h
    · exact Or.inr h.symm
/-- how a note changes rows 75, 76, 77, and what it leaves -/
theorem ntS_75 {I A : Nat → Nat → Int32} {n : Nat} {P : Pln} (h : shP I n P) {p k : Nat} (hp : p < n) (hk : k < P.ml p) {j b : Nat} (hb32 : b < 32) :
    (B (ntS I p k A 75 j) b ↔ B (A 75 j) b ∨ (P.kd p k = 0 ∧ j = p ∧ P.nu p k = b)) ∧ (B (ntS I p k A 76 j) b ↔ B (A 76 j) b ∨ (P.kd p k = 3 ∧ j = p ∧ P.nu p k = b)) ∧ (B (ntS I p k A 77 j) b ↔ B (A 77 j) b ∨ (P.kd p k = 4 ∧ j = 25 * p + P.fs p k ∧ P.nu p k = b)) ∧ ntS I p k A 73 10 = A 73 10 ∧ ∀ q, q < 73 ∨ q = 74 ∨ 80 < q → ntS I p k A q = A q := by
  obtain ⟨e1, e2⟩ := ntS_eq (A := A) h hp hk
  have hb := h.1.2.2 p hp k hk
  rw [e1]
  unfold ntF
  by_cases h0 : P.kd p k = 0
  · rw [if_pos h0]
    refine ⟨?_, ?_, ?_, up1_ne (by decide), fun q hq => up1_nf (by omega)⟩
    · simp only [up1, true_and]
      by_cases e : j = p
      · subst e; rw [if_pos rfl, orB_B (by omega) hb32]; simp [h0]
      · rw [if_neg e]; simp [e]
    · rw [up1_nf (by decide)]; simp [h0]
    · rw [up1_nf (by decide)]; simp [h0]
  · rw [if_neg h0]
    by_cases h1 : P.kd p k = 1
    · rw [if_pos h1]
      refine ⟨?_, ?_, ?_, ntl_10 8, fun q hq => pntl_off (by omega) 8⟩
      · rw [pntl_off (by decide)]; simp [h1]
      · rw [pntl_off (by decide)]; simp [h1]
      · rw [pntl_off (by decide)]; simp [h1]
    · rw [if_neg h1]
      by_cases h2 : P.kd p k = 2
      · rw [if_pos h2]
        refine ⟨?_, ?_, ?_, by rw [lkN_10, lkN_10], fun q hq => by rw [plkN_off (by omega), plkN_off (by omega)]⟩
        · rw [plkN_off (by decide), plkN_off (by decide)]; simp [h2]
        · rw [plkN_off (by decide), plkN_off (by decide)]; simp [h2]
        · rw [plkN_off (by decide), plkN_off (by decide)]; simp [h2]
      · rw [if_neg h2]
        by_cases h3 : P.kd p k = 3
        · rw [if_pos h3]
          refine ⟨?_, ?_, ?_, by rw [lkN_10, up1_ne (by decide)], fun q hq => by rw [plkN_off (by omega), up1_nf (by omega)]⟩
          · rw [plkN_off (by decide), up1_nf (by decide)]; simp [h3]
          · rw [plkN_off (by decide)]
            simp only [up1, true_and]
            by_cases e : j = p
            · subst e; rw [if_pos rfl, orB_B (by omega) hb32]; simp [h3]
            · rw [if_neg e]; simp [e]
          · rw [plkN_off (by decide), up1_nf (by decide)]; simp [h3]
        · rw [if_neg h3]
          by_cases h4 : P.kd p k = 4
          · rw [if_pos h4]
            refine ⟨?_, ?_, ?_, up1_ne (by decide), fun q hq => up1_nf (by omega)⟩
            · rw [up1_nf (by decide)]; simp [h4]
            · rw [up1_nf (by decide)]; simp [h4]
            · simp only [up1, true_and]
              by_cases e : j = 25 * p + P.fs p k
              · rw [if_pos e, orB_B (by omega) hb32, e]; simp [h4]
              · rw [if_neg e]; simp [e]
          · rw [if_neg h4]
            refine ⟨?_, ?_, ?_, lkN_10, fun q hq => plkN_off (by omega)⟩
            · rw [plkN_off (by decide)]; simp [h0]
            · rw [plkN_off (by decide)]; simp [h3]
            · rw [plkN_off (by decide)]; simp [h4]
