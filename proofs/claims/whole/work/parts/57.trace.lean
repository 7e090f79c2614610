/-! ## after all notes -/
def NtR (P : Pln) (n kd m : Nat) (E : Nat → Nat → Nat → Prop) (j b : Nat) : Prop := ∃ p, p < m ∧ Lv P n p ∧ ∃ k, k < P.ml p ∧ P.kd p k = kd ∧ E p k j ∧ P.nu p k = b
def NtI (I : Nat → Nat → Int32) (n : Nat) (P : Pln) (Z : Nat → Nat → Int32) (m : Nat) (A : Nat → Nat → Int32) : Prop :=
  A 73 10 = Z 73 10 ∧ (∀ q, q < 73 ∨ q = 74 ∨ 80 < q → A q = Z q) ∧ LkOf A (llP P n m) ∧
  ∀ j b, b < 32 → (B (A 75 j) b ↔ B (Z 75 j) b ∨ NtR P n 0 m (fun p _ j => j = p) j b) ∧ (B (A 76 j) b ↔ B (Z 76 j) b ∨ NtR P n 3 m (fun p _ j => j = p) j b) ∧ (B (A 77 j) b ↔ B (Z 77 j) b ∨ NtR P n 4 m (fun p k j => j = 25 * p + P.fs p k) j b)
theorem NtR_succ {P : Pln} {n kd m : Nat} {E : Nat → Nat → Nat → Prop} {j b : Nat} : NtR P n kd (m + 1) E j b ↔ NtR P n kd m E j b ∨ (Lv P n m ∧ ∃ k, k < P.ml m ∧ P.kd m k = kd ∧ E m k j ∧ P.nu m k = b) := by
  unfold NtR
  constructor
  · rintro ⟨p, hp, h⟩
    by_cases e : p = m
    · subst e; exact Or.inr h
    · exact Or.inl ⟨p, by omega, h⟩
  · rintro (⟨p, hp, h⟩ | h)
    · exact ⟨p, by omega, h⟩
    · exact ⟨m, by omega, h⟩
theorem NtI_all {I : Nat → Nat → Int32} {n : Nat} {P : Pln} (h : shP I n P) {Z : Nat → Nat → Int32} (hZ : ∀ p, p < 32 → (B (Z 73 10) p ↔ Lv P n p)) (hL : LkOf Z []) : NtI I n P Z n (it (trP I P.ml) n Z) := by
  have hok := h.1
  have h10 := hok.1
  refine it_ind (Q := NtI I n P Z) ⟨rfl, fun _ _ => rfl, hL, fun j b _ => ⟨?_, ?_, ?_⟩⟩ (fun p A hp hA => ?_)
  · simp [NtR]
  · simp [NtR]
  · simp [NtR]
  · obtain ⟨a1, a2, a3, a4⟩ := hA
    have hlive : hb (A 73 10) (nI p) = 0 ↔ ¬ Lv P n p := by rw [hb_z (by omega), a1, hZ p (by omega)]
    unfold trP
    by_cases hv : Lv P n p
    · rw [if_neg (fun q => hlive.mp q hv)]
      have hin : (fun (m : Nat) (C : Nat → Nat → Int32) => m ≤ P.ml p → C 73 10 = Z 73 10 ∧ (∀ q, q < 73 ∨ q = 74 ∨ 80 < q → C q = Z q) ∧ LkOf C (llP P n p ++ llK P p m) ∧
          ∀ j b, b < 32 → (B (C 75 j) b ↔ B (A 75 j) b ∨ ∃ k, k < m ∧ P.kd p k = 0 ∧ j = p ∧ P.nu p k = b) ∧ (B (C 76 j) b ↔ B (A 76 j) b ∨ ∃ k, k < m ∧ P.kd p k = 3 ∧ j = p ∧ P.nu p k = b) ∧ (B (C 77 j) b ↔ B (A 77 j) b ∨ ∃ k, k < m ∧ P.kd p k = 4 ∧ j = 25 * p + P.fs p k ∧ P.nu p k = b)) (P.ml p) (it (ntS I p) (P.ml p) A) := by
        refine it_ind (Q := fun (m : Nat) (C : Nat → Nat → Int32) => m ≤ P.ml p → C 73 10 = Z 73 10 ∧ (∀ q, q < 73 ∨ q = 74 ∨ 80 < q → C q = Z q) ∧ LkOf C (llP P n p ++ llK P p m) ∧
          ∀ j b, b < 32 → (B (C 75 j) b ↔ B (A 75 j) b ∨ ∃ k, k < m ∧ P.kd p k = 0 ∧ j = p ∧ P.nu p k = b) ∧ (B (C 76 j) b ↔ B (A 76 j) b ∨ ∃ k, k < m ∧ P.kd p k = 3 ∧ j = p ∧ P.nu p k = b) ∧ (B (C 77 j) b ↔ B (A 77 j) b ∨ ∃ k, k < m ∧ P.kd p k = 4 ∧ j = 25 * p + P.fs p k ∧ P.nu p k = b)) ?_ (fun k C hk hC => ?_)
        · intro _
          refine ⟨a1, a2, by simpa [llK] using a3, fun j b _ => ⟨?_, ?_, ?_⟩⟩ <;> simp
        · intro hk'
          obtain ⟨c1, c2, c3, c4⟩ := hC (by omega)
          have hlen1 := llP_len hok p (by omega)
          have hlen2 := llK_len hok hp k (by omega)
          have h12 := hok.2.1 p
          refine ⟨?_, fun q hq => ?_, ?_, fun j b hb => ?_⟩
          · rw [(ntS_75 (A := C) h hp hk (j := 0) (b := 0) (by decide)).2.2.2.1]; exact c1
          · rw [(ntS_75 (A := C) h hp hk (j := 0) (b := 0) (by decide)).2.2.2.2 q hq]; exact c2 q hq
          · have := ntS_L h hp hk c3 (by rw [List.length_append]; omega)
            rw [List.append_assoc] at this
            exact this
          · obtain ⟨g1, g2, g3, -, -⟩ := ntS_75 (A := C) h hp hk (j := j) hb
            obtain ⟨d1, d2, d3⟩ := c4 j b hb
            have hsucc : ∀ (kd : Nat) (E : Nat → Prop), ((∃ k', k' < k ∧ P.kd p k' = kd ∧ E k' ∧ P.nu p k' = b) ∨ (P.kd p k = kd ∧ E k ∧ P.nu p k = b)) ↔ ∃ k', k' < k + 1 ∧ P.kd p k' = kd ∧ E k' ∧ P.nu p k' = b := by
              intro kd E
              constructor
              · rintro (⟨k', q1, q2⟩ | q)
                · exact ⟨k', by omega, q2⟩
                · exact ⟨k, by omega, q⟩
              · rintro ⟨k', q1, q2⟩
                by_cases e : k' = k
                · subst e; exact Or.inr q2
                · exact Or.inl ⟨k', by omega, q2⟩
            refine ⟨?_, ?_, ?_⟩
            · rw [g1, d1, or_assoc, hsucc 0 (fun _ => j = p)]
            · rw [g2, d2, or_assoc, hsucc 3 (fun _ => j = p)]
            · rw [g3, d3, or_assoc, hsucc 4 (fun k => j = 25 * p + P.fs p k)]
      obtain ⟨b1, b2, b3, b4⟩ := hin (Nat.le_refl _)
      refine ⟨b1, b2, ?_, fun j b hb => ?_⟩
      · rw [llP, if_pos hv]; exact b3
      · obtain ⟨d1, d2, d3⟩ := b4 j b hb
        obtain ⟨f1, f2, f3⟩ := a4 j b hb
        refine ⟨?_, ?_, ?_⟩
        · rw [d1, f1, NtR_succ, or_assoc]; simp [hv]
        · rw [d2, f2, NtR_succ, or_assoc]; simp [hv]
        · rw [d3, f3, NtR_succ, or_assoc]; simp [hv]
    · rw [if_pos (hlive.mpr hv)]
      refine ⟨a1, a2, ?_, fun j b hb => ?_⟩
      · rw [llP, if_neg hv, List.append_nil]; exact a3
      · obtain ⟨f1, f2, f3⟩ := a4 j b hb
        refine ⟨?_, ?_, ?_⟩
        · rw [f1, NtR_succ]; simp [hv]
        · rw [f2, NtR_succ]; simp [hv]
        · rw [f3, NtR_succ]; simp [hv]
/-- the class's notes stand for the plan -/
def Nf (I : Nat → Nat → Int32) (n : Nat) (P : Pln) : Prop :=
  (∀ p, p < 32 → (B (I 73 10) p ↔ Lv P n p)) ∧ (∀ p, p < 10 → ∀ q, q < 32 → (B (I 74 p) q ↔ AR P n p q)) ∧
  (∀ p, p < 10 → ∀ b, b < 32 → (B (I 75 p) b ↔ Lv P n p ∧ ∃ k, k < P.ml p ∧ P.kd p k = 0 ∧ P.nu p k = b)) ∧
  (∀ p, p < 10 → ∀ b, b < 32 → (B (I 76 p) b ↔ Lv P n p ∧ ∃ k, k < P.ml p ∧ P.kd p k = 3 ∧ P.nu p k = b)) ∧
  (∀ pl, pl < 250 → ∀ b, b < 32 → (B (I 77 pl) b ↔ Wsh P n pl b)) ∧ LkOf I (llP P n n)
def Fr (I : Nat → Nat → Int32) (n : Nat) (P : Pln) : Prop := Nf I n P ∧ ∀ o, o < n → ∀ pl, pl < 250 → ∀ b, b < 32 → (B (I (82 + o) pl) b ↔ Rc P n o b pl)
theorem Nf_trN {I : Nat → Nat → Int32} {n : Nat} {P : Pln} (h : shP I n P) : Nf (trN I n P.ml n) n P ∧ ∀ q, q < 73 ∨ 80 < q → trN I n P.ml n q = I q := by
  have hok := h.1
  have h10 := hok.1
  have e73 : trA I n P.ml 73 10 = if n = 0 then 0 else 1 ||| bel I P.ml 0 := by simp [trA, flRow, up1, fLive]
  have hL0 : LkOf (trA I n P.ml) [] := ⟨by simp [trA, flRow, up1, nI], fun i x hx => by simp at hx⟩
  obtain ⟨a1, a2, a3, a4⟩ := NtI_all h (Z := trA I n P.ml) (fun p hp => by rw [e73]; exact live_iff h hp) hL0
  have h75 : ∀ j, j < 10 → trA I n P.ml 75 j = 0 := fun j hj => by simp [trA, flRow, hj]
  have h76 : ∀ j, j < 10 → trA I n P.ml 76 j = 0 := fun j hj => by simp [trA, flRow, hj]
  have h77 : ∀ j, j < 250 → trA I n P.ml 77 j = 0 := fun j hj => by simp [trA, flRow, hj]
  refine ⟨⟨fun p hp => ?_, fun p hp q hq => ?_, fun p hp b hb => ?_, fun p hp b hb => ?_, fun pl hpl b hb => ?_, a3⟩, fun q hq => ?_⟩
  · show B (it (trP I P.ml) n (trA I n P.ml) 73 10) p ↔ _
    rw [a1, e73]; exact live_iff h hp
  · show B (it (trP I P.ml) n (trA I n P.ml) 74 p) q ↔ _
    rw [a2 74 (by decide), show trA I n P.ml 74 p = bel I P.ml p by simp [trA, flRow, up1, fLive, stRow, hp]]
    exact bel_iff h hp hq
  · show B (it (trP I P.ml) n (trA I n P.ml) 75 p) b ↔ _
    rw [(a4 p b hb).1, h75 p hp]
    simp only [B_0, false_or, NtR]
    constructor
    · rintro ⟨p', hp', hL, k, hk, e1, rfl, e3⟩; exact ⟨hL, k, hk, e1, e3⟩
    · rintro ⟨hL, k, hk, e1, e3⟩; exact ⟨p, Lv_lt hok hL, hL, k, hk, e1, rfl, e3⟩
  · show B (it (trP I P.ml) n (trA I n P.ml) 76 p) b ↔ _
    rw [(a4 p b hb).2.1, h76 p hp]
    simp only [B_0, false_or, NtR]
    constructor
    · rintro ⟨p', hp', hL, k, hk, e1, rfl, e3⟩; exact ⟨hL, k, hk, e1, e3⟩
    · rintro ⟨hL, k, hk, e1, e3⟩; exact ⟨p, Lv_lt hok hL, hL, k, hk, e1, rfl, e3⟩
  · show B (it (trP I P.ml) n (trA I n P.ml) 77 pl) b ↔ _
    rw [(a4 pl b hb).2.2, h77 pl hpl]
    simp only [B_0, false_or, NtR, Wsh]
    constructor
    · rintro ⟨p', hp', hL, k, hk, e1, e2, e3⟩; exact ⟨p', k, hL, hk, e1, e2, e3⟩
    · rintro ⟨p', k, hL, hk, e1, e2, e3⟩; exact ⟨p', Lv_lt hok hL, hL, k, hk, e1, e2, e3⟩
  · show it (trP I P.ml) n (trA I n P.ml) q = I q
    rw [a2 q (by omega)]
    funext j
    have n1 : q ≠ 73 := by omega
    have n2 : q ≠ 74 := by omega
    have n3 : q ≠ 75 := by omega
    have n4 : q ≠ 76 := by omega
    have n5 : q ≠ 77 := by omega
    simp [trA, flRow, up1, fLive, stRow, n1, n2, n3, n4, n5]
/-! ## the spreading of one part's secrets -/
theorem or_z {x y : Int32} : x ||| y = 0 ↔ x = 0 ∧ y = 0 := by
  constructor
  · intro h
    rw [B_zero] at h
    refine ⟨B_zero.mpr fun s hs q => h s hs (B_or.mpr (Or.inl q)), B_zero.mpr fun s hs q => h s hs (B_or.mpr (Or.inr q))⟩
  · rintro ⟨rfl, rfl⟩; simp
theorem Fl_fix {α : Type} {f : Nat → α × Int32 → α × Int32} : ∀ {n : Nat} {s : α × Int32}, (∀ k, k < n → ∀ s, (f k s).2 = 0 → f k s = s) → (it f n s).2 = 0 → it f n s = s ∧ ∀ k, k < n → f k s = s
  | 0, s, _, _ => ⟨rfl, fun k hk => absurd hk (by omega)⟩
  | n + 1, s, h, h0 => by
    have e := h n (by omega) (it f n s) h0
    have h0' : (it f n s).2 = 0 := by
      have : (f n (it f n s)).2 = 0 := h0
      rwa [e] at this
    obtain ⟨e1, e2⟩ := Fl_fix (n := n) (fun k hk => h k (by omega)) h0'
    rw [e1] at e
    refine ⟨?_, fun k hk => ?_⟩
    · show f n (it f n s) = s
      rw [e1]; exact e
    · by_cases hk' : k = n
      · subst hk'; exact e
      · exact e2 k (by omega)
theorem rst_at {A : Nat → Nat → Int32} {n : Nat} {P : Pln} (hok : P.ok n) (hA : Nf A n P) {i : Nat} {x : L3} (hx : (llP P n n)[i]? = some x) (s : Rw × Int32) :
    (∀ pl b, b < 32 → (B ((rst (A 78) (A 79) (A 77) i s).1 pl) b ↔ B (s.1 pl) b ∨ (pl = x.2.1 ∧ B (s.1 x.1) b ∧ ¬ Wsh P n x.2.1 b))) ∧ ((rst (A 78) (A 79) (A 77) i s).2 = 0 → rst (A 78) (A 79) (A 77) i s = s) ∧ Lk P n x.1 x.2.1 := by
  obtain ⟨h1, h2, h3, h4, h5, h6⟩ := hA
  obtain ⟨g1, g2, g3⟩ := h6.2 i x hx
  have hlk : Lk P n x.1 x.2.1 := (LL_mem hok).mp ⟨x.2.2, List.mem_of_getElem? hx⟩
  obtain ⟨b1, b2⟩ := Lk_lt hok hlk
  have e1 : cn (A 78 i) = x.1 := by rw [g1]; exact nI_clamp (by omega)
  have e2 : cn (A 79 i) = x.2.1 := by rw [g2]; exact nI_clamp (by omega)
  unfold rst
  rw [e1, e2]
  refine ⟨fun pl b hb => ?_, fun q => ?_, hlk⟩
  · simp only [upd]
    by_cases e : pl = x.2.1
    · rw [if_pos e, B_or, B_and, B_and, B_not hb, B_not hb, h5 _ b2 b hb, e]
      constructor
      · rintro (c | ⟨⟨c1, c2⟩, c3⟩)
        · exact Or.inl c
        · exact Or.inr ⟨rfl, c1, c2⟩
      · rintro (c | ⟨_, c1, c2⟩)
        · exact Or.inl c
        · by_cases c3 : B (s.1 x.2.1) b
          · exact Or.inl c3
          · exact Or.inr ⟨⟨c1, c2⟩, c3⟩
    · rw [if_neg e]; simp [e]
  · obtain ⟨q1, q2⟩ := or_z.mp q
    have hm : s.1 x.1 &&& (A 77 x.2.1 ^^^ (-1)) &&& (s.1 x.2.1 ^^^ (-1)) = 0 := by
      apply Classical.byContradiction; intro hne
      rw [if_neg hne] at q2; exact absurd q2 (by decide)
    simp only [hm, if_true, Int32.or_zero, upd_same]
/-- places that are come to within k links -/
def Rk (P : Pln) (n o b : Nat) : Nat → Nat → Prop
  | 0, pl => ∃ k, Lv P n o ∧ k < P.ml o ∧ P.kd o k = 0 ∧ P.nu o k = b ∧ pl = 25 * o + P.fs o k
  | k + 1, pl => Rk P n o b k pl ∨ ∃ a, Rk P n o b k a ∧ Lk P n a pl ∧ ¬ Wsh P n pl b
theorem Rk_lt {P : Pln} {n o b : Nat} (hok : P.ok n) : ∀ k a, Rk P n o b k a → a < 250
  | 0, a, ⟨k, hL, hk, h0, h1, e⟩ => by
    have ho := Lv_lt hok hL
    have := hok.2.2 o ho k hk
    have := hok.1
    omega
  | k + 1, a, h => by
    rcases h with h | ⟨c, _, hl, _⟩
    · exact Rk_lt hok k a h
    · exact (Lk_lt hok hl).2
theorem Rk_of {P : Pln} {n o b pl : Nat} (h : Rc P n o b pl) : ∃ k, Rk P n o b k pl := by
  induction h using Rc.ind with
  | @seed k h1 h2 h3 h4 => exact ⟨0, k, h1, h2, h3, h4, rfl⟩
  | step _ h2 h3 ih =>
    obtain ⟨k, hk⟩ := ih
    exact ⟨k + 1, Or.inr ⟨_, hk, h2, h3⟩⟩
theorem Rk_0 {P : Pln} {n o b : Nat} : ∀ k a, Rk P n o b k a → ∃ c, Rk P n o b 0 c
  | 0, a, h => ⟨a, h⟩
  | k + 1, a, h => h.elim (Rk_0 k a) (fun ⟨c, hc, _⟩ => Rk_0 k c hc)
theorem Rk_up {P : Pln} {n o b : Nat} : ∀ j k a, Rk P n o b k a → Rk P n o b (k + j) a
  | 0, k, a, h => h
  | j + 1, k, a, h => Or.inl (Rk_up j k a h)
theorem Rk_250 {P : Pln} {n o b pl : Nat} (hok : P.ok n) (h : Rc P n o b pl) : Rk P n o b 249 pl := by
  obtain ⟨k, hk⟩ := Rk_of h
  refine stab (N := 250) (S := Rk P n o b) (Rk_lt hok) (fun _ _ h => Or.inl h) (fun k hs a ha => ?_) (Rk_0 k pl hk) k pl hk
  rcases ha with ha | ⟨c, hc, h1, h2⟩
  · exact ha
  · exact Or.inr ⟨c, hs c hc, h1, h2⟩
theorem spread_all {A : Nat → Nat → Int32} {n : Nat} {P : Pln} (hok : P.ok n) (hA : Nf A n P) {o : Nat} (hs0 : ∀ pl b, pl < 250 → b < 32 → (B ((sp0 A o (P.ml o)).1 pl) b ↔ Rk P n o b 0 pl)) (hs1 : (sp0 A o (P.ml o)).2 = 0 → ∀ b pl, ¬ Rk P n o b 0 pl) {pl b : Nat} (hpl : pl < 250) (hb : b < 32) : B (sprR A o (P.ml o) (llP P n n).length pl) b ↔ Rc P n o b pl := by
  unfold sprR
  have hget : ∀ i, i < (llP P n n).length → ∃ x, (llP P n n)[i]? = some x := fun i hi => ⟨_, List.getElem?_eq_getElem hi⟩
  constructor
  · -- sound
    have hround : ∀ x : Rw, (∀ pl b, pl < 250 → b < 32 → B (x pl) b → Rc P n o b pl) → ∀ pl b, pl < 250 → b < 32 → B ((it (rst (A 78) (A 79) (A 77)) (llP P n n).length (x, 0)).1 pl) b → Rc P n o b pl := by
      intro x hx
      refine pit_inv (Q := fun s : Rw × Int32 => ∀ pl b, pl < 250 → b < 32 → B (s.1 pl) b → Rc P n o b pl) hx (fun i s hi hs => ?_)
      obtain ⟨x, hx⟩ := hget i hi
      obtain ⟨g1, g2, g3⟩ := rst_at hok hA hx s
      intro pl b hpl hb hB
      rcases (g1 pl b hb).mp hB with c | ⟨rfl, c1, c2⟩
      · exact hs pl b hpl hb c
      · exact .step (hs _ b (Lk_lt hok g3).1 hb c1) g3 c2
    have hspw : ∀ k (s : Rw × Int32), (∀ pl b, pl < 250 → b < 32 → B (s.1 pl) b → Rc P n o b pl) → ∀ pl b, pl < 250 → b < 32 → B (spw (it (rst (A 78) (A 79) (A 77)) (llP P n n).length) k s pl) b → Rc P n o b pl := by
      intro k
      induction k with
      | zero => intro s hs; exact hs
      | succ k ih =>
        intro s hs
        unfold spw
        by_cases e : s.2 = 0
        · rw [if_pos e]; exact hs
        · rw [if_neg e]; exact ih _ (hround s.1 hs)
    refine hspw 250 _ (fun pl b hpl hb hB => ?_) pl b hpl hb
    obtain ⟨k, h1, h2, h3, h4, rfl⟩ := (hs0 pl b hpl hb).mp hB
    exact .seed h1 h2 h3 h4
  · intro h
    have hmono : ∀ (s : Rw × Int32) (m : Nat), m ≤ (llP P n n).length → ∀ pl b, b < 32 → B (s.1 pl) b → B ((it (rst (A 78) (A 79) (A 77)) m s).1 pl) b := by
      intro s m
      induction m with
      | zero => intro _ pl b _ h; exact h
      | succ m ih =>
        intro hm pl b hb h
        obtain ⟨x, hx⟩ := hget m (by omega)
        exact ((rst_at hok hA hx _).1 pl b hb).mpr (Or.inl (ih (by omega) pl b hb h))
    have hrest : ∀ (s : Rw × Int32) (d m : Nat), m + d = (llP P n n).length → ∀ pl b, b < 32 → B ((it (rst (A 78) (A 79) (A 77)) m s).1 pl) b → B ((it (rst (A 78) (A 79) (A 77)) (llP P n n).length s).1 pl) b := by
      intro s d
      induction d with
      | zero => intro m hm pl b _ h; rw [← hm]; exact h
      | succ d ih =>
        intro m hm pl b hb h
        obtain ⟨x, hx⟩ := hget m (by omega)
        exact ih (m + 1) (by omega) pl b hb (((rst_at hok hA hx _).1 pl b hb).mpr (Or.inl h))
    have hstep : ∀ (s : Rw × Int32) a c b, b < 32 → B (s.1 a) b → Lk P n a c → ¬ Wsh P n c b → B ((it (rst (A 78) (A 79) (A 77)) (llP P n n).length s).1 c) b := by
      intro s a c b hb hB hl hw
      obtain ⟨st, hm⟩ := (LL_mem hok).mpr hl
      obtain ⟨i, hi⟩ := List.mem_iff_getElem?.mp hm
      have hi2 := (List.getElem?_eq_some_iff.mp hi).1
      refine hrest s ((llP P n n).length - (i + 1)) (i + 1) (by omega) c b hb ?_
      exact ((rst_at hok hA hi _).1 c b hb).mpr (Or.inr ⟨rfl, hmono s i (by omega) a b hb hB, hw⟩)
    have hfl : ∀ s : Rw × Int32, (it (rst (A 78) (A 79) (A 77)) (llP P n n).length s).2 = 0 → it (rst (A 78) (A 79) (A 77)) (llP P n n).length s = s := by
      intro s h0
      refine (Fl_fix (fun k hk s h => ?_) h0).1
      obtain ⟨x, hx⟩ := hget k hk
      exact (rst_at hok hA hx s).2.1 h
    have hclosed : ∀ x : Rw, (∀ a c b, b < 32 → B (x a) b → Lk P n a c → ¬ Wsh P n c b → B (x c) b) → (∀ pl b, b < 32 → Rk P n o b 0 pl → B (x pl) b) → ∀ pl b, b < 32 → Rc P n o b pl → B (x pl) b := by
      intro x h1 h2 pl b hb hr
      induction hr using Rc.ind with
      | @seed k q1 q2 q3 q4 => exact h2 _ b hb ⟨k, q1, q2, q3, q4, rfl⟩
      | step _ q2 q3 ih => exact h1 _ _ b hb ih q2 q3
    have hspw : ∀ k j (s : Rw × Int32), (s.2 = 0 → ∀ a c b, b < 32 → B (s.1 a) b → Lk P n a c → ¬ Wsh P n c b → B (s.1 c) b) → (∀ pl b, b < 32 → Rk P n o b j pl → B (s.1 pl) b) → ∀ pl b, b < 32 → Rk P n o b (j + k) pl → B (spw (it (rst (A 78) (A 79) (A 77)) (llP P n n).length) k s pl) b := by
      intro k
      induction k with
      | zero => intro j s _ h2; exact h2
      | succ k ih =>
        intro j s h1 h2 pl b hb hr
        unfold spw
        by_cases e : s.2 = 0
        · rw [if_pos e]
          refine hclosed s.1 (h1 e) (fun pl b hb h => h2 pl b hb (by have := Rk_up j 0 pl h; rwa [Nat.zero_add] at this)) pl b hb ?_
          have : ∀ m pl, Rk P n o b m pl → Rc P n o b pl := by
            intro m
            induction m with
            | zero => rintro pl ⟨k, q1, q2, q3, q4, rfl⟩; exact .seed q1 q2 q3 q4
            | succ m ih => intro pl h; exact h.elim (ih pl) (fun ⟨a, q1, q2, q3⟩ => .step (ih a q1) q2 q3)
          exact this _ pl hr
        · rw [if_neg e]
          refine ih (j + 1) _ (fun e2 => ?_) (fun pl b hb h => ?_) pl b hb (by rwa [show j + 1 + k = j + (k + 1) by omega])
          · have := hfl (s.1, 0) e2
            intro a c b hb hB hl hw
            rw [this] at hB
            exact hstep (s.1, 0) a c b hb hB hl hw
          · rcases h with h | ⟨a, q1, q2, q3⟩
            · exact hmono (s.1, 0) _ (Nat.le_refl _) pl b hb (h2 pl b hb h)
            · exact hstep (s.1, 0) a pl b hb (h2 a b hb q1) q2 q3
    refine hspw 250 0 _ (fun e => ?_) (fun pl b hb h => (hs0 pl b (Rk_lt hok 0 pl h) hb).mpr h) pl b hb (by have := Rk_up 1 249 pl (Rk_250 hok h); exact this)
    intro a c b hb hB hl hw
    exact absurd ((hs0 a b (Lk_lt hok hl).1 hb).mp hB) (hs1 e b a)
theorem sp0_at {I A : Nat → Nat → Int32} {n : Nat} {P : Pln} (h : shP I n P) (hI : ∀ q, q < 73 → A q = I q) (hA : Nf A n P) {o : Nat} (ho : o < n) : (∀ pl b, pl < 250 → b < 32 → (B ((sp0 A o (P.ml o)).1 pl) b ↔ Rk P n o b 0 pl)) ∧ ((sp0 A o (P.ml o)).2 = 0 → ∀ b pl, ¬ Rk P n o b 0 pl) := by
  obtain ⟨hok, -, -, -, hl⟩ := h
  have h10 := hok.1
  have h75 := hA.2.2.1 o (by omega)
  unfold sp0
  by_cases e : A 75 o = 0
  · rw [if_pos e]
    have hno : ∀ b pl, ¬ Rk P n o b 0 pl := by
      rintro b pl ⟨k, hL, hk, h0, h1, -⟩
      have hb : b < 32 := by have := (hok.2.2 o ho k hk).2.1; omega
      exact (B_zero.mp e) b hb ((h75 b hb).mpr ⟨hL, k, hk, h0, h1⟩)
    refine ⟨fun pl b _ _ => ?_, fun _ => hno⟩
    simp [B_0, hno b pl]
  · rw [if_neg e]
    have hL : Lv P n o := by
      apply Classical.byContradiction; intro hn
      exact e (B_zero.mpr fun b hb q => hn ((h75 b hb).mp q).1)
    refine ⟨fun pl b hpl hb => ?_, fun q => absurd q (show ¬ (1 : Int32) = 0 by decide)⟩
    have hstep : ∀ k, k < P.ml o → ∀ x : Rw, B (sdF o (A (6 + 6 * o + 1 + 0)) (A (6 + 6 * o + 1 + 1)) (A (6 + 6 * o + 1 + 2)) k x pl) b ↔ B (x pl) b ∨ (P.kd o k = 0 ∧ P.nu o k = b ∧ pl = 25 * o + P.fs o k) := by
      intro k hk x
      have hLk := hl o ho k hk
      have hbd := hok.2.2 o ho k hk
      unfold sdF
      rw [hI _ (by omega), hI _ (by omega), hI _ (by omega), hLk.1, hLk.2.1, hLk.2.2.1, show cn (nI (P.fs o k)) = P.fs o k from nI_clamp (by omega), bt_nI]
      by_cases h0 : P.kd o k = 0
      · rw [if_pos (by rw [h0]; rfl)]
        simp only [upd]
        by_cases ep : pl = 25 * o + P.fs o k
        · rw [if_pos ep, B_or, B_bt (by omega) hb, ep]
          exact ⟨fun z => z.elim Or.inl (fun y => Or.inr ⟨h0, y.symm, rfl⟩), fun z => z.elim Or.inl (fun y => Or.inr y.2.1.symm)⟩
        · rw [if_neg ep]; simp [ep]
      · rw [if_neg (by rw [show (0 : Int32) = nI 0 from rfl, nI_eq (by omega) (by omega)]; exact h0)]
        simp [h0]
    rw [it_or (R := fun x : Rw => B (x pl) b) hstep]
    constructor
    · rintro (c | ⟨k, hk, c1, c2, c3⟩)
      · exact absurd c B_0
      · exact ⟨k, hL, hk, c1, c2, c3⟩
    · rintro ⟨k, _, hk, c1, c2, c3⟩
      exact Or.inr ⟨k, hk, c1, c2, c3⟩
theorem Nf_cg {I A : Nat → Nat → Int32} {n : Nat} {P : Pln} (h : Nf I n P) (he : ∀ q, 73 ≤ q → q < 82 → A q = I q) : Nf A n P := by
  unfold Nf LkOf
  rw [he 73 (by decide) (by decide), he 74 (by decide) (by decide), he 75 (by decide) (by decide), he 76 (by decide) (by decide), he 77 (by decide) (by decide), he 78 (by decide) (by decide), he 79 (by decide) (by decide), he 80 (by decide) (by decide)]
  exact h
theorem Fr_trF {I : Nat → Nat → Int32} {n : Nat} {P : Pln} (h : shP I n P) : Fr (trF I n P.ml) n P ∧ ∀ q, q < 73 ∨ 91 < q → trF I n P.ml q = I q := by
  obtain ⟨hN, hoff⟩ := Nf_trN h
  have hok := h.1
  have h10 := hok.1
  have key : (fun (m : Nat) (A : Nat → Nat → Int32) => (∀ q, q < 82 ∨ 91 < q → A q = trN I n P.ml n q) ∧ ∀ o, o < m → ∀ pl, pl < 250 → ∀ b, b < 32 → (B (A (82 + o) pl) b ↔ Rc P n o b pl)) n (it (trS P.ml) n (trN I n P.ml n)) := by
    refine it_ind (Q := fun (m : Nat) (A : Nat → Nat → Int32) => (∀ q, q < 82 ∨ 91 < q → A q = trN I n P.ml n q) ∧ ∀ o, o < m → ∀ pl, pl < 250 → ∀ b, b < 32 → (B (A (82 + o) pl) b ↔ Rc P n o b pl)) ⟨fun _ _ => rfl, fun o ho => absurd ho (by omega)⟩ (fun o A ho hA => ?_)
    obtain ⟨a1, a2⟩ := hA
    have hNA : Nf A n P := Nf_cg hN (fun q _ h2 => a1 q (Or.inl h2))
    have hI : ∀ q, q < 73 → A q = I q := fun q hq => (a1 q (by omega)).trans (hoff q (by omega))
    have hlen := llP_len hok n (Nat.le_refl _)
    have hc : cn (A 73 9) = (llP P n n).length := by rw [hNA.2.2.2.2.2.1]; exact nI_clamp (by omega)
    obtain ⟨s0, s1⟩ := sp0_at h hI hNA ho
    refine ⟨fun q hq => ?_, fun o' ho' pl hpl b hb => ?_⟩
    · rw [← a1 q hq]
      funext j
      have : q ≠ 82 + o := by omega
      simp [trS, sprF, stRow, this]
    · by_cases e : o' = o
      · subst e
        have : trS P.ml o' A (82 + o') pl = sprR A o' (P.ml o') (llP P n n).length pl := by simp [trS, sprF, stRow, hpl, hc]
        rw [this]
        exact spread_all hok hNA s0 s1 hpl hb
      · have : trS P.ml o A (82 + o') pl = A (82 + o') pl := by
          have : o' ≠ o := e
          simp [trS, sprF, stRow, this]
        rw [this]
        exact a2 o' (by omega) pl hpl b hb
  obtain ⟨k1, k2⟩ := key
  refine ⟨⟨Nf_cg hN (fun q _ h2 => k1 q (Or.inl h2)), k2⟩, fun q hq => ?_⟩
  rw [show trF I n P.ml q = trN I n P.ml n q from k1 q (by omega)]
  exact hoff q (by omega)
