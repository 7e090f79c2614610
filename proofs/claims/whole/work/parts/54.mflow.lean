theorem it_or {α : Type} {f : Nat → α → α} {R : α → Prop} {E : Nat → Prop} : ∀ {n : Nat} {s : α}, (∀ k, k < n → ∀ s, R (f k s) ↔ R s ∨ E k) → (R (it f n s) ↔ R s ∨ ∃ k, k < n ∧ E k)
  | 0, s, _ => by simp [it]
  | n + 1, s, h => by
    show R (f n (it f n s)) ↔ _
    rw [h n (by omega), it_or (n := n) (fun k hk => h k (by omega))]
    constructor
    · rintro ((a | ⟨k, hk, a⟩) | a)
      · exact Or.inl a
      · exact Or.inr ⟨k, by omega, a⟩
      · exact Or.inr ⟨n, by omega, a⟩
    · rintro (a | ⟨k, hk, a⟩)
      · exact Or.inl (Or.inl a)
      · by_cases e : k = n
        · subst e; exact Or.inr a
        · exact Or.inl (Or.inr ⟨k, by omega, a⟩)
/-! ## links, washes, and what comes where -/
def LkA (P : Pln) (p k a b : Nat) : Prop :=
  (P.kd p k = 1 ∧ (∃ i, i < P.nu p k ∧ a = 25 * p + P.fr p k i) ∧ b = 25 * p + P.fs p k) ∨
  (P.kd p k = 2 ∧ a = 25 * p + P.fs p k ∧ b = 25 * P.nu p k + 0) ∨
  (P.kd p k = 2 ∧ a = 25 * P.nu p k + 8 ∧ b = 25 * p + P.sc p k) ∨
  (P.kd p k = 3 ∧ a = 25 * p + P.fs p k ∧ b = 25 * p + (9 + P.nu p k)) ∨
  (P.kd p k = 5 ∧ a = 25 * p + P.fs p k ∧ b = 25 * p + 8)
def Lk (P : Pln) (n a b : Nat) : Prop := ∃ p k, Lv P n p ∧ k < P.ml p ∧ LkA P p k a b
def Wsh (P : Pln) (n b s : Nat) : Prop := ∃ p k, Lv P n p ∧ k < P.ml p ∧ P.kd p k = 4 ∧ b = 25 * p + P.fs p k ∧ P.nu p k = s
def RcK (P : Pln) (n o s : Nat) : Nat → Nat → Prop
  | 0, pl => ∃ k, Lv P n o ∧ k < P.ml o ∧ P.kd o k = 0 ∧ P.nu o k = s ∧ pl = 25 * o + P.fs o k
  | m + 1, b => ∃ a, RcK P n o s m a ∧ Lk P n a b ∧ ¬ Wsh P n b s
def Rc (P : Pln) (n o s pl : Nat) : Prop := ∃ m, RcK P n o s m pl
theorem Rc.seed {P : Pln} {n o s k : Nat} (h1 : Lv P n o) (h2 : k < P.ml o) (h3 : P.kd o k = 0) (h4 : P.nu o k = s) : Rc P n o s (25 * o + P.fs o k) := ⟨0, k, h1, h2, h3, h4, rfl⟩
theorem Rc.step {P : Pln} {n o s a b : Nat} (h1 : Rc P n o s a) (h2 : Lk P n a b) (h3 : ¬ Wsh P n b s) : Rc P n o s b := by
  obtain ⟨m, hm⟩ := h1
  exact ⟨m + 1, a, hm, h2, h3⟩
theorem Rc.ind {P : Pln} {n o s : Nat} {motive : (pl : Nat) → Rc P n o s pl → Prop} (seed : ∀ {k : Nat} (h1 : Lv P n o) (h2 : k < P.ml o) (h3 : P.kd o k = 0) (h4 : P.nu o k = s), motive (25 * o + P.fs o k) (Rc.seed h1 h2 h3 h4)) (step : ∀ {a b : Nat} (h1 : Rc P n o s a) (h2 : Lk P n a b) (h3 : ¬ Wsh P n b s), motive a h1 → motive b (Rc.step h1 h2 h3)) {pl : Nat} (h : Rc P n o s pl) : motive pl h := by
  obtain ⟨m, hm⟩ := h
  induction m generalizing pl with
  | zero =>
    obtain ⟨k, h1, h2, h3, h4, e⟩ := hm
    subst e
    exact seed h1 h2 h3 h4
  | succ m ih =>
    obtain ⟨a, h1, h2, h3⟩ := hm
    exact step ⟨m, h1⟩ h2 h3 (ih h1)
def Rg (P : Pln) (n : Nat) (g : Rw) (s pl : Nat) : Prop := ∃ o, o < n ∧ B (g o) s ∧ Rc P n o s pl
theorem Rg_step {P : Pln} {n : Nat} {g : Rw} {s a b : Nat} (h : Rg P n g s a) (hl : Lk P n a b) (hw : ¬ Wsh P n b s) : Rg P n g s b := by
  obtain ⟨o, h1, h2, h3⟩ := h
  exact ⟨o, h1, h2, .step h3 hl hw⟩
theorem Rc_lt {P : Pln} {n o s a : Nat} (hok : P.ok n) (h : Rc P n o s a) : o < n ∧ s < 16 := by
  induction h using Rc.ind with
  | seed h1 h2 h3 h4 =>
    have ho := Lv_lt hok h1
    exact ⟨ho, h4 ▸ (hok.2.2 o ho _ h2).2.1⟩
  | step _ _ _ ih => exact ih
theorem Wsh_name {P : Pln} {n b s : Nat} (hok : P.ok n) (h : Wsh P n b s) : b % 25 < 8 ∧ s < 16 := by
  obtain ⟨p, k, h1, h2, h3, rfl, h5⟩ := h
  have hp := Lv_lt hok h1
  have := hok.2.2 p hp k h2
  omega
/-! ## the model's seeds -/
theorem sd_h {P : Pln} {n F : Nat} {g : Rw} (hok : P.ok n) (hE : whE (akQ P n) F (ak0 n)) {p nm s : Nat} (hp : p < n) (hnm : nm < 8) (hs : s < 32) :
    B ((wS P n g F).1 (8 * p + nm)) s ↔ B (g p) s ∧ ∃ k, Lv P n p ∧ k < P.ml p ∧ P.kd p k = 0 ∧ P.nu p k = s ∧ P.fs p k = nm := by
  have hin : ∀ p', p' < n → ∀ k, k < P.ml p' → ∀ t : HR, B ((sdL P g p' k t).1 (8 * p + nm)) s ↔ B (t.1 (8 * p + nm)) s ∨ (P.kd p' k = 0 ∧ p' = p ∧ P.fs p' k = nm ∧ B (g p') s ∧ P.nu p' k = s) := by
    intro p' hp' k hk t
    have hb := hok.2.2 p' hp' k hk
    unfold sdL
    by_cases h4 : P.kd p' k = 4
    · rw [if_pos h4]; simp [h4]
    · rw [if_neg h4]
      by_cases h0 : P.kd p' k = 0
      · rw [if_pos h0]
        simp only [upd]
        by_cases e : 8 * p + nm = 8 * p' + P.fs p' k
        · have e1 : p' = p := by omega
          have e2 : P.fs p' k = nm := by omega
          rw [if_pos e, B_or, B_and, B_bt (by omega) hs, ← e]
          constructor
          · rintro (a | ⟨a, c⟩)
            · exact Or.inl a
            · exact Or.inr ⟨h0, e1, e2, a, c.symm⟩
          · rintro (a | ⟨_, _, _, a, c⟩)
            · exact Or.inl a
            · exact Or.inr ⟨a, c.symm⟩
        · rw [if_neg e]
          constructor
          · exact Or.inl
          · rintro (a | ⟨_, rfl, c, _⟩)
            · exact a
            · exact absurd (by omega) e
      · rw [if_neg h0]; simp [h0]
  have hmid : ∀ p', p' < n → ∀ t : HR, B ((sdP P g (wA P n F) p' t).1 (8 * p + nm)) s ↔ B (t.1 (8 * p + nm)) s ∨ (Lv P n p' ∧ ∃ k, k < P.ml p' ∧ (P.kd p' k = 0 ∧ p' = p ∧ P.fs p' k = nm ∧ B (g p') s ∧ P.nu p' k = s)) := by
    intro p' hp' t
    have hA := wA_iff hok hE p'
    unfold sdP
    by_cases h : wA P n F p' = 0
    · rw [if_pos h]
      have : ¬ Lv P n p' := fun q => (hA.mpr q) h
      simp [this]
    · rw [if_neg h]
      have hL := hA.mp h
      rw [it_or (R := fun t : HR => B (t.1 (8 * p + nm)) s) (fun k hk t => hin p' hp' k hk t)]
      simp [hL]
  unfold wS sdA
  rw [it_or (R := fun t : HR => B (t.1 (8 * p + nm)) s) (fun p' hp' t => hmid p' hp' t)]
  constructor
  · rintro (a | ⟨p', hp', hL, k, hk, h0, rfl, hf, hg, hu⟩)
    · exact absurd a B_0
    · exact ⟨hg, k, hL, hk, h0, hu, hf⟩
  · rintro ⟨hg, k, hL, hk, h0, hu, hf⟩
    exact Or.inr ⟨p, hp, hL, k, hk, h0, rfl, hf, hg, hu⟩
theorem sd_w {P : Pln} {n F : Nat} {g : Rw} (hok : P.ok n) (hE : whE (akQ P n) F (ak0 n)) {p nm s : Nat} (hnm : nm < 8) (hs : s < 32) :
    B ((wS P n g F).2 (8 * p + nm)) s ↔ Wsh P n (25 * p + nm) s := by
  have hin : ∀ p', p' < n → ∀ k, k < P.ml p' → ∀ t : HR, B ((sdL P g p' k t).2 (8 * p + nm)) s ↔ B (t.2 (8 * p + nm)) s ∨ (P.kd p' k = 4 ∧ 25 * p + nm = 25 * p' + P.fs p' k ∧ P.nu p' k = s) := by
    intro p' hp' k hk t
    have hb := hok.2.2 p' hp' k hk
    unfold sdL
    by_cases h4 : P.kd p' k = 4
    · rw [if_pos h4]
      simp only [upd]
      by_cases e : 8 * p + nm = 8 * p' + P.fs p' k
      · rw [if_pos e, B_or, B_bt (by omega) hs, ← e]
        constructor
        · rintro (a | c)
          · exact Or.inl a
          · exact Or.inr ⟨h4, by omega, c.symm⟩
        · rintro (a | ⟨_, _, c⟩)
          · exact Or.inl a
          · exact Or.inr c.symm
      · rw [if_neg e]
        constructor
        · exact Or.inl
        · rintro (a | ⟨_, c, _⟩)
          · exact a
          · exact absurd (by omega) e
    · rw [if_neg h4]
      by_cases h0 : P.kd p' k = 0
      · rw [if_pos h0]; simp [h4]
      · rw [if_neg h0]; simp [h4]
  have hmid : ∀ p', p' < n → ∀ t : HR, B ((sdP P g (wA P n F) p' t).2 (8 * p + nm)) s ↔ B (t.2 (8 * p + nm)) s ∨ (Lv P n p' ∧ ∃ k, k < P.ml p' ∧ (P.kd p' k = 4 ∧ 25 * p + nm = 25 * p' + P.fs p' k ∧ P.nu p' k = s)) := by
    intro p' hp' t
    have hA := wA_iff hok hE p'
    unfold sdP
    by_cases h : wA P n F p' = 0
    · rw [if_pos h]
      have : ¬ Lv P n p' := fun q => (hA.mpr q) h
      simp [this]
    · rw [if_neg h]
      have hL := hA.mp h
      rw [it_or (R := fun t : HR => B (t.2 (8 * p + nm)) s) (fun k hk t => hin p' hp' k hk t)]
      simp [hL]
  unfold wS sdA
  rw [it_or (R := fun t : HR => B (t.2 (8 * p + nm)) s) (fun p' hp' t => hmid p' hp' t)]
  constructor
  · rintro (a | ⟨p', hp', hL, k, hk, h⟩)
    · exact absurd a B_0
    · exact ⟨p', k, hL, hk, h⟩
  · rintro ⟨p', k, hL, hk, h⟩
    exact Or.inr ⟨p', Lv_lt hok hL, hL, k, hk, h⟩
/-! ## the model's rounds -/
def Sf {α : Type} (μ : α → Nat) (f : α → α × Int32) : Prop := ∀ a, μ (f a).1 ≤ μ a ∧ ((f a).2 ≠ 0 → μ (f a).1 < μ a) ∧ ((f a).2 = 0 → (f a).1 = a)
theorem or2_z {x y : Int32} : or2 x y = 0 ↔ x = 0 ∧ y = 0 := by
  unfold or2; by_cases h : x = 0 ∧ y = 0
  · rw [if_pos h]; simp [h]
  · rw [if_neg h]; simp [h]
theorem fg_z {x y : Int32} : fg x y = 0 ↔ x = y := by
  unfold fg; by_cases h : x = y <;> simp [h]
theorem Sf_stp {α : Type} {μ : α → Nat} {f : α → α × Int32} (h : Sf μ f) : FStp (fun _ => True) μ (fun t => ((f t.1).1, or2 t.2 (f t.1).2)) := by
  intro t _
  obtain ⟨a, b, c⟩ := h t.1
  refine ⟨trivial, a, fun q => ?_, fun q => ?_⟩
  · by_cases e : t.2 = 0
    · refine Or.inr (b (fun e2 => q (or2_z.mpr ⟨e, e2⟩)))
    · exact Or.inl e
  · obtain ⟨q1, q2⟩ := or2_z.mp q
    exact Prod.ext (c q2) (q.trans q1.symm)
theorem Sf_comp {α : Type} {μ : α → Nat} {f g : α → α × Int32} (hf : Sf μ f) (hg : Sf μ g) : Sf μ (fun a => ((g (f a).1).1, or2 (f a).2 (g (f a).1).2)) := by
  intro a
  obtain ⟨a1, a2, a3⟩ := hf a
  obtain ⟨b1, b2, b3⟩ := hg (f a).1
  refine ⟨Nat.le_trans b1 a1, fun q => ?_, fun q => ?_⟩
  · by_cases e : (f a).2 = 0
    · have := b2 (fun e2 => q (or2_z.mpr ⟨e, e2⟩))
      show μ (g (f a).1).1 < μ a
      omega
    · have := a2 e
      show μ (g (f a).1).1 < μ a
      omega
  · obtain ⟨q1, q2⟩ := or2_z.mp q
    show (g (f a).1).1 = a
    rw [b3 q2, a3 q1]
def hrM (s : HR) : Nat := sm (fun q => 2 ^ 32 - val (s.1 q)) 80 + sm (fun p => 2 ^ 32 - val (s.2 p)) 10
theorem upd_same {f : Nat → Int32} {k : Nat} : upd f k (f k) = f := by
  funext j; unfold upd; by_cases e : j = k <;> simp [e]
theorem Sf_h {q : Nat} (hq : q < 80) {x : HR → Int32} {w : Rw} : Sf hrM (fun s => ((upd s.1 q (cv s.1 w q (x s)), s.2), fg (cv s.1 w q (x s)) (s.1 q))) := by
  intro s
  have hle : ∀ j, val (s.1 j) ≤ val (upd s.1 q (cv s.1 w q (x s)) j) := by
    intro j; unfold upd
    by_cases e : j = q
    · subst e; simp only [if_true]; exact val_or _ _
    · simp [e]
  have h1 : sm (fun j => 2 ^ 32 - val (upd s.1 q (cv s.1 w q (x s)) j)) 80 ≤ sm (fun j => 2 ^ 32 - val (s.1 j)) 80 := sm_mono 80 (fun i _ => by have := hle i; show 2 ^ 32 - val (upd s.1 q (cv s.1 w q (x s)) i) ≤ 2 ^ 32 - val (s.1 i); omega)
  refine ⟨by unfold hrM; simp only; omega, fun h => ?_, fun h => ?_⟩
  · have hne : cv s.1 w q (x s) ≠ s.1 q := fun e => h (fg_z.mpr e)
    have hlt : val (s.1 q) < val (cv s.1 w q (x s)) := val_subL (fun b _ hb => B_or.mpr (Or.inl hb)) hne
    have h2 : sm (fun j => 2 ^ 32 - val (upd s.1 q (cv s.1 w q (x s)) j)) 80 < sm (fun j => 2 ^ 32 - val (s.1 j)) 80 := by
      refine sm_lt 80 (fun i _ => by have := hle i; show 2 ^ 32 - val (upd s.1 q (cv s.1 w q (x s)) i) ≤ 2 ^ 32 - val (s.1 i); omega) ⟨q, hq, ?_⟩
      have := val_lt (cv s.1 w q (x s))
      show 2 ^ 32 - val (upd s.1 q (cv s.1 w q (x s)) q) < 2 ^ 32 - val (s.1 q)
      have e : upd s.1 q (cv s.1 w q (x s)) q = cv s.1 w q (x s) := by simp [upd]
      rw [e]; omega
    unfold hrM; simp only; omega
  · have e := fg_z.mp h
    simp only [e, upd_same]
theorem Sf_r {p : Nat} (hp : p < 10) {x : HR → Int32} : Sf hrM (fun s => ((s.1, upd s.2 p (s.2 p ||| x s)), fg (s.2 p ||| x s) (s.2 p))) := by
  intro s
  have hle : ∀ j, val (s.2 j) ≤ val (upd s.2 p (s.2 p ||| x s) j) := by
    intro j; unfold upd
    by_cases e : j = p
    · subst e; simp only [if_true]; exact val_or _ _
    · simp [e]
  have h1 : sm (fun j => 2 ^ 32 - val (upd s.2 p (s.2 p ||| x s) j)) 10 ≤ sm (fun j => 2 ^ 32 - val (s.2 j)) 10 := sm_mono 10 (fun i _ => by have := hle i; show 2 ^ 32 - val (upd s.2 p (s.2 p ||| x s) i) ≤ 2 ^ 32 - val (s.2 i); omega)
  refine ⟨by unfold hrM; simp only; omega, fun h => ?_, fun h => ?_⟩
  · have hne : (s.2 p ||| x s) ≠ s.2 p := fun e => h (fg_z.mpr e)
    have hlt : val (s.2 p) < val (s.2 p ||| x s) := val_subL (fun b _ hb => B_or.mpr (Or.inl hb)) hne
    have h2 : sm (fun j => 2 ^ 32 - val (upd s.2 p (s.2 p ||| x s) j)) 10 < sm (fun j => 2 ^ 32 - val (s.2 j)) 10 := by
      refine sm_lt 10 (fun i _ => by have := hle i; show 2 ^ 32 - val (upd s.2 p (s.2 p ||| x s) i) ≤ 2 ^ 32 - val (s.2 i); omega) ⟨p, hp, ?_⟩
      have := val_lt (s.2 p ||| x s)
      show 2 ^ 32 - val (upd s.2 p (s.2 p ||| x s) p) < 2 ^ 32 - val (s.2 p)
      have e : upd s.2 p (s.2 p ||| x s) p = s.2 p ||| x s := by simp [upd]
      rw [e]; omega
    unfold hrM; simp only; omega
  · have e := fg_z.mp h
    simp only [e, upd_same]
theorem go1_Sf {P : Pln} {n p k : Nat} {w : Rw} (hok : P.ok n) (hp : p < n) (hk : k < P.ml p) : Sf hrM (go1 P w p k) :=
  Sf_h (q := 8 * p + P.fs p k) (by have := hok.2.2 p hp k hk; have := hok.1; omega) (x := fun s => gAll P p k s.1)
theorem go2a_Sf {P : Pln} {n p k : Nat} {w : Rw} (hok : P.ok n) (hp : p < n) (hk : k < P.ml p) (h2 : P.kd p k = 2) : Sf hrM (go2a P w p k) :=
  Sf_h (q := 8 * P.nu p k) (by have := (hok.2.2 p hp k hk).2.2.2.1 h2; have := hok.1; omega) (x := fun s => s.1 (8 * p + P.fs p k))
theorem go2b_Sf {P : Pln} {n p k : Nat} {w : Rw} (hok : P.ok n) (hp : p < n) (hk : k < P.ml p) (h2 : P.kd p k = 2) : Sf hrM (go2b P w p k) :=
  Sf_h (q := 8 * p + P.sc p k) (by have := (hok.2.2 p hp k hk).2.2.2.1 h2; have := hok.1; omega) (x := fun s => s.2 (P.nu p k))
theorem go5_Sf {P : Pln} {n p k : Nat} (hok : P.ok n) (hp : p < n) (hk : k < P.ml p) : Sf hrM (go5 P p k) :=
  Sf_r (p := p) (by have := hok.1; omega) (x := fun s => s.1 (8 * p + P.fs p k))
theorem goF_Sf {P : Pln} {n p k : Nat} {w : Rw} (hok : P.ok n) (hp : p < n) (hk : k < P.ml p) : Sf hrM (goF P w p k) := by
  intro s
  unfold goF
  by_cases h1 : P.kd p k = 1
  · rw [if_pos h1]; exact go1_Sf hok hp hk s
  · rw [if_neg h1]
    by_cases h2 : P.kd p k = 2
    · rw [if_pos h2]; exact Sf_comp (go2a_Sf hok hp hk h2) (go2b_Sf hok hp hk h2) s
    · rw [if_neg h2]
      by_cases h5 : P.kd p k = 5
      · rw [if_pos h5]; exact go5_Sf hok hp hk s
      · rw [if_neg h5]; exact ⟨Nat.le_refl _, fun q => absurd rfl q, fun _ => rfl⟩
theorem goL_stp {P : Pln} {n p k : Nat} {w : Rw} (hok : P.ok n) (hp : p < n) (hk : k < P.ml p) : FStp (fun _ => True) hrM (goL P w p k) := Sf_stp (goF_Sf hok hp hk)
theorem goP_stp {P : Pln} {n p : Nat} {w a : Rw} (hok : P.ok n) (hp : p < n) : FStp (fun _ => True) hrM (goP P w a p) := by
  intro s hs
  unfold goP
  by_cases h : a p = 0
  · rw [if_pos h]; exact Stp_id (fun _ => True) hrM s hs
  · rw [if_neg h]; exact Stp_it (fun k hk => goL_stp hok hp hk) s hs
theorem goQ_stp {P : Pln} {n : Nat} {w a : Rw} (hok : P.ok n) : FStp (fun _ => True) hrM (it (goP P w a) n) := Stp_it (fun p hp => goP_stp hok hp)
theorem go_fuel {P : Pln} {n : Nat} {w a : Rw} {s : HR} (hok : P.ok n) : whE (goQ P n w a) (2 ^ 32 * 90 + 1) s := by
  refine Stp_E (goQ_stp hok) _ s trivial ?_
  have h1 := sm_le (f := fun q => 2 ^ 32 - val (s.1 q)) (b := 2 ^ 32) 80 (fun i _ => by omega)
  have h2 := sm_le (f := fun q => 2 ^ 32 - val (s.2 q)) (b := 2 ^ 32) 10 (fun i _ => by omega)
  unfold hrM; omega
theorem fu_ex {P : Pln} {n : Nat} (hok : P.ok n) : ∃ F F2, ∀ g : Rw, fuOK P n g F F2 := ⟨11, 2 ^ 32 * 90 + 1, fun g => ⟨ak_fuel hok, go_fuel hok⟩⟩
