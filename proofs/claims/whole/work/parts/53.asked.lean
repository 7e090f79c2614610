/-! ## flagged steps: what they keep, what sinks, and that a round without a flag changes nothing -/
def FStp {α : Type} (Inv : α → Prop) (μ : α → Nat) (f : α × Int32 → α × Int32) : Prop :=
  ∀ s : α × Int32, Inv s.1 → Inv (f s).1 ∧ μ (f s).1 ≤ μ s.1 ∧ ((f s).2 ≠ 0 → s.2 ≠ 0 ∨ μ (f s).1 < μ s.1) ∧ ((f s).2 = 0 → f s = s)
theorem Stp_id {α : Type} (Inv : α → Prop) (μ : α → Nat) : FStp Inv μ (fun s => s) := fun s h => ⟨h, Nat.le_refl _, fun q => Or.inl q, fun _ => rfl⟩
theorem Stp_it {α : Type} {Inv : α → Prop} {μ : α → Nat} {f : Nat → α × Int32 → α × Int32} : ∀ {n : Nat}, (∀ k, k < n → FStp Inv μ (f k)) → FStp Inv μ (it f n)
  | 0, _ => Stp_id Inv μ
  | n + 1, h => by
    intro s hs
    show Inv (f n (it f n s)).1 ∧ μ (f n (it f n s)).1 ≤ μ s.1 ∧ ((f n (it f n s)).2 ≠ 0 → s.2 ≠ 0 ∨ μ (f n (it f n s)).1 < μ s.1) ∧ ((f n (it f n s)).2 = 0 → f n (it f n s) = s)
    obtain ⟨a1, a2, a3, a4⟩ := Stp_it (n := n) (fun k hk => h k (by omega)) s hs
    obtain ⟨b1, b2, b3, b4⟩ := h n (by omega) _ a1
    refine ⟨b1, by omega, fun q => ?_, fun q => ?_⟩
    · rcases b3 q with c | c
      · rcases a3 c with d | d
        · exact Or.inl d
        · exact Or.inr (by omega)
      · exact Or.inr (by omega)
    · have e := b4 q
      rw [e] at q ⊢
      exact a4 q
theorem Stp_fix {α : Type} {Inv : α → Prop} {μ : α → Nat} {f : Nat → α × Int32 → α × Int32} : ∀ {n : Nat}, (∀ k, k < n → FStp Inv μ (f k)) → ∀ {s : α × Int32}, Inv s.1 → (it f n s).2 = 0 → ∀ k, k < n → f k s = s
  | 0, _, _, _, _, k, hk => absurd hk (by omega)
  | n + 1, h, s, hs, h0, k, hk => by
    have hI := Stp_it (n := n) (fun k hk => h k (by omega)) s hs
    have e := (h n (by omega) _ hI.1).2.2.2 h0
    have h0' : (it f n s).2 = 0 := by
      have : (f n (it f n s)).2 = 0 := h0
      rw [e] at this; exact this
    by_cases hkn : k = n
    · subst hkn
      rw [hI.2.2.2 h0'] at e
      exact e
    · exact Stp_fix (n := n) (fun k hk => h k (by omega)) hs h0' k (by omega)
theorem Stp_E {α : Type} {Inv : α → Prop} {μ : α → Nat} {f : α × Int32 → α × Int32} (h : FStp Inv μ f) (F : Nat) (a : α) (hi : Inv a) (hF : μ a < F) : whE (fun x => f (x, 0)) F a :=
  whE_of (Inv := Inv) (μ := μ) (fun b hb => ⟨(h (b, 0) hb).1, fun q => ((h (b, 0) hb).2.2.1 q).resolve_left (fun c => c rfl)⟩) F a hi hF
theorem Stp_W {α : Type} {Inv : α → Prop} {μ : α → Nat} {f : α × Int32 → α × Int32} (h : FStp Inv μ f) : ∀ (F : Nat) (a : α), Inv a → whE (fun x => f (x, 0)) F a → Inv (wh (fun x => f (x, 0)) F a) ∧ f (wh (fun x => f (x, 0)) F a, 0) = (wh (fun x => f (x, 0)) F a, 0)
  | 0, _, _, hE => hE.elim
  | F + 1, a, hi, hE => by
    obtain ⟨b1, b2, b3, b4⟩ := h (a, 0) hi
    unfold wh
    by_cases h0 : (f (a, 0)).2 = 0
    · rw [if_pos h0]
      have e := b4 h0
      rw [e]
      exact ⟨hi, e⟩
    · rw [if_neg h0]
      exact Stp_W h F _ b1 (hE.resolve_left h0)
/-! ## values grow with their bits -/
def val (x : Int32) : Nat := x.toBitVec.toNat
theorem val_lt (x : Int32) : val x < 2 ^ 32 := x.toBitVec.isLt
theorem val_inj {x y : Int32} (h : val x = val y) : x = y := Int32.toBitVec_inj.mp (BitVec.eq_of_toNat_eq h)
theorem val_or (x y : Int32) : val x ≤ val (x ||| y) := by
  unfold val; rw [Int32.toBitVec_or, BitVec.toNat_or]; exact Nat.left_le_or
theorem or_of {x y : Int32} (h : ∀ s, s < 32 → B x s → B y s) : y = x ||| y := by
  apply B_ext; intro s hs; rw [B_or]; exact ⟨Or.inr, fun q => q.elim (h s hs) id⟩
theorem val_sub {x y : Int32} (h : ∀ s, s < 32 → B x s → B y s) : val x ≤ val y := by
  rw [or_of h]; exact val_or x y
theorem val_subL {x y : Int32} (h : ∀ s, s < 32 → B x s → B y s) (hne : y ≠ x) : val x < val y := by
  have := val_sub h
  have : val x ≠ val y := fun q => hne (val_inj q).symm
  omega
/-! ## who asks whom -/
def AskE (P : Pln) (n p q : Nat) : Prop := p < n ∧ ∃ k, k < P.ml p ∧ P.kd p k = 2 ∧ P.nu p k = q
def ARk (P : Pln) (n : Nat) (p : Nat) : Nat → Nat → Prop
  | 0, q => AskE P n p q
  | m + 1, r => ∃ q, ARk P n p m q ∧ AskE P n q r
def AR (P : Pln) (n : Nat) (p : Nat) (q : Nat) : Prop := ∃ m, ARk P n p m q
theorem AR.one {P : Pln} {n p q : Nat} (h : AskE P n p q) : AR P n p q := ⟨0, h⟩
theorem AR.tail {P : Pln} {n p q r : Nat} (h : AR P n p q) (h2 : AskE P n q r) : AR P n p r := by
  obtain ⟨m, hm⟩ := h
  exact ⟨m + 1, q, hm, h2⟩
theorem AR.ind {P : Pln} {n p : Nat} {motive : (q : Nat) → AR P n p q → Prop} (one : ∀ {q : Nat} (h : AskE P n p q), motive q (AR.one h)) (tail : ∀ {q r : Nat} (h1 : AR P n p q) (h2 : AskE P n q r), motive q h1 → motive r (AR.tail h1 h2)) {q : Nat} (h : AR P n p q) : motive q h := by
  obtain ⟨m, hm⟩ := h
  induction m generalizing q with
  | zero => exact one hm
  | succ m ih =>
    obtain ⟨q', h1, h2⟩ := hm
    exact tail ⟨m, h1⟩ h2 (ih h1)
theorem AR.trans {P : Pln} {n p q r : Nat} (h1 : AR P n p q) (h2 : AR P n q r) : AR P n p r := by
  induction h2 using AR.ind with
  | one h => exact .tail h1 h
  | tail _ h ih => exact .tail ih h
def Lv (P : Pln) (n p : Nat) : Prop := 0 < n ∧ (p = 0 ∨ AR P n 0 p)
theorem AskE_lt {P : Pln} {n p q : Nat} (hok : P.ok n) (h : AskE P n p q) : q < n := by
  obtain ⟨hp, k, hk, h2, rfl⟩ := h
  exact ((hok.2.2 p hp k hk).2.2.2.1 h2).1
theorem AR_lt {P : Pln} {n p q : Nat} (hok : P.ok n) (h : AR P n p q) : q < n := by
  induction h using AR.ind with
  | one h => exact AskE_lt hok h
  | tail _ h _ => exact AskE_lt hok h
theorem Lv_lt {P : Pln} {n p : Nat} (hok : P.ok n) (h : Lv P n p) : p < n := by
  rcases h.2 with rfl | h2
  · exact h.1
  · exact AR_lt hok h2
theorem Lv_ask {P : Pln} {n p q : Nat} (h : Lv P n p) (ha : AskE P n p q) : Lv P n q := by
  refine ⟨h.1, Or.inr ?_⟩
  rcases h.2 with rfl | h2
  · exact .one ha
  · exact .tail h2 ha
/-! ## the model's row of those asked -/
def akM (a : Rw) : Nat := sm (fun p => if a p = 0 then 1 else 0) 10
theorem akL_stp {P : Pln} {n p k : Nat} (hok : P.ok n) (hp : p < n) (hk : k < P.ml p) : FStp (fun _ => True) akM (akL P p k) := by
  intro s _
  refine ⟨trivial, ?_⟩
  unfold akL
  by_cases h : P.kd p k = 2 ∧ s.1 (P.nu p k) = 0
  · rw [if_pos h]
    have hq := ((hok.2.2 p hp k hk).2.2.2.1 h.1).1
    have h10 := hok.1
    have hlt : akM (upd s.1 (P.nu p k) 1) < akM s.1 := by
      refine sm_lt 10 (fun i _ => ?_) ⟨P.nu p k, by omega, ?_⟩
      · unfold upd
        by_cases e : i = P.nu p k
        · simp [e]
        · simp [e]
      · simp [upd, h.2]
    exact ⟨Nat.le_of_lt hlt, fun _ => Or.inr hlt, fun q => absurd q (show ¬ (1 : Int32) = 0 by decide)⟩
  · rw [if_neg h]
    exact ⟨Nat.le_refl _, fun q => Or.inl q, fun _ => rfl⟩
theorem akP_stp {P : Pln} {n p : Nat} (hok : P.ok n) (hp : p < n) : FStp (fun _ => True) akM (akP P p) := by
  intro s hs
  unfold akP
  by_cases h : s.1 p = 0
  · rw [if_pos h]; exact Stp_id (fun _ => True) akM s hs
  · rw [if_neg h]; exact Stp_it (fun k hk => akL_stp hok hp hk) s hs
theorem akQ_stp {P : Pln} {n : Nat} (hok : P.ok n) : FStp (fun _ => True) akM (it (akP P) n) := Stp_it (fun p hp => akP_stp hok hp)
theorem ak_fuel {P : Pln} {n : Nat} (hok : P.ok n) : whE (akQ P n) 11 (ak0 n) := by
  refine Stp_E (akQ_stp hok) 11 (ak0 n) trivial ?_
  have := sm_le (f := fun p => if ak0 n p = 0 then 1 else 0) (b := 1) 10 (fun i _ => by split <;> omega)
  unfold akM; omega
theorem wA_iff {P : Pln} {n F : Nat} (hok : P.ok n) (hE : whE (akQ P n) F (ak0 n)) (p : Nat) : ¬ wA P n F p = 0 ↔ Lv P n p := by
  have hfix := (Stp_W (akQ_stp hok) F (ak0 n) trivial hE).2
  change it (akP P) n (wA P n F, 0) = (wA P n F, 0) at hfix
  have h0 : (it (akP P) n (wA P n F, 0)).2 = 0 := by rw [hfix]
  constructor
  · have : ∀ p, ¬ wA P n F p = 0 → Lv P n p := by
      refine wh_inv (q := akQ P n) (Inv := fun a => ∀ p, ¬ a p = 0 → Lv P n p) (fun a ha => ?_) F (ak0 n) ?_
      · refine pit_inv (Q := fun s : (Nat → Int32) × Int32 => ∀ p, ¬ s.1 p = 0 → Lv P n p) ha (fun p s hp hs => ?_)
        unfold akP
        by_cases h : s.1 p = 0
        · rw [if_pos h]; exact hs
        · rw [if_neg h]
          refine pit_inv (Q := fun s : (Nat → Int32) × Int32 => ∀ p, ¬ s.1 p = 0 → Lv P n p) hs (fun k t hk ht => ?_)
          unfold akL
          by_cases hc : P.kd p k = 2 ∧ t.1 (P.nu p k) = 0
          · rw [if_pos hc]
            intro q hq
            by_cases e : q = P.nu p k
            · exact Lv_ask (hs p h) ⟨hp, k, hk, hc.1, e.symm⟩
            · exact ht q (by simpa [upd, e] using hq)
          · rw [if_neg hc]; exact ht
      · intro p hp
        unfold ak0 at hp
        by_cases h : p = 0 ∧ 0 < n
        · exact ⟨h.2, Or.inl h.1⟩
        · rw [if_neg h] at hp; exact absurd rfl hp
    exact this p
  · intro h
    have hstep : ∀ p q, ¬ wA P n F p = 0 → AskE P n p q → ¬ wA P n F q = 0 := by
      rintro p q hp ⟨hpn, k, hk, h2, rfl⟩ hq
      have e1 := Stp_fix (fun p hp => akP_stp hok hp) (s := (wA P n F, 0)) trivial h0 p hpn
      have e2 : (it (akL P p) (P.ml p) (wA P n F, 0)).2 = 0 := by
        have : (akP P p (wA P n F, 0)).2 = 0 := by rw [e1]
        unfold akP at this
        rwa [if_neg hp] at this
      have e3 := Stp_fix (fun k hk => akL_stp hok hpn hk) (s := (wA P n F, 0)) trivial e2 k hk
      unfold akL at e3
      rw [if_pos ⟨h2, hq⟩] at e3
      have := congrArg Prod.snd e3
      exact absurd this (show ¬ (1 : Int32) = 0 by decide)
    have hzero : 0 < n → ¬ wA P n F 0 = 0 := by
      intro hn
      refine wh_inv (q := akQ P n) (Inv := fun a => ¬ a 0 = 0) (fun a ha => ?_) F (ak0 n) ?_
      · refine pit_inv (Q := fun s : (Nat → Int32) × Int32 => ¬ s.1 0 = 0) ha (fun p s hp hs => ?_)
        unfold akP
        by_cases h : s.1 p = 0
        · rw [if_pos h]; exact hs
        · rw [if_neg h]
          refine pit_inv (Q := fun s : (Nat → Int32) × Int32 => ¬ s.1 0 = 0) hs (fun k t hk ht => ?_)
          unfold akL
          by_cases hc : P.kd p k = 2 ∧ t.1 (P.nu p k) = 0
          · rw [if_pos hc]
            unfold upd
            by_cases e : (0 : Nat) = P.nu p k
            · simp [← e]
            · simp [e, ht]
          · rw [if_neg hc]; exact ht
      · simp [ak0, hn]
    obtain ⟨hn, h⟩ := h
    rcases h with rfl | h
    · exact hzero hn
    · induction h using AR.ind with
      | one h => exact hstep _ _ (hzero hn) h
      | tail _ h ih => exact hstep _ _ ih h
/-! ## the class's closure -/
def Pm (P : Pln) (n : Nat) : Nat → Nat → Nat → Prop
  | 0, p, q => AskE P n p q
  | m + 1, p, q => Pm P n m p q ∨ (Pm P n m p m ∧ Pm P n m m q)
theorem Pm_sound {P : Pln} {n : Nat} : ∀ m p q, Pm P n m p q → AR P n p q
  | 0, p, q, h => .one h
  | m + 1, p, q, h => h.elim (Pm_sound m p q) (fun h => (Pm_sound m p m h.1).trans (Pm_sound m m q h.2))
theorem Pm_mono {P : Pln} {n p q : Nat} (h : AskE P n p q) : ∀ m, Pm P n m p q
  | 0 => h
  | m + 1 => Or.inl (Pm_mono h m)
theorem Pm_tr {P : Pln} {n : Nat} : ∀ m p x q, x < m → Pm P n m p x → Pm P n m x q → Pm P n m p q
  | 0, _, _, _, hx, _, _ => absurd hx (by omega)
  | m + 1, p, x, q, hx, h1, h2 => by
    by_cases e : x = m
    · subst e
      exact Or.inr ⟨h1.elim id (fun h => h.1), h2.elim id (fun h => h.2)⟩
    · have hx' : x < m := by omega
      rcases h1 with h1 | h1
      · rcases h2 with h2 | h2
        · exact Or.inl (Pm_tr m p x q hx' h1 h2)
        · exact Or.inr ⟨Pm_tr m p x m hx' h1 h2.1, h2.2⟩
      · rcases h2 with h2 | h2
        · exact Or.inr ⟨h1.1, Pm_tr m m x q hx' h1.2 h2⟩
        · exact Or.inr ⟨h1.1, h2.2⟩
theorem Pm_iff {P : Pln} {n p q : Nat} (hn : n ≤ 10) : Pm P n 10 p q ↔ AR P n p q := by
  refine ⟨Pm_sound 10 p q, fun h => ?_⟩
  induction h using AR.ind with
  | one h => exact Pm_mono h 10
  | tail _ h ih => exact Pm_tr 10 _ _ _ (by have := h.1; omega) ih (Pm_mono h 10)
theorem wmid_eq (m : Nat) (b : Rw) (hm : m < 32) (p : Nat) : wmid m b p = if p < 10 ∧ B (b p) m then b p ||| b m else b p := by
  have : ∀ k p, it (wst m) k b p = if p < k ∧ B (b p) m then b p ||| b m else b p := by
    intro k
    induction k with
    | zero => intro p; simp [it]
    | succ k ih =>
      intro p
      have em : it (wst m) k b m = b m := by rw [ih]; split <;> simp
      have ek : it (wst m) k b k = b k := by rw [ih, if_neg (by omega)]
      show wst m k (it (wst m) k b) p = _
      generalize it (wst m) k b = z at ih em ek ⊢
      unfold wst
      rw [ek, em]
      by_cases hB : B (b k) m
      · rw [if_neg (by rw [hb_z hm]; exact fun q => q hB)]
        unfold upd
        by_cases e : p = k
        · subst e; simp [hB]
        · rw [if_neg e, ih]
          have : p < k ↔ p < k + 1 := by omega
          simp [this]
      · rw [if_pos ((hb_z hm).mpr hB), ih]
        by_cases e : p = k
        · subst e; simp [hB]
        · have : p < k ↔ p < k + 1 := by omega
          simp [this]
  exact this 10 p
theorem bt_nI (x : Nat) : ((1 : Int32) <<< (nI x &&& 31)) = bt x := rfl
/-- a row of bits laid together -/
theorem B_itor {f : Nat → Int32} {s : Nat} : ∀ {m : Nat} {x : Int32}, B (it (fun k a => a ||| f k) m x) s ↔ B x s ∨ ∃ k, k < m ∧ B (f k) s
  | 0, x => by simp [it]
  | m + 1, x => by
    show B (it (fun k a => a ||| f k) m x ||| f m) s ↔ _
    rw [B_or, B_itor]
    constructor
    · rintro ((h | ⟨k, hk, h⟩) | h)
      · exact Or.inl h
      · exact Or.inr ⟨k, by omega, h⟩
      · exact Or.inr ⟨m, by omega, h⟩
    · rintro (h | ⟨k, hk, h⟩)
      · exact Or.inl (Or.inl h)
      · by_cases e : k = m
        · subst e; exact Or.inr h
        · exact Or.inl (Or.inr ⟨k, by omega, h⟩)
/-- the sheets of the class's memory hold the plan -/
def shP (I : Nat → Nat → Int32) (n : Nat) (P : Pln) : Prop := P.ok n ∧ (∀ p, n ≤ p → P.ml p = 0) ∧ I 3 2 = nI n ∧ (∀ p, p < 10 → I (6 + 6 * p) 5 = nI (P.ml p)) ∧ ∀ p, p < n → ∀ k, k < P.ml p →
  I (6 + 6 * p + 1 + 0) k = nI (P.kd p k) ∧ I (6 + 6 * p + 1 + 1) k = nI (P.nu p k) ∧ I (6 + 6 * p + 1 + 2) k = nI (P.fs p k) ∧ (P.kd p k = 2 → I (6 + 6 * p + 1 + 3) k = nI (P.sc p k)) ∧ (P.kd p k = 1 → ∀ s, s < 32 → (B (I (6 + 6 * p + 1 + 4) k) s ↔ ∃ i, i < P.nu p k ∧ P.fr p k i = s))
theorem bel0_iff {I : Nat → Nat → Int32} {n : Nat} {P : Pln} (h : shP I n P) {p q : Nat} (hp : p < 10) (hq : q < 32) : B (bel0 I P.ml p) q ↔ AskE P n p q := by
  obtain ⟨hok, hz, -, -, hl⟩ := h
  unfold bel0
  by_cases hpn : p < n
  · rw [it_cg (g := fun k a => a ||| (if P.kd p k = 2 then bt (P.nu p k) else 0)) ?_, B_itor]
    · constructor
      · rintro (h | ⟨k, hk, h⟩)
        · exact absurd h B_0
        · by_cases e : P.kd p k = 2
          · rw [if_pos e, B_bt (by have := (hok.2.2 p hpn k hk).2.1; omega) hq] at h
            exact ⟨hpn, k, hk, e, h.symm⟩
          · rw [if_neg e] at h; exact absurd h B_0
      · rintro ⟨-, k, hk, e, rfl⟩
        refine Or.inr ⟨k, hk, ?_⟩
        rw [if_pos e, B_bt hq hq]
    · intro k a hk
      have hL := hl p hpn k hk
      have hk5 := (hok.2.2 p hpn k hk).1
      unfold hlp
      rw [hL.1, hL.2.1]
      by_cases e : P.kd p k = 2
      · rw [if_pos (by rw [e]; rfl), if_pos e]; rfl
      · rw [if_neg (by rw [show (2 : Int32) = nI 2 from rfl, nI_eq (by omega) (by omega)]; exact e), if_neg e]; simp
  · rw [hz p (by omega)]
    exact ⟨fun h => absurd h B_0, fun h => absurd h.1 hpn⟩
theorem bel_iff {I : Nat → Nat → Int32} {n : Nat} {P : Pln} (h : shP I n P) {p q : Nat} (hp : p < 10) (hq : q < 32) : B (bel I P.ml p) q ↔ AR P n p q := by
  have hall : ∀ m, m ≤ 10 → ∀ p, p < 10 → ∀ q, q < 32 → (B (it wmid m (bel0 I P.ml) p) q ↔ Pm P n m p q) := by
    intro m
    induction m with
    | zero => intro _ p hp q hq; exact bel0_iff h hp hq
    | succ m ih =>
      intro hm p hp q hq
      show B (wmid m (it wmid m (bel0 I P.ml)) p) q ↔ _
      rw [wmid_eq m _ (by omega)]
      have i1 := ih (by omega) p hp q hq
      have i2 := ih (by omega) p hp m (by omega)
      have i3 := ih (by omega) m (by omega) q hq
      show _ ↔ (Pm P n m p q ∨ (Pm P n m p m ∧ Pm P n m m q))
      by_cases hB : B (it wmid m (bel0 I P.ml) p) m
      · rw [if_pos ⟨hp, hB⟩, B_or, i1, i3]
        simp [i2.mp hB]
      · rw [if_neg (fun q => hB q.2), i1]
        exact ⟨Or.inl, fun z => z.elim id (fun y => absurd (i2.mpr y.1) hB)⟩
  unfold bel
  rw [hall 10 (Nat.le_refl _) p hp q hq, Pm_iff h.1.1]
theorem live_iff {I : Nat → Nat → Int32} {n : Nat} {P : Pln} (h : shP I n P) {p : Nat} (hp : p < 32) : B (if n = 0 then 0 else 1 ||| bel I P.ml 0) p ↔ Lv P n p := by
  unfold Lv
  by_cases hn : n = 0
  · subst hn; simp [B_0]
  · rw [if_neg hn, B_or, B1 hp, bel_iff h (by decide) hp]
    simp [show 0 < n by omega]
/-! ## the model's helpers -/
theorem hp_iff {P : Pln} {n part F : Nat} (hok : P.ok n) (hpa : part < n) (hE : whE (hpQ P n part) F 0) {q : Nat} (hq : q < 32) : B (wh (hpQ P n part) F 0) q ↔ AR P n part q := by
  have hh : ∀ p k, p < n → k < P.ml p → ∀ x : Int32, ∀ s, s < 32 → (B (hpK P p k x) s ↔ B x s ∨ (P.kd p k = 2 ∧ P.nu p k = s)) := by
    intro p k hp hk x s hs
    unfold hpK
    rw [B_or]
    by_cases e : P.kd p k = 2
    · rw [if_pos e, B_bt (by have := (hok.2.2 p hp k hk).2.1; omega) hs]
      constructor
      · rintro (a | a)
        · exact Or.inl a
        · exact Or.inr ⟨e, a.symm⟩
      · rintro (a | a)
        · exact Or.inl a
        · exact Or.inr a.2.symm
    · rw [if_neg e]; simp [B_0, e]
  have hgo : ∀ p, p < n → ∀ m, m ≤ P.ml p → ∀ x : Int32, ∀ s, s < 32 → (B (it (hpK P p) m x) s ↔ B x s ∨ ∃ k, k < m ∧ P.kd p k = 2 ∧ P.nu p k = s) := by
    intro p hp m
    induction m with
    | zero => intro _ x s _; simp [it]
    | succ m ih =>
      intro hm x s hs
      show B (hpK P p m (it (hpK P p) m x)) s ↔ _
      rw [hh p m hp (by omega) _ s hs, ih (by omega) x s hs]
      constructor
      · rintro ((a | ⟨k, hk, a⟩) | a)
        · exact Or.inl a
        · exact Or.inr ⟨k, by omega, a⟩
        · exact Or.inr ⟨m, by omega, a⟩
      · rintro (a | ⟨k, hk, a⟩)
        · exact Or.inl (Or.inl a)
        · by_cases e : k = m
          · subst e; exact Or.inr a
          · exact Or.inl (Or.inr ⟨k, by omega, a⟩)
  have hup : ∀ p, p < n → ∀ x : Int32, ∀ s, s < 32 → B x s → B (hpP P part p x) s := by
    intro p hp x s hs hx
    unfold hpP
    split
    · exact hx
    · exact (hgo p hp _ (Nat.le_refl _) x s hs).mpr (Or.inl hx)
  have hfix : ∀ x : Int32, (hpQ P n part x).2 = 0 → (hpQ P n part x).1 = x := by
    intro x h
    unfold hpQ fg at h
    by_cases e : it (hpP P part) n x = x
    · exact e
    · simp [e] at h
  have hF := wh_fix hfix F 0 hE
  have hF1 : it (hpP P part) n (wh (hpQ P n part) F 0) = wh (hpQ P n part) F 0 := congrArg Prod.fst hF
  constructor
  · · have : ∀ q, q < 32 → B (wh (hpQ P n part) F 0) q → AR P n part q := by
        refine wh_inv (q := hpQ P n part) (Inv := fun x => ∀ q, q < 32 → B x q → AR P n part q) (fun x hx => ?_) F 0 (fun q _ h => absurd h B_0)
        refine pit_inv (Q := fun x : Int32 => ∀ q, q < 32 → B x q → AR P n part q) hx (fun p y hp hy => ?_)
        unfold hpP
        split
        · exact hy
        · rename_i hc
          intro q hq hB
          rcases (hgo p hp _ (Nat.le_refl _) y q hq).mp hB with a | ⟨k, hk, a, b⟩
          · exact hy q hq a
          · have hA : AskE P n p q := ⟨hp, k, hk, a, b⟩
            by_cases e : p = part
            · subst e; exact .one hA
            · have hb : B y p := by
                apply Classical.byContradiction
                intro hn
                have := hok.1
                exact hc ⟨e, (sh_z (by omega)).mpr hn⟩
              have := hok.1
              exact .tail (hy p (by omega) hb) hA
      exact this q hq
  · have hmid : ∀ p, p < n → hpP P part p (wh (hpQ P n part) F 0) = wh (hpQ P n part) F 0 := by
      intro p hp
      have hmono : ∀ m, m ≤ n → ∀ s, s < 32 → B (wh (hpQ P n part) F 0) s → B (it (hpP P part) m (wh (hpQ P n part) F 0)) s := by
        intro m
        induction m with
        | zero => intro _ s _ h; exact h
        | succ m ih => intro hm s hs h; exact hup m (by omega) _ s hs (ih (by omega) s hs h)
      have hrest : ∀ d m, m + d = n → ∀ s, s < 32 → B (it (hpP P part) m (wh (hpQ P n part) F 0)) s → B (wh (hpQ P n part) F 0) s := by
        intro d
        induction d with
        | zero => intro m hm s hs h; rw [show m = n by omega, hF1] at h; exact h
        | succ d ih => intro m hm s hs h; exact ih (m + 1) (by omega) s hs (hup m (by omega) _ s hs h)
      have heq : ∀ m, m ≤ n → it (hpP P part) m (wh (hpQ P n part) F 0) = wh (hpQ P n part) F 0 := by
        intro m hm
        apply B_ext; intro s hs
        exact ⟨hrest (n - m) m (by omega) s hs, hmono m hm s hs⟩
      have h1 := heq (p + 1) (by omega)
      have h2 := heq p (by omega)
      have h3 : hpP P part p (it (hpP P part) p (wh (hpQ P n part) F 0)) = wh (hpQ P n part) F 0 := h1
      rwa [h2] at h3
    have hstep : ∀ p q, p < n → (p = part ∨ B (wh (hpQ P n part) F 0) p) → AskE P n p q → B (wh (hpQ P n part) F 0) q := by
      rintro p q hp hor ⟨-, k, hk, a, b⟩
      have hq : q < 32 := by have := (hok.2.2 p hp k hk).2.1; omega
      have e := hmid p hp
      have h10 := hok.1
      unfold hpP at e
      rw [if_neg ?_] at e
      · rw [← e]
        exact (hgo p hp _ (Nat.le_refl _) _ q hq).mpr (Or.inr ⟨k, hk, a, b⟩)
      · rintro ⟨c1, c2⟩
        rcases hor with r | r
        · exact c1 r
        · exact ((sh_z (by omega)).mp c2) r
    intro h
    induction h using AR.ind with
    | one h => exact hstep part _ hpa (Or.inl rfl) h
    | tail hh h ih => exact hstep _ _ h.1 (Or.inr (ih (by have := hok.1; have := h.1; omega))) h
theorem hp_fuel {P : Pln} {n part : Nat} : whE (hpQ P n part) (2 ^ 32 + 1) 0 := by
  refine whE_of (Inv := fun _ => True) (μ := fun x => 2 ^ 32 - val x) (fun x _ => ⟨trivial, fun h => ?_⟩) _ 0 trivial (by omega)
  have hsub : ∀ s, s < 32 → B x s → B (hpQ P n part x).1 s := by
    intro s hs hx
    refine pit_inv (Q := fun y : Int32 => B y s) hx (fun p y _ hy => ?_)
    unfold hpP
    split
    · exact hy
    · refine pit_inv (Q := fun y : Int32 => B y s) hy (fun k z _ hz => ?_)
      unfold hpK
      exact B_or.mpr (Or.inl hz)
  have hne : (hpQ P n part x).1 ≠ x := by
    intro e
    apply h
    show fg (hpQ P n part x).1 x = 0
    rw [e]; simp [fg]
  have := val_subL hsub hne
  have := val_lt (hpQ P n part x).1
  show 2 ^ 32 - val (hpQ P n part x).1 < 2 ^ 32 - val x
  omega
