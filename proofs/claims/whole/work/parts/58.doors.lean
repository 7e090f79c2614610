/-! ## the class's doors -/
theorem scA_iff {A : Nat → Nat → Int32} {n : Nat} {P : Pln} (hA : Fr A n P) {g pl s : Nat} (hpl : pl < 250) (hs : s < 32) : B (scA A n g pl) s ↔ Rg P n (A g) s pl := by
  unfold scA
  rw [B_itor]
  constructor
  · rintro (c | ⟨o, ho, c⟩)
    · exact absurd c B_0
    · obtain ⟨c1, c2⟩ := B_and.mp c
      exact ⟨o, ho, c2, (hA.2 o ho pl hpl s hs).mp c1⟩
  · rintro ⟨o, ho, c2, c1⟩
    exact Or.inr ⟨o, ho, B_and.mpr ⟨(hA.2 o ho pl hpl s hs).mpr c1, c2⟩⟩
theorem Rc_exit {P : Pln} {n o s p d : Nat} (hok : P.ok n) (hd : d < 16) : Rc P n o s (25 * p + (9 + d)) ↔ ∃ k, Lv P n p ∧ k < P.ml p ∧ P.kd p k = 3 ∧ P.nu p k = d ∧ Rc P n o s (25 * p + P.fs p k) := by
  constructor
  · intro h
    generalize e : 25 * p + (9 + d) = pl at h
    induction h using Rc.ind with
    | @seed k h1 h2 h3 h4 =>
      have := hok.2.2 o (Lv_lt hok h1) k h2
      omega
    | @step a b h1 h2 h3 _ =>
      obtain ⟨p', k, hL, hk, hl⟩ := h2
      have hp' := Lv_lt hok hL
      have hb := hok.2.2 p' hp' k hk
      rcases hl with ⟨c, _, e2⟩ | ⟨c, _, e2⟩ | ⟨c, _, e2⟩ | ⟨c, e1, e2⟩ | ⟨c, _, e2⟩
      · omega
      · omega
      · have := hb.2.2.2.1 c; omega
      · have ep : p' = p := by omega
        subst ep
        exact ⟨k, hL, hk, c, by omega, e1 ▸ h1⟩
      · omega
  · rintro ⟨k, hL, hk, h3, h4, hr⟩
    refine .step hr ⟨p, k, hL, hk, Or.inr (Or.inr (Or.inr (Or.inl ⟨h3, rfl, by rw [h4]⟩)))⟩ (fun q => ?_)
    have := (Wsh_name hok q).1
    omega
theorem lkR_iff {A : Nat → Nat → Int32} {n : Nat} {P : Pln} (hok : P.ok n) (hA : Fr A n P) {g d s : Nat} (hd : d < 16) (hs : s < 32) : B (lkR A n g d) s ↔ LK P n (A g) s d := by
  have h10 := hok.1
  have hin : ∀ p, p < n → ∀ d', d' < 16 → ∀ a : Rw, B (lkD A n g p d' a d) s ↔ B (a d) s ∨ (d' = d ∧ B (A 76 p &&& A g p) d ∧ Rg P n (A g) s (25 * p + (9 + d))) := by
    intro p hp d' hd' a
    unfold lkD
    by_cases hB : B (A 76 p &&& A g p) d'
    · rw [if_neg (by rw [hb_z (by omega)]; exact fun q => q hB)]
      simp only [upd]
      by_cases e : d = d'
      · subst e
        rw [if_pos rfl, B_or, scA_iff hA (by omega) hs]
        exact ⟨fun z => z.elim Or.inl (fun y => Or.inr ⟨rfl, hB, y⟩), fun z => z.elim Or.inl (fun y => Or.inr y.2.2)⟩
      · rw [if_neg e]
        exact ⟨Or.inl, fun z => z.elim id (fun y => absurd y.1.symm e)⟩
    · rw [if_pos ((hb_z (by omega)).mpr hB)]
      exact ⟨Or.inl, fun z => z.elim id (fun y => absurd (y.1 ▸ y.2.1) hB)⟩
  have hmid : ∀ p, p < n → ∀ a : Rw, B (lkP A n g p a d) s ↔ B (a d) s ∨ (B (A 76 p &&& A g p) d ∧ Rg P n (A g) s (25 * p + (9 + d))) := by
    intro p hp a
    unfold lkP
    by_cases h0 : A 76 p &&& A g p = 0
    · rw [if_pos h0]
      have : ¬ B (A 76 p &&& A g p) d := by rw [h0]; exact B_0
      simp [this]
    · rw [if_neg h0, it_or (R := fun a : Rw => B (a d) s) (fun d' hd' a => hin p hp d' hd' a)]
      constructor
      · rintro (c | ⟨d', _, _, c⟩)
        · exact Or.inl c
        · exact Or.inr c
      · rintro (c | c)
        · exact Or.inl c
        · exact Or.inr ⟨d, hd, rfl, c⟩
  unfold lkR
  rw [it_or (R := fun a : Rw => B (a d) s) (fun p hp a => hmid p hp a)]
  constructor
  · rintro (c | ⟨p, hp, c1, o, ho, c2, c3⟩)
    · exact absurd c B_0
    · obtain ⟨k, q1, q2, q3, q4, q5⟩ := (Rc_exit hok hd).mp c3
      exact ⟨p, k, q1, q2, q3, q4, (B_and.mp c1).2, o, ho, c2, q5⟩
  · rintro ⟨p, k, q1, q2, q3, q4, hg, o, ho, c2, q5⟩
    have hp := Lv_lt hok q1
    refine Or.inr ⟨p, hp, B_and.mpr ⟨(hA.1.2.2.2.1 p (by omega) d (by omega)).mpr ⟨q1, k, q2, q3, q4⟩, hg⟩, o, ho, c2, ?_⟩
    exact (Rc_exit hok hd).mpr ⟨k, q1, q2, q3, q4, q5⟩
theorem LK_cg {P : Pln} {n : Nat} {g g' : Rw} (hok : P.ok n) (h : ∀ p, p < n → g p = g' p) {s d : Nat} : LK P n g s d ↔ LK P n g' s d := by
  constructor
  · exact LK_need (fun p s hp _ q => h p hp ▸ q) hok
  · exact LK_need (fun p s hp _ q => (h p hp).symm ▸ q) hok
theorem Rg_cg {P : Pln} {n : Nat} {g g' : Rw} (h : ∀ p, p < n → g p = g' p) {s pl : Nat} : Rg P n g s pl ↔ Rg P n g' s pl := by
  constructor
  · rintro ⟨o, ho, a, b⟩; exact ⟨o, ho, h o ho ▸ a, b⟩
  · rintro ⟨o, ho, a, b⟩; exact ⟨o, ho, (h o ho).symm ▸ a, b⟩
/-! ## a table by doors and by secrets -/
def TR (x y : Rw) : Prop := (∀ d, d < 16 → W16 (x d)) ∧ (∀ s, s < 16 → W16 (y s)) ∧ ∀ s, s < 16 → ∀ d, d < 16 → (B (x d) s ↔ B (y s) d)
theorem TR_lk {A : Nat → Nat → Int32} {n F F2 : Nat} {P : Pln} (hok : P.ok n) (hA : Fr A n P) {gi : Nat} {g : Rw} (hg : ∀ p, p < n → A gi p = g p) (hfu : fuOK P n g F F2) : TR (lkR A n gi) (wL P n g F F2) := by
  refine ⟨fun d hd s hs hB => ?_, fun s hs d hd hB => ?_, fun s hs d hd => ?_⟩
  · have := (LK_lt hok ((lkR_iff hok hA hd (B_lt hB)).mp hB)).1; omega
  · have := (LK_lt hok ((wL_iff hok hfu (B_lt hB)).mp hB).2).2; omega
  · rw [lkR_iff hok hA hd (by omega), wL_iff hok hfu (by omega), LK_cg hok hg]
    simp [hs]
theorem TR_an {x y t m : Rw} (h1 : TR x y) (h2 : TR t m) : TR (fun d => x d &&& (t d ^^^ (-1))) (fun s => y s &&& (m s ^^^ (-1))) := by
  refine ⟨fun d hd => W16_andl (h1.1 d hd), fun s hs => W16_andl (h1.2.1 s hs), fun s hs d hd => ?_⟩
  rw [B_and, B_and, B_not (by omega), B_not (by omega), h1.2.2 s hs d hd, h2.2.2 s hs d hd]
theorem TR_a {x y t m : Rw} (h1 : TR x y) (h2 : TR t m) : TR (fun d => x d &&& t d) (fun s => y s &&& m s) := by
  refine ⟨fun d hd => W16_andl (h1.1 d hd), fun s hs => W16_andl (h1.2.1 s hs), fun s hs d hd => ?_⟩
  rw [B_and, B_and, h1.2.2 s hs d hd, h2.2.2 s hs d hd]
theorem TR_cg {x x' y y' : Rw} (h : TR x y) (hx : ∀ d, d < 16 → x' d = x d) (hy : ∀ s, s < 16 → y' s = y s) : TR x' y' := by
  refine ⟨fun d hd => hx d hd ▸ h.1 d hd, fun s hs => hy s hs ▸ h.2.1 s hs, fun s hs d hd => ?_⟩
  rw [hx d hd, hy s hs]; exact h.2.2 s hs d hd
def trC (x : Rw) : Nat := sm (fun d => cb (x d) 16) 16
theorem trC_le (x : Rw) : trC x ≤ 256 := by
  have := sm_le (f := fun d => cb (x d) 16) (b := 16) 16 (fun i _ => cb_le _ 16)
  unfold trC; omega
theorem TR_C {x y : Rw} (h : TR x y) : trC x = trC y := by
  unfold trC
  rw [sm_congr 16 (g := fun d => sm (fun s => if B (x d) s then 1 else 0) 16) (fun d _ => cb_sm _ _), sm_swap, sm_congr 16 (f := fun s => cb (y s) 16) (g := fun s => sm (fun d => if B (y s) d then 1 else 0) 16) (fun d _ => cb_sm _ _)]
  refine sm_congr 16 (fun s hs => sm_congr 16 (fun d hd => ?_))
  show (if B (x d) s then 1 else 0) = _
  have := h.2.2 s hs d hd
  by_cases e : B (x d) s
  · rw [if_pos e, if_pos (this.mp e)]
  · rw [if_neg e, if_neg (fun q => e (this.mpr q))]
theorem bc_sum {x : Rw} (h : ∀ d, d < 16 → W16 (x d)) : it (fun d a => a + bc (x d)) 16 0 = nI (trC x) := it_sum 16 (fun d hd => bc_cb (h d hd))
theorem bts_sum {x : Rw} (h : ∀ d, d < 16 → W16 (x d)) : it (fun d a => a + bts 32 (x d) 0) 16 0 = nI (trC x) := it_sum 16 (fun d hd => bts_cb (h d hd))
theorem trC_split {x t : Rw} : trC (fun d => x d &&& (t d ^^^ (-1))) + trC (fun d => x d &&& t d) = trC x := by
  unfold trC
  rw [← sm_add]
  refine sm_congr 16 (fun d hd => ?_)
  rw [cb_sm, cb_sm, cb_sm, ← sm_add]
  refine sm_congr 16 (fun s hs => ?_)
  simp only [B_and, B_not (show s < 32 by omega)]
  by_cases h1 : B (x d) s
  · by_cases h2 : B (t d) s
    · rw [if_neg (fun z => z.2 h2), if_pos ⟨h1, h2⟩, if_pos h1]
    · rw [if_pos ⟨h1, h2⟩, if_neg (fun z => h2 z.2), if_pos h1]
  · rw [if_neg (fun z => h1 z.1), if_neg (fun z => h1 z.1), if_neg h1]
theorem mAt_eq {x y : Rw} (h : TR x y) (i : Int32) : ∀ (f q : Nat) (b : Int32), q + f ≤ 256 → mAt x i f q b = mAtM y i f q b
  | 0, _, _, _ => rfl
  | f + 1, q, b, hq => by
    have hT := h.2.2 (q / 16) (by omega) (q % 16) (Nat.mod_lt _ (by decide))
    have i1 : hb (x (q % 16)) (nI (q / 16)) = 0 ↔ y (q / 16) &&& bt (q % 16) = 0 := by
      rw [hb_z (by omega), and_bt (by omega), hT]
    unfold mAt mAtM
    by_cases e : hb (x (q % 16)) (nI (q / 16)) = 0
    · rw [if_pos e, if_pos (i1.mp e)]; exact mAt_eq h i f (q + 1) b (by omega)
    · rw [if_neg e, if_neg (fun z => e (i1.mpr z)), mAt_eq h i f (q + 1) (b + 1) (by omega)]
theorem door_eq {x y : Rw} (h : TR x y) {d : Nat} (hd : d < 16) : x d = it (fun s z => z ||| (((y s >>> (nI d &&& 31)) &&& 1) <<< (nI s &&& 31))) 16 0 := by
  apply B_ext
  intro b hb
  rw [B_itor]
  constructor
  · intro hB
    have hb16 : b < 16 := by
      apply Classical.byContradiction; intro q; exact h.1 d hd b (by omega) hB
    refine Or.inr ⟨b, hb16, ?_⟩
    rw [shl_if _ (by omega), if_pos ((h.2.2 b hb16 d hd).mp hB), B_bt hb hb]
  · rintro (c | ⟨s, hs, c⟩)
    · exact absurd c B_0
    · rw [shl_if _ (by omega)] at c
      by_cases e : B (y s) d
      · rw [if_pos e, B_bt (by omega) hb] at c
        subst c
        exact (h.2.2 b hs d hd).mpr e
      · rw [if_neg e] at c; exact absurd c B_0
/-! ## the counts of both -/
theorem msF_eq {A : Nat → Nat → Int32} {x t : Rw} {y m : Rw} (h94 : ∀ d, d < 16 → A 94 d = x d) (h93 : ∀ d, d < 16 → A 93 d = t d) (h1 : TR x y) (h2 : TR t m) : msF A = nI (trC (fun d => x d &&& (t d ^^^ (-1)))) ∧ mMis y m = nI (trC (fun d => x d &&& (t d ^^^ (-1)))) ∧ svF A = nI (trC (fun d => x d &&& t d)) ∧ mSrv y m = nI (trC (fun d => x d &&& t d)) := by
  have e1 := TR_an h1 h2
  have e2 := TR_a h1 h2
  refine ⟨?_, ?_, ?_, ?_⟩
  · unfold msF
    rw [← bc_sum e1.1]
    exact it_cg (fun d a hd => by rw [h94 d hd, h93 d hd])
  · unfold mMis
    rw [TR_C e1, ← bts_sum e1.2.1]
  · unfold svF
    rw [← bc_sum e2.1]
    exact it_cg (fun d a hd => by rw [h94 d hd, h93 d hd])
  · unfold mSrv
    rw [TR_C e2, ← bts_sum e2.2.1]
/-! ## rights that are used -/
theorem use_eq {A : Nat → Nat → Int32} {n F : Nat} {P : Pln} (hok : P.ok n) (hA : Nf A n P) (hE : whE (akQ P n) F (ak0 n)) {p : Nat} (hp : p < n) : A 75 p ||| A 76 p = nP P (wA P n F) p := by
  have h10 := hok.1
  apply B_ext
  intro b hb
  rw [B_or, hA.2.2.1 p (by omega) b hb, hA.2.2.2.1 p (by omega) b hb, nP_iff hok hE hp hb]
  unfold Nd
  constructor
  · rintro (⟨h1, k, h2, h3, h4⟩ | ⟨h1, k, h2, h3, h4⟩)
    · exact ⟨h1, k, h2, Or.inl h3, h4⟩
    · exact ⟨h1, k, h2, Or.inr h3, h4⟩
  · rintro ⟨h1, k, h2, h3 | h3, h4⟩
    · exact Or.inl ⟨h1, k, h2, h3, h4⟩
    · exact Or.inr ⟨h1, k, h2, h3, h4⟩
theorem nP_W16 {P : Pln} {n F : Nat} (hok : P.ok n) (hE : whE (akQ P n) F (ak0 n)) {p : Nat} (hp : p < n) : W16 (nP P (wA P n F) p) := fun s hs h => by
  have := Nd_lt hok ((nP_iff hok hE hp (B_lt h)).mp h); omega
theorem live_eq {A : Nat → Nat → Int32} {n F : Nat} {P : Pln} (hok : P.ok n) (hA : Nf A n P) (hE : whE (akQ P n) F (ak0 n)) {p : Nat} (hp : p < n) : hb (A 73 10) (nI p) = if wA P n F p = 0 then 0 else 1 := by
  have h10 := hok.1
  have h1 := hb_z (x := A 73 10) (s := p) (by omega)
  rw [hA.1 p (by omega), ← wA_iff hok hE p] at h1
  by_cases e : wA P n F p = 0
  · rw [if_pos e]; exact h1.mpr (fun q => q e)
  · rw [if_neg e]
    have : ¬ hb (A 73 10) (nI p) = 0 := fun q => (h1.mp q) e
    unfold hb at this ⊢
    split
    · rfl
    · rename_i q; rw [if_neg q] at this; exact absurd rfl this
/-- helpers -/
theorem help_eq {A : Nat → Nat → Int32} {n F F3 : Nat} {P : Pln} (hok : P.ok n) (hA : Nf A n P) (hE : whE (akQ P n) F (ak0 n)) {p : Nat} (hp : p < n) {g : Rw} (hg : ∀ p, p < n → A 4 p = g p) (hna : ¬ wA P n F p = 0) (hE3 : whE (hpQ P n p) F3 0) : hlF A n p &&& (A 4 p ^^^ (-1)) = hpF P n (wA P n F) g p (wh (hpQ P n p) F3 0) := by
  have h10 := hok.1
  unfold hlF hpF
  rw [if_neg (by rw [live_eq hok hA hE hp, if_neg hna]; decide), hg p hp]
  congr 1
  refine it_cg (fun o a ho => ?_)
  unfold hpS
  have h1 : B (A 74 p) o ↔ AR P n p o := hA.2.1 p (by omega) o (by omega)
  have h2 := hp_iff hok hp hE3 (q := o) (by omega)
  rw [use_eq hok hA hE ho, hg o ho]
  by_cases e : AR P n p o
  · rw [if_neg (by rw [hb_z (by omega)]; exact fun q => q (h1.mpr e)), if_pos ((sh_1 (by omega)).mpr (h2.mpr e)), Int32.and_comm]
  · rw [if_pos ((hb_z (by omega)).mpr (fun q => e (h1.mp q))), if_neg (fun q => e (h2.mp ((sh_1 (by omega)).mp q)))]; simp
theorem help_0 {A : Nat → Nat → Int32} {n F : Nat} {P : Pln} (hok : P.ok n) (hA : Nf A n P) (hE : whE (akQ P n) F (ak0 n)) {p : Nat} (hp : p < n) (hna : wA P n F p = 0) : hlF A n p = 0 := by
  unfold hlF
  rw [if_pos (by rw [live_eq hok hA hE hp, if_pos hna])]
/-- trimming -/
theorem trim_eq {A : Nat → Nat → Int32} {n F : Nat} {P : Pln} (hok : P.ok n) (hA : Nf A n P) (hE : whE (akQ P n) F (ak0 n)) {g g' : Rw} (hg : ∀ p, p < 10 → g' p = g p) (hW : ∀ p, p < 10 → W16 (g p)) : (it (tmF A) n (0, g')).1 = (it (tmM P (wA P n F)) n (0, g)).1 ∧ ∀ p, p < 10 → (it (tmF A) n (0, g')).2 p = (it (tmM P (wA P n F)) n (0, g)).2 p ∧ W16 ((it (tmM P (wA P n F)) n (0, g)).2 p) := by
  have h10 := hok.1
  refine it_rel (Q := fun (s t : Int32 × Rw) => s.1 = t.1 ∧ ∀ p, p < 10 → s.2 p = t.2 p ∧ W16 (t.2 p)) ⟨rfl, fun p hp => ⟨hg p hp, hW p hp⟩⟩ (fun p s t hp hst => ?_)
  obtain ⟨e1, e2⟩ := hst
  unfold tmF tmM
  have hu := use_eq hok hA hE hp
  have hs := e2 p (by omega)
  have hw := hs.2
  simp only [hu, hs.1, e1]
  refine ⟨by rw [bc_cb (W16_andl hw), bts_cb (W16_andl hw)], fun q hq => ?_⟩
  unfold upd
  by_cases e : q = p
  · subst e
    simp only [if_true]
    refine ⟨?_, W16_andl hw⟩
    apply B_ext
    intro b hb
    rw [B_and, B_and, B_not hb, B_and, B_not hb]
    constructor
    · rintro ⟨a, c⟩; exact ⟨a, fun z => z.2 c⟩
    · rintro ⟨a, c⟩; exact ⟨a, Classical.byContradiction fun z => c ⟨a, z⟩⟩
  · simp only [if_neg e]; exact e2 q hq
