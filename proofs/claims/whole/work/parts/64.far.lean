/-! ## how far it is to a door: the class -/
def Dc (P : Pln) (n : Nat) (g : Rw) (sec door : Nat) : Nat → Nat → Prop
  | 0, pl => ∃ p, p < n ∧ B (g p) door ∧ pl = 25 * p + (9 + door)
  | m + 1, pl => ∃ b, Lk P n pl b ∧ ¬ Wsh P n b sec ∧ Dc P n g sec door m b
theorem plc_n {q nm : Nat} (h : nm < 8) (hq : q < 10) : plc (8 * q + nm) = 25 * q + nm := by
  unfold plc; rw [if_pos (by omega), show (8 * q + nm) / 8 = q by omega, show (8 * q + nm) % 8 = nm by omega]
theorem plc_r {q : Nat} : plc (80 + q) = 25 * q + 8 := by
  unfold plc; rw [if_neg (by omega), show 80 + q - 80 = q by omega]
theorem plc_inj {a b : Nat} (ha : a < 90) (hb : b < 90) (h : plc a = plc b) : a = b := by
  unfold plc at h
  by_cases h1 : a < 80 <;> by_cases h2 : b < 80 <;> simp only [h1, h2, if_true, if_false] at h <;> omega
theorem plc_lt {a : Nat} (ha : a < 90) : plc a < 250 ∧ plc a % 25 ≤ 8 := by
  unfold plc; split <;> omega
theorem LkA_to {P : Pln} {n p k a b : Nat} (hok : P.ok n) (hp : p < n) (hk : k < P.ml p) (h : LkA P p k a b) : (P.kd p k = 3 ∧ b = 25 * p + (9 + P.nu p k) ∧ a = 25 * p + P.fs p k) ∨ ∃ t, t < 90 ∧ b = plc t := by
  have hb := hok.2.2 p hp k hk
  have h10 := hok.1
  rcases h with ⟨h1, _, rfl⟩ | ⟨h2, _, rfl⟩ | ⟨h2, _, rfl⟩ | ⟨h3, rfl, rfl⟩ | ⟨h5, _, rfl⟩
  · exact Or.inr ⟨8 * p + P.fs p k, by omega, (plc_n (by omega) (by omega)).symm⟩
  · have := hb.2.2.2.1 h2
    exact Or.inr ⟨8 * P.nu p k + 0, by omega, (plc_n (by omega) (by omega)).symm⟩
  · have := hb.2.2.2.1 h2
    exact Or.inr ⟨8 * p + P.sc p k, by omega, (plc_n (by omega) (by omega)).symm⟩
  · exact Or.inl ⟨h3, rfl, rfl⟩
  · exact Or.inr ⟨80 + p, by omega, plc_r.symm⟩
theorem Lk_from {P : Pln} {n a b : Nat} (hok : P.ok n) (h : Lk P n a b) : ∃ st, st < 90 ∧ a = plc st := by
  obtain ⟨p, k, hL, hk, h⟩ := h
  have hp := Lv_lt hok hL
  have hb := hok.2.2 p hp k hk
  have h10 := hok.1
  rcases h with ⟨h1, ⟨i, hi, rfl⟩, _⟩ | ⟨h2, rfl, _⟩ | ⟨h2, rfl, _⟩ | ⟨h3, rfl, _⟩ | ⟨h5, rfl, _⟩
  · have := (hb.2.2.2.2 h1).2 i hi
    exact ⟨8 * p + P.fr p k i, by omega, (plc_n (by omega) (by omega)).symm⟩
  · exact ⟨8 * p + P.fs p k, by omega, (plc_n (by omega) (by omega)).symm⟩
  · have := hb.2.2.2.1 h2
    exact ⟨80 + P.nu p k, by omega, plc_r.symm⟩
  · exact ⟨8 * p + P.fs p k, by omega, (plc_n (by omega) (by omega)).symm⟩
  · exact ⟨8 * p + P.fs p k, by omega, (plc_n (by omega) (by omega)).symm⟩
theorem Dc_exit {P : Pln} {n : Nat} {g : Rw} {sec door m p d : Nat} (hok : P.ok n) (hd : d < 16) (hdo : door < 16) (h : Dc P n g sec door m (25 * p + (9 + d))) : m = 0 ∧ d = door ∧ B (g p) door := by
  cases m with
  | zero =>
    obtain ⟨p', hp', hB, e⟩ := h
    have e1 : p' = p := by omega
    subst e1
    exact ⟨rfl, by omega, hB⟩
  | succ m =>
    obtain ⟨b, hl, _⟩ := h
    obtain ⟨st, hst, e⟩ := Lk_from hok hl
    have := (plc_lt hst).2
    omega
theorem Dc_Dm {P : Pln} {n F : Nat} {g : Rw} (hok : P.ok n) (hE : whE (akQ P n) F (ak0 n)) {sec door : Nat} (hsec : sec < 16) (hdo : door < 16) : ∀ (m st : Nat), st < 90 → (Dc P n g sec door m (plc st) ↔ Dm P n (wS P n g F).2 g sec door m st)
  | 0, st, hst => by
    constructor
    · rintro ⟨p, _, _, e⟩
      have := (plc_lt hst).2
      omega
    · intro h; exact absurd (show st = 90 from h) (by omega)
  | m + 1, st, hst => by
    constructor
    · rintro ⟨b, ⟨p, k, hL, hk, hl⟩, hw, hd⟩
      have hp := Lv_lt hok hL
      have hbd := hok.2.2 p hp k hk
      rcases LkA_to hok hp hk hl with ⟨h3, e1, e2⟩ | ⟨t, ht, rfl⟩
      · subst e1
        obtain ⟨rfl, e3, hB⟩ := Dc_exit hok (by omega) hdo hd
        exact ⟨p, k, 90, hL, hk, (ldN_iff hok hE hp hk hsec hdo hst).mpr (Or.inr ⟨rfl, h3, e2, e3, hB⟩), rfl⟩
      · exact ⟨p, k, t, hL, hk, (ldN_iff hok hE hp hk hsec hdo hst).mpr (Or.inl ⟨ht, hl, hw⟩), (Dc_Dm hok hE hsec hdo m t ht).mp hd⟩
    · rintro ⟨p, k, t, hL, hk, hl, hd⟩
      have hp := Lv_lt hok hL
      have hbd := hok.2.2 p hp k hk
      rcases (ldN_iff hok hE hp hk hsec hdo hst).mp hl with ⟨ht, h1, h2⟩ | ⟨rfl, h3, e2, e3, hB⟩
      · exact ⟨plc t, ⟨p, k, hL, hk, h1⟩, h2, (Dc_Dm hok hE hsec hdo m t ht).mpr hd⟩
      · have hm : m = 0 := by
          apply Classical.byContradiction; intro q
          have := (Dm_lt hok m 90 hd).2 (by omega)
          omega
        subst hm
        refine ⟨25 * p + (9 + P.nu p k), ⟨p, k, hL, hk, Or.inr (Or.inr (Or.inr (Or.inl ⟨h3, e2, rfl⟩)))⟩, fun q => ?_, p, hp, hB, by rw [e3]⟩
        have := (Wsh_name hok q).1
        omega
theorem Dc_90 {P : Pln} {n F : Nat} {g : Rw} (hok : P.ok n) (hE : whE (akQ P n) F (ak0 n)) {sec door : Nat} (hsec : sec < 16) (hdo : door < 16) {m pl : Nat} (h : Dc P n g sec door m pl) : ∃ j, j ≤ 90 ∧ Dc P n g sec door j pl := by
  cases m with
  | zero => exact ⟨0, by omega, h⟩
  | succ m =>
    obtain ⟨st, hst, rfl⟩ : ∃ st, st < 90 ∧ pl = plc st := by
      obtain ⟨b, hl, _⟩ := h
      exact Lk_from hok hl
    obtain ⟨j, hj, h2⟩ := Dm_90 hok ((Dc_Dm hok hE hsec hdo _ st hst).mp h)
    exact ⟨j, hj, (Dc_Dm hok hE hsec hdo j st hst).mpr h2⟩
def Vf (f : Rw) : Prop := ∀ pl, pl < 250 → f pl = nI (cn (f pl)) ∧ cn (f pl) ≤ 1000
theorem me1_at {A : Nat → Nat → Int32} {n : Nat} {P : Pln} (hok : P.ok n) (hA : Nf A n P) {sec : Nat} (hsec : sec < 16) {i : Nat} {x : L3} (hx : (llP P n n)[i]? = some x) (z : Rw × Int32) (hV : Vf z.1) :
    Vf (me1 (A 78) (A 79) (A 77) (nI sec) i z).1 ∧ (∀ pl, pl < 250 → cn ((me1 (A 78) (A 79) (A 77) (nI sec) i z).1 pl) ≤ cn (z.1 pl)) ∧ (¬ Wsh P n x.2.1 sec → cn ((me1 (A 78) (A 79) (A 77) (nI sec) i z).1 x.1) ≤ cn (z.1 x.2.1) + 1) ∧
    (∀ pl, pl < 250 → cn ((me1 (A 78) (A 79) (A 77) (nI sec) i z).1 pl) = cn (z.1 pl) ∨ (pl = x.1 ∧ ¬ Wsh P n x.2.1 sec ∧ cn ((me1 (A 78) (A 79) (A 77) (nI sec) i z).1 pl) = cn (z.1 x.2.1) + 1 ∧ cn (z.1 x.2.1) < 999)) ∧
    ((me1 (A 78) (A 79) (A 77) (nI sec) i z).2 = 0 → me1 (A 78) (A 79) (A 77) (nI sec) i z = z) ∧ Lk P n x.1 x.2.1 := by
  obtain ⟨h1, h2, h3, h4, h5, h6⟩ := hA
  obtain ⟨g1, g2, g3⟩ := h6.2 i x hx
  have hlk : Lk P n x.1 x.2.1 := (LL_mem hok).mp ⟨x.2.2, List.mem_of_getElem? hx⟩
  obtain ⟨b1, b2⟩ := Lk_lt hok hlk
  have e1 : cn (A 78 i) = x.1 := by rw [g1]; exact nI_clamp (by omega)
  have e2 : cn (A 79 i) = x.2.1 := by rw [g2]; exact nI_clamp (by omega)
  obtain ⟨va, vb⟩ := hV x.1 b1
  obtain ⟨wa, wb⟩ := hV x.2.1 b2
  have hw := h5 x.2.1 b2 sec (by omega)
  have ht : thr (A 79) (A 77) (nI sec) z.1 i = if hb (A 77 x.2.1) (nI sec) = 0 then z.1 x.2.1 + 1 else 1000 := by unfold thr; rw [e2]
  have hadd : z.1 x.2.1 + 1 = nI (cn (z.1 x.2.1) + 1) := by
    conv => lhs; rw [wa]
    rw [show (1 : Int32) = nI 1 from rfl, nI_add]
  -- the value through
  obtain ⟨tv, htv, htl, hcase⟩ : ∃ tv, thr (A 79) (A 77) (nI sec) z.1 i = nI tv ∧ tv ≤ 1001 ∧ ((¬ Wsh P n x.2.1 sec ∧ tv = cn (z.1 x.2.1) + 1) ∨ (Wsh P n x.2.1 sec ∧ tv = 1000)) := by
    by_cases q : Wsh P n x.2.1 sec
    · refine ⟨1000, ?_, by omega, Or.inr ⟨q, rfl⟩⟩
      rw [ht, if_neg (by rw [hb_z (by omega)]; exact fun y => y (hw.mpr q))]; rfl
    · refine ⟨cn (z.1 x.2.1) + 1, ?_, by omega, Or.inl ⟨q, rfl⟩⟩
      rw [ht, if_pos ((hb_z (by omega)).mpr (fun y => q (hw.mp y))), hadd]
  have hcmp : nI tv < z.1 x.1 ↔ tv < cn (z.1 x.1) := by
    conv => lhs; rw [va]
    exact nI_ltI (by omega) (by omega)
  have hcmp2 : z.1 x.1 ≤ nI tv ↔ cn (z.1 x.1) ≤ tv := by
    conv => lhs; rw [va]
    exact nI_leI (by omega) (by omega)
  unfold me1
  rw [e1, htv]
  by_cases hlt : tv < cn (z.1 x.1)
  · rw [if_pos (hcmp.mpr hlt), if_neg (fun q => by have := hcmp2.mp q; omega)]
    have hcn : cn (nI tv) = tv := nI_clamp (by omega)
    refine ⟨fun pl hpl => ?_, fun pl hpl => ?_, fun q => ?_, fun pl hpl => ?_, fun q => ?_, hlk⟩
    · simp only [upd]
      by_cases e : pl = x.1
      · rw [if_pos e, hcn]; exact ⟨rfl, by omega⟩
      · rw [if_neg e]; exact hV pl hpl
    · simp only [upd]
      by_cases e : pl = x.1
      · rw [if_pos e, hcn, e]; omega
      · rw [if_neg e]; exact Nat.le_refl _
    · simp only [upd, if_true]
      rw [hcn]
      rcases hcase with c | c
      · omega
      · exact absurd c.1 q
    · simp only [upd]
      by_cases e : pl = x.1
      · rw [if_pos e, hcn]
        rcases hcase with c | c
        · exact Or.inr ⟨e, c.1, c.2, by omega⟩
        · omega
      · rw [if_neg e]; exact Or.inl rfl
    · exact absurd (or_z.mp q).2 (show ¬ (1 : Int32) = 0 by decide)
  · rw [if_neg (fun q => hlt (hcmp.mp q)), if_pos (hcmp2.mpr (by omega)), upd_same]
    refine ⟨hV, fun _ _ => Nat.le_refl _, fun q => ?_, fun _ _ => Or.inl rfl, fun q => ?_, hlk⟩
    · rcases hcase with c | c
      · show cn (z.1 x.1) ≤ _
        omega
      · exact absurd c.1 q
    · simp
theorem far_all {A : Nat → Nat → Int32} {n F : Nat} {P : Pln} (hok : P.ok n) (hE : whE (akQ P n) F (ak0 n)) (hA : Nf A n P) {sec door : Nat} (hsec : sec < 16) (hdo : door < 16) {g : Rw} (hg : ∀ p, p < n → A 4 p = g p) {pl : Nat} (hpl : pl < 250) : ∃ v, meR A n (nI sec) door (llP P n n).length pl = nI v ∧ isD (Dc P n g sec door) 1000 v pl := by
  have h10 := hok.1
  have hget : ∀ i, i < (llP P n n).length → ∃ x, (llP P n n)[i]? = some x := fun i hi => ⟨_, List.getElem?_eq_getElem hi⟩
  -- the start
  have hst : Vf (it (me0 A door) n (fun _ => 1000)) ∧ ∀ pl, pl < 250 → (cn (it (me0 A door) n (fun _ => 1000) pl) < 1000 → Dc P n g sec door 0 pl ∧ cn (it (me0 A door) n (fun _ => 1000) pl) = 0) ∧ (Dc P n g sec door 0 pl → cn (it (me0 A door) n (fun _ => 1000) pl) = 0) := by
    have hk : ∀ m, m ≤ n → ∀ pl, it (me0 A door) m (fun _ => 1000) pl = nI 1000 ∧ (¬ ∃ p, p < m ∧ B (g p) door ∧ pl = 25 * p + (9 + door)) ∨ it (me0 A door) m (fun _ => 1000) pl = nI 0 ∧ ∃ p, p < m ∧ B (g p) door ∧ pl = 25 * p + (9 + door) := by
      intro m
      induction m with
      | zero => intro _ pl; exact Or.inl ⟨rfl, fun ⟨p, hp, _⟩ => absurd hp (by omega)⟩
      | succ m ih =>
        intro hm pl
        have ih := ih (by omega) pl
        show me0 A door m (it (me0 A door) m (fun _ => 1000)) pl = nI 1000 ∧ _ ∨ me0 A door m (it (me0 A door) m (fun _ => 1000)) pl = nI 0 ∧ _
        generalize it (me0 A door) m (fun _ => 1000) = f at ih ⊢
        unfold me0
        rw [hg m (by omega)]
        by_cases hB : B (g m) door
        · rw [if_neg (by rw [hb_z (by omega)]; exact fun q => q hB)]
          unfold upd
          by_cases e : pl = 25 * m + (9 + door)
          · rw [if_pos e]
            exact Or.inr ⟨rfl, m, by omega, hB, e⟩
          · rw [if_neg e]
            rcases ih with ⟨q1, q2⟩ | ⟨q1, p, q2, q3⟩
            · refine Or.inl ⟨q1, fun ⟨p, r1, r2, r3⟩ => ?_⟩
              by_cases e2 : p = m
              · subst e2; exact e r3
              · exact q2 ⟨p, by omega, r2, r3⟩
            · exact Or.inr ⟨q1, p, by omega, q3⟩
        · rw [if_pos ((hb_z (by omega)).mpr hB)]
          rcases ih with ⟨q1, q2⟩ | ⟨q1, p, q2, q3⟩
          · refine Or.inl ⟨q1, fun ⟨p, r1, r2, r3⟩ => ?_⟩
            by_cases e2 : p = m
            · subst e2; exact hB r2
            · exact q2 ⟨p, by omega, r2, r3⟩
          · exact Or.inr ⟨q1, p, by omega, q3⟩
    have hk := hk n (Nat.le_refl _)
    have c0 : cn (nI 0) = 0 := rfl
    have c1 : cn (nI 1000) = 1000 := rfl
    refine ⟨fun pl hpl => ?_, fun pl hpl => ⟨fun q => ?_, fun q => ?_⟩⟩
    · rcases hk pl with ⟨q1, _⟩ | ⟨q1, _⟩
      · rw [q1, c1]; exact ⟨rfl, by omega⟩
      · rw [q1, c0]; exact ⟨rfl, by omega⟩
    · rcases hk pl with ⟨q1, _⟩ | ⟨q1, q2⟩
      · rw [q1, c1] at q; omega
      · rw [q1, c0]; exact ⟨q2, rfl⟩
    · rcases hk pl with ⟨q1, q2⟩ | ⟨q1, _⟩
      · exact absurd q q2
      · rw [q1, c0]
  -- what holds all the way: values are ways
  let SI : Rw → Prop := fun f => Vf f ∧ ∀ pl, pl < 250 → cn (f pl) < 1000 → Dc P n g sec door (cn (f pl)) pl
  have hin : ∀ i, i < (llP P n n).length → ∀ z : Rw × Int32, SI z.1 → SI (me1 (A 78) (A 79) (A 77) (nI sec) i z).1 := by
    intro i hi z hz
    obtain ⟨x, hx⟩ := hget i hi
    obtain ⟨c1, c2, c3, c4, c5, c6⟩ := me1_at hok hA hsec hx z hz.1
    refine ⟨c1, fun pl hpl hlt => ?_⟩
    rcases c4 pl hpl with q | ⟨e, q1, q2, q3⟩
    · rw [q] at hlt ⊢; exact hz.2 pl hpl hlt
    · rw [q2, e]
      exact ⟨x.2.1, c6, q1, hz.2 _ (Lk_lt hok c6).2 (by omega)⟩
  have hround : ∀ m, m ≤ (llP P n n).length → ∀ z : Rw × Int32, SI z.1 → SI (it (me1 (A 78) (A 79) (A 77) (nI sec)) m z).1 ∧ ∀ pl, pl < 250 → cn ((it (me1 (A 78) (A 79) (A 77) (nI sec)) m z).1 pl) ≤ cn (z.1 pl) := by
    intro m
    induction m with
    | zero => intro _ z hz; exact ⟨hz, fun _ _ => Nat.le_refl _⟩
    | succ m ih =>
      intro hm z hz
      obtain ⟨i1, i2⟩ := ih (by omega) z hz
      obtain ⟨x, hx⟩ := hget m (by omega)
      obtain ⟨c1, c2, -⟩ := me1_at hok hA hsec hx _ i1.1
      exact ⟨hin m (by omega) _ i1, fun pl hpl => Nat.le_trans (c2 pl hpl) (i2 pl hpl)⟩
  have hrest : ∀ (z : Rw × Int32), SI z.1 → ∀ (d m : Nat), m + d = (llP P n n).length → ∀ pl, pl < 250 → cn ((it (me1 (A 78) (A 79) (A 77) (nI sec)) (llP P n n).length z).1 pl) ≤ cn ((it (me1 (A 78) (A 79) (A 77) (nI sec)) m z).1 pl) := by
    intro z hz d
    induction d with
    | zero => intro m hm pl _; rw [← hm]; exact Nat.le_refl _
    | succ d ih =>
      intro m hm pl hpl
      obtain ⟨x, hx⟩ := hget m (by omega)
      obtain ⟨c1, c2, -⟩ := me1_at hok hA hsec hx _ (hround m (by omega) z hz).1.1
      exact Nat.le_trans (ih (m + 1) (by omega) pl hpl) (c2 pl hpl)
  have hstep : ∀ (z : Rw × Int32), SI z.1 → ∀ a b, Lk P n a b → ¬ Wsh P n b sec → cn ((it (me1 (A 78) (A 79) (A 77) (nI sec)) (llP P n n).length z).1 a) ≤ cn (z.1 b) + 1 := by
    intro z hz a b hl hw
    obtain ⟨st, hm⟩ := (LL_mem hok).mpr hl
    obtain ⟨i, hi⟩ := List.mem_iff_getElem?.mp hm
    have hi2 := (List.getElem?_eq_some_iff.mp hi).1
    obtain ⟨r1, r2⟩ := hround i (by omega) z hz
    obtain ⟨c1, c2, c3, -⟩ := me1_at hok hA hsec hi _ r1.1
    have q1 := hrest z hz ((llP P n n).length - (i + 1)) (i + 1) (by omega) a (Lk_lt hok hl).1
    have q2 : cn ((it (me1 (A 78) (A 79) (A 77) (nI sec)) (i + 1) z).1 a) ≤ cn ((it (me1 (A 78) (A 79) (A 77) (nI sec)) i z).1 b) + 1 := c3 hw
    have q3 := r2 b (Lk_lt hok hl).2
    omega
  have hflag : ∀ m, m ≤ (llP P n n).length → ∀ z : Rw × Int32, SI z.1 → (it (me1 (A 78) (A 79) (A 77) (nI sec)) m z).2 = 0 → it (me1 (A 78) (A 79) (A 77) (nI sec)) m z = z := by
    intro m
    induction m with
    | zero => intro _ z _ _; rfl
    | succ m ih =>
      intro hm z hz h0
      obtain ⟨x, hx⟩ := hget m (by omega)
      have e := (me1_at hok hA hsec hx _ (hround m (by omega) z hz).1.1).2.2.2.2.1 h0
      have h0' : (it (me1 (A 78) (A 79) (A 77) (nI sec)) m z).2 = 0 := by
        have : (me1 (A 78) (A 79) (A 77) (nI sec) m (it (me1 (A 78) (A 79) (A 77) (nI sec)) m z)).2 = 0 := h0
        rwa [e] at this
      have e2 := ih (by omega) z hz h0'
      show me1 (A 78) (A 79) (A 77) (nI sec) m (it (me1 (A 78) (A 79) (A 77) (nI sec)) m z) = z
      rw [e, e2]
  have hspw : ∀ k j (z : Rw × Int32), SI z.1 → (z.2 = 0 → ∀ a b, Lk P n a b → ¬ Wsh P n b sec → cn (z.1 a) ≤ cn (z.1 b) + 1) → (∀ i, i ≤ j → ∀ pl, pl < 250 → Dc P n g sec door i pl → cn (z.1 pl) ≤ i) →
      SI (spw (it (me1 (A 78) (A 79) (A 77) (nI sec)) (llP P n n).length) k z) ∧ ∀ i, i ≤ j + k → ∀ pl, pl < 250 → Dc P n g sec door i pl → cn (spw (it (me1 (A 78) (A 79) (A 77) (nI sec)) (llP P n n).length) k z pl) ≤ i := by
    intro k
    induction k with
    | zero => intro j z hz _ h2; exact ⟨hz, h2⟩
    | succ k ih =>
      intro j z hz h1 h2
      unfold spw
      by_cases e : z.2 = 0
      · rw [if_pos e]
        refine ⟨hz, fun i _ => ?_⟩
        have : ∀ i pl, pl < 250 → Dc P n g sec door i pl → cn (z.1 pl) ≤ i := by
          intro i
          induction i with
          | zero => intro pl hpl h; exact h2 0 (by omega) pl hpl h
          | succ i ihh =>
            rintro pl hpl ⟨b, hl, hw, hd⟩
            have := h1 e pl b hl hw
            have := ihh b (Lk_lt hok hl).2 hd
            omega
        exact this i
      · rw [if_neg e]
        obtain ⟨r1, r2⟩ := hround _ (Nat.le_refl _) (z.1, 0) hz
        have := ih (j + 1) (it (me1 (A 78) (A 79) (A 77) (nI sec)) (llP P n n).length (z.1, 0)) r1 (fun e2 => ?_) (fun i hi pl hpl hd => ?_)
        · rw [show j + 1 + k = j + (k + 1) by omega] at this; exact this
        · intro a b hl hw
          have q := hstep (z.1, 0) hz a b hl hw
          have e3 := hflag _ (Nat.le_refl _) (z.1, 0) hz e2
          rw [e3] at q ⊢
          exact q
        · by_cases e3 : i ≤ j
          · exact Nat.le_trans (r2 pl hpl) (h2 i e3 pl hpl hd)
          · have e4 : i = j + 1 := by omega
            subst e4
            obtain ⟨b, hl, hw, hd⟩ := hd
            have q := hstep (z.1, 0) hz pl b hl hw
            have q2 := h2 j (Nat.le_refl _) b (Lk_lt hok hl).2 hd
            have q3 : cn ((z.1, (0 : Int32)).1 b) = cn (z.1 b) := rfl
            omega
  obtain ⟨s1, s2⟩ := hspw 250 0 (it (me0 A door) n (fun _ => 1000), 1) ⟨hst.1, fun pl hpl q => by rw [((hst.2 pl hpl).1 q).2]; exact ((hst.2 pl hpl).1 q).1⟩ (fun q => absurd q (show ¬ (1 : Int32) = 0 by decide)) (fun i hi pl hpl hd => by
    have : i = 0 := by omega
    subst this
    rw [(hst.2 pl hpl).2 hd]
    exact Nat.le_refl _)
  refine ⟨cn (meR A n (nI sec) door (llP P n n).length pl), (s1.1 pl hpl).1, (s1.1 pl hpl).2, s1.2 pl hpl, fun k hk => ?_⟩
  obtain ⟨j, hj, hd⟩ := Dc_90 hok hE hsec hdo hk
  have q1 := s2 j (by omega) pl hpl hd
  by_cases e : j ≤ k
  · exact Nat.le_trans q1 e
  · exact s2 k (by omega) pl hpl hk
