/-! ## how far it is to a door: the model -/
def plc (st : Nat) : Nat := if st < 80 then 25 * (st / 8) + st % 8 else 25 * (st - 80) + 8
def Dm (P : Pln) (n : Nat) (w g : Rw) (sec door : Nat) : Nat → Nat → Prop
  | 0, st => st = 90
  | m + 1, st => ∃ p k t, Lv P n p ∧ k < P.ml p ∧ ldN P w g sec door st p k = some t ∧ Dm P n w g sec door m t
theorem ls_iff {P : Pln} {st p k : Nat} : ∀ m, it (lsF P st p k) m 0 = 0 ↔ ∀ i, i < m → ¬ st = 8 * p + P.fr p k i
  | 0 => ⟨fun _ i hi => absurd hi (by omega), fun _ => rfl⟩
  | m + 1 => by
    have ih := ls_iff (P := P) (st := st) (p := p) (k := k) m
    show lsF P st p k m (it (lsF P st p k) m 0) = 0 ↔ _
    generalize it (lsF P st p k) m 0 = z at ih ⊢
    unfold lsF
    by_cases h : ¬ z = 0 ∨ st = 8 * p + P.fr p k m
    · rw [if_pos h]
      refine ⟨fun q => absurd q (show ¬ (1 : Int32) = 0 by decide), fun q => ?_⟩
      rcases h with h | h
      · exact absurd (ih.mpr (fun i hi => q i (by omega))) h
      · exact absurd h (q m (by omega))
    · rw [if_neg h]
      rw [not_or, Classical.not_not] at h
      refine ⟨fun _ i hi => ?_, fun _ => rfl⟩
      by_cases e : i = m
      · rw [e]; exact h.2
      · exact ih.mp h.1 i (by omega)
/-- a line leads the model from a state to another just where a link of the class does -/
theorem ldN_iff {P : Pln} {n F : Nat} {g : Rw} (hok : P.ok n) (hE : whE (akQ P n) F (ak0 n)) {sec door p k st t : Nat} (hp : p < n) (hk : k < P.ml p) (hsec : sec < 16) (hdo : door < 16) (hst : st < 90) :
    ldN P (wS P n g F).2 g sec door st p k = some t ↔ (t < 90 ∧ LkA P p k (plc st) (plc t) ∧ ¬ Wsh P n (plc t) sec) ∨ (t = 90 ∧ P.kd p k = 3 ∧ plc st = 25 * p + P.fs p k ∧ P.nu p k = door ∧ B (g p) door) := by
  have hb := hok.2.2 p hp k hk
  have h10 := hok.1
  have hname : ∀ q nm, nm < 8 → q < 10 → plc (8 * q + nm) = 25 * q + nm := by
    intro q nm h1 h2
    unfold plc
    rw [if_pos (by omega), show (8 * q + nm) / 8 = q by omega, show (8 * q + nm) % 8 = nm by omega]
  have hres : ∀ q, plc (80 + q) = 25 * q + 8 := by
    intro q; unfold plc; rw [if_neg (by omega), show 80 + q - 80 = q by omega]
  have hpn : ∀ q nm, nm < 8 → q < 10 → (plc st = 25 * q + nm ↔ st = 8 * q + nm) := by
    intro q nm h1 hq
    unfold plc
    by_cases h : st < 80
    · rw [if_pos h]; omega
    · rw [if_neg h]; omega
  have hpr : ∀ q, (plc st = 25 * q + 8 ↔ st = 80 + q) := by
    intro q
    unfold plc
    by_cases h : st < 80
    · rw [if_pos h]; omega
    · rw [if_neg h]; omega
  have tpn : ∀ q nm, nm < 8 → q < 10 → t < 90 → (plc t = 25 * q + nm ↔ t = 8 * q + nm) := by
    intro q nm h1 hq ht
    unfold plc
    by_cases h : t < 80
    · rw [if_pos h]; omega
    · rw [if_neg h]; omega
  have tpr : ∀ q, t < 90 → (plc t = 25 * q + 8 ↔ t = 80 + q) := by
    intro q ht
    unfold plc
    by_cases h : t < 80
    · rw [if_pos h]; omega
    · rw [if_neg h]; omega
  have tpx : ∀ q d, t < 90 → d < 16 → ¬ plc t = 25 * q + (9 + d) := by
    intro q d ht hd
    unfold plc
    by_cases h : t < 80
    · rw [if_pos h]; omega
    · rw [if_neg h]; omega
  have hnt : ∀ q nm, nm < 8 → q < 10 → (ntN (wS P n g F).2 sec (8 * q + nm) = some t ↔ t = 8 * q + nm ∧ ¬ Wsh P n (25 * q + nm) sec) := by
    intro q nm h1 h2
    unfold ntN
    have hw := sd_w (g := g) hok hE (p := q) (nm := nm) (s := sec) h1 (by omega)
    by_cases hB : B ((wS P n g F).2 (8 * q + nm)) sec
    · rw [if_neg (by rw [hb_z (by omega)]; exact fun z => z hB)]
      exact ⟨fun z => (by cases z), fun z => absurd (hw.mp hB) z.2⟩
    · rw [if_pos ((hb_z (by omega)).mpr hB)]
      constructor
      · intro z; cases z; exact ⟨rfl, fun y => hB (hw.mpr y)⟩
      · rintro ⟨rfl, _⟩; rfl
  unfold ldN LkA
  by_cases h1 : P.kd p k = 1
  · rw [if_pos h1]
    have hls := ls_iff (P := P) (st := st) (p := p) (k := k) (P.nu p k)
    by_cases h0 : it (lsF P st p k) (P.nu p k) 0 = 0
    · rw [if_pos h0]
      refine ⟨fun z => (by cases z), fun z => ?_⟩
      rcases z with ⟨ht, ⟨_, ⟨i, hi, e⟩, _⟩ | ⟨c, _⟩ | ⟨c, _⟩ | ⟨c, _⟩ | ⟨c, _⟩, _⟩ | ⟨_, c, _⟩
      · exact absurd ((hpn p _ ((hb.2.2.2.2 h1).2 i hi) (by omega)).mp e) (hls.mp h0 i hi)
      all_goals omega
    · rw [if_neg h0, hnt p _ hb.2.2.1 (by omega)]
      have hex : ∃ i, i < P.nu p k ∧ plc st = 25 * p + P.fr p k i := by
        apply Classical.byContradiction
        intro hn
        exact h0 (hls.mpr (fun i hi e => hn ⟨i, hi, (hpn p _ ((hb.2.2.2.2 h1).2 i hi) (by omega)).mpr e⟩))
      constructor
      · rintro ⟨rfl, hw⟩
        have e := hname p _ hb.2.2.1 (show p < 10 by omega)
        exact Or.inl ⟨by omega, Or.inl ⟨h1, hex, e⟩, by rw [e]; exact hw⟩
      · rintro (⟨ht, ⟨_, _, e⟩ | ⟨c, _⟩ | ⟨c, _⟩ | ⟨c, _⟩ | ⟨c, _⟩, hw⟩ | ⟨_, c, _⟩)
        · have e2 := (tpn p _ hb.2.2.1 (by omega) ht).mp e
          exact ⟨e2, by rw [← e]; exact hw⟩
        all_goals omega
  · rw [if_neg h1]
    by_cases h2 : P.kd p k = 2
    · rw [if_pos h2]
      obtain ⟨hq, hsc⟩ := hb.2.2.2.1 h2
      by_cases e1 : st = 80 + P.nu p k
      · rw [if_pos e1, hnt p _ hsc (by omega)]
        constructor
        · rintro ⟨rfl, hw⟩
          have e := hname p _ hsc (show p < 10 by omega)
          exact Or.inl ⟨by omega, Or.inr (Or.inr (Or.inl ⟨h2, (hpr _).mpr e1, e⟩)), by rw [e]; exact hw⟩
        · rintro (⟨ht, ⟨c, _⟩ | ⟨_, c, _⟩ | ⟨_, _, e⟩ | ⟨c, _⟩ | ⟨c, _⟩, hw⟩ | ⟨_, c, _⟩)
          · omega
          · have := (hpn p _ hb.2.2.1 (by omega)).mp c; omega
          · exact ⟨(tpn p _ hsc (by omega) ht).mp e, by rw [← e]; exact hw⟩
          all_goals omega
      · rw [if_neg e1]
        by_cases e2 : st = 8 * p + P.fs p k
        · rw [if_pos e2]
          have := hnt (P.nu p k) 0 (by omega) (by omega)
          rw [Nat.add_zero] at this
          rw [this]
          constructor
          · rintro ⟨rfl, hw⟩
            have e : plc (8 * P.nu p k) = 25 * P.nu p k + 0 := hname (P.nu p k) 0 (by omega) (by omega)
            exact Or.inl ⟨by omega, Or.inr (Or.inl ⟨h2, (hpn p _ hb.2.2.1 (by omega)).mpr e2, e⟩), by rw [e]; exact hw⟩
          · rintro (⟨ht, ⟨c, _⟩ | ⟨_, _, e⟩ | ⟨_, c, _⟩ | ⟨c, _⟩ | ⟨c, _⟩, hw⟩ | ⟨_, c, _⟩)
            · omega
            · exact ⟨(tpn _ 0 (by omega) (by omega) ht).mp e, by rw [← e]; exact hw⟩
            · exact absurd ((hpr _).mp c) e1
            all_goals omega
        · rw [if_neg e2]
          refine ⟨fun z => (by cases z), ?_⟩
          rintro (⟨ht, ⟨c, _⟩ | ⟨_, c, _⟩ | ⟨_, c, _⟩ | ⟨c, _⟩ | ⟨c, _⟩, hw⟩ | ⟨_, c, _⟩)
          · omega
          · exact absurd ((hpn p _ hb.2.2.1 (by omega)).mp c) e2
          · exact absurd ((hpr _).mp c) e1
          all_goals omega
    · rw [if_neg h2]
      by_cases h3 : P.kd p k = 3
      · rw [if_pos h3]
        by_cases hc : st = 8 * p + P.fs p k ∧ P.nu p k = door ∧ (g p >>> (nI door &&& 31)) &&& 1 = 1
        · rw [if_pos hc]
          constructor
          · intro z; cases z
            exact Or.inr ⟨rfl, h3, (hpn p _ hb.2.2.1 (by omega)).mpr hc.1, hc.2.1, (sh_1 (by omega)).mp hc.2.2⟩
          · rintro (⟨ht, ⟨c, _⟩ | ⟨c, _⟩ | ⟨c, _⟩ | ⟨_, _, c⟩ | ⟨c, _⟩, hw⟩ | ⟨rfl, _⟩)
            · omega
            · omega
            · omega
            · exact absurd c (tpx _ _ ht (by omega))
            · omega
            · rfl
        · rw [if_neg hc]
          refine ⟨fun z => (by cases z), ?_⟩
          rintro (⟨ht, ⟨c, _⟩ | ⟨c, _⟩ | ⟨c, _⟩ | ⟨_, _, c⟩ | ⟨c, _⟩, hw⟩ | ⟨_, _, c1, c2, c3⟩)
          · omega
          · omega
          · omega
          · exact absurd c (tpx _ _ ht (by omega))
          · omega
          · exact absurd ⟨(hpn p _ hb.2.2.1 (by omega)).mp c1, c2, (sh_1 (by omega)).mpr c3⟩ hc
      · rw [if_neg h3]
        by_cases h5 : P.kd p k = 5
        · rw [if_pos h5]
          by_cases e1 : st = 8 * p + P.fs p k
          · rw [if_pos e1]
            constructor
            · intro z; cases z
              refine Or.inl ⟨by omega, Or.inr (Or.inr (Or.inr (Or.inr ⟨h5, (hpn p _ hb.2.2.1 (by omega)).mpr e1, hres p⟩))), fun q => ?_⟩
              have := (Wsh_name hok q).1
              rw [hres] at this
              omega
            · rintro (⟨ht, ⟨c, _⟩ | ⟨c, _⟩ | ⟨c, _⟩ | ⟨c, _⟩ | ⟨_, _, c⟩, hw⟩ | ⟨_, c, _⟩)
              · omega
              · omega
              · omega
              · omega
              · rw [(tpr p ht).mp c]
              · omega
          · rw [if_neg e1]
            refine ⟨fun z => (by cases z), ?_⟩
            rintro (⟨ht, ⟨c, _⟩ | ⟨c, _⟩ | ⟨c, _⟩ | ⟨c, _⟩ | ⟨_, c, _⟩, hw⟩ | ⟨_, c, _⟩)
            · omega
            · omega
            · omega
            · omega
            · exact absurd ((hpn p _ hb.2.2.1 (by omega)).mp c) e1
            · omega
        · rw [if_neg h5]
          refine ⟨fun z => (by cases z), ?_⟩
          rintro (⟨ht, ⟨c, _⟩ | ⟨c, _⟩ | ⟨c, _⟩ | ⟨c, _⟩ | ⟨c, _⟩, hw⟩ | ⟨_, c, _⟩) <;> omega
theorem ldN_90 {P : Pln} {n : Nat} {w g : Rw} (hok : P.ok n) {sec door p k : Nat} (hp : p < n) (hk : k < P.ml p) : ldN P w g sec door 90 p k = none := by
  have hb := hok.2.2 p hp k hk
  have h10 := hok.1
  unfold ldN
  by_cases h1 : P.kd p k = 1
  · rw [if_pos h1, if_pos ((ls_iff _).mpr (fun i hi => by have := (hb.2.2.2.2 h1).2 i hi; omega))]
  · rw [if_neg h1]
    by_cases h2 : P.kd p k = 2
    · have := hb.2.2.2.1 h2
      rw [if_pos h2, if_neg (by omega), if_neg (by omega)]
    · rw [if_neg h2]
      by_cases h3 : P.kd p k = 3
      · rw [if_pos h3, if_neg (by omega)]
      · rw [if_neg h3]
        by_cases h5 : P.kd p k = 5
        · rw [if_pos h5, if_neg (by omega)]
        · rw [if_neg h5]
theorem ldN_lt {P : Pln} {n : Nat} {w g : Rw} (hok : P.ok n) {sec door st p k t : Nat} (hp : p < n) (hk : k < P.ml p) (h : ldN P w g sec door st p k = some t) : t ≤ 90 := by
  have hb := hok.2.2 p hp k hk
  have h10 := hok.1
  have hnt : ∀ q, q < 80 → ntN w sec q = some t → t ≤ 90 := by
    intro q hq h
    unfold ntN at h
    split at h
    · cases h; omega
    · cases h
  unfold ldN at h
  by_cases h1 : P.kd p k = 1
  · rw [if_pos h1] at h
    split at h
    · cases h
    · exact hnt _ (by omega) h
  · rw [if_neg h1] at h
    by_cases h2 : P.kd p k = 2
    · have := hb.2.2.2.1 h2
      rw [if_pos h2] at h
      split at h
      · exact hnt _ (by omega) h
      · split at h
        · exact hnt _ (by omega) h
        · cases h
    · rw [if_neg h2] at h
      by_cases h3 : P.kd p k = 3
      · rw [if_pos h3] at h
        split at h
        · cases h; omega
        · cases h
      · rw [if_neg h3] at h
        by_cases h5 : P.kd p k = 5
        · rw [if_pos h5] at h
          split at h
          · cases h; omega
          · cases h
        · rw [if_neg h5] at h; cases h
theorem ldN_none {P : Pln} {n : Nat} {w g : Rw} (hok : P.ok n) {sec door st p k : Nat} (hp : p < n) (hk : k < P.ml p) (hst : 90 < st) : ldN P w g sec door st p k = none := by
  have hb := hok.2.2 p hp k hk
  have h10 := hok.1
  unfold ldN
  by_cases h1 : P.kd p k = 1
  · rw [if_pos h1, if_pos ((ls_iff _).mpr (fun i hi => by have := (hb.2.2.2.2 h1).2 i hi; omega))]
  · rw [if_neg h1]
    by_cases h2 : P.kd p k = 2
    · have := hb.2.2.2.1 h2
      rw [if_pos h2, if_neg (by omega), if_neg (by omega)]
    · rw [if_neg h2]
      by_cases h3 : P.kd p k = 3
      · rw [if_pos h3, if_neg (by omega)]
      · rw [if_neg h3]
        by_cases h5 : P.kd p k = 5
        · rw [if_pos h5, if_neg (by omega)]
        · rw [if_neg h5]
theorem Dm_lt {P : Pln} {n : Nat} {w g : Rw} (hok : P.ok n) {sec door : Nat} : ∀ m st, Dm P n w g sec door m st → st ≤ 90 ∧ (0 < m → st < 90)
  | 0, st, h => ⟨by rw [show st = 90 from h]; exact Nat.le_refl _, fun q => absurd q (by omega)⟩
  | m + 1, st, ⟨p, k, t, hL, hk, h, _⟩ => by
    have hp := Lv_lt hok hL
    have h1 : st < 90 := by
      apply Classical.byContradiction
      intro hn
      by_cases e : st = 90
      · subst e; rw [ldN_90 hok hp hk] at h; cases h
      · rw [ldN_none hok hp hk (by omega)] at h; cases h
    exact ⟨by omega, fun _ => h1⟩
/-- the shortest are short -/
theorem Dm_90 {P : Pln} {n : Nat} {w g : Rw} (hok : P.ok n) {sec door m st : Nat} (h : Dm P n w g sec door m st) : ∃ j, j ≤ 90 ∧ Dm P n w g sec door j st := by
  let S : Nat → Nat → Prop := fun k a => ∃ j, j ≤ k ∧ Dm P n w g sec door j a
  have := stab (N := 91) (S := S) (fun k a ⟨j, _, hj⟩ => by have := (Dm_lt hok j a hj).1; omega) (fun k a ⟨j, h1, h2⟩ => ⟨j, by omega, h2⟩) (fun k hs a ha => ?_) ⟨90, 0, Nat.le_refl _, rfl⟩ m st ⟨m, Nat.le_refl _, h⟩
  · exact this
  · obtain ⟨j, h1, h2⟩ := ha
    by_cases e : j ≤ k + 1
    · exact ⟨j, e, h2⟩
    · have e : j = k + 1 + 1 := by omega
      subst e
      obtain ⟨p, k', t, q1, q2, q3, q4⟩ := h2
      obtain ⟨i, hi, q5⟩ := hs t ⟨k + 1, by omega, q4⟩
      exact ⟨i + 1, by omega, p, k', t, q1, q2, q3, q5⟩
/-! ## the model's measuring -/
def msI (P : Pln) (n : Nat) (w g : Rw) (sec door : Nat) (f : Rw) : Prop := f 90 = 0 ∧ ∀ st, st < 90 → f st = nI (cn (f st)) ∧ cn (f st) ≤ 100000 ∧ (cn (f st) < 100000 → Dm P n w g sec door (cn (f st)) st)
def msM (f : Rw) : Nat := sm (fun st => cn (f st)) 90
theorem pcn_nI {v : Nat} (h : v < 2 ^ 31) : cn (nI v) = v := nI_clamp h
theorem msI_90 {P : Pln} {n : Nat} {w g : Rw} {sec door : Nat} {f : Rw} (h : msI P n w g sec door f) {t : Nat} (ht : t ≤ 90) : f t = nI (cn (f t)) ∧ cn (f t) ≤ 100000 ∧ (cn (f t) < 100000 → Dm P n w g sec door (cn (f t)) t) := by
  by_cases e : t = 90
  · subst e
    rw [h.1]
    have : cn (0 : Int32) = 0 := rfl
    rw [this]
    exact ⟨rfl, by omega, fun _ => rfl⟩
  · exact h.2 t (by omega)
theorem msL_stp {P : Pln} {n : Nat} {w g : Rw} (hok : P.ok n) {sec door s p k : Nat} (hs : s < 90) (hp : p < n) (hL : Lv P n p) (hk : k < P.ml p) : FStp (msI P n w g sec door) msM (msL P w g sec door s p k) := by
  intro z hz
  unfold msL
  cases hl : ldN P w g sec door s p k with
  | none => exact ⟨hz, Nat.le_refl _, fun q => Or.inl q, fun _ => rfl⟩
  | some t =>
    have ht := ldN_lt hok hp hk hl
    obtain ⟨t1, t2, t3⟩ := msI_90 hz ht
    obtain ⟨s1, s2, s3⟩ := hz.2 s hs
    have hadd : z.1 t + 1 = nI (cn (z.1 t) + 1) := by
      conv => lhs; rw [t1]
      rw [show (1 : Int32) = nI 1 from rfl, nI_add]
    have hcmp : z.1 t + 1 < z.1 s ↔ cn (z.1 t) + 1 < cn (z.1 s) := by
      rw [hadd]
      conv => lhs; rw [s1]
      exact nI_ltI (by omega) (by omega)
    show msI P n w g sec door (if z.1 t + 1 < z.1 s then (upd z.1 s (z.1 t + 1), 1) else z).1 ∧ _
    by_cases hc : z.1 t + 1 < z.1 s
    · simp only [if_pos hc]
      have hc2 := hcmp.mp hc
      have hcn : cn (z.1 t + 1) = cn (z.1 t) + 1 := by rw [hadd]; exact pcn_nI (by omega)
      have hlt : msM (upd z.1 s (z.1 t + 1)) < msM z.1 := by
        refine sm_lt 90 (fun i _ => ?_) ⟨s, hs, ?_⟩
        · show cn (upd z.1 s (z.1 t + 1) i) ≤ cn (z.1 i)
          unfold upd
          by_cases e : i = s
          · subst e; rw [if_pos rfl, hcn]; omega
          · rw [if_neg e]; exact Nat.le_refl _
        · show cn (upd z.1 s (z.1 t + 1) s) < cn (z.1 s)
          unfold upd; rw [if_pos rfl, hcn]; omega
      refine ⟨⟨?_, fun st hst => ?_⟩, Nat.le_of_lt hlt, fun _ => Or.inr hlt, fun q => absurd q (show ¬ (1 : Int32) = 0 by decide)⟩
      · unfold upd; rw [if_neg (by omega)]; exact hz.1
      · unfold upd
        by_cases e : st = s
        · subst e
          rw [if_pos rfl, hcn]
          exact ⟨hadd, by omega, fun _ => ⟨p, k, t, hL, hk, hl, t3 (by omega)⟩⟩
        · rw [if_neg e]; exact hz.2 st hst
    · simp only [if_neg hc]
      exact ⟨hz, Nat.le_refl _, fun q => Or.inl q, fun _ => trivial⟩
theorem msP_stp {P : Pln} {n F : Nat} {w g : Rw} (hok : P.ok n) (hE : whE (akQ P n) F (ak0 n)) {sec door s p : Nat} (hs : s < 90) (hp : p < n) : FStp (msI P n w g sec door) msM (msP P (wA P n F) w g sec door s p) := by
  intro z hz
  unfold msP
  by_cases h : wA P n F p = 0
  · rw [if_pos h]; exact Stp_id (msI P n w g sec door) msM z hz
  · rw [if_neg h]; exact Stp_it (fun k hk => msL_stp hok hs hp ((wA_iff hok hE p).mp h) hk) z hz
theorem msQ_stp {P : Pln} {n F : Nat} {w g : Rw} (hok : P.ok n) (hE : whE (akQ P n) F (ak0 n)) {sec door : Nat} : FStp (msI P n w g sec door) msM (it (msS P n (wA P n F) w g sec door) 90) :=
  Stp_it (fun s hs => Stp_it (fun p hp => msP_stp hok hE hs hp))
theorem ms0_I {P : Pln} {n : Nat} {w g : Rw} {sec door : Nat} : msI P n w g sec door ms0 := by
  refine ⟨rfl, fun st hst => ?_⟩
  have e : ms0 st = nI 100000 := by unfold ms0; rw [if_neg (by omega)]; rfl
  rw [e, pcn_nI (by omega)]
  exact ⟨rfl, by omega, fun q => absurd q (by omega)⟩
theorem ms_fuel {P : Pln} {n F : Nat} {w g : Rw} (hok : P.ok n) (hE : whE (akQ P n) F (ak0 n)) {sec door : Nat} : whE (msQ P n (wA P n F) w g sec door) 9000001 ms0 := by
  refine Stp_E (msQ_stp (w := w) (g := g) (sec := sec) (door := door) hok hE) 9000001 ms0 ms0_I ?_
  have := sm_le (f := fun st => cn (ms0 st)) (b := 100000) 90 (fun i _ => by
    show cn (ms0 i) ≤ 100000
    unfold ms0
    split
    · exact Nat.zero_le _
    · exact Nat.le_refl _)
  unfold msM; omega
/-- what it finds -/
def isD (D : Nat → Nat → Prop) (B v st : Nat) : Prop := v ≤ B ∧ (v < B → D v st) ∧ ∀ k, D k st → v ≤ k
theorem ms_res {P : Pln} {n F F3 : Nat} {w g : Rw} (hok : P.ok n) (hE : whE (akQ P n) F (ak0 n)) {sec door : Nat} (hE3 : whE (msQ P n (wA P n F) w g sec door) F3 ms0) : (wh (msQ P n (wA P n F) w g sec door) F3 ms0) 90 = 0 ∧ ∀ st, st < 90 → ∃ v, (wh (msQ P n (wA P n F) w g sec door) F3 ms0) st = nI v ∧ isD (Dm P n w g sec door) 100000 v st := by
  obtain ⟨hI, hfix⟩ := Stp_W (msQ_stp (w := w) (g := g) (sec := sec) (door := door) hok hE) F3 ms0 ms0_I hE3
  change msI P n w g sec door (wh (msQ P n (wA P n F) w g sec door) F3 ms0) at hI
  change it (msS P n (wA P n F) w g sec door) 90 (wh (msQ P n (wA P n F) w g sec door) F3 ms0, 0) = (wh (msQ P n (wA P n F) w g sec door) F3 ms0, 0) at hfix
  generalize wh (msQ P n (wA P n F) w g sec door) F3 ms0 = f at hI hfix ⊢
  have hstep : ∀ st p k t, st < 90 → Lv P n p → k < P.ml p → ldN P w g sec door st p k = some t → cn (f st) ≤ cn (f t) + 1 := by
    intro st p k t hst hL hk hl
    have hp := Lv_lt hok hL
    have e1 := Stp_fix (fun s hs => Stp_it (fun p hp => msP_stp (w := w) (g := g) (sec := sec) (door := door) hok hE hs hp)) (s := (f, 0)) hI (by show (it (msS P n (wA P n F) w g sec door) 90 (f, 0)).2 = 0; rw [hfix]) st hst
    have e2 := Stp_fix (fun p hp => msP_stp (w := w) (g := g) (sec := sec) (door := door) hok hE hst hp) (s := (f, 0)) hI (by rw [e1]) p hp
    have e3 : (it (msL P w g sec door st p) (P.ml p) (f, 0)).2 = 0 := by
      have : (msP P (wA P n F) w g sec door st p (f, 0)).2 = 0 := by rw [e2]
      unfold msP at this
      rwa [if_neg ((wA_iff hok hE p).mpr hL)] at this
    have e4 := Stp_fix (fun k hk => msL_stp (w := w) (g := g) (sec := sec) (door := door) hok hst hp hL hk) (s := (f, 0)) hI e3 k hk
    unfold msL at e4
    rw [hl] at e4
    simp only at e4
    obtain ⟨t1, t2, t3⟩ := msI_90 hI (ldN_lt hok hp hk hl)
    obtain ⟨s1, s2, s3⟩ := hI.2 st hst
    apply Classical.byContradiction
    intro hn
    have hc : f t + 1 < f st := by
      have hadd : f t + 1 = nI (cn (f t) + 1) := by
        conv => lhs; rw [t1]
        rw [show (1 : Int32) = nI 1 from rfl, nI_add]
      rw [hadd, s1]
      exact (nI_ltI (by omega) (by omega)).mpr (by omega)
    rw [if_pos hc] at e4
    have := congrArg Prod.snd e4
    exact absurd this (show ¬ (1 : Int32) = 0 by decide)
  have hall : ∀ k st, st ≤ 90 → Dm P n w g sec door k st → cn (f st) ≤ k := by
    intro k
    induction k with
    | zero => intro st _ h; rw [show st = 90 from h, hI.1]; exact Nat.le_refl _
    | succ k ih =>
      rintro st hst h
      have hst2 := (Dm_lt hok _ _ h).2 (by omega)
      obtain ⟨p, k', t, hL, hk, hl, hd⟩ := h
      have := hstep st p k' t hst2 hL hk hl
      have := ih t (ldN_lt hok (Lv_lt hok hL) hk hl) hd
      omega
  refine ⟨hI.1, fun st hst => ⟨cn (f st), (hI.2 st hst).1, (hI.2 st hst).2.1, (hI.2 st hst).2.2, fun k hk => hall k st (by omega) hk⟩⟩
