/-! ## one step of both -/
theorem exit_far {A : Nat → Nat → Int32} {n F : Nat} {P : Pln} (hok : P.ok n) (hE : whE (akQ P n) F (ak0 n)) (hA : Nf A n P) {sec door : Nat} (hsec : sec < 16) (hdo : door < 16) {g : Rw} (hg : ∀ p, p < n → A 4 p = g p) {p d : Nat} (hp : p < n) (hd : d < 16) : (d = door ∧ B (g p) door ∧ meR A n (nI sec) door (llP P n n).length (25 * p + (9 + d)) = nI 0) ∨ (¬ (d = door ∧ B (g p) door) ∧ meR A n (nI sec) door (llP P n n).length (25 * p + (9 + d)) = nI 1000) := by
  have h10 := hok.1
  obtain ⟨u, eu, u1, u2, u3⟩ := far_all hok hE hA hsec hdo hg (show 25 * p + (9 + d) < 250 by omega)
  by_cases h : d = door ∧ B (g p) door
  · have := u3 0 ⟨p, hp, h.2, by rw [h.1]⟩
    have : u = 0 := by omega
    subst this
    exact Or.inl ⟨h.1, h.2, eu⟩
  · refine Or.inr ⟨h, ?_⟩
    have : u = 1000 := by
      apply Classical.byContradiction; intro hn
      obtain ⟨_, q2, q3⟩ := Dc_exit hok hd hdo (u2 (by omega))
      exact h ⟨q2, q3⟩
    rw [← this]; exact eu
theorem step_eq {A M : Nat → Nat → Int32} {n F : Nat} {P : Pln} (hok : P.ok n) (hE : whE (akQ P n) F (ak0 n)) (hA : Nf A n P) {sec door : Nat} (hsec : sec < 16) (hdo : door < 16) {g f : Rw} (hg : ∀ p, p < n → A 4 p = g p) (hF : FR P n (wS P n g F).2 g sec door f (meR A n (nI sec) door (llP P n n).length))
    (hM : ∀ q, q ≠ 96 → M q = A q) (h96 : ∀ pl, pl < 250 → M 96 pl = meR A n (nI sec) door (llP P n n).length pl) {st v : Nat} (hst : st < 90) (hv : f st = nI v) (hv90 : v ≤ 90) :
    ∃ i x p k t, flF M (plc st) (nI sec) (llP P n n).length 0 = nI i ∧ i < (llP P n n).length ∧ (llP P n n)[i]? = some x ∧ x.2.2 = 100 * p + k ∧ p < 10 ∧ k < 12 ∧ fwF P n (wA P n F) (wS P n g F).2 g sec door f st = some (100 * p + k, t) ∧ f t + 1 = f st ∧ ((t = 90 ∧ v = 1) ∨ (t < 90 ∧ x.2.1 = plc t ∧ 1 < v)) := by
  have h10 := hok.1
  obtain ⟨v', p0, p1, p2, p3, p4, p5⟩ : ∃ v', 0 < v' ∧ v' ≤ 90 ∧ meR A n (nI sec) door (llP P n n).length (plc st) = nI v' ∧ f st = nI v' ∧ Dm P n (wS P n g F).2 g sec door v' st ∧ ∀ k, Dm P n (wS P n g F).2 g sec door k st → v' ≤ k := by
    rcases hF.2 st hst with h | ⟨_, h, _⟩
    · exact h
    · rw [hv, nI_eq (by omega) (by omega)] at h; omega
  have e : v' = v := by rw [hv, nI_eq (by omega) (by omega)] at p3; exact p3.symm
  subst e
  have hlen := llP_len hok n (Nat.le_refl _)
  -- what a match is, for the class
  let T : Nat → Prop := fun i => M 78 i = nI (plc st) ∧ ftF M i (nI sec) = M 96 (plc st)
  -- a link that matches is a line that matches
  have hT1 : ∀ i x, (llP P n n)[i]? = some x → T i → ∃ p k t, Lv P n p ∧ k < P.ml p ∧ x.2.2 = 100 * p + k ∧ Tm P (wS P n g F).2 g sec door f st p k t ∧ ((t = 90 ∧ v' = 1) ∨ (t < 90 ∧ x.2.1 = plc t ∧ 1 < v')) := by
    intro i x hx ⟨t1, t2⟩
    obtain ⟨g1, g2, g3⟩ := hA.2.2.2.2.2.2 i x hx
    obtain ⟨p, hp, hL, hm⟩ := llP_mem.mp (List.mem_of_getElem? hx)
    obtain ⟨k, hk, hm⟩ := llK_mem.mp hm
    obtain ⟨e3, hl⟩ := (lnks_mem hok hp hk (a := x.1) (b := x.2.1) (st := x.2.2)).mp hm
    obtain ⟨b1, b2⟩ := LkA_lt hok hp hk hl
    have hps := (plc_lt hst).1
    rw [hM 78 (by decide), g1, nI_eq (by omega) (by omega)] at t1
    unfold ftF at t2
    rw [hM 79 (by decide), g2, show cn (nI x.2.1) = x.2.1 from nI_clamp (by omega), hM 77 (by decide), h96 _ b2, h96 _ hps, p2] at t2
    have hbd := hok.2.2 p hp k hk
    have hw : ¬ Wsh P n x.2.1 sec := by
      intro q
      rw [if_neg (by rw [hb_z (by omega)]; exact fun y => y ((hA.2.2.2.2.1 _ b2 sec (by omega)).mpr q)), show (1000 : Int32) = nI 1000 from rfl, nI_eq (by omega) (by omega)] at t2
      omega
    rw [if_pos ((hb_z (by omega)).mpr (fun y => hw ((hA.2.2.2.2.1 _ b2 sec (by omega)).mp y)))] at t2
    have h1 : (1 : Int32) = nI 1 := rfl
    rw [t1] at hl
    rcases LkA_to hok hp hk hl with ⟨h3, q1, q2⟩ | ⟨t, ht, q1⟩
    · rcases exit_far hok hE hA hsec hdo hg hp (show P.nu p k < 16 by omega) with ⟨r1, r2, r3⟩ | ⟨_, r3⟩
      · rw [q1, r3, h1, nI_add, nI_eq (by omega) (by omega)] at t2
        refine ⟨p, k, 90, hL, hk, e3, ⟨(ldN_iff hok hE hp hk hsec hdo hst).mpr (Or.inr ⟨rfl, h3, q2, r1, r2⟩), ?_⟩, Or.inl ⟨rfl, by omega⟩⟩
        rw [hF.1, p3, ← t2]; rfl
      · rw [q1, r3, h1, nI_add, nI_eq (by omega) (by omega)] at t2
        omega
    · rcases hF.2 t ht with ⟨u, u0, u1, u2, u3, u4, u5⟩ | ⟨u2, u3, u4⟩
      · rw [q1, u2, h1, nI_add, nI_eq (by omega) (by omega)] at t2
        refine ⟨p, k, t, hL, hk, e3, ⟨(ldN_iff hok hE hp hk hsec hdo hst).mpr (Or.inl ⟨ht, by rw [← q1]; exact hl, by rw [← q1]; exact hw⟩), ?_⟩, Or.inr ⟨ht, q1, by omega⟩⟩
        rw [u3, p3, h1, nI_add, t2]
      · rw [q1, u2, h1, nI_add, nI_eq (by omega) (by omega)] at t2
        omega
  -- a line that matches has a link that matches
  have hT2 : ∀ p k t, Lv P n p → k < P.ml p → Tm P (wS P n g F).2 g sec door f st p k t → ∃ i x, (llP P n n)[i]? = some x ∧ x.2.2 = 100 * p + k ∧ T i := by
    rintro p k t hL hk ⟨q1, q2⟩
    have hp := Lv_lt hok hL
    have hbd := hok.2.2 p hp k hk
    have hps := (plc_lt hst).1
    have h1 : (1 : Int32) = nI 1 := rfl
    obtain ⟨b, hl, hw, hfb⟩ : ∃ b, LkA P p k (plc st) b ∧ ¬ Wsh P n b sec ∧ meR A n (nI sec) door (llP P n n).length b + 1 = nI v' := by
      rcases (ldN_iff hok hE hp hk hsec hdo hst).mp q1 with ⟨ht, r1, r2⟩ | ⟨rfl, h3, e2, e3, hB⟩
      · refine ⟨plc t, r1, r2, ?_⟩
        rcases hF.2 t ht with ⟨u, u0, u1, u2, u3, u4, u5⟩ | ⟨u2, u3, u4⟩
        · rw [u2, ← u3, q2, p3]
        · rw [u3, p3, h1, nI_add, nI_eq (by omega) (by omega)] at q2; omega
      · refine ⟨25 * p + (9 + P.nu p k), Or.inr (Or.inr (Or.inr (Or.inl ⟨h3, e2, rfl⟩))), fun q => ?_, ?_⟩
        · have := (Wsh_name hok q).1; omega
        · rcases exit_far hok hE hA hsec hdo hg hp (show P.nu p k < 16 by omega) with ⟨r1, r2, r3⟩ | ⟨r, _⟩
          · rw [r3, ← p3, ← q2, hF.1]; rfl
          · exact absurd ⟨e3, hB⟩ r
    obtain ⟨b1, b2⟩ := LkA_lt hok hp hk hl
    have hmem : (plc st, b, 100 * p + k) ∈ llP P n n := llP_mem.mpr ⟨p, hp, hL, llK_mem.mpr ⟨k, hk, (lnks_mem hok hp hk).mpr ⟨rfl, hl⟩⟩⟩
    obtain ⟨i, hi⟩ := List.mem_iff_getElem?.mp hmem
    obtain ⟨g1, g2, g3⟩ := hA.2.2.2.2.2.2 i _ hi
    refine ⟨i, _, hi, rfl, ?_, ?_⟩
    · rw [hM 78 (by decide)]; exact g1
    · unfold ftF
      rw [hM 79 (by decide), g2, show cn (nI b) = b from nI_clamp (by omega), hM 77 (by decide), h96 _ b2, h96 _ hps, p2]
      rw [if_pos ((hb_z (by omega)).mpr (fun y => hw ((hA.2.2.2.2.1 _ b2 sec (by omega)).mp y)))]
      exact hfb
  -- there is one
  obtain ⟨v2, rfl⟩ : ∃ v2, v' = v2 + 1 := ⟨v' - 1, by omega⟩
  obtain ⟨pp, kk, tt, hLp, hkp, hlp, hdp⟩ := p4
  have hTp : Tm P (wS P n g F).2 g sec door f st pp kk tt := by
    refine ⟨hlp, ?_⟩
    have htt := ldN_lt hok (Lv_lt hok hLp) hkp hlp
    by_cases e90 : tt = 90
    · subst e90
      have : v2 = 0 := by
        apply Classical.byContradiction; intro hn
        have := (Dm_lt hok v2 90 hdp).2 (by omega); omega
      subst this
      rw [hF.1, p3]; rfl
    · rcases hF.2 tt (by omega) with ⟨u, u0, u1, u2, u3, u4, u5⟩ | ⟨u2, u3, u4⟩
      · have q1 := u5 v2 hdp
        have q2 := p5 (u + 1) ⟨pp, kk, tt, hLp, hkp, hlp, u4⟩
        have : u = v2 := by omega
        subst this
        rw [u3, p3, show (1 : Int32) = nI 1 from rfl, nI_add]
      · exact absurd hdp (u4 v2)
  rcases fl_spec (I := M) (pl := plc st) (s := nI sec) (T := T) (fun i => Iff.rfl) (llP P n n).length 0 with ⟨_, hno⟩ | ⟨i, _, hi, ei, hTi, hfirst⟩
  · obtain ⟨i, x, hx, _, hTi⟩ := hT2 pp kk tt hLp hkp hTp
    have := (List.getElem?_eq_some_iff.mp hx).1
    exact absurd hTi (hno i (by omega) (by omega))
  · rw [Nat.zero_add] at hi
    obtain ⟨x, hx⟩ : ∃ x, (llP P n n)[i]? = some x := ⟨_, List.getElem?_eq_getElem hi⟩
    obtain ⟨p, k, t, hL, hk, ex, hTm, hend⟩ := hT1 i x hx hTi
    rcases fw_spec (w := (wS P n g F).2) (g := g) (f := f) hok hE (sec := sec) (door := door) (st := st) with ⟨_, hno⟩ | ⟨p', k', t', ef, hL', hk', hTm', hleast⟩
    · exact absurd hTm (hno p k t hL hk)
    · have q1 := hleast p k t hL hk hTm
      obtain ⟨j, y, hy, ey, hTj⟩ := hT2 p' k' t' hL' hk' hTm'
      have hij : i ≤ j := by
        apply Classical.byContradiction; intro hn
        exact hfirst j (by omega) (by omega) hTj
      have q2 := LL_le hok hx hy hij
      have m1 := hok.2.1 p
      have m2 := hok.2.1 p'
      have ep : p' = p := by omega
      have ek : k' = k := by omega
      subst ep ek
      have et : t' = t := by
        have := hTm.1.symm.trans hTm'.1
        exact (Option.some.inj this).symm
      subst et
      have := Lv_lt hok hL
      exact ⟨i, x, p', k', t', ei, hi, hx, ex, by omega, by omega, ef, hTm.2, hend⟩
/-! ## the whole way -/
def wkR (M : Nat → Nat → Int32) (A : Nat → Nat → Int32) (z : Nat × Rw) : Prop := A 95 4 = nI z.1 ∧ (∀ i, i < z.1 → A 97 i = z.2 i) ∧ ∀ q, q ≠ 95 → q ≠ 97 → A q = M q
theorem apT_R {M A : Nat → Nat → Int32} {z : Nat × Rw} (h : wkR M A z) (hz : z.1 < 91) (x : Int32) : wkR M (apT A x) (z.1 + 1, upd z.2 z.1 x) := by
  obtain ⟨h1, h2, h3⟩ := h
  have hcn : cn (A 95 4) = z.1 := by rw [h1]; exact nI_clamp (by omega)
  unfold apT
  rw [if_pos (by rw [h1]; exact (nI_ltI (b := 91) (by omega) (by decide)).mpr hz), hcn]
  refine ⟨by simp [up1], fun i hi => ?_, fun q q1 q2 => ?_⟩
  · have hi' : i < z.1 + 1 := hi
    simp only [upd]
    by_cases e : i = z.1
    · subst e; simp [up1]
    · rw [if_neg e, ← h2 i (by omega)]; simp [up1, e]
  · rw [← h3 q q1 q2]; funext j; simp [up1, q1, q2]
theorem walk_eq {A M : Nat → Nat → Int32} {n F : Nat} {P : Pln} (hok : P.ok n) (hE : whE (akQ P n) F (ak0 n)) (hA : Nf A n P) {sec door : Nat} (hsec : sec < 16) (hdo : door < 16) {g f : Rw} (hg : ∀ p, p < n → A 4 p = g p) (hF : FR P n (wS P n g F).2 g sec door f (meR A n (nI sec) door (llP P n n).length))
    (hM : ∀ q, q ≠ 96 → M q = A q) (h96 : ∀ pl, pl < 250 → M 96 pl = meR A n (nI sec) door (llP P n n).length pl) : ∀ (l m st : Nat) (C : Nat → Nat → Int32) (z : Nat × Rw), st < 90 → f st = nI l → 0 < l → l ≤ 90 → l ≤ m → z.1 + l ≤ 91 → wkR M C z →
    wkR M (waF M (nI sec) (llP P n n).length l (plc st) C) (wyW P n (wA P n F) (wS P n g F).2 g sec door f m st z) ∧ (wyW P n (wA P n F) (wS P n g F).2 g sec door f m st z).1 = z.1 + l ∧ wyE P n (wA P n F) (wS P n g F).2 g sec door f m st
  | 0, m, st, C, z, _, _, h0, _, _, _, _ => absurd h0 (by omega)
  | l + 1, 0, st, C, z, _, _, _, _, hm, _, _ => absurd hm (by omega)
  | l + 1, m + 1, st, C, z, hst, hf, _, hl, hm, hz, hR => by
    have hlen := llP_len hok n (Nat.le_refl _)
    have h10 := hok.1
    obtain ⟨i, x, p, k, t, e1, hi, hx, ex, hp10, hk12, e2, e3, hend⟩ := step_eq hok hE hA hsec hdo hg hF hM h96 hst hf hl
    obtain ⟨g1, g2, g3⟩ := hA.2.2.2.2.2.2 i x hx
    have hcn : cn (nI i) = i := nI_clamp (by omega)
    have hb2 : x.2.1 < 250 := (Lk_lt hok ((LL_mem hok).mp ⟨x.2.2, List.mem_of_getElem? hx⟩)).2
    have h79 : cn (M 79 i) = x.2.1 := by rw [hM 79 (by decide), g2]; exact nI_clamp (by omega)
    have h80 : M 80 i = nI (100 * p + k) := by rw [hM 80 (by decide), g3, ex]
    unfold waF wyW wyE
    rw [if_neg (by rw [e1]; exact nI_nm1 (by omega)), if_neg (show ¬ st = 90 by omega), e1, hcn, h79, h80]
    have hwr : wyR P n (wA P n F) (wS P n g F).2 g sec door f st z = (z.1 + 1, upd z.2 z.1 (nI (100 * p + k))) := by unfold wyR; rw [e2]
    have hfv : fwV (fwF P n (wA P n F) (wS P n g F).2 g sec door f st) = t := by rw [e2]; rfl
    rw [hwr, hfv]
    have hR2 := apT_R hR (by omega) (nI (100 * p + k))
    rcases hend with ⟨rfl, hv⟩ | ⟨ht, ep, hv⟩
    · have : l = 0 := by omega
      subst this
      refine ⟨?_, ?_, Or.inr ?_⟩
      · have : wyW P n (wA P n F) (wS P n g F).2 g sec door f m 90 (z.1 + 1, upd z.2 z.1 (nI (100 * p + k))) = (z.1 + 1, upd z.2 z.1 (nI (100 * p + k))) := by
          cases m with
          | zero => rfl
          | succ m => unfold wyW; rw [if_pos rfl]
        rw [this]; exact hR2
      · cases m with
        | zero => rfl
        | succ m => unfold wyW; rw [if_pos rfl]
      · cases m with
        | zero => rfl
        | succ m => exact Or.inl rfl
    · have hft : f t = nI l := by
        rcases hF.2 t ht with ⟨u, u0, u1, u2, u3, u4, u5⟩ | ⟨u2, u3, u4⟩
        · rw [u3, hf, show (1 : Int32) = nI 1 from rfl, nI_add, nI_eq (by omega) (by omega)] at e3
          rw [u3]; congr 1; omega
        · rw [u3, hf, show (1 : Int32) = nI 1 from rfl, nI_add, nI_eq (by omega) (by omega)] at e3
          omega
      rw [ep]
      obtain ⟨a1, a2, a3⟩ := walk_eq hok hE hA hsec hdo hg hF hM h96 l m t _ _ ht hft (by omega) (by omega) (by omega) (show z.1 + 1 + l ≤ 91 by omega) hR2
      refine ⟨a1, ?_, Or.inr a3⟩
      rw [a2]
      show z.1 + 1 + l = z.1 + (l + 1)
      omega
