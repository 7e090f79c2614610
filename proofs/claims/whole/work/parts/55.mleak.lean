/-! ## what the model's rounds find -/
def HS (P : Pln) (n : Nat) (g : Rw) (s : HR) : Prop := (∀ p nm b, p < n → nm < 8 → B (s.1 (8 * p + nm)) b → Rg P n g b (25 * p + nm)) ∧ ∀ p b, p < n → B (s.2 p) b → Rg P n g b (25 * p + 8)
theorem HS_h {P : Pln} {n : Nat} {g w : Rw} {s : HR} {p nm : Nat} {x : Int32} (h : HS P n g s) (hp : p < n) (hnm : nm < 8) (hw : ∀ b, b < 32 → (B (w (8 * p + nm)) b ↔ Wsh P n (25 * p + nm) b)) (hx : ∀ b, b < 32 → B x b → ∃ a, Rg P n g b a ∧ Lk P n a (25 * p + nm)) : HS P n g (upd s.1 (8 * p + nm) (cv s.1 w (8 * p + nm) x), s.2) := by
  refine ⟨fun p' nm' b hp' hnm' hB => ?_, h.2⟩
  simp only [upd] at hB
  by_cases e : 8 * p' + nm' = 8 * p + nm
  · have e1 : p' = p := by omega
    have e2 : nm' = nm := by omega
    subst e1 e2
    rw [if_pos rfl] at hB
    unfold cv at hB
    rcases B_or.mp hB with c | c
    · exact h.1 _ _ _ hp hnm c
    · obtain ⟨c1, c2⟩ := B_and.mp c
      have hb := B_lt c1
      obtain ⟨a, ha, hl⟩ := hx b hb c1
      exact Rg_step ha hl (fun q => (B_not hb).mp c2 ((hw b hb).mpr q))
  · rw [if_neg e] at hB
    exact h.1 _ _ _ hp' hnm' hB
theorem goF_HS {P : Pln} {n F : Nat} {g : Rw} (hok : P.ok n) (hE : whE (akQ P n) F (ak0 n)) {p k : Nat} (hp : p < n) (hL : Lv P n p) (hk : k < P.ml p) {s : HR} (h : HS P n g s) : HS P n g (goF P (wS P n g F).2 p k s).1 := by
  have hb := hok.2.2 p hp k hk
  unfold goF
  by_cases h1 : P.kd p k = 1
  · rw [if_pos h1]
    refine HS_h h hp hb.2.2.1 (fun b hb' => sd_w hok hE hb.2.2.1 hb') (fun b hb' hB => ?_)
    unfold gAll at hB
    rcases B_itor.mp hB with c | ⟨i, hi, c⟩
    · exact absurd c B_0
    · exact ⟨_, h.1 p _ b hp ((hb.2.2.2.2 h1).2 i hi) c, p, k, hL, hk, Or.inl ⟨h1, ⟨i, hi, rfl⟩, rfl⟩⟩
  · rw [if_neg h1]
    by_cases h2 : P.kd p k = 2
    · rw [if_pos h2]
      obtain ⟨hq, hsc⟩ := hb.2.2.2.1 h2
      have ha : HS P n g (go2a P (wS P n g F).2 p k s).1 :=
        HS_h (nm := 0) h hq (by omega) (fun b hb' => sd_w (nm := 0) hok hE (by omega) hb') (fun b hb' hB => ⟨_, h.1 p _ b hp hb.2.2.1 hB, p, k, hL, hk, Or.inr (Or.inl ⟨h2, rfl, rfl⟩)⟩)
      exact HS_h ha hp hsc (fun b hb' => sd_w hok hE hsc hb') (fun b hb' hB => ⟨_, ha.2 _ b hq hB, p, k, hL, hk, Or.inr (Or.inr (Or.inl ⟨h2, rfl, rfl⟩))⟩)
    · rw [if_neg h2]
      by_cases h5 : P.kd p k = 5
      · rw [if_pos h5]
        refine ⟨h.1, fun p' b hp' hB => ?_⟩
        simp only [go5, upd] at hB
        by_cases e : p' = p
        · subst e
          rw [if_pos rfl] at hB
          rcases B_or.mp hB with c | c
          · exact h.2 _ b hp c
          · refine Rg_step (h.1 p' _ b hp hb.2.2.1 c) ⟨p', k, hL, hk, Or.inr (Or.inr (Or.inr (Or.inr ⟨h5, rfl, rfl⟩)))⟩ (fun q => ?_)
            have := (Wsh_name hok q).1
            omega
        · rw [if_neg e] at hB
          exact h.2 _ b hp' hB
      · rw [if_neg h5]; exact h
theorem wHR_sound {P : Pln} {n F F2 : Nat} {g : Rw} (hok : P.ok n) (hfu : fuOK P n g F F2) : HS P n g (wHR P n g F F2) := by
  refine wh_inv (q := goQ P n (wS P n g F).2 (wA P n F)) (Inv := HS P n g) (fun s hs => ?_) F2 _ ?_
  · refine pit_inv (Q := fun t : HR × Int32 => HS P n g t.1) hs (fun p t hp ht => ?_)
    unfold goP
    by_cases h : wA P n F p = 0
    · rw [if_pos h]; exact ht
    · rw [if_neg h]
      have hL := (wA_iff hok hfu.1 p).mp h
      exact pit_inv (Q := fun t : HR × Int32 => HS P n g t.1) ht (fun k t hk ht => goF_HS hok hfu.1 hp hL hk ht)
  · refine ⟨fun p nm b hp hnm hB => ?_, fun p b _ hB => absurd hB B_0⟩
    have hb := B_lt hB
    obtain ⟨hg, k, hL, hk, h0, hu, hf⟩ := (sd_h hok hfu.1 hp hnm hb).mp hB
    exact ⟨p, hp, hg, hf ▸ .seed hL hk h0 hu⟩
theorem wHR_up {P : Pln} {n F F2 : Nat} {g : Rw} {q b : Nat} (h : B ((wS P n g F).1 q) b) : B ((wHR P n g F F2).1 q) b := by
  have hup : ∀ (w : Rw) (p k : Nat) (s : HR), B (s.1 q) b → B ((goF P w p k s).1.1 q) b := by
    have hu : ∀ (s : HR) (w : Rw) (j : Nat) (x : Int32), B (s.1 q) b → B (upd s.1 j (cv s.1 w j x) q) b := by
      intro s w j x h
      unfold upd
      by_cases e : q = j
      · subst e; rw [if_pos rfl]; exact B_or.mpr (Or.inl h)
      · rw [if_neg e]; exact h
    intro w p k s h
    unfold goF
    by_cases h1 : P.kd p k = 1
    · rw [if_pos h1]; exact hu s w _ _ h
    · rw [if_neg h1]
      by_cases h2 : P.kd p k = 2
      · rw [if_pos h2]; exact hu (go2a P w p k s).1 w _ _ (hu s w _ _ h)
      · rw [if_neg h2]
        by_cases h5 : P.kd p k = 5
        · rw [if_pos h5]; exact h
        · rw [if_neg h5]; exact h
  refine wh_inv (q := goQ P n (wS P n g F).2 (wA P n F)) (Inv := fun s => B (s.1 q) b) (fun s hs => ?_) F2 _ h
  refine pit_inv (Q := fun t : HR × Int32 => B (t.1.1 q) b) hs (fun p t hp ht => ?_)
  unfold goP
  by_cases h : wA P n F p = 0
  · rw [if_pos h]; exact ht
  · rw [if_neg h]
    exact pit_inv (Q := fun t : HR × Int32 => B (t.1.1 q) b) ht (fun k t hk ht => hup _ p k _ ht)
theorem cv_B {h w : Rw} {q : Nat} {x : Int32} (e : cv h w q x = h q) {b : Nat} (hb : b < 32) (hx : B x b) (hw : ¬ B (w q) b) : B (h q) b := by
  rw [← e]; exact B_or.mpr (Or.inr (B_and.mpr ⟨hx, (B_not hb).mpr hw⟩))
theorem wHR_fix {P : Pln} {n F F2 : Nat} {g : Rw} (hok : P.ok n) (hfu : fuOK P n g F F2) {p k : Nat} (hp : p < n) (hL : Lv P n p) (hk : k < P.ml p) : (goF P (wS P n g F).2 p k (wHR P n g F F2)).2 = 0 := by
  have hfix := (Stp_W (goQ_stp (w := (wS P n g F).2) (a := wA P n F) hok) F2 ((wS P n g F).1, zr) trivial hfu.2).2
  change it (goP P (wS P n g F).2 (wA P n F)) n (wHR P n g F F2, 0) = (wHR P n g F F2, 0) at hfix
  have h0 : (it (goP P (wS P n g F).2 (wA P n F)) n (wHR P n g F F2, 0)).2 = 0 := by rw [hfix]
  have e1 := Stp_fix (fun p hp => goP_stp (w := (wS P n g F).2) (a := wA P n F) hok hp) (s := (wHR P n g F F2, 0)) trivial h0 p hp
  have e2 : (it (goL P (wS P n g F).2 p) (P.ml p) (wHR P n g F F2, 0)).2 = 0 := by
    have : (goP P (wS P n g F).2 (wA P n F) p (wHR P n g F F2, 0)).2 = 0 := by rw [e1]
    unfold goP at this
    rwa [if_neg ((wA_iff hok hfu.1 p).mpr hL)] at this
  have e3 := Stp_fix (fun k hk => goL_stp (w := (wS P n g F).2) hok hp hk) (s := (wHR P n g F F2, 0)) trivial e2 k hk
  have e4 : or2 0 (goF P (wS P n g F).2 p k (wHR P n g F F2)).2 = 0 := congrArg Prod.snd e3
  exact (or2_z.mp e4).2
/-- which place of the model is a place -/
def atM (s : HR) (b pl : Nat) : Prop := ∀ p x, pl = 25 * p + x → (x < 8 → B (s.1 (8 * p + x)) b) ∧ (x = 8 → B (s.2 p) b)
theorem wHR_full {P : Pln} {n F F2 : Nat} {g : Rw} (hok : P.ok n) (hfu : fuOK P n g F F2) {o b pl : Nat} (hg : B (g o) b) (h : Rc P n o b pl) : (∀ p x, p < n → x < 8 → pl = 25 * p + x → B ((wHR P n g F F2).1 (8 * p + x)) b) ∧ ∀ p, p < n → pl = 25 * p + 8 → B ((wHR P n g F F2).2 p) b := by
  have hb := B_lt hg
  induction h using Rc.ind with
  | @seed k h1 h2 h3 h4 =>
    have ho := Lv_lt hok h1
    have hf := (hok.2.2 o ho k h2).2.2.1
    refine ⟨fun p x hp hx e => ?_, fun p hp e => absurd e (by omega)⟩
    have e1 : p = o := by omega
    have e2 : P.fs o k = x := by omega
    subst e1
    exact wHR_up ((sd_h hok hfu.1 hp hx hb).mpr ⟨hg, k, h1, h2, h3, h4, e2⟩)
  | @step a c h1 h2 h3 ih =>
    obtain ⟨p, k, hL, hk, h2⟩ := h2
    have hp := Lv_lt hok hL
    have hbd := hok.2.2 p hp k hk
    have hF := wHR_fix hok hfu hp hL hk
    unfold goF at hF
    rcases h2 with ⟨hkd, ⟨i, hi, rfl⟩, rfl⟩ | ⟨hkd, rfl, rfl⟩ | ⟨hkd, rfl, rfl⟩ | ⟨hkd, rfl, rfl⟩ | ⟨hkd, rfl, rfl⟩
    · rw [if_pos hkd] at hF
      have hfr := (hbd.2.2.2.2 hkd).2 i hi
      refine ⟨fun p' x hp' hx e => ?_, fun p' hp' e => absurd e (by omega)⟩
      have e1 : p' = p := by omega
      have e2 : P.fs p k = x := by omega
      subst e1 e2
      refine cv_B (fg_z.mp hF) hb ?_ (fun q => h3 ((sd_w hok hfu.1 hx hb).mp q))
      exact B_itor.mpr (Or.inr ⟨i, hi, ih.1 p' _ hp hfr rfl⟩)
    · rw [if_neg (by omega), if_pos hkd] at hF
      obtain ⟨hq, hsc⟩ := hbd.2.2.2.1 hkd
      have hA := (or2_z.mp hF).1
      refine ⟨fun p' x hp' hx e => ?_, fun p' hp' e => absurd e (by omega)⟩
      have e1 : p' = P.nu p k := by omega
      have e2 : x = 0 := by omega
      subst e1 e2
      exact cv_B (fg_z.mp hA) hb (ih.1 p _ hp hbd.2.2.1 rfl) (fun q => h3 ((sd_w (nm := 0) hok hfu.1 (by omega) hb).mp q))
    · rw [if_neg (by omega), if_pos hkd] at hF
      obtain ⟨hq, hsc⟩ := hbd.2.2.2.1 hkd
      have hA := (or2_z.mp hF).1
      have hA1 : (go2a P (wS P n g F).2 p k (wHR P n g F F2)).1 = wHR P n g F F2 := (go2a_Sf hok hp hk hkd _).2.2 hA
      have hB := (or2_z.mp hF).2
      rw [hA1] at hB
      refine ⟨fun p' x hp' hx e => ?_, fun p' hp' e => absurd e (by omega)⟩
      have e1 : p' = p := by omega
      have e2 : P.sc p k = x := by omega
      subst e1 e2
      exact cv_B (fg_z.mp hB) hb (ih.2 _ hq rfl) (fun q => h3 ((sd_w hok hfu.1 hx hb).mp q))
    · exact ⟨fun p' x hp' hx e => absurd e (by omega), fun p' hp' e => absurd e (by omega)⟩
    · rw [if_neg (by omega), if_neg (by omega), if_pos hkd] at hF
      refine ⟨fun p' x hp' hx e => absurd e (by omega), fun p' hp' e => ?_⟩
      have e1 : p' = p := by omega
      subst e1
      have e3 := fg_z.mp hF
      rw [← e3]
      exact B_or.mpr (Or.inr (ih.1 p' _ hp hbd.2.2.1 rfl))
theorem wH_iff {P : Pln} {n F F2 : Nat} {g : Rw} (hok : P.ok n) (hfu : fuOK P n g F F2) {p nm s : Nat} (hp : p < n) (hnm : nm < 8) : B ((wHR P n g F F2).1 (8 * p + nm)) s ↔ Rg P n g s (25 * p + nm) :=
  ⟨(wHR_sound hok hfu).1 p nm s hp hnm, fun ⟨o, _, h1, h2⟩ => (wHR_full hok hfu h1 h2).1 p nm hp hnm rfl⟩
theorem wR_iff {P : Pln} {n F F2 : Nat} {g : Rw} (hok : P.ok n) (hfu : fuOK P n g F F2) {p s : Nat} (hp : p < n) : B ((wHR P n g F F2).2 p) s ↔ Rg P n g s (25 * p + 8) :=
  ⟨(wHR_sound hok hfu).2 p s hp, fun ⟨o, _, h1, h2⟩ => (wHR_full hok hfu h1 h2).2 p hp rfl⟩
/-! ## what leaves by which door -/
def LK (P : Pln) (n : Nat) (g : Rw) (s d : Nat) : Prop := ∃ p k, Lv P n p ∧ k < P.ml p ∧ P.kd p k = 3 ∧ P.nu p k = d ∧ B (g p) d ∧ Rg P n g s (25 * p + P.fs p k)
theorem shl_if (x : Int32) {s b : Nat} (h : s < 32) : ((x >>> (nI s &&& 31)) &&& 1) <<< (nI b &&& 31) = if B x s then bt b else 0 := by
  rw [sh_if x h]
  by_cases e : B x s
  · rw [if_pos e, if_pos e]; rfl
  · rw [if_neg e, if_neg e]
    apply Int32.toBitVec_inj.mp
    simp
theorem wL_iff {P : Pln} {n F F2 : Nat} {g : Rw} (hok : P.ok n) (hfu : fuOK P n g F F2) {s d : Nat} (hd : d < 32) : B (wL P n g F F2 s) d ↔ s < 16 ∧ LK P n g s d := by
  have hin0 : ∀ (x : Int32) (b : Nat), b < 32 → ∀ t, t < 16 → ∀ lk : Rw, B (mlS x b t lk s) d ↔ B (lk s) d ∨ (t = s ∧ b = d ∧ B x s) := by
    intro x b hb t ht lk
    unfold mlS upd
    by_cases e : s = t
    · subst e
      rw [if_pos rfl, B_or, shl_if x (by omega)]
      by_cases hx : B x s
      · rw [if_pos hx, B_bt hb hd]; exact ⟨fun z => z.elim Or.inl (fun y => Or.inr ⟨rfl, y.symm, hx⟩), fun z => z.elim Or.inl (fun y => Or.inr y.2.1.symm)⟩
      · rw [if_neg hx]; exact ⟨fun z => z.elim Or.inl (fun y => absurd y B_0), fun z => z.elim Or.inl (fun y => absurd y.2.2 hx)⟩
    · rw [if_neg e]
      exact ⟨Or.inl, fun z => z.elim id (fun y => absurd y.1.symm e)⟩
  have hin : ∀ p, p < n → Lv P n p → ∀ k, k < P.ml p → ∀ lk : Rw, B (mlL P g (wHR P n g F F2).1 p k lk s) d ↔ B (lk s) d ∨ (s < 16 ∧ P.kd p k = 3 ∧ P.nu p k = d ∧ B (g p) d ∧ Rg P n g s (25 * p + P.fs p k)) := by
    intro p hp hL k hk lk
    have hbd := hok.2.2 p hp k hk
    unfold mlL
    by_cases h3 : P.kd p k = 3 ∧ ¬ (g p >>> (nI (P.nu p k) &&& 31)) &&& 1 = 0
    · rw [if_pos h3]
      have hgb : B (g p) (P.nu p k) := by
        apply Classical.byContradiction; intro q
        exact h3.2 ((sh_z (by omega)).mpr q)
      rw [it_or (R := fun lk : Rw => B (lk s) d) (fun t ht lk => hin0 _ _ (by omega) t ht lk), wH_iff hok hfu hp hbd.2.2.1]
      constructor
      · rintro (a | ⟨t, ht, rfl, rfl, c⟩)
        · exact Or.inl a
        · exact Or.inr ⟨ht, h3.1, rfl, hgb, c⟩
      · rintro (a | ⟨hs, _, e, _, c⟩)
        · exact Or.inl a
        · exact Or.inr ⟨s, hs, rfl, e, c⟩
    · rw [if_neg h3]
      constructor
      · exact Or.inl
      · rintro (a | ⟨hs, e3, rfl, c, _⟩)
        · exact a
        · exact absurd ⟨e3, fun q => ((sh_z hd).mp q) c⟩ h3
  have hmid : ∀ p, p < n → ∀ lk : Rw, B (mlP P g (wHR P n g F F2).1 (wA P n F) p lk s) d ↔ B (lk s) d ∨ (Lv P n p ∧ ∃ k, k < P.ml p ∧ (s < 16 ∧ P.kd p k = 3 ∧ P.nu p k = d ∧ B (g p) d ∧ Rg P n g s (25 * p + P.fs p k))) := by
    intro p hp lk
    have hA := wA_iff hok hfu.1 p
    unfold mlP
    by_cases h : wA P n F p = 0
    · rw [if_pos h]
      have : ¬ Lv P n p := fun q => (hA.mpr q) h
      simp [this]
    · rw [if_neg h]
      have hL := hA.mp h
      rw [it_or (R := fun lk : Rw => B (lk s) d) (fun k hk lk => hin p hp hL k hk lk)]
      simp [hL]
  unfold wL mlA
  rw [it_or (R := fun lk : Rw => B (lk s) d) (fun p hp lk => hmid p hp lk)]
  constructor
  · rintro (a | ⟨p, hp, hL, k, hk, hs, h⟩)
    · exact absurd a B_0
    · exact ⟨hs, p, k, hL, hk, h⟩
  · rintro ⟨hs, p, k, hL, hk, h⟩
    exact Or.inr ⟨p, Lv_lt hok hL, hL, k, hk, hs, h⟩
theorem LK_lt {P : Pln} {n : Nat} {g : Rw} (hok : P.ok n) {s d : Nat} (h : LK P n g s d) : s < 16 ∧ d < 16 := by
  obtain ⟨p, k, hL, hk, h3, rfl, hg, o, ho, hgo, hr⟩ := h
  exact ⟨(Rc_lt hok hr).2, (hok.2.2 p (Lv_lt hok hL) k hk).2.1⟩
/-! ## needed rights -/
def Nd (P : Pln) (n p s : Nat) : Prop := Lv P n p ∧ ∃ k, k < P.ml p ∧ (P.kd p k = 0 ∨ P.kd p k = 3) ∧ P.nu p k = s
theorem nP_iff {P : Pln} {n F : Nat} (hok : P.ok n) (hE : whE (akQ P n) F (ak0 n)) {p s : Nat} (hp : p < n) (hs : s < 32) : B (nP P (wA P n F) p) s ↔ Nd P n p s := by
  have hA := wA_iff hok hE p
  unfold nP Nd
  by_cases h : wA P n F p = 0
  · rw [if_pos h]
    have : ¬ Lv P n p := fun q => (hA.mpr q) h
    simp [this, B_0]
  · rw [if_neg h, B_itor]
    have hL := hA.mp h
    constructor
    · rintro (a | ⟨k, hk, a⟩)
      · exact absurd a B_0
      · by_cases e : P.kd p k = 0 ∨ P.kd p k = 3
        · rw [if_pos e, B_bt (by have := (hok.2.2 p hp k hk).2.1; omega) hs] at a
          exact ⟨hL, k, hk, e, a.symm⟩
        · rw [if_neg e] at a; exact absurd a B_0
    · rintro ⟨_, k, hk, e, rfl⟩
      refine Or.inr ⟨k, hk, ?_⟩
      rw [if_pos e, B_bt hs hs]
theorem Nd_lt {P : Pln} {n p s : Nat} (hok : P.ok n) (h : Nd P n p s) : s < 16 := by
  obtain ⟨hL, k, hk, _, rfl⟩ := h
  exact (hok.2.2 p (Lv_lt hok hL) k hk).2.1
/-- what leaves depends on the rights that are needed alone -/
theorem LK_need {P : Pln} {n : Nat} {g g' : Rw} (h : ∀ p s, p < n → Nd P n p s → (B (g p) s → B (g' p) s)) {s d : Nat} (hok : P.ok n) (hl : LK P n g s d) : LK P n g' s d := by
  obtain ⟨p, k, hL, hk, h3, rfl, hg, o, ho, hgo, hr⟩ := hl
  have hp := Lv_lt hok hL
  refine ⟨p, k, hL, hk, h3, rfl, h p _ hp ⟨hL, k, hk, Or.inr h3, rfl⟩ hg, o, ho, ?_, hr⟩
  have hN : Nd P n o s := by
    clear hgo hg
    generalize 25 * p + P.fs p k = pl at hr
    induction hr using Rc.ind with
    | seed a b c d => exact ⟨a, _, b, Or.inl c, d⟩
    | step _ _ _ ih => exact ih
  exact h o s ho hN hgo
