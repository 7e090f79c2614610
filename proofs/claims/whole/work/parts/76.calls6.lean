/-! ## cure -/
theorem offC_z {I A : Nat → Nat → Int32} (h : offC I A) : ∀ q, q < 114 → A q = I q := fun q hq => h q (Or.inl hq)
theorem offC_kp {I A : Nat → Nat → Int32} (h : offC I A) : Kp I A := fun a b hr => by
  rw [h a ?_]
  rcases rel_w hr with q | q
  · exact Or.inl q
  · refine Or.inr ⟨q, ?_, ?_⟩
    · rintro rfl; exact rel_no hr (by decide)
    · rintro rfl; exact rel_no hr (by decide)
set_option maxHeartbeats 4000000 in
theorem c_cure {l : Launch} {G : Gm} {I : Nat → Nat → Int32} {J : Nat → Nat → Int64} (hI : InvE I) : CPr l G iX8_cure iX10_cure [] I J := by
  obtain ⟨n, P, t, sz, z, y, h⟩ := hI
  obtain ⟨hn, hn10, hs, hmo, hok, hn4⟩ := iv_n h
  obtain ⟨F, F2, hfu⟩ := fu_ex hok
  have hE := (hfu (fun _ => 0)).1
  have hk := bu_kp h
  have hN := (bu_all h).1
  have hms := (iv_ms h hfu).1
  have hc := s_cure (l := l) (G := G) (J := J) hn hn10 hs
  have hkl := lk_kp (g := 4) h
  have hTR := iv_TR h hfu
  have hTT := iv_TT h hkl
  have hLat : ∀ d, d < 16 → lookF (buF I n P.ml) n 4 94 d = lkR (buF I n P.ml) n 4 d := fun d hd => look_at hd
  have hLoB : ∀ q, 73 ≤ q → q < 92 → lookF (buF I n P.ml) n 4 q = buF I n P.ml q := fun q h1 h2 => look_off (by omega)
  have hlN : Fr (lookF (buF I n P.ml) n 4) n P := Fr_cg hn10 hN hLoB
  have hL0 : lookF (buF I n P.ml) n 4 0 = buF I n P.ml 0 := look_off (by decide)
  have hLg : ∀ p, p < 10 → lookF (buF I n P.ml) n 4 4 p = lookF (buF I n P.ml) n 4 104 p := fun p hp => iv_g h hkl p hp
  generalize hL : lookF (buF I n P.ml) n 4 = L at *
  -- what the end needs, once for all
  have fin : ∀ (D A : Nat → Nat → Int32) (x : Int32) (y' : Nat), x ≠ 4 → (∀ q, q ≠ 94 → q ≠ 98 → q ≠ 99 → q ≠ 100 → q ≠ 101 → q ≠ 102 → q < 103 → D q = L q) → (∀ q, 103 ≤ q → D q = L q) → D 98 8 = nI y' → y' ≤ 10 →
      (∀ a b, ¬ (a = 103 ∧ b = 34) → a ≠ 122 → rel a b → A a b = T0 (up1 D 0 7 x) a b) → (∀ q, 73 ≤ q → q < 92 → A q = D q) → A 0 8 = D 0 8 → A 103 34 = nI y' → (∀ i, i < y' → D 102 i = A 122 i) → Inv (tr A x) n P t sz z y' := by
    intro D A x y' hx hD hD2 hy1 hy2 hA hA3 hA8 hy3 hy4
    have hAr : ∀ a, rowAll a = true → a ≠ 122 → A a = D a := by
      intro a ha h1
      funext b
      have hr : rel a b := rel_t ha
      have h0 : a ≠ 0 := by rintro rfl; exact absurd ha (by decide)
      have h3 : a ≠ 103 := by rintro rfl; exact absurd ha (by decide)
      rw [hA a b (fun q => h3 q.1) h1 hr, T0_off h3, up1_nf h0]
    have hAp : ∀ a b, (a, b) ∈ relL → ¬ (a = 103 ∧ b = 34) → ¬ (a = 0 ∧ b = 7) → A a b = D a b := by
      intro a b hm h1 h2
      have hr : rel a b := Or.inr hm
      have h122 : a ≠ 122 := by rintro rfl; simp [relL] at hm
      rw [hA a b h1 h122 hr]
      by_cases e : a = 103
      · subst e; rw [T0_103 (rel_103 hr), up1_nf (by decide)]
      · rw [T0_off e]; unfold up1; rw [if_neg h2]
    have hLk : ∀ a b, rel a b → L a b = I a b := hkl
    refine Inv_fin h hx ?_ (fun a b hr hcg hne => ?_) (fun _ => ?_) (fun q hq => ?_) ?_ ⟨?_, ?_, ?_, fun i hi => ?_⟩ ⟨?_, hy2, hy3, fun i hi => ?_⟩
    · rw [hA 0 7 (by decide) (by decide) (Or.inr (by decide)), T0_off (by decide), up1_same]
    · rcases hr with hr | hr
      · have h1 : a ≠ 122 := by rintro rfl; simp [chg] at hcg
        have h2 : a ≠ 102 := by rintro rfl; simp [chg] at hcg
        rw [hAr a hr h1, ← hLk a b (rel_t hr)]
        by_cases e : a < 103
        · rw [hD a (by rintro rfl; exact absurd hr (by decide)) (by rintro rfl; exact absurd hr (by decide)) (by rintro rfl; exact absurd hr (by decide)) (by rintro rfl; exact absurd hr (by decide)) (by rintro rfl; exact absurd hr (by decide)) h2 e]
        · rw [hD2 a (by omega)]
      · have h1 : ¬ (a = 103 ∧ b = 34) := by rintro ⟨rfl, rfl⟩; simp [chg] at hcg
        rw [hAp a b hr h1 hne, ← hLk a b (Or.inr hr)]
        by_cases e98 : a = 98
        · subst e98
          simp [relL] at hr
          subst hr
          simp [chg] at hcg
        · by_cases e : a < 103
          · rw [hD a (by rintro rfl; simp [relL] at hr) e98 (by rintro rfl; simp [relL] at hr) (by rintro rfl; simp [relL] at hr) (by rintro rfl; simp [relL] at hr) (by rintro rfl; simp [relL] at hr) e]
          · rw [hD2 a (by omega)]
    · exact Fr_cg hn10 hlN (fun q h1 h2 => by rw [hA3 q h1 h2, hD q (by omega) (by omega) (by omega) (by omega) (by omega) (by omega) (by omega)])
    · rw [hAr 4 (by decide) (by decide), hAr 104 (by decide) (by decide), hD 4 (by decide) (by decide) (by decide) (by decide) (by decide) (by decide) (by decide), hD2 104 (by decide)]
      have := iv_gw h q hq
      refine ⟨hLg q hq, ?_⟩
      rw [Kp_row (a := 4) hkl (fun b => rel_t (by decide))]; exact this.2
    · rw [hAr 93 (by decide) (by decide), hAr 106 (by decide) (by decide), hD 93 (by decide) (by decide) (by decide) (by decide) (by decide) (by decide) (by decide), hD2 106 (by decide)]
      exact hTT
    · rw [hAp 95 4 (by decide) (by decide) (by decide), hD 95 (by decide) (by decide) (by decide) (by decide) (by decide) (by decide) (by decide), hLk 95 4 (Or.inr (by decide))]; exact (iv_z h).1
    · exact (iv_z h).2.1
    · rw [hAp 103 30 (by decide) (by decide) (by decide), hD2 103 (by decide), hLk 103 30 (Or.inr (by decide))]; exact (iv_z h).2.2.1
    · rw [hAr 97 (by decide) (by decide), hAr 120 (by decide) (by decide), hD 97 (by decide) (by decide) (by decide) (by decide) (by decide) (by decide) (by decide), hD2 120 (by decide), hLk 97 i (rel_t (by decide)), hLk 120 i (rel_t (by decide))]
      exact (iv_z h).2.2.2 i hi
    · rw [hAp 98 8 (by decide) (by decide) (by decide)]; exact hy1
    · rw [hAr 102 (by decide) (by decide)]; exact hy4 i hi
  obtain ⟨y1, y2, y3, y4⟩ := iv_y h
  have ly1 : L 98 8 = nI y := (hkl 98 8 (Or.inr (by decide))).trans y1
  have ly3 : L 103 34 = nI y := (hkl 103 34 (Or.inr (by decide))).trans y3
  have ly4 : ∀ i, i < y → L 102 i = L 122 i := fun i hi => by rw [hkl 102 i (rel_t (by decide)), hkl 122 i (rel_t (by decide))]; exact y4 i hi
  -- the model over any memory that the class leaves
  have mdl : ∀ (D : Nat → Nat → Int32) (x : Int32), (∀ q, 103 ≤ q → D q = L q) → Sp l G iX10_cure [.ref (G.1 + 103)] (mm (up1 D 0 7 x) J) (CuR (up1 D 0 7 x) J P n F F2) noT := by
    intro D x hD2
    exact s_mcure (mOK_cg (by rw [up1_nf (by decide), hD2 103 (by decide)]) (fun q hq => (up1_nf (by omega)).trans (hD2 q (by omega))) (mOK_kp hmo hkl)) hfu
  by_cases h0 : msF L = 0
  · unfold xCure at hc
    rw [if_pos h0] at hc
    dsimp only at hc
    let D := up1 L 98 8 0
    have hD2 : ∀ q, 103 ≤ q → D q = L q := fun q hq => up1_nf (by omega)
    have e104 : up1 D 0 7 0 104 = L 104 := (up1_nf (by decide)).trans (hD2 104 (by decide))
    have e106 : up1 D 0 7 0 106 = L 106 := (up1_nf (by decide)).trans (hD2 106 (by decide))
    refine hc.mono fun v M hv => ⟨_, _, hv.1, hv.2, (mdl D 0 hD2).mono fun v' M' hv' => ?_⟩
    obtain ⟨q1, A, q2, q3⟩ := hv'.1 (by rw [e104, e106, ← hms]; exact h0)
    refine ⟨q1, _, q3, n, P, t, sz, z, 0, ?_⟩
    refine fin D (up1 A 103 34 0) 0 0 (by decide) (fun q a1 a2 a3 a4 a5 a6 a7 => up1_nf a2) hD2 (up1_same _ _ _ _) (by omega) (fun a b h1 h2 hr => ?_) (fun q h1 h2 => ?_) ?_ (up1_same _ _ _ _) (fun i hi => absurd hi (by omega))
    · have : up1 A 103 34 0 a b = A a b := by unfold up1; rw [if_neg h1]
      rw [this]; exact offC_kp q2 a b hr
    · rw [up1_nf (by omega), offC_z q2 q (by omega), T0_off (by omega), up1_nf (by omega)]
    · rw [up1_nf (by decide), offC_z q2 0 (by decide), T0_off (by decide)]; simp [up1]
  · -- the candidates
    have hne : ∀ (D : Nat → Nat → Int32) (x : Int32), (∀ q, 103 ≤ q → D q = L q) → ¬ mMis (wL P n (up1 D 0 7 x 104) F F2) (up1 D 0 7 x 106) = 0 := by
      intro D x hD2
      rw [up1_nf (by decide), up1_nf (by decide), hD2 104 (by decide), hD2 106 (by decide), ← hms]; exact h0
    have hu : ∀ p, p < n → bsU L p = cuU P (wA P n F) (L 104) p := by
      intro p hp
      unfold bsU cuU
      rw [use_eq hok hlN.1 hE hp, hLg p (by omega)]
    have hga := ga_eq (I := L) n hn10 hu (16 * n) 0 (up1 L 98 7 0) (0, fun _ => 0) (by omega) ⟨up1_same _ _ _ _, by show 0 ≤ 10; omega, fun i hi => absurd hi (Nat.not_lt_zero _), fun q h1 h2 => up1_nf h1, by simp [up1]⟩ (fun i hi => absurd hi (Nat.not_lt_zero _))
    have hJ := mg_J (v := cuU P (wA P n F) (L 104)) (16 * n) 0 (0, fun _ => 0) (fun i j _ hj => absurd hj (Nat.not_lt_zero _)) (fun i hi => absurd hi (Nat.not_lt_zero _))
    have hmG : mG P n (L 104) F = mgF (cuU P (wA P n F) (L 104)) (16 * n) 0 (0, fun _ => 0) := rfl
    rw [← hmG] at hga hJ
    generalize hGm : mG P n (L 104) F = gm at hga hJ
    obtain ⟨ok, s⟩ := gm
    generalize hGc : gaF (bsU L) (16 * n) 0 (up1 L 98 7 0) = gc at hga
    unfold xCure at hc
    rw [if_neg h0, hGc] at hc
    obtain ⟨g1, ⟨r1, r2, r3, r4, r5⟩, g3⟩ := hga
    dsimp only at g1 r1 r2 r3 r4 r5 g3 hJ
    have hA1o : ∀ q, q ≠ 98 → q ≠ 101 → gc.2 q = L q := r4
    have hA2 : ∀ q, 103 ≤ q → gc.2 q = L q := fun q hq => r4 q (by omega) (by omega)
    have e104 : ∀ (D : Nat → Nat → Int32) (x : Int32), (∀ q, 103 ≤ q → D q = L q) → up1 D 0 7 x 104 = L 104 := fun D x hD => (up1_nf (by decide)).trans (hD 104 (by decide))
    have e106 : ∀ (D : Nat → Nat → Int32) (x : Int32), (∀ q, 103 ≤ q → D q = L q) → up1 D 0 7 x 106 = L 106 := fun D x hD => (up1_nf (by decide)).trans (hD 106 (by decide))
    by_cases hg0 : gc.1 = 0
    · rw [if_pos hg0] at hc
      dsimp only at hc
      have hok0 : ok = false := g1.mp hg0
      refine hc.mono fun v M hv => ⟨_, _, hv.1, hv.2, (mdl gc.2 6 hA2).mono fun v' M' hv' => ?_⟩
      obtain ⟨q1, A, q2, q3⟩ := (hv'.2 (hne gc.2 6 hA2)).1 (by rw [e104 gc.2 6 hA2, hGm]; exact hok0)
      refine ⟨q1, _, q3, n, P, t, sz, z, y, ?_⟩
      refine fin gc.2 A 6 y (by decide) (fun q a1 a2 a3 a4 a5 a6 a7 => r4 q a2 a5) hA2 (r5.trans ly1) y2 (fun a b h1 h2 hr => offC_kp q2 a b hr) (fun q h1 h2 => ?_) ?_ ?_ (fun i hi => ?_)
      · rw [offC_z q2 q (by omega), T0_off (by omega), up1_nf (by omega)]
      · rw [offC_z q2 0 (by decide), T0_off (by decide)]; simp [up1]
      · rw [offC_z q2 103 (by decide), T0_103 (by decide), up1_nf (by decide), hA2 103 (by decide)]; exact ly3
      · rw [q2 122 (Or.inr (by decide)), T0_off (by decide), up1_nf (by decide), hA2 122 (by decide), r4 102 (by decide) (by decide)]; exact ly4 i hi
    · rw [if_neg hg0] at hc
      have hok1 : ok = true := by
        cases ok with
        | true => rfl
        | false => exact absurd (g1.mpr rfl) hg0
      have hcc : cn (gc.2 98 7) = s.1 := by rw [r1]; exact nI_clamp (by omega)
      rw [hcc] at hc
      -- which choices cure
      let W : Nat → Prop := fun x => ∀ k, k < 16 → wL P n (it (tgS s.2 (nI x)) s.1 (L 104)) F F2 k = svR P n (L 104) (L 106) F F2 k
      have hWm : ∀ x, x < 2 ^ s.1 → (wellF P n (L 104) (L 106) F F2 s.2 s.1 (nI x) = 0 ↔ ¬ W x) := fun x _ => wl_iff 16
      have hBg : ∀ i, i < s.1 → s.2 i % 100 < 16 ∧ B (L 104 (s.2 i / 100)) (s.2 i % 100) := by
        intro i hi
        refine ⟨(r3 i hi).2.2, ?_⟩
        have := g3 i hi
        unfold cuU at this
        exact (B_and.mp this).1
      have hWc : ∀ A, offTD (seW gc.2) A → ∀ j, j < 2 ^ s.1 → (icE (icF A n s.1 (nI j)) 16 = 0 ↔ ¬ wlC s.1 W j) ∧ offTD (seW gc.2) (icF A n s.1 (nI j)) := by
        intro A hA j hj
        have hAo : ∀ q, q ≠ 99 → q ≠ 94 → q ≠ 98 → q ≠ 100 → q ≠ 101 → A q = L q := by
          intro q q1 q2 q3 q4 q5
          rw [hA q q1 q2]
          unfold seW
          rw [stRow_off q4]
          exact r4 q q3 q5
        have hA101 : A 101 = gc.2 101 := by rw [hA 101 (by decide) (by decide)]; unfold seW; exact stRow_off (by decide)
        have hA100 : ∀ d, d < 16 → A 100 d = lkR (buF I n P.ml) n 4 d &&& L 93 d := by
          intro d hd
          rw [hA 100 (by decide) (by decide)]
          unfold seW
          rw [stRow_in hd, r4 94 (by decide) (by decide), r4 93 (by decide) (by decide), hLat d hd]
        have hrow : ∀ p, p < 10 → icT A s.1 (nI j) p = it (tgS s.2 (nI (rev s.1 j))) s.1 (L 104) p := by
          intro p hp
          apply B_ext
          intro b hb
          rw [ic_GX r2 (g := L 104) (fun p hp => by rw [hAo 4 (by decide) (by decide) (by decide) (by decide) (by decide)]; exact hLg p hp) (fun i hi => by rw [hA101]; exact r3 i hi) hp hb, tg_GX r2 hJ hBg hb]
        have hFs : Fr (stRow A 99 10 (icT A s.1 (nI j))) n P := Fr_cg hn10 hlN (fun q h1 h2 => by rw [stRow_off (by omega)]; exact hAo q (by omega) (by omega) (by omega) (by omega) (by omega))
        have hTx : TR (lkR (stRow A 99 10 (icT A s.1 (nI j))) n 99) (wL P n (it (tgS s.2 (nI (rev s.1 j))) s.1 (L 104)) F F2) := TR_lk hok hFs (fun p hp => by rw [stRow_in (by omega)]; exact hrow p (by omega)) (hfu _)
        have hTw : TR (fun d => lkR (buF I n P.ml) n 4 d &&& L 93 d) (svR P n (L 104) (L 106) F F2) := TR_a hTR hTT
        refine ⟨?_, fun q q1 q2 => ?_⟩
        · rw [icE_iff 16 (Nat.le_refl _)]
          refine not_congr ?_
          rw [show wlC s.1 W j = ∀ k, k < 16 → wL P n (it (tgS s.2 (nI (rev s.1 j))) s.1 (L 104)) F F2 k = svR P n (L 104) (L 106) F F2 k from rfl, ← TR_eq hTx hTw]
          have e1 : ∀ d, d < 16 → icF A n s.1 (nI j) 94 d = lkR (stRow A 99 10 (icT A s.1 (nI j))) n 99 d := fun d hd => look_at hd
          have e2 : ∀ d, d < 16 → icF A n s.1 (nI j) 100 d = lkR (buF I n P.ml) n 4 d &&& L 93 d := fun d hd => by
            unfold icF
            rw [look_off (by decide), stRow_off (by decide)]; exact hA100 d hd
          constructor
          · intro q d hd; rw [← e1 d hd, ← e2 d hd]; exact q d (by omega) hd
          · intro q d _ hd; rw [e1 d hd, e2 d hd]; exact q d hd
        · unfold icF
          rw [look_off q2, stRow_off q1]; exact hA q q1 q2
      have hse := seO_spec (n := n) r2 hWc s.1 1 (seW gc.2) (by omega) (fun _ _ _ => rfl)
      have hcu := cuB_spec (P := P) (n := n) (F := F) (F2 := F2) (g := L 104) (me := L 106) (cd := s.2) r2 hWm
      have hseF : seF gc.2 n s.1 = seO n s.1 s.1 1 (seW gc.2) := rfl
      rw [← hseF] at hse
      have hoff : ∀ A, offTD (seW gc.2) A → (∀ q, q ≠ 94 → q ≠ 98 → q ≠ 99 → q ≠ 100 → q ≠ 101 → q ≠ 102 → q < 103 → A q = L q) ∧ (∀ q, 103 ≤ q → A q = L q) ∧ A 98 8 = L 98 8 ∧ A 102 = L 102 ∧ A 101 = gc.2 101 := by
        intro A hA
        have hs1 : ∀ q, q ≠ 100 → seW gc.2 q = gc.2 q := fun q hq => stRow_off hq
        refine ⟨fun q a1 a2 a3 a4 a5 a6 a7 => ?_, fun q hq => ?_, ?_, ?_, ?_⟩
        · rw [hA q a3 a1, hs1 q a4, r4 q a2 a5]
        · rw [hA q (by omega) (by omega), hs1 q (by omega), r4 q (by omega) (by omega)]
        · rw [hA 98 (by decide) (by decide), hs1 98 (by decide)]; exact r5
        · rw [hA 102 (by decide) (by decide), hs1 102 (by decide), r4 102 (by decide) (by decide)]
        · rw [hA 101 (by decide) (by decide), hs1 101 (by decide)]
      have hp2 : 0 < 2 ^ s.1 := Nat.pow_pos (by decide)
      have rpos : ∀ x, 0 < x → x < 2 ^ s.1 → 0 < rev s.1 x := by
        intro x h1 h2
        apply Classical.byContradiction
        intro hn
        have e : rev s.1 x = 0 := by omega
        have hrr := rev_rev h2
        rw [e] at hrr
        have z0 : rev s.1 0 = 0 := by
          apply Nat.eq_of_testBit_eq; intro i; rw [rev_bit]; simp
        omega
      rcases hse with ⟨f1, f2, f3⟩ | ⟨ch, f1, f2, f3, f4, f5, f6, A', f7, f8⟩
      · -- none
        rw [if_pos f1] at hc
        dsimp only at hc
        obtain ⟨o1, o2, o3, o4, o5⟩ := hoff _ f2
        have hcm : cuB P n (L 104) (L 106) F F2 s.2 s.1 = -1 := by
          rcases hcu with ⟨c1, _⟩ | ⟨m, c1, c2, c3, c4, c5⟩
          · exact c1
          · exfalso
            refine f3 (rev s.1 m) (rpos m c2 c3) (rev_lt _ _) ?_ ?_
            · have := pop_pos (show s.1 ≤ 16 by omega) (rev_lt s.1 m) (rpos m c2 c3); omega
            · unfold wlC; rw [rev_rev c3]; exact c4
        refine hc.mono fun v M hv => ⟨_, _, hv.1, hv.2, (mdl _ 5 o2).mono fun v' M' hv' => ?_⟩
        have hcl := ((hv'.2 (hne _ 5 o2)).2 (by rw [e104 _ 5 o2, hGm]; exact hok1)).1
        rw [e104 _ 5 o2, e106 _ 5 o2, hGm] at hcl
        obtain ⟨q1, A, q2, q3⟩ := hcl hcm
        refine ⟨q1, _, q3, n, P, t, sz, z, y, ?_⟩
        refine fin _ A 5 y (by decide) o1 o2 (o3.trans ly1) y2 (fun a b h1 h2 hr => offC_kp q2 a b hr) (fun q h1 h2 => ?_) ?_ ?_ (fun i hi => ?_)
        · rw [offC_z q2 q (by omega), T0_off (by omega), up1_nf (by omega)]
        · rw [offC_z q2 0 (by decide), T0_off (by decide)]; simp [up1]
        · rw [offC_z q2 103 (by decide), T0_103 (by decide), up1_nf (by decide), o2 103 (by decide)]; exact ly3
        · rw [q2 122 (Or.inr (by decide)), T0_off (by decide), up1_nf (by decide), o2 122 (by decide), o4]; exact ly4 i hi
      · -- the best
        rw [if_neg (by rw [f6]; decide)] at hc
        dsimp only at hc
        obtain ⟨o1, o2, o3, o4, o5⟩ := hoff A' f7
        obtain ⟨m, c1, cb⟩ : ∃ m, cuB P n (L 104) (L 106) F F2 s.2 s.1 = nI m ∧ bst s.1 W m := by
          rcases hcu with ⟨_, c2⟩ | q
          · exact absurd f4 (c2 _ (rpos ch f1 f2) (rev_lt _ _))
          · exact q
        have hmr : m = rev s.1 ch := best_same r2 cb f1 f2 f4 f5
        subst hmr
        obtain ⟨k1, k2, k3, k4⟩ := keep_eq (A := A') (s := s) (ch := ch) (r := L 122) r2 (fun i hi => by rw [o5]; exact (r3 i hi).1) (fun i hi => absurd hi (Nat.not_lt_zero _))
        rw [f8] at hc
        generalize hK : it (kpM s.2 (nI (rev s.1 ch))) s.1 (0, L 122) = K at k1 k2 k3
        have hD2 : ∀ q, 103 ≤ q → kpF A' s.1 (nI ch) s.1 q = L q := fun q hq => (k4 q (by omega) (by omega)).trans (o2 q hq)
        refine hc.mono fun v M hv => ⟨_, _, hv.1, hv.2, (mdl _ 0 hD2).mono fun v' M' hv' => ?_⟩
        have hcl := ((hv'.2 (hne _ 0 hD2)).2 (by rw [e104 _ 0 hD2, hGm]; exact hok1)).2
        rw [e104 _ 0 hD2, e106 _ 0 hD2, hGm, c1, show up1 (kpF A' s.1 (nI ch) s.1) 0 7 0 122 = L 122 from (up1_nf (by decide)).trans (hD2 122 (by decide))] at hcl
        dsimp only at hcl
        rw [hK] at hcl
        have hm1024 : rev s.1 ch < 2 ^ 31 := by
          have := rev_lt s.1 ch
          have h2 : 2 ^ s.1 ≤ 2 ^ 10 := Nat.pow_le_pow_right (show 0 < 2 by decide) r2
          omega
        obtain ⟨q1, A, q2, q3⟩ := hcl (nI_nm1 hm1024)
        refine ⟨by rw [q1, k1], _, q3, n, P, t, sz, z, K.1, ?_⟩
        refine fin (kpF A' s.1 (nI ch) s.1) _ 0 K.1 (by decide) (fun q a1 a2 a3 a4 a5 a6 a7 => (k4 q a2 a6).trans (o1 q a1 a2 a3 a4 a5 a6 a7)) hD2 k1 (by omega) (fun a b h1 h2 hr => ?_) (fun q h1 h2 => ?_) ?_ (up1_same _ _ _ _) (fun i hi => ?_)
        · have : up1 (stRow A 122 10 K.2) 103 34 (nI K.1) a b = A a b := by
            unfold up1; rw [if_neg h1, stRow_off h2]
          rw [this]; exact offC_kp q2 a b hr
        · rw [up1_nf (by omega), stRow_off (by omega), offC_z q2 q (by omega), T0_off (by omega), up1_nf (by omega)]
        · rw [up1_nf (by decide), stRow_off (by decide), offC_z q2 0 (by decide), T0_off (by decide)]; simp [up1]
        · rw [up1_nf (by decide), stRow_in (by omega)]; exact k3 i hi
