/-! ## one right turned -/
theorem Fr_cg {I A : Nat → Nat → Int32} {n : Nat} {P : Pln} (hn : n ≤ 10) (h : Fr I n P) (he : ∀ q, 73 ≤ q → q < 92 → A q = I q) : Fr A n P :=
  ⟨Nf_cg h.1 (fun q h1 h2 => he q h1 (by omega)), fun o ho => by rw [he (82 + o) (by omega) (by omega)]; exact h.2 o ho⟩
theorem look_at {A : Nat → Nat → Int32} {n g d : Nat} (hd : d < 16) : lookF A n g 94 d = lkR A n g d := by simp [lookF, stRow, hd]
theorem look_off {A : Nat → Nat → Int32} {n g q : Nat} (h : q ≠ 94) : lookF A n g q = A q := by funext j; simp [lookF, stRow, h]
theorem pmwT_off {A : Nat → Nat → Int32} {p : Nat} {r : Int32} {q : Nat} (h : q ≠ 99) : mwT A p r q = A q := by funext j; simp [mwT, up1, cpRow, h]
theorem mwT_99 {A : Nat → Nat → Int32} {p r q : Nat} (hq : q < 10) : mwT A p (nI r) 99 q = trnG (A 4) p r q := by
  unfold mwT trnG upd up1
  by_cases e : q = p
  · subst e; simp [bt]
  · simp [e, cpRow, hq]
theorem mw_off {A : Nat → Nat → Int32} {n p : Nat} {r : Int32} {q : Nat} (h : q ≠ 99) (h2 : q ≠ 94) : mwF A n p r q = A q := by
  unfold mwF; rw [look_off h2, pmwT_off h]
theorem mw_eq {A : Nat → Nat → Int32} {n F F2 : Nat} {P : Pln} {g me : Rw} (hok : P.ok n) (hA : Fr A n P) (hg : ∀ p, p < 10 → A 4 p = g p) (hT : TR (A 93) me) (hfu : ∀ g, fuOK P n g F F2) {p r : Nat} : msF (mwF A n p (nI r)) = mMis (wL P n (trnG g p r) F F2) me := by
  have h10 := hok.1
  have hF : Fr (mwT A p (nI r)) n P := Fr_cg h10 hA (fun q _ _ => pmwT_off (by omega))
  have hT1 : TR (lkR (mwT A p (nI r)) n 99) (wL P n (trnG g p r) F F2) := by
    refine TR_lk hok hF (fun q hq => ?_) (hfu _)
    rw [mwT_99 (by omega)]
    unfold trnG upd
    rw [hg q (by omega)]
    by_cases e : q = p
    · subst e; simp [hg q (by omega)]
    · simp [e]
  have h := msF_eq (A := mwF A n p (nI r)) (x := lkR (mwT A p (nI r)) n 99) (t := A 93) (fun d hd => look_at hd) (fun d hd => by rw [mw_off (by decide) (by decide)]) hT1 hT
  rw [h.1, h.2.1]
theorem mMis_le {x t y m : Rw} (h1 : TR x y) (h2 : TR t m) : ∃ c, c ≤ 256 ∧ mMis y m = nI c := ⟨_, trC_le _, (msF_eq (A := fun a b => if a = 94 then x b else t b) (fun d _ => by simp) (fun d _ => by simp) h1 h2).2.1⟩
/-- a right that is not needed turns nothing -/
theorem turn_0 {P : Pln} {n F F2 : Nat} {g me t x : Rw} (hok : P.ok n) (hfu : ∀ g, fuOK P n g F F2) (hT : TR t me) (hx : TR x (wL P n g F F2)) {p r : Nat} (hp : p < n) (hr : r < 16) (hN : ¬ Nd P n p r) : mMis (wL P n (trnG g p r) F F2) me = mMis (wL P n g F F2) me := by
  have hcg : ∀ s, s < 16 → wL P n (trnG g p r) F F2 s = wL P n g F F2 s := by
    intro s hs
    apply B_ext
    intro d hd
    rw [wL_iff hok (hfu _) hd, wL_iff hok (hfu _) hd]
    have hb : ∀ q b, q < n → Nd P n q b → (B (trnG g p r q) b ↔ B (g q) b) := by
      intro q b hq hn
      unfold trnG upd
      by_cases e : q = p
      · subst e
        rw [if_pos rfl, B_xor, B_bt (by omega) (by have := Nd_lt hok hn; omega)]
        have : ¬ b = r := fun e => hN (e ▸ hn)
        simp [this]
      · rw [if_neg e]
    refine and_congr_right fun _ => ⟨?_, ?_⟩
    · exact LK_need (fun q b hq hn z => (hb q b hq hn).mp z) hok
    · exact LK_need (fun q b hq hn z => (hb q b hq hn).mpr z) hok
  unfold mMis
  exact it_cg (fun s a hs => by rw [hcg s hs])
/-! ## key -/
theorem key_eq {A : Nat → Nat → Int32} {n F F2 : Nat} {P : Pln} {g me : Rw} (hok : P.ok n) (hA : Fr A n P) (hg : ∀ p, p < 10 → A 4 p = g p) (hT : TR (A 93) me) (hfu : ∀ g, fuOK P n g F F2) {N : Nat} (hN : N ≤ 256) (hnow : mMis (wL P n g F F2) me = nI N) :
    (bsF A n (nI N)).2.1 = (kyF P n g me F F2 (nI N)).1 ∧ offTD A (bsF A n (nI N)).2.2 := by
  have h10 := hok.1
  have hTx : TR (lkR A n 4) (wL P n g F F2) := TR_lk hok hA (fun p hp => hg p (by omega)) (hfu g)
  let Q : bsS → Int32 × Int32 → Prop := fun s t => offTD A s.2.2 ∧ s.2.1 = t.1 ∧ ∃ a, a ≤ N ∧ s.1 = nI a ∧ t.2 = nI (N - a)
  have key : Q (bsF A n (nI N)) (kyF P n g me F F2 (nI N)) := by
    refine it_rel (Q := Q) ⟨fun _ _ _ => rfl, rfl, N, Nat.le_refl _, rfl, by simp; rfl⟩ (fun p s t hp hst => ?_)
    have hin : ∀ r s t, r < 16 → Q s t → Q (bsD n (nI N) (bsU A p) p r s) (kyR P n g me F F2 (nI N) p r t) := by
      rintro r s t hr ⟨q1, q2, a, ha, q3, q4⟩
      have hu : bsU A p = A 4 p &&& nP P (wA P n F) p := by
        unfold bsU; rw [use_eq hok hA.1 (hfu g).1 hp]
      have hBu : B (bsU A p) r ↔ B (g p) r ∧ Nd P n p r := by
        rw [hu, B_and, hg p (by omega), nP_iff hok (hfu g).1 hp (by omega)]
      have hFs : Fr s.2.2 n P := Fr_cg h10 hA (fun q _ _ => q1 q (by omega) (by omega))
      have hms : msF (mwF s.2.2 n p (nI r)) = mMis (wL P n (trnG g p r) F F2) me := mw_eq hok hFs (fun p hp => by rw [q1 4 (by decide) (by decide)]; exact hg p hp) (by rw [q1 93 (by decide) (by decide)]; exact hT) hfu
      obtain ⟨c, hc, ec⟩ : ∃ c, c ≤ 256 ∧ mMis (wL P n (trnG g p r) F F2) me = nI c := by
        have hFm : Fr (mwT A p (nI r)) n P := Fr_cg h10 hA (fun q _ _ => pmwT_off (by omega))
        refine mMis_le (x := lkR (mwT A p (nI r)) n 99) (TR_lk hok hFm (fun q hq => ?_) (hfu _)) hT
        rw [mwT_99 (by omega)]
        unfold trnG upd
        by_cases e : q = p
        · subst e; simp [hg q (by omega)]
        · simp [e, hg q (by omega)]
      unfold bsD kyR
      have hoff : offTD A (mwF s.2.2 n p (nI r)) := fun q h1 h2 => by rw [mw_off h1 h2]; exact q1 q h1 h2
      have hval : 100 * nI p + nI r = nI (100 * p + r) := by
        rw [show (100 : Int32) = nI 100 from rfl, nI_mul, nI_add]
      by_cases hgb : B (g p) r
      · rw [if_neg (c := (g p >>> (nI r &&& 31)) &&& 1 = 0) (by rw [sh_z (by omega)]; exact fun z => z hgb)]
        by_cases hnd : Nd P n p r
        · rw [if_neg (by rw [hb_z (by omega)]; exact fun z => z (hBu.mpr ⟨hgb, hnd⟩)), hms, ec, q3, q4]
          by_cases hca : c < a
          · rw [if_pos ((nI_ltI (by omega) (by omega)).mpr hca)]
            have e1 : nI N - nI c = nI (N - c) := nI_subN (by omega)
            rw [e1, if_pos ((nI_ltI (by omega) (by omega)).mpr (by omega))]
            exact ⟨hoff, hval, c, by omega, rfl, rfl⟩
          · rw [if_neg (fun z => hca ((nI_ltI (by omega) (by omega)).mp z))]
            have : ¬ nI (N - a) < nI N - nI c := by
              by_cases hcN : c ≤ N
              · rw [nI_subN hcN, nI_ltI (by omega) (by omega)]; omega
              · intro z
                rw [Int32.lt_iff_toInt_lt] at z
                have e2 : (nI N - nI c).toInt = (N : Int) - c := by
                  have hN2 : (nI N).toInt = N := nI_toInt (by omega)
                  have hc2 : (nI c).toInt = c := nI_toInt (by omega)
                  rw [Int32.toInt_sub, hN2, hc2]
                  rw [Int.bmod_def]
                  omega
                have e3 : (nI (N - a)).toInt = ((N - a : Nat) : Int) := nI_toInt (by omega)
                omega
            rw [if_neg this]
            exact ⟨hoff, q2, a, ha, rfl, q4⟩
        · rw [if_pos ((hb_z (by omega)).mpr (fun z => hnd (hBu.mp z).2))]
          rw [if_neg (by rw [q3, nI_ltI (by omega) (by omega)]; omega)]
          rw [turn_0 hok hfu hT hTx hp hr hnd, hnow]
          have e0 : nI N - nI N = nI 0 := by rw [nI_subN (Nat.le_refl _)]; simp
          rw [e0, if_neg (by rw [q4, nI_ltI (by omega) (by decide)]; omega)]
          exact ⟨q1, q2, a, ha, q3, q4⟩
      · rw [if_pos (c := (g p >>> (nI r &&& 31)) &&& 1 = 0) ((sh_z (by omega)).mpr hgb)]
        rw [if_pos ((hb_z (by omega)).mpr (fun z => hgb (hBu.mp z).1))]
        rw [if_neg (by rw [q3, nI_ltI (by omega) (by omega)]; omega)]
        exact ⟨q1, q2, a, ha, q3, q4⟩
    have hall : Q (it (bsD n (nI N) (bsU A p) p) 16 s) (kyP P n g me F F2 (nI N) p t) := it_rel (Q := Q) hst (fun r s t hr h => hin r s t hr h)
    unfold bsP
    by_cases h0 : bsU A p = 0
    · rw [if_pos h0]
      -- nothing used: the class stays as it is
      have hid : it (bsD n (nI N) (bsU A p) p) 16 s = s := by
        obtain ⟨q1, q2, a, ha, q3, q4⟩ := hst
        refine pit_inv (Q := fun z : bsS => z = s) rfl (fun r z hr hz => ?_)
        subst hz
        unfold bsD
        rw [if_pos ((hb_z (by omega)).mpr (by rw [h0]; exact B_0)), if_neg (by rw [q3, nI_ltI (by omega) (by omega)]; omega)]
      rw [hid] at hall
      exact hall
    · rw [if_neg h0]; exact hall
  exact ⟨key.2.1, key.1⟩
/-! ## candidates -/
def gaR (I : Nat → Nat → Int32) (A : Nat → Nat → Int32) (s : CdS) : Prop := A 98 7 = nI s.1 ∧ s.1 ≤ 10 ∧ (∀ i, i < s.1 → A 101 i = nI (s.2 i) ∧ s.2 i / 100 < 10 ∧ s.2 i % 100 < 16) ∧ (∀ q, q ≠ 98 → q ≠ 101 → A q = I q) ∧ A 98 8 = I 98 8
def cdU (u : Rw) (s : CdS) : Prop := ∀ i, i < s.1 → B (u (s.2 i / 100)) (s.2 i % 100)
theorem ga_eq {I : Nat → Nat → Int32} {u v : Rw} (n : Nat) (hn : n ≤ 10) (huv : ∀ p, p < n → u p = v p) : ∀ (f q : Nat) (A : Nat → Nat → Int32) (s : CdS), q + f ≤ 16 * n → gaR I A s → cdU v s →
    ((gaF u f q A).1 = 0 ↔ (mgF v f q s).1 = false) ∧ gaR I (gaF u f q A).2 (mgF v f q s).2 ∧ cdU v (mgF v f q s).2
  | 0, q, A, s, hq, h, hc => ⟨⟨fun z => absurd z (show ¬ (1 : Int32) = 0 by decide), fun z => absurd z (show ¬ true = false by decide)⟩, h, hc⟩
  | f + 1, q, A, s, hq, h, hc => by
    have hq16 : q / 16 < n := by omega
    have hm : q % 16 < 16 := Nat.mod_lt _ (by decide)
    unfold gaF mgF
    rw [huv _ hq16]
    by_cases hB : B (v (q / 16)) (q % 16)
    · rw [if_neg (c := hb (v (q / 16)) (nI (q % 16)) = 0) (by rw [hb_z (by omega)]; exact fun z => z hB), if_neg (c := (v (q / 16) >>> (nI (q % 16) &&& 31)) &&& 1 = 0) (by rw [sh_z (by omega)]; exact fun z => z hB)]
      obtain ⟨h1, h2, h3, h4, h5⟩ := h
      by_cases h10 : s.1 = 10
      · rw [if_pos h10, if_neg (by rw [h1, h10]; decide)]
        exact ⟨⟨fun _ => rfl, fun _ => rfl⟩, ⟨h1, h2, h3, h4, h5⟩, hc⟩
      · rw [if_neg h10, if_pos (by rw [h1]; exact (nI_ltI (b := 10) (by omega) (by decide)).mpr (by omega))]
        refine ga_eq n hn huv f (q + 1) _ _ (by omega) ?_ ?_
        · have hcn : cn (A 98 7) = s.1 := by rw [h1]; exact nI_clamp (by omega)
          have hv : 100 * nI (q / 16) + nI (q % 16) = nI (100 * (q / 16) + q % 16) := by
            rw [show (100 : Int32) = nI 100 from rfl, nI_mul, nI_add]
          unfold gaA
          rw [hcn, hv]
          refine ⟨by simp [up1], by show s.1 + 1 ≤ 10; omega, fun i hi => ?_, fun z hz1 hz2 => ?_, by simp [up1, h5]⟩
          · simp only [updN]
            by_cases e : i = s.1
            · subst e
              refine ⟨by simp [up1], ?_, ?_⟩
              · simp; omega
              · simp; omega
            · have hi' : i < s.1 := by
                have : i < s.1 + 1 := hi
                omega
              simp only [if_neg e]
              have := h3 i hi'
              refine ⟨?_, this.2⟩
              simp [up1, e, this.1]
          · rw [← h4 z hz1 hz2]; funext j; simp [up1, hz1, hz2]
        · intro i hi
          simp only [updN]
          by_cases e : i = s.1
          · subst e
            simp only [if_true]
            have e1 : (100 * (q / 16) + q % 16) / 100 = q / 16 := by omega
            have e2 : (100 * (q / 16) + q % 16) % 100 = q % 16 := by omega
            rw [e1, e2]; exact hB
          · simp only [if_neg e]
            have : i < s.1 + 1 := hi
            exact hc i (by omega)
    · rw [if_pos ((hb_z (by omega)).mpr hB), if_pos ((sh_z (by omega)).mpr hB)]
      exact ga_eq n hn huv f (q + 1) A s (by omega) h hc
