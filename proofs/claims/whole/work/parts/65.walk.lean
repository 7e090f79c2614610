/-! ## links stand in the order of their lines -/
theorem letL_st {P : Pln} {p k m : Nat} {x : L3} (h : x ∈ letL P p k m) : x.2.2 = 100 * p + k := by
  obtain ⟨nm, _, _, rfl⟩ := letL_mem.mp h; rfl
theorem lnks_st {P : Pln} {p k : Nat} {x : L3} (h : x ∈ lnks P p k) : x.2.2 = 100 * p + k := by
  unfold lnks at h
  split at h
  · exact letL_st h
  · split at h
    · simp only [List.mem_cons, List.not_mem_nil, or_false] at h
      rcases h with rfl | rfl <;> rfl
    · split at h
      · simp only [List.mem_cons, List.not_mem_nil, or_false] at h; subst h; rfl
      · split at h
        · simp only [List.mem_cons, List.not_mem_nil, or_false] at h; subst h; rfl
        · cases h
theorem pw_const {L : List L3} {c : Nat} (h : ∀ x ∈ L, x.2.2 = c) : L.Pairwise (fun a b => a.2.2 ≤ b.2.2) := by
  rw [List.pairwise_iff_forall_sublist]
  intro a b hs
  have ha := h a (hs.subset (by simp))
  have hb := h b (hs.subset (by simp))
  omega
theorem llK_pw {P : Pln} {p : Nat} : ∀ m, (llK P p m).Pairwise (fun a b => a.2.2 ≤ b.2.2)
  | 0 => by simp [llK]
  | m + 1 => by
    unfold llK
    rw [List.pairwise_append]
    refine ⟨llK_pw m, pw_const (fun x hx => lnks_st hx), fun a ha b hb => ?_⟩
    obtain ⟨k, hk, ha⟩ := llK_mem.mp ha
    rw [lnks_st ha, lnks_st hb]; omega
theorem llP_pw {P : Pln} {n : Nat} (hok : P.ok n) : ∀ m, (llP P n m).Pairwise (fun a b => a.2.2 ≤ b.2.2)
  | 0 => by simp [llP]
  | m + 1 => by
    unfold llP
    rw [List.pairwise_append]
    refine ⟨llP_pw hok m, ?_, fun a ha b hb => ?_⟩
    · split
      · exact llK_pw _
      · exact List.Pairwise.nil
    · obtain ⟨p, hp, _, ha⟩ := llP_mem.mp ha
      obtain ⟨k, hk, ha⟩ := llK_mem.mp ha
      split at hb
      · obtain ⟨k', hk', hb⟩ := llK_mem.mp hb
        rw [lnks_st ha, lnks_st hb]
        have := hok.2.1 p
        omega
      · cases hb
theorem LL_le {P : Pln} {n : Nat} (hok : P.ok n) {i j : Nat} {x y : L3} (hi : (llP P n n)[i]? = some x) (hj : (llP P n n)[j]? = some y) (h : i ≤ j) : x.2.2 ≤ y.2.2 := by
  by_cases e : i = j
  · subst e; rw [hi] at hj; cases hj; exact Nat.le_refl _
  · obtain ⟨h1, e1⟩ := List.getElem?_eq_some_iff.mp hi
    obtain ⟨h2, e2⟩ := List.getElem?_eq_some_iff.mp hj
    have := List.pairwise_iff_getElem.mp (llP_pw hok n) i j h1 h2 (by omega)
    rw [e1, e2] at this
    exact this
/-! ## the distances of both -/
def FR (P : Pln) (n : Nat) (w g : Rw) (sec door : Nat) (f fc : Rw) : Prop :=
  f 90 = 0 ∧ ∀ st, st < 90 → (∃ v, 0 < v ∧ v ≤ 90 ∧ fc (plc st) = nI v ∧ f st = nI v ∧ Dm P n w g sec door v st ∧ ∀ k, Dm P n w g sec door k st → v ≤ k) ∨ (fc (plc st) = nI 1000 ∧ f st = nI 100000 ∧ ∀ k, ¬ Dm P n w g sec door k st)
theorem FR_of {A : Nat → Nat → Int32} {n F F3 : Nat} {P : Pln} (hok : P.ok n) (hE : whE (akQ P n) F (ak0 n)) (hA : Nf A n P) {sec door : Nat} (hsec : sec < 16) (hdo : door < 16) {g : Rw} (hg : ∀ p, p < n → A 4 p = g p) (hE3 : whE (msQ P n (wA P n F) (wS P n g F).2 g sec door) F3 ms0) : FR P n (wS P n g F).2 g sec door (wh (msQ P n (wA P n F) (wS P n g F).2 g sec door) F3 ms0) (meR A n (nI sec) door (llP P n n).length) := by
  obtain ⟨h90, hall⟩ := ms_res hok hE hE3
  refine ⟨h90, fun st hst => ?_⟩
  obtain ⟨v, ev, v1, v2, v3⟩ := hall st hst
  obtain ⟨u, eu, u1, u2, u3⟩ := far_all hok hE hA hsec hdo hg (plc_lt hst).1
  by_cases hex : ∃ k, Dm P n (wS P n g F).2 g sec door k st
  · obtain ⟨k, hk⟩ := hex
    obtain ⟨j, hj, hd⟩ := Dm_90 hok hk
    have q1 := v3 j hd
    have q2 := u3 j ((Dc_Dm hok hE hsec hdo j st hst).mpr hd)
    have hv := v2 (by omega)
    have hu := (Dc_Dm hok hE hsec hdo u st hst).mp (u2 (by omega))
    have q3 := v3 u hu
    have q4 := u3 v ((Dc_Dm hok hE hsec hdo v st hst).mpr hv)
    have e : u = v := by omega
    subst e
    refine Or.inl ⟨u, ?_, by omega, eu, ev, hv, v3⟩
    apply Classical.byContradiction
    intro hn
    have : u = 0 := by omega
    rw [this] at hv
    exact absurd (show st = 90 from hv) (by omega)
  · refine Or.inr ⟨?_, ?_, fun k hk => hex ⟨k, hk⟩⟩
    · have : u = 1000 := by
        apply Classical.byContradiction; intro hn
        exact hex ⟨u, (Dc_Dm hok hE hsec hdo u st hst).mp (u2 (by omega))⟩
      rw [← this]; exact eu
    · have : v = 100000 := by
        apply Classical.byContradiction; intro hn
        exact hex ⟨v, v2 (by omega)⟩
      rw [← this]; exact ev
/-! ## the first of the nearest gets -/
def bgQ (P : Pln) (n : Nat) (f fc : Rw) (zc : Int32 × Int32) (zm : WyZ) : Prop :=
  (zc = (-1, nI 1000) ∧ zm = (nI 100000, none)) ∨ ∃ p k v, p < n ∧ Lv P n p ∧ k < P.ml p ∧ P.kd p k = 0 ∧ 0 < v ∧ v ≤ 90 ∧ zc = (nI (100 * p + k), nI v) ∧ zm = (nI (v + 1), some (p, k)) ∧ fc (25 * p + P.fs p k) = nI v ∧ f (8 * p + P.fs p k) = nI v
theorem bg_eq {A I0 : Nat → Nat → Int32} {n F : Nat} {P : Pln} (hsh : shP I0 n P) (hI : ∀ q, q < 73 → A q = I0 q) (hE : whE (akQ P n) F (ak0 n)) (hA : Nf A n P) {sec : Nat} (hsec : sec < 16) {door : Nat} {g w f fc : Rw} (hg : ∀ p, p < n → A 4 p = g p) (h96 : ∀ pl, pl < 250 → A 96 pl = fc pl) (hF : FR P n w g sec door f fc) : bgQ P n f fc (bgF A n P.ml (nI sec)) (wyF P n (wA P n F) g sec f) := by
  obtain ⟨hok, -, -, -, hl⟩ := hsh
  have h10 := hok.1
  refine it_rel (Q := bgQ P n f fc) (Or.inl ⟨rfl, rfl⟩) (fun p zc zm hp hz => ?_)
  have hin : ∀ k zc zm, k < P.ml p → Lv P n p → B (g p) sec → bgQ P n f fc zc zm → bgQ P n f fc (bgK A (nI sec) p k zc) (wyK P g sec f p k zm) := by
    intro k zc zm hk hL hB hz
    have hLk := hl p hp k hk
    have hbd := hok.2.2 p hp k hk
    have hst : 8 * p + P.fs p k < 90 := by omega
    have hpl : plc (8 * p + P.fs p k) = 25 * p + P.fs p k := plc_n (by omega) (by omega)
    unfold bgK wyK
    rw [hI (6 + 6 * p + 1 + 0) (by omega), hI (6 + 6 * p + 1 + 1) (by omega), hI (6 + 6 * p + 1 + 2) (by omega), hLk.1, hLk.2.1, hLk.2.2.1, show cn (nI (P.fs p k)) = P.fs p k from nI_clamp (by omega), h96 _ (by omega)]
    by_cases h0 : P.kd p k = 0
    · rw [if_pos (by rw [h0]; rfl)]
      by_cases hs : P.nu p k = sec
      · rw [if_pos (by rw [hs])]
        have hgb : ¬ (g p >>> (nI sec &&& 31)) &&& 1 = 0 := by rw [sh_z (by omega)]; exact fun q => q hB
        have hfr := hF.2 _ hst
        rw [hpl] at hfr
        rcases hfr with ⟨v, v0, v1, v2, v3, v4, v5⟩ | ⟨v2, v3, v5⟩
        · have e1 : nI v + 1 = nI (v + 1) := by rw [show (1 : Int32) = nI 1 from rfl, nI_add]
          rw [v2, v3, e1]
          rcases hz with ⟨rfl, rfl⟩ | ⟨p', k', v', r1, r2, r3, r4, r5, r6, rfl, rfl, r9, r10⟩
          · rw [if_pos (show nI v < nI 1000 from (nI_ltI (by omega) (by omega)).mpr (by omega)), if_pos ⟨h0, hs, hgb, show nI (v + 1) < nI 100000 from (nI_ltI (by omega) (by omega)).mpr (by omega)⟩]
            exact Or.inr ⟨p, k, v, hp, hL, hk, h0, v0, v1, rfl, rfl, v2, v3⟩
          · by_cases hlt : v < v'
            · rw [if_pos (show nI v < nI v' from (nI_ltI (by omega) (by omega)).mpr hlt), if_pos ⟨h0, hs, hgb, show nI (v + 1) < nI (v' + 1) from (nI_ltI (by omega) (by omega)).mpr (by omega)⟩]
              exact Or.inr ⟨p, k, v, hp, hL, hk, h0, v0, v1, rfl, rfl, v2, v3⟩
            · rw [if_neg (show ¬ nI v < nI v' from fun q => hlt ((nI_ltI (by omega) (by omega)).mp q)), if_neg (fun q => by have := (nI_ltI (by omega) (by omega)).mp (show nI (v + 1) < nI (v' + 1) from q.2.2.2); omega)]
              exact Or.inr ⟨p', k', v', r1, r2, r3, r4, r5, r6, rfl, rfl, r9, r10⟩
        · have e1 : nI 100000 + 1 = nI 100001 := by rw [show (1 : Int32) = nI 1 from rfl, nI_add]
          rw [v2, v3, e1]
          rcases hz with ⟨rfl, rfl⟩ | ⟨p', k', v', r1, r2, r3, r4, r5, r6, rfl, rfl, r9, r10⟩
          · rw [if_neg (show ¬ nI 1000 < nI 1000 by decide), if_neg (fun q => absurd (show nI 100001 < nI 100000 from q.2.2.2) (by decide))]
            exact Or.inl ⟨rfl, rfl⟩
          · rw [if_neg (show ¬ nI 1000 < nI v' from fun q => by have := (nI_ltI (by omega) (by omega)).mp q; omega), if_neg (fun q => by have := (nI_ltI (by omega) (by omega)).mp (show nI 100001 < nI (v' + 1) from q.2.2.2); omega)]
            exact Or.inr ⟨p', k', v', r1, r2, r3, r4, r5, r6, rfl, rfl, r9, r10⟩
      · rw [if_neg (by rw [nI_eq (by omega) (by omega)]; exact hs), if_neg (fun q => hs q.2.1)]
        exact hz
    · rw [if_neg (by rw [show (0 : Int32) = nI 0 from rfl, nI_eq (by omega) (by omega)]; exact h0), if_neg (fun q => h0 q.1)]
      exact hz
  have hgate : hb (A 75 p &&& A 4 p) (nI sec) = 0 ↔ ¬ (B (A 75 p) sec ∧ B (g p) sec) := by
    rw [hb_z (by omega), B_and, hg p hp]
  have h75 := hA.2.2.1 p (by omega) sec (by omega)
  have hAw := wA_iff hok hE p
  unfold bgP wyP
  by_cases hL : Lv P n p
  · rw [if_neg (hAw.mpr hL)]
    by_cases hB : B (g p) sec
    · have hall : bgQ P n f fc (it (bgK A (nI sec) p) (P.ml p) zc) (it (wyK P g sec f p) (P.ml p) zm) := it_rel (Q := bgQ P n f fc) hz (fun k x y hk h => hin k x y hk hL hB h)
      by_cases hgt : B (A 75 p) sec
      · rw [if_neg (fun q => hgate.mp q ⟨hgt, hB⟩)]; exact hall
      · rw [if_pos (hgate.mpr (fun q => hgt q.1))]
        -- no get of this secret here
        have hno : ∀ k, k < P.ml p → ¬ (P.kd p k = 0 ∧ P.nu p k = sec) := fun k hk q => hgt (h75.mpr ⟨hL, k, hk, q.1, q.2⟩)
        have : it (wyK P g sec f p) (P.ml p) zm = zm := by
          refine pit_inv (Q := fun z : WyZ => z = zm) rfl (fun k z hk hz => ?_)
          subst hz
          unfold wyK
          rw [if_neg (fun q => hno k hk ⟨q.1, q.2.1⟩)]
        rw [this]; exact hz
    · rw [if_pos (hgate.mpr (fun q => hB q.2))]
      have : it (wyK P g sec f p) (P.ml p) zm = zm := by
        refine pit_inv (Q := fun z : WyZ => z = zm) rfl (fun k z hk hz => ?_)
        subst hz
        unfold wyK
        rw [if_neg (fun q => q.2.2.1 ((sh_z (by omega)).mpr hB))]
      rw [this]; exact hz
  · rw [if_pos (show wA P n F p = 0 from Classical.byContradiction fun q => hL (hAw.mp q)), if_pos (hgate.mpr (fun q => hL (h75.mp q.1).1))]
    exact hz
/-! ## one step of the way -/
def Tm (P : Pln) (w g : Rw) (sec door : Nat) (f : Rw) (st p k t : Nat) : Prop := ldN P w g sec door st p k = some t ∧ f t + 1 = f st
theorem fw_spec {P : Pln} {n F : Nat} {w g f : Rw} (hok : P.ok n) (hE : whE (akQ P n) F (ak0 n)) {sec door st : Nat} :
    (fwF P n (wA P n F) w g sec door f st = none ∧ ∀ p k t, Lv P n p → k < P.ml p → ¬ Tm P w g sec door f st p k t) ∨
    ∃ p k t, fwF P n (wA P n F) w g sec door f st = some (100 * p + k, t) ∧ Lv P n p ∧ k < P.ml p ∧ Tm P w g sec door f st p k t ∧ ∀ p' k' t', Lv P n p' → k' < P.ml p' → Tm P w g sec door f st p' k' t' → 100 * p + k ≤ 100 * p' + k' := by
  have key : (fun (m : Nat) (a : Option (Nat × Nat)) => (a = none ∧ ∀ p k t, p < m → Lv P n p → k < P.ml p → ¬ Tm P w g sec door f st p k t) ∨
      ∃ p k t, a = some (100 * p + k, t) ∧ p < m ∧ Lv P n p ∧ k < P.ml p ∧ Tm P w g sec door f st p k t ∧ ∀ p' k' t', p' < m → Lv P n p' → k' < P.ml p' → Tm P w g sec door f st p' k' t' → 100 * p + k ≤ 100 * p' + k') n (fwF P n (wA P n F) w g sec door f st) := by
    refine it_ind (Q := fun (m : Nat) (a : Option (Nat × Nat)) => (a = none ∧ ∀ p k t, p < m → Lv P n p → k < P.ml p → ¬ Tm P w g sec door f st p k t) ∨
      ∃ p k t, a = some (100 * p + k, t) ∧ p < m ∧ Lv P n p ∧ k < P.ml p ∧ Tm P w g sec door f st p k t ∧ ∀ p' k' t', p' < m → Lv P n p' → k' < P.ml p' → Tm P w g sec door f st p' k' t' → 100 * p + k ≤ 100 * p' + k') (Or.inl ⟨rfl, fun p k t h => absurd h (by omega)⟩) (fun p a hp ha => ?_)
    have hsome : ∀ x m, it (fwK P w g sec door f st p) m (some x) = some x := by
      intro x m
      refine pit_inv (Q := fun z : Option (Nat × Nat) => z = some x) rfl (fun k z _ hz => ?_)
      subst hz; rfl
    unfold fwP
    by_cases h0 : wA P n F p = 0
    · rw [if_pos h0]
      have hnL : ¬ Lv P n p := fun q => ((wA_iff hok hE p).mpr q) h0
      rcases ha with ⟨rfl, h⟩ | ⟨p1, k1, t1, rfl, h1, h2, h3, h4, h5⟩
      · refine Or.inl ⟨rfl, fun p' k t hp' hL => ?_⟩
        by_cases e : p' = p
        · subst e; exact absurd hL hnL
        · exact h p' k t (by omega) hL
      · refine Or.inr ⟨p1, k1, t1, rfl, by omega, h2, h3, h4, fun p' k' t' hp' hL => ?_⟩
        by_cases e : p' = p
        · subst e; exact absurd hL hnL
        · exact h5 p' k' t' (by omega) hL
    · rw [if_neg h0]
      have hL := (wA_iff hok hE p).mp h0
      rcases ha with ⟨rfl, h⟩ | ⟨p1, k1, t1, rfl, h1, h2, h3, h4, h5⟩
      · -- the lines of p
        have hk : ∀ m, m ≤ P.ml p → (it (fwK P w g sec door f st p) m none = none ∧ ∀ k t, k < m → ¬ Tm P w g sec door f st p k t) ∨ ∃ k t, it (fwK P w g sec door f st p) m none = some (100 * p + k, t) ∧ k < m ∧ Tm P w g sec door f st p k t ∧ ∀ k' t', k' < m → Tm P w g sec door f st p k' t' → k ≤ k' := by
          intro m
          induction m with
          | zero => intro _; exact Or.inl ⟨rfl, fun k t hk => absurd hk (by omega)⟩
          | succ m ih =>
            intro hm
            rcases ih (by omega) with ⟨e, q⟩ | ⟨k, t, e, q1, q2, q3⟩
            · have es : it (fwK P w g sec door f st p) (m + 1) none = fwK P w g sec door f st p m none := by
                show fwK P w g sec door f st p m (it (fwK P w g sec door f st p) m none) = _
                rw [e]
              rw [es]
              unfold fwK
              simp only
              cases hl : ldN P w g sec door st p m with
              | none =>
                simp only
                refine Or.inl ⟨trivial, fun k t hk hT => ?_⟩
                by_cases ek : k = m
                · subst ek; rw [Tm, hl] at hT; cases hT.1
                · exact q k t (by omega) hT
              | some t =>
                simp only
                by_cases hf : f t + 1 = f st
                · rw [if_pos hf]
                  refine Or.inr ⟨m, t, rfl, by omega, ⟨hl, hf⟩, fun k' t' hk' hT => ?_⟩
                  apply Classical.byContradiction; intro hn
                  exact q k' t' (by omega) hT
                · rw [if_neg hf]
                  refine Or.inl ⟨rfl, fun k t' hk hT => ?_⟩
                  by_cases ek : k = m
                  · subst ek
                    rw [Tm, hl] at hT
                    have := hT.1
                    cases this
                    exact hf hT.2
                  · exact q k t' (by omega) hT
            · refine Or.inr ⟨k, t, ?_, by omega, q2, fun k' t' hk' hT => ?_⟩
              · show fwK P w g sec door f st p m (it (fwK P w g sec door f st p) m none) = _
                rw [e]; rfl
              · by_cases ek : k' = m
                · omega
                · exact q3 k' t' (by omega) hT
        rcases hk (P.ml p) (Nat.le_refl _) with ⟨e, q⟩ | ⟨k, t, e, q1, q2, q3⟩
        · rw [e]
          refine Or.inl ⟨rfl, fun p' k t hp' hL' hk' => ?_⟩
          by_cases ep : p' = p
          · subst ep; exact q k t hk'
          · exact h p' k t (by omega) hL' hk'
        · rw [e]
          refine Or.inr ⟨p, k, t, rfl, by omega, hL, q1, q2, fun p' k' t' hp' hL' hk' hT => ?_⟩
          by_cases ep : p' = p
          · subst ep; have := q3 k' t' hk' hT; omega
          · exact absurd hT (h p' k' t' (by omega) hL' hk')
      · rw [hsome]
        refine Or.inr ⟨p1, k1, t1, rfl, by omega, h2, h3, h4, fun p' k' t' hp' hL' hk' hT => ?_⟩
        by_cases ep : p' = p
        · subst ep
          have := hok.2.1 p1
          omega
        · exact h5 p' k' t' (by omega) hL' hk' hT
  rcases key with ⟨e, h⟩ | ⟨p, k, t, e, h1, h2, h3, h4, h5⟩
  · exact Or.inl ⟨e, fun p k t hL hk => h p k t (Lv_lt hok hL) hL hk⟩
  · exact Or.inr ⟨p, k, t, e, h2, h3, h4, fun p' k' t' hL hk hT => h5 p' k' t' (Lv_lt hok hL) hL hk hT⟩
theorem fl_spec {I : Nat → Nat → Int32} {pl : Nat} {s : Int32} {T : Nat → Prop} (hT : ∀ i, (I 78 i = nI pl ∧ ftF I i s = I 96 pl) ↔ T i) : ∀ (f i : Nat), (flF I pl s f i = -1 ∧ ∀ j, i ≤ j → j < i + f → ¬ T j) ∨ ∃ j, i ≤ j ∧ j < i + f ∧ flF I pl s f i = nI j ∧ T j ∧ ∀ j', i ≤ j' → j' < j → ¬ T j'
  | 0, i => Or.inl ⟨rfl, fun j h1 h2 => absurd h1 (by omega)⟩
  | f + 1, i => by
    unfold flF
    have ih := fl_spec hT f (i + 1)
    by_cases h : T i
    · have := (hT i).mpr h
      rw [if_pos this.1, if_pos this.2]
      exact Or.inr ⟨i, Nat.le_refl _, by omega, rfl, h, fun j' h1 h2 => absurd h1 (by omega)⟩
    · have hgo : (if I 78 i = nI pl then (if ftF I i s = I 96 pl then nI i else flF I pl s f (i + 1)) else flF I pl s f (i + 1)) = flF I pl s f (i + 1) := by
        by_cases h1 : I 78 i = nI pl
        · rw [if_pos h1, if_neg (fun h2 => h ((hT i).mp ⟨h1, h2⟩))]
        · rw [if_neg h1]
      rw [hgo]
      rcases ih with ⟨e, q⟩ | ⟨j, q1, q2, e, q3, q4⟩
      · refine Or.inl ⟨e, fun j h1 h2 => ?_⟩
        by_cases ej : j = i
        · subst ej; exact h
        · exact q j (by omega) (by omega)
      · refine Or.inr ⟨j, by omega, by omega, e, q3, fun j' h1 h2 => ?_⟩
        by_cases ej : j' = i
        · subst ej; exact h
        · exact q4 j' (by omega) h2
