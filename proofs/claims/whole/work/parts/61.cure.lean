/-! ## the two orders of choices -/
def rev (c x : Nat) : Nat := (BitVec.ofNat c x).reverse.toNat
theorem rev_lt (c x : Nat) : rev c x < 2 ^ c := (BitVec.ofNat c x).reverse.isLt
theorem rev_bit (c x i : Nat) : (rev c x).testBit i = (decide (i < c) && x.testBit (c - 1 - i)) := by
  unfold rev
  rw [BitVec.testBit_toNat, BitVec.getLsbD_reverse, BitVec.getMsbD_eq_getLsbD, BitVec.getLsbD_ofNat]
  by_cases h : i < c
  · simp [h, show c - 1 - i < c by omega]
  · simp [h]
theorem rev_rev {c x : Nat} (h : x < 2 ^ c) : rev c (rev c x) = x := by
  apply Nat.eq_of_testBit_eq
  intro i
  rw [rev_bit, rev_bit]
  by_cases hi : i < c
  · simp [hi, show c - 1 - i < c by omega, show c - 1 - (c - 1 - i) = i by omega]
  · have : x.testBit i = false := Nat.testBit_lt_two_pow (Nat.lt_of_lt_of_le h (Nat.pow_le_pow_right (show 0 < 2 by decide) (by omega)))
    simp [hi, this]
def popc (x : Nat) : Nat := cb (nI x) 16
theorem pop_sm {c x : Nat} (hc : c ≤ 16) (h : x < 2 ^ c) : popc x = sm (fun i => if x.testBit i then 1 else 0) c := by
  have hs : ∀ m, c ≤ m → m ≤ 16 → cb (nI x) m = sm (fun i => if x.testBit i then 1 else 0) c := by
    intro m
    induction m with
    | zero => intro h1 _; have : c = 0 := by omega
              subst this; rfl
    | succ m ih =>
      intro h1 h2
      by_cases e : c = m + 1
      · subst e
        rw [cb_sm]
        exact sm_congr _ (fun i hi => by simp only [B_nI (show i < 32 by omega)])
      · rw [cb, ih (by omega) (by omega)]
        have : x.testBit m = false := Nat.testBit_lt_two_pow (Nat.lt_of_lt_of_le h (Nat.pow_le_pow_right (show 0 < 2 by decide) (by omega)))
        simp [B_nI (show m < 32 by omega), this]
  exact hs 16 hc (Nat.le_refl _)
theorem sm_first (f : Nat → Nat) : ∀ n, sm f (n + 1) = f 0 + sm (fun i => f (i + 1)) n
  | 0 => by simp [sm]
  | n + 1 => by
    show sm f (n + 1) + f (n + 1) = _
    rw [sm_first f n]
    simp only [sm]; omega
theorem sm_rev (f : Nat → Nat) : ∀ n, sm (fun i => f (n - 1 - i)) n = sm f n
  | 0 => rfl
  | n + 1 => by
    rw [sm_first]
    have : sm (fun i => f (n + 1 - 1 - (i + 1))) n = sm (fun i => f (n - 1 - i)) n := sm_congr n (fun i hi => by congr 1; omega)
    rw [this, sm_rev f n]
    simp only [sm, Nat.add_sub_cancel, Nat.sub_zero]; omega
theorem pop_rev {c x : Nat} (hc : c ≤ 16) (h : x < 2 ^ c) : popc (rev c x) = popc x := by
  rw [pop_sm hc (rev_lt c x), pop_sm hc h, ← sm_rev (fun i => if x.testBit i then 1 else 0) c]
  refine sm_congr c (fun i hi => ?_)
  simp only [rev_bit, hi, decide_true, Bool.true_and]
theorem pop_le {c x : Nat} (hc : c ≤ 16) (h : x < 2 ^ c) : popc x ≤ c := by
  rw [pop_sm hc h]
  have := sm_le (f := fun i => if x.testBit i then 1 else 0) (b := 1) c (fun i _ => by split <;> omega)
  omega
theorem pop_pos {c x : Nat} (hc : c ≤ 16) (h : x < 2 ^ c) (h0 : 0 < x) : 0 < popc x := by
  rw [pop_sm hc h]
  apply Classical.byContradiction
  intro hn
  have : x = 0 := by
    apply Nat.eq_of_testBit_eq
    intro i
    rw [Nat.zero_testBit]
    by_cases hi : i < c
    · cases hb : x.testBit i with
      | false => rfl
      | true =>
        have := sm_lt (f := fun _ => 0) (g := fun i => if x.testBit i then 1 else 0) c (fun _ _ => Nat.zero_le _) ⟨i, hi, by simp [hb]⟩
        omega
    · exact Nat.testBit_lt_two_pow (Nat.lt_of_lt_of_le h (Nat.pow_le_pow_right (show 0 < 2 by decide) (by omega)))
  omega
theorem W16_nI {x : Nat} (h : x < 65536) : W16 (nI x) := by
  intro s hs hB
  rw [B_nI (B_lt hB), Nat.testBit_lt_two_pow (Nat.lt_of_lt_of_le h (Nat.pow_le_pow_right (show 0 < 2 by decide) hs) : x < 2 ^ s)] at hB
  cases hB
theorem lt_bit {x y : Nat} (i : Nat) (hx : x.testBit i = false) (hy : y.testBit i = true) (h : ∀ j, i < j → x.testBit j = y.testBit j) : x < y := by
  have e : x / 2 ^ (i + 1) = y / 2 ^ (i + 1) := by
    apply Nat.eq_of_testBit_eq
    intro k
    rw [Nat.testBit_div_two_pow, Nat.testBit_div_two_pow]
    exact h _ (by omega)
  rw [Nat.pow_succ, ← Nat.div_div_eq_div_mul, ← Nat.div_div_eq_div_mul] at e
  rw [Nat.testBit_eq_decide_div_mod_eq] at hx hy
  simp at hx hy
  have hlt : x / 2 ^ i < y / 2 ^ i := by omega
  apply Classical.byContradiction
  intro hn
  have := Nat.div_le_div_right (c := 2 ^ i) (show y ≤ x by omega)
  omega
theorem xor_0 {a b : Nat} (h : a ^^^ b = 0) : a = b := by
  apply Nat.eq_of_testBit_eq
  intro i
  have := congrArg (fun z => z.testBit i) h
  simp only [Nat.testBit_xor, Nat.zero_testBit] at this
  cases h1 : a.testBit i <;> cases h2 : b.testBit i <;> simp_all
def low (z : Nat) : Nat := ((List.range 10).find? (fun j => z.testBit j)).getD 0
theorem low_tab : ∀ z, z < 1024 → 0 < z → z.testBit (low z) = true ∧ low z < 10 ∧ nI z &&& -(nI z) = bt (low z) ∧ ∀ i, i < low z → z.testBit i = false := by decide +kernel
theorem ahead_iff {c a b : Nat} (hc : c ≤ 10) (ha : a < 2 ^ c) (hb : b < 2 ^ c) (hne : a ≠ b) : ¬ ((nI a ^^^ nI b) &&& -(nI a ^^^ nI b)) &&& nI a = 0 ↔ rev c b < rev c a := by
  have h1024 : 2 ^ c ≤ 1024 := Nat.pow_le_pow_right (show 0 < 2 by decide) hc
  have ex : nI a ^^^ nI b = nI (a ^^^ b) := by
    apply Int32.toBitVec_inj.mp
    rw [Int32.toBitVec_xor, nI_bv, nI_bv, nI_bv, BitVec.ofNat_xor]
  have hz : a ^^^ b < 2 ^ c := Nat.xor_lt_two_pow ha hb
  have hz0 : 0 < a ^^^ b := by
    apply Classical.byContradiction
    intro hn
    have : a ^^^ b = 0 := by omega
    exact hne (xor_0 this)
  obtain ⟨l1, l2, l3, l4⟩ := low_tab (a ^^^ b) (by omega) hz0
  rw [ex, l3]
  generalize hj : low (a ^^^ b) = j at l1 l2 l4
  have hjc : j < c := by
    apply Classical.byContradiction
    intro hn
    have : (a ^^^ b).testBit j = false := Nat.testBit_lt_two_pow (Nat.lt_of_lt_of_le hz (Nat.pow_le_pow_right (show 0 < 2 by decide) (by omega)))
    rw [this] at l1; cases l1
  rw [Int32.and_comm, and_bt (by omega), Classical.not_not, B_nI (by omega)]
  rw [Nat.testBit_xor] at l1
  have hsame : ∀ i, c - 1 - j < i → (rev c a).testBit i = (rev c b).testBit i := by
    intro i hi
    rw [rev_bit, rev_bit]
    by_cases hic : i < c
    · have := l4 (c - 1 - i) (by omega)
      rw [Nat.testBit_xor] at this
      simp only [hic, decide_true, Bool.true_and]
      cases h1 : a.testBit (c - 1 - i) <;> cases h2 : b.testBit (c - 1 - i) <;> simp_all
    · simp [hic]
  have ra : (rev c a).testBit (c - 1 - j) = a.testBit j := by
    rw [rev_bit]; simp [show c - 1 - j < c by omega, show c - 1 - (c - 1 - j) = j by omega]
  have rb : (rev c b).testBit (c - 1 - j) = b.testBit j := by
    rw [rev_bit]; simp [show c - 1 - j < c by omega, show c - 1 - (c - 1 - j) = j by omega]
  constructor
  · intro h
    have hbf : b.testBit j = false := by
      cases h2 : b.testBit j with
      | false => rfl
      | true => rw [h, h2] at l1; simp at l1
    exact lt_bit (c - 1 - j) (by rw [rb]; exact hbf) (by rw [ra]; exact h) (fun i hi => (hsame i hi).symm)
  · intro h
    cases h1 : a.testBit j with
    | true => rfl
    | false =>
      have hbt : b.testBit j = true := by
        cases h2 : b.testBit j with
        | true => rfl
        | false => rw [h1, h2] at l1; simp at l1
      have := lt_bit (c - 1 - j) (by rw [ra]; exact h1) (by rw [rb]; exact hbt) (fun i hi => hsame i hi)
      omega
/-! ## the model's best choice -/
def bst (c : Nat) (W : Nat → Prop) (m : Nat) : Prop := 0 < m ∧ m < 2 ^ c ∧ W m ∧ ∀ x, 0 < x → x < 2 ^ c → W x → popc m ≤ popc x ∧ (popc x = popc m → rev c x ≤ rev c m)
theorem cuB_spec {P : Pln} {n F F2 c : Nat} {g me : Rw} {cd : Nat → Nat} (hc : c ≤ 10) {W : Nat → Prop} (hW : ∀ x, x < 2 ^ c → (wellF P n g me F F2 cd c (nI x) = 0 ↔ ¬ W x)) :
    (cuB P n g me F F2 cd c = -1 ∧ ∀ x, 0 < x → x < 2 ^ c → ¬ W x) ∨ ∃ m, cuB P n g me F F2 cd c = nI m ∧ bst c W m := by
  have h1024 : 2 ^ c ≤ 1024 := Nat.pow_le_pow_right (show 0 < 2 by decide) hc
  have hpos : 0 < 2 ^ c := Nat.pow_pos (by decide)
  have key : (fun (k : Nat) (b : Int32) => (b = -1 ∧ ∀ x, 0 < x → x ≤ k → ¬ W x) ∨ ∃ m, b = nI m ∧ 0 < m ∧ m ≤ k ∧ W m ∧ ∀ x, 0 < x → x ≤ k → W x → popc m ≤ popc x ∧ (popc x = popc m → rev c x ≤ rev c m)) (2 ^ c - 1) (cuB P n g me F F2 cd c) := by
    unfold cuB
    refine it_ind (Q := fun (k : Nat) (b : Int32) => (b = -1 ∧ ∀ x, 0 < x → x ≤ k → ¬ W x) ∨ ∃ m, b = nI m ∧ 0 < m ∧ m ≤ k ∧ W m ∧ ∀ x, 0 < x → x ≤ k → W x → popc m ≤ popc x ∧ (popc x = popc m → rev c x ≤ rev c m)) (Or.inl ⟨rfl, fun x h1 h2 => absurd h1 (by omega)⟩) (fun k b hk hb => ?_)
    have hk' : k + 1 < 2 ^ c := by omega
    unfold cuS
    by_cases hw : W (k + 1)
    · have hw0 : ¬ wellF P n g me F F2 cd c (nI (k + 1)) = 0 := fun q => (hW _ hk').mp q hw
      rcases hb with ⟨rfl, hno⟩ | ⟨m, rfl, h0, h1, h2, h3⟩
      · rw [if_neg (by rintro (q | q); exact q.1 rfl; exact hw0 q)]
        refine Or.inr ⟨k + 1, rfl, by omega, Nat.le_refl _, hw, fun x hx hxk hwx => ?_⟩
        by_cases e : x = k + 1
        · subst e; exact ⟨Nat.le_refl _, fun _ => Nat.le_refl _⟩
        · exact absurd hwx (hno x hx (by omega))
      · have hm : m < 2 ^ c := by omega
        have hb1 : bts 32 (nI m) 0 = nI (popc m) := bts_cb (W16_nI (by omega))
        have hb2 : bts 32 (nI (k + 1)) 0 = nI (popc (k + 1)) := bts_cb (W16_nI (by omega))
        have hp1 := pop_le (show c ≤ 16 by omega) hm
        have hp2 := pop_le (show c ≤ 16 by omega) hk'
        have hah := ahead_iff hc hk' hm (by omega)
        by_cases hK : cuK (nI (k + 1)) (nI m)
        · rw [if_pos (Or.inl hK)]
          refine Or.inr ⟨m, rfl, h0, by omega, h2, fun x hx hxk hwx => ?_⟩
          by_cases e : x = k + 1
          · subst e
            obtain ⟨-, hK⟩ := hK
            rw [hb1, hb2, nI_ltI (by omega) (by omega), nI_eq (by omega) (by omega)] at hK
            rcases hK with q | ⟨q1, q2⟩
            · exact ⟨by omega, fun z => absurd z (by omega)⟩
            · refine ⟨by omega, fun _ => ?_⟩
              have : ¬ rev c m < rev c (k + 1) := fun z => (hah.mpr z) q2
              omega
          · exact h3 x hx (by omega) hwx
        · rw [if_neg (by rintro (q | q); exact hK q; exact hw0 q)]
          have hK2 : popc (k + 1) < popc m ∨ (popc (k + 1) = popc m ∧ rev c m < rev c (k + 1)) := by
            apply Classical.byContradiction
            intro hn
            apply hK
            refine ⟨nI_nm1 (by omega), ?_⟩
            rw [hb1, hb2, nI_ltI (by omega) (by omega), nI_eq (by omega) (by omega)]
            by_cases q : popc m < popc (k + 1)
            · exact Or.inl q
            · refine Or.inr ⟨?_, ?_⟩
              · apply Classical.byContradiction; intro z; exact hn (Or.inl (by omega))
              · apply Classical.byContradiction; intro z
                have := hah.mp z
                exact hn (by by_cases e : popc (k + 1) < popc m
                             · exact Or.inl e
                             · exact Or.inr ⟨by omega, this⟩)
          refine Or.inr ⟨k + 1, rfl, by omega, Nat.le_refl _, hw, fun x hx hxk hwx => ?_⟩
          by_cases e : x = k + 1
          · subst e; exact ⟨Nat.le_refl _, fun _ => Nat.le_refl _⟩
          · have := h3 x hx (by omega) hwx
            rcases hK2 with q | ⟨q1, q2⟩
            · exact ⟨by omega, fun z => absurd z (by omega)⟩
            · exact ⟨by omega, fun z => by have := this.2 (by omega); omega⟩
    · rw [if_pos (Or.inr ((hW _ hk').mpr hw))]
      rcases hb with ⟨rfl, hno⟩ | ⟨m, rfl, h0, h1, h2, h3⟩
      · refine Or.inl ⟨rfl, fun x hx hxk => ?_⟩
        by_cases e : x = k + 1
        · subst e; exact hw
        · exact hno x hx (by omega)
      · refine Or.inr ⟨m, rfl, h0, by omega, h2, fun x hx hxk hwx => ?_⟩
        by_cases e : x = k + 1
        · subst e; exact absurd hwx hw
        · exact h3 x hx (by omega) hwx
  rcases key with ⟨h1, h2⟩ | ⟨m, h1, h2, h3, h4, h5⟩
  · exact Or.inl ⟨h1, fun x h3 h4 => h2 x h3 (by omega)⟩
  · exact Or.inr ⟨m, h1, h2, by omega, h4, fun x q1 q2 => h5 x q1 (by omega)⟩
/-! ## the class's search -/
def wlC (c : Nat) (W : Nat → Prop) (j : Nat) : Prop := W (rev c j)
theorem seI_spec {n c ct : Nat} {W : Nat → Prop} {I0 : Nat → Nat → Int32} (hc : c ≤ 10) (hct : ct ≤ 16) (hW : ∀ A, offTD I0 A → ∀ j, j < 2 ^ c → (icE (icF A n c (nI j)) 16 = 0 ↔ ¬ wlC c W j) ∧ offTD I0 (icF A n c (nI j))) :
    ∀ (j : Nat) (A : Nat → Nat → Int32), j < 2 ^ c → offTD I0 A →
    ((seI n c ct j A).1 = 0 ∧ offTD I0 (seI n c ct j A).2 ∧ ∀ j', 0 < j' → j' ≤ j → popc j' = ct → ¬ wlC c W j') ∨
    (∃ ch, 0 < ch ∧ ch ≤ j ∧ popc ch = ct ∧ wlC c W ch ∧ (∀ j', ch < j' → j' ≤ j → popc j' = ct → ¬ wlC c W j') ∧ (seI n c ct j A).1 = 1 ∧ ∃ A', offTD I0 A' ∧ (seI n c ct j A).2 = kpF A' c (nI ch) c)
  | 0, A, _, hA => Or.inl ⟨rfl, hA, fun j' h1 h2 => absurd h1 (by omega)⟩
  | j + 1, A, hj, hA => by
    have h1024 : 2 ^ c ≤ 1024 := Nat.pow_le_pow_right (show 0 < 2 by decide) hc
    have hbc : bc (nI (j + 1)) = nI (popc (j + 1)) := bc_cb (W16_nI (by omega))
    have hp := pop_le (show c ≤ 16 by omega) hj
    obtain ⟨w1, w2⟩ := hW A hA (j + 1) hj
    unfold seI
    by_cases hpc : popc (j + 1) = ct
    · rw [if_pos (by rw [hbc, hpc])]
      by_cases hw : wlC c W (j + 1)
      · rw [if_neg (fun q => w1.mp q hw)]
        exact Or.inr ⟨j + 1, by omega, Nat.le_refl _, hpc, hw, fun j' h1 h2 => absurd h1 (by omega), rfl, _, w2, rfl⟩
      · rw [if_pos (w1.mpr hw)]
        rcases seI_spec hc hct hW j _ (by omega) w2 with ⟨q1, q2, q3⟩ | ⟨ch, q1, q2, q3, q4, q5, q6⟩
        · refine Or.inl ⟨q1, q2, fun j' h1 h2 h3 => ?_⟩
          by_cases e : j' = j + 1
          · subst e; exact hw
          · exact q3 j' h1 (by omega) h3
        · refine Or.inr ⟨ch, q1, by omega, q3, q4, fun j' h1 h2 h3 => ?_, q6⟩
          by_cases e : j' = j + 1
          · subst e; exact hw
          · exact q5 j' h1 (by omega) h3
    · rw [if_neg (by rw [hbc, nI_eq (by omega) (by omega)]; exact hpc)]
      rcases seI_spec hc hct hW j A (by omega) hA with ⟨q1, q2, q3⟩ | ⟨ch, q1, q2, q3, q4, q5, q6⟩
      · refine Or.inl ⟨q1, q2, fun j' h1 h2 h3 => ?_⟩
        by_cases e : j' = j + 1
        · subst e; exact absurd h3 hpc
        · exact q3 j' h1 (by omega) h3
      · refine Or.inr ⟨ch, q1, by omega, q3, q4, fun j' h1 h2 h3 => ?_, q6⟩
        by_cases e : j' = j + 1
        · subst e; exact absurd h3 hpc
        · exact q5 j' h1 (by omega) h3
theorem seO_spec {n c : Nat} {W : Nat → Prop} {I0 : Nat → Nat → Int32} (hc : c ≤ 10) (hW : ∀ A, offTD I0 A → ∀ j, j < 2 ^ c → (icE (icF A n c (nI j)) 16 = 0 ↔ ¬ wlC c W j) ∧ offTD I0 (icF A n c (nI j))) :
    ∀ (f ct : Nat) (A : Nat → Nat → Int32), f + ct = c + 1 → offTD I0 A →
    ((seO n c f ct A).1 = 0 ∧ offTD I0 (seO n c f ct A).2 ∧ ∀ j, 0 < j → j < 2 ^ c → ct ≤ popc j → ¬ wlC c W j) ∨
    (∃ ch, 0 < ch ∧ ch < 2 ^ c ∧ ct ≤ popc ch ∧ wlC c W ch ∧ (∀ j, 0 < j → j < 2 ^ c → ct ≤ popc j → wlC c W j → popc ch ≤ popc j ∧ (popc j = popc ch → j ≤ ch)) ∧ (seO n c f ct A).1 = 1 ∧ ∃ A', offTD I0 A' ∧ (seO n c f ct A).2 = kpF A' c (nI ch) c)
  | 0, ct, A, hf, hA => Or.inl ⟨rfl, hA, fun j h1 h2 h3 => by have := pop_le (show c ≤ 16 by omega) h2; omega⟩
  | f + 1, ct, A, hf, hA => by
    have hpos : 0 < 2 ^ c := Nat.pow_pos (by decide)
    unfold seO
    rcases seI_spec (ct := ct) hc (by omega) hW (2 ^ c - 1) A (by omega) hA with ⟨q1, q2, q3⟩ | ⟨ch, q1, q2, q3, q4, q5, q6, q7⟩
    · rw [if_pos q1]
      rcases seO_spec hc hW f (ct + 1) _ (by omega) q2 with ⟨r1, r2, r3⟩ | ⟨ch, r1, r2, r3, r4, r5, r6⟩
      · refine Or.inl ⟨r1, r2, fun j h1 h2 h3 => ?_⟩
        by_cases e : popc j = ct
        · exact q3 j h1 (by omega) e
        · exact r3 j h1 h2 (by omega)
      · refine Or.inr ⟨ch, r1, r2, by omega, r4, fun j h1 h2 h3 h4 => ?_, r6⟩
        by_cases e : popc j = ct
        · exact absurd h4 (q3 j h1 (by omega) e)
        · exact r5 j h1 h2 (by omega) h4
    · rw [if_neg (by rw [q6]; decide)]
      refine Or.inr ⟨ch, q1, by omega, by omega, q4, fun j h1 h2 h3 h4 => ⟨by omega, fun e => ?_⟩, q6, q7⟩
      apply Classical.byContradiction
      intro hn
      exact q5 j (by omega) (by omega) (by omega) h4
/-- both find the same -/
theorem best_same {c : Nat} {W : Nat → Prop} (hc : c ≤ 10) {m ch : Nat} (hm : bst c W m) (h0 : 0 < ch) (hch : ch < 2 ^ c) (hw : wlC c W ch) (hb : ∀ j, 0 < j → j < 2 ^ c → 1 ≤ popc j → wlC c W j → popc ch ≤ popc j ∧ (popc j = popc ch → j ≤ ch)) : m = rev c ch := by
  obtain ⟨m0, m1, m2, m3⟩ := hm
  have hc16 : c ≤ 16 := by omega
  have rpos : ∀ x, 0 < x → x < 2 ^ c → 0 < rev c x := by
    intro x h1 h2
    apply Classical.byContradiction
    intro hn
    have e : rev c x = 0 := by omega
    have := rev_rev h2
    rw [e] at this
    have z : rev c 0 = 0 := by
      apply Nat.eq_of_testBit_eq; intro i; rw [rev_bit]; simp
    omega
  have a1 := m3 (rev c ch) (rpos ch h0 hch) (rev_lt c ch) hw
  have hwm : wlC c W (rev c m) := by unfold wlC; rw [rev_rev m1]; exact m2
  have a2 := hb (rev c m) (rpos m m0 m1) (rev_lt c m) (by have := pop_pos hc16 (rev_lt c m) (rpos m m0 m1); omega) hwm
  rw [pop_rev hc16 hch, rev_rev hch] at a1
  rw [pop_rev hc16 m1] at a2
  have e1 : popc m = popc ch := by omega
  have e2 : rev c m = ch := by
    have := a1.2 e1.symm
    have := a2.2 e1
    omega
  rw [← e2, rev_rev m1]
