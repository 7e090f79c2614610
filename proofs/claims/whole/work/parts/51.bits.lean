/-! ## bits -/
def Bb (x : Int32) (s : Nat) : Bool := x.toBitVec.getLsbD s
abbrev B (x : Int32) (s : Nat) : Prop := Bb x s = true
theorem B_ext {x y : Int32} (h : ∀ s, s < 32 → (B x s ↔ B y s)) : x = y := by
  apply Int32.toBitVec_inj.mp
  apply BitVec.eq_of_getLsbD_eq
  intro i hi
  have := h i hi
  unfold B Bb at this
  rw [Bool.eq_iff_iff]; exact this
theorem B_or {x y : Int32} {s : Nat} : B (x ||| y) s ↔ B x s ∨ B y s := by simp [B, Bb]
theorem B_and {x y : Int32} {s : Nat} : B (x &&& y) s ↔ B x s ∧ B y s := by simp [B, Bb]
theorem B_xor {x y : Int32} {s : Nat} : B (x ^^^ y) s ↔ ¬ (B x s ↔ B y s) := by
  unfold B Bb
  rw [Int32.toBitVec_xor, BitVec.getLsbD_xor]
  cases x.toBitVec.getLsbD s <;> cases y.toBitVec.getLsbD s <;> simp
theorem B_m1 {s : Nat} (h : s < 32) : B (-1) s := by
  have : ∀ s, s < 32 → B (-1) s := by decide +kernel
  exact this s h
theorem B_not {x : Int32} {s : Nat} (h : s < 32) : B (x ^^^ (-1)) s ↔ ¬ B x s := by
  rw [B_xor]; simp [B_m1 h]
theorem B_0 {s : Nat} : ¬ B 0 s := by simp [B, Bb]
theorem B_bt {a s : Nat} (ha : a < 32) (h : s < 32) : B (bt a) s ↔ s = a := by
  have : ∀ a, a < 32 → ∀ s, s < 32 → (B (bt a) s ↔ s = a) := by decide +kernel
  exact this a ha s h
theorem sh_bv (x : Int32) {s : Nat} (h : s < 32) : (x >>> (nI s &&& 31)).toBitVec = x.toBitVec.sshiftRight s := by
  rw [Int32.toBitVec_shiftRight]
  have : ∀ s, s < 32 → ((nI s &&& 31).toBitVec.smod 32).toNat = s := by decide +kernel
  rw [BitVec.sshiftRight', this s h]
theorem sh0 (x : Int32) {s : Nat} (h : s < 32) : B ((x >>> (nI s &&& 31)) &&& 1) 0 ↔ B x s := by
  unfold B Bb
  rw [Int32.toBitVec_and, BitVec.getLsbD_and, sh_bv x h, BitVec.getLsbD_sshiftRight]
  simp [h]
theorem sh_n {x : Int32} {s : Nat} (h : s < 32) {j : Nat} (hj : j < 32) (hj0 : 0 < j) : ¬ B ((x >>> (nI s &&& 31)) &&& 1) j := by
  rw [B_and]
  have : ∀ j, j < 32 → 0 < j → ¬ B 1 j := by decide +kernel
  exact fun q => this j hj hj0 q.2
theorem B1 {j : Nat} (hj : j < 32) : B 1 j ↔ j = 0 := by
  have : ∀ j, j < 32 → (B 1 j ↔ j = 0) := by decide +kernel
  exact this j hj
theorem sh_if (x : Int32) {s : Nat} (h : s < 32) : (x >>> (nI s &&& 31)) &&& 1 = if B x s then 1 else 0 := by
  apply B_ext
  intro j hj
  by_cases h0 : j = 0
  · subst h0
    rw [sh0 x h]
    by_cases hb : B x s
    · rw [if_pos hb, B1 (show 0 < 32 by decide)]; exact ⟨fun _ => rfl, fun _ => hb⟩
    · rw [if_neg hb]; exact ⟨fun q => absurd q hb, fun q => absurd q B_0⟩
  · by_cases hb : B x s
    · rw [if_pos hb, B1 hj]; exact ⟨fun q => absurd q (sh_n h hj (by omega)), fun q => absurd q h0⟩
    · rw [if_neg hb]; exact ⟨fun q => absurd q (sh_n h hj (by omega)), fun q => absurd q B_0⟩
theorem sh_z {x : Int32} {s : Nat} (h : s < 32) : (x >>> (nI s &&& 31)) &&& 1 = 0 ↔ ¬ B x s := by
  rw [sh_if x h]
  by_cases e : B x s
  · rw [if_pos e]; exact ⟨fun q => absurd q (by decide), fun q => absurd e q⟩
  · rw [if_neg e]; exact ⟨fun _ => e, fun _ => rfl⟩
theorem sh_1 {x : Int32} {s : Nat} (h : s < 32) : (x >>> (nI s &&& 31)) &&& 1 = 1 ↔ B x s := by
  rw [sh_if x h]
  by_cases e : B x s
  · rw [if_pos e]; exact ⟨fun _ => e, fun _ => rfl⟩
  · rw [if_neg e]; exact ⟨fun q => absurd q (by decide), fun q => absurd q e⟩
theorem hb_z {x : Int32} {s : Nat} (h : s < 32) : hb x (nI s) = 0 ↔ ¬ B x s := by
  unfold hb
  by_cases hB : B x s
  · rw [if_pos ((sh_1 h).mpr hB)]; simp [hB]
  · rw [if_neg (fun q => hB ((sh_1 h).mp q))]; simp [hB]
theorem and_bt {x : Int32} {s : Nat} (h : s < 32) : x &&& bt s = 0 ↔ ¬ B x s := by
  constructor
  · intro q hB
    have : B (x &&& bt s) s := B_and.mpr ⟨hB, (B_bt h h).mpr rfl⟩
    rw [q] at this
    exact B_0 this
  · intro q
    apply B_ext
    intro j hj
    simp only [B_0, iff_false, B_and]
    rintro ⟨h1, h2⟩
    rw [B_bt h hj] at h2
    subst h2
    exact q h1
theorem B_zero {x : Int32} : x = 0 ↔ ∀ s, s < 32 → ¬ B x s := by
  constructor
  · rintro rfl s _; exact B_0
  · intro h; apply B_ext; intro s hs; simp [h s hs, B_0]
theorem B_lt {x : Int32} {s : Nat} (h : B x s) : s < 32 := by
  unfold B Bb at h
  by_cases q : s < 32
  · exact q
  · rw [BitVec.getLsbD_of_ge _ _ (by omega)] at h; cases h
/-- sixteen bits -/
def W16 (x : Int32) : Prop := ∀ s, 16 ≤ s → ¬ B x s
theorem W16_0 : W16 0 := fun s _ => B_0
theorem W16_or {x y : Int32} (hx : W16 x) (hy : W16 y) : W16 (x ||| y) := fun s hs h => (B_or.mp h).elim (hx s hs) (hy s hs)
theorem W16_andl {x y : Int32} (hx : W16 x) : W16 (x &&& y) := fun s hs h => hx s hs (B_and.mp h).1
theorem W16_andr {x y : Int32} (hx : W16 y) : W16 (x &&& y) := fun s hs h => hx s hs (B_and.mp h).2
theorem W16_bt {a : Nat} (ha : a < 16) : W16 (bt a) := fun s hs h => by
  have h1 := B_lt h
  rw [B_bt (by omega) h1] at h; omega
theorem W16_xor {x y : Int32} (hx : W16 x) (hy : W16 y) : W16 (x ^^^ y) := fun s hs h => by
  rw [B_xor] at h; exact h ⟨fun q => absurd q (hx s hs), fun q => absurd q (hy s hs)⟩
theorem W16_ext {x y : Int32} (hx : W16 x) (hy : W16 y) (h : ∀ s, s < 16 → (B x s ↔ B y s)) : x = y := by
  apply B_ext; intro s hs
  by_cases q : s < 16
  · exact h s q
  · simp [hx s (by omega), hy s (by omega)]
theorem W16_nat {x : Int32} (hx : W16 x) : ∃ k, k < 65536 ∧ x = nI k := by
  refine ⟨x.toBitVec.toNat % 65536, Nat.mod_lt _ (by decide), ?_⟩
  apply B_ext
  intro s hs
  have e : (nI (x.toBitVec.toNat % 65536)).toBitVec = BitVec.ofNat 32 (x.toBitVec.toNat % 65536) := by
    unfold nI; rfl
  unfold B Bb
  rw [e, BitVec.getLsbD_ofNat]
  rw [show (65536 : Nat) = 2 ^ 16 from rfl, Nat.testBit_mod_two_pow]
  by_cases q : s < 16
  · simp [q, hs, BitVec.testBit_toNat]
  · have := hx s (by omega)
    unfold B Bb at this
    simp [q, this]
theorem W16_of {x : Int32} (h : ¬ x < 0 ∧ x ≤ 65535) : W16 x := by
  intro s hs hB
  have h1 := h.1
  have h2 := h.2
  rw [Int32.lt_iff_toInt_lt] at h1
  rw [Int32.le_iff_toInt_le] at h2
  have e0 : (0 : Int32).toInt = 0 := rfl
  have e1 : (65535 : Int32).toInt = 65535 := rfl
  rw [e0] at h1; rw [e1] at h2
  have h3 : x.toInt = x.toBitVec.toInt := rfl
  have h4 : x.toBitVec.toNat < 65536 := by
    have := BitVec.toInt_eq_toNat_cond x.toBitVec
    have hl := x.toBitVec.isLt
    split at this <;> omega
  unfold B Bb at hB
  rw [BitVec.getLsbD] at hB
  have := Nat.testBit_lt_two_pow (x := x.toBitVec.toNat) (i := s) (Nat.lt_of_lt_of_le h4 (Nat.pow_le_pow_right (show 0 < 2 by decide) hs))
  rw [this] at hB; cases hB
def bcN (x : Nat) : Nat :=
  let a := Nat.sub x (Nat.land (Nat.div x (nat_lit 2)) (nat_lit 1431655765))
  let b := Nat.add (Nat.land a (nat_lit 858993459)) (Nat.land (Nat.div a (nat_lit 4)) (nat_lit 858993459))
  let c := Nat.land (Nat.add b (Nat.div b (nat_lit 16))) (nat_lit 252645135)
  let d := Nat.add c (Nat.div c (nat_lit 256))
  let e := Nat.add d (Nat.div d (nat_lit 65536))
  Nat.land e (nat_lit 63)
def ckN (k : Nat) : Bool := Nat.beq (bcN k) (Nat.add (bcN (Nat.div k (nat_lit 2))) (Nat.mod k (nat_lit 2))) && (Nat.beq k (nat_lit 0) || Nat.beq (bcN k) (Nat.add (bcN (Nat.land k (Nat.sub k (nat_lit 1)))) (nat_lit 1)))
def alN (f : Nat → Bool) : Nat → Bool
  | 0 => true
  | n + 1 => f n && alN f n
theorem tabN : alN (fun a => alN (fun b => ckN (Nat.add (Nat.mul (nat_lit 256) a) b)) 256) 256 = true := by decide +kernel
theorem nI_bv (m : Nat) : (nI m).toBitVec = BitVec.ofNat 32 m := rfl
theorem nI_and {a b : Nat} : nI a &&& nI b = nI (a &&& b) := by
  apply Int32.toBitVec_inj.mp
  rw [Int32.toBitVec_and, nI_bv, nI_bv, nI_bv, BitVec.ofNat_and]
theorem nI_subN {a b : Nat} (h : b ≤ a) : nI a - nI b = nI (a - b) := by
  have : nI a = nI (a - b) + nI b := by rw [nI_add]; congr 1; omega
  rw [this]
  exact Int32.add_sub_cancel _ _
theorem nI_shr {m : Nat} (hm : m < 2 ^ 32) (c : Nat) (hc : c < 32) : ((nI m).toUInt32 >>> ((nI c).toUInt32 &&& Int32.toUInt32 31)).toInt32 = nI (m / 2 ^ c) := by
  apply Int32.toBitVec_inj.mp
  rw [UInt32.toBitVec_toInt32, UInt32.toBitVec_shiftRight, Int32.toBitVec_toUInt32, nI_bv, nI_bv]
  have h1 : ∀ c, c < 32 → (((nI c).toUInt32 &&& Int32.toUInt32 31).toBitVec % 32).toNat = c := by decide +kernel
  apply BitVec.eq_of_toNat_eq
  rw [BitVec.ushiftRight_eq', BitVec.toNat_ushiftRight, h1 c hc, BitVec.toNat_ofNat, BitVec.toNat_ofNat, Nat.mod_eq_of_lt hm, Nat.shiftRight_eq_div_pow, Nat.mod_eq_of_lt (Nat.lt_of_le_of_lt (Nat.div_le_self _ _) hm)]
theorem bcN_eq (x : Nat) : bcN x = 
    (let a := x - (x / 2 ^ 1 &&& 1431655765)
     let b := (a &&& 858993459) + (a / 2 ^ 2 &&& 858993459)
     let c := (b + b / 2 ^ 4) &&& 252645135
     let d := c + c / 2 ^ 8
     let e := d + d / 2 ^ 16
     e &&& 63) := rfl
theorem bc_N {k : Nat} (hk : k < 65536) : bc (nI k) = nI (bcN k) := by
  rw [bcN_eq]
  unfold bc
  simp only
  have c1 : (1 : Int32) = nI 1 := rfl
  have c2 : (2 : Int32) = nI 2 := rfl
  have c4 : (4 : Int32) = nI 4 := rfl
  have c8 : (8 : Int32) = nI 8 := rfl
  have c16 : (16 : Int32) = nI 16 := rfl
  have m1 : (1431655765 : Int32) = nI 1431655765 := rfl
  have m2 : (858993459 : Int32) = nI 858993459 := rfl
  have m3 : (252645135 : Int32) = nI 252645135 := rfl
  have m4 : (63 : Int32) = nI 63 := rfl
  have le : ∀ a b : Nat, a &&& b ≤ a := fun a b => Nat.and_le_left
  have ler : ∀ a b : Nat, a &&& b ≤ b := fun a b => Nat.and_le_right
  have h1 : (k / 2 ^ 1 &&& 1431655765) ≤ k := Nat.le_trans (le _ _) (Nat.div_le_self _ _)
  rw [m1, c1, nI_shr (by omega) 1 (by decide), nI_and, nI_subN h1]
  generalize ha : k - (k / 2 ^ 1 &&& 1431655765) = a
  have ha2 : a < 65536 := by omega
  rw [m2, c2, nI_shr (by omega) 2 (by decide), nI_and, nI_and, nI_add]
  generalize hb : (a &&& 858993459) + (a / 2 ^ 2 &&& 858993459) = b
  have hb2 : b < 131072 := by
    have := le a 858993459
    have := Nat.le_trans (le (a / 2 ^ 2) 858993459) (Nat.div_le_self a (2 ^ 2))
    omega
  rw [m3, c4, nI_shr (by omega) 4 (by decide), nI_add, nI_and]
  generalize hc : ((b + b / 2 ^ 4) &&& 252645135) = c
  have hc2 : c < 2 ^ 20 := by
    have := le (b + b / 2 ^ 4) 252645135
    have := Nat.div_le_self b (2 ^ 4)
    omega
  rw [c8, nI_shr (by omega) 8 (by decide), nI_add]
  generalize hd : c + c / 2 ^ 8 = d
  have hd2 : d < 2 ^ 21 := by
    have := Nat.div_le_self c (2 ^ 8)
    omega
  rw [c16, nI_shr (by omega) 16 (by decide), nI_add, m4, nI_and]
theorem alN_at {f : Nat → Bool} : ∀ {n : Nat}, alN f n = true → ∀ k, k < n → f k = true
  | 0, _, k, hk => absurd hk (by omega)
  | n + 1, h, k, hk => by
    unfold alN at h
    rw [Bool.and_eq_true] at h
    by_cases e : k = n
    · subst e; exact h.1
    · exact alN_at h.2 k (by omega)
theorem ckN_at {k : Nat} (hk : k < 65536) : bcN k = bcN (k / 2) + k % 2 ∧ (k ≠ 0 → bcN k = bcN (k &&& (k - 1)) + 1) := by
  have h1 := alN_at (alN_at tabN (k / 256) (by omega)) (k % 256) (Nat.mod_lt _ (by decide))
  have e : Nat.add (Nat.mul (nat_lit 256) (k / 256)) (k % 256) = k := Nat.div_add_mod k 256
  rw [e] at h1
  unfold ckN at h1
  rw [Bool.and_eq_true, Bool.or_eq_true] at h1
  refine ⟨Nat.eq_of_beq_eq_true h1.1, fun hk0 => ?_⟩
  rcases h1.2 with h2 | h2
  · exact absurd (Nat.eq_of_beq_eq_true h2) hk0
  · exact Nat.eq_of_beq_eq_true h2
/-! ## how many bits -/
def cb (x : Int32) : Nat → Nat
  | 0 => 0
  | k + 1 => cb x k + if B x k then 1 else 0
theorem B_nI {k s : Nat} (hs : s < 32) : B (nI k) s ↔ k.testBit s = true := by
  unfold B Bb; rw [nI_bv, BitVec.getLsbD_ofNat]; simp [hs]
theorem cb_half {k : Nat} : ∀ m, m < 32 → cb (nI k) (m + 1) = cb (nI (k / 2)) m + k % 2
  | 0, _ => by
    simp only [cb, B_nI (show 0 < 32 by decide), Nat.testBit_zero]
    by_cases h : k % 2 = 1
    · simp [h]
    · have : k % 2 = 0 := by omega
      simp [this]
  | m + 1, hm => by
    have ih := cb_half m (k := k) (by omega)
    rw [cb, ih, cb]
    simp only [B_nI hm, B_nI (show m < 32 by omega), Nat.testBit_succ]
    omega
theorem bcN_cb : ∀ (m k : Nat), m ≤ 16 → k < 2 ^ m → bcN k = cb (nI k) m
  | 0, k, _, hk => by
    have : k = 0 := by omega
    subst this; decide
  | m + 1, k, hm, hk => by
    have h65 : k < 65536 := Nat.lt_of_lt_of_le hk (Nat.pow_le_pow_right (show 0 < 2 by decide) hm)
    rw [(ckN_at h65).1, bcN_cb m (k / 2) (by omega) (by rw [Nat.pow_succ] at hk; omega), cb_half m (by omega)]
theorem bc_cb {x : Int32} (h : W16 x) : bc x = nI (cb x 16) := by
  obtain ⟨k, hk, rfl⟩ := W16_nat h
  rw [bc_N hk, bcN_cb 16 k (Nat.le_refl _) hk]
theorem bts_N : ∀ (f k : Nat) (n : Nat), k < 65536 → bcN k ≤ f → bts f (nI k) (nI n) = nI (n + bcN k)
  | 0, k, n, hk, h => by
    have : bcN k = 0 := by omega
    rw [this]; rfl
  | f + 1, k, n, hk, h => by
    unfold bts
    by_cases h0 : k = 0
    · subst h0
      rw [if_pos (show nI 0 = 0 from rfl), show bcN 0 = 0 by decide]; rfl
    · rw [if_neg (by rw [show (0 : Int32) = nI 0 from rfl, nI_eq (by omega) (by omega)]; exact h0)]
      have e := (ckN_at hk).2 h0
      rw [show (1 : Int32) = nI 1 from rfl, nI_subN (by omega), nI_and, nI_add]
      have hle : (k &&& (k - 1)) ≤ k := Nat.and_le_left
      rw [bts_N f (k &&& (k - 1)) (n + 1) (by omega) (by omega), e]
      congr 1; omega
theorem bts_cb {x : Int32} (h : W16 x) : bts 32 x 0 = nI (cb x 16) := by
  obtain ⟨k, hk, rfl⟩ := W16_nat h
  have h16 : ∀ y m, cb y m ≤ m := by
    intro y m; induction m with
    | zero => exact Nat.le_refl _
    | succ m ih => unfold cb; split <;> omega
  have := bts_N 32 k 0 hk (by rw [bcN_cb 16 k (Nat.le_refl _) hk]; have := h16 (nI k) 16; omega)
  rw [Nat.zero_add, bcN_cb 16 k (Nat.le_refl _) hk] at this
  exact this
theorem cb_le (x : Int32) : ∀ k, cb x k ≤ k
  | 0 => Nat.le_refl _
  | k + 1 => by have := cb_le x k; unfold cb; split <;> omega
theorem cb_congr {x y : Int32} : ∀ k, (∀ j, j < k → (B x j ↔ B y j)) → cb x k = cb y k
  | 0, _ => rfl
  | k + 1, h => by
    unfold cb
    rw [cb_congr k (fun j hj => h j (by omega))]
    simp only [h k (by omega)]
/-- a sum over a range -/
def sm (f : Nat → Nat) : Nat → Nat
  | 0 => 0
  | k + 1 => sm f k + f k
theorem sm_add (f g : Nat → Nat) : ∀ k, sm (fun i => f i + g i) k = sm f k + sm g k
  | 0 => rfl
  | k + 1 => by simp only [sm, sm_add f g k]; omega
theorem sm_0 : ∀ k, sm (fun _ => 0) k = 0
  | 0 => rfl
  | k + 1 => by simp only [sm, sm_0 k]
theorem sm_congr {f g : Nat → Nat} : ∀ k, (∀ i, i < k → f i = g i) → sm f k = sm g k
  | 0, _ => rfl
  | k + 1, h => by simp only [sm, sm_congr k (fun i hi => h i (by omega)), h k (by omega)]
theorem sm_swap (f : Nat → Nat → Nat) (m : Nat) : ∀ k, sm (fun i => sm (f i) m) k = sm (fun j => sm (fun i => f i j) k) m
  | 0 => by simp only [sm, sm_0]
  | k + 1 => by simp only [sm, sm_swap f m k, sm_add]
theorem sm_le {f : Nat → Nat} {b : Nat} : ∀ k, (∀ i, i < k → f i ≤ b) → sm f k ≤ b * k
  | 0, _ => by simp [sm]
  | k + 1, h => by
    have h1 := sm_le k (fun i hi => h i (by omega))
    have h2 := h k (by omega)
    simp only [sm, Nat.mul_succ]; omega
theorem sm_mono {f g : Nat → Nat} : ∀ k, (∀ i, i < k → f i ≤ g i) → sm f k ≤ sm g k
  | 0, _ => Nat.le_refl _
  | k + 1, h => by
    have h1 := sm_mono k (fun i hi => h i (by omega))
    have h2 := h k (by omega)
    simp only [sm]; omega
theorem sm_lt {f g : Nat → Nat} : ∀ k, (∀ i, i < k → f i ≤ g i) → (∃ i, i < k ∧ f i < g i) → sm f k < sm g k
  | 0, _, ⟨i, hi, _⟩ => absurd hi (by omega)
  | k + 1, h, ⟨i, hi, hlt⟩ => by
    have h2 := h k (by omega)
    have h1 := sm_mono k (fun i hi => h i (by omega))
    simp only [sm]
    by_cases e : i = k
    · subst e; omega
    · have := sm_lt k (fun i hi => h i (by omega)) ⟨i, by omega, hlt⟩
      omega
theorem it_sum {f : Nat → Int32} {g : Nat → Nat} : ∀ k, (∀ i, i < k → f i = nI (g i)) → it (fun i a => a + f i) k 0 = nI (sm g k)
  | 0, _ => rfl
  | k + 1, h => by
    show it (fun i a => a + f i) k 0 + f k = _
    rw [it_sum k (fun i hi => h i (by omega)), h k (by omega), nI_add]; rfl
theorem cb_sm (x : Int32) : ∀ k, cb x k = sm (fun j => if B x j then 1 else 0) k
  | 0 => rfl
  | k + 1 => by simp only [cb, sm, cb_sm x k]
