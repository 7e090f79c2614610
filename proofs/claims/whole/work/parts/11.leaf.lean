/-! ## leaves -/
theorem loopN {A : Nat → Prop} (m : Nat) (h0 : A m) (hs : ∀ k, k < m → A (k + 1) → A k) : ∀ k, k ≤ m → A k := by
  intro k hk
  have h : ∀ j, j ≤ m → A (m - j) := by
    intro j
    induction j with
    | zero => intro _; exact h0
    | succ j ih =>
      intro hj
      have h1 := ih (by omega)
      exact hs _ (by omega) (by rw [show m - (j + 1) + 1 = m - j by omega]; exact h1)
  have := h (m - k) (by omega)
  rwa [show m - (m - k) = k by omega] at this
/-- k rounds -/
def it {α : Type} (f : Nat → α → α) : Nat → α → α
  | 0, a => a
  | k + 1, a => f k (it f k a)
def hb (x y : Int32) : Int32 := if (x >>> (y &&& 31)) &&& 1 = 1 then 1 else 0
theorem hb_or (x y : Int32) : hb x y = 0 ∨ hb x y = 1 := by unfold hb; split <;> simp
theorem nI_t {a b : Nat} (h : nI a < nI b) (ha : a < 2 ^ 31) (hb : b < 2 ^ 31) : a < b := (nI_ltI ha hb).mp h
theorem nI_nt {a b : Nat} (h : ¬ nI a < nI b) (ha : a < 2 ^ 31) (hb : b < 2 ^ 31) : b ≤ a := Nat.not_lt.mp fun q => h ((nI_ltI ha hb).mpr q)
theorem nI_l' {a b : Nat} (h : nI a ≤ nI b) (ha : a < 2 ^ 31) (hb : b < 2 ^ 31) : a ≤ b := (nI_leI ha hb).mp h
theorem nI_nl {a b : Nat} (h : ¬ nI a ≤ nI b) (ha : a < 2 ^ 31) (hb : b < 2 ^ 31) : b < a := Nat.not_le.mp fun q => h ((nI_leI ha hb).mpr q)
set_option maxHeartbeats 1000000 in
theorem s_hasBit {l : Launch} {G : Gm} {I : Nat → Nat → Int32} {J : Nat → Nat → Int64} (x y : Int32) : Sp l G iX8_hasBit [.int x, .int y] (mm I J) (RetI (hb x y) (mm I J)) noT := by
  refine Sp.of (by decide +kernel) (Nat.le_of_ble_eq_true rfl) ?_
  intro X hXl C
  subst hXl
  show Go X G 2 0 0 _ 0 [.int x, .int y] [] (mm I J)
  refine g_iload_n C dX8_hasBit_0 rfl ?_
  refine g_iload_n C dX8_hasBit_1 rfl ?_
  refine g_ishr C dX8_hasBit_2 ?_
  refine g_iconst (v := 1) C dX8_hasBit_3 (by decide) ?_
  refine g_iand C dX8_hasBit_4 ?_
  refine g_iconst (v := 1) C dX8_hasBit_5 (by decide) ?_
  refine g_icmp_ne 13 C dX8_hasBit_6 (by decide) (fun c6 => ?_) (fun c6 => ?_)
  · refine g_iconst (v := 0) C dX8_hasBit_13 (by decide) ?_
    exact e_Z C dX8_hasBit_14 rfl rfl rfl (by first | exact Or.inl rfl | exact Or.inr rfl) (by unfold hb; split <;> simp_all) rfl
  · refine g_iconst (v := 1) C dX8_hasBit_9 (by decide) ?_
    refine g_goto 14 C dX8_hasBit_10 (by decide) ?_
    exact e_Z C dX8_hasBit_14 rfl rfl rfl (by first | exact Or.inl rfl | exact Or.inr rfl) (by unfold hb; split <;> simp_all) rfl
set_option maxHeartbeats 1000000 in
theorem s_spot {l : Launch} {G : Gm} {I : Nat → Nat → Int32} {J : Nat → Nat → Int64} (x y : Int32) : Sp l G iX8_spot [.int x, .int y] (mm I J) (RetI (x * 25 + y) (mm I J)) noT := by
  refine Sp.of (by decide +kernel) (Nat.le_of_ble_eq_true rfl) ?_
  intro X hXl C
  subst hXl
  show Go X G 2 0 0 _ 0 [.int x, .int y] [] (mm I J)
  refine g_iload_n C dX8_spot_0 rfl ?_
  refine g_bipush (v := 25) C dX8_spot_1 (by decide) ?_
  refine g_imul C dX8_spot_3 ?_
  refine g_iload_n C dX8_spot_4 rfl ?_
  refine g_iadd C dX8_spot_5 ?_
  exact e_I C dX8_spot_6 rfl rfl rfl rfl rfl
set_option maxHeartbeats 1000000 in
theorem s_isRight {l : Launch} {G : Gm} {I : Nat → Nat → Int32} {J : Nat → Nat → Int64} (x : Int32) : Sp l G iX8_isRight [.int x] (mm I J) (RetI (if ¬ x < 0 ∧ x < 16 then 1 else 0) (mm I J)) noT := by
  refine Sp.of (by decide +kernel) (Nat.le_of_ble_eq_true rfl) ?_
  intro X hXl C
  subst hXl
  show Go X G 1 0 0 _ 0 [.int x] [] (mm I J)
  refine g_iload_n C dX8_isRight_0 rfl ?_
  refine g_if_lt 14 C dX8_isRight_1 (by decide) (fun c1 => ?_) (fun c1 => ?_)
  · refine g_iconst (v := 0) C dX8_isRight_14 (by decide) ?_
    exact e_Z C dX8_isRight_15 rfl rfl rfl (by first | exact Or.inl rfl | exact Or.inr rfl) (by simp_all) rfl
  · refine g_iload_n C dX8_isRight_4 rfl ?_
    refine g_bipush (v := 16) C dX8_isRight_5 (by decide) ?_
    refine g_icmp_ge 14 C dX8_isRight_7 (by decide) (fun c7 => ?_) (fun c7 => ?_)
    · refine g_iconst (v := 0) C dX8_isRight_14 (by decide) ?_
      exact e_Z C dX8_isRight_15 rfl rfl rfl (by first | exact Or.inl rfl | exact Or.inr rfl) (by simp_all) rfl
    · refine g_iconst (v := 1) C dX8_isRight_10 (by decide) ?_
      refine g_goto 15 C dX8_isRight_11 (by decide) ?_
      exact e_Z C dX8_isRight_15 rfl rfl rfl (by first | exact Or.inl rfl | exact Or.inr rfl) (by simp_all) rfl
set_option maxHeartbeats 1000000 in
theorem s_isGrants {l : Launch} {G : Gm} {I : Nat → Nat → Int32} {J : Nat → Nat → Int64} (x : Int32) : Sp l G iX8_isGrants [.int x] (mm I J) (RetI (if ¬ x < 0 ∧ x ≤ 65535 then 1 else 0) (mm I J)) noT := by
  refine Sp.of (by decide +kernel) (Nat.le_of_ble_eq_true rfl) ?_
  intro X hXl C
  subst hXl
  show Go X G 1 0 0 _ 0 [.int x] [] (mm I J)
  refine g_iload_n C dX8_isGrants_0 rfl ?_
  refine g_if_lt 14 C dX8_isGrants_1 (by decide) (fun c1 => ?_) (fun c1 => ?_)
  · refine g_iconst (v := 0) C dX8_isGrants_14 (by decide) ?_
    exact e_Z C dX8_isGrants_15 rfl rfl rfl (by first | exact Or.inl rfl | exact Or.inr rfl) (by simp_all) rfl
  · refine g_iload_n C dX8_isGrants_4 rfl ?_
    refine g_ldc (v := 65535) C dX8_isGrants_5 kwX8_238 ?_
    refine g_icmp_gt 14 C dX8_isGrants_7 (by decide) (fun c7 => ?_) (fun c7 => ?_)
    · refine g_iconst (v := 0) C dX8_isGrants_14 (by decide) ?_
      exact e_Z C dX8_isGrants_15 rfl rfl rfl (by first | exact Or.inl rfl | exact Or.inr rfl) (by simp_all) rfl
    · refine g_iconst (v := 1) C dX8_isGrants_10 (by decide) ?_
      refine g_goto 15 C dX8_isGrants_11 (by decide) ?_
      exact e_Z C dX8_isGrants_15 rfl rfl rfl (by first | exact Or.inl rfl | exact Or.inr rfl) (by simp_all) rfl
set_option maxHeartbeats 1000000 in
theorem s_uses {l : Launch} {G : Gm} {I : Nat → Nat → Int32} {J : Nat → Nat → Int64} {p : Nat} (hp : p < 10) : Sp l G iX1_uses [.ref (G.1 + 73), .int (nI p)] (mm I J) (RetI (I 75 p ||| I 76 p) (mm I J)) noT := by
  refine Sp.of (by decide +kernel) (Nat.le_of_ble_eq_true rfl) ?_
  intro X hXl C
  subst hXl
  show Go X G 2 0 0 _ 0 [.ref (G.1 + 73), .int (nI p)] [] (mm I J)
  refine g_aload_n C dX1_uses_0 rfl ?_
  refine g_getR (ci := 1) (k := 2) (q := 75) C dX1_uses_1 rfl inGX1 (by decide) fwX1_15 ly_73 (by decide) rfl rfl ?_
  refine g_iload_n C dX1_uses_4 rfl ?_
  refine g_iald _ C dX1_uses_5 ly_75 (by decide) (by decide) rfl (by omega) ?_
  refine g_aload_n C dX1_uses_6 rfl ?_
  refine g_getR (ci := 1) (k := 3) (q := 76) C dX1_uses_7 rfl inGX1 (by decide) fwX1_18 ly_73 (by decide) rfl rfl ?_
  refine g_iload_n C dX1_uses_10 rfl ?_
  refine g_iald _ C dX1_uses_11 ly_76 (by decide) (by decide) rfl (by omega) ?_
  refine g_ior C dX1_uses_12 ?_
  exact e_I C dX1_uses_13 rfl rfl rfl rfl rfl
set_option maxHeartbeats 1000000 in
theorem s_planHas {l : Launch} {G : Gm} {I : Nat → Nat → Int32} {J : Nat → Nat → Int64} (x : Int32) : Sp l G iX2_has [.ref (G.1 + 3), .int x] (mm I J) (RetI (if ¬ x < 0 ∧ x < I 3 2 then 1 else 0) (mm I J)) noT := by
  refine Sp.of (by decide +kernel) (Nat.le_of_ble_eq_true rfl) ?_
  intro X hXl C
  subst hXl
  show Go X G 2 0 0 _ 0 [.ref (G.1 + 3), .int x] [] (mm I J)
  refine g_iload_n C dX2_has_0 rfl ?_
  refine g_if_lt 16 C dX2_has_1 (by decide) (fun c1 => ?_) (fun c1 => ?_)
  · refine g_iconst (v := 0) C dX2_has_16 (by decide) ?_
    exact e_Z C dX2_has_17 rfl rfl rfl (by first | exact Or.inl rfl | exact Or.inr rfl) (by simp_all) rfl
  · refine g_iload_n C dX2_has_4 rfl ?_
    refine g_aload_n C dX2_has_5 rfl ?_
    refine g_getI (ci := 2) (k := 2) C dX2_has_6 rfl inGX2 (by decide) fwX2_22 ly_3 (by decide) rfl ?_
    refine g_icmp_ge 16 C dX2_has_9 (by decide) (fun c9 => ?_) (fun c9 => ?_)
    · refine g_iconst (v := 0) C dX2_has_16 (by decide) ?_
      exact e_Z C dX2_has_17 rfl rfl rfl (by first | exact Or.inl rfl | exact Or.inr rfl) (by simp_all) rfl
    · refine g_iconst (v := 1) C dX2_has_12 (by decide) ?_
      refine g_goto 17 C dX2_has_13 (by decide) ?_
      exact e_Z C dX2_has_17 rfl rfl rfl (by first | exact Or.inl rfl | exact Or.inr rfl) (by simp_all) rfl
set_option maxHeartbeats 1000000 in
theorem s_sheetHas {l : Launch} {G : Gm} {I : Nat → Nat → Int32} {J : Nat → Nat → Int64} {p : Nat} (hp : p < 10) (x : Int32) : Sp l G iX5_has [.ref (G.1 + (6 + 6 * p)), .int x] (mm I J) (RetI (if ¬ x < 0 ∧ x < I (6 + 6 * p) 5 then 1 else 0) (mm I J)) noT := by
  refine Sp.of (by decide +kernel) (Nat.le_of_ble_eq_true rfl) ?_
  intro X hXl C
  subst hXl
  show Go X G 2 0 0 _ 0 [.ref (G.1 + (6 + 6 * p)), .int x] [] (mm I J)
  refine g_iload_n C dX5_has_0 rfl ?_
  refine g_if_lt 16 C dX5_has_1 (by decide) (fun c1 => ?_) (fun c1 => ?_)
  · refine g_iconst (v := 0) C dX5_has_16 (by decide) ?_
    exact e_Z C dX5_has_17 rfl rfl rfl (by first | exact Or.inl rfl | exact Or.inr rfl) (by simp_all) rfl
  · refine g_iload_n C dX5_has_4 rfl ?_
    refine g_aload_n C dX5_has_5 rfl ?_
    refine g_getI (ci := 5) (k := 5) C dX5_has_6 rfl inGX5 (by decide) fwX5_27 (ly_sh hp) (by omega) rfl ?_
    refine g_icmp_ge 16 C dX5_has_9 (by decide) (fun c9 => ?_) (fun c9 => ?_)
    · refine g_iconst (v := 0) C dX5_has_16 (by decide) ?_
      exact e_Z C dX5_has_17 rfl rfl rfl (by first | exact Or.inl rfl | exact Or.inr rfl) (by simp_all) rfl
    · refine g_iconst (v := 1) C dX5_has_12 (by decide) ?_
      refine g_goto 17 C dX5_has_13 (by decide) ?_
      exact e_Z C dX5_has_17 rfl rfl rfl (by first | exact Or.inl rfl | exact Or.inr rfl) (by simp_all) rfl
set_option maxHeartbeats 1000000 in
theorem s_refuse {l : Launch} {G : Gm} {I : Nat → Nat → Int32} {J : Nat → Nat → Int64} (x : Int32) : Sp l G iX8_refuse [.ref (G.1 + 0), .int x] (mm I J) (RetI (-1) (mm (up1 I 0 7 x) J)) noT := by
  refine Sp.of (by decide +kernel) (Nat.le_of_ble_eq_true rfl) ?_
  intro X hXl C
  subst hXl
  show Go X G 2 0 0 _ 0 [.ref (G.1 + 0), .int x] [] (mm I J)
  refine g_aload_n C dX8_refuse_0 rfl ?_
  refine g_iload_n C dX8_refuse_1 rfl ?_
  refine g_putI (ci := 8) (k := 7) .int C dX8_refuse_2 rfl inGX8 tyX8_ok nmX8 (by decide) fwX8_66 ly_0 (by decide) rfl rfl rfl rfl rfl ?_
  refine g_iconst (v := (-1)) C dX8_refuse_5 (by decide) ?_
  exact e_I C dX8_refuse_6 rfl rfl rfl rfl rfl
set_option maxHeartbeats 1000000 in
theorem s_accept {l : Launch} {G : Gm} {I : Nat → Nat → Int32} {J : Nat → Nat → Int64} (x : Int32) : Sp l G iX8_accept [.ref (G.1 + 0), .int x] (mm I J) (RetI x (mm (up1 I 0 7 0) J)) noT := by
  refine Sp.of (by decide +kernel) (Nat.le_of_ble_eq_true rfl) ?_
  intro X hXl C
  subst hXl
  show Go X G 2 0 0 _ 0 [.ref (G.1 + 0), .int x] [] (mm I J)
  refine g_aload_n C dX8_accept_0 rfl ?_
  refine g_iconst (v := 0) C dX8_accept_1 (by decide) ?_
  refine g_putI (ci := 8) (k := 7) .int C dX8_accept_2 rfl inGX8 tyX8_ok nmX8 (by decide) fwX8_66 ly_0 (by decide) rfl rfl rfl rfl rfl ?_
  refine g_iload_n C dX8_accept_5 rfl ?_
  exact e_I C dX8_accept_6 rfl rfl rfl rfl rfl
set_option maxHeartbeats 1000000 in
theorem s_deny {l : Launch} {G : Gm} {I : Nat → Nat → Int32} {J : Nat → Nat → Int64} (x : Int32) : Sp l G iX8_deny [.ref (G.1 + 0), .int x] (mm I J) (RetI 0 (mm (up1 I 0 7 x) J)) noT := by
  refine Sp.of (by decide +kernel) (Nat.le_of_ble_eq_true rfl) ?_
  intro X hXl C
  subst hXl
  show Go X G 2 0 0 _ 0 [.ref (G.1 + 0), .int x] [] (mm I J)
  refine g_aload_n C dX8_deny_0 rfl ?_
  refine g_iload_n C dX8_deny_1 rfl ?_
  refine g_putI (ci := 8) (k := 7) .int C dX8_deny_2 rfl inGX8 tyX8_ok nmX8 (by decide) fwX8_66 ly_0 (by decide) rfl rfl rfl rfl rfl ?_
  refine g_iconst (v := 0) C dX8_deny_5 (by decide) ?_
  exact e_Z C dX8_deny_6 rfl rfl rfl (by first | exact Or.inl rfl | exact Or.inr rfl) rfl rfl
set_option maxHeartbeats 1000000 in
theorem s_allow {l : Launch} {G : Gm} {I : Nat → Nat → Int32} {J : Nat → Nat → Int64} : Sp l G iX8_allow [.ref (G.1 + 0)] (mm I J) (RetI 1 (mm (up1 I 0 7 0) J)) noT := by
  refine Sp.of (by decide +kernel) (Nat.le_of_ble_eq_true rfl) ?_
  intro X hXl C
  subst hXl
  show Go X G 1 0 0 _ 0 [.ref (G.1 + 0)] [] (mm I J)
  refine g_aload_n C dX8_allow_0 rfl ?_
  refine g_iconst (v := 0) C dX8_allow_1 (by decide) ?_
  refine g_putI (ci := 8) (k := 7) .int C dX8_allow_2 rfl inGX8 tyX8_ok nmX8 (by decide) fwX8_66 ly_0 (by decide) rfl rfl rfl rfl rfl ?_
  refine g_iconst (v := 1) C dX8_allow_5 (by decide) ?_
  exact e_Z C dX8_allow_6 rfl rfl rfl (by first | exact Or.inl rfl | exact Or.inr rfl) rfl rfl
def bc (x : Int32) : Int32 :=
  let a := x - ((x.toUInt32 >>> ((1 : Int32).toUInt32 &&& Int32.toUInt32 31)).toInt32 &&& 1431655765)
  let b := (a &&& 858993459) + ((a.toUInt32 >>> ((2 : Int32).toUInt32 &&& Int32.toUInt32 31)).toInt32 &&& 858993459)
  let c := (b + (b.toUInt32 >>> ((4 : Int32).toUInt32 &&& Int32.toUInt32 31)).toInt32) &&& 252645135
  let d := c + (c.toUInt32 >>> ((8 : Int32).toUInt32 &&& Int32.toUInt32 31)).toInt32
  let e := d + (d.toUInt32 >>> ((16 : Int32).toUInt32 &&& Int32.toUInt32 31)).toInt32
  e &&& 63
set_option maxHeartbeats 1000000 in
theorem s_bitCount {l : Launch} {G : Gm} {I : Nat → Nat → Int32} {J : Nat → Nat → Int64} (x : Int32) : Sp l G iJ6_bitCount_0f7a4 [.int x] (mm I J) (RetI (bc x) (mm I J)) noT := by
  refine Sp.of (by decide +kernel) (Nat.le_of_ble_eq_true rfl) ?_
  intro X hXl C
  subst hXl
  show Go X G 1 0 0 _ 0 [.int x] [] (mm I J)
  refine g_iload_n C dJ6_bitCount_0f7a4_0 rfl ?_
  refine g_iload_n C dJ6_bitCount_0f7a4_1 rfl ?_
  refine g_iconst (v := 1) C dJ6_bitCount_0f7a4_2 (by decide) ?_
  refine g_iushr C dJ6_bitCount_0f7a4_3 ?_
  refine g_ldcw (v := 1431655765) C dJ6_bitCount_0f7a4_4 kwJ6_265 ?_
  refine g_iand C dJ6_bitCount_0f7a4_7 ?_
  refine g_isub C dJ6_bitCount_0f7a4_8 ?_
  refine g_istore_0 C dJ6_bitCount_0f7a4_9 (by decide) ?_
  refine g_iload_n C dJ6_bitCount_0f7a4_10 rfl ?_
  refine g_ldcw (v := 858993459) C dJ6_bitCount_0f7a4_11 kwJ6_266 ?_
  refine g_iand C dJ6_bitCount_0f7a4_14 ?_
  refine g_iload_n C dJ6_bitCount_0f7a4_15 rfl ?_
  refine g_iconst (v := 2) C dJ6_bitCount_0f7a4_16 (by decide) ?_
  refine g_iushr C dJ6_bitCount_0f7a4_17 ?_
  refine g_ldcw (v := 858993459) C dJ6_bitCount_0f7a4_18 kwJ6_266 ?_
  refine g_iand C dJ6_bitCount_0f7a4_21 ?_
  refine g_iadd C dJ6_bitCount_0f7a4_22 ?_
  refine g_istore_0 C dJ6_bitCount_0f7a4_23 (by decide) ?_
  refine g_iload_n C dJ6_bitCount_0f7a4_24 rfl ?_
  refine g_iload_n C dJ6_bitCount_0f7a4_25 rfl ?_
  refine g_iconst (v := 4) C dJ6_bitCount_0f7a4_26 (by decide) ?_
  refine g_iushr C dJ6_bitCount_0f7a4_27 ?_
  refine g_iadd C dJ6_bitCount_0f7a4_28 ?_
  refine g_ldcw (v := 252645135) C dJ6_bitCount_0f7a4_29 kwJ6_267 ?_
  refine g_iand C dJ6_bitCount_0f7a4_32 ?_
  refine g_istore_0 C dJ6_bitCount_0f7a4_33 (by decide) ?_
  refine g_iload_n C dJ6_bitCount_0f7a4_34 rfl ?_
  refine g_iload_n C dJ6_bitCount_0f7a4_35 rfl ?_
  refine g_bipush (v := 8) C dJ6_bitCount_0f7a4_36 (by decide) ?_
  refine g_iushr C dJ6_bitCount_0f7a4_38 ?_
  refine g_iadd C dJ6_bitCount_0f7a4_39 ?_
  refine g_istore_0 C dJ6_bitCount_0f7a4_40 (by decide) ?_
  refine g_iload_n C dJ6_bitCount_0f7a4_41 rfl ?_
  refine g_iload_n C dJ6_bitCount_0f7a4_42 rfl ?_
  refine g_bipush (v := 16) C dJ6_bitCount_0f7a4_43 (by decide) ?_
  refine g_iushr C dJ6_bitCount_0f7a4_45 ?_
  refine g_iadd C dJ6_bitCount_0f7a4_46 ?_
  refine g_istore_0 C dJ6_bitCount_0f7a4_47 (by decide) ?_
  refine g_iload_n C dJ6_bitCount_0f7a4_48 rfl ?_
  refine g_bipush (v := 63) C dJ6_bitCount_0f7a4_49 (by decide) ?_
  refine g_iand C dJ6_bitCount_0f7a4_51 ?_
  exact e_I C dJ6_bitCount_0f7a4_52 rfl rfl rfl rfl rfl
theorem mnW : Cond.code Lib.Math.min.name Lib.Math.min.code 2 (some .int) ∈ GT := GT_at 659 (by decide +kernel) (by decide +kernel)
theorem mnS : Cond.static Lib.Math.min.name ∈ GT := GT_at 658 (by decide +kernel) (by decide +kernel)
theorem mnI : Cond.initialized "java/lang/Math" ∈ GT := GT_at 22 (by decide +kernel) (by decide +kernel)
theorem mnL : Cond.methodLink RX7 72 Lib.Math.min.name ∈ GT := GT_at 657 (by decide +kernel) (by decide +kernel)
theorem g_min {X : CX} {G : Gm} {Y : MI} {nL cells slots : Nat} {Q : State → Prop} {pc : Nat} {L rest : List Value} {M : Mm} {idx : Nat} {x y : Int32} (C : Cx X G Y) (d : decode Y.2.1 pc = .ok (.invokestatic idx, 3)) (ml : Cond.methodLink Y.1.cls idx Lib.Math.min.name ∈ GT) (hR : 1 ≤ Y.2.2.2.2.frames ∧ (rest.map fun v => v.category).sum + 13 ≤ Y.2.2.2.2.locals) (hnL : nL = Y.2.2.1) (hcs : cells ≤ Y.2.2.2.2.cells ∧ slots ≤ Y.2.2.2.2.slots) (kk : Go X G nL cells slots Q (pc + 3) L (.int (if y < x then y else x) :: rest) M) : Go X G nL cells slots Q pc L (.int y :: .int x :: rest) M := fun H locs ls h1 h2 h3 =>
  va_mmin C.1 C.2.1 (by rw [h3.1, hnL]; exact C.2.2.1) C.2.2.2.1 (cx_w C ml) (cx_w C mnS) (cx_w C mnI) (cx_w C mnW) (by rw [C.2.2.2.2.2.2.2.2.2]; exact hR.1) (by rw [C.2.2.2.2.2.2.2.2.2]; exact hR.2) (by rw [C.2.2.2.2.2.2.2.2.2]; exact hcs.1) (by rw [C.2.2.2.2.2.2.2.2.2]; exact hcs.2) d (kk H locs ls h1 h2 h3)
/-- a row's first m places are v -/
def flRow (I : Nat → Nat → Int32) (o m : Nat) (v : Int32) : Nat → Nat → Int32 := fun a b => if a = o ∧ b < m then v else I a b
theorem flRow_succ (I : Nat → Nat → Int32) (o k : Nat) (v : Int32) : up1 (flRow I o k v) o k v = flRow I o (k + 1) v := by
  funext a b
  unfold up1 flRow
  by_cases h : a = o
  · subst h
    by_cases h2 : b = k
    · subst h2; simp
    · by_cases h3 : b < k
      · simp [h2, h3, Nat.lt_succ_of_lt h3]
      · simp [h2, h3, show ¬ b < k + 1 by omega]
  · simp [h]
theorem flRow_0 (I : Nat → Nat → Int32) (o : Nat) (v : Int32) : flRow I o 0 v = I := by
  funext a b; simp [flRow]
set_option maxHeartbeats 1000000 in
theorem s_fill {l : Launch} {G : Gm} {I : Nat → Nat → Int32} {J : Nat → Nat → Int64} {o m : Nat} (hl : lay o = (1, m)) (ho : o < 125) (hm : m < 2 ^ 31) (v : Int32) : Sp l G iJ7_fill_53178 [.ref (G.1 + o), .int v] (mm I J) (RetV (mm (flRow I o m v) J)) noT := by
  refine Sp.of (by decide +kernel) (Nat.le_of_ble_eq_true rfl) ?_
  intro X hXl C
  subst hXl
  show Go X G 4 0 0 _ 0 [.ref (G.1 + o), .int v, uu, uu] [] (mm I J)
  have loop : ∀ k : Nat, k ≤ m → Go X G 4 0 0 (KQ X G iJ7_fill_53178 (RetV (mm (flRow I o m v) J)) noT) 5 [.ref (G.1 + o), .int v, .int (nI k), .int (nI m)] [] (mm (flRow I o k v) J) := by
    refine loopN m ?_ ?_
    · show Go X G 4 0 0 _ 5 _ [] _
      refine g_iload_n C dJ7_fill_53178_5 rfl ?_
      refine g_iload_n C dJ7_fill_53178_6 rfl ?_
      refine g_icmp_ge 20 C dJ7_fill_53178_7 (by decide) (fun c7 => ?_) (fun c7 => ?_)
      · exact e_V C dJ7_fill_53178_20 rfl rfl rfl rfl
      · exact absurd (Int32.le_refl _) c7
    · intro k hk ih
      show Go X G 4 0 0 _ 5 _ [] _
      refine g_iload_n C dJ7_fill_53178_5 rfl ?_
      refine g_iload_n C dJ7_fill_53178_6 rfl ?_
      refine g_icmp_ge 20 C dJ7_fill_53178_7 (by decide) (fun c7 => ?_) (fun c7 => ?_)
      · exact absurd (nI_l' c7 (by omega) (by omega)) (by omega)
      · refine g_aload_n C dJ7_fill_53178_10 rfl ?_
        refine g_iload_n C dJ7_fill_53178_11 rfl ?_
        refine g_iload_n C dJ7_fill_53178_12 rfl ?_
        refine g_iast k C dJ7_fill_53178_13 hl ho hm rfl (by omega) ?_
        refine g_iinc_2 C dJ7_fill_53178_14 (nI_1 k) (by decide) ?_
        refine g_goto 5 C dJ7_fill_53178_17 (by decide) ?_
        rw [flRow_succ]
        exact ih
  refine g_iconst (v := 0) C dJ7_fill_53178_0 (by decide) ?_
  refine g_istore_2 C dJ7_fill_53178_1 (by decide) ?_
  refine g_aload_n C dJ7_fill_53178_2 rfl ?_
  refine g_alen C dJ7_fill_53178_3 hl ho ?_
  refine g_istore_3 C dJ7_fill_53178_4 (by decide) ?_
  have h0 := loop 0 (Nat.zero_le _)
  rw [flRow_0] at h0
  exact h0
