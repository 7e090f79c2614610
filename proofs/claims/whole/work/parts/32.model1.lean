/-! ## the model: what is small -/
def clr (_ : Nat) (k : Int32) : Int32 := k &&& (k - 1)
def bts : Nat → Int32 → Int32 → Int32
  | 0, _, n => n
  | f + 1, k, n => if k = 0 then n else bts f (k &&& (k - 1)) (n + 1)
def T0 (I : Nat → Nat → Int32) : Nat → Nat → Int32 := up1 I 103 0 0
def tr (I : Nat → Nat → Int32) (x : Int32) : Nat → Nat → Int32 := up1 (up1 I 103 1 x) 103 2 (-1)
theorem T0_off {I : Nat → Nat → Int32} {o : Nat} (h : o ≠ 103) : T0 I o = I o := up1_off h
theorem T0_103 {I : Nat → Nat → Int32} {k : Nat} (h : k ≠ 0) : T0 I 103 k = I 103 k := by simp [T0, up1, h]
theorem tr_off {I : Nat → Nat → Int32} {x : Int32} {o : Nat} (h : o ≠ 103) : tr I x o = I o := by unfold tr; rw [up1_off h, up1_off h]
theorem tr_103 {I : Nat → Nat → Int32} {x : Int32} {k : Nat} (h : k ≠ 1) (h2 : k ≠ 2) : tr I x 103 k = I 103 k := by simp [tr, up1, h, h2]
set_option maxHeartbeats 1000000 in
theorem s_mthrown {l : Launch} {G : Gm} {I : Nat → Nat → Int32} {J : Nat → Nat → Int64} : Sp l G iX10_thrown [.ref (G.1 + 103)] (mm I J) (RetI (I 103 0) (mm I J)) noT := by
  refine Sp.of (by decide +kernel) (Nat.le_of_ble_eq_true rfl) ?_
  intro X hXl C
  subst hXl
  show Go X G 1 0 0 _ 0 [.ref (G.1 + 103)] [] (mm I J)
  refine g_aload_n C dX10_thrown_0 rfl ?_
  refine g_getI (ci := 10) (k := 0) C dX10_thrown_1 rfl inGX10 (by decide) fwX10_80 ly_103 (by decide) rfl ?_
  exact e_I C dX10_thrown_4 rfl rfl rfl rfl rfl
set_option maxHeartbeats 1000000 in
theorem s_refused {l : Launch} {G : Gm} {I : Nat → Nat → Int32} {J : Nat → Nat → Int64} (x : Int32) : Sp l G iX10_refused [.ref (G.1 + 103), .int x] (mm I J) (RetI (-1) (mm (tr I x) J)) noT := by
  refine Sp.of (by decide +kernel) (Nat.le_of_ble_eq_true rfl) ?_
  intro X hXl C
  subst hXl
  show Go X G 2 0 0 _ 0 [.ref (G.1 + 103), .int x] [] (mm I J)
  refine g_aload_n C dX10_refused_0 rfl ?_
  refine g_iload_n C dX10_refused_1 rfl ?_
  refine g_putI (ci := 10) (k := 1) .int C dX10_refused_2 rfl inGX10 tyX10_ok nmX10 (by decide) fwX10_83 ly_103 (by decide) rfl rfl rfl rfl rfl ?_
  refine g_aload_n C dX10_refused_5 rfl ?_
  refine g_iconst (v := (-1)) C dX10_refused_6 (by decide) ?_
  refine g_putI (ci := 10) (k := 2) .int C dX10_refused_7 rfl inGX10 tyX10_ok nmX10 (by decide) fwX10_9 ly_103 (by decide) rfl rfl rfl rfl rfl ?_
  refine g_iconst (v := (-1)) C dX10_refused_10 (by decide) ?_
  exact e_I C dX10_refused_11 rfl rfl rfl rfl rfl
set_option maxHeartbeats 1000000 in
theorem s_denied {l : Launch} {G : Gm} {I : Nat → Nat → Int32} {J : Nat → Nat → Int64} (x : Int32) : Sp l G iX10_denied [.ref (G.1 + 103), .int x] (mm I J) (RetI 0 (mm (tr I x) J)) noT := by
  refine Sp.of (by decide +kernel) (Nat.le_of_ble_eq_true rfl) ?_
  intro X hXl C
  subst hXl
  show Go X G 2 0 0 _ 0 [.ref (G.1 + 103), .int x] [] (mm I J)
  refine g_aload_n C dX10_denied_0 rfl ?_
  refine g_iload_n C dX10_denied_1 rfl ?_
  refine g_putI (ci := 10) (k := 1) .int C dX10_denied_2 rfl inGX10 tyX10_ok nmX10 (by decide) fwX10_83 ly_103 (by decide) rfl rfl rfl rfl rfl ?_
  refine g_aload_n C dX10_denied_5 rfl ?_
  refine g_iconst (v := (-1)) C dX10_denied_6 (by decide) ?_
  refine g_putI (ci := 10) (k := 2) .int C dX10_denied_7 rfl inGX10 tyX10_ok nmX10 (by decide) fwX10_9 ly_103 (by decide) rfl rfl rfl rfl rfl ?_
  refine g_iconst (v := 0) C dX10_denied_10 (by decide) ?_
  exact e_Z C dX10_denied_11 rfl rfl rfl (by first | exact Or.inl rfl | exact Or.inr rfl) rfl rfl
set_option maxHeartbeats 1000000 in
theorem s_done {l : Launch} {G : Gm} {I : Nat → Nat → Int32} {J : Nat → Nat → Int64} (x : Int32) : Sp l G iX10_done [.ref (G.1 + 103), .int x] (mm I J) (RetI x (mm (tr I 0) J)) noT := by
  refine Sp.of (by decide +kernel) (Nat.le_of_ble_eq_true rfl) ?_
  intro X hXl C
  subst hXl
  show Go X G 2 0 0 _ 0 [.ref (G.1 + 103), .int x] [] (mm I J)
  refine g_aload_n C dX10_done_0 rfl ?_
  refine g_iconst (v := 0) C dX10_done_1 (by decide) ?_
  refine g_putI (ci := 10) (k := 1) .int C dX10_done_2 rfl inGX10 tyX10_ok nmX10 (by decide) fwX10_83 ly_103 (by decide) rfl rfl rfl rfl rfl ?_
  refine g_aload_n C dX10_done_5 rfl ?_
  refine g_iconst (v := (-1)) C dX10_done_6 (by decide) ?_
  refine g_putI (ci := 10) (k := 2) .int C dX10_done_7 rfl inGX10 tyX10_ok nmX10 (by decide) fwX10_9 ly_103 (by decide) rfl rfl rfl rfl rfl ?_
  refine g_iload_n C dX10_done_10 rfl ?_
  exact e_I C dX10_done_11 rfl rfl rfl rfl rfl
set_option maxHeartbeats 1000000 in
theorem s_granted {l : Launch} {G : Gm} {I : Nat → Nat → Int32} {J : Nat → Nat → Int64} : Sp l G iX10_granted [.ref (G.1 + 103)] (mm I J) (RetI 1 (mm (tr I 0) J)) noT := by
  refine Sp.of (by decide +kernel) (Nat.le_of_ble_eq_true rfl) ?_
  intro X hXl C
  subst hXl
  show Go X G 1 0 0 _ 0 [.ref (G.1 + 103)] [] (mm I J)
  refine g_aload_n C dX10_granted_0 rfl ?_
  refine g_iconst (v := 0) C dX10_granted_1 (by decide) ?_
  refine g_putI (ci := 10) (k := 1) .int C dX10_granted_2 rfl inGX10 tyX10_ok nmX10 (by decide) fwX10_83 ly_103 (by decide) rfl rfl rfl rfl rfl ?_
  refine g_aload_n C dX10_granted_5 rfl ?_
  refine g_iconst (v := (-1)) C dX10_granted_6 (by decide) ?_
  refine g_putI (ci := 10) (k := 2) .int C dX10_granted_7 rfl inGX10 tyX10_ok nmX10 (by decide) fwX10_9 ly_103 (by decide) rfl rfl rfl rfl rfl ?_
  refine g_iconst (v := 1) C dX10_granted_10 (by decide) ?_
  exact e_Z C dX10_granted_11 rfl rfl rfl (by first | exact Or.inl rfl | exact Or.inr rfl) rfl rfl
set_option maxHeartbeats 1000000 in
theorem s_in {l : Launch} {G : Gm} {I : Nat → Nat → Int32} {J : Nat → Nat → Int64} (x y z : Int32) : Sp l G iX10_in [.int x, .int y, .int z] (mm I J) (RetI (if ¬ x < y ∧ ¬ z < x then 1 else 0) (mm I J)) noT := by
  refine Sp.of (by decide +kernel) (Nat.le_of_ble_eq_true rfl) ?_
  intro X hXl C
  subst hXl
  show Go X G 3 0 0 _ 0 [.int x, .int y, .int z] [] (mm I J)
  refine g_iload_n C dX10_in_0 rfl ?_
  refine g_iload_n C dX10_in_1 rfl ?_
  refine g_icmp_lt 14 C dX10_in_2 (by decide) (fun c2 => ?_) (fun c2 => ?_)
  · refine g_iconst (v := 0) C dX10_in_14 (by decide) ?_
    exact e_Z C dX10_in_15 rfl rfl rfl (by first | exact Or.inl rfl | exact Or.inr rfl) (by simp_all) rfl
  · refine g_iload_n C dX10_in_5 rfl ?_
    refine g_iload_n C dX10_in_6 rfl ?_
    refine g_icmp_gt 14 C dX10_in_7 (by decide) (fun c7 => ?_) (fun c7 => ?_)
    · refine g_iconst (v := 0) C dX10_in_14 (by decide) ?_
      exact e_Z C dX10_in_15 rfl rfl rfl (by first | exact Or.inl rfl | exact Or.inr rfl) (by simp_all) rfl
    · refine g_iconst (v := 1) C dX10_in_10 (by decide) ?_
      refine g_goto 15 C dX10_in_11 (by decide) ?_
      exact e_Z C dX10_in_15 rfl rfl rfl (by first | exact Or.inl rfl | exact Or.inr rfl) (by simp_all) rfl
set_option maxHeartbeats 1000000 in
theorem s_isPart {l : Launch} {G : Gm} {I : Nat → Nat → Int32} {J : Nat → Nat → Int64} (x : Int32) : Sp l G iX10_isPart [.ref (G.1 + 103), .int x] (mm I J) (RetI (if ¬ x < 0 ∧ x < I 103 4 then 1 else 0) (mm I J)) noT := by
  refine Sp.of (by decide +kernel) (Nat.le_of_ble_eq_true rfl) ?_
  intro X hXl C
  subst hXl
  show Go X G 2 0 0 _ 0 [.ref (G.1 + 103), .int x] [] (mm I J)
  refine g_iload_n C dX10_isPart_0 rfl ?_
  refine g_if_lt 16 C dX10_isPart_1 (by decide) (fun c1 => ?_) (fun c1 => ?_)
  · refine g_iconst (v := 0) C dX10_isPart_16 (by decide) ?_
    exact e_Z C dX10_isPart_17 rfl rfl rfl (by first | exact Or.inl rfl | exact Or.inr rfl) (by simp_all) rfl
  · refine g_iload_n C dX10_isPart_4 rfl ?_
    refine g_aload_n C dX10_isPart_5 rfl ?_
    refine g_getI (ci := 10) (k := 4) C dX10_isPart_6 rfl inGX10 (by decide) fwX10_86 ly_103 (by decide) rfl ?_
    refine g_icmp_ge 16 C dX10_isPart_9 (by decide) (fun c9 => ?_) (fun c9 => ?_)
    · refine g_iconst (v := 0) C dX10_isPart_16 (by decide) ?_
      exact e_Z C dX10_isPart_17 rfl rfl rfl (by first | exact Or.inl rfl | exact Or.inr rfl) (by simp_all) rfl
    · refine g_iconst (v := 1) C dX10_isPart_12 (by decide) ?_
      refine g_goto 17 C dX10_isPart_13 (by decide) ?_
      exact e_Z C dX10_isPart_17 rfl rfl rfl (by first | exact Or.inl rfl | exact Or.inr rfl) (by simp_all) rfl
set_option maxHeartbeats 1000000 in
theorem s_misRight {l : Launch} {G : Gm} {I : Nat → Nat → Int32} {J : Nat → Nat → Int64} (x : Int32) : Sp l G iX10_isRight [.int x] (mm I J) (RetI (if ¬ x < 0 ∧ x < 16 then 1 else 0) (mm I J)) noT := by
  refine Sp.of (by decide +kernel) (Nat.le_of_ble_eq_true rfl) ?_
  intro X hXl C
  subst hXl
  show Go X G 1 0 0 _ 0 [.int x] [] (mm I J)
  refine g_iload_n C dX10_isRight_0 rfl ?_
  refine g_if_lt 14 C dX10_isRight_1 (by decide) (fun c1 => ?_) (fun c1 => ?_)
  · refine g_iconst (v := 0) C dX10_isRight_14 (by decide) ?_
    exact e_Z C dX10_isRight_15 rfl rfl rfl (by first | exact Or.inl rfl | exact Or.inr rfl) (by simp_all) rfl
  · refine g_iload_n C dX10_isRight_4 rfl ?_
    refine g_bipush (v := 16) C dX10_isRight_5 (by decide) ?_
    refine g_icmp_ge 14 C dX10_isRight_7 (by decide) (fun c7 => ?_) (fun c7 => ?_)
    · refine g_iconst (v := 0) C dX10_isRight_14 (by decide) ?_
      exact e_Z C dX10_isRight_15 rfl rfl rfl (by first | exact Or.inl rfl | exact Or.inr rfl) (by simp_all) rfl
    · refine g_iconst (v := 1) C dX10_isRight_10 (by decide) ?_
      refine g_goto 15 C dX10_isRight_11 (by decide) ?_
      exact e_Z C dX10_isRight_15 rfl rfl rfl (by first | exact Or.inl rfl | exact Or.inr rfl) (by simp_all) rfl
set_option maxHeartbeats 1000000 in
theorem s_isLetter {l : Launch} {G : Gm} {I : Nat → Nat → Int32} {J : Nat → Nat → Int64} (x : Int32) : Sp l G iX10_isLetter [.int x] (mm I J) (RetI (if ¬ x < 97 ∧ ¬ 122 < x then 1 else 0) (mm I J)) noT := by
  refine Sp.of (by decide +kernel) (Nat.le_of_ble_eq_true rfl) ?_
  intro X hXl C
  subst hXl
  show Go X G 1 0 0 _ 0 [.int x] [] (mm I J)
  refine g_iload_n C dX10_isLetter_0 rfl ?_
  refine g_bipush (v := 97) C dX10_isLetter_1 (by decide) ?_
  refine g_icmp_lt 16 C dX10_isLetter_3 (by decide) (fun c3 => ?_) (fun c3 => ?_)
  · refine g_iconst (v := 0) C dX10_isLetter_16 (by decide) ?_
    exact e_Z C dX10_isLetter_17 rfl rfl rfl (by first | exact Or.inl rfl | exact Or.inr rfl) (by simp_all) rfl
  · refine g_iload_n C dX10_isLetter_6 rfl ?_
    refine g_bipush (v := 122) C dX10_isLetter_7 (by decide) ?_
    refine g_icmp_gt 16 C dX10_isLetter_9 (by decide) (fun c9 => ?_) (fun c9 => ?_)
    · refine g_iconst (v := 0) C dX10_isLetter_16 (by decide) ?_
      exact e_Z C dX10_isLetter_17 rfl rfl rfl (by first | exact Or.inl rfl | exact Or.inr rfl) (by simp_all) rfl
    · refine g_iconst (v := 1) C dX10_isLetter_12 (by decide) ?_
      refine g_goto 17 C dX10_isLetter_13 (by decide) ?_
      exact e_Z C dX10_isLetter_17 rfl rfl rfl (by first | exact Or.inl rfl | exact Or.inr rfl) (by simp_all) rfl
set_option maxHeartbeats 1000000 in
theorem s_isDigit {l : Launch} {G : Gm} {I : Nat → Nat → Int32} {J : Nat → Nat → Int64} (x : Int32) : Sp l G iX10_isDigit [.int x] (mm I J) (RetI (if ¬ x < 48 ∧ ¬ 57 < x then 1 else 0) (mm I J)) noT := by
  refine Sp.of (by decide +kernel) (Nat.le_of_ble_eq_true rfl) ?_
  intro X hXl C
  subst hXl
  show Go X G 1 0 0 _ 0 [.int x] [] (mm I J)
  refine g_iload_n C dX10_isDigit_0 rfl ?_
  refine g_bipush (v := 48) C dX10_isDigit_1 (by decide) ?_
  refine g_icmp_lt 16 C dX10_isDigit_3 (by decide) (fun c3 => ?_) (fun c3 => ?_)
  · refine g_iconst (v := 0) C dX10_isDigit_16 (by decide) ?_
    exact e_Z C dX10_isDigit_17 rfl rfl rfl (by first | exact Or.inl rfl | exact Or.inr rfl) (by simp_all) rfl
  · refine g_iload_n C dX10_isDigit_6 rfl ?_
    refine g_bipush (v := 57) C dX10_isDigit_7 (by decide) ?_
    refine g_icmp_gt 16 C dX10_isDigit_9 (by decide) (fun c9 => ?_) (fun c9 => ?_)
    · refine g_iconst (v := 0) C dX10_isDigit_16 (by decide) ?_
      exact e_Z C dX10_isDigit_17 rfl rfl rfl (by first | exact Or.inl rfl | exact Or.inr rfl) (by simp_all) rfl
    · refine g_iconst (v := 1) C dX10_isDigit_12 (by decide) ?_
      refine g_goto 17 C dX10_isDigit_13 (by decide) ?_
      exact e_Z C dX10_isDigit_17 rfl rfl rfl (by first | exact Or.inl rfl | exact Or.inr rfl) (by simp_all) rfl
set_option maxHeartbeats 1000000 in
theorem s_isAhead {l : Launch} {G : Gm} {I : Nat → Nat → Int32} {J : Nat → Nat → Int64} (x y : Int32) : Sp l G iX10_isAhead [.int x, .int y] (mm I J) (RetI (if ((x ^^^ y) &&& -(x ^^^ y)) &&& x = 0 then 0 else 1) (mm I J)) noT := by
  refine Sp.of (by decide +kernel) (Nat.le_of_ble_eq_true rfl) ?_
  intro X hXl C
  subst hXl
  show Go X G 3 0 0 _ 0 [.int x, .int y, uu] [] (mm I J)
  refine g_iload_n C dX10_isAhead_0 rfl ?_
  refine g_iload_n C dX10_isAhead_1 rfl ?_
  refine g_ixor C dX10_isAhead_2 ?_
  refine g_istore_2 C dX10_isAhead_3 (by decide) ?_
  refine g_iload_n C dX10_isAhead_4 rfl ?_
  refine g_iload_n C dX10_isAhead_5 rfl ?_
  refine g_ineg C dX10_isAhead_6 ?_
  refine g_iand C dX10_isAhead_7 ?_
  refine g_iload_n C dX10_isAhead_8 rfl ?_
  refine g_iand C dX10_isAhead_9 ?_
  refine g_if_eq 17 C dX10_isAhead_10 (by decide) (fun c10 => ?_) (fun c10 => ?_)
  · refine g_iconst (v := 0) C dX10_isAhead_17 (by decide) ?_
    exact e_Z C dX10_isAhead_18 rfl rfl rfl (by first | exact Or.inl rfl | exact Or.inr rfl) (by simp_all) rfl
  · refine g_iconst (v := 1) C dX10_isAhead_13 (by decide) ?_
    refine g_goto 18 C dX10_isAhead_14 (by decide) ?_
    exact e_Z C dX10_isAhead_18 rfl rfl rfl (by first | exact Or.inl rfl | exact Or.inr rfl) (by simp_all) rfl
theorem clr_dvd {i x : Nat} (hx : x < 2 ^ 32) (h : 2 ^ i ∣ x) : 2 ^ (i + 1) ∣ (x &&& (x - 1)) := by
  obtain ⟨m, rfl⟩ := h
  have hp : 0 < 2 ^ i := Nat.two_pow_pos i
  apply Nat.dvd_of_mod_eq_zero
  apply Nat.eq_of_testBit_eq
  intro j
  rw [Nat.testBit_mod_two_pow, Nat.zero_testBit, Nat.testBit_and]
  by_cases hj : j < i + 1
  · by_cases hji : j < i
    · rw [show (2 ^ i * m).testBit j = false by rw [Nat.testBit_two_pow_mul]; simp; omega]; simp
    · have : j = i := by omega
      subst this
      rw [Nat.testBit_two_pow_mul]
      by_cases hm : m % 2 = 1
      · have : (2 ^ j * m - 1).testBit j = false := by
          rw [Nat.testBit_eq_decide_div_mod_eq]
          have e : (2 ^ j * m - 1) / 2 ^ j = m - 1 := by
            rw [Nat.div_eq_iff hp]
            have hm1 : 1 ≤ m := by omega
            have e2 : 2 ^ j * m = (m - 1) * 2 ^ j + 2 ^ j := by
              conv => lhs; rw [show m = (m - 1) + 1 by omega]
              rw [Nat.mul_add, Nat.mul_one, Nat.mul_comm]
            omega
          rw [e]; simp; omega
        rw [this]; simp
      · have : m.testBit 0 = false := by rw [Nat.testBit_zero]; simp; omega
        simp [this]
  · simp [hj]
theorem clr_nat (k : Int32) : (k &&& (k - 1)).toUInt32.toNat = k.toUInt32.toNat &&& (k.toUInt32.toNat - 1) := by
  by_cases h : k.toUInt32.toNat = 0
  · have hk : k = 0 := by
      exact congrArg Int32.ofUInt32 (show k.toUInt32 = 0 by rw [← UInt32.toNat_inj]; exact h)
    subst hk; rfl
  · rw [Int32.toUInt32_and, UInt32.toNat_and, Int32.toUInt32_sub]
    have : (k.toUInt32 - (1 : Int32).toUInt32).toNat = k.toUInt32.toNat - 1 := by
      rw [UInt32.toNat_sub_of_le]
      · rfl
      · rw [UInt32.le_iff_toNat_le]; show 1 ≤ _; omega
    rw [this]
theorem clr_it (x : Int32) : ∀ i, 2 ^ i ∣ (it clr i x).toUInt32.toNat
  | 0 => by simp
  | i + 1 => by
    show 2 ^ (i + 1) ∣ (clr i (it clr i x)).toUInt32.toNat
    unfold clr
    rw [clr_nat]
    exact clr_dvd (UInt32.toNat_lt _) (clr_it x i)
theorem clr_end (x : Int32) : it clr 32 x = 0 := by
  have h := clr_it x 32
  have h2 := UInt32.toNat_lt (it clr 32 x).toUInt32
  exact congrArg Int32.ofUInt32 (show (it clr 32 x).toUInt32 = 0 by rw [← UInt32.toNat_inj]; exact Nat.eq_zero_of_dvd_of_lt h h2)
theorem it_clr (f : Nat) (k : Int32) : it clr (f + 1) k = it clr f (k &&& (k - 1)) := by
  induction f with
  | zero => rfl
  | succ f ih => show clr (f + 1) (it clr (f + 1) k) = clr f (it clr f (k &&& (k - 1))); rw [ih]; rfl
set_option maxHeartbeats 1000000 in
theorem s_mbits {l : Launch} {G : Gm} {I : Nat → Nat → Int32} {J : Nat → Nat → Int64} (x : Int32) : Sp l G iX10_bits [.int x] (mm I J) (RetI (bts 32 x 0) (mm I J)) noT := by
  refine Sp.of (by decide +kernel) (Nat.le_of_ble_eq_true rfl) ?_
  intro X hXl C
  subst hXl
  show Go X G 3 0 0 _ 0 [.int x, uu, uu] [] (mm I J)
  have loop : ∀ (f : Nat) (k n : Int32), it clr f k = 0 → Go X G 3 0 0 (KQ X G iX10_bits (RetI (bts f k n) (mm I J)) noT) 4 [.int x, .int n, .int k] [] (mm I J) := by
    intro f
    induction f with
    | zero =>
      intro k n h
      have h : k = 0 := h
      refine g_iload_n C dX10_bits_4 rfl ?_
      refine g_if_eq 20 C dX10_bits_5 (by decide) (fun c5 => ?_) (fun c5 => ?_)
      · refine g_iload_n C dX10_bits_20 rfl ?_
        exact e_I C dX10_bits_21 rfl rfl rfl rfl rfl
      · exact absurd h c5
    | succ f ih =>
      intro k n hf
      rw [it_clr] at hf
      by_cases h : k = 0
      · rw [bts, if_pos h]
        refine g_iload_n C dX10_bits_4 rfl ?_
        refine g_if_eq 20 C dX10_bits_5 (by decide) (fun c5 => ?_) (fun c5 => ?_)
        · refine g_iload_n C dX10_bits_20 rfl ?_
          exact e_I C dX10_bits_21 rfl rfl rfl rfl rfl
        · exact absurd h c5
      · rw [bts, if_neg h]
        refine g_iload_n C dX10_bits_4 rfl ?_
        refine g_if_eq 20 C dX10_bits_5 (by decide) (fun c5 => ?_) (fun c5 => ?_)
        · exact absurd c5 h
        · refine g_iinc_1 C dX10_bits_8 rfl (by decide) ?_
          refine g_iload_n C dX10_bits_11 rfl ?_
          refine g_iload_n C dX10_bits_12 rfl ?_
          refine g_iconst (v := 1) C dX10_bits_13 (by decide) ?_
          refine g_isub C dX10_bits_14 ?_
          refine g_iand C dX10_bits_15 ?_
          refine g_istore_2 C dX10_bits_16 (by decide) ?_
          refine g_goto 4 C dX10_bits_17 (by decide) ?_
          exact ih _ _ hf
  refine g_iconst (v := 0) C dX10_bits_0 (by decide) ?_
  refine g_istore_1 C dX10_bits_1 (by decide) ?_
  refine g_iload_n C dX10_bits_2 rfl ?_
  refine g_istore_2 C dX10_bits_3 (by decide) ?_
  exact loop 32 x 0 (clr_end x)
