def hb (x y : Int32) : Int32 := if (x >>> (y &&& 31)) &&& 1 = 1 then 1 else 0
set_option maxHeartbeats 1000000 in
theorem s_hasBit {l : Launch} {G : Gm} {I : Nat → Nat → Int32} {J : Nat → Nat → Int64} (x y : Int32) : Sp l G iX8_hasBit [.int x, .int y] (mm I J) (RetI (hb x y) (mm I J)) noT := by
  refine Sp.of (by decide +kernel) (Nat.le_of_ble_eq_true rfl) ?_
  intro X hXl C
  subst hXl
  show Go X G 2 0 0 _ 0 [.int x, .int y] [] (mm I J)
  refine g_iload_n C dX8_hasBit_0 rfl ?_
  refine g_iload_n C dX8_hasBit_1 rfl ?_
  refine g_ishr C dX8_hasBit_2 ?_
  refine g_iconst (v := 1) C dX8_hasBit_3 (by decide) ?_
  refine g_iand C dX8_hasBit_4 ?_
  refine g_iconst (v := 1) C dX8_hasBit_5 (by decide) ?_
  refine g_icmp_ne 13 C dX8_hasBit_6 (by decide) (fun c6 => ?_) (fun c6 => ?_)
  · refine g_iconst (v := 0) C dX8_hasBit_13 (by decide) ?_
    exact e_Z C dX8_hasBit_14 rfl rfl rfl (by first | exact Or.inl rfl | exact Or.inr rfl) (by unfold hb; split <;> simp_all) rfl
  · refine g_iconst (v := 1) C dX8_hasBit_9 (by decide) ?_
    refine g_goto 14 C dX8_hasBit_10 (by decide) ?_
    exact e_Z C dX8_hasBit_14 rfl rfl rfl (by first | exact Or.inl rfl | exact Or.inr rfl) (by unfold hb; split <;> simp_all) rfl
set_option maxHeartbeats 1000000 in
theorem s_spot {l : Launch} {G : Gm} {I : Nat → Nat → Int32} {J : Nat → Nat → Int64} (x y : Int32) : Sp l G iX8_spot [.int x, .int y] (mm I J) (RetI (x * 25 + y) (mm I J)) noT := by
  refine Sp.of (by decide +kernel) (Nat.le_of_ble_eq_true rfl) ?_
  intro X hXl C
  subst hXl
  show Go X G 2 0 0 _ 0 [.int x, .int y] [] (mm I J)
  refine g_iload_n C dX8_spot_0 rfl ?_
  refine g_bipush (v := 25) C dX8_spot_1 (by decide) ?_
  refine g_imul C dX8_spot_3 ?_
  refine g_iload_n C dX8_spot_4 rfl ?_
  refine g_iadd C dX8_spot_5 ?_
  exact e_I C dX8_spot_6 rfl rfl rfl rfl rfl
set_option maxHeartbeats 1000000 in
theorem s_uses {l : Launch} {G : Gm} {I : Nat → Nat → Int32} {J : Nat → Nat → Int64} {p : Nat} (hp : p < 10) : Sp l G iX1_uses [.ref (G.1 + 73), .int (nI p)] (mm I J) (RetI (I 75 p ||| I 76 p) (mm I J)) noT := by
  refine Sp.of (by decide +kernel) (Nat.le_of_ble_eq_true rfl) ?_
  intro X hXl C
  subst hXl
  show Go X G 2 0 0 _ 0 [.ref (G.1 + 73), .int (nI p)] [] (mm I J)
  refine g_aload_n C dX1_uses_0 rfl ?_
  refine g_getR (ci := 1) (k := 2) (q := 75) C dX1_uses_1 rfl inGX1 (by decide) fwX1_15 ly_73 (by decide) rfl rfl ?_
  refine g_iload_n C dX1_uses_4 rfl ?_
  refine g_iald _ C dX1_uses_5 ly_75 (by decide) (by decide) rfl (by omega) ?_
  refine g_aload_n C dX1_uses_6 rfl ?_
  refine g_getR (ci := 1) (k := 3) (q := 76) C dX1_uses_7 rfl inGX1 (by decide) fwX1_18 ly_73 (by decide) rfl rfl ?_
  refine g_iload_n C dX1_uses_10 rfl ?_
  refine g_iald _ C dX1_uses_11 ly_76 (by decide) (by decide) rfl (by omega) ?_
  refine g_ior C dX1_uses_12 ?_
  exact e_I C dX1_uses_13 rfl rfl rfl rfl rfl
set_option maxHeartbeats 1000000 in
theorem s_planHas {l : Launch} {G : Gm} {I : Nat → Nat → Int32} {J : Nat → Nat → Int64} (x : Int32) : Sp l G iX2_has [.ref (G.1 + 3), .int x] (mm I J) (RetI (if 0 ≤ x ∧ x < I 3 2 then 1 else 0) (mm I J)) noT := by
  refine Sp.of (by decide +kernel) (Nat.le_of_ble_eq_true rfl) ?_
  intro X hXl C
  subst hXl
  show Go X G 2 0 0 _ 0 [.ref (G.1 + 3), .int x] [] (mm I J)
  refine g_iload_n C dX2_has_0 rfl ?_
  refine g_if_lt 16 C dX2_has_1 (by decide) (fun c1 => ?_) (fun c1 => ?_)
  · refine g_iconst (v := 0) C dX2_has_16 (by decide) ?_
    exact e_Z C dX2_has_17 rfl rfl rfl (by first | exact Or.inl rfl | exact Or.inr rfl) rfl rfl
  · refine g_iload_n C dX2_has_4 rfl ?_
    refine g_aload_n C dX2_has_5 rfl ?_
    refine g_getI (ci := 2) (k := 2) C dX2_has_6 rfl inGX2 (by decide) fwX2_22 ly_3 (by decide) rfl ?_
    refine g_icmp_ge 16 C dX2_has_9 (by decide) (fun c9 => ?_) (fun c9 => ?_)
    · refine g_iconst (v := 0) C dX2_has_16 (by decide) ?_
      exact e_Z C dX2_has_17 rfl rfl rfl (by first | exact Or.inl rfl | exact Or.inr rfl) rfl rfl
    · refine g_iconst (v := 1) C dX2_has_12 (by decide) ?_
      refine g_goto 17 C dX2_has_13 (by decide) ?_
      exact e_Z C dX2_has_17 rfl rfl rfl (by first | exact Or.inl rfl | exact Or.inr rfl) rfl rfl
