/-! ## the model's constructor -/
set_option maxHeartbeats 8000000 in
theorem s_iX10 {l : Launch} {G : Gm} {I : Nat → Nat → Int32} {J : Nat → Nat → Int64} {S : List (Nat × Nat)} (hB : Bk I J S 104) : Sp l G iX10_init [.ref (G.1 + 103)] (I, J, rr S, 104) (RetV (up1 I 103 2 (-1), J, rr ([(103, 33), (103, 32), (103, 31), (103, 29), (103, 28), (103, 27), (103, 26), (103, 25), (103, 24), (103, 23), (103, 14), (103, 13), (103, 12), (103, 11), (103, 10), (103, 9), (103, 8), (103, 7), (103, 6), (103, 5)] ++ S), 124)) noT := by
  refine Sp.of (by decide +kernel) (Nat.le_of_ble_eq_true rfl) ?_
  intro X hXl C
  subst hXl
  show Go X G 1 0 0 _ 0 [.ref (G.1 + 103)] [] (I, J, rr S, 104)
  refine g_aload_n C dX10_init_0 rfl ?_
  refine g_obj0 C dX10_init_1 mwX10_3 oi_i oi_c rfl ⟨by decide, by decide⟩ (Nat.le_of_ble_eq_true rfl) ?_
  refine g_aload_n C dX10_init_4 rfl ?_
  refine g_iconst (v := (-1)) C dX10_init_5 (by decide) ?_
  refine g_putI (ci := 10) (k := 2) .int C dX10_init_6 rfl inGX10 tyX10_ok nmX10 (by decide) fwX10_9 (by decide +kernel) (by decide) rfl rfl rfl rfl rfl ?_
  refine g_aload_n C dX10_init_9 rfl ?_
  refine g_bipush (v := 10) C dX10_init_10 (by decide) ?_
  refine g_newI (m := 10) C dX10_init_12 rfl (by decide) (by decide) (by decide +kernel) (fun k => (up1_ne (by decide)).trans (hB.1 _ (by decide) k)) ⟨by decide, by decide⟩ ?_
  refine g_putRF (ci := 10) (k := 5) (q := 104) C dX10_init_14 rfl inGX10 tyX10_ok nmX10 (by decide) fwX10_13 (by decide +kernel) (by decide) rfl rfl rfl rfl rfl (fun _ => rfl) (fun _ => rfl) rfl ?_
  refine g_aload_n C dX10_init_17 rfl ?_
  refine g_bipush (v := 11) C dX10_init_18 (by decide) ?_
  refine g_newI (m := 11) C dX10_init_20 rfl (by decide) (by decide) (by decide +kernel) (fun k => (up1_ne (by decide)).trans (hB.1 _ (by decide) k)) ⟨by decide, by decide⟩ ?_
  refine g_putRF (ci := 10) (k := 6) (q := 105) C dX10_init_22 rfl inGX10 tyX10_ok nmX10 (by decide) fwX10_17 (by decide +kernel) (by decide) rfl rfl rfl rfl rfl (fun _ => rfl) (fun _ => rfl) rfl ?_
  refine g_aload_n C dX10_init_25 rfl ?_
  refine g_bipush (v := 16) C dX10_init_26 (by decide) ?_
  refine g_newI (m := 16) C dX10_init_28 rfl (by decide) (by decide) (by decide +kernel) (fun k => (up1_ne (by decide)).trans (hB.1 _ (by decide) k)) ⟨by decide, by decide⟩ ?_
  refine g_putRF (ci := 10) (k := 7) (q := 106) C dX10_init_30 rfl inGX10 tyX10_ok nmX10 (by decide) fwX10_20 (by decide +kernel) (by decide) rfl rfl rfl rfl rfl (fun _ => rfl) (fun _ => rfl) rfl ?_
  refine g_aload_n C dX10_init_33 rfl ?_
  refine g_sipush (v := 132) C dX10_init_34 (by decide) ?_
  refine g_newI (m := 132) C dX10_init_37 rfl (by decide) (by decide) (by decide +kernel) (fun k => (up1_ne (by decide)).trans (hB.1 _ (by decide) k)) ⟨by decide, by decide⟩ ?_
  refine g_putRF (ci := 10) (k := 8) (q := 107) C dX10_init_39 rfl inGX10 tyX10_ok nmX10 (by decide) fwX10_23 (by decide +kernel) (by decide) rfl rfl rfl rfl rfl (fun _ => rfl) (fun _ => rfl) rfl ?_
  refine g_aload_n C dX10_init_42 rfl ?_
  refine g_sipush (v := 132) C dX10_init_43 (by decide) ?_
  refine g_newI (m := 132) C dX10_init_46 rfl (by decide) (by decide) (by decide +kernel) (fun k => (up1_ne (by decide)).trans (hB.1 _ (by decide) k)) ⟨by decide, by decide⟩ ?_
  refine g_putRF (ci := 10) (k := 9) (q := 108) C dX10_init_48 rfl inGX10 tyX10_ok nmX10 (by decide) fwX10_26 (by decide +kernel) (by decide) rfl rfl rfl rfl rfl (fun _ => rfl) (fun _ => rfl) rfl ?_
  refine g_aload_n C dX10_init_51 rfl ?_
  refine g_sipush (v := 132) C dX10_init_52 (by decide) ?_
  refine g_newI (m := 132) C dX10_init_55 rfl (by decide) (by decide) (by decide +kernel) (fun k => (up1_ne (by decide)).trans (hB.1 _ (by decide) k)) ⟨by decide, by decide⟩ ?_
  refine g_putRF (ci := 10) (k := 10) (q := 109) C dX10_init_57 rfl inGX10 tyX10_ok nmX10 (by decide) fwX10_29 (by decide +kernel) (by decide) rfl rfl rfl rfl rfl (fun _ => rfl) (fun _ => rfl) rfl ?_
  refine g_aload_n C dX10_init_60 rfl ?_
  refine g_sipush (v := 132) C dX10_init_61 (by decide) ?_
  refine g_newI (m := 132) C dX10_init_64 rfl (by decide) (by decide) (by decide +kernel) (fun k => (up1_ne (by decide)).trans (hB.1 _ (by decide) k)) ⟨by decide, by decide⟩ ?_
  refine g_putRF (ci := 10) (k := 11) (q := 110) C dX10_init_66 rfl inGX10 tyX10_ok nmX10 (by decide) fwX10_32 (by decide +kernel) (by decide) rfl rfl rfl rfl rfl (fun _ => rfl) (fun _ => rfl) rfl ?_
  refine g_aload_n C dX10_init_69 rfl ?_
  refine g_sipush (v := 528) C dX10_init_70 (by decide) ?_
  refine g_newI (m := 528) C dX10_init_73 rfl (by decide) (by decide) (by decide +kernel) (fun k => (up1_ne (by decide)).trans (hB.1 _ (by decide) k)) ⟨by decide, by decide⟩ ?_
  refine g_putRF (ci := 10) (k := 12) (q := 111) C dX10_init_75 rfl inGX10 tyX10_ok nmX10 (by decide) fwX10_35 (by decide +kernel) (by decide) rfl rfl rfl rfl rfl (fun _ => rfl) (fun _ => rfl) rfl ?_
  refine g_aload_n C dX10_init_78 rfl ?_
  refine g_stop C (fun k => (up1_ne (by decide)).trans (hB.1 _ (by decide) k)) rfl (Nat.le_of_ble_eq_true rfl) ⟨by decide, by decide⟩ ?_
  refine g_putRF (ci := 10) (k := 13) (q := 112) C dX10_init_86 rfl inGX10 tyX10_ok nmX10 (by decide) fwX10_41 (by decide +kernel) (by decide) rfl rfl rfl rfl rfl (fun _ => rfl) (fun _ => rfl) rfl ?_
  refine g_aload_n C dX10_init_89 rfl ?_
  refine g_sipush (v := 300) C dX10_init_90 (by decide) ?_
  refine g_newB (m := 300) C dX10_init_93 rfl (by decide) (by decide) (by decide +kernel) (fun k => (up1_ne (by decide)).trans (hB.1 _ (by decide) k)) ⟨by decide, by decide⟩ ?_
  refine g_putRF (ci := 10) (k := 14) (q := 113) C dX10_init_95 rfl inGX10 tyX10_ok nmX10 (by decide) fwX10_45 (by decide +kernel) (by decide) rfl rfl rfl rfl rfl (fun _ => rfl) (fun _ => rfl) rfl ?_
  refine g_aload_n C dX10_init_98 rfl ?_
  refine g_bipush (v := 80) C dX10_init_99 (by decide) ?_
  refine g_newI (m := 80) C dX10_init_101 rfl (by decide) (by decide) (by decide +kernel) (fun k => (up1_ne (by decide)).trans (hB.1 _ (by decide) k)) ⟨by decide, by decide⟩ ?_
  refine g_putRF (ci := 10) (k := 23) (q := 114) C dX10_init_103 rfl inGX10 tyX10_ok nmX10 (by decide) fwX10_49 (by decide +kernel) (by decide) rfl rfl rfl rfl rfl (fun _ => rfl) (fun _ => rfl) rfl ?_
  refine g_aload_n C dX10_init_106 rfl ?_
  refine g_bipush (v := 80) C dX10_init_107 (by decide) ?_
  refine g_newI (m := 80) C dX10_init_109 rfl (by decide) (by decide) (by decide +kernel) (fun k => (up1_ne (by decide)).trans (hB.1 _ (by decide) k)) ⟨by decide, by decide⟩ ?_
  refine g_putRF (ci := 10) (k := 24) (q := 115) C dX10_init_111 rfl inGX10 tyX10_ok nmX10 (by decide) fwX10_52 (by decide +kernel) (by decide) rfl rfl rfl rfl rfl (fun _ => rfl) (fun _ => rfl) rfl ?_
  refine g_aload_n C dX10_init_114 rfl ?_
  refine g_bipush (v := 10) C dX10_init_115 (by decide) ?_
  refine g_newI (m := 10) C dX10_init_117 rfl (by decide) (by decide) (by decide +kernel) (fun k => (up1_ne (by decide)).trans (hB.1 _ (by decide) k)) ⟨by decide, by decide⟩ ?_
  refine g_putRF (ci := 10) (k := 25) (q := 116) C dX10_init_119 rfl inGX10 tyX10_ok nmX10 (by decide) fwX10_55 (by decide +kernel) (by decide) rfl rfl rfl rfl rfl (fun _ => rfl) (fun _ => rfl) rfl ?_
  refine g_aload_n C dX10_init_122 rfl ?_
  refine g_bipush (v := 16) C dX10_init_123 (by decide) ?_
  refine g_newI (m := 16) C dX10_init_125 rfl (by decide) (by decide) (by decide +kernel) (fun k => (up1_ne (by decide)).trans (hB.1 _ (by decide) k)) ⟨by decide, by decide⟩ ?_
  refine g_putRF (ci := 10) (k := 26) (q := 117) C dX10_init_127 rfl inGX10 tyX10_ok nmX10 (by decide) fwX10_58 (by decide +kernel) (by decide) rfl rfl rfl rfl rfl (fun _ => rfl) (fun _ => rfl) rfl ?_
  refine g_aload_n C dX10_init_130 rfl ?_
  refine g_bipush (v := 10) C dX10_init_131 (by decide) ?_
  refine g_newZ (m := 10) C dX10_init_133 rfl (by decide) (by decide) (by decide +kernel) (fun k => (up1_ne (by decide)).trans (hB.1 _ (by decide) k)) ⟨by decide, by decide⟩ ?_
  refine g_putRF (ci := 10) (k := 27) (q := 118) C dX10_init_135 rfl inGX10 tyX10_ok nmX10 (by decide) fwX10_61 (by decide +kernel) (by decide) rfl rfl rfl rfl rfl (fun _ => rfl) (fun _ => rfl) rfl ?_
  refine g_aload_n C dX10_init_138 rfl ?_
  refine g_bipush (v := 91) C dX10_init_139 (by decide) ?_
  refine g_newI (m := 91) C dX10_init_141 rfl (by decide) (by decide) (by decide +kernel) (fun k => (up1_ne (by decide)).trans (hB.1 _ (by decide) k)) ⟨by decide, by decide⟩ ?_
  refine g_putRF (ci := 10) (k := 28) (q := 119) C dX10_init_143 rfl inGX10 tyX10_ok nmX10 (by decide) fwX10_65 (by decide +kernel) (by decide) rfl rfl rfl rfl rfl (fun _ => rfl) (fun _ => rfl) rfl ?_
  refine g_aload_n C dX10_init_146 rfl ?_
  refine g_bipush (v := 92) C dX10_init_147 (by decide) ?_
  refine g_newI (m := 92) C dX10_init_149 rfl (by decide) (by decide) (by decide +kernel) (fun k => (up1_ne (by decide)).trans (hB.1 _ (by decide) k)) ⟨by decide, by decide⟩ ?_
  refine g_putRF (ci := 10) (k := 29) (q := 120) C dX10_init_151 rfl inGX10 tyX10_ok nmX10 (by decide) fwX10_68 (by decide +kernel) (by decide) rfl rfl rfl rfl rfl (fun _ => rfl) (fun _ => rfl) rfl ?_
  refine g_aload_n C dX10_init_154 rfl ?_
  refine g_bipush (v := 10) C dX10_init_155 (by decide) ?_
  refine g_newI (m := 10) C dX10_init_157 rfl (by decide) (by decide) (by decide +kernel) (fun k => (up1_ne (by decide)).trans (hB.1 _ (by decide) k)) ⟨by decide, by decide⟩ ?_
  refine g_putRF (ci := 10) (k := 31) (q := 121) C dX10_init_159 rfl inGX10 tyX10_ok nmX10 (by decide) fwX10_71 (by decide +kernel) (by decide) rfl rfl rfl rfl rfl (fun _ => rfl) (fun _ => rfl) rfl ?_
  refine g_aload_n C dX10_init_162 rfl ?_
  refine g_bipush (v := 10) C dX10_init_163 (by decide) ?_
  refine g_newI (m := 10) C dX10_init_165 rfl (by decide) (by decide) (by decide +kernel) (fun k => (up1_ne (by decide)).trans (hB.1 _ (by decide) k)) ⟨by decide, by decide⟩ ?_
  refine g_putRF (ci := 10) (k := 32) (q := 122) C dX10_init_167 rfl inGX10 tyX10_ok nmX10 (by decide) fwX10_74 (by decide +kernel) (by decide) rfl rfl rfl rfl rfl (fun _ => rfl) (fun _ => rfl) rfl ?_
  refine g_aload_n C dX10_init_170 rfl ?_
  refine g_bipush (v := 16) C dX10_init_171 (by decide) ?_
  refine g_newI (m := 16) C dX10_init_173 rfl (by decide) (by decide) (by decide +kernel) (fun k => (up1_ne (by decide)).trans (hB.1 _ (by decide) k)) ⟨by decide, by decide⟩ ?_
  refine g_putRF (ci := 10) (k := 33) (q := 123) C dX10_init_175 rfl inGX10 tyX10_ok nmX10 (by decide) fwX10_77 (by decide +kernel) (by decide) rfl rfl rfl rfl rfl (fun _ => rfl) (fun _ => rfl) rfl ?_
  exact g_vret C dX10_init_178 rfl rfl rfl ⟨rfl, rfl⟩
def SM : List (Nat × Nat) := [(103, 33), (103, 32), (103, 31), (103, 29), (103, 28), (103, 27), (103, 26), (103, 25), (103, 24), (103, 23), (103, 14), (103, 13), (103, 12), (103, 11), (103, 10), (103, 9), (103, 8), (103, 7), (103, 6), (103, 5)] ++ SF
/-! ## the finished system -/
theorem SM_allB : ((List.range 125).all fun o => (List.range 35).all fun k => !(decide ((lay o).1 = 0) && decide ((kF (lay o).2)[k]? = some 1)) || SM.contains (o, k)) = true := by decide +kernel
theorem SM_all : ∀ o, o < 125 → ∀ k, k < 35 → ((lay o).1 = 0 ∧ (kF (lay o).2)[k]? = some 1 → (o, k) ∈ SM) := by
  intro o ho k hk h
  have h1 := List.all_eq_true.mp (List.all_eq_true.mp SM_allB o (List.mem_range.mpr ho)) k (List.mem_range.mpr hk)
  rw [Bool.or_eq_true] at h1
  rcases h1 with q | q
  · simp [h.1, h.2] at q
  · exact List.contains_iff_mem.mp q
theorem SM_5B : ((List.range 125).all fun o => (List.range 10).all fun k => !(decide ((lay o).1 = 5) || decide ((lay o).1 = 6)) || SM.contains (o, k)) = true := by decide +kernel
theorem SM_5 : ∀ o, o < 125 → ∀ k, k < 10 → ((lay o).1 = 5 ∨ (lay o).1 = 6 → (o, k) ∈ SM) := by
  intro o ho k hk h
  have h1 := List.all_eq_true.mp (List.all_eq_true.mp SM_5B o (List.mem_range.mpr ho)) k (List.mem_range.mpr hk)
  rw [Bool.or_eq_true] at h1
  rcases h1 with q | q
  · rcases h with h | h <;> simp [h] at q
  · exact List.contains_iff_mem.mp q
theorem lay_k : ∀ o, o < 125 → (lay o).1 ≤ 6 ∧ ((lay o).1 = 5 → o = 5) ∧ ((lay o).1 = 6 → o = 81) ∧ ((lay o).1 = 0 → (kF (lay o).2).length ≤ 35) := by decide +kernel
theorem rr_5 {k : Nat} (hk : ¬ k < 10) : rf0 5 k = none ∧ rf0 81 k = none := by
  refine ⟨?_, ?_⟩
  · show (if k < 10 then some (6 + 6 * k) else none) = none
    rw [if_neg hk]
  · show (if k < 10 then some (82 + k) else none) = none
    rw [if_neg hk]
theorem rr_le (S : List (Nat × Nat)) (o k : Nat) (h : rf0 o k = none) : rr S o k = none := by
  unfold rr; split
  · exact h
  · rfl
theorem cEl_fin {G : Gm} {I : Nat → Nat → Int32} {J : Nat → Nat → Int64} {o : Nat} (ho : o < 125) : cEl G (I, J, rr SM, 125) o (lay o) = cEl G (I, J, rf0, 125) o (lay o) := by
  obtain ⟨h6, h5, h61, h35⟩ := lay_k o ho
  have hA := SM_all o ho
  have hB := SM_5 o ho
  generalize hl : lay o = ly at *
  obtain ⟨a, b⟩ := ly
  dsimp only at *
  have : a = 0 ∨ a = 1 ∨ a = 2 ∨ a = 3 ∨ a = 4 ∨ a = 5 ∨ a = 6 := by omega
  rcases this with rfl | rfl | rfl | rfl | rfl | rfl | rfl
  · show Sum.inr (b, fvs G.1 (I, J, rr SM, 125) o b) = Sum.inr (b, fvs G.1 (I, J, rf0, 125) o b)
    congr 2
    unfold fvs
    apply List.map_congr_left
    intro k hk
    have hk2 : k < (kF b).length := List.mem_range.mp hk
    have hk35 := h35 rfl
    by_cases h1 : (kF b)[k]? = some 1
    · have := hA k (by omega) ⟨rfl, h1⟩
      unfold fvl
      rw [show (I, J, rr SM, 125).2.2.1 o k = rf0 o k from rr_in this]
    · have hd : (kF b).getD k 0 ≠ 1 := by
        intro q
        rw [List.getD_eq_getElem?_getD, List.getElem?_eq_getElem hk2] at q
        exact h1 (by rw [List.getElem?_eq_getElem hk2]; exact congrArg some q)
      unfold fvl
      generalize (kF b).getD k 0 = t at hd
      match t, hd with
      | 0, _ => rfl
      | 1, q => exact absurd rfl q
      | t + 2, _ => rfl
  · rfl
  · rfl
  · rfl
  · rfl
  · have e := h5 rfl
    subst e
    refine congrArg (fun f => Sum.inl (G.2.2.1 5, b, Sum.inr (Sum.inr (Sum.inr (Sum.inr f))))) (funext fun k => ?_)
    by_cases hk : k < 10
    · rw [show (I, J, rr SM, 125).2.2.1 5 k = rf0 5 k from rr_in (hB k hk (Or.inl rfl))]
    · rw [show (I, J, rr SM, 125).2.2.1 5 k = none from rr_le _ _ _ (rr_5 hk).1, show (I, J, rf0, 125).2.2.1 5 k = none from (rr_5 hk).1]
  · have e := h61 rfl
    subst e
    refine congrArg (fun f => Sum.inl (G.2.2.1 6, b, Sum.inr (Sum.inr (Sum.inr (Sum.inr f))))) (funext fun k => ?_)
    by_cases hk : k < 10
    · rw [show (I, J, rr SM, 125).2.2.1 81 k = rf0 81 k from rr_in (hB k hk (Or.inr rfl))]
    · rw [show (I, J, rr SM, 125).2.2.1 81 k = none from rr_le _ _ _ (rr_5 hk).2, show (I, J, rf0, 125).2.2.1 81 k = none from (rr_5 hk).2]
theorem Rp_fin {G : Gm} {I : Nat → Nat → Int32} {J : Nat → Nat → Int64} {H : Heap} (h : Rp G (I, J, rr SM, 125) H) : Rp G (mm I J) H := by
  obtain ⟨h1, h2, h3, h4⟩ := h
  refine ⟨fun i x hx => ?_, h2, h3, h4⟩
  have hi : i < 125 := by have := (List.getElem?_eq_some_iff.mp hx).1; rwa [wsM_len] at this
  rw [wsM_get (M := mm I J) hi] at hx
  cases hx
  have := h1 i _ (wsM_get (M := (I, J, rr SM, 125)) hi)
  rw [cEl_fin hi] at this
  exact this
/-! ## where it begins -/
def I0 : Nat → Nat → Int32 := up1 (up1 (up1 Z32 0 7 0) 0 8 1) 103 2 (-1)
theorem I0_z {a b : Nat} (h : ¬ (a = 103 ∧ b = 2)) (h2 : ¬ (a = 0 ∧ b = 8)) : I0 a b = 0 := by
  unfold I0
  simp [up1, h, h2]
theorem Inv0 : InvE I0 := by
  have hz : ∀ a b, ¬ (a = 103 ∧ b = 2) → ¬ (a = 0 ∧ b = 8) → I0 a b = 0 := fun a b h h2 => I0_z h h2
  have hr : ∀ a, a ≠ 103 → a ≠ 0 → ∀ b, I0 a b = 0 := fun a h1 h2 b => hz a b (fun q => h1 q.1) (fun q => h2 q.1)
  let P0 : Pln := (fun _ => 0, fun _ _ => (0, 0, 0, 0, fun _ => 0))
  have hok : P0.ok 0 := ⟨by decide, fun _ => Nat.zero_le _, fun p hp => absurd hp (by omega)⟩
  refine ⟨0, P0, fun _ => 0, 0, 0, 0, ⟨⟨hok, fun _ _ => rfl, hr 3 (by decide) (by decide) 2, fun p hp => hr _ (by omega) (by omega) 5, fun p hp => absurd hp (by omega)⟩, fun j hj => ⟨hr 2 (by decide) (by decide) j, show 0 < 256 by decide⟩, hr 1 (by decide) (by decide) 1, by decide, fun q => absurd q (by decide), fun p hp => ?_, ⟨hr 95 (by decide) (by decide) 4, by decide⟩, ⟨hr 98 (by decide) (by decide) 8, by decide⟩⟩, ⟨⟨hok, hz 103 4 (by decide) (by decide), fun p hp => absurd hp (by omega), fun p hp => absurd hp (by omega)⟩, fun j hj => ⟨?_, show 0 < 256 by decide⟩, hz 103 15 (by decide) (by decide), hz 103 30 (by decide) (by decide), hz 103 34 (by decide) (by decide)⟩, fun p hp => ?_, ⟨fun d hd => ?_, fun s hs => ?_, fun s hs d hd => ?_⟩, ?_, ?_, ?_, fun p hp => absurd hp (by omega), fun i hi => absurd hi (by omega), fun i hi => absurd hi (by omega)⟩
  · rw [hr 4 (by decide) (by decide) p]; exact W16_0
  · rw [hr 113 (by decide) (by decide) j]
    exact (by decide : (0 : Int32) &&& 255 = nI 0)
  · rw [hr 4 (by decide) (by decide) p, hr 104 (by decide) (by decide) p]
  · rw [hr 93 (by decide) (by decide) d]; exact W16_0
  · rw [hr 106 (by decide) (by decide) s]; exact W16_0
  · rw [hr 93 (by decide) (by decide) d, hr 106 (by decide) (by decide) s]; exact ⟨fun q => absurd q B_0, fun q => absurd q B_0⟩
  · decide
  · decide
  · decide
