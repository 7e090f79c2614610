theorem clL8 : Cond.classLink RL 8 RX8 ∈ GT := GT_in (by decide +kernel) (by decide +kernel)
theorem inL8 : Cond.instantiable RX8 9 ∈ GT := GT_in (by decide +kernel) (by decide +kernel)
theorem ziL8 : Cond.initialized RX8 ∈ GT := GT_in (by decide +kernel) (by decide +kernel)
theorem clL10 : Cond.classLink RL 16 RX10 ∈ GT := GT_in (by decide +kernel) (by decide +kernel)
theorem inL10 : Cond.instantiable RX10 35 ∈ GT := GT_in (by decide +kernel) (by decide +kernel)
theorem ziL10 : Cond.initialized RX10 ∈ GT := GT_in (by decide +kernel) (by decide +kernel)
theorem miL8 : Cond.methodLink RL 15 yX8_init ∈ GT := GT_in (by decide +kernel) (by decide +kernel)
theorem miL10 : Cond.methodLink RL 18 yX10_init ∈ GT := GT_in (by decide +kernel) (by decide +kernel)
/-! ## the law's beginning -/
theorem SF_lt : ∀ x ∈ SF, x.1 < 103 := by decide +kernel
set_option maxHeartbeats 4000000 in
theorem law_go {X : CX} {G : Gm} {nm : String} {Q : State → Prop} {b L : Nat} {xs : Nat → Int32} (hl : X.l.stackTraces = false) (C : Cx X G (iLaw nm)) (hx : LX b L xs X G) (hL : L ≤ 3072)
    (hend : ∀ (c s : Nat) (Lo : List Value) (M : Mm), c ≤ 601024 → s ≤ 7293034 → Go X G 7 c s Q 1009 Lo [] M) : Go X G 7 0 0 Q 0 [.ref b, uu, uu, uu, uu, uu, uu] [] (Z32, Z64, rr [], 0) := by
  refine g_newO (ci := 8) C dL_law_0 rfl inGX8 tyX8_ok clL8 inL8 ziL8 ly_0 (by decide) (fvs_new (fun _ => rfl) (fun _ => rfl) (fun k => rr_no (fun q => by cases q)) rfl (by decide +kernel)) ⟨show 0 + 1 ≤ 601024 by decide, show 0 + 9 ≤ 7293034 by decide⟩ ?_
  refine g_dup C dL_law_3 rfl ?_
  refine g_callI (b := G.1 + 0) (As := []) (rest := [.ref (G.1 + 0)]) C dL_law_4 nwX8_init.1 nwX8_init.2 rfl rfl miL8 ⟨Nat.le_of_ble_eq_true rfl, Nat.le_of_ble_eq_true rfl⟩ s_iX8 rfl (Nat.le_of_ble_eq_true rfl) rfl ⟨show 0 + 1 + 102 ≤ 601024 by decide, show 0 + 9 + 5740 ≤ 7293034 by decide⟩ _ rfl (fun v M2 hp => ?_)
  obtain ⟨rfl, S, rfl, rfl⟩ := hp
  refine g_astore_1 C dL_law_7 (show 1 < 7 by decide) ?_
  have hz : ∀ a, 1 ≤ a → ∀ k, up1 (up1 Z32 0 7 0) 0 8 1 a k = 0 := fun a ha k => by rw [up1_ne (by omega), up1_ne (by omega)]
  refine g_newO (ci := 10) C dL_law_8 rfl inGX10 tyX10_ok clL10 inL10 ziL10 ly_103 (by decide) (fvs_new (fun k => hz 103 (by decide) k) (fun _ => rfl) (fun k => rr_new SF_lt (Nat.le_refl _) k) rfl (by decide +kernel)) ⟨show 0 + 1 + 102 + 1 ≤ 601024 by decide, show 0 + 9 + 5740 + 35 ≤ 7293034 by decide⟩ ?_
  refine g_dup C dL_law_11 rfl ?_
  refine g_callI (b := G.1 + 103) (As := []) (rest := [.ref (G.1 + 103)]) C dL_law_12 nwX10_init.1 nwX10_init.2 rfl rfl miL10 ⟨Nat.le_of_ble_eq_true rfl, Nat.le_of_ble_eq_true rfl⟩ (s_iX10 ⟨fun a ha k => hz a (by omega) k, fun _ _ _ => rfl, fun x hx => Nat.lt_succ_of_lt (SF_lt x hx)⟩) rfl (Nat.le_of_ble_eq_true rfl) rfl ⟨show 0 + 1 + 102 + 1 + 20 ≤ 601024 by decide, show 0 + 9 + 5740 + 35 + 1816 ≤ 7293034 by decide⟩ _ rfl (fun v M2 hp => ?_)
  obtain ⟨rfl, rfl⟩ := hp
  refine g_astore_2 C dL_law_15 (show 2 < 7 by decide) ?_
  refine g_iconst (v := 1) C dL_law_16 (by decide) ?_
  refine g_newL (m := 1) C dL_law_17 rfl (by decide) (by decide) ly_124 (fun _ => rfl) ⟨show 0 + 1 + 102 + 1 + 20 + 1 ≤ 601024 by decide, show 0 + 9 + 5740 + 35 + 1816 + 1 ≤ 7293034 by decide⟩ ?_
  refine g_astore_3 C dL_law_19 (show 3 < 7 by decide) ?_
  refine g_iconst (v := 0) C dL_law_20 (by decide) ?_
  refine g_istore_4 C dL_law_21 (show 4 < 7 by decide) ?_
  refine Go.widen (k := 125 + 0) (n := 7601 + 6 * 0) (show 0 + 1 + 102 + 1 + 20 + 1 ≤ 125 + 0 by decide) (show 0 + 9 + 5740 + 35 + 1816 + 1 ≤ 7601 + 6 * 0 by decide) ?_
  intro H locs ls h1 h2 h3
  exact law_loop hl C hx hL (c0 := 125) (s0 := 7601) (by decide) (by decide) hend 513 0 (by decide) (by omega) I0 Z64 Inv0 uu uu H locs ls (Rp_fin h1) h2 h3
