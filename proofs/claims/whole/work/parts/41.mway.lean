/-! ## the row of lines, as the model finds it -/
theorem it_some {α : Type} {f : Nat → Option α → Option α} (hf : ∀ k x, f k (some x) = some x) {a : Option α} {x : α} {k : Nat} (h : it f k a = some x) : ∀ {m : Nat}, k ≤ m → it f m a = some x
  | 0, hm => by have : k = 0 := by omega
                subst this; exact h
  | m + 1, hm => by
    by_cases e : k = m + 1
    · subst e; exact h
    · show f m (it f m a) = some x
      rw [it_some hf h (m := m) (by omega), hf]
def fwK (P : Pln) (w g : Rw) (sec door : Nat) (f : Rw) (st p k : Nat) (acc : Option (Nat × Nat)) : Option (Nat × Nat) := match acc with
  | some x => some x
  | none => match ldN P w g sec door st p k with
    | none => none
    | some t => if f t + 1 = f st then some (100 * p + k, t) else none
def fwP (P : Pln) (a w g : Rw) (sec door : Nat) (f : Rw) (st p : Nat) (acc : Option (Nat × Nat)) : Option (Nat × Nat) := if a p = 0 then acc else it (fwK P w g sec door f st p) (P.ml p) acc
def fwF (P : Pln) (n : Nat) (a w g : Rw) (sec door : Nat) (f : Rw) (st : Nat) : Option (Nat × Nat) := it (fwP P a w g sec door f st) n none
def fwV (o : Option (Nat × Nat)) : Nat := match o with
  | none => 90
  | some x => x.2
def fwM (I : Nat → Nat → Int32) (z : Nat) (o : Option (Nat × Nat)) : Nat → Nat → Int32 := match o with
  | none => I
  | some x => up1 I 120 z (nI x.1)
theorem fwK_s {P : Pln} {w g : Rw} {sec door : Nat} {f : Rw} {st p : Nat} (k : Nat) (x : Nat × Nat) : fwK P w g sec door f st p k (some x) = some x := rfl
theorem fwP_s {P : Pln} {a w g : Rw} {sec door : Nat} {f : Rw} {st : Nat} (p : Nat) (x : Nat × Nat) : fwP P a w g sec door f st p (some x) = some x := by
  unfold fwP
  split
  · rfl
  · exact it_some (fun k x => fwK_s k x) (k := 0) rfl (Nat.zero_le _)
theorem fw_found {P : Pln} {n : Nat} {a w g : Rw} {sec door : Nat} {f : Rw} {st p k t : Nat} (hp : p < n) (hk : k < P.ml p) (hA : ¬ a p = 0) (h1 : it (fwK P w g sec door f st p) k (it (fwP P a w g sec door f st) p none) = none) (h2 : ldN P w g sec door st p k = some t) (h3 : f t + 1 = f st) : fwF P n a w g sec door f st = some (100 * p + k, t) := by
  have e1 : it (fwK P w g sec door f st p) (k + 1) (it (fwP P a w g sec door f st) p none) = some (100 * p + k, t) := by
    show fwK P w g sec door f st p k _ = _
    rw [h1]
    unfold fwK
    simp only [h2, if_pos h3]
  have e2 : it (fwP P a w g sec door f st) (p + 1) none = some (100 * p + k, t) := by
    show fwP P a w g sec door f st p _ = _
    unfold fwP
    rw [if_neg hA]
    exact it_some (fun k x => fwK_s k x) e1 hk
  exact it_some (fun k x => fwP_s k x) e2 hp
theorem cod (p k : Nat) : nI (100 * p + (12 * p + k)) - nI (12 * p) = nI (100 * p + k) := by
  rw [show 100 * p + (12 * p + k) = (100 * p + k) + 12 * p by omega, ← nI_add, Int32.add_sub_cancel]
theorem fwK_0 {P : Pln} {w g : Rw} {sec door : Nat} {f : Rw} {st p k : Nat} (h : ldN P w g sec door st p k = none) : fwK P w g sec door f st p k none = none := by unfold fwK; simp only [h]
theorem fwK_1 {P : Pln} {w g : Rw} {sec door : Nat} {f : Rw} {st p k t : Nat} (h : ldN P w g sec door st p k = some t) (h2 : ¬ f t + 1 = f st) : fwK P w g sec door f st p k none = none := by unfold fwK; simp only [h, if_neg h2]
set_option maxHeartbeats 1000000 in
theorem s_follows {l : Launch} {G : Gm} {I : Nat → Nat → Int32} {J : Nat → Nat → Int64} {n : Nat} {P : Pln} (hm : mOK I n P) {a w g f : Rw} (ha : ∀ q, q < 10 → I 118 q = a q) (hw : ∀ q, q < 80 → I 115 q = w q) (hg : ∀ q, q < 10 → I 104 q = g q) (hf : ∀ q, q < 91 → I 119 q = f q) {sec door st z : Nat} (hdo : door < 16) (hst : st < 91) (hz : I 103 30 = nI z) (hz92 : z < 92) : Sp l G iX10_follows [.ref (G.1 + 103), .int (nI st), .int (nI sec), .int (nI door)] (mm I J) (RetI (nI (fwV (fwF P n a w g sec door f st))) (mm (fwM I z (fwF P n a w g sec door f st)) J)) noT := by
  refine Sp.of (by decide +kernel) (Nat.le_of_ble_eq_true rfl) ?_
  intro X hXl C
  subst hXl
  show Go X G 7 0 0 _ 0 [.ref (G.1 + 103), .int (nI st), .int (nI sec), .int (nI door), uu, uu, uu] [] (mm I J)
  have hm0 := hm
  obtain ⟨hok, hn, hml, hli⟩ := hm
  have hn10 := hok.1
  have h118 : ∀ p : Nat, p < 10 → I 118 p = a p := ha
  have lp : ∀ p : Nat, p ≤ n → (it (fwP P a w g sec door f st) p none) = none → ∀ a5 a6 : Value, Go X G 7 0 0 (KQ X G iX10_follows (RetI (nI (fwV (fwF P n a w g sec door f st))) (mm (fwM I z (fwF P n a w g sec door f st)) J)) noT) 3 [.ref (G.1 + 103), .int (nI st), .int (nI sec), .int (nI door), .int (nI p), a5, a6] [] (mm I J) := by
    refine loopN (n) ?_ ?_
    · intro hpn a5 a6
      show Go X G 7 0 0 _ 3 _ [] _
      refine g_iload C dX10_follows_3 rfl ?_
      refine g_aload_n C dX10_follows_5 rfl ?_
      refine g_getIv (ci := 10) (k := 4) (v := nI n) C dX10_follows_6 rfl inGX10 (by decide) fwX10_86 ly_103 (by decide) rfl hn ?_
      refine g_icmp_ge 126 C dX10_follows_9 (by decide) (fun c9 => ?_) (fun c9 => ?_)
      · refine g_bipush (v := 90) C dX10_follows_126 (by decide) ?_
        exact e_I C dX10_follows_128 rfl rfl rfl (by rw [show (fwF P n a w g sec door f st) = none from hpn]; rfl) (by rw [show (fwF P n a w g sec door f st) = none from hpn]; rfl)
      · exact absurd (Int32.le_refl _) c9
    · intro p hp ihp hpn a5 a6
      show Go X G 7 0 0 _ 3 _ [] _
      refine g_iload C dX10_follows_3 rfl ?_
      refine g_aload_n C dX10_follows_5 rfl ?_
      refine g_getIv (ci := 10) (k := 4) (v := nI n) C dX10_follows_6 rfl inGX10 (by decide) fwX10_86 ly_103 (by decide) rfl hn ?_
      refine g_icmp_ge 126 C dX10_follows_9 (by decide) (fun c9 => ?_) (fun c9 => ?_)
      · exact (nI_ge_dead (n := n) c9 hp (by omega)).elim
      · refine g_bipush (v := 12) C dX10_follows_12 (by decide) ?_
        refine g_iload C dX10_follows_14 rfl ?_
        refine g_imul C dX10_follows_16 ?_
        rw [mul12]
        refine g_istore_5 C dX10_follows_17 (by decide) ?_
        by_cases hA : a p = 0
        · refine g_iload C dX10_follows_19 rfl ?_
          refine g_bipush (v := 12) C dX10_follows_21 (by decide) ?_
          refine g_iload C dX10_follows_23 rfl ?_
          refine g_imul C dX10_follows_25 ?_
          rw [mul12]
          refine g_aload_n C dX10_follows_26 rfl ?_
          refine g_getR (ci := 10) (k := 6) (q := 105) C dX10_follows_27 rfl inGX10 (by decide) fwX10_17 ly_103 (by decide) rfl rfl ?_
          refine g_iload C dX10_follows_30 rfl ?_
          refine g_ialdv (v := nI (P.ml p)) p C dX10_follows_32 ly_105 (by decide) (by decide) rfl (show p < 11 by omega) (hml p hp) ?_
          refine g_iadd C dX10_follows_33 ?_
          rw [nI_add]
          refine g_icmp_ge 120 C dX10_follows_34 (by decide) (fun c34 => ?_) (fun c34 => ?_)
          · skip
            refine g_iinc_4 C dX10_follows_120 (nI_1 p) (by decide) ?_
            refine g_goto 3 C dX10_follows_123 (by decide) ?_
            have h9 : it (fwP P a w g sec door f st) (p + 1) none = (it (fwP P a w g sec door f st) p none) := if_pos hA
            exact ihp (h9.trans hpn) _ _
          · skip
            refine g_aload_n C dX10_follows_37 rfl ?_
            refine g_getR (ci := 10) (k := 27) (q := 118) C dX10_follows_38 rfl inGX10 (by decide) fwX10_61 ly_103 (by decide) rfl rfl ?_
            refine g_iload C dX10_follows_41 rfl ?_
            refine g_zald _ C dX10_follows_43 ly_118 (by decide) (by decide) rfl (show p < 10 by omega) ?_
            refine g_if_eq 120 C dX10_follows_44 (by decide) (fun c44 => ?_) (fun c44 => ?_)
            · refine g_iinc_4 C dX10_follows_120 (nI_1 p) (by decide) ?_
              refine g_goto 3 C dX10_follows_123 (by decide) ?_
              have h9 : it (fwP P a w g sec door f st) (p + 1) none = (it (fwP P a w g sec door f st) p none) := if_pos hA
              exact ihp (h9.trans hpn) _ _
            · exact absurd ((h118 _ (show p < 10 by omega)).trans hA) c44
        have inner : ∀ k : Nat, k ≤ P.ml p → (it (fwK P w g sec door f st p) k (it (fwP P a w g sec door f st) p none)) = none → ∀ a6 : Value, Go X G 7 0 0 (KQ X G iX10_follows (RetI (nI (fwV (fwF P n a w g sec door f st))) (mm (fwM I z (fwF P n a w g sec door f st)) J)) noT) 19 [.ref (G.1 + 103), .int (nI st), .int (nI sec), .int (nI door), .int (nI p), .int (nI (12 * p + k)), a6] [] (mm I J) := by
          refine loopN (P.ml p) ?_ ?_
          · intro hno a6
            show Go X G 7 0 0 _ 19 _ [] _
            have hm12 := hok.2.1 p
            refine g_iload C dX10_follows_19 rfl ?_
            refine g_bipush (v := 12) C dX10_follows_21 (by decide) ?_
            refine g_iload C dX10_follows_23 rfl ?_
            refine g_imul C dX10_follows_25 ?_
            rw [mul12]
            refine g_aload_n C dX10_follows_26 rfl ?_
            refine g_getR (ci := 10) (k := 6) (q := 105) C dX10_follows_27 rfl inGX10 (by decide) fwX10_17 ly_103 (by decide) rfl rfl ?_
            refine g_iload C dX10_follows_30 rfl ?_
            refine g_ialdv (v := nI (P.ml p)) p C dX10_follows_32 ly_105 (by decide) (by decide) rfl (show p < 11 by omega) (hml p hp) ?_
            refine g_iadd C dX10_follows_33 ?_
            rw [nI_add]
            refine g_icmp_ge 120 C dX10_follows_34 (by decide) (fun c34 => ?_) (fun c34 => ?_)
            · refine g_iinc_4 C dX10_follows_120 (nI_1 p) (by decide) ?_
              refine g_goto 3 C dX10_follows_123 (by decide) ?_
              have h9 : it (fwP P a w g sec door f st) (p + 1) none = it (fwK P w g sec door f st p) (P.ml p) (it (fwP P a w g sec door f st) p none) := if_neg hA
              exact ihp (h9.trans hno) _ _
            · exact absurd (Int32.le_refl _) c34
          · intro k hk ihk hno a6
            show Go X G 7 0 0 _ 19 _ [] _
            have hL := hli p hp k hk
            have hLo := hok.2.2 p hp k hk
            have hm12 := hok.2.1 p
            refine g_iload C dX10_follows_19 rfl ?_
            refine g_bipush (v := 12) C dX10_follows_21 (by decide) ?_
            refine g_iload C dX10_follows_23 rfl ?_
            refine g_imul C dX10_follows_25 ?_
            rw [mul12]
            refine g_aload_n C dX10_follows_26 rfl ?_
            refine g_getR (ci := 10) (k := 6) (q := 105) C dX10_follows_27 rfl inGX10 (by decide) fwX10_17 ly_103 (by decide) rfl rfl ?_
            refine g_iload C dX10_follows_30 rfl ?_
            refine g_ialdv (v := nI (P.ml p)) p C dX10_follows_32 ly_105 (by decide) (by decide) rfl (show p < 11 by omega) (hml p hp) ?_
            refine g_iadd C dX10_follows_33 ?_
            rw [nI_add]
            refine g_icmp_ge 120 C dX10_follows_34 (by decide) (fun c34 => ?_) (fun c34 => ?_)
            · exact (nI_ge_dead (n := 12 * p + P.ml p) c34 (by omega) (by omega)).elim
            · refine g_aload_n C dX10_follows_37 rfl ?_
              refine g_getR (ci := 10) (k := 27) (q := 118) C dX10_follows_38 rfl inGX10 (by decide) fwX10_61 ly_103 (by decide) rfl rfl ?_
              refine g_iload C dX10_follows_41 rfl ?_
              refine g_zald _ C dX10_follows_43 ly_118 (by decide) (by decide) rfl (show p < 10 by omega) ?_
              refine g_if_eq 120 C dX10_follows_44 (by decide) (fun c44 => ?_) (fun c44 => ?_)
              · exact absurd ((h118 _ (show p < 10 by omega)).symm.trans c44) hA
              · refine g_aload_n C dX10_follows_47 rfl ?_
                refine g_iload_n C dX10_follows_48 rfl ?_
                refine g_iload C dX10_follows_49 rfl ?_
                refine g_iload C dX10_follows_51 rfl ?_
                refine g_iload_n C dX10_follows_53 rfl ?_
                refine g_iload_n C dX10_follows_54 rfl ?_
                refine gv5I (ci := 10) C dX10_follows_55 vwX10_leads mwX10_255 ⟨by decide, by decide⟩ rfl ly_103 (Nat.le_of_ble_eq_true rfl) (s_leadsW (w := w) (g := g) hm0 hw hg hp hk (show st < 1000 by omega) hdo) (Nat.le_of_ble_eq_true rfl) rfl ⟨by decide, by decide⟩ ?_
                refine g_istore_6 C dX10_follows_58 (by decide) ?_
                rcases hld : ldN P w g sec door st p k with _ | t
                · skip
                  refine g_iload C dX10_follows_60 rfl ?_
                  refine g_bipush (v := (-2)) C dX10_follows_62 (by decide) ?_
                  refine g_icmp_eq 114 C dX10_follows_64 (by decide) (fun c64 => ?_) (fun c64 => ?_)
                  · refine g_iinc_5 C dX10_follows_114 (nI_1 (12 * p + k)) (by decide) ?_
                    refine g_goto 19 C dX10_follows_117 (by decide) ?_
                    first
                      | exact ihk (by show fwK P w g sec door f st p k (it (fwK P w g sec door f st p) k (it (fwP P a w g sec door f st) p none)) = none; rw [hno]; exact fwK_0 hld) _
                      | exact ihk (by show fwK P w g sec door f st p k (it (fwK P w g sec door f st p) k (it (fwP P a w g sec door f st) p none)) = none; rw [hno]; exact fwK_1 hld c82) _
                  · exact absurd rfl c64
                · skip
                  have ht := ldN_le hok hp hk hld
                  refine g_iload C dX10_follows_60 rfl ?_
                  refine g_bipush (v := (-2)) C dX10_follows_62 (by decide) ?_
                  refine g_icmp_eq 114 C dX10_follows_64 (by decide) (fun c64 => ?_) (fun c64 => ?_)
                  · exact absurd c64 (oV_n ht)
                  · refine g_aload_n C dX10_follows_67 rfl ?_
                    refine g_getR (ci := 10) (k := 28) (q := 119) C dX10_follows_68 rfl inGX10 (by decide) fwX10_65 ly_103 (by decide) rfl rfl ?_
                    refine g_iload C dX10_follows_71 rfl ?_
                    refine g_ialdv (v := f t) t C dX10_follows_73 ly_119 (by decide) (by decide) rfl (show t < 91 by omega) (hf t (by omega)) ?_
                    refine g_iconst (v := 1) C dX10_follows_74 (by decide) ?_
                    refine g_iadd C dX10_follows_75 ?_
                    refine g_aload_n C dX10_follows_76 rfl ?_
                    refine g_getR (ci := 10) (k := 28) (q := 119) C dX10_follows_77 rfl inGX10 (by decide) fwX10_65 ly_103 (by decide) rfl rfl ?_
                    refine g_iload_n C dX10_follows_80 rfl ?_
                    refine g_ialdv (v := f st) st C dX10_follows_81 ly_119 (by decide) (by decide) rfl (show st < 91 by omega) (hf st (by omega)) ?_
                    refine g_icmp_eq 88 C dX10_follows_82 (by decide) (fun c82 => ?_) (fun c82 => ?_)
                    · skip
                      refine g_aload_n C dX10_follows_88 rfl ?_
                      refine g_getR (ci := 10) (k := 29) (q := 120) C dX10_follows_89 rfl inGX10 (by decide) fwX10_68 ly_103 (by decide) rfl rfl ?_
                      refine g_aload_n C dX10_follows_92 rfl ?_
                      refine g_getIv (ci := 10) (k := 30) (v := nI z) C dX10_follows_93 rfl inGX10 (by decide) fwX10_262 ly_103 (by decide) rfl hz ?_
                      refine g_bipush (v := 100) C dX10_follows_96 (by decide) ?_
                      refine g_iload C dX10_follows_98 rfl ?_
                      refine g_imul C dX10_follows_100 ?_
                      rw [mul100]
                      refine g_iload C dX10_follows_101 rfl ?_
                      refine g_iadd C dX10_follows_103 ?_
                      rw [nI_add]
                      refine g_bipush (v := 12) C dX10_follows_104 (by decide) ?_
                      refine g_iload C dX10_follows_106 rfl ?_
                      refine g_imul C dX10_follows_108 ?_
                      rw [mul12]
                      refine g_isub C dX10_follows_109 ?_
                      rw [cod]
                      refine g_iast z C dX10_follows_110 ly_120 (by decide) (by decide) rfl hz92 ?_
                      refine g_iload C dX10_follows_111 rfl ?_
                      exact e_I C dX10_follows_113 rfl rfl rfl (by rw [fw_found hp hk hA hno hld c82]; rfl) (by rw [fw_found hp hk hA hno hld c82]; rfl)
                    · skip
                      refine g_goto 114 C dX10_follows_85 (by decide) ?_
                      refine g_iinc_5 C dX10_follows_114 (nI_1 (12 * p + k)) (by decide) ?_
                      refine g_goto 19 C dX10_follows_117 (by decide) ?_
                      first
                        | exact ihk (by show fwK P w g sec door f st p k (it (fwK P w g sec door f st p) k (it (fwP P a w g sec door f st) p none)) = none; rw [hno]; exact fwK_0 hld) _
                        | exact ihk (by show fwK P w g sec door f st p k (it (fwK P w g sec door f st p) k (it (fwP P a w g sec door f st) p none)) = none; rw [hno]; exact fwK_1 hld c82) _
        exact inner 0 (Nat.zero_le _) hpn _
  refine g_iconst (v := 0) C dX10_follows_0 (by decide) ?_
  refine g_istore_4 C dX10_follows_1 (by decide) ?_
  exact lp 0 (Nat.zero_le _) rfl _ _
abbrev WyZ : Type := Int32 × Option (Nat × Nat)
def wyK (P : Pln) (g : Rw) (sec : Nat) (f : Rw) (p k : Nat) (z : WyZ) : WyZ := if P.kd p k = 0 ∧ P.nu p k = sec ∧ ¬ (g p >>> (nI sec &&& 31)) &&& 1 = 0 ∧ f (8 * p + P.fs p k) + 1 < z.1 then (f (8 * p + P.fs p k) + 1, some (p, k)) else z
def wyP (P : Pln) (a g : Rw) (sec : Nat) (f : Rw) (p : Nat) (z : WyZ) : WyZ := if a p = 0 then z else it (wyK P g sec f p) (P.ml p) z
def wyF (P : Pln) (n : Nat) (a g : Rw) (sec : Nat) (f : Rw) : WyZ := it (wyP P a g sec f) n (100000, none)
def wyC (z : WyZ) : Int32 := match z.2 with
  | none => -1
  | some x => nI (100 * x.1 + x.2)
def wyS (P : Pln) (z : WyZ) : Int32 := match z.2 with
  | none => -2
  | some x => nI (8 * x.1 + P.fs x.1 x.2)
def wyI (n : Nat) (P : Pln) (z : WyZ) : Prop := (z.2 = none ∧ z.1 = 100000) ∨ ∃ p k, z.2 = some (p, k) ∧ p < n ∧ k < P.ml p
theorem wyI_K {P : Pln} {n : Nat} {g : Rw} {sec : Nat} {f : Rw} {p k : Nat} (hp : p < n) (hk : k < P.ml p) {z : WyZ} (h : wyI n P z) : wyI n P (wyK P g sec f p k z) := by
  unfold wyK
  split
  · exact Or.inr ⟨p, k, rfl, hp, hk⟩
  · exact h
theorem it_inv {α : Type} {f : Nat → α → α} {R : α → Prop} {a : α} : ∀ {n : Nat}, (∀ k a, k < n → R a → R (f k a)) → R a → R (it f n a)
  | 0, _, h => h
  | n + 1, hs, h => hs n _ (by omega) (it_inv (fun k a hk => hs k a (by omega)) h)
theorem wyI_F {P : Pln} {n : Nat} {a g : Rw} {sec : Nat} {f : Rw} : wyI n P (wyF P n a g sec f) := by
  unfold wyF
  refine it_inv (fun p z hp h => ?_) (Or.inl ⟨rfl, rfl⟩)
  unfold wyP
  split
  · exact h
  · exact it_inv (fun k z hk h => wyI_K hp hk h) h
def wyM (I : Nat → Nat → Int32) (z : Nat × Rw) : Nat → Nat → Int32 := up1 (stRow I 120 92 z.2) 103 30 (nI z.1)
section WY
variable {I : Nat → Nat → Int32} {z : Nat × Rw}
theorem wyM_off {o : Nat} (h : o ≠ 120) (h2 : o ≠ 103) : wyM I z o = I o := by unfold wyM; rw [up1_off h2, stRow_off h]
theorem wyM_103 {k : Nat} (h : k ≠ 30) : wyM I z 103 k = I 103 k := by unfold wyM; rw [show up1 (stRow I 120 92 z.2) 103 30 (nI z.1) 103 k = stRow I 120 92 z.2 103 k by simp [up1, h], stRow_off (by decide)]
theorem wyM_30 : wyM I z 103 30 = nI z.1 := up1_same _ _ _ _
theorem mOK_wy {n : Nat} {P : Pln} (hm : mOK I n P) : mOK (wyM I z) n P := mOK_cg (wyM_103 (by decide)) (fun q hq => wyM_off (by omega) (by omega)) hm
theorem wyM_up {v : Int32} {y : Nat} (hc : z.1 < 92) : up1 (up1 (wyM I z) 120 z.1 v) 103 30 (nI y) = wyM I (y, upd z.2 z.1 v) := by
  funext a b
  unfold wyM up1 stRow upd
  by_cases h1 : a = 103
  · subst h1; simp; by_cases h2 : b = 30 <;> simp [h2]
  · by_cases h2 : a = 120
    · subst h2
      by_cases h3 : b = z.1
      · subst h3; simp [hc]
      · simp [h3]
    · simp [h1, h2]
theorem wyM_st {y : Nat} : up1 (wyM I z) 103 30 (nI y) = wyM I (y, z.2) := by
  funext a b
  unfold wyM up1
  by_cases h1 : a = 103 ∧ b = 30 <;> simp [h1]
theorem wyM_in {c : Int32} : up1 (up1 (up1 I 103 30 0) 120 0 c) 103 30 (nI 1) = wyM I (1, upd (I 120) 0 c) := by
  funext a b
  unfold wyM up1 stRow upd
  by_cases h1 : a = 103
  · subst h1; simp; by_cases h2 : b = 30 <;> simp [h2]
  · by_cases h2 : a = 120
    · subst h2
      by_cases h3 : b = 0
      · subst h3; simp
      · simp [h3]
    · simp [h1, h2]
end WY
section WW
variable (P : Pln) (n : Nat) (a w g : Rw) (sec door : Nat) (f : Rw)
def wyR (st : Nat) (z : Nat × Rw) : Nat × Rw := match fwF P n a w g sec door f st with
  | none => (z.1 + 1, z.2)
  | some x => (z.1 + 1, upd z.2 z.1 (nI x.1))
def wyW : Nat → Nat → Nat × Rw → Nat × Rw
  | 0, _, s => s
  | m + 1, st, s => if st = 90 then s else wyW m (fwV (fwF P n a w g sec door f st)) (wyR P n a w g sec door f st s)
def wyE : Nat → Nat → Prop
  | 0, st => st = 90
  | m + 1, st => st = 90 ∨ wyE m (fwV (fwF P n a w g sec door f st))
end WW
theorem wyR_1 (P : Pln) (n : Nat) (a w g : Rw) (sec door : Nat) (f : Rw) (st : Nat) (z : Nat × Rw) : (wyR P n a w g sec door f st z).1 = z.1 + 1 := by unfold wyR; split <;> rfl
theorem fwF_le {P : Pln} {n : Nat} (hok : P.ok n) {a w g : Rw} {sec door : Nat} {f : Rw} {st : Nat} : fwV (fwF P n a w g sec door f st) ≤ 90 := by
  have : ∀ x, fwF P n a w g sec door f st = some x → x.2 ≤ 90 := by
    refine it_inv (R := fun o : Option (Nat × Nat) => ∀ x, o = some x → x.2 ≤ 90) (fun p o hp h => ?_) (fun x hx => by cases hx)
    unfold fwP
    split
    · exact h
    · refine it_inv (R := fun o : Option (Nat × Nat) => ∀ x, o = some x → x.2 ≤ 90) (fun k o hk h => ?_) h
      intro x hx
      unfold fwK at hx
      split at hx
      · exact h x hx
      · split at hx
        · cases hx
        · next t ht =>
          split at hx
          · cases hx; exact ldN_le hok hp hk ht
          · cases hx
  unfold fwV
  split
  · decide
  · next x hx => exact this x hx
theorem fwM_wy {I : Nat → Nat → Int32} {P : Pln} {n : Nat} {a w g : Rw} {sec door : Nat} {f : Rw} {st : Nat} {z : Nat × Rw} (h : z.1 < 92) : up1 (fwM (wyM I z) z.1 (fwF P n a w g sec door f st)) 103 30 (nI (z.1 + 1)) = wyM I (wyR P n a w g sec door f st z) := by
  unfold fwM wyR
  split
  · exact wyM_st
  · exact wyM_up h
set_option maxHeartbeats 1000000 in
theorem s_mway2 {l : Launch} {G : Gm} {I : Nat → Nat → Int32} {J : Nat → Nat → Int64} {x y : Int32} (h : ¬ ((¬ x < 0 ∧ x < 16) ∧ (¬ y < 0 ∧ y < 16))) : Sp l G iX10_way [.ref (G.1 + 103), .int x, .int y] (mm I J) (RetI (-1) (mm (tr (T0 I) 2) J)) noT := by
  refine Sp.of (by decide +kernel) (Nat.le_of_ble_eq_true rfl) ?_
  intro X hXl C
  subst hXl
  show Go X G 8 0 0 _ 0 [.ref (G.1 + 103), .int x, .int y, uu, uu, uu, uu, uu] [] (mm I J)
  refine g_aload_n C dX10_way_0 rfl ?_
  refine g_iconst (v := 0) C dX10_way_1 (by decide) ?_
  refine g_putI (ci := 10) (k := 0) .int C dX10_way_2 rfl inGX10 tyX10_ok nmX10 (by decide) fwX10_80 ly_103 (by decide) rfl rfl rfl rfl rfl ?_
  refine g_iload_n C dX10_way_5 rfl ?_
  refine gs1I C dX10_way_6 swX10_isRight mwX10_228 ⟨by decide, by decide⟩ (s_misRight _) (Nat.le_of_ble_eq_true rfl) rfl ⟨by decide, by decide⟩ ?_
  refine g_if_eq 19 C dX10_way_9 (by decide) (fun c9 => ?_) (fun c9 => ?_)
  · refine g_aload_n C dX10_way_19 rfl ?_
    refine g_iconst (v := 2) C dX10_way_20 (by decide) ?_
    refine gv1I (ci := 10) C dX10_way_21 vwX10_refused mwX10_94 ⟨by decide, by decide⟩ rfl ly_103 (Nat.le_of_ble_eq_true rfl) (s_refused _) (Nat.le_of_ble_eq_true rfl) rfl ⟨by decide, by decide⟩ ?_
    exact e_I C dX10_way_24 rfl rfl rfl rfl rfl
  · have g9 := Classical.not_not.mp (fun q => c9 (if01.mpr q))
    refine g_iload_n C dX10_way_12 rfl ?_
    refine gs1I C dX10_way_13 swX10_isRight mwX10_228 ⟨by decide, by decide⟩ (s_misRight _) (Nat.le_of_ble_eq_true rfl) rfl ⟨by decide, by decide⟩ ?_
    refine g_if_ne 25 C dX10_way_16 (by decide) (fun c16 => ?_) (fun c16 => ?_)
    · exact absurd ⟨g9, Classical.not_not.mp (fun q => c16 (if01.mpr q))⟩ h
    · refine g_aload_n C dX10_way_19 rfl ?_
      refine g_iconst (v := 2) C dX10_way_20 (by decide) ?_
      refine gv1I (ci := 10) C dX10_way_21 vwX10_refused mwX10_94 ⟨by decide, by decide⟩ rfl ly_103 (Nat.le_of_ble_eq_true rfl) (s_refused _) (Nat.le_of_ble_eq_true rfl) rfl ⟨by decide, by decide⟩ ?_
      exact e_I C dX10_way_24 rfl rfl rfl rfl rfl
set_option maxHeartbeats 4000000 in
theorem s_mway0 {l : Launch} {G : Gm} {I : Nat → Nat → Int32} {J : Nat → Nat → Int64} {n : Nat} {P : Pln} (hm : mOK I n P) {F F2 F3 : Nat} (hfu : ∀ g : Rw, fuOK P n g F F2) {sec door : Nat} (hse : sec < 16) (hdo : door < 16) (hE3 : whE (msQ P n (wA P n F) (wS P n (I 104) F).2 (I 104) sec door) F3 ms0) (hno : ¬ (wyF P n (wA P n F) (I 104) sec (wh (msQ P n (wA P n F) (wS P n (I 104) F).2 (I 104) sec door) F3 ms0)).1 < 100000) : Sp l G iX10_way [.ref (G.1 + 103), .int (nI sec), .int (nI door)] (mm I J) (RetI (-2) (mm (tr (stRow (wkF (T0 I) P n F F2) 119 91 (wh (msQ P n (wA P n F) (wS P n (I 104) F).2 (I 104) sec door) F3 ms0)) 0) J)) noT := by
  refine Sp.of (by decide +kernel) (Nat.le_of_ble_eq_true rfl) ?_
  intro X hXl C
  subst hXl
  show Go X G 8 0 0 _ 0 [.ref (G.1 + 103), .int (nI sec), .int (nI door), uu, uu, uu, uu, uu] [] (mm I J)
  have hmM : mOK (stRow (wkF (T0 I) P n F F2) 119 91 (wh (msQ P n (wA P n F) (wS P n (I 104) F).2 (I 104) sec door) F3 ms0)) n P := mOK_119 (mOK_wk (mOK_T0 hm))
  have h118 : ∀ p : Nat, p < 10 → (stRow (wkF (T0 I) P n F F2) 119 91 (wh (msQ P n (wA P n F) (wS P n (I 104) F).2 (I 104) sec door) F3 ms0)) 118 p = (wA P n F) p := fun p hp => by rw [stRow_off (by decide)]; exact wk_118 hp
  have h104 : ∀ p : Nat, (stRow (wkF (T0 I) P n F F2) 119 91 (wh (msQ P n (wA P n F) (wS P n (I 104) F).2 (I 104) sec door) F3 ms0)) 104 p = I 104 p := fun p => by rw [stRow_off (by decide)]; unfold wkF; rw [wk_off (Or.inl (by decide)), T0_off (by decide)]
  have h115 : ∀ q : Nat, q < 80 → (stRow (wkF (T0 I) P n F F2) 119 91 (wh (msQ P n (wA P n F) (wS P n (I 104) F).2 (I 104) sec door) F3 ms0)) 115 q = (wS P n (I 104) F).2 q := fun q hq => by rw [stRow_off (by decide)]; exact wk_115 hq
  have h119 : ∀ q : Nat, q < 91 → (stRow (wkF (T0 I) P n F F2) 119 91 (wh (msQ P n (wA P n F) (wS P n (I 104) F).2 (I 104) sec door) F3 ms0)) 119 q = (wh (msQ P n (wA P n F) (wS P n (I 104) F).2 (I 104) sec door) F3 ms0) q := fun q hq => stRow_in hq
  obtain ⟨hok, hn, hml, hli⟩ := (show mOK (stRow (wkF (T0 I) P n F F2) 119 91 (wh (msQ P n (wA P n F) (wS P n (I 104) F).2 (I 104) sec door) F3 ms0)) n P from hmM)
  have hn10 := hok.1
  skip
  have lp : ∀ p : Nat, p ≤ n → ∀ a7 : Value, Go X G 8 0 0 (KQ X G iX10_way (RetI (-2) (mm (tr (stRow (wkF (T0 I) P n F F2) 119 91 (wh (msQ P n (wA P n F) (wS P n (I 104) F).2 (I 104) sec door) F3 ms0)) 0) J)) noT) 48 [.ref (G.1 + 103), .int (nI sec), .int (nI door), .int (it (wyP P (wA P n F) (I 104) sec (wh (msQ P n (wA P n F) (wS P n (I 104) F).2 (I 104) sec door) F3 ms0)) p (100000, none)).1, .int (wyC (it (wyP P (wA P n F) (I 104) sec (wh (msQ P n (wA P n F) (wS P n (I 104) F).2 (I 104) sec door) F3 ms0)) p (100000, none))), .int (wyS P (it (wyP P (wA P n F) (I 104) sec (wh (msQ P n (wA P n F) (wS P n (I 104) F).2 (I 104) sec door) F3 ms0)) p (100000, none))), .int (nI p), a7] [] (mm (stRow (wkF (T0 I) P n F F2) 119 91 (wh (msQ P n (wA P n F) (wS P n (I 104) F).2 (I 104) sec door) F3 ms0)) J) := by
    refine loopN (n) ?_ ?_
    · intro a7
      show Go X G 8 0 0 _ 48 _ [] _
      refine g_iload C dX10_way_48 rfl ?_
      refine g_aload_n C dX10_way_50 rfl ?_
      refine g_getIv (ci := 10) (k := 4) (v := nI n) C dX10_way_51 rfl inGX10 (by decide) fwX10_86 ly_103 (by decide) rfl hn ?_
      refine g_icmp_ge 218 C dX10_way_54 (by decide) (fun c54 => ?_) (fun c54 => ?_)
      · refine g_iload_n C dX10_way_218 rfl ?_
        refine g_ldc (v := 100000) C dX10_way_219 kwX10_254 ?_
        refine g_icmp_lt 231 C dX10_way_221 (by decide) (fun c221 => ?_) (fun c221 => ?_)
        · exact absurd c221 hno
        · refine g_aload_n C dX10_way_224 rfl ?_
          refine g_bipush (v := (-2)) C dX10_way_225 (by decide) ?_
          refine gv1I (ci := 10) C dX10_way_227 vwX10_done mwX10_98 ⟨by decide, by decide⟩ rfl ly_103 (Nat.le_of_ble_eq_true rfl) (s_done _) (Nat.le_of_ble_eq_true rfl) rfl ⟨by decide, by decide⟩ ?_
          exact e_I C dX10_way_230 rfl rfl rfl rfl rfl
      · exact absurd (Int32.le_refl _) c54
    · intro p hp ihp a7
      show Go X G 8 0 0 _ 48 _ [] _
      refine g_iload C dX10_way_48 rfl ?_
      refine g_aload_n C dX10_way_50 rfl ?_
      refine g_getIv (ci := 10) (k := 4) (v := nI n) C dX10_way_51 rfl inGX10 (by decide) fwX10_86 ly_103 (by decide) rfl hn ?_
      refine g_icmp_ge 218 C dX10_way_54 (by decide) (fun c54 => ?_) (fun c54 => ?_)
      · exact (nI_ge_dead (n := n) c54 hp (by omega)).elim
      · refine g_bipush (v := 12) C dX10_way_57 (by decide) ?_
        refine g_iload C dX10_way_59 rfl ?_
        refine g_imul C dX10_way_61 ?_
        rw [mul12]
        refine g_istore_7 C dX10_way_62 (by decide) ?_
        by_cases hA : (wA P n F) p = 0
        · refine g_iload C dX10_way_64 rfl ?_
          refine g_bipush (v := 12) C dX10_way_66 (by decide) ?_
          refine g_iload C dX10_way_68 rfl ?_
          refine g_imul C dX10_way_70 ?_
          rw [mul12]
          refine g_aload_n C dX10_way_71 rfl ?_
          refine g_getR (ci := 10) (k := 6) (q := 105) C dX10_way_72 rfl inGX10 (by decide) fwX10_17 ly_103 (by decide) rfl rfl ?_
          refine g_iload C dX10_way_75 rfl ?_
          refine g_ialdv (v := nI (P.ml p)) p C dX10_way_77 ly_105 (by decide) (by decide) rfl (show p < 11 by omega) (hml p hp) ?_
          refine g_iadd C dX10_way_78 ?_
          rw [nI_add]
          refine g_icmp_ge 212 C dX10_way_79 (by decide) (fun c79 => ?_) (fun c79 => ?_)
          · skip
            refine g_iinc_6 C dX10_way_212 (nI_1 p) (by decide) ?_
            refine g_goto 48 C dX10_way_215 (by decide) ?_
            have h9 : it (wyP P (wA P n F) (I 104) sec (wh (msQ P n (wA P n F) (wS P n (I 104) F).2 (I 104) sec door) F3 ms0)) (p + 1) (100000, none) = (it (wyP P (wA P n F) (I 104) sec (wh (msQ P n (wA P n F) (wS P n (I 104) F).2 (I 104) sec door) F3 ms0)) p (100000, none)) := if_pos hA
            rw [h9] at ihp
            exact ihp _
          · skip
            refine g_aload_n C dX10_way_82 rfl ?_
            refine g_getR (ci := 10) (k := 27) (q := 118) C dX10_way_83 rfl inGX10 (by decide) fwX10_61 ly_103 (by decide) rfl rfl ?_
            refine g_iload C dX10_way_86 rfl ?_
            refine g_zald _ C dX10_way_88 ly_118 (by decide) (by decide) rfl (show p < 10 by omega) ?_
            refine g_if_eq 212 C dX10_way_89 (by decide) (fun c89 => ?_) (fun c89 => ?_)
            · refine g_iinc_6 C dX10_way_212 (nI_1 p) (by decide) ?_
              refine g_goto 48 C dX10_way_215 (by decide) ?_
              have h9 : it (wyP P (wA P n F) (I 104) sec (wh (msQ P n (wA P n F) (wS P n (I 104) F).2 (I 104) sec door) F3 ms0)) (p + 1) (100000, none) = (it (wyP P (wA P n F) (I 104) sec (wh (msQ P n (wA P n F) (wS P n (I 104) F).2 (I 104) sec door) F3 ms0)) p (100000, none)) := if_pos hA
              rw [h9] at ihp
              exact ihp _
            · exact absurd ((h118 _ (show p < 10 by omega)).trans hA) c89
        have inner : ∀ k : Nat, k ≤ P.ml p → Go X G 8 0 0 (KQ X G iX10_way (RetI (-2) (mm (tr (stRow (wkF (T0 I) P n F F2) 119 91 (wh (msQ P n (wA P n F) (wS P n (I 104) F).2 (I 104) sec door) F3 ms0)) 0) J)) noT) 64 [.ref (G.1 + 103), .int (nI sec), .int (nI door), .int (it (wyK P (I 104) sec (wh (msQ P n (wA P n F) (wS P n (I 104) F).2 (I 104) sec door) F3 ms0) p) k (it (wyP P (wA P n F) (I 104) sec (wh (msQ P n (wA P n F) (wS P n (I 104) F).2 (I 104) sec door) F3 ms0)) p (100000, none))).1, .int (wyC (it (wyK P (I 104) sec (wh (msQ P n (wA P n F) (wS P n (I 104) F).2 (I 104) sec door) F3 ms0) p) k (it (wyP P (wA P n F) (I 104) sec (wh (msQ P n (wA P n F) (wS P n (I 104) F).2 (I 104) sec door) F3 ms0)) p (100000, none)))), .int (wyS P (it (wyK P (I 104) sec (wh (msQ P n (wA P n F) (wS P n (I 104) F).2 (I 104) sec door) F3 ms0) p) k (it (wyP P (wA P n F) (I 104) sec (wh (msQ P n (wA P n F) (wS P n (I 104) F).2 (I 104) sec door) F3 ms0)) p (100000, none)))), .int (nI p), .int (nI (12 * p + k))] [] (mm (stRow (wkF (T0 I) P n F F2) 119 91 (wh (msQ P n (wA P n F) (wS P n (I 104) F).2 (I 104) sec door) F3 ms0)) J) := by
          refine loopN (P.ml p) ?_ ?_
          · skip
            show Go X G 8 0 0 _ 64 _ [] _
            have hm12 := hok.2.1 p
            refine g_iload C dX10_way_64 rfl ?_
            refine g_bipush (v := 12) C dX10_way_66 (by decide) ?_
            refine g_iload C dX10_way_68 rfl ?_
            refine g_imul C dX10_way_70 ?_
            rw [mul12]
            refine g_aload_n C dX10_way_71 rfl ?_
            refine g_getR (ci := 10) (k := 6) (q := 105) C dX10_way_72 rfl inGX10 (by decide) fwX10_17 ly_103 (by decide) rfl rfl ?_
            refine g_iload C dX10_way_75 rfl ?_
            refine g_ialdv (v := nI (P.ml p)) p C dX10_way_77 ly_105 (by decide) (by decide) rfl (show p < 11 by omega) (hml p hp) ?_
            refine g_iadd C dX10_way_78 ?_
            rw [nI_add]
            refine g_icmp_ge 212 C dX10_way_79 (by decide) (fun c79 => ?_) (fun c79 => ?_)
            · refine g_iinc_6 C dX10_way_212 (nI_1 p) (by decide) ?_
              refine g_goto 48 C dX10_way_215 (by decide) ?_
              have h9 : it (wyP P (wA P n F) (I 104) sec (wh (msQ P n (wA P n F) (wS P n (I 104) F).2 (I 104) sec door) F3 ms0)) (p + 1) (100000, none) = it (wyK P (I 104) sec (wh (msQ P n (wA P n F) (wS P n (I 104) F).2 (I 104) sec door) F3 ms0) p) (P.ml p) (it (wyP P (wA P n F) (I 104) sec (wh (msQ P n (wA P n F) (wS P n (I 104) F).2 (I 104) sec door) F3 ms0)) p (100000, none)) := if_neg hA
              rw [h9] at ihp
              exact ihp _
            · exact absurd (Int32.le_refl _) c79
          · intro k hk ihk 
            show Go X G 8 0 0 _ 64 _ [] _
            have hL := hli p hp k hk
            have hLo := hok.2.2 p hp k hk
            have hm12 := hok.2.1 p
            refine g_iload C dX10_way_64 rfl ?_
            refine g_bipush (v := 12) C dX10_way_66 (by decide) ?_
            refine g_iload C dX10_way_68 rfl ?_
            refine g_imul C dX10_way_70 ?_
            rw [mul12]
            refine g_aload_n C dX10_way_71 rfl ?_
            refine g_getR (ci := 10) (k := 6) (q := 105) C dX10_way_72 rfl inGX10 (by decide) fwX10_17 ly_103 (by decide) rfl rfl ?_
            refine g_iload C dX10_way_75 rfl ?_
            refine g_ialdv (v := nI (P.ml p)) p C dX10_way_77 ly_105 (by decide) (by decide) rfl (show p < 11 by omega) (hml p hp) ?_
            refine g_iadd C dX10_way_78 ?_
            rw [nI_add]
            refine g_icmp_ge 212 C dX10_way_79 (by decide) (fun c79 => ?_) (fun c79 => ?_)
            · exact (nI_ge_dead (n := 12 * p + P.ml p) c79 (by omega) (by omega)).elim
            · refine g_aload_n C dX10_way_82 rfl ?_
              refine g_getR (ci := 10) (k := 27) (q := 118) C dX10_way_83 rfl inGX10 (by decide) fwX10_61 ly_103 (by decide) rfl rfl ?_
              refine g_iload C dX10_way_86 rfl ?_
              refine g_zald _ C dX10_way_88 ly_118 (by decide) (by decide) rfl (show p < 10 by omega) ?_
              refine g_if_eq 212 C dX10_way_89 (by decide) (fun c89 => ?_) (fun c89 => ?_)
              · exact absurd ((h118 _ (show p < 10 by omega)).symm.trans c89) hA
              · refine g_aload_n C dX10_way_92 rfl ?_
                refine g_getR (ci := 10) (k := 8) (q := 107) C dX10_way_93 rfl inGX10 (by decide) fwX10_23 ly_103 (by decide) rfl rfl ?_
                refine g_iload C dX10_way_96 rfl ?_
                refine g_ialdv (v := nI (P.kd p k)) (12 * p + k) C dX10_way_98 ly_107 (by decide) (by decide) rfl (show 12 * p + k < 132 by omega) (hL.1) ?_
                refine g_if_ne 206 C dX10_way_99 (by decide) (fun c99 => ?_) (fun c99 => ?_)
                · have g99 : ¬ P.kd p k = 0 := fun q => c99 (by rw [q]; rfl)
                  refine g_iinc_7 C dX10_way_206 (nI_1 (12 * p + k)) (by decide) ?_
                  refine g_goto 64 C dX10_way_209 (by decide) ?_
                  by_cases hcc : P.kd p k = 0 ∧ P.nu p k = sec ∧ ¬ (I 104 p >>> (nI sec &&& 31)) &&& 1 = 0 ∧ (wh (msQ P n (wA P n F) (wS P n (I 104) F).2 (I 104) sec door) F3 ms0) (8 * p + P.fs p k) + 1 < (it (wyK P (I 104) sec (wh (msQ P n (wA P n F) (wS P n (I 104) F).2 (I 104) sec door) F3 ms0) p) k (it (wyP P (wA P n F) (I 104) sec (wh (msQ P n (wA P n F) (wS P n (I 104) F).2 (I 104) sec door) F3 ms0)) p (100000, none))).1
                  · have h9 : it (wyK P (I 104) sec (wh (msQ P n (wA P n F) (wS P n (I 104) F).2 (I 104) sec door) F3 ms0) p) (k + 1) (it (wyP P (wA P n F) (I 104) sec (wh (msQ P n (wA P n F) (wS P n (I 104) F).2 (I 104) sec door) F3 ms0)) p (100000, none)) = _ := if_pos hcc
                    first
                    | (rw [h9] at ihk; exact ihk)
                    | exact absurd hcc.1 g99
                    | exact absurd hcc.2.1 g110
                    | exact absurd c124 hcc.2.2.1
                    | exact absurd hcc.2.2.2 c148
                  · have h9 : it (wyK P (I 104) sec (wh (msQ P n (wA P n F) (wS P n (I 104) F).2 (I 104) sec door) F3 ms0) p) (k + 1) (it (wyP P (wA P n F) (I 104) sec (wh (msQ P n (wA P n F) (wS P n (I 104) F).2 (I 104) sec door) F3 ms0)) p (100000, none)) = (it (wyK P (I 104) sec (wh (msQ P n (wA P n F) (wS P n (I 104) F).2 (I 104) sec door) F3 ms0) p) k (it (wyP P (wA P n F) (I 104) sec (wh (msQ P n (wA P n F) (wS P n (I 104) F).2 (I 104) sec door) F3 ms0)) p (100000, none))) := if_neg hcc
                    first
                    | (rw [h9] at ihk; exact ihk)
                    | exact absurd ⟨g99, g110, c124, c148⟩ hcc
                · have g99 : P.kd p k = 0 := (nI_eq (b := 0) (by omega) (by decide)).mp c99
                  refine g_aload_n C dX10_way_102 rfl ?_
                  refine g_getR (ci := 10) (k := 9) (q := 108) C dX10_way_103 rfl inGX10 (by decide) fwX10_26 ly_103 (by decide) rfl rfl ?_
                  refine g_iload C dX10_way_106 rfl ?_
                  refine g_ialdv (v := nI (P.nu p k)) (12 * p + k) C dX10_way_108 ly_108 (by decide) (by decide) rfl (show 12 * p + k < 132 by omega) (hL.2.1) ?_
                  refine g_iload_n C dX10_way_109 rfl ?_
                  refine g_icmp_ne 206 C dX10_way_110 (by decide) (fun c110 => ?_) (fun c110 => ?_)
                  · have g110 : ¬ P.nu p k = sec := fun q => c110 (by rw [q])
                    refine g_iinc_7 C dX10_way_206 (nI_1 (12 * p + k)) (by decide) ?_
                    refine g_goto 64 C dX10_way_209 (by decide) ?_
                    by_cases hcc : P.kd p k = 0 ∧ P.nu p k = sec ∧ ¬ (I 104 p >>> (nI sec &&& 31)) &&& 1 = 0 ∧ (wh (msQ P n (wA P n F) (wS P n (I 104) F).2 (I 104) sec door) F3 ms0) (8 * p + P.fs p k) + 1 < (it (wyK P (I 104) sec (wh (msQ P n (wA P n F) (wS P n (I 104) F).2 (I 104) sec door) F3 ms0) p) k (it (wyP P (wA P n F) (I 104) sec (wh (msQ P n (wA P n F) (wS P n (I 104) F).2 (I 104) sec door) F3 ms0)) p (100000, none))).1
                    · have h9 : it (wyK P (I 104) sec (wh (msQ P n (wA P n F) (wS P n (I 104) F).2 (I 104) sec door) F3 ms0) p) (k + 1) (it (wyP P (wA P n F) (I 104) sec (wh (msQ P n (wA P n F) (wS P n (I 104) F).2 (I 104) sec door) F3 ms0)) p (100000, none)) = _ := if_pos hcc
                      first
                      | (rw [h9] at ihk; exact ihk)
                      | exact absurd hcc.1 g99
                      | exact absurd hcc.2.1 g110
                      | exact absurd c124 hcc.2.2.1
                      | exact absurd hcc.2.2.2 c148
                    · have h9 : it (wyK P (I 104) sec (wh (msQ P n (wA P n F) (wS P n (I 104) F).2 (I 104) sec door) F3 ms0) p) (k + 1) (it (wyP P (wA P n F) (I 104) sec (wh (msQ P n (wA P n F) (wS P n (I 104) F).2 (I 104) sec door) F3 ms0)) p (100000, none)) = (it (wyK P (I 104) sec (wh (msQ P n (wA P n F) (wS P n (I 104) F).2 (I 104) sec door) F3 ms0) p) k (it (wyP P (wA P n F) (I 104) sec (wh (msQ P n (wA P n F) (wS P n (I 104) F).2 (I 104) sec door) F3 ms0)) p (100000, none))) := if_neg hcc
                      first
                      | (rw [h9] at ihk; exact ihk)
                      | exact absurd ⟨g99, g110, c124, c148⟩ hcc
                  · have g110 : P.nu p k = sec := (nI_eq (by omega) (by omega)).mp c110
                    refine g_aload_n C dX10_way_113 rfl ?_
                    refine g_getR (ci := 10) (k := 5) (q := 104) C dX10_way_114 rfl inGX10 (by decide) fwX10_13 ly_103 (by decide) rfl rfl ?_
                    refine g_iload C dX10_way_117 rfl ?_
                    refine g_ialdv (v := I 104 p) p C dX10_way_119 ly_104 (by decide) (by decide) rfl (show p < 10 by omega) (h104 p) ?_
                    refine g_iload_n C dX10_way_120 rfl ?_
                    refine g_ishr C dX10_way_121 ?_
                    refine g_iconst (v := 1) C dX10_way_122 (by decide) ?_
                    refine g_iand C dX10_way_123 ?_
                    refine g_if_eq 206 C dX10_way_124 (by decide) (fun c124 => ?_) (fun c124 => ?_)
                    · skip
                      refine g_iinc_7 C dX10_way_206 (nI_1 (12 * p + k)) (by decide) ?_
                      refine g_goto 64 C dX10_way_209 (by decide) ?_
                      by_cases hcc : P.kd p k = 0 ∧ P.nu p k = sec ∧ ¬ (I 104 p >>> (nI sec &&& 31)) &&& 1 = 0 ∧ (wh (msQ P n (wA P n F) (wS P n (I 104) F).2 (I 104) sec door) F3 ms0) (8 * p + P.fs p k) + 1 < (it (wyK P (I 104) sec (wh (msQ P n (wA P n F) (wS P n (I 104) F).2 (I 104) sec door) F3 ms0) p) k (it (wyP P (wA P n F) (I 104) sec (wh (msQ P n (wA P n F) (wS P n (I 104) F).2 (I 104) sec door) F3 ms0)) p (100000, none))).1
                      · have h9 : it (wyK P (I 104) sec (wh (msQ P n (wA P n F) (wS P n (I 104) F).2 (I 104) sec door) F3 ms0) p) (k + 1) (it (wyP P (wA P n F) (I 104) sec (wh (msQ P n (wA P n F) (wS P n (I 104) F).2 (I 104) sec door) F3 ms0)) p (100000, none)) = _ := if_pos hcc
                        first
                        | (rw [h9] at ihk; exact ihk)
                        | exact absurd hcc.1 g99
                        | exact absurd hcc.2.1 g110
                        | exact absurd c124 hcc.2.2.1
                        | exact absurd hcc.2.2.2 c148
                      · have h9 : it (wyK P (I 104) sec (wh (msQ P n (wA P n F) (wS P n (I 104) F).2 (I 104) sec door) F3 ms0) p) (k + 1) (it (wyP P (wA P n F) (I 104) sec (wh (msQ P n (wA P n F) (wS P n (I 104) F).2 (I 104) sec door) F3 ms0)) p (100000, none)) = (it (wyK P (I 104) sec (wh (msQ P n (wA P n F) (wS P n (I 104) F).2 (I 104) sec door) F3 ms0) p) k (it (wyP P (wA P n F) (I 104) sec (wh (msQ P n (wA P n F) (wS P n (I 104) F).2 (I 104) sec door) F3 ms0)) p (100000, none))) := if_neg hcc
                        first
                        | (rw [h9] at ihk; exact ihk)
                        | exact absurd ⟨g99, g110, c124, c148⟩ hcc
                    · skip
                      refine g_aload_n C dX10_way_127 rfl ?_
                      refine g_getR (ci := 10) (k := 28) (q := 119) C dX10_way_128 rfl inGX10 (by decide) fwX10_65 ly_103 (by decide) rfl rfl ?_
                      refine g_bipush (v := 8) C dX10_way_131 (by decide) ?_
                      refine g_iload C dX10_way_133 rfl ?_
                      refine g_imul C dX10_way_135 ?_
                      rw [mul8]
                      refine g_aload_n C dX10_way_136 rfl ?_
                      refine g_getR (ci := 10) (k := 10) (q := 109) C dX10_way_137 rfl inGX10 (by decide) fwX10_29 ly_103 (by decide) rfl rfl ?_
                      refine g_iload C dX10_way_140 rfl ?_
                      refine g_ialdv (v := nI (P.fs p k)) (12 * p + k) C dX10_way_142 ly_109 (by decide) (by decide) rfl (show 12 * p + k < 132 by omega) (hL.2.2.1) ?_
                      refine g_iadd C dX10_way_143 ?_
                      rw [nI_add]
                      refine g_ialdv (v := (wh (msQ P n (wA P n F) (wS P n (I 104) F).2 (I 104) sec door) F3 ms0) (8 * p + P.fs p k)) (8 * p + P.fs p k) C dX10_way_144 ly_119 (by decide) (by decide) rfl (show (8 * p + P.fs p k) < 91 by omega) (stRow_in (show (8 * p + P.fs p k) < 91 by omega)) ?_
                      refine g_iconst (v := 1) C dX10_way_145 (by decide) ?_
                      refine g_iadd C dX10_way_146 ?_
                      refine g_iload_n C dX10_way_147 rfl ?_
                      refine g_icmp_lt 154 C dX10_way_148 (by decide) (fun c148 => ?_) (fun c148 => ?_)
                      · skip
                        refine g_aload_n C dX10_way_154 rfl ?_
                        refine g_getR (ci := 10) (k := 28) (q := 119) C dX10_way_155 rfl inGX10 (by decide) fwX10_65 ly_103 (by decide) rfl rfl ?_
                        refine g_bipush (v := 8) C dX10_way_158 (by decide) ?_
                        refine g_iload C dX10_way_160 rfl ?_
                        refine g_imul C dX10_way_162 ?_
                        rw [mul8]
                        refine g_aload_n C dX10_way_163 rfl ?_
                        refine g_getR (ci := 10) (k := 10) (q := 109) C dX10_way_164 rfl inGX10 (by decide) fwX10_29 ly_103 (by decide) rfl rfl ?_
                        refine g_iload C dX10_way_167 rfl ?_
                        refine g_ialdv (v := nI (P.fs p k)) (12 * p + k) C dX10_way_169 ly_109 (by decide) (by decide) rfl (show 12 * p + k < 132 by omega) (hL.2.2.1) ?_
                        refine g_iadd C dX10_way_170 ?_
                        rw [nI_add]
                        refine g_ialdv (v := (wh (msQ P n (wA P n F) (wS P n (I 104) F).2 (I 104) sec door) F3 ms0) (8 * p + P.fs p k)) (8 * p + P.fs p k) C dX10_way_171 ly_119 (by decide) (by decide) rfl (show (8 * p + P.fs p k) < 91 by omega) (stRow_in (show (8 * p + P.fs p k) < 91 by omega)) ?_
                        refine g_iconst (v := 1) C dX10_way_172 (by decide) ?_
                        refine g_iadd C dX10_way_173 ?_
                        refine g_istore_3 C dX10_way_174 (by decide) ?_
                        refine g_bipush (v := 100) C dX10_way_175 (by decide) ?_
                        refine g_iload C dX10_way_177 rfl ?_
                        refine g_imul C dX10_way_179 ?_
                        rw [mul100]
                        refine g_iload C dX10_way_180 rfl ?_
                        refine g_iadd C dX10_way_182 ?_
                        rw [nI_add]
                        refine g_bipush (v := 12) C dX10_way_183 (by decide) ?_
                        refine g_iload C dX10_way_185 rfl ?_
                        refine g_imul C dX10_way_187 ?_
                        rw [mul12]
                        refine g_isub C dX10_way_188 ?_
                        rw [cod]
                        refine g_istore_4 C dX10_way_189 (by decide) ?_
                        refine g_bipush (v := 8) C dX10_way_191 (by decide) ?_
                        refine g_iload C dX10_way_193 rfl ?_
                        refine g_imul C dX10_way_195 ?_
                        rw [mul8]
                        refine g_aload_n C dX10_way_196 rfl ?_
                        refine g_getR (ci := 10) (k := 10) (q := 109) C dX10_way_197 rfl inGX10 (by decide) fwX10_29 ly_103 (by decide) rfl rfl ?_
                        refine g_iload C dX10_way_200 rfl ?_
                        refine g_ialdv (v := nI (P.fs p k)) (12 * p + k) C dX10_way_202 ly_109 (by decide) (by decide) rfl (show 12 * p + k < 132 by omega) (hL.2.2.1) ?_
                        refine g_iadd C dX10_way_203 ?_
                        rw [nI_add]
                        refine g_istore_5 C dX10_way_204 (by decide) ?_
                        refine g_iinc_7 C dX10_way_206 (nI_1 (12 * p + k)) (by decide) ?_
                        refine g_goto 64 C dX10_way_209 (by decide) ?_
                        by_cases hcc : P.kd p k = 0 ∧ P.nu p k = sec ∧ ¬ (I 104 p >>> (nI sec &&& 31)) &&& 1 = 0 ∧ (wh (msQ P n (wA P n F) (wS P n (I 104) F).2 (I 104) sec door) F3 ms0) (8 * p + P.fs p k) + 1 < (it (wyK P (I 104) sec (wh (msQ P n (wA P n F) (wS P n (I 104) F).2 (I 104) sec door) F3 ms0) p) k (it (wyP P (wA P n F) (I 104) sec (wh (msQ P n (wA P n F) (wS P n (I 104) F).2 (I 104) sec door) F3 ms0)) p (100000, none))).1
                        · have h9 : it (wyK P (I 104) sec (wh (msQ P n (wA P n F) (wS P n (I 104) F).2 (I 104) sec door) F3 ms0) p) (k + 1) (it (wyP P (wA P n F) (I 104) sec (wh (msQ P n (wA P n F) (wS P n (I 104) F).2 (I 104) sec door) F3 ms0)) p (100000, none)) = _ := if_pos hcc
                          first
                          | (rw [h9] at ihk; exact ihk)
                          | exact absurd hcc.1 g99
                          | exact absurd hcc.2.1 g110
                          | exact absurd c124 hcc.2.2.1
                          | exact absurd hcc.2.2.2 c148
                        · have h9 : it (wyK P (I 104) sec (wh (msQ P n (wA P n F) (wS P n (I 104) F).2 (I 104) sec door) F3 ms0) p) (k + 1) (it (wyP P (wA P n F) (I 104) sec (wh (msQ P n (wA P n F) (wS P n (I 104) F).2 (I 104) sec door) F3 ms0)) p (100000, none)) = (it (wyK P (I 104) sec (wh (msQ P n (wA P n F) (wS P n (I 104) F).2 (I 104) sec door) F3 ms0) p) k (it (wyP P (wA P n F) (I 104) sec (wh (msQ P n (wA P n F) (wS P n (I 104) F).2 (I 104) sec door) F3 ms0)) p (100000, none))) := if_neg hcc
                          first
                          | (rw [h9] at ihk; exact ihk)
                          | exact absurd ⟨g99, g110, c124, c148⟩ hcc
                      · skip
                        refine g_goto 206 C dX10_way_151 (by decide) ?_
                        refine g_iinc_7 C dX10_way_206 (nI_1 (12 * p + k)) (by decide) ?_
                        refine g_goto 64 C dX10_way_209 (by decide) ?_
                        by_cases hcc : P.kd p k = 0 ∧ P.nu p k = sec ∧ ¬ (I 104 p >>> (nI sec &&& 31)) &&& 1 = 0 ∧ (wh (msQ P n (wA P n F) (wS P n (I 104) F).2 (I 104) sec door) F3 ms0) (8 * p + P.fs p k) + 1 < (it (wyK P (I 104) sec (wh (msQ P n (wA P n F) (wS P n (I 104) F).2 (I 104) sec door) F3 ms0) p) k (it (wyP P (wA P n F) (I 104) sec (wh (msQ P n (wA P n F) (wS P n (I 104) F).2 (I 104) sec door) F3 ms0)) p (100000, none))).1
                        · have h9 : it (wyK P (I 104) sec (wh (msQ P n (wA P n F) (wS P n (I 104) F).2 (I 104) sec door) F3 ms0) p) (k + 1) (it (wyP P (wA P n F) (I 104) sec (wh (msQ P n (wA P n F) (wS P n (I 104) F).2 (I 104) sec door) F3 ms0)) p (100000, none)) = _ := if_pos hcc
                          first
                          | (rw [h9] at ihk; exact ihk)
                          | exact absurd hcc.1 g99
                          | exact absurd hcc.2.1 g110
                          | exact absurd c124 hcc.2.2.1
                          | exact absurd hcc.2.2.2 c148
                        · have h9 : it (wyK P (I 104) sec (wh (msQ P n (wA P n F) (wS P n (I 104) F).2 (I 104) sec door) F3 ms0) p) (k + 1) (it (wyP P (wA P n F) (I 104) sec (wh (msQ P n (wA P n F) (wS P n (I 104) F).2 (I 104) sec door) F3 ms0)) p (100000, none)) = (it (wyK P (I 104) sec (wh (msQ P n (wA P n F) (wS P n (I 104) F).2 (I 104) sec door) F3 ms0) p) k (it (wyP P (wA P n F) (I 104) sec (wh (msQ P n (wA P n F) (wS P n (I 104) F).2 (I 104) sec door) F3 ms0)) p (100000, none))) := if_neg hcc
                          first
                          | (rw [h9] at ihk; exact ihk)
                          | exact absurd ⟨g99, g110, c124, c148⟩ hcc
        exact inner 0 (Nat.zero_le _)
  refine g_aload_n C dX10_way_0 rfl ?_
  refine g_iconst (v := 0) C dX10_way_1 (by decide) ?_
  refine g_putI (ci := 10) (k := 0) .int C dX10_way_2 rfl inGX10 tyX10_ok nmX10 (by decide) fwX10_80 ly_103 (by decide) rfl rfl rfl rfl rfl ?_
  refine g_iload_n C dX10_way_5 rfl ?_
  refine gs1I C dX10_way_6 swX10_isRight mwX10_228 ⟨by decide, by decide⟩ (s_misRight _) (Nat.le_of_ble_eq_true rfl) rfl ⟨by decide, by decide⟩ ?_
  refine g_if_eq 19 C dX10_way_9 (by decide) (fun c9 => ?_) (fun c9 => ?_)
  · exact absurd ⟨nI_pos (show sec < 2 ^ 31 by omega), nI_lt (b := 16) hse (by decide)⟩ (if01.mp c9)
  · refine g_iload_n C dX10_way_12 rfl ?_
    refine gs1I C dX10_way_13 swX10_isRight mwX10_228 ⟨by decide, by decide⟩ (s_misRight _) (Nat.le_of_ble_eq_true rfl) rfl ⟨by decide, by decide⟩ ?_
    refine g_if_ne 25 C dX10_way_16 (by decide) (fun c16 => ?_) (fun c16 => ?_)
    · refine g_aload_n C dX10_way_25 rfl ?_
      refine gv0V (ci := 10) C dX10_way_26 vwX10_works mwX10_241 ⟨by decide, by decide⟩ rfl ly_103 (Nat.le_of_ble_eq_true rfl) (s_works (mOK_T0 hm) hfu) (Nat.le_of_ble_eq_true rfl) rfl ⟨by decide, by decide⟩ ?_
      refine g_aload_n C dX10_way_29 rfl ?_
      refine g_iload_n C dX10_way_30 rfl ?_
      refine g_iload_n C dX10_way_31 rfl ?_
      refine gv2V (ci := 10) C dX10_way_32 vwX10_measures mwX10_259 ⟨by decide, by decide⟩ rfl ly_103 (Nat.le_of_ble_eq_true rfl) (s_measures (F := F3) (a := (wA P n F)) (w := (wS P n (I 104) F).2) (g := (I 104)) (mOK_wk (mOK_T0 hm)) (fun q hq => wk_118 hq) (fun q hq => wk_115 hq) (fun q hq => by unfold wkF; rw [wk_off (Or.inl (by decide)), T0_off (by decide)]) hdo hE3) (Nat.le_of_ble_eq_true rfl) rfl ⟨by decide, by decide⟩ ?_
      refine g_ldc (v := 100000) C dX10_way_35 kwX10_254 ?_
      refine g_istore_3 C dX10_way_37 (by decide) ?_
      refine g_iconst (v := (-1)) C dX10_way_38 (by decide) ?_
      refine g_istore_4 C dX10_way_39 (by decide) ?_
      refine g_bipush (v := (-2)) C dX10_way_41 (by decide) ?_
      refine g_istore_5 C dX10_way_43 (by decide) ?_
      refine g_iconst (v := 0) C dX10_way_45 (by decide) ?_
      refine g_istore_6 C dX10_way_46 (by decide) ?_
      exact lp 0 (Nat.zero_le _) _
    · exact absurd ⟨nI_pos (show door < 2 ^ 31 by omega), nI_lt (b := 16) hdo (by decide)⟩ (if01.mp c16)
set_option maxHeartbeats 4000000 in
theorem s_mway {l : Launch} {G : Gm} {I : Nat → Nat → Int32} {J : Nat → Nat → Int64} {n : Nat} {P : Pln} (hm : mOK I n P) {F F2 F3 : Nat} (hfu : ∀ g : Rw, fuOK P n g F F2) {sec door : Nat} (hse : sec < 16) (hdo : door < 16) (hE3 : whE (msQ P n (wA P n F) (wS P n (I 104) F).2 (I 104) sec door) F3 ms0) {x : Nat × Nat} (hyes : (wyF P n (wA P n F) (I 104) sec (wh (msQ P n (wA P n F) (wS P n (I 104) F).2 (I 104) sec door) F3 ms0)).1 < 100000) (hx : (wyF P n (wA P n F) (I 104) sec (wh (msQ P n (wA P n F) (wS P n (I 104) F).2 (I 104) sec door) F3 ms0)).2 = some x) (hxp : x.1 < n ∧ x.2 < P.ml x.1) (hch : wyE P n (wA P n F) (wS P n (I 104) F).2 (I 104) sec door (wh (msQ P n (wA P n F) (wS P n (I 104) F).2 (I 104) sec door) F3 ms0) 91 (8 * x.1 + P.fs x.1 x.2)) : Sp l G iX10_way [.ref (G.1 + 103), .int (nI sec), .int (nI door)] (mm I J) (RetI (wyF P n (wA P n F) (I 104) sec (wh (msQ P n (wA P n F) (wS P n (I 104) F).2 (I 104) sec door) F3 ms0)).1 (mm (tr (wyM (stRow (wkF (T0 I) P n F F2) 119 91 (wh (msQ P n (wA P n F) (wS P n (I 104) F).2 (I 104) sec door) F3 ms0)) (wyW P n (wA P n F) (wS P n (I 104) F).2 (I 104) sec door (wh (msQ P n (wA P n F) (wS P n (I 104) F).2 (I 104) sec door) F3 ms0) 91 (8 * x.1 + P.fs x.1 x.2) (1, upd (I 120) 0 (nI (100 * x.1 + x.2))))) 0) J)) noT := by
  refine Sp.of (by decide +kernel) (Nat.le_of_ble_eq_true rfl) ?_
  intro X hXl C
  subst hXl
  show Go X G 8 0 0 _ 0 [.ref (G.1 + 103), .int (nI sec), .int (nI door), uu, uu, uu, uu, uu] [] (mm I J)
  have hmM : mOK (stRow (wkF (T0 I) P n F F2) 119 91 (wh (msQ P n (wA P n F) (wS P n (I 104) F).2 (I 104) sec door) F3 ms0)) n P := mOK_119 (mOK_wk (mOK_T0 hm))
  have h118 : ∀ p : Nat, p < 10 → (stRow (wkF (T0 I) P n F F2) 119 91 (wh (msQ P n (wA P n F) (wS P n (I 104) F).2 (I 104) sec door) F3 ms0)) 118 p = (wA P n F) p := fun p hp => by rw [stRow_off (by decide)]; exact wk_118 hp
  have h104 : ∀ p : Nat, (stRow (wkF (T0 I) P n F F2) 119 91 (wh (msQ P n (wA P n F) (wS P n (I 104) F).2 (I 104) sec door) F3 ms0)) 104 p = I 104 p := fun p => by rw [stRow_off (by decide)]; unfold wkF; rw [wk_off (Or.inl (by decide)), T0_off (by decide)]
  have h115 : ∀ q : Nat, q < 80 → (stRow (wkF (T0 I) P n F F2) 119 91 (wh (msQ P n (wA P n F) (wS P n (I 104) F).2 (I 104) sec door) F3 ms0)) 115 q = (wS P n (I 104) F).2 q := fun q hq => by rw [stRow_off (by decide)]; exact wk_115 hq
  have h119 : ∀ q : Nat, q < 91 → (stRow (wkF (T0 I) P n F F2) 119 91 (wh (msQ P n (wA P n F) (wS P n (I 104) F).2 (I 104) sec door) F3 ms0)) 119 q = (wh (msQ P n (wA P n F) (wS P n (I 104) F).2 (I 104) sec door) F3 ms0) q := fun q hq => stRow_in hq
  obtain ⟨hok, hn, hml, hli⟩ := (show mOK (stRow (wkF (T0 I) P n F F2) 119 91 (wh (msQ P n (wA P n F) (wS P n (I 104) F).2 (I 104) sec door) F3 ms0)) n P from hmM)
  have hn10 := hok.1
  have hC : wyC (it (wyP P (wA P n F) (I 104) sec (wh (msQ P n (wA P n F) (wS P n (I 104) F).2 (I 104) sec door) F3 ms0)) n (100000, none)) = nI (100 * x.1 + x.2) := by (show wyC (wyF P n (wA P n F) (I 104) sec (wh (msQ P n (wA P n F) (wS P n (I 104) F).2 (I 104) sec door) F3 ms0)) = _; unfold wyC; rw [hx])
  have hS : wyS P (it (wyP P (wA P n F) (I 104) sec (wh (msQ P n (wA P n F) (wS P n (I 104) F).2 (I 104) sec door) F3 ms0)) n (100000, none)) = nI (8 * x.1 + P.fs x.1 x.2) := by (show wyS P (wyF P n (wA P n F) (I 104) sec (wh (msQ P n (wA P n F) (wS P n (I 104) F).2 (I 104) sec door) F3 ms0)) = _; unfold wyS; rw [hx])
  have hx8 := (hok.2.2 x.1 hxp.1 x.2 hxp.2).2.2.1
  have lw : ∀ (m st : Nat) (z : Nat × Rw), z.1 + m ≤ 92 → st ≤ 90 → wyE P n (wA P n F) (wS P n (I 104) F).2 (I 104) sec door (wh (msQ P n (wA P n F) (wS P n (I 104) F).2 (I 104) sec door) F3 ms0) m st → wyW P n (wA P n F) (wS P n (I 104) F).2 (I 104) sec door (wh (msQ P n (wA P n F) (wS P n (I 104) F).2 (I 104) sec door) F3 ms0) m st z = (wyW P n (wA P n F) (wS P n (I 104) F).2 (I 104) sec door (wh (msQ P n (wA P n F) (wS P n (I 104) F).2 (I 104) sec door) F3 ms0) 91 (8 * x.1 + P.fs x.1 x.2) (1, upd (I 120) 0 (nI (100 * x.1 + x.2)))) → ∀ a6 a7 : Value, Go X G 8 0 0 (KQ X G iX10_way (RetI (wyF P n (wA P n F) (I 104) sec (wh (msQ P n (wA P n F) (wS P n (I 104) F).2 (I 104) sec door) F3 ms0)).1 (mm (tr (wyM (stRow (wkF (T0 I) P n F F2) 119 91 (wh (msQ P n (wA P n F) (wS P n (I 104) F).2 (I 104) sec door) F3 ms0)) (wyW P n (wA P n F) (wS P n (I 104) F).2 (I 104) sec door (wh (msQ P n (wA P n F) (wS P n (I 104) F).2 (I 104) sec door) F3 ms0) 91 (8 * x.1 + P.fs x.1 x.2) (1, upd (I 120) 0 (nI (100 * x.1 + x.2))))) 0) J)) noT) 257 [.ref (G.1 + 103), .int (nI sec), .int (nI door), .int (wyF P n (wA P n F) (I 104) sec (wh (msQ P n (wA P n F) (wS P n (I 104) F).2 (I 104) sec door) F3 ms0)).1, .int (wyC (wyF P n (wA P n F) (I 104) sec (wh (msQ P n (wA P n F) (wS P n (I 104) F).2 (I 104) sec door) F3 ms0))), .int (nI st), a6, a7] [] (mm (wyM (stRow (wkF (T0 I) P n F F2) 119 91 (wh (msQ P n (wA P n F) (wS P n (I 104) F).2 (I 104) sec door) F3 ms0)) z) J) := by
    have fw_30 : ∀ {z : Nat × Rw} (o : Option (Nat × Nat)), fwM (wyM (stRow (wkF (T0 I) P n F F2) 119 91 (wh (msQ P n (wA P n F) (wS P n (I 104) F).2 (I 104) sec door) F3 ms0)) z) z.1 o 103 30 = nI z.1 := fun o => by
      cases o with
      | none => exact wyM_30
      | some x => exact (congrFun (up1_off (by decide)) 30).trans wyM_30
    intro m
    induction m with
    | zero =>
      intro st z hzm hst hE he a6 a7
      have h90 : st = 90 := hE
      rw [show z = (wyW P n (wA P n F) (wS P n (I 104) F).2 (I 104) sec door (wh (msQ P n (wA P n F) (wS P n (I 104) F).2 (I 104) sec door) F3 ms0) 91 (8 * x.1 + P.fs x.1 x.2) (1, upd (I 120) 0 (nI (100 * x.1 + x.2)))) from he]
      refine g_iload C dX10_way_257 rfl ?_
      refine g_bipush (v := 90) C dX10_way_259 (by decide) ?_
      refine g_icmp_eq 287 C dX10_way_261 (by decide) (fun c261 => ?_) (fun c261 => ?_)
      · refine g_aload_n C dX10_way_287 rfl ?_
        refine g_iload_n C dX10_way_288 rfl ?_
        refine gv1I (ci := 10) C dX10_way_289 vwX10_done mwX10_98 ⟨by decide, by decide⟩ rfl ly_103 (Nat.le_of_ble_eq_true rfl) (s_done _) (Nat.le_of_ble_eq_true rfl) rfl ⟨by decide, by decide⟩ ?_
        exact e_I C dX10_way_292 rfl rfl rfl rfl rfl
      · exact absurd (by rw [h90]; rfl) c261
    | succ m ih =>
      intro st z hzm hst hE he a6 a7
      by_cases h90 : st = 90
      · rw [wyW, if_pos h90] at he
        rw [he]
        refine g_iload C dX10_way_257 rfl ?_
        refine g_bipush (v := 90) C dX10_way_259 (by decide) ?_
        refine g_icmp_eq 287 C dX10_way_261 (by decide) (fun c261 => ?_) (fun c261 => ?_)
        · refine g_aload_n C dX10_way_287 rfl ?_
          refine g_iload_n C dX10_way_288 rfl ?_
          refine gv1I (ci := 10) C dX10_way_289 vwX10_done mwX10_98 ⟨by decide, by decide⟩ rfl ly_103 (Nat.le_of_ble_eq_true rfl) (s_done _) (Nat.le_of_ble_eq_true rfl) rfl ⟨by decide, by decide⟩ ?_
          exact e_I C dX10_way_292 rfl rfl rfl rfl rfl
        · exact absurd (by rw [h90]; rfl) c261
      · skip
        refine g_iload C dX10_way_257 rfl ?_
        refine g_bipush (v := 90) C dX10_way_259 (by decide) ?_
        refine g_icmp_eq 287 C dX10_way_261 (by decide) (fun c261 => ?_) (fun c261 => ?_)
        · exact absurd ((nI_eq (b := 90) (by omega) (by decide)).mp c261) h90
        · refine g_aload_n C dX10_way_264 rfl ?_
          refine g_iload C dX10_way_265 rfl ?_
          refine g_iload_n C dX10_way_267 rfl ?_
          refine g_iload_n C dX10_way_268 rfl ?_
          refine gv3I (ci := 10) C dX10_way_269 vwX10_follows mwX10_265 ⟨by decide, by decide⟩ rfl ly_103 (Nat.le_of_ble_eq_true rfl) (s_follows (a := (wA P n F)) (w := (wS P n (I 104) F).2) (g := (I 104)) (f := (wh (msQ P n (wA P n F) (wS P n (I 104) F).2 (I 104) sec door) F3 ms0)) (z := z.1) (mOK_wy hmM) (fun q hq => by rw [wyM_off (by decide) (by decide)]; exact h118 q hq) (fun q hq => by rw [wyM_off (by decide) (by decide)]; exact h115 q hq) (fun q hq => by rw [wyM_off (by decide) (by decide)]; exact h104 q) (fun q hq => by rw [wyM_off (by decide) (by decide)]; exact h119 q hq) hdo (by omega) wyM_30 (by omega)) (Nat.le_of_ble_eq_true rfl) rfl ⟨by decide, by decide⟩ ?_
          refine g_istore_5 C dX10_way_272 (by decide) ?_
          refine g_aload_n C dX10_way_274 rfl ?_
          refine g_dup C dX10_way_275 rfl ?_
          refine g_getIv (ci := 10) (k := 30) (v := nI z.1) C dX10_way_276 rfl inGX10 (by decide) fwX10_262 ly_103 (by decide) rfl (fw_30 _) ?_
          refine g_iconst (v := 1) C dX10_way_279 (by decide) ?_
          refine g_iadd C dX10_way_280 ?_
          rw [nI_1]
          refine g_putI (ci := 10) (k := 30) .int C dX10_way_281 rfl inGX10 tyX10_ok nmX10 (by decide) fwX10_262 ly_103 (by decide) rfl rfl rfl rfl rfl ?_
          refine g_goto 257 C dX10_way_284 (by decide) ?_
          rw [fwM_wy (by omega)]
          exact ih _ _ (by rw [wyR_1]; omega) (fwF_le hok) (hE.resolve_left h90) (by rw [← he, wyW, if_neg h90]) _ _
  have lp : ∀ p : Nat, p ≤ n → ∀ a7 : Value, Go X G 8 0 0 (KQ X G iX10_way (RetI (wyF P n (wA P n F) (I 104) sec (wh (msQ P n (wA P n F) (wS P n (I 104) F).2 (I 104) sec door) F3 ms0)).1 (mm (tr (wyM (stRow (wkF (T0 I) P n F F2) 119 91 (wh (msQ P n (wA P n F) (wS P n (I 104) F).2 (I 104) sec door) F3 ms0)) (wyW P n (wA P n F) (wS P n (I 104) F).2 (I 104) sec door (wh (msQ P n (wA P n F) (wS P n (I 104) F).2 (I 104) sec door) F3 ms0) 91 (8 * x.1 + P.fs x.1 x.2) (1, upd (I 120) 0 (nI (100 * x.1 + x.2))))) 0) J)) noT) 48 [.ref (G.1 + 103), .int (nI sec), .int (nI door), .int (it (wyP P (wA P n F) (I 104) sec (wh (msQ P n (wA P n F) (wS P n (I 104) F).2 (I 104) sec door) F3 ms0)) p (100000, none)).1, .int (wyC (it (wyP P (wA P n F) (I 104) sec (wh (msQ P n (wA P n F) (wS P n (I 104) F).2 (I 104) sec door) F3 ms0)) p (100000, none))), .int (wyS P (it (wyP P (wA P n F) (I 104) sec (wh (msQ P n (wA P n F) (wS P n (I 104) F).2 (I 104) sec door) F3 ms0)) p (100000, none))), .int (nI p), a7] [] (mm (stRow (wkF (T0 I) P n F F2) 119 91 (wh (msQ P n (wA P n F) (wS P n (I 104) F).2 (I 104) sec door) F3 ms0)) J) := by
    refine loopN (n) ?_ ?_
    · intro a7
      show Go X G 8 0 0 _ 48 _ [] _
      refine g_iload C dX10_way_48 rfl ?_
      refine g_aload_n C dX10_way_50 rfl ?_
      refine g_getIv (ci := 10) (k := 4) (v := nI n) C dX10_way_51 rfl inGX10 (by decide) fwX10_86 ly_103 (by decide) rfl hn ?_
      refine g_icmp_ge 218 C dX10_way_54 (by decide) (fun c54 => ?_) (fun c54 => ?_)
      · refine g_iload_n C dX10_way_218 rfl ?_
        refine g_ldc (v := 100000) C dX10_way_219 kwX10_254 ?_
        refine g_icmp_lt 231 C dX10_way_221 (by decide) (fun c221 => ?_) (fun c221 => ?_)
        · refine g_aload_n C dX10_way_231 rfl ?_
          refine g_iconst (v := 0) C dX10_way_232 (by decide) ?_
          refine g_putI (ci := 10) (k := 30) .int C dX10_way_233 rfl inGX10 tyX10_ok nmX10 (by decide) fwX10_262 ly_103 (by decide) rfl rfl rfl rfl rfl ?_
          refine g_aload_n C dX10_way_236 rfl ?_
          refine g_getR (ci := 10) (k := 29) (q := 120) C dX10_way_237 rfl inGX10 (by decide) fwX10_68 ly_103 (by decide) rfl rfl ?_
          refine g_aload_n C dX10_way_240 rfl ?_
          refine g_getIv (ci := 10) (k := 30) (v := 0) C dX10_way_241 rfl inGX10 (by decide) fwX10_262 ly_103 (by decide) rfl (up1_same _ _ _ _) ?_
          refine g_iload C dX10_way_244 rfl ?_
          refine g_iast 0 C dX10_way_246 ly_120 (by decide) (by decide) rfl (by decide) ?_
          refine g_aload_n C dX10_way_247 rfl ?_
          refine g_dup C dX10_way_248 rfl ?_
          refine g_getIv (ci := 10) (k := 30) (v := 0) C dX10_way_249 rfl inGX10 (by decide) fwX10_262 ly_103 (by decide) rfl (by rw [up1_off (by decide), up1_same]) ?_
          refine g_iconst (v := 1) C dX10_way_252 (by decide) ?_
          refine g_iadd C dX10_way_253 ?_
          refine g_putI (ci := 10) (k := 30) .int C dX10_way_254 rfl inGX10 tyX10_ok nmX10 (by decide) fwX10_262 ly_103 (by decide) rfl rfl rfl rfl rfl ?_
          rw [show (0 : Int32) + 1 = nI 1 from rfl, hC, hS, wyM_in, show (stRow (wkF (T0 I) P n F F2) 119 91 (wh (msQ P n (wA P n F) (wS P n (I 104) F).2 (I 104) sec door) F3 ms0)) 120 = I 120 by (rw [stRow_off (by decide)]; unfold wkF; rw [wk_off (Or.inr (by decide)), T0_off (by decide)])]
          have h6 := lw 91 (8 * x.1 + P.fs x.1 x.2) (1, upd (I 120) 0 (nI (100 * x.1 + x.2))) (Nat.le_refl 92) (by omega) hch rfl
          rw [show wyC (wyF P n (wA P n F) (I 104) sec (wh (msQ P n (wA P n F) (wS P n (I 104) F).2 (I 104) sec door) F3 ms0)) = nI (100 * x.1 + x.2) from hC] at h6
          exact h6 _ _
        · exact absurd hyes c221
      · exact absurd (Int32.le_refl _) c54
    · intro p hp ihp a7
      show Go X G 8 0 0 _ 48 _ [] _
      refine g_iload C dX10_way_48 rfl ?_
      refine g_aload_n C dX10_way_50 rfl ?_
      refine g_getIv (ci := 10) (k := 4) (v := nI n) C dX10_way_51 rfl inGX10 (by decide) fwX10_86 ly_103 (by decide) rfl hn ?_
      refine g_icmp_ge 218 C dX10_way_54 (by decide) (fun c54 => ?_) (fun c54 => ?_)
      · exact (nI_ge_dead (n := n) c54 hp (by omega)).elim
      · refine g_bipush (v := 12) C dX10_way_57 (by decide) ?_
        refine g_iload C dX10_way_59 rfl ?_
        refine g_imul C dX10_way_61 ?_
        rw [mul12]
        refine g_istore_7 C dX10_way_62 (by decide) ?_
        by_cases hA : (wA P n F) p = 0
        · refine g_iload C dX10_way_64 rfl ?_
          refine g_bipush (v := 12) C dX10_way_66 (by decide) ?_
          refine g_iload C dX10_way_68 rfl ?_
          refine g_imul C dX10_way_70 ?_
          rw [mul12]
          refine g_aload_n C dX10_way_71 rfl ?_
          refine g_getR (ci := 10) (k := 6) (q := 105) C dX10_way_72 rfl inGX10 (by decide) fwX10_17 ly_103 (by decide) rfl rfl ?_
          refine g_iload C dX10_way_75 rfl ?_
          refine g_ialdv (v := nI (P.ml p)) p C dX10_way_77 ly_105 (by decide) (by decide) rfl (show p < 11 by omega) (hml p hp) ?_
          refine g_iadd C dX10_way_78 ?_
          rw [nI_add]
          refine g_icmp_ge 212 C dX10_way_79 (by decide) (fun c79 => ?_) (fun c79 => ?_)
          · skip
            refine g_iinc_6 C dX10_way_212 (nI_1 p) (by decide) ?_
            refine g_goto 48 C dX10_way_215 (by decide) ?_
            have h9 : it (wyP P (wA P n F) (I 104) sec (wh (msQ P n (wA P n F) (wS P n (I 104) F).2 (I 104) sec door) F3 ms0)) (p + 1) (100000, none) = (it (wyP P (wA P n F) (I 104) sec (wh (msQ P n (wA P n F) (wS P n (I 104) F).2 (I 104) sec door) F3 ms0)) p (100000, none)) := if_pos hA
            rw [h9] at ihp
            exact ihp _
          · skip
            refine g_aload_n C dX10_way_82 rfl ?_
            refine g_getR (ci := 10) (k := 27) (q := 118) C dX10_way_83 rfl inGX10 (by decide) fwX10_61 ly_103 (by decide) rfl rfl ?_
            refine g_iload C dX10_way_86 rfl ?_
            refine g_zald _ C dX10_way_88 ly_118 (by decide) (by decide) rfl (show p < 10 by omega) ?_
            refine g_if_eq 212 C dX10_way_89 (by decide) (fun c89 => ?_) (fun c89 => ?_)
            · refine g_iinc_6 C dX10_way_212 (nI_1 p) (by decide) ?_
              refine g_goto 48 C dX10_way_215 (by decide) ?_
              have h9 : it (wyP P (wA P n F) (I 104) sec (wh (msQ P n (wA P n F) (wS P n (I 104) F).2 (I 104) sec door) F3 ms0)) (p + 1) (100000, none) = (it (wyP P (wA P n F) (I 104) sec (wh (msQ P n (wA P n F) (wS P n (I 104) F).2 (I 104) sec door) F3 ms0)) p (100000, none)) := if_pos hA
              rw [h9] at ihp
              exact ihp _
            · exact absurd ((h118 _ (show p < 10 by omega)).trans hA) c89
        have inner : ∀ k : Nat, k ≤ P.ml p → Go X G 8 0 0 (KQ X G iX10_way (RetI (wyF P n (wA P n F) (I 104) sec (wh (msQ P n (wA P n F) (wS P n (I 104) F).2 (I 104) sec door) F3 ms0)).1 (mm (tr (wyM (stRow (wkF (T0 I) P n F F2) 119 91 (wh (msQ P n (wA P n F) (wS P n (I 104) F).2 (I 104) sec door) F3 ms0)) (wyW P n (wA P n F) (wS P n (I 104) F).2 (I 104) sec door (wh (msQ P n (wA P n F) (wS P n (I 104) F).2 (I 104) sec door) F3 ms0) 91 (8 * x.1 + P.fs x.1 x.2) (1, upd (I 120) 0 (nI (100 * x.1 + x.2))))) 0) J)) noT) 64 [.ref (G.1 + 103), .int (nI sec), .int (nI door), .int (it (wyK P (I 104) sec (wh (msQ P n (wA P n F) (wS P n (I 104) F).2 (I 104) sec door) F3 ms0) p) k (it (wyP P (wA P n F) (I 104) sec (wh (msQ P n (wA P n F) (wS P n (I 104) F).2 (I 104) sec door) F3 ms0)) p (100000, none))).1, .int (wyC (it (wyK P (I 104) sec (wh (msQ P n (wA P n F) (wS P n (I 104) F).2 (I 104) sec door) F3 ms0) p) k (it (wyP P (wA P n F) (I 104) sec (wh (msQ P n (wA P n F) (wS P n (I 104) F).2 (I 104) sec door) F3 ms0)) p (100000, none)))), .int (wyS P (it (wyK P (I 104) sec (wh (msQ P n (wA P n F) (wS P n (I 104) F).2 (I 104) sec door) F3 ms0) p) k (it (wyP P (wA P n F) (I 104) sec (wh (msQ P n (wA P n F) (wS P n (I 104) F).2 (I 104) sec door) F3 ms0)) p (100000, none)))), .int (nI p), .int (nI (12 * p + k))] [] (mm (stRow (wkF (T0 I) P n F F2) 119 91 (wh (msQ P n (wA P n F) (wS P n (I 104) F).2 (I 104) sec door) F3 ms0)) J) := by
          refine loopN (P.ml p) ?_ ?_
          · skip
            show Go X G 8 0 0 _ 64 _ [] _
            have hm12 := hok.2.1 p
            refine g_iload C dX10_way_64 rfl ?_
            refine g_bipush (v := 12) C dX10_way_66 (by decide) ?_
            refine g_iload C dX10_way_68 rfl ?_
            refine g_imul C dX10_way_70 ?_
            rw [mul12]
            refine g_aload_n C dX10_way_71 rfl ?_
            refine g_getR (ci := 10) (k := 6) (q := 105) C dX10_way_72 rfl inGX10 (by decide) fwX10_17 ly_103 (by decide) rfl rfl ?_
            refine g_iload C dX10_way_75 rfl ?_
            refine g_ialdv (v := nI (P.ml p)) p C dX10_way_77 ly_105 (by decide) (by decide) rfl (show p < 11 by omega) (hml p hp) ?_
            refine g_iadd C dX10_way_78 ?_
            rw [nI_add]
            refine g_icmp_ge 212 C dX10_way_79 (by decide) (fun c79 => ?_) (fun c79 => ?_)
            · refine g_iinc_6 C dX10_way_212 (nI_1 p) (by decide) ?_
              refine g_goto 48 C dX10_way_215 (by decide) ?_
              have h9 : it (wyP P (wA P n F) (I 104) sec (wh (msQ P n (wA P n F) (wS P n (I 104) F).2 (I 104) sec door) F3 ms0)) (p + 1) (100000, none) = it (wyK P (I 104) sec (wh (msQ P n (wA P n F) (wS P n (I 104) F).2 (I 104) sec door) F3 ms0) p) (P.ml p) (it (wyP P (wA P n F) (I 104) sec (wh (msQ P n (wA P n F) (wS P n (I 104) F).2 (I 104) sec door) F3 ms0)) p (100000, none)) := if_neg hA
              rw [h9] at ihp
              exact ihp _
            · exact absurd (Int32.le_refl _) c79
          · intro k hk ihk 
            show Go X G 8 0 0 _ 64 _ [] _
            have hL := hli p hp k hk
            have hLo := hok.2.2 p hp k hk
            have hm12 := hok.2.1 p
            refine g_iload C dX10_way_64 rfl ?_
            refine g_bipush (v := 12) C dX10_way_66 (by decide) ?_
            refine g_iload C dX10_way_68 rfl ?_
            refine g_imul C dX10_way_70 ?_
            rw [mul12]
            refine g_aload_n C dX10_way_71 rfl ?_
            refine g_getR (ci := 10) (k := 6) (q := 105) C dX10_way_72 rfl inGX10 (by decide) fwX10_17 ly_103 (by decide) rfl rfl ?_
            refine g_iload C dX10_way_75 rfl ?_
            refine g_ialdv (v := nI (P.ml p)) p C dX10_way_77 ly_105 (by decide) (by decide) rfl (show p < 11 by omega) (hml p hp) ?_
            refine g_iadd C dX10_way_78 ?_
            rw [nI_add]
            refine g_icmp_ge 212 C dX10_way_79 (by decide) (fun c79 => ?_) (fun c79 => ?_)
            · exact (nI_ge_dead (n := 12 * p + P.ml p) c79 (by omega) (by omega)).elim
            · refine g_aload_n C dX10_way_82 rfl ?_
              refine g_getR (ci := 10) (k := 27) (q := 118) C dX10_way_83 rfl inGX10 (by decide) fwX10_61 ly_103 (by decide) rfl rfl ?_
              refine g_iload C dX10_way_86 rfl ?_
              refine g_zald _ C dX10_way_88 ly_118 (by decide) (by decide) rfl (show p < 10 by omega) ?_
              refine g_if_eq 212 C dX10_way_89 (by decide) (fun c89 => ?_) (fun c89 => ?_)
              · exact absurd ((h118 _ (show p < 10 by omega)).symm.trans c89) hA
              · refine g_aload_n C dX10_way_92 rfl ?_
                refine g_getR (ci := 10) (k := 8) (q := 107) C dX10_way_93 rfl inGX10 (by decide) fwX10_23 ly_103 (by decide) rfl rfl ?_
                refine g_iload C dX10_way_96 rfl ?_
                refine g_ialdv (v := nI (P.kd p k)) (12 * p + k) C dX10_way_98 ly_107 (by decide) (by decide) rfl (show 12 * p + k < 132 by omega) (hL.1) ?_
                refine g_if_ne 206 C dX10_way_99 (by decide) (fun c99 => ?_) (fun c99 => ?_)
                · have g99 : ¬ P.kd p k = 0 := fun q => c99 (by rw [q]; rfl)
                  refine g_iinc_7 C dX10_way_206 (nI_1 (12 * p + k)) (by decide) ?_
                  refine g_goto 64 C dX10_way_209 (by decide) ?_
                  by_cases hcc : P.kd p k = 0 ∧ P.nu p k = sec ∧ ¬ (I 104 p >>> (nI sec &&& 31)) &&& 1 = 0 ∧ (wh (msQ P n (wA P n F) (wS P n (I 104) F).2 (I 104) sec door) F3 ms0) (8 * p + P.fs p k) + 1 < (it (wyK P (I 104) sec (wh (msQ P n (wA P n F) (wS P n (I 104) F).2 (I 104) sec door) F3 ms0) p) k (it (wyP P (wA P n F) (I 104) sec (wh (msQ P n (wA P n F) (wS P n (I 104) F).2 (I 104) sec door) F3 ms0)) p (100000, none))).1
                  · have h9 : it (wyK P (I 104) sec (wh (msQ P n (wA P n F) (wS P n (I 104) F).2 (I 104) sec door) F3 ms0) p) (k + 1) (it (wyP P (wA P n F) (I 104) sec (wh (msQ P n (wA P n F) (wS P n (I 104) F).2 (I 104) sec door) F3 ms0)) p (100000, none)) = _ := if_pos hcc
                    first
                    | (rw [h9] at ihk; exact ihk)
                    | exact absurd hcc.1 g99
                    | exact absurd hcc.2.1 g110
                    | exact absurd c124 hcc.2.2.1
                    | exact absurd hcc.2.2.2 c148
                  · have h9 : it (wyK P (I 104) sec (wh (msQ P n (wA P n F) (wS P n (I 104) F).2 (I 104) sec door) F3 ms0) p) (k + 1) (it (wyP P (wA P n F) (I 104) sec (wh (msQ P n (wA P n F) (wS P n (I 104) F).2 (I 104) sec door) F3 ms0)) p (100000, none)) = (it (wyK P (I 104) sec (wh (msQ P n (wA P n F) (wS P n (I 104) F).2 (I 104) sec door) F3 ms0) p) k (it (wyP P (wA P n F) (I 104) sec (wh (msQ P n (wA P n F) (wS P n (I 104) F).2 (I 104) sec door) F3 ms0)) p (100000, none))) := if_neg hcc
                    first
                    | (rw [h9] at ihk; exact ihk)
                    | exact absurd ⟨g99, g110, c124, c148⟩ hcc
                · have g99 : P.kd p k = 0 := (nI_eq (b := 0) (by omega) (by decide)).mp c99
                  refine g_aload_n C dX10_way_102 rfl ?_
                  refine g_getR (ci := 10) (k := 9) (q := 108) C dX10_way_103 rfl inGX10 (by decide) fwX10_26 ly_103 (by decide) rfl rfl ?_
                  refine g_iload C dX10_way_106 rfl ?_
                  refine g_ialdv (v := nI (P.nu p k)) (12 * p + k) C dX10_way_108 ly_108 (by decide) (by decide) rfl (show 12 * p + k < 132 by omega) (hL.2.1) ?_
                  refine g_iload_n C dX10_way_109 rfl ?_
                  refine g_icmp_ne 206 C dX10_way_110 (by decide) (fun c110 => ?_) (fun c110 => ?_)
                  · have g110 : ¬ P.nu p k = sec := fun q => c110 (by rw [q])
                    refine g_iinc_7 C dX10_way_206 (nI_1 (12 * p + k)) (by decide) ?_
                    refine g_goto 64 C dX10_way_209 (by decide) ?_
                    by_cases hcc : P.kd p k = 0 ∧ P.nu p k = sec ∧ ¬ (I 104 p >>> (nI sec &&& 31)) &&& 1 = 0 ∧ (wh (msQ P n (wA P n F) (wS P n (I 104) F).2 (I 104) sec door) F3 ms0) (8 * p + P.fs p k) + 1 < (it (wyK P (I 104) sec (wh (msQ P n (wA P n F) (wS P n (I 104) F).2 (I 104) sec door) F3 ms0) p) k (it (wyP P (wA P n F) (I 104) sec (wh (msQ P n (wA P n F) (wS P n (I 104) F).2 (I 104) sec door) F3 ms0)) p (100000, none))).1
                    · have h9 : it (wyK P (I 104) sec (wh (msQ P n (wA P n F) (wS P n (I 104) F).2 (I 104) sec door) F3 ms0) p) (k + 1) (it (wyP P (wA P n F) (I 104) sec (wh (msQ P n (wA P n F) (wS P n (I 104) F).2 (I 104) sec door) F3 ms0)) p (100000, none)) = _ := if_pos hcc
                      first
                      | (rw [h9] at ihk; exact ihk)
                      | exact absurd hcc.1 g99
                      | exact absurd hcc.2.1 g110
                      | exact absurd c124 hcc.2.2.1
                      | exact absurd hcc.2.2.2 c148
                    · have h9 : it (wyK P (I 104) sec (wh (msQ P n (wA P n F) (wS P n (I 104) F).2 (I 104) sec door) F3 ms0) p) (k + 1) (it (wyP P (wA P n F) (I 104) sec (wh (msQ P n (wA P n F) (wS P n (I 104) F).2 (I 104) sec door) F3 ms0)) p (100000, none)) = (it (wyK P (I 104) sec (wh (msQ P n (wA P n F) (wS P n (I 104) F).2 (I 104) sec door) F3 ms0) p) k (it (wyP P (wA P n F) (I 104) sec (wh (msQ P n (wA P n F) (wS P n (I 104) F).2 (I 104) sec door) F3 ms0)) p (100000, none))) := if_neg hcc
                      first
                      | (rw [h9] at ihk; exact ihk)
                      | exact absurd ⟨g99, g110, c124, c148⟩ hcc
                  · have g110 : P.nu p k = sec := (nI_eq (by omega) (by omega)).mp c110
                    refine g_aload_n C dX10_way_113 rfl ?_
                    refine g_getR (ci := 10) (k := 5) (q := 104) C dX10_way_114 rfl inGX10 (by decide) fwX10_13 ly_103 (by decide) rfl rfl ?_
                    refine g_iload C dX10_way_117 rfl ?_
                    refine g_ialdv (v := I 104 p) p C dX10_way_119 ly_104 (by decide) (by decide) rfl (show p < 10 by omega) (h104 p) ?_
                    refine g_iload_n C dX10_way_120 rfl ?_
                    refine g_ishr C dX10_way_121 ?_
                    refine g_iconst (v := 1) C dX10_way_122 (by decide) ?_
                    refine g_iand C dX10_way_123 ?_
                    refine g_if_eq 206 C dX10_way_124 (by decide) (fun c124 => ?_) (fun c124 => ?_)
                    · skip
                      refine g_iinc_7 C dX10_way_206 (nI_1 (12 * p + k)) (by decide) ?_
                      refine g_goto 64 C dX10_way_209 (by decide) ?_
                      by_cases hcc : P.kd p k = 0 ∧ P.nu p k = sec ∧ ¬ (I 104 p >>> (nI sec &&& 31)) &&& 1 = 0 ∧ (wh (msQ P n (wA P n F) (wS P n (I 104) F).2 (I 104) sec door) F3 ms0) (8 * p + P.fs p k) + 1 < (it (wyK P (I 104) sec (wh (msQ P n (wA P n F) (wS P n (I 104) F).2 (I 104) sec door) F3 ms0) p) k (it (wyP P (wA P n F) (I 104) sec (wh (msQ P n (wA P n F) (wS P n (I 104) F).2 (I 104) sec door) F3 ms0)) p (100000, none))).1
                      · have h9 : it (wyK P (I 104) sec (wh (msQ P n (wA P n F) (wS P n (I 104) F).2 (I 104) sec door) F3 ms0) p) (k + 1) (it (wyP P (wA P n F) (I 104) sec (wh (msQ P n (wA P n F) (wS P n (I 104) F).2 (I 104) sec door) F3 ms0)) p (100000, none)) = _ := if_pos hcc
                        first
                        | (rw [h9] at ihk; exact ihk)
                        | exact absurd hcc.1 g99
                        | exact absurd hcc.2.1 g110
                        | exact absurd c124 hcc.2.2.1
                        | exact absurd hcc.2.2.2 c148
                      · have h9 : it (wyK P (I 104) sec (wh (msQ P n (wA P n F) (wS P n (I 104) F).2 (I 104) sec door) F3 ms0) p) (k + 1) (it (wyP P (wA P n F) (I 104) sec (wh (msQ P n (wA P n F) (wS P n (I 104) F).2 (I 104) sec door) F3 ms0)) p (100000, none)) = (it (wyK P (I 104) sec (wh (msQ P n (wA P n F) (wS P n (I 104) F).2 (I 104) sec door) F3 ms0) p) k (it (wyP P (wA P n F) (I 104) sec (wh (msQ P n (wA P n F) (wS P n (I 104) F).2 (I 104) sec door) F3 ms0)) p (100000, none))) := if_neg hcc
                        first
                        | (rw [h9] at ihk; exact ihk)
                        | exact absurd ⟨g99, g110, c124, c148⟩ hcc
                    · skip
                      refine g_aload_n C dX10_way_127 rfl ?_
                      refine g_getR (ci := 10) (k := 28) (q := 119) C dX10_way_128 rfl inGX10 (by decide) fwX10_65 ly_103 (by decide) rfl rfl ?_
                      refine g_bipush (v := 8) C dX10_way_131 (by decide) ?_
                      refine g_iload C dX10_way_133 rfl ?_
                      refine g_imul C dX10_way_135 ?_
                      rw [mul8]
                      refine g_aload_n C dX10_way_136 rfl ?_
                      refine g_getR (ci := 10) (k := 10) (q := 109) C dX10_way_137 rfl inGX10 (by decide) fwX10_29 ly_103 (by decide) rfl rfl ?_
                      refine g_iload C dX10_way_140 rfl ?_
                      refine g_ialdv (v := nI (P.fs p k)) (12 * p + k) C dX10_way_142 ly_109 (by decide) (by decide) rfl (show 12 * p + k < 132 by omega) (hL.2.2.1) ?_
                      refine g_iadd C dX10_way_143 ?_
                      rw [nI_add]
                      refine g_ialdv (v := (wh (msQ P n (wA P n F) (wS P n (I 104) F).2 (I 104) sec door) F3 ms0) (8 * p + P.fs p k)) (8 * p + P.fs p k) C dX10_way_144 ly_119 (by decide) (by decide) rfl (show (8 * p + P.fs p k) < 91 by omega) (stRow_in (show (8 * p + P.fs p k) < 91 by omega)) ?_
                      refine g_iconst (v := 1) C dX10_way_145 (by decide) ?_
                      refine g_iadd C dX10_way_146 ?_
                      refine g_iload_n C dX10_way_147 rfl ?_
                      refine g_icmp_lt 154 C dX10_way_148 (by decide) (fun c148 => ?_) (fun c148 => ?_)
                      · skip
                        refine g_aload_n C dX10_way_154 rfl ?_
                        refine g_getR (ci := 10) (k := 28) (q := 119) C dX10_way_155 rfl inGX10 (by decide) fwX10_65 ly_103 (by decide) rfl rfl ?_
                        refine g_bipush (v := 8) C dX10_way_158 (by decide) ?_
                        refine g_iload C dX10_way_160 rfl ?_
                        refine g_imul C dX10_way_162 ?_
                        rw [mul8]
                        refine g_aload_n C dX10_way_163 rfl ?_
                        refine g_getR (ci := 10) (k := 10) (q := 109) C dX10_way_164 rfl inGX10 (by decide) fwX10_29 ly_103 (by decide) rfl rfl ?_
                        refine g_iload C dX10_way_167 rfl ?_
                        refine g_ialdv (v := nI (P.fs p k)) (12 * p + k) C dX10_way_169 ly_109 (by decide) (by decide) rfl (show 12 * p + k < 132 by omega) (hL.2.2.1) ?_
                        refine g_iadd C dX10_way_170 ?_
                        rw [nI_add]
                        refine g_ialdv (v := (wh (msQ P n (wA P n F) (wS P n (I 104) F).2 (I 104) sec door) F3 ms0) (8 * p + P.fs p k)) (8 * p + P.fs p k) C dX10_way_171 ly_119 (by decide) (by decide) rfl (show (8 * p + P.fs p k) < 91 by omega) (stRow_in (show (8 * p + P.fs p k) < 91 by omega)) ?_
                        refine g_iconst (v := 1) C dX10_way_172 (by decide) ?_
                        refine g_iadd C dX10_way_173 ?_
                        refine g_istore_3 C dX10_way_174 (by decide) ?_
                        refine g_bipush (v := 100) C dX10_way_175 (by decide) ?_
                        refine g_iload C dX10_way_177 rfl ?_
                        refine g_imul C dX10_way_179 ?_
                        rw [mul100]
                        refine g_iload C dX10_way_180 rfl ?_
                        refine g_iadd C dX10_way_182 ?_
                        rw [nI_add]
                        refine g_bipush (v := 12) C dX10_way_183 (by decide) ?_
                        refine g_iload C dX10_way_185 rfl ?_
                        refine g_imul C dX10_way_187 ?_
                        rw [mul12]
                        refine g_isub C dX10_way_188 ?_
                        rw [cod]
                        refine g_istore_4 C dX10_way_189 (by decide) ?_
                        refine g_bipush (v := 8) C dX10_way_191 (by decide) ?_
                        refine g_iload C dX10_way_193 rfl ?_
                        refine g_imul C dX10_way_195 ?_
                        rw [mul8]
                        refine g_aload_n C dX10_way_196 rfl ?_
                        refine g_getR (ci := 10) (k := 10) (q := 109) C dX10_way_197 rfl inGX10 (by decide) fwX10_29 ly_103 (by decide) rfl rfl ?_
                        refine g_iload C dX10_way_200 rfl ?_
                        refine g_ialdv (v := nI (P.fs p k)) (12 * p + k) C dX10_way_202 ly_109 (by decide) (by decide) rfl (show 12 * p + k < 132 by omega) (hL.2.2.1) ?_
                        refine g_iadd C dX10_way_203 ?_
                        rw [nI_add]
                        refine g_istore_5 C dX10_way_204 (by decide) ?_
                        refine g_iinc_7 C dX10_way_206 (nI_1 (12 * p + k)) (by decide) ?_
                        refine g_goto 64 C dX10_way_209 (by decide) ?_
                        by_cases hcc : P.kd p k = 0 ∧ P.nu p k = sec ∧ ¬ (I 104 p >>> (nI sec &&& 31)) &&& 1 = 0 ∧ (wh (msQ P n (wA P n F) (wS P n (I 104) F).2 (I 104) sec door) F3 ms0) (8 * p + P.fs p k) + 1 < (it (wyK P (I 104) sec (wh (msQ P n (wA P n F) (wS P n (I 104) F).2 (I 104) sec door) F3 ms0) p) k (it (wyP P (wA P n F) (I 104) sec (wh (msQ P n (wA P n F) (wS P n (I 104) F).2 (I 104) sec door) F3 ms0)) p (100000, none))).1
                        · have h9 : it (wyK P (I 104) sec (wh (msQ P n (wA P n F) (wS P n (I 104) F).2 (I 104) sec door) F3 ms0) p) (k + 1) (it (wyP P (wA P n F) (I 104) sec (wh (msQ P n (wA P n F) (wS P n (I 104) F).2 (I 104) sec door) F3 ms0)) p (100000, none)) = _ := if_pos hcc
                          first
                          | (rw [h9] at ihk; exact ihk)
                          | exact absurd hcc.1 g99
                          | exact absurd hcc.2.1 g110
                          | exact absurd c124 hcc.2.2.1
                          | exact absurd hcc.2.2.2 c148
                        · have h9 : it (wyK P (I 104) sec (wh (msQ P n (wA P n F) (wS P n (I 104) F).2 (I 104) sec door) F3 ms0) p) (k + 1) (it (wyP P (wA P n F) (I 104) sec (wh (msQ P n (wA P n F) (wS P n (I 104) F).2 (I 104) sec door) F3 ms0)) p (100000, none)) = (it (wyK P (I 104) sec (wh (msQ P n (wA P n F) (wS P n (I 104) F).2 (I 104) sec door) F3 ms0) p) k (it (wyP P (wA P n F) (I 104) sec (wh (msQ P n (wA P n F) (wS P n (I 104) F).2 (I 104) sec door) F3 ms0)) p (100000, none))) := if_neg hcc
                          first
                          | (rw [h9] at ihk; exact ihk)
                          | exact absurd ⟨g99, g110, c124, c148⟩ hcc
                      · skip
                        refine g_goto 206 C dX10_way_151 (by decide) ?_
                        refine g_iinc_7 C dX10_way_206 (nI_1 (12 * p + k)) (by decide) ?_
                        refine g_goto 64 C dX10_way_209 (by decide) ?_
                        by_cases hcc : P.kd p k = 0 ∧ P.nu p k = sec ∧ ¬ (I 104 p >>> (nI sec &&& 31)) &&& 1 = 0 ∧ (wh (msQ P n (wA P n F) (wS P n (I 104) F).2 (I 104) sec door) F3 ms0) (8 * p + P.fs p k) + 1 < (it (wyK P (I 104) sec (wh (msQ P n (wA P n F) (wS P n (I 104) F).2 (I 104) sec door) F3 ms0) p) k (it (wyP P (wA P n F) (I 104) sec (wh (msQ P n (wA P n F) (wS P n (I 104) F).2 (I 104) sec door) F3 ms0)) p (100000, none))).1
                        · have h9 : it (wyK P (I 104) sec (wh (msQ P n (wA P n F) (wS P n (I 104) F).2 (I 104) sec door) F3 ms0) p) (k + 1) (it (wyP P (wA P n F) (I 104) sec (wh (msQ P n (wA P n F) (wS P n (I 104) F).2 (I 104) sec door) F3 ms0)) p (100000, none)) = _ := if_pos hcc
                          first
                          | (rw [h9] at ihk; exact ihk)
                          | exact absurd hcc.1 g99
                          | exact absurd hcc.2.1 g110
                          | exact absurd c124 hcc.2.2.1
                          | exact absurd hcc.2.2.2 c148
                        · have h9 : it (wyK P (I 104) sec (wh (msQ P n (wA P n F) (wS P n (I 104) F).2 (I 104) sec door) F3 ms0) p) (k + 1) (it (wyP P (wA P n F) (I 104) sec (wh (msQ P n (wA P n F) (wS P n (I 104) F).2 (I 104) sec door) F3 ms0)) p (100000, none)) = (it (wyK P (I 104) sec (wh (msQ P n (wA P n F) (wS P n (I 104) F).2 (I 104) sec door) F3 ms0) p) k (it (wyP P (wA P n F) (I 104) sec (wh (msQ P n (wA P n F) (wS P n (I 104) F).2 (I 104) sec door) F3 ms0)) p (100000, none))) := if_neg hcc
                          first
                          | (rw [h9] at ihk; exact ihk)
                          | exact absurd ⟨g99, g110, c124, c148⟩ hcc
        exact inner 0 (Nat.zero_le _)
  refine g_aload_n C dX10_way_0 rfl ?_
  refine g_iconst (v := 0) C dX10_way_1 (by decide) ?_
  refine g_putI (ci := 10) (k := 0) .int C dX10_way_2 rfl inGX10 tyX10_ok nmX10 (by decide) fwX10_80 ly_103 (by decide) rfl rfl rfl rfl rfl ?_
  refine g_iload_n C dX10_way_5 rfl ?_
  refine gs1I C dX10_way_6 swX10_isRight mwX10_228 ⟨by decide, by decide⟩ (s_misRight _) (Nat.le_of_ble_eq_true rfl) rfl ⟨by decide, by decide⟩ ?_
  refine g_if_eq 19 C dX10_way_9 (by decide) (fun c9 => ?_) (fun c9 => ?_)
  · exact absurd ⟨nI_pos (show sec < 2 ^ 31 by omega), nI_lt (b := 16) hse (by decide)⟩ (if01.mp c9)
  · refine g_iload_n C dX10_way_12 rfl ?_
    refine gs1I C dX10_way_13 swX10_isRight mwX10_228 ⟨by decide, by decide⟩ (s_misRight _) (Nat.le_of_ble_eq_true rfl) rfl ⟨by decide, by decide⟩ ?_
    refine g_if_ne 25 C dX10_way_16 (by decide) (fun c16 => ?_) (fun c16 => ?_)
    · refine g_aload_n C dX10_way_25 rfl ?_
      refine gv0V (ci := 10) C dX10_way_26 vwX10_works mwX10_241 ⟨by decide, by decide⟩ rfl ly_103 (Nat.le_of_ble_eq_true rfl) (s_works (mOK_T0 hm) hfu) (Nat.le_of_ble_eq_true rfl) rfl ⟨by decide, by decide⟩ ?_
      refine g_aload_n C dX10_way_29 rfl ?_
      refine g_iload_n C dX10_way_30 rfl ?_
      refine g_iload_n C dX10_way_31 rfl ?_
      refine gv2V (ci := 10) C dX10_way_32 vwX10_measures mwX10_259 ⟨by decide, by decide⟩ rfl ly_103 (Nat.le_of_ble_eq_true rfl) (s_measures (F := F3) (a := (wA P n F)) (w := (wS P n (I 104) F).2) (g := (I 104)) (mOK_wk (mOK_T0 hm)) (fun q hq => wk_118 hq) (fun q hq => wk_115 hq) (fun q hq => by unfold wkF; rw [wk_off (Or.inl (by decide)), T0_off (by decide)]) hdo hE3) (Nat.le_of_ble_eq_true rfl) rfl ⟨by decide, by decide⟩ ?_
      refine g_ldc (v := 100000) C dX10_way_35 kwX10_254 ?_
      refine g_istore_3 C dX10_way_37 (by decide) ?_
      refine g_iconst (v := (-1)) C dX10_way_38 (by decide) ?_
      refine g_istore_4 C dX10_way_39 (by decide) ?_
      refine g_bipush (v := (-2)) C dX10_way_41 (by decide) ?_
      refine g_istore_5 C dX10_way_43 (by decide) ?_
      refine g_iconst (v := 0) C dX10_way_45 (by decide) ?_
      refine g_istore_6 C dX10_way_46 (by decide) ?_
      exact lp 0 (Nat.zero_le _) _
    · exact absurd ⟨nI_pos (show door < 2 ^ 31 by omega), nI_lt (b := 16) hdo (by decide)⟩ (if01.mp c16)
