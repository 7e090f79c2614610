/-- the links: c of them, each between two places -/
def lksOK (I : Nat → Nat → Int32) (c : Nat) : Prop := I 73 9 = nI c ∧ c ≤ 480 ∧ ∀ i, i < c → (∃ a, I 78 i = nI a ∧ a < 250) ∧ ∃ b, I 79 i = nI b ∧ b < 250
/-- a secret goes along a link -/
def rst (rf rt rw : Nat → Int32) (i : Nat) (s : (Nat → Int32) × Int32) : (Nat → Int32) × Int32 :=
  (upd s.1 (cn (rt i)) (s.1 (cn (rt i)) ||| (s.1 (cn (rf i)) &&& (rw (cn (rt i)) ^^^ (-1)) &&& (s.1 (cn (rt i)) ^^^ (-1)))), s.2 ||| (if s.1 (cn (rf i)) &&& (rw (cn (rt i)) ^^^ (-1)) &&& (s.1 (cn (rt i)) ^^^ (-1)) = 0 then 0 else 1))
def spw (f : (Nat → Int32) × Int32 → (Nat → Int32) × Int32) : Nat → (Nat → Int32) × Int32 → (Nat → Int32)
  | 0, s => s.1
  | k + 1, s => if s.2 = 0 then s.1 else spw f k (f (s.1, 0))
def sp0 (I : Nat → Nat → Int32) (o m : Nat) : (Nat → Int32) × Int32 := if I 75 o = 0 then (fun _ => 0, 0) else (it (sdF o (I (6 + 6 * o + 1 + 0)) (I (6 + 6 * o + 1 + 1)) (I (6 + 6 * o + 1 + 2))) m (fun _ => 0), 1)
/-- where the secrets that the part o gets come -/
def sprR (I : Nat → Nat → Int32) (o m c : Nat) : Nat → Int32 := spw (it (rst (I 78) (I 79) (I 77)) c) 250 (sp0 I o m)
def sprF (I : Nat → Nat → Int32) (o m c : Nat) : Nat → Nat → Int32 := stRow I (82 + o) 250 (sprR I o m c)
theorem flRow_st (I : Nat → Nat → Int32) (o m : Nat) (v : Int32) : flRow I o m v = stRow I o m (fun _ => v) := rfl
set_option maxHeartbeats 1000000 in
theorem s_spread {l : Launch} {G : Gm} {I : Nat → Nat → Int32} {J : Nat → Nat → Int64} {o m c : Nat} (ho : o < 10) (hm : I (6 + 6 * o) 5 = nI m) (hm12 : m ≤ 12) (hff : ∀ k, k < m → ∃ f, I (6 + 6 * o + 1 + 2) k = nI f ∧ f < 8) (hlk : lksOK I c) : Sp l G iX1_spread [.ref (G.1 + 73), .int (nI o)] (mm I J) (RetV (mm (sprF I o m c) J)) noT := by
  refine Sp.of (by decide +kernel) (Nat.le_of_ble_eq_true rfl) ?_
  intro X hXl C
  subst hXl
  show Go X G 8 0 0 _ 0 [.ref (G.1 + 73), .int (nI o), uu, uu, uu, uu, uu, uu] [] (mm I J)
  have main : ∀ (j r : Nat) (h : Nat → Int32) (mv : Int32) (a5 a6 a7 : Value), r + j = 250 → spw (it (rst (I 78) (I 79) (I 77)) c) j (h, mv) = sprR I o m c → Go X G 8 0 0 (KQ X G iX1_spread (RetV (mm (sprF I o m c) J)) noT) 22 [.ref (G.1 + 73), .int (nI o), .ref (G.1 + (82 + o)), .int mv, .int (nI r), a5, a6, a7] [] (mm (stRow I (82 + o) 250 h) J) := by
    intro j
    induction j with
    | zero =>
      intro r h mv a5 a6 a7 hr hf
      refine g_iload C dX1_spread_22 rfl ?_
      refine g_sipush (v := 250) C dX1_spread_24 (by decide) ?_
      refine g_icmp_ge 119 C dX1_spread_27 (by decide) (fun c27 => ?_) (fun c27 => ?_)
      · exact e_V C dX1_spread_119 rfl rfl rfl (by rw [sprF, ← hf]; rfl)
      · exact absurd (nI_le (a := 250) (by omega) (by omega)) c27
    | succ j ihj =>
      intro r h mv a5 a6 a7 hr hf
      refine g_iload C dX1_spread_22 rfl ?_
      refine g_sipush (v := 250) C dX1_spread_24 (by decide) ?_
      refine g_icmp_ge 119 C dX1_spread_27 (by decide) (fun c27 => ?_) (fun c27 => ?_)
      · exact absurd (nI_l' (a := 250) c27 (by omega) (by omega)) (by omega)
      · refine g_iload_n C dX1_spread_30 rfl ?_
        refine g_if_eq 119 C dX1_spread_31 (by decide) (fun c31 => ?_) (fun c31 => ?_)
        · simp only [spw, if_pos c31] at hf
          exact e_V C dX1_spread_119 rfl rfl rfl (by rw [sprF, ← hf])
        · simp only [spw, if_neg c31] at hf
          have inner : ∀ i : Nat, i ≤ c → ∀ a6 a7 : Value, Go X G 8 0 0 (KQ X G iX1_spread (RetV (mm (sprF I o m c) J)) noT) 39 [.ref (G.1 + 73), .int (nI o), .ref (G.1 + (82 + o)), .int (it (rst (I 78) (I 79) (I 77)) i (h, 0)).2, .int (nI r), .int (nI i), a6, a7] [] (mm (stRow I (82 + o) 250 (it (rst (I 78) (I 79) (I 77)) i (h, 0)).1) J) := by
            refine loopN c ?_ ?_
            · intro a6 a7
              show Go X G 8 0 0 _ 39 _ [] _
              refine g_iload C dX1_spread_39 rfl ?_
              refine g_aload_n C dX1_spread_41 rfl ?_
              refine g_getIv (ci := 1) (k := 9) (v := nI c) C dX1_spread_42 rfl inGX1 (by decide) fwX1_69 ly_73 (by decide) rfl (by rw [stRow_off (by omega)]; exact hlk.1) ?_
              refine g_icmp_ge 113 C dX1_spread_45 (by decide) (fun c45 => ?_) (fun c45 => ?_)
              · refine g_iinc_4 C dX1_spread_113 (nI_1 r) (by decide) ?_
                refine g_goto 22 C dX1_spread_116 (by decide) ?_
                exact ihj (r + 1) _ _ _ _ _ (by omega) hf
              · exact absurd (Int32.le_refl _) c45
            · intro i hi ihi a6 a7
              show Go X G 8 0 0 _ 39 _ [] _
              refine g_iload C dX1_spread_39 rfl ?_
              refine g_aload_n C dX1_spread_41 rfl ?_
              refine g_getIv (ci := 1) (k := 9) (v := nI c) C dX1_spread_42 rfl inGX1 (by decide) fwX1_69 ly_73 (by decide) rfl (by rw [stRow_off (by omega)]; exact hlk.1) ?_
              refine g_icmp_ge 113 C dX1_spread_45 (by decide) (fun c45 => ?_) (fun c45 => ?_)
              · exact (nI_ge_dead (n := c) c45 hi (by have := hlk.2.1; omega)).elim
              · obtain ⟨⟨a, ha, ha2⟩, b, hb1, hb2⟩ := hlk.2.2 i hi
                have hca : cn (I 78 i) = a := by rw [ha]; exact nI_clamp (by omega)
                have hcb : cn (I 79 i) = b := by rw [hb1]; exact nI_clamp (by omega)
                have hi2 : i < 480 := by have := hlk.2.1; omega
                refine g_aload_n C dX1_spread_48 rfl ?_
                refine g_getR (ci := 1) (k := 6) (q := 79) C dX1_spread_49 rfl inGX1 (by decide) fwX1_27 ly_73 (by decide) rfl rfl ?_
                refine g_iload C dX1_spread_52 rfl ?_
                refine g_ialdv (v := nI b) _ C dX1_spread_54 ly_79 (by decide) (by decide) rfl (by omega) (by rw [stRow_off (by omega)]; exact hb1) ?_
                refine g_istore_6 C dX1_spread_55 (by decide) ?_
                refine g_aload_n C dX1_spread_57 rfl ?_
                refine g_aload_n C dX1_spread_58 rfl ?_
                refine g_getR (ci := 1) (k := 5) (q := 78) C dX1_spread_59 rfl inGX1 (by decide) fwX1_24 ly_73 (by decide) rfl rfl ?_
                refine g_iload C dX1_spread_62 rfl ?_
                refine g_ialdv (v := nI a) _ C dX1_spread_64 ly_78 (by decide) (by decide) rfl (by omega) (by rw [stRow_off (by omega)]; exact ha) ?_
                refine g_ialdv (v := (it (rst (I 78) (I 79) (I 77)) i (h, 0)).1 a) _ C dX1_spread_65 (ly_came ho) (by omega) (by decide) rfl ha2 (stRow_in ha2) ?_
                refine g_aload_n C dX1_spread_66 rfl ?_
                refine g_getR (ci := 1) (k := 4) (q := 77) C dX1_spread_67 rfl inGX1 (by decide) fwX1_21 ly_73 (by decide) rfl rfl ?_
                refine g_iload C dX1_spread_70 rfl ?_
                refine g_ialdv (v := I 77 b) _ C dX1_spread_72 ly_77 (by decide) (by decide) rfl hb2 (by rw [stRow_off (by omega)]) ?_
                refine g_iconst (v := (-1)) C dX1_spread_73 (by decide) ?_
                refine g_ixor C dX1_spread_74 ?_
                refine g_iand C dX1_spread_75 ?_
                refine g_aload_n C dX1_spread_76 rfl ?_
                refine g_iload C dX1_spread_77 rfl ?_
                refine g_ialdv (v := (it (rst (I 78) (I 79) (I 77)) i (h, 0)).1 b) _ C dX1_spread_79 (ly_came ho) (by omega) (by decide) rfl hb2 (stRow_in hb2) ?_
                refine g_iconst (v := (-1)) C dX1_spread_80 (by decide) ?_
                refine g_ixor C dX1_spread_81 ?_
                refine g_iand C dX1_spread_82 ?_
                refine g_istore_7 C dX1_spread_83 (by decide) ?_
                refine g_aload_n C dX1_spread_85 rfl ?_
                refine g_iload C dX1_spread_86 rfl ?_
                refine g_dup2 C dX1_spread_88 rfl rfl ?_
                refine g_ialdv (v := (it (rst (I 78) (I 79) (I 77)) i (h, 0)).1 b) _ C dX1_spread_89 (ly_came ho) (by omega) (by decide) rfl hb2 (stRow_in hb2) ?_
                refine g_iload C dX1_spread_90 rfl ?_
                refine g_ior C dX1_spread_92 ?_
                refine g_iast _ C dX1_spread_93 (ly_came ho) (by omega) (by decide) rfl hb2 ?_
                refine g_iload_n C dX1_spread_94 rfl ?_
                refine g_iload C dX1_spread_95 rfl ?_
                refine g_if_eq 104 C dX1_spread_97 (by decide) (fun c97 => ?_) (fun c97 => ?_)
                · refine g_iconst (v := 0) C dX1_spread_104 (by decide) ?_
                  refine g_ior C dX1_spread_105 ?_
                  refine g_istore_3 C dX1_spread_106 (by decide) ?_
                  refine g_iinc_5 C dX1_spread_107 (nI_1 i) (by decide) ?_
                  refine g_goto 39 C dX1_spread_110 (by decide) ?_
                  first
                    | (simp only [it, rst, hca, hcb, if_pos c97] at ihi; rw [stRow_up hb2]; exact ihi _ _)
                    | (simp only [it, rst, hca, hcb, if_neg c97] at ihi; rw [stRow_up hb2]; exact ihi _ _)
                · refine g_iconst (v := 1) C dX1_spread_100 (by decide) ?_
                  refine g_goto 105 C dX1_spread_101 (by decide) ?_
                  refine g_ior C dX1_spread_105 ?_
                  refine g_istore_3 C dX1_spread_106 (by decide) ?_
                  refine g_iinc_5 C dX1_spread_107 (nI_1 i) (by decide) ?_
                  refine g_goto 39 C dX1_spread_110 (by decide) ?_
                  first
                    | (simp only [it, rst, hca, hcb, if_pos c97] at ihi; rw [stRow_up hb2]; exact ihi _ _)
                    | (simp only [it, rst, hca, hcb, if_neg c97] at ihi; rw [stRow_up hb2]; exact ihi _ _)
          refine g_iconst (v := 0) C dX1_spread_34 (by decide) ?_
          refine g_istore_3 C dX1_spread_35 (by decide) ?_
          refine g_iconst (v := 0) C dX1_spread_36 (by decide) ?_
          refine g_istore_5 C dX1_spread_37 (by decide) ?_
          exact inner 0 (Nat.zero_le _) _ _
  by_cases hg : I 75 o = 0
  · refine g_aload_n C dX1_spread_0 rfl ?_
    refine g_getR (ci := 1) (k := 8) (q := 81) C dX1_spread_1 rfl inGX1 (by decide) fwX1_35 ly_73 (by decide) rfl rfl ?_
    refine g_iload_n C dX1_spread_4 rfl ?_
    refine g_aald (q := 82 + o) o C dX1_spread_5 ly_81 (Or.inr ⟨rfl, rfl⟩) (by decide) (by decide) rfl ho (rf_came ho) ?_
    refine g_astore_2 C dX1_spread_6 (by decide) ?_
    refine g_aload_n C dX1_spread_7 rfl ?_
    refine g_iconst (v := 0) C dX1_spread_8 (by decide) ?_
    refine gs2V C dX1_spread_9 swJ7_fill_53178 mwX1_72 ⟨by decide, by decide⟩ (s_fill (ly_came ho) (by omega) (by decide) _) (Nat.le_of_ble_eq_true rfl) rfl ⟨by decide, by decide⟩ ?_
    refine g_aload_n C dX1_spread_12 rfl ?_
    refine g_iload_n C dX1_spread_13 rfl ?_
    refine g_aload_n C dX1_spread_14 rfl ?_
    refine gv2I (ci := 1) C dX1_spread_15 vwX1_seed mwX1_123 ⟨by decide, by decide⟩ rfl ly_73 (Nat.le_of_ble_eq_true rfl) (s_seed0 ho (by rw [flRow_st, stRow_off (by omega)]; exact hm) (by rw [flRow_st, stRow_off (by omega)]; exact hg)) (Nat.le_of_ble_eq_true rfl) rfl ⟨by decide, by decide⟩ ?_
    refine g_istore_3 C dX1_spread_18 (by decide) ?_
    refine g_iconst (v := 0) C dX1_spread_19 (by decide) ?_
    refine g_istore_4 C dX1_spread_20 (by decide) ?_
    refine main 250 0 (fun _ => 0) 0 _ _ _ rfl ?_
    rw [sprR, sp0, if_pos hg]
  · refine g_aload_n C dX1_spread_0 rfl ?_
    refine g_getR (ci := 1) (k := 8) (q := 81) C dX1_spread_1 rfl inGX1 (by decide) fwX1_35 ly_73 (by decide) rfl rfl ?_
    refine g_iload_n C dX1_spread_4 rfl ?_
    refine g_aald (q := 82 + o) o C dX1_spread_5 ly_81 (Or.inr ⟨rfl, rfl⟩) (by decide) (by decide) rfl ho (rf_came ho) ?_
    refine g_astore_2 C dX1_spread_6 (by decide) ?_
    refine g_aload_n C dX1_spread_7 rfl ?_
    refine g_iconst (v := 0) C dX1_spread_8 (by decide) ?_
    refine gs2V C dX1_spread_9 swJ7_fill_53178 mwX1_72 ⟨by decide, by decide⟩ (s_fill (ly_came ho) (by omega) (by decide) _) (Nat.le_of_ble_eq_true rfl) rfl ⟨by decide, by decide⟩ ?_
    refine g_aload_n C dX1_spread_12 rfl ?_
    refine g_iload_n C dX1_spread_13 rfl ?_
    refine g_aload_n C dX1_spread_14 rfl ?_
    refine gv2I (ci := 1) C dX1_spread_15 vwX1_seed mwX1_123 ⟨by decide, by decide⟩ rfl ly_73 (Nat.le_of_ble_eq_true rfl) (s_seed1 (h := fun _ => 0) ho hm hm12 hg hff) (Nat.le_of_ble_eq_true rfl) rfl ⟨by decide, by decide⟩ ?_
    refine g_istore_3 C dX1_spread_18 (by decide) ?_
    refine g_iconst (v := 0) C dX1_spread_19 (by decide) ?_
    refine g_istore_4 C dX1_spread_20 (by decide) ?_
    refine main 250 0 _ 1 _ _ _ rfl ?_
    rw [sprR, sp0, if_neg hg]
