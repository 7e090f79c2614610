set_option maxHeartbeats 1000000 in
theorem s_startTrial {l : Launch} {G : Gm} {I : Nat → Nat → Int32} {J : Nat → Nat → Int64} : Sp l G iX4_startTrial [.ref (G.1 + 98)] (mm I J) (RetV (mm (cpRow I 4 99 10) J)) noT := by
  refine Sp.of (by decide +kernel) (Nat.le_of_ble_eq_true rfl) ?_
  intro X hXl C
  subst hXl
  show Go X G 1 0 0 _ 0 [.ref (G.1 + 98)] [] (mm I J)
  refine g_aload_n C dX4_startTrial_0 rfl ?_
  refine g_getR (ci := 4) (k := 0) (q := 3) C dX4_startTrial_1 rfl inGX4 (by decide) fwX4_24 ly_98 (by decide) rfl rfl ?_
  refine g_getR (ci := 2) (k := 0) (q := 4) C dX4_startTrial_4 rfl inGX2 (by decide) fwX4_49 ly_3 (by decide) rfl rfl ?_
  refine g_iconst (v := 0) C dX4_startTrial_7 (by decide) ?_
  refine g_aload_n C dX4_startTrial_8 rfl ?_
  refine g_getR (ci := 4) (k := 3) (q := 99) C dX4_startTrial_9 rfl inGX4 (by decide) fwX4_9 ly_98 (by decide) rfl rfl ?_
  refine g_iconst (v := 0) C dX4_startTrial_12 (by decide) ?_
  refine g_bipush (v := 10) C dX4_startTrial_13 (by decide) ?_
  refine g_copy (m := 10) C dX4_startTrial_15 mwX4_54 acN acS acI ly_4 ly_99 (by decide) (by decide) rfl rfl rfl (by decide) (by decide) (by decide) ⟨by decide, Nat.le_of_ble_eq_true rfl⟩ rfl ?_
  exact e_V C dX4_startTrial_18 rfl rfl rfl rfl
/-- the trial's grants, one of them turned; the doors as they would be -/
def mwT (I : Nat → Nat → Int32) (p : Nat) (r : Int32) : Nat → Nat → Int32 := up1 (cpRow I 4 99 10) 99 p (I 4 p ^^^ ((1 : Int32) <<< (r &&& 31)))
def mwF (I : Nat → Nat → Int32) (n p : Nat) (r : Int32) : Nat → Nat → Int32 := lookF (mwT I p r) n 99
theorem mwT_off {I : Nat → Nat → Int32} {p : Nat} {r : Int32} {q : Nat} (h : q ≠ 99) : mwT I p r q = I q := by
  unfold mwT; rw [up1_off h, cpRow_off h]
theorem mwF_off {I : Nat → Nat → Int32} {n p : Nat} {r : Int32} {q : Nat} (h : q ≠ 99) (h2 : q ≠ 94) : mwF I n p r q = I q := by
  unfold mwF lookF; rw [stRow_off h2, mwT_off h]
theorem cpRow_in {I : Nat → Nat → Int32} {o1 o2 m k : Nat} (h : k < m) : cpRow I o1 o2 m o2 k = I o1 k := by simp [cpRow, h]
set_option maxHeartbeats 1000000 in
theorem s_misTurned {l : Launch} {G : Gm} {I : Nat → Nat → Int32} {J : Nat → Nat → Int64} {n : Nat} (hn : I 3 2 = nI n) (hn10 : n ≤ 10) {p : Nat} (hp : p < 10) (r : Int32) : Sp l G iX4_misusesWithTurned [.ref (G.1 + 98), .int (nI p), .int r] (mm I J) (RetI (msF (mwF I n p r)) (mm (mwF I n p r) J)) noT := by
  refine Sp.of (by decide +kernel) (Nat.le_of_ble_eq_true rfl) ?_
  intro X hXl C
  subst hXl
  show Go X G 3 0 0 _ 0 [.ref (G.1 + 98), .int (nI p), .int r] [] (mm I J)
  refine g_aload_n C dX4_misusesWithTurned_0 rfl ?_
  refine gv0V (ci := 4) C dX4_misusesWithTurned_1 vwX4_startTrial mwX4_36 ⟨by decide, by decide⟩ rfl ly_98 (Nat.le_of_ble_eq_true rfl) (s_startTrial) (Nat.le_of_ble_eq_true rfl) rfl ⟨by decide, by decide⟩ ?_
  refine g_aload_n C dX4_misusesWithTurned_4 rfl ?_
  refine g_getR (ci := 4) (k := 3) (q := 99) C dX4_misusesWithTurned_5 rfl inGX4 (by decide) fwX4_9 ly_98 (by decide) rfl rfl ?_
  refine g_iload_n C dX4_misusesWithTurned_8 rfl ?_
  refine g_dup2 C dX4_misusesWithTurned_9 rfl rfl ?_
  refine g_ialdv (v := I 4 p) _ C dX4_misusesWithTurned_10 ly_99 (by decide) (by decide) rfl hp (cpRow_in hp) ?_
  refine g_iconst (v := 1) C dX4_misusesWithTurned_11 (by decide) ?_
  refine g_iload_n C dX4_misusesWithTurned_12 rfl ?_
  refine g_ishl C dX4_misusesWithTurned_13 ?_
  refine g_ixor C dX4_misusesWithTurned_14 ?_
  refine g_iast _ C dX4_misusesWithTurned_15 ly_99 (by decide) (by decide) rfl hp ?_
  refine g_aload_n C dX4_misusesWithTurned_16 rfl ?_
  refine g_getR (ci := 4) (k := 2) (q := 92) C dX4_misusesWithTurned_17 rfl inGX4 (by decide) fwX4_32 ly_98 (by decide) rfl rfl ?_
  refine g_aload_n C dX4_misusesWithTurned_20 rfl ?_
  refine g_getR (ci := 4) (k := 3) (q := 99) C dX4_misusesWithTurned_21 rfl inGX4 (by decide) fwX4_9 ly_98 (by decide) rfl rfl ?_
  refine gv1V (ci := 0) C dX4_misusesWithTurned_24 vwX0_look mwX4_39 ⟨by decide, by decide⟩ rfl ly_92 (Nat.le_of_ble_eq_true rfl) (s_look (I := mwT I p r) (n := n) (by rw [mwT_off (by decide)]; exact hn) hn10 ly_99 (by decide) (by decide)) (Nat.le_of_ble_eq_true rfl) rfl ⟨by decide, by decide⟩ ?_
  refine g_aload_n C dX4_misusesWithTurned_27 rfl ?_
  refine g_getR (ci := 4) (k := 2) (q := 92) C dX4_misusesWithTurned_28 rfl inGX4 (by decide) fwX4_32 ly_98 (by decide) rfl rfl ?_
  refine gv0I (ci := 0) C dX4_misusesWithTurned_31 vwX0_misuses mwX4_45 ⟨by decide, by decide⟩ rfl ly_92 (Nat.le_of_ble_eq_true rfl) (s_misuses) (Nat.le_of_ble_eq_true rfl) rfl ⟨by decide, by decide⟩ ?_
  exact e_I C dX4_misusesWithTurned_34 rfl rfl rfl rfl rfl
/-- state: fewest, best, memory -/
abbrev bsS : Type := Int32 × Int32 × (Nat → Nat → Int32)
def bsU (A : Nat → Nat → Int32) (p : Nat) : Int32 := A 4 p &&& (A 75 p ||| A 76 p)
def bsD (n : Nat) (x u : Int32) (p : Nat) (r : Nat) (s : bsS) : bsS :=
  if hb u (nI r) = 0 then (if x < s.1 then (x, 100 * nI p + nI r, s.2.2) else s)
  else if msF (mwF s.2.2 n p (nI r)) < s.1 then (msF (mwF s.2.2 n p (nI r)), 100 * nI p + nI r, mwF s.2.2 n p (nI r)) else (s.1, s.2.1, mwF s.2.2 n p (nI r))
def bsP (I : Nat → Nat → Int32) (n : Nat) (x : Int32) (p : Nat) (s : bsS) : bsS := if bsU I p = 0 then s else it (bsD n x (bsU I p) p) 16 s
def bsF (I : Nat → Nat → Int32) (n : Nat) (x : Int32) : bsS := it (bsP I n x) n (x, -2, I)
def offTD (I A : Nat → Nat → Int32) : Prop := ∀ q, q ≠ 99 → q ≠ 94 → A q = I q
theorem bsD_off {I : Nat → Nat → Int32} {n p : Nat} {x u : Int32} {r : Nat} {s : bsS} (h : offTD I s.2.2) : offTD I (bsD n x u p r s).2.2 := by
  unfold bsD
  split
  · split
    · exact h
    · exact h
  · split
    · exact fun q h1 h2 => (mwF_off h1 h2).trans (h q h1 h2)
    · exact fun q h1 h2 => (mwF_off h1 h2).trans (h q h1 h2)
theorem bsD_offs {I : Nat → Nat → Int32} {n p : Nat} {x u : Int32} {s : bsS} (h : offTD I s.2.2) : ∀ r, offTD I (it (bsD n x u p) r s).2.2
  | 0 => h
  | r + 1 => bsD_off (bsD_offs h r)
theorem bsP_offs {I : Nat → Nat → Int32} {n : Nat} {x : Int32} : ∀ p, offTD I (it (bsP I n x) p (x, -2, I)).2.2
  | 0 => fun _ _ _ => rfl
  | p + 1 => by
    show offTD I (bsP I n x p (it (bsP I n x) p (x, -2, I))).2.2
    unfold bsP
    split
    · exact bsP_offs p
    · exact bsD_offs (bsP_offs p) 16
set_option maxHeartbeats 1000000 in
theorem s_bestSingle {l : Launch} {G : Gm} {I : Nat → Nat → Int32} {J : Nat → Nat → Int64} {n : Nat} (hn : I 3 2 = nI n) (hn10 : n ≤ 10) (x : Int32) : Sp l G iX4_bestSingle [.ref (G.1 + 98), .int x] (mm I J) (RetI (bsF I n x).2.1 (mm (bsF I n x).2.2 J)) noT := by
  refine Sp.of (by decide +kernel) (Nat.le_of_ble_eq_true rfl) ?_
  intro X hXl C
  subst hXl
  show Go X G 8 0 0 _ 0 [.ref (G.1 + 98), .int x, uu, uu, uu, uu, uu, uu] [] (mm I J)
  have lp : ∀ p : Nat, p ≤ n → ∀ a5 a6 a7 : Value, Go X G 8 0 0 (KQ X G iX4_bestSingle (RetI (bsF I n x).2.1 (mm (bsF I n x).2.2 J)) noT) 8 [.ref (G.1 + 98), .int x, .int (it (bsP I n x) p (x, -2, I)).1, .int (it (bsP I n x) p (x, -2, I)).2.1, .int (nI p), a5, a6, a7] [] (mm (it (bsP I n x) p (x, -2, I)).2.2 J) := by
    refine loopN (n) ?_ ?_
    · intro a5 a6 a7
      show Go X G 8 0 0 _ 8 _ [] _
      refine g_iload C dX4_bestSingle_8 rfl ?_
      refine g_aload_n C dX4_bestSingle_10 rfl ?_
      refine g_getR (ci := 4) (k := 0) (q := 3) C dX4_bestSingle_11 rfl inGX4 (by decide) fwX4_24 ly_98 (by decide) rfl rfl ?_
      refine g_getIv (ci := 2) (k := 2) (v := nI n) C dX4_bestSingle_14 rfl inGX2 (by decide) fwX4_60 ly_3 (by decide) rfl (by rw [bsP_offs n 3 (by decide) (by decide)]; exact hn) ?_
      refine g_icmp_ge 111 C dX4_bestSingle_17 (by decide) (fun c17 => ?_) (fun c17 => ?_)
      · refine g_iload_n C dX4_bestSingle_111 rfl ?_
        exact e_I C dX4_bestSingle_112 rfl rfl rfl rfl rfl
      · exact absurd (Int32.le_refl _) c17
    · intro p hp ihp a5 a6 a7
      show Go X G 8 0 0 _ 8 _ [] _
      refine g_iload C dX4_bestSingle_8 rfl ?_
      refine g_aload_n C dX4_bestSingle_10 rfl ?_
      refine g_getR (ci := 4) (k := 0) (q := 3) C dX4_bestSingle_11 rfl inGX4 (by decide) fwX4_24 ly_98 (by decide) rfl rfl ?_
      refine g_getIv (ci := 2) (k := 2) (v := nI n) C dX4_bestSingle_14 rfl inGX2 (by decide) fwX4_60 ly_3 (by decide) rfl (by rw [bsP_offs p 3 (by decide) (by decide)]; exact hn) ?_
      refine g_icmp_ge 111 C dX4_bestSingle_17 (by decide) (fun c17 => ?_) (fun c17 => ?_)
      · exact (nI_ge_dead (n := n) c17 hp (by omega)).elim
      · refine g_aload_n C dX4_bestSingle_20 rfl ?_
        refine g_getR (ci := 4) (k := 0) (q := 3) C dX4_bestSingle_21 rfl inGX4 (by decide) fwX4_24 ly_98 (by decide) rfl rfl ?_
        refine g_getR (ci := 2) (k := 0) (q := 4) C dX4_bestSingle_24 rfl inGX2 (by decide) fwX4_49 ly_3 (by decide) rfl rfl ?_
        refine g_iload C dX4_bestSingle_27 rfl ?_
        refine g_ialdv (v := I 4 p) _ C dX4_bestSingle_29 ly_4 (by decide) (by decide) rfl (show p < 10 by omega) (by rw [bsP_offs p 4 (by decide) (by decide)]) ?_
        refine g_aload_n C dX4_bestSingle_30 rfl ?_
        refine g_getR (ci := 4) (k := 1) (q := 73) C dX4_bestSingle_31 rfl inGX4 (by decide) fwX4_28 ly_98 (by decide) rfl rfl ?_
        refine g_iload C dX4_bestSingle_34 rfl ?_
        refine gv1I (ci := 1) C dX4_bestSingle_36 vwX1_uses mwX4_64 ⟨by decide, by decide⟩ rfl ly_73 (Nat.le_of_ble_eq_true rfl) (s_uses (show p < 10 by omega)) (Nat.le_of_ble_eq_true rfl) rfl ⟨by decide, by decide⟩ ?_
        rw [bsP_offs p 75 (by decide) (by decide), bsP_offs p 76 (by decide) (by decide)]
        refine g_iand C dX4_bestSingle_39 ?_
        refine g_istore_5 C dX4_bestSingle_40 (by decide) ?_
        by_cases g40 : bsU I p = 0
        · refine g_iconst (v := 0) C dX4_bestSingle_42 (by decide) ?_
          refine g_istore_6 C dX4_bestSingle_43 (by decide) ?_
          refine g_iload C dX4_bestSingle_45 rfl ?_
          refine g_bipush (v := 16) C dX4_bestSingle_47 (by decide) ?_
          refine g_icmp_ge 105 C dX4_bestSingle_49 (by decide) (fun c49 => ?_) (fun c49 => ?_)
          · exact absurd c49 (by decide)
          · refine g_iload C dX4_bestSingle_52 rfl ?_
            refine g_if_eq 105 C dX4_bestSingle_54 (by decide) (fun c54 => ?_) (fun c54 => ?_)
            · refine g_iinc_4 C dX4_bestSingle_105 (nI_1 p) (by decide) ?_
              refine g_goto 8 C dX4_bestSingle_108 (by decide) ?_
              have h9 : it (bsP I n x) (p + 1) (x, -2, I) = (it (bsP I n x) p (x, -2, I)) := if_pos g40
              rw [h9] at ihp
              exact ihp _ _ _
            · exact absurd g40 c54
        have inner : ∀ r : Nat, r ≤ 16 → ∀ a7 : Value, Go X G 8 0 0 (KQ X G iX4_bestSingle (RetI (bsF I n x).2.1 (mm (bsF I n x).2.2 J)) noT) 45 [.ref (G.1 + 98), .int x, .int (it (bsD n x (bsU I p) p) r (it (bsP I n x) p (x, -2, I))).1, .int (it (bsD n x (bsU I p) p) r (it (bsP I n x) p (x, -2, I))).2.1, .int (nI p), .int (bsU I p), .int (nI r), a7] [] (mm (it (bsD n x (bsU I p) p) r (it (bsP I n x) p (x, -2, I))).2.2 J) := by
          refine loopN (16) ?_ ?_
          · intro a7
            show Go X G 8 0 0 _ 45 _ [] _
            refine g_iload C dX4_bestSingle_45 rfl ?_
            refine g_bipush (v := 16) C dX4_bestSingle_47 (by decide) ?_
            refine g_icmp_ge 105 C dX4_bestSingle_49 (by decide) (fun c49 => ?_) (fun c49 => ?_)
            · refine g_iinc_4 C dX4_bestSingle_105 (nI_1 p) (by decide) ?_
              refine g_goto 8 C dX4_bestSingle_108 (by decide) ?_
              have h9 : it (bsP I n x) (p + 1) (x, -2, I) = it (bsD n x (bsU I p) p) 16 (it (bsP I n x) p (x, -2, I)) := if_neg g40
              rw [h9] at ihp
              exact ihp _ _ _
            · exact absurd (Int32.le_refl _) c49
          · intro r hr ihr a7
            show Go X G 8 0 0 _ 45 _ [] _
            refine g_iload C dX4_bestSingle_45 rfl ?_
            refine g_bipush (v := 16) C dX4_bestSingle_47 (by decide) ?_
            refine g_icmp_ge 105 C dX4_bestSingle_49 (by decide) (fun c49 => ?_) (fun c49 => ?_)
            · exact (nI_ge_dead (n := 16) c49 hr (by omega)).elim
            · refine g_iload C dX4_bestSingle_52 rfl ?_
              refine g_if_eq 105 C dX4_bestSingle_54 (by decide) (fun c54 => ?_) (fun c54 => ?_)
              · exact absurd c54 g40
              · refine g_iload C dX4_bestSingle_57 rfl ?_
                refine g_iload C dX4_bestSingle_59 rfl ?_
                refine gn2I C dX4_bestSingle_61 swX8_hasBit (by decide +kernel) ⟨by decide, by decide⟩ (s_hasBit _ _) (Nat.le_of_ble_eq_true rfl) rfl ⟨by decide, by decide⟩ ?_
                refine g_if_eq 78 C dX4_bestSingle_64 (by decide) (fun c64 => ?_) (fun c64 => ?_)
                · refine g_iload_n C dX4_bestSingle_78 rfl ?_
                  refine g_istore_7 C dX4_bestSingle_79 (by decide) ?_
                  refine g_iload C dX4_bestSingle_81 rfl ?_
                  refine g_iload_n C dX4_bestSingle_83 rfl ?_
                  refine g_icmp_ge 99 C dX4_bestSingle_84 (by decide) (fun c84 => ?_) (fun c84 => ?_)
                  · refine g_iinc_6 C dX4_bestSingle_99 (nI_1 r) (by decide) ?_
                    refine g_goto 45 C dX4_bestSingle_102 (by decide) ?_
                    first
                      | (simp only [it, bsD, if_pos c64, if_pos (Int32.not_le.mp c84)] at ihr; exact ihr _)
                      | (simp only [it, bsD, if_pos c64, if_neg (Int32.not_lt.mpr c84)] at ihr; exact ihr _)
                      | (simp only [it, bsD, if_neg c64, if_pos (Int32.not_le.mp c84)] at ihr; exact ihr _)
                      | (simp only [it, bsD, if_neg c64, if_neg (Int32.not_lt.mpr c84)] at ihr; exact ihr _)
                  · refine g_iload C dX4_bestSingle_87 rfl ?_
                    refine g_istore_2 C dX4_bestSingle_89 (by decide) ?_
                    refine g_bipush (v := 100) C dX4_bestSingle_90 (by decide) ?_
                    refine g_iload C dX4_bestSingle_92 rfl ?_
                    refine g_imul C dX4_bestSingle_94 ?_
                    refine g_iload C dX4_bestSingle_95 rfl ?_
                    refine g_iadd C dX4_bestSingle_97 ?_
                    refine g_istore_3 C dX4_bestSingle_98 (by decide) ?_
                    refine g_iinc_6 C dX4_bestSingle_99 (nI_1 r) (by decide) ?_
                    refine g_goto 45 C dX4_bestSingle_102 (by decide) ?_
                    first
                      | (simp only [it, bsD, if_pos c64, if_pos (Int32.not_le.mp c84)] at ihr; exact ihr _)
                      | (simp only [it, bsD, if_pos c64, if_neg (Int32.not_lt.mpr c84)] at ihr; exact ihr _)
                      | (simp only [it, bsD, if_neg c64, if_pos (Int32.not_le.mp c84)] at ihr; exact ihr _)
                      | (simp only [it, bsD, if_neg c64, if_neg (Int32.not_lt.mpr c84)] at ihr; exact ihr _)
                · refine g_aload_n C dX4_bestSingle_67 rfl ?_
                  refine g_iload C dX4_bestSingle_68 rfl ?_
                  refine g_iload C dX4_bestSingle_70 rfl ?_
                  refine gv2I (ci := 4) C dX4_bestSingle_72 vwX4_misusesWithTurned mwX4_74 ⟨by decide, by decide⟩ rfl ly_98 (Nat.le_of_ble_eq_true rfl) (s_misTurned (n := n) (by rw [bsD_offs (bsP_offs p) r 3 (by decide) (by decide)]; exact hn) hn10 (show p < 10 by omega) _) (Nat.le_of_ble_eq_true rfl) rfl ⟨by decide, by decide⟩ ?_
                  refine g_goto 79 C dX4_bestSingle_75 (by decide) ?_
                  refine g_istore_7 C dX4_bestSingle_79 (by decide) ?_
                  refine g_iload C dX4_bestSingle_81 rfl ?_
                  refine g_iload_n C dX4_bestSingle_83 rfl ?_
                  refine g_icmp_ge 99 C dX4_bestSingle_84 (by decide) (fun c84 => ?_) (fun c84 => ?_)
                  · refine g_iinc_6 C dX4_bestSingle_99 (nI_1 r) (by decide) ?_
                    refine g_goto 45 C dX4_bestSingle_102 (by decide) ?_
                    first
                      | (simp only [it, bsD, if_pos c64, if_pos (Int32.not_le.mp c84)] at ihr; exact ihr _)
                      | (simp only [it, bsD, if_pos c64, if_neg (Int32.not_lt.mpr c84)] at ihr; exact ihr _)
                      | (simp only [it, bsD, if_neg c64, if_pos (Int32.not_le.mp c84)] at ihr; exact ihr _)
                      | (simp only [it, bsD, if_neg c64, if_neg (Int32.not_lt.mpr c84)] at ihr; exact ihr _)
                  · refine g_iload C dX4_bestSingle_87 rfl ?_
                    refine g_istore_2 C dX4_bestSingle_89 (by decide) ?_
                    refine g_bipush (v := 100) C dX4_bestSingle_90 (by decide) ?_
                    refine g_iload C dX4_bestSingle_92 rfl ?_
                    refine g_imul C dX4_bestSingle_94 ?_
                    refine g_iload C dX4_bestSingle_95 rfl ?_
                    refine g_iadd C dX4_bestSingle_97 ?_
                    refine g_istore_3 C dX4_bestSingle_98 (by decide) ?_
                    refine g_iinc_6 C dX4_bestSingle_99 (nI_1 r) (by decide) ?_
                    refine g_goto 45 C dX4_bestSingle_102 (by decide) ?_
                    first
                      | (simp only [it, bsD, if_pos c64, if_pos (Int32.not_le.mp c84)] at ihr; exact ihr _)
                      | (simp only [it, bsD, if_pos c64, if_neg (Int32.not_lt.mpr c84)] at ihr; exact ihr _)
                      | (simp only [it, bsD, if_neg c64, if_pos (Int32.not_le.mp c84)] at ihr; exact ihr _)
                      | (simp only [it, bsD, if_neg c64, if_neg (Int32.not_lt.mpr c84)] at ihr; exact ihr _)
        refine g_iconst (v := 0) C dX4_bestSingle_42 (by decide) ?_
        refine g_istore_6 C dX4_bestSingle_43 (by decide) ?_
        exact inner 0 (Nat.zero_le _) _
  refine g_iload_n C dX4_bestSingle_0 rfl ?_
  refine g_istore_2 C dX4_bestSingle_1 (by decide) ?_
  refine g_bipush (v := (-2)) C dX4_bestSingle_2 (by decide) ?_
  refine g_istore_3 C dX4_bestSingle_4 (by decide) ?_
  refine g_iconst (v := 0) C dX4_bestSingle_5 (by decide) ?_
  refine g_istore_4 C dX4_bestSingle_6 (by decide) ?_
  exact lp 0 (Nat.zero_le _) _ _ _
def gaA (A : Nat → Nat → Int32) (v : Int32) : Nat → Nat → Int32 := up1 (up1 A 101 (cn (A 98 7)) v) 98 7 (nI (cn (A 98 7) + 1))
/-- the needed grants are listed, the search at place q -/
def gaF (u : Nat → Int32) : Nat → Nat → (Nat → Nat → Int32) → Int32 × (Nat → Nat → Int32)
  | 0, _, A => (1, A)
  | f + 1, q, A => if hb (u (q / 16)) (nI (q % 16)) = 0 then gaF u f (q + 1) A else if A 98 7 < 10 then gaF u f (q + 1) (gaA A (100 * nI (q / 16) + nI (q % 16))) else (0, A)
def gaOK (I A : Nat → Nat → Int32) : Prop := (∀ q, q ≠ 98 → q ≠ 101 → A q = I q) ∧ ∃ c, A 98 7 = nI c ∧ c ≤ 10
theorem gaA_ok {I A : Nat → Nat → Int32} {v : Int32} (h : gaOK I A) (hl : A 98 7 < 10) : gaOK I (gaA A v) := by
  obtain ⟨h1, c, h2, h3⟩ := h
  unfold gaA
  rw [h2] at hl ⊢
  have h4 := nI_t (b := 10) hl (by omega) (by decide)
  rw [cn_nI (show c < 2 ^ 31 by omega)]
  exact ⟨fun q a b => by rw [up1_off a, up1_off b]; exact h1 q a b, c + 1, by simp [up1], by omega⟩
set_option maxHeartbeats 1000000 in
theorem s_gather {l : Launch} {G : Gm} {I : Nat → Nat → Int32} {J : Nat → Nat → Int64} {n : Nat} (hn : I 3 2 = nI n) (hn10 : n ≤ 10) : Sp l G iX4_gather [.ref (G.1 + 98)] (mm I J) (RetI (gaF (bsU I) (16 * n) 0 (up1 I 98 7 0)).1 (mm (gaF (bsU I) (16 * n) 0 (up1 I 98 7 0)).2 J)) noT := by
  refine Sp.of (by decide +kernel) (Nat.le_of_ble_eq_true rfl) ?_
  intro X hXl C
  subst hXl
  show Go X G 4 0 0 _ 0 [.ref (G.1 + 98), uu, uu, uu] [] (mm I J)
  have lp : ∀ p : Nat, p ≤ n → ∀ (a2 a3 : Value) (A : Nat → Nat → Int32), gaOK I A → gaF (bsU I) (16 * n - 16 * p) (16 * p) A = gaF (bsU I) (16 * n) 0 (up1 I 98 7 0) → Go X G 4 0 0 (KQ X G iX4_gather (RetI (gaF (bsU I) (16 * n) 0 (up1 I 98 7 0)).1 (mm (gaF (bsU I) (16 * n) 0 (up1 I 98 7 0)).2 J)) noT) 7 [.ref (G.1 + 98), .int (nI p), a2, a3] [] (mm A J) := by
    refine loopN (n) ?_ ?_
    · intro a2 a3 A hA hf
      show Go X G 4 0 0 _ 7 _ [] _
      refine g_iload_n C dX4_gather_7 rfl ?_
      refine g_aload_n C dX4_gather_8 rfl ?_
      refine g_getR (ci := 4) (k := 0) (q := 3) C dX4_gather_9 rfl inGX4 (by decide) fwX4_24 ly_98 (by decide) rfl rfl ?_
      refine g_getIv (ci := 2) (k := 2) (v := nI n) C dX4_gather_12 rfl inGX2 (by decide) fwX4_60 ly_3 (by decide) rfl (by rw [hA.1 _ (by decide) (by decide)]; exact hn) ?_
      refine g_icmp_ge 101 C dX4_gather_15 (by decide) (fun c15 => ?_) (fun c15 => ?_)
      · refine g_iconst (v := 1) C dX4_gather_101 (by decide) ?_
        exact e_Z C dX4_gather_102 rfl rfl rfl (by first | exact Or.inl rfl | exact Or.inr rfl) (by rw [← hf, Nat.sub_self]; rfl) (by rw [← hf, Nat.sub_self]; rfl)
      · exact absurd (Int32.le_refl _) c15
    · intro p hp ihp a2 a3 A hA hf
      show Go X G 4 0 0 _ 7 _ [] _
      have inner : ∀ r : Nat, r ≤ 16 → ∀ A, gaOK I A → gaF (bsU I) (16 * n - 16 * p - r) (16 * p + r) A = gaF (bsU I) (16 * n) 0 (up1 I 98 7 0) → Go X G 4 0 0 (KQ X G iX4_gather (RetI (gaF (bsU I) (16 * n) 0 (up1 I 98 7 0)).1 (mm (gaF (bsU I) (16 * n) 0 (up1 I 98 7 0)).2 J)) noT) 39 [.ref (G.1 + 98), .int (nI p), .int (bsU I p), .int (nI r)] [] (mm A J) := by
        refine loopN (16) ?_ ?_
        · intro A hA hf
          show Go X G 4 0 0 _ 39 _ [] _
          refine g_iload_n C dX4_gather_39 rfl ?_
          refine g_bipush (v := 16) C dX4_gather_40 (by decide) ?_
          refine g_icmp_ge 95 C dX4_gather_42 (by decide) (fun c42 => ?_) (fun c42 => ?_)
          · refine g_iinc_1 C dX4_gather_95 (nI_1 p) (by decide) ?_
            refine g_goto 7 C dX4_gather_98 (by decide) ?_
            exact ihp _ _ _ hA (by rw [show 16 * n - 16 * (p + 1) = 16 * n - 16 * p - 16 by omega, show 16 * (p + 1) = 16 * p + 16 by omega]; exact hf)
          · exact absurd (Int32.le_refl _) c42
        · intro r hr ihr A hA hf
          show Go X G 4 0 0 _ 39 _ [] _
          refine g_iload_n C dX4_gather_39 rfl ?_
          refine g_bipush (v := 16) C dX4_gather_40 (by decide) ?_
          refine g_icmp_ge 95 C dX4_gather_42 (by decide) (fun c42 => ?_) (fun c42 => ?_)
          · exact (nI_ge_dead (n := 16) c42 hr (by omega)).elim
          · rw [show 16 * n - 16 * p - r = (16 * n - 16 * p - (r + 1)) + 1 by omega] at hf
            replace hf : (if hb (bsU I ((16 * p + r) / 16)) (nI ((16 * p + r) % 16)) = 0 then gaF (bsU I) (16 * n - 16 * p - (r + 1)) (16 * p + r + 1) A else if A 98 7 < 10 then gaF (bsU I) (16 * n - 16 * p - (r + 1)) (16 * p + r + 1) (gaA A (100 * nI ((16 * p + r) / 16) + nI ((16 * p + r) % 16))) else (0, A)) = gaF (bsU I) (16 * n) 0 (up1 I 98 7 0) := hf
            rw [show (16 * p + r) % 16 = r by omega, show (16 * p + r) / 16 = p by omega] at hf
            refine g_iload_n C dX4_gather_45 rfl ?_
            refine g_iload_n C dX4_gather_46 rfl ?_
            refine gn2I C dX4_gather_47 swX8_hasBit (by decide +kernel) ⟨by decide, by decide⟩ (s_hasBit _ _) (Nat.le_of_ble_eq_true rfl) rfl ⟨by decide, by decide⟩ ?_
            refine g_if_eq 89 C dX4_gather_50 (by decide) (fun c50 => ?_) (fun c50 => ?_)
            · rw [if_pos c50] at hf
              refine g_iinc_3 C dX4_gather_89 (nI_1 r) (by decide) ?_
              refine g_goto 39 C dX4_gather_92 (by decide) ?_
              first
                | (have h8 := ihr (gaA A (100 * nI p + nI r)) (gaA_ok hA g59) hf
                   unfold gaA at h8
                   rw [hc, cn_nI (show c < 2 ^ 31 by omega)] at h8
                   exact h8)
                | exact ihr _ hA hf
            · rw [if_neg c50] at hf
              obtain ⟨hA1, c, hc, hc10⟩ := id hA
              refine g_aload_n C dX4_gather_53 rfl ?_
              refine g_getIv (ci := 4) (k := 7) (v := nI c) C dX4_gather_54 rfl inGX4 (by decide) fwX4_78 ly_98 (by decide) rfl hc ?_
              refine g_bipush (v := 10) C dX4_gather_57 (by decide) ?_
              refine g_icmp_lt 64 C dX4_gather_59 (by decide) (fun c59 => ?_) (fun c59 => ?_)
              · have g59 : A 98 7 < 10 := by rw [hc]; exact c59
                have g60 : c < 10 := nI_t (b := 10) c59 (by omega) (by decide)
                rw [if_pos g59] at hf
                refine g_aload_n C dX4_gather_64 rfl ?_
                refine g_getR (ci := 4) (k := 5) (q := 101) C dX4_gather_65 rfl inGX4 (by decide) fwX4_18 ly_98 (by decide) rfl rfl ?_
                refine g_aload_n C dX4_gather_68 rfl ?_
                refine g_getIv (ci := 4) (k := 7) (v := nI c) C dX4_gather_69 rfl inGX4 (by decide) fwX4_78 ly_98 (by decide) rfl hc ?_
                refine g_bipush (v := 100) C dX4_gather_72 (by decide) ?_
                refine g_iload_n C dX4_gather_74 rfl ?_
                refine g_imul C dX4_gather_75 ?_
                refine g_iload_n C dX4_gather_76 rfl ?_
                refine g_iadd C dX4_gather_77 ?_
                refine g_iast _ C dX4_gather_78 ly_101 (by decide) (by decide) rfl g60 ?_
                refine g_aload_n C dX4_gather_79 rfl ?_
                refine g_dup C dX4_gather_80 rfl ?_
                refine g_getIv (ci := 4) (k := 7) (v := nI c) C dX4_gather_81 rfl inGX4 (by decide) fwX4_78 ly_98 (by decide) rfl (by simp [up1, hc]) ?_
                refine g_iconst (v := 1) C dX4_gather_84 (by decide) ?_
                refine g_iadd C dX4_gather_85 ?_
                rw [nI_1]
                refine g_putI (ci := 4) (k := 7) .int C dX4_gather_86 rfl inGX4 tyX4_ok nmX4 (by decide) fwX4_78 ly_98 (by decide) rfl rfl rfl rfl rfl ?_
                refine g_iinc_3 C dX4_gather_89 (nI_1 r) (by decide) ?_
                refine g_goto 39 C dX4_gather_92 (by decide) ?_
                first
                  | (have h8 := ihr (gaA A (100 * nI p + nI r)) (gaA_ok hA g59) hf
                     unfold gaA at h8
                     rw [hc, cn_nI (show c < 2 ^ 31 by omega)] at h8
                     exact h8)
                  | exact ihr _ hA hf
              · have g59 : ¬ A 98 7 < 10 := by rw [hc]; exact c59
                rw [if_neg g59] at hf
                refine g_iconst (v := 0) C dX4_gather_62 (by decide) ?_
                exact e_Z C dX4_gather_63 rfl rfl rfl (by first | exact Or.inl rfl | exact Or.inr rfl) (by rw [← hf]) (by rw [← hf])
      refine g_iload_n C dX4_gather_7 rfl ?_
      refine g_aload_n C dX4_gather_8 rfl ?_
      refine g_getR (ci := 4) (k := 0) (q := 3) C dX4_gather_9 rfl inGX4 (by decide) fwX4_24 ly_98 (by decide) rfl rfl ?_
      refine g_getIv (ci := 2) (k := 2) (v := nI n) C dX4_gather_12 rfl inGX2 (by decide) fwX4_60 ly_3 (by decide) rfl (by rw [hA.1 _ (by decide) (by decide)]; exact hn) ?_
      refine g_icmp_ge 101 C dX4_gather_15 (by decide) (fun c15 => ?_) (fun c15 => ?_)
      · exact (nI_ge_dead (n := n) c15 hp (by omega)).elim
      · refine g_aload_n C dX4_gather_18 rfl ?_
        refine g_getR (ci := 4) (k := 0) (q := 3) C dX4_gather_19 rfl inGX4 (by decide) fwX4_24 ly_98 (by decide) rfl rfl ?_
        refine g_getR (ci := 2) (k := 0) (q := 4) C dX4_gather_22 rfl inGX2 (by decide) fwX4_49 ly_3 (by decide) rfl rfl ?_
        refine g_iload_n C dX4_gather_25 rfl ?_
        refine g_ialdv (v := I 4 p) _ C dX4_gather_26 ly_4 (by decide) (by decide) rfl (show p < 10 by omega) (by rw [hA.1 _ (by decide) (by decide)]) ?_
        refine g_aload_n C dX4_gather_27 rfl ?_
        refine g_getR (ci := 4) (k := 1) (q := 73) C dX4_gather_28 rfl inGX4 (by decide) fwX4_28 ly_98 (by decide) rfl rfl ?_
        refine g_iload_n C dX4_gather_31 rfl ?_
        refine gv1I (ci := 1) C dX4_gather_32 vwX1_uses mwX4_64 ⟨by decide, by decide⟩ rfl ly_73 (Nat.le_of_ble_eq_true rfl) (s_uses (show p < 10 by omega)) (Nat.le_of_ble_eq_true rfl) rfl ⟨by decide, by decide⟩ ?_
        rw [hA.1 75 (by decide) (by decide), hA.1 76 (by decide) (by decide)]
        refine g_iand C dX4_gather_35 ?_
        refine g_istore_2 C dX4_gather_36 (by decide) ?_
        refine g_iconst (v := 0) C dX4_gather_37 (by decide) ?_
        refine g_istore_3 C dX4_gather_38 (by decide) ?_
        exact inner 0 (Nat.zero_le _) _ hA hf
  refine g_aload_n C dX4_gather_0 rfl ?_
  refine g_iconst (v := 0) C dX4_gather_1 (by decide) ?_
  refine g_putI (ci := 4) (k := 7) .int C dX4_gather_2 rfl inGX4 tyX4_ok nmX4 (by decide) fwX4_78 ly_98 (by decide) rfl rfl rfl rfl rfl ?_
  refine g_iconst (v := 0) C dX4_gather_5 (by decide) ?_
  refine g_istore_1 C dX4_gather_6 (by decide) ?_
  exact lp 0 (Nat.zero_le _) _ _ _ ⟨fun q h1 h2 => up1_off h1, 0, by rw [up1_same]; rfl, by decide⟩ rfl
