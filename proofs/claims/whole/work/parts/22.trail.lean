/-- how far it is through the link i -/
def ftF (I : Nat → Nat → Int32) (i : Nat) (s : Int32) : Int32 := if hb (I 77 (cn (I 79 i))) s = 0 then I 96 (cn (I 79 i)) + 1 else 1000
set_option maxHeartbeats 1000000 in
theorem s_farThrough {l : Launch} {G : Gm} {I : Nat → Nat → Int32} {J : Nat → Nat → Int64} {c : Nat} (hlk : lksOK I c) {i : Nat} (hi : i < c) (s : Int32) : Sp l G iX7_farThrough [.ref (G.1 + 95), .int (nI i), .int s] (mm I J) (RetI (ftF I i s) (mm I J)) noT := by
  refine Sp.of (by decide +kernel) (Nat.le_of_ble_eq_true rfl) ?_
  intro X hXl C
  subst hXl
  show Go X G 4 0 0 _ 0 [.ref (G.1 + 95), .int (nI i), .int s, uu] [] (mm I J)
  obtain ⟨-, b, hb1, hb2⟩ := hlk.2.2 i hi
  have hcb : cn (I 79 i) = b := by rw [hb1]; exact nI_clamp (by omega)
  refine g_aload_n C dX7_farThrough_0 rfl ?_
  refine g_getR (ci := 7) (k := 1) (q := 73) C dX7_farThrough_1 rfl inGX7 (by decide) fwX7_22 ly_95 (by decide) rfl rfl ?_
  refine g_getR (ci := 1) (k := 6) (q := 79) C dX7_farThrough_4 rfl inGX1 (by decide) fwX7_77 ly_73 (by decide) rfl rfl ?_
  refine g_iload_n C dX7_farThrough_7 rfl ?_
  refine g_ialdv (v := nI b) _ C dX7_farThrough_8 ly_79 (by decide) (by decide) rfl (by have := hlk.2.1; omega) hb1 ?_
  refine g_istore_3 C dX7_farThrough_9 (by decide) ?_
  refine g_aload_n C dX7_farThrough_10 rfl ?_
  refine g_getR (ci := 7) (k := 1) (q := 73) C dX7_farThrough_11 rfl inGX7 (by decide) fwX7_22 ly_95 (by decide) rfl rfl ?_
  refine g_getR (ci := 1) (k := 4) (q := 77) C dX7_farThrough_14 rfl inGX1 (by decide) fwX7_80 ly_73 (by decide) rfl rfl ?_
  refine g_iload_n C dX7_farThrough_17 rfl ?_
  refine g_iald _ C dX7_farThrough_18 ly_77 (by decide) (by decide) rfl hb2 ?_
  refine g_iload_n C dX7_farThrough_19 rfl ?_
  refine gn2I C dX7_farThrough_20 swX8_hasBit (by decide +kernel) ⟨by decide, by decide⟩ (s_hasBit _ _) (Nat.le_of_ble_eq_true rfl) rfl ⟨by decide, by decide⟩ ?_
  refine g_if_eq 32 C dX7_farThrough_23 (by decide) (fun c23 => ?_) (fun c23 => ?_)
  · refine g_aload_n C dX7_farThrough_32 rfl ?_
    refine g_getR (ci := 7) (k := 2) (q := 96) C dX7_farThrough_33 rfl inGX7 (by decide) fwX7_9 ly_95 (by decide) rfl rfl ?_
    refine g_iload_n C dX7_farThrough_36 rfl ?_
    refine g_iald _ C dX7_farThrough_37 ly_96 (by decide) (by decide) rfl hb2 ?_
    refine g_iconst (v := 1) C dX7_farThrough_38 (by decide) ?_
    refine g_iadd C dX7_farThrough_39 ?_
    exact e_I C dX7_farThrough_40 rfl rfl rfl (by rw [ftF, hcb]; first | (rw [if_pos c23]; done) | (rw [if_neg c23])) rfl
  · refine g_sipush (v := 1000) C dX7_farThrough_26 (by decide) ?_
    refine g_goto 40 C dX7_farThrough_29 (by decide) ?_
    exact e_I C dX7_farThrough_40 rfl rfl rfl (by rw [ftF, hcb]; first | (rw [if_pos c23]; done) | (rw [if_neg c23])) rfl
def me0 (I : Nat → Nat → Int32) (x p : Nat) (f : Nat → Int32) : Nat → Int32 := if hb (I 4 p) (nI x) = 0 then f else upd f (25 * p + (9 + x)) 0
def thr (rt rw : Nat → Int32) (s : Int32) (f : Nat → Int32) (i : Nat) : Int32 := if hb (rw (cn (rt i))) s = 0 then f (cn (rt i)) + 1 else 1000
def me1 (rf rt rw : Nat → Int32) (s : Int32) (i : Nat) (z : (Nat → Int32) × Int32) : (Nat → Int32) × Int32 :=
  (upd z.1 (cn (rf i)) (if thr rt rw s z.1 i < z.1 (cn (rf i)) then thr rt rw s z.1 i else z.1 (cn (rf i))), z.2 ||| (if z.1 (cn (rf i)) ≤ thr rt rw s z.1 i then 0 else 1))
def meR (I : Nat → Nat → Int32) (n : Nat) (s : Int32) (x c : Nat) : Nat → Int32 := spw (it (me1 (I 78) (I 79) (I 77) s) c) 250 (it (me0 I x) n (fun _ => 1000), 1)
def meF (I : Nat → Nat → Int32) (n : Nat) (s : Int32) (x c : Nat) : Nat → Nat → Int32 := stRow I 96 250 (meR I n s x c)
theorem lksOK_st {I : Nat → Nat → Int32} {c o m : Nat} {f : Nat → Int32} (h : lksOK I c) (ho : o ≠ 73 ∧ o ≠ 78 ∧ o ≠ 79) : lksOK (stRow I o m f) c := by
  obtain ⟨h1, h2, h3⟩ := h
  refine ⟨by rw [stRow_off (fun e => ho.1 e.symm)]; exact h1, h2, fun i hi => ?_⟩
  rw [stRow_off (fun e => ho.2.1 e.symm), stRow_off (fun e => ho.2.2 e.symm)]
  exact h3 i hi
theorem ft_thr {I : Nat → Nat → Int32} {f : Nat → Int32} {c i : Nat} {s : Int32} (hlk : lksOK I c) (hi : i < c) : ftF (stRow I 96 250 f) i s = thr (I 79) (I 77) s f i := by
  obtain ⟨-, b, hb1, hb2⟩ := hlk.2.2 i hi
  unfold ftF thr
  rw [stRow_off (show 77 ≠ 96 by decide), stRow_off (show 79 ≠ 96 by decide), hb1, cn_nI (by omega), stRow_in hb2]
set_option maxHeartbeats 1000000 in
theorem s_measure {l : Launch} {G : Gm} {I : Nat → Nat → Int32} {J : Nat → Nat → Int64} {n : Nat} (hn : I 3 2 = nI n) (hn10 : n ≤ 10) {c : Nat} (hlk : lksOK I c) {x : Nat} (hx : x < 16) (s : Int32) : Sp l G iX7_measure [.ref (G.1 + 95), .int s, .int (nI x)] (mm I J) (RetV (mm (meF I n s x c) J)) noT := by
  refine Sp.of (by decide +kernel) (Nat.le_of_ble_eq_true rfl) ?_
  intro X hXl C
  subst hXl
  show Go X G 8 0 0 _ 0 [.ref (G.1 + 95), .int s, .int (nI x), uu, uu, uu, uu, uu] [] (mm I J)
  have main : ∀ (j r : Nat) (h : Nat → Int32) (mv : Int32) (a5 a6 a7 : Value), r + j = 250 → spw (it (me1 (I 78) (I 79) (I 77) s) c) j (h, mv) = meR I n s x c → Go X G 8 0 0 (KQ X G iX7_measure (RetV (mm (meF I n s x c) J)) noT) 64 [.ref (G.1 + 95), .int s, .int (nI x), .int mv, .int (nI r), a5, a6, a7] [] (mm (stRow I 96 250 h) J) := by
    intro j
    induction j with
    | zero =>
      intro r h mv a5 a6 a7 hr hf
      refine g_iload C dX7_measure_64 rfl ?_
      refine g_sipush (v := 250) C dX7_measure_66 (by decide) ?_
      refine g_icmp_ge 165 C dX7_measure_69 (by decide) (fun c69 => ?_) (fun c69 => ?_)
      · exact e_V C dX7_measure_165 rfl rfl rfl (by rw [meF, ← hf]; rfl)
      · exact absurd (nI_le (a := 250) (by omega) (by omega)) c69
    | succ j ihj =>
      intro r h mv a5 a6 a7 hr hf
      refine g_iload C dX7_measure_64 rfl ?_
      refine g_sipush (v := 250) C dX7_measure_66 (by decide) ?_
      refine g_icmp_ge 165 C dX7_measure_69 (by decide) (fun c69 => ?_) (fun c69 => ?_)
      · exact absurd (nI_l' (a := 250) c69 (by omega) (by omega)) (by omega)
      · refine g_iload_n C dX7_measure_72 rfl ?_
        refine g_if_eq 165 C dX7_measure_73 (by decide) (fun c73 => ?_) (fun c73 => ?_)
        · simp only [spw, if_pos c73] at hf
          exact e_V C dX7_measure_165 rfl rfl rfl (by rw [meF, ← hf])
        · simp only [spw, if_neg c73] at hf
          have inner : ∀ i : Nat, i ≤ c → ∀ a6 a7 : Value, Go X G 8 0 0 (KQ X G iX7_measure (RetV (mm (meF I n s x c) J)) noT) 81 [.ref (G.1 + 95), .int s, .int (nI x), .int (it (me1 (I 78) (I 79) (I 77) s) i (h, 0)).2, .int (nI r), .int (nI i), a6, a7] [] (mm (stRow I 96 250 (it (me1 (I 78) (I 79) (I 77) s) i (h, 0)).1) J) := by
            refine loopN (c) ?_ ?_
            · intro a6 a7
              show Go X G 8 0 0 _ 81 _ [] _
              refine g_iload C dX7_measure_81 rfl ?_
              refine g_aload_n C dX7_measure_83 rfl ?_
              refine g_getR (ci := 7) (k := 1) (q := 73) C dX7_measure_84 rfl inGX7 (by decide) fwX7_22 ly_95 (by decide) rfl rfl ?_
              refine g_getIv (ci := 1) (k := 9) (v := nI c) C dX7_measure_87 rfl inGX1 (by decide) fwX7_61 ly_73 (by decide) rfl (by rw [stRow_off (by decide)]; exact hlk.1) ?_
              refine g_icmp_ge 159 C dX7_measure_90 (by decide) (fun c90 => ?_) (fun c90 => ?_)
              · refine g_iinc_4 C dX7_measure_159 (nI_1 r) (by decide) ?_
                refine g_goto 64 C dX7_measure_162 (by decide) ?_
                exact ihj (r + 1) _ _ _ _ _ (by omega) hf
              · exact absurd (Int32.le_refl _) c90
            · intro i hi ihi a6 a7
              show Go X G 8 0 0 _ 81 _ [] _
              refine g_iload C dX7_measure_81 rfl ?_
              refine g_aload_n C dX7_measure_83 rfl ?_
              refine g_getR (ci := 7) (k := 1) (q := 73) C dX7_measure_84 rfl inGX7 (by decide) fwX7_22 ly_95 (by decide) rfl rfl ?_
              refine g_getIv (ci := 1) (k := 9) (v := nI c) C dX7_measure_87 rfl inGX1 (by decide) fwX7_61 ly_73 (by decide) rfl (by rw [stRow_off (by decide)]; exact hlk.1) ?_
              refine g_icmp_ge 159 C dX7_measure_90 (by decide) (fun c90 => ?_) (fun c90 => ?_)
              · exact (nI_ge_dead (n := c) c90 hi (by have := hlk.2.1; omega)).elim
              · obtain ⟨⟨a, ha, ha2⟩, -⟩ := hlk.2.2 i hi
                have hca : cn (I 78 i) = a := by rw [ha]; exact nI_clamp (by omega)
                have hi2 : i < 480 := by have := hlk.2.1; omega
                refine g_aload_n C dX7_measure_93 rfl ?_
                refine g_getR (ci := 7) (k := 1) (q := 73) C dX7_measure_94 rfl inGX7 (by decide) fwX7_22 ly_95 (by decide) rfl rfl ?_
                refine g_getR (ci := 1) (k := 5) (q := 78) C dX7_measure_97 rfl inGX1 (by decide) fwX7_66 ly_73 (by decide) rfl rfl ?_
                refine g_iload C dX7_measure_100 rfl ?_
                refine g_ialdv (v := nI a) _ C dX7_measure_102 ly_78 (by decide) (by decide) rfl (by omega) (by rw [stRow_off (by decide)]; exact ha) ?_
                refine g_istore_6 C dX7_measure_103 (by decide) ?_
                refine g_aload_n C dX7_measure_105 rfl ?_
                refine g_iload C dX7_measure_106 rfl ?_
                refine g_iload_n C dX7_measure_108 rfl ?_
                refine gv2I (ci := 7) C dX7_measure_109 vwX7_farThrough mwX7_69 ⟨by decide, by decide⟩ rfl ly_95 (Nat.le_of_ble_eq_true rfl) (s_farThrough (c := c) (lksOK_st hlk (by decide)) hi _) (Nat.le_of_ble_eq_true rfl) rfl ⟨by decide, by decide⟩ ?_
                rw [ft_thr hlk hi]
                refine g_istore_7 C dX7_measure_112 (by decide) ?_
                refine g_iload_n C dX7_measure_114 rfl ?_
                refine g_iload C dX7_measure_115 rfl ?_
                refine g_aload_n C dX7_measure_117 rfl ?_
                refine g_getR (ci := 7) (k := 2) (q := 96) C dX7_measure_118 rfl inGX7 (by decide) fwX7_9 ly_95 (by decide) rfl rfl ?_
                refine g_iload C dX7_measure_121 rfl ?_
                refine g_ialdv (v := (it (me1 (I 78) (I 79) (I 77) s) i (h, 0)).1 a) _ C dX7_measure_123 ly_96 (by decide) (by decide) rfl ha2 (stRow_in ha2) ?_
                refine g_icmp_ge 131 C dX7_measure_124 (by decide) (fun c124 => ?_) (fun c124 => ?_)
                · refine g_iconst (v := 0) C dX7_measure_131 (by decide) ?_
                  refine g_ior C dX7_measure_132 ?_
                  refine g_istore_3 C dX7_measure_133 (by decide) ?_
                  refine g_aload_n C dX7_measure_134 rfl ?_
                  refine g_getR (ci := 7) (k := 2) (q := 96) C dX7_measure_135 rfl inGX7 (by decide) fwX7_9 ly_95 (by decide) rfl rfl ?_
                  refine g_iload C dX7_measure_138 rfl ?_
                  refine g_aload_n C dX7_measure_140 rfl ?_
                  refine g_getR (ci := 7) (k := 2) (q := 96) C dX7_measure_141 rfl inGX7 (by decide) fwX7_9 ly_95 (by decide) rfl rfl ?_
                  refine g_iload C dX7_measure_144 rfl ?_
                  refine g_ialdv (v := (it (me1 (I 78) (I 79) (I 77) s) i (h, 0)).1 a) _ C dX7_measure_146 ly_96 (by decide) (by decide) rfl ha2 (stRow_in ha2) ?_
                  refine g_iload C dX7_measure_147 rfl ?_
                  refine g_min C dX7_measure_149 mnL ⟨by decide, Nat.le_of_ble_eq_true rfl⟩ rfl ⟨by decide, by decide⟩ ?_
                  refine g_iast _ C dX7_measure_152 ly_96 (by decide) (by decide) rfl ha2 ?_
                  refine g_iinc_5 C dX7_measure_153 (nI_1 i) (by decide) ?_
                  refine g_goto 81 C dX7_measure_156 (by decide) ?_
                  first
                    | (simp only [it, me1, hca, if_pos c124] at ihi; rw [stRow_up ha2]; exact ihi _ _)
                    | (simp only [it, me1, hca, if_neg c124] at ihi; rw [stRow_up ha2]; exact ihi _ _)
                · refine g_iconst (v := 1) C dX7_measure_127 (by decide) ?_
                  refine g_goto 132 C dX7_measure_128 (by decide) ?_
                  refine g_ior C dX7_measure_132 ?_
                  refine g_istore_3 C dX7_measure_133 (by decide) ?_
                  refine g_aload_n C dX7_measure_134 rfl ?_
                  refine g_getR (ci := 7) (k := 2) (q := 96) C dX7_measure_135 rfl inGX7 (by decide) fwX7_9 ly_95 (by decide) rfl rfl ?_
                  refine g_iload C dX7_measure_138 rfl ?_
                  refine g_aload_n C dX7_measure_140 rfl ?_
                  refine g_getR (ci := 7) (k := 2) (q := 96) C dX7_measure_141 rfl inGX7 (by decide) fwX7_9 ly_95 (by decide) rfl rfl ?_
                  refine g_iload C dX7_measure_144 rfl ?_
                  refine g_ialdv (v := (it (me1 (I 78) (I 79) (I 77) s) i (h, 0)).1 a) _ C dX7_measure_146 ly_96 (by decide) (by decide) rfl ha2 (stRow_in ha2) ?_
                  refine g_iload C dX7_measure_147 rfl ?_
                  refine g_min C dX7_measure_149 mnL ⟨by decide, Nat.le_of_ble_eq_true rfl⟩ rfl ⟨by decide, by decide⟩ ?_
                  refine g_iast _ C dX7_measure_152 ly_96 (by decide) (by decide) rfl ha2 ?_
                  refine g_iinc_5 C dX7_measure_153 (nI_1 i) (by decide) ?_
                  refine g_goto 81 C dX7_measure_156 (by decide) ?_
                  first
                    | (simp only [it, me1, hca, if_pos c124] at ihi; rw [stRow_up ha2]; exact ihi _ _)
                    | (simp only [it, me1, hca, if_neg c124] at ihi; rw [stRow_up ha2]; exact ihi _ _)
          refine g_iconst (v := 0) C dX7_measure_76 (by decide) ?_
          refine g_istore_3 C dX7_measure_77 (by decide) ?_
          refine g_iconst (v := 0) C dX7_measure_78 (by decide) ?_
          refine g_istore_5 C dX7_measure_79 (by decide) ?_
          exact inner 0 (Nat.zero_le _) _ _
  have lp1 : ∀ p : Nat, p ≤ n → Go X G 8 0 0 (KQ X G iX7_measure (RetV (mm (meF I n s x c) J)) noT) 12 [.ref (G.1 + 95), .int s, .int (nI x), .int (nI p), uu, uu, uu, uu] [] (mm (stRow I 96 250 (it (me0 I x) p (fun _ => 1000))) J) := by
    refine loopN (n) ?_ ?_
    · skip
      show Go X G 8 0 0 _ 12 _ [] _
      refine g_iload_n C dX7_measure_12 rfl ?_
      refine g_aload_n C dX7_measure_13 rfl ?_
      refine g_getR (ci := 7) (k := 0) (q := 3) C dX7_measure_14 rfl inGX7 (by decide) fwX7_18 ly_95 (by decide) rfl rfl ?_
      refine g_getIv (ci := 2) (k := 2) (v := nI n) C dX7_measure_17 rfl inGX2 (by decide) fwX7_47 ly_3 (by decide) rfl (by rw [stRow_off (by decide)]; exact hn) ?_
      refine g_icmp_ge 59 C dX7_measure_20 (by decide) (fun c20 => ?_) (fun c20 => ?_)
      · refine g_iconst (v := 1) C dX7_measure_59 (by decide) ?_
        refine g_istore_3 C dX7_measure_60 (by decide) ?_
        refine g_iconst (v := 0) C dX7_measure_61 (by decide) ?_
        refine g_istore_4 C dX7_measure_62 (by decide) ?_
        exact main 250 0 _ 1 _ _ _ rfl rfl
      · exact absurd (Int32.le_refl _) c20
    · intro p hp ihp 
      show Go X G 8 0 0 _ 12 _ [] _
      refine g_iload_n C dX7_measure_12 rfl ?_
      refine g_aload_n C dX7_measure_13 rfl ?_
      refine g_getR (ci := 7) (k := 0) (q := 3) C dX7_measure_14 rfl inGX7 (by decide) fwX7_18 ly_95 (by decide) rfl rfl ?_
      refine g_getIv (ci := 2) (k := 2) (v := nI n) C dX7_measure_17 rfl inGX2 (by decide) fwX7_47 ly_3 (by decide) rfl (by rw [stRow_off (by decide)]; exact hn) ?_
      refine g_icmp_ge 59 C dX7_measure_20 (by decide) (fun c20 => ?_) (fun c20 => ?_)
      · exact (nI_ge_dead (n := n) c20 hp (by omega)).elim
      · refine g_aload_n C dX7_measure_23 rfl ?_
        refine g_getR (ci := 7) (k := 0) (q := 3) C dX7_measure_24 rfl inGX7 (by decide) fwX7_18 ly_95 (by decide) rfl rfl ?_
        refine g_getR (ci := 2) (k := 0) (q := 4) C dX7_measure_27 rfl inGX2 (by decide) fwX7_50 ly_3 (by decide) rfl rfl ?_
        refine g_iload_n C dX7_measure_30 rfl ?_
        refine g_ialdv (v := I 4 p) _ C dX7_measure_31 ly_4 (by decide) (by decide) rfl (show p < 10 by omega) (by rw [stRow_off (by decide)]) ?_
        refine g_iload_n C dX7_measure_32 rfl ?_
        refine gn2I C dX7_measure_33 swX8_hasBit (by decide +kernel) ⟨by decide, by decide⟩ (s_hasBit _ _) (Nat.le_of_ble_eq_true rfl) rfl ⟨by decide, by decide⟩ ?_
        refine g_if_eq 53 C dX7_measure_36 (by decide) (fun c36 => ?_) (fun c36 => ?_)
        · refine g_iinc_3 C dX7_measure_53 (nI_1 p) (by decide) ?_
          refine g_goto 12 C dX7_measure_56 (by decide) ?_
          first
            | (simp only [it, me0, if_pos c36] at ihp; exact ihp)
            | (simp only [it, me0, if_neg c36] at ihp; rw [stRow_up (show 25 * p + (9 + x) < 250 by omega)]; exact ihp)
        · refine g_aload_n C dX7_measure_39 rfl ?_
          refine g_getR (ci := 7) (k := 2) (q := 96) C dX7_measure_40 rfl inGX7 (by decide) fwX7_9 ly_95 (by decide) rfl rfl ?_
          refine g_iload_n C dX7_measure_43 rfl ?_
          refine g_bipush (v := 9) C dX7_measure_44 (by decide) ?_
          refine g_iload_n C dX7_measure_46 rfl ?_
          refine g_iadd C dX7_measure_47 ?_
          rw [show (9 : Int32) + nI x = nI (9 + x) from nI_add 9 x]
          refine gn2I C dX7_measure_48 swX8_spot (by decide +kernel) ⟨by decide, by decide⟩ (s_spotN _ _) (Nat.le_of_ble_eq_true rfl) rfl ⟨by decide, by decide⟩ ?_
          refine g_iconst (v := 0) C dX7_measure_51 (by decide) ?_
          refine g_iast _ C dX7_measure_52 ly_96 (by decide) (by decide) rfl (show 25 * p + (9 + x) < 250 by omega) ?_
          refine g_iinc_3 C dX7_measure_53 (nI_1 p) (by decide) ?_
          refine g_goto 12 C dX7_measure_56 (by decide) ?_
          first
            | (simp only [it, me0, if_pos c36] at ihp; exact ihp)
            | (simp only [it, me0, if_neg c36] at ihp; rw [stRow_up (show 25 * p + (9 + x) < 250 by omega)]; exact ihp)
  refine g_aload_n C dX7_measure_0 rfl ?_
  refine g_getR (ci := 7) (k := 2) (q := 96) C dX7_measure_1 rfl inGX7 (by decide) fwX7_9 ly_95 (by decide) rfl rfl ?_
  refine g_sipush (v := 1000) C dX7_measure_4 (by decide) ?_
  refine gs2V C dX7_measure_7 swJ7_fill_53178 mwX7_41 ⟨by decide, by decide⟩ (s_fill ly_96 (by decide) (by decide) _) (Nat.le_of_ble_eq_true rfl) rfl ⟨by decide, by decide⟩ ?_
  refine g_iconst (v := 0) C dX7_measure_10 (by decide) ?_
  refine g_istore_3 C dX7_measure_11 (by decide) ?_
  exact lp1 0 (Nat.zero_le _)
/-- state: best, nearest -/
def bgK (I : Nat → Nat → Int32) (s : Int32) (p k : Nat) (z : Int32 × Int32) : Int32 × Int32 :=
  if I (6 + 6 * p + 1 + 0) k = 0 then (if I (6 + 6 * p + 1 + 1) k = s then (if I 96 (25 * p + cn (I (6 + 6 * p + 1 + 2) k)) < z.2 then (nI (100 * p + k), I 96 (25 * p + cn (I (6 + 6 * p + 1 + 2) k))) else z) else z) else z
def bgP (I : Nat → Nat → Int32) (ln : Nat → Nat) (s : Int32) (p : Nat) (z : Int32 × Int32) : Int32 × Int32 := if hb (I 75 p &&& I 4 p) s = 0 then z else it (bgK I s p) (ln p) z
def bgF (I : Nat → Nat → Int32) (n : Nat) (ln : Nat → Nat) (s : Int32) : Int32 × Int32 := it (bgP I ln s) n (-1, 1000)
set_option maxHeartbeats 1000000 in
theorem s_bestGet {l : Launch} {G : Gm} {I : Nat → Nat → Int32} {J : Nat → Nat → Int64} {n : Nat} (hn : I 3 2 = nI n) (hn10 : n ≤ 10) {ln : Nat → Nat} (hs : shOK I ln) (s : Int32) : Sp l G iX7_bestGet [.ref (G.1 + 95), .int s] (mm I J) (RetI (bgF I n ln s).1 (mm I J)) noT := by
  refine Sp.of (by decide +kernel) (Nat.le_of_ble_eq_true rfl) ?_
  intro X hXl C
  subst hXl
  show Go X G 9 0 0 _ 0 [.ref (G.1 + 95), .int s, uu, uu, uu, uu, uu, uu, uu] [] (mm I J)
  have lp : ∀ p : Nat, p ≤ n → ∀ a5 a6 a7 a8 : Value, Go X G 9 0 0 (KQ X G iX7_bestGet (RetI (bgF I n ln s).1 (mm I J)) noT) 9 [.ref (G.1 + 95), .int s, .int (it (bgP I ln s) p (-1, 1000)).1, .int (it (bgP I ln s) p (-1, 1000)).2, .int (nI p), a5, a6, a7, a8] [] (mm I J) := by
    refine loopN (n) ?_ ?_
    · intro a5 a6 a7 a8
      show Go X G 9 0 0 _ 9 _ [] _
      refine g_iload C dX7_bestGet_9 rfl ?_
      refine g_aload_n C dX7_bestGet_11 rfl ?_
      refine g_getR (ci := 7) (k := 0) (q := 3) C dX7_bestGet_12 rfl inGX7 (by decide) fwX7_18 ly_95 (by decide) rfl rfl ?_
      refine g_getIv (ci := 2) (k := 2) (v := nI n) C dX7_bestGet_15 rfl inGX2 (by decide) fwX7_47 ly_3 (by decide) rfl hn ?_
      refine g_icmp_ge 156 C dX7_bestGet_18 (by decide) (fun c18 => ?_) (fun c18 => ?_)
      · refine g_iload_n C dX7_bestGet_156 rfl ?_
        exact e_I C dX7_bestGet_157 rfl rfl rfl rfl rfl
      · exact absurd (Int32.le_refl _) c18
    · intro p hp ihp a5 a6 a7 a8
      show Go X G 9 0 0 _ 9 _ [] _
      refine g_iload C dX7_bestGet_9 rfl ?_
      refine g_aload_n C dX7_bestGet_11 rfl ?_
      refine g_getR (ci := 7) (k := 0) (q := 3) C dX7_bestGet_12 rfl inGX7 (by decide) fwX7_18 ly_95 (by decide) rfl rfl ?_
      refine g_getIv (ci := 2) (k := 2) (v := nI n) C dX7_bestGet_15 rfl inGX2 (by decide) fwX7_47 ly_3 (by decide) rfl hn ?_
      refine g_icmp_ge 156 C dX7_bestGet_18 (by decide) (fun c18 => ?_) (fun c18 => ?_)
      · exact (nI_ge_dead (n := n) c18 hp (by omega)).elim
      · refine g_aload_n C dX7_bestGet_21 rfl ?_
        refine g_getR (ci := 7) (k := 1) (q := 73) C dX7_bestGet_22 rfl inGX7 (by decide) fwX7_22 ly_95 (by decide) rfl rfl ?_
        refine g_getR (ci := 1) (k := 2) (q := 75) C dX7_bestGet_25 rfl inGX1 (by decide) fwX7_83 ly_73 (by decide) rfl rfl ?_
        refine g_iload C dX7_bestGet_28 rfl ?_
        refine g_iald _ C dX7_bestGet_30 ly_75 (by decide) (by decide) rfl (show p < 10 by omega) ?_
        refine g_aload_n C dX7_bestGet_31 rfl ?_
        refine g_getR (ci := 7) (k := 0) (q := 3) C dX7_bestGet_32 rfl inGX7 (by decide) fwX7_18 ly_95 (by decide) rfl rfl ?_
        refine g_getR (ci := 2) (k := 0) (q := 4) C dX7_bestGet_35 rfl inGX2 (by decide) fwX7_50 ly_3 (by decide) rfl rfl ?_
        refine g_iload C dX7_bestGet_38 rfl ?_
        refine g_iald _ C dX7_bestGet_40 ly_4 (by decide) (by decide) rfl (show p < 10 by omega) ?_
        refine g_iand C dX7_bestGet_41 ?_
        refine g_iload_n C dX7_bestGet_42 rfl ?_
        refine gn2I C dX7_bestGet_43 swX8_hasBit (by decide +kernel) ⟨by decide, by decide⟩ (s_hasBit _ _) (Nat.le_of_ble_eq_true rfl) rfl ⟨by decide, by decide⟩ ?_
        refine g_istore_5 C dX7_bestGet_46 (by decide) ?_
        refine g_aload_n C dX7_bestGet_48 rfl ?_
        refine g_getR (ci := 7) (k := 0) (q := 3) C dX7_bestGet_49 rfl inGX7 (by decide) fwX7_18 ly_95 (by decide) rfl rfl ?_
        refine g_getR (ci := 2) (k := 1) (q := 5) C dX7_bestGet_52 rfl inGX2 (by decide) fwX7_86 ly_3 (by decide) rfl rfl ?_
        refine g_iload C dX7_bestGet_55 rfl ?_
        refine g_aald (q := 6 + 6 * p) p C dX7_bestGet_57 ly_5 (Or.inl ⟨rfl, rfl⟩) (by decide) (by decide) rfl (show p < 10 by omega) (rf_shs (show p < 10 by omega)) ?_
        refine g_astore_6 C dX7_bestGet_58 (by decide) ?_
        by_cases g46 : hb (I 75 p &&& I 4 p) s = 0
        · refine g_iconst (v := 0) C dX7_bestGet_60 (by decide) ?_
          refine g_istore_7 C dX7_bestGet_61 (by decide) ?_
          refine g_iload C dX7_bestGet_63 rfl ?_
          refine g_aload C dX7_bestGet_65 rfl ?_
          refine g_getIv (ci := 5) (k := 5) (v := nI (ln p)) C dX7_bestGet_67 rfl inGX5 (by decide) fwX7_90 (ly_sh (show p < 10 by omega)) (by omega) rfl (hs.1 p (show p < 10 by omega)).1 ?_
          refine g_icmp_ge 150 C dX7_bestGet_70 (by decide) (fun c70 => ?_) (fun c70 => ?_)
          · refine g_iinc_4 C dX7_bestGet_150 (nI_1 p) (by decide) ?_
            refine g_goto 9 C dX7_bestGet_153 (by decide) ?_
            have h9 : it (bgP I ln s) (p + 1) (-1, 1000) = (it (bgP I ln s) p (-1, 1000)) := if_pos g46
            rw [h9] at ihp
            exact ihp _ _ _ _
          · refine g_iload C dX7_bestGet_73 rfl ?_
            refine g_if_eq 150 C dX7_bestGet_75 (by decide) (fun c75 => ?_) (fun c75 => ?_)
            · refine g_iinc_4 C dX7_bestGet_150 (nI_1 p) (by decide) ?_
              refine g_goto 9 C dX7_bestGet_153 (by decide) ?_
              have h9 : it (bgP I ln s) (p + 1) (-1, 1000) = (it (bgP I ln s) p (-1, 1000)) := if_pos g46
              rw [h9] at ihp
              exact ihp _ _ _ _
            · exact absurd g46 c75
        have inner : ∀ k : Nat, k ≤ ln p → ∀ a8 : Value, Go X G 9 0 0 (KQ X G iX7_bestGet (RetI (bgF I n ln s).1 (mm I J)) noT) 63 [.ref (G.1 + 95), .int s, .int (it (bgK I s p) k (it (bgP I ln s) p (-1, 1000))).1, .int (it (bgK I s p) k (it (bgP I ln s) p (-1, 1000))).2, .int (nI p), .int (hb (I 75 p &&& I 4 p) s), .ref (G.1 + (6 + 6 * p)), .int (nI k), a8] [] (mm I J) := by
          refine loopN (ln p) ?_ ?_
          · intro a8
            show Go X G 9 0 0 _ 63 _ [] _
            refine g_iload C dX7_bestGet_63 rfl ?_
            refine g_aload C dX7_bestGet_65 rfl ?_
            refine g_getIv (ci := 5) (k := 5) (v := nI (ln p)) C dX7_bestGet_67 rfl inGX5 (by decide) fwX7_90 (ly_sh (show p < 10 by omega)) (by omega) rfl (hs.1 p (show p < 10 by omega)).1 ?_
            refine g_icmp_ge 150 C dX7_bestGet_70 (by decide) (fun c70 => ?_) (fun c70 => ?_)
            · refine g_iinc_4 C dX7_bestGet_150 (nI_1 p) (by decide) ?_
              refine g_goto 9 C dX7_bestGet_153 (by decide) ?_
              have h9 : it (bgP I ln s) (p + 1) (-1, 1000) = it (bgK I s p) (ln p) (it (bgP I ln s) p (-1, 1000)) := if_neg g46
              rw [h9] at ihp
              exact ihp _ _ _ _
            · exact absurd (Int32.le_refl _) c70
          · intro k hk ihk a8
            show Go X G 9 0 0 _ 63 _ [] _
            refine g_iload C dX7_bestGet_63 rfl ?_
            refine g_aload C dX7_bestGet_65 rfl ?_
            refine g_getIv (ci := 5) (k := 5) (v := nI (ln p)) C dX7_bestGet_67 rfl inGX5 (by decide) fwX7_90 (ly_sh (show p < 10 by omega)) (by omega) rfl (hs.1 p (show p < 10 by omega)).1 ?_
            refine g_icmp_ge 150 C dX7_bestGet_70 (by decide) (fun c70 => ?_) (fun c70 => ?_)
            · exact (nI_ge_dead (n := ln p) c70 hk (by have := (hs.1 p (show p < 10 by omega)).2; omega)).elim
            · refine g_iload C dX7_bestGet_73 rfl ?_
              refine g_if_eq 150 C dX7_bestGet_75 (by decide) (fun c75 => ?_) (fun c75 => ?_)
              · exact absurd c75 g46
              · obtain ⟨kd, nu, f, e1, b1, e2, b2, e3, b3, -⟩ := hs.2 p (show p < 10 by omega) k hk
                have hcf : cn (I (6 + 6 * p + 1 + 2) k) = f := by rw [e3]; exact nI_clamp (by omega)
                have hk12 : k < 12 := by have := (hs.1 p (show p < 10 by omega)).2; omega
                refine g_iload C dX7_bestGet_78 rfl ?_
                refine g_aload C dX7_bestGet_80 rfl ?_
                refine g_getR (ci := 5) (k := 2) (q := 6 + 6 * p + 1 + 2) C dX7_bestGet_82 rfl inGX5 (by decide) fwX7_93 (ly_sh (show p < 10 by omega)) (by omega) rfl (rf_sh (show p < 10 by omega) (by decide)) ?_
                refine g_iload C dX7_bestGet_85 rfl ?_
                refine g_ialdv (v := nI f) _ C dX7_bestGet_87 (ly_sa (show p < 10 by omega) (by decide)) (by omega) (by decide) rfl (by omega) e3 ?_
                refine gn2I C dX7_bestGet_88 swX8_spot (by decide +kernel) ⟨by decide, by decide⟩ (s_spotN _ _) (Nat.le_of_ble_eq_true rfl) rfl ⟨by decide, by decide⟩ ?_
                refine g_istore_8 C dX7_bestGet_91 (by decide) ?_
                refine g_aload C dX7_bestGet_93 rfl ?_
                refine g_getR (ci := 5) (k := 0) (q := 6 + 6 * p + 1 + 0) C dX7_bestGet_95 rfl inGX5 (by decide) fwX7_96 (ly_sh (show p < 10 by omega)) (by omega) rfl (rf_sh (show p < 10 by omega) (by decide)) ?_
                refine g_iload C dX7_bestGet_98 rfl ?_
                refine g_iald _ C dX7_bestGet_100 (ly_sa (show p < 10 by omega) (by decide)) (by omega) (by decide) rfl (by omega) ?_
                refine g_if_ne 144 C dX7_bestGet_101 (by decide) (fun c101 => ?_) (fun c101 => ?_)
                · refine g_iinc_7 C dX7_bestGet_144 (nI_1 k) (by decide) ?_
                  refine g_goto 63 C dX7_bestGet_147 (by decide) ?_
                  first
                    | (have h8 := ihk
                       simp only [it, bgK, hcf, if_pos c101, if_pos c113, if_pos (Int32.not_le.mp c124)] at h8
                       exact h8 _)
                    | (have h8 := ihk
                       simp only [it, bgK, hcf, if_pos c101, if_pos c113, if_neg (Int32.not_lt.mpr c124)] at h8
                       exact h8 _)
                    | (have h8 := ihk
                       simp only [it, bgK, hcf, if_pos c101, if_neg c113] at h8
                       exact h8 _)
                    | (have h8 := ihk
                       simp only [it, bgK, hcf, if_neg c101] at h8
                       exact h8 _)
                · refine g_aload C dX7_bestGet_104 rfl ?_
                  refine g_getR (ci := 5) (k := 1) (q := 6 + 6 * p + 1 + 1) C dX7_bestGet_106 rfl inGX5 (by decide) fwX7_99 (ly_sh (show p < 10 by omega)) (by omega) rfl (rf_sh (show p < 10 by omega) (by decide)) ?_
                  refine g_iload C dX7_bestGet_109 rfl ?_
                  refine g_iald _ C dX7_bestGet_111 (ly_sa (show p < 10 by omega) (by decide)) (by omega) (by decide) rfl (by omega) ?_
                  refine g_iload_n C dX7_bestGet_112 rfl ?_
                  refine g_icmp_ne 144 C dX7_bestGet_113 (by decide) (fun c113 => ?_) (fun c113 => ?_)
                  · refine g_iinc_7 C dX7_bestGet_144 (nI_1 k) (by decide) ?_
                    refine g_goto 63 C dX7_bestGet_147 (by decide) ?_
                    first
                      | (have h8 := ihk
                         simp only [it, bgK, hcf, if_pos c101, if_pos c113, if_pos (Int32.not_le.mp c124)] at h8
                         exact h8 _)
                      | (have h8 := ihk
                         simp only [it, bgK, hcf, if_pos c101, if_pos c113, if_neg (Int32.not_lt.mpr c124)] at h8
                         exact h8 _)
                      | (have h8 := ihk
                         simp only [it, bgK, hcf, if_pos c101, if_neg c113] at h8
                         exact h8 _)
                      | (have h8 := ihk
                         simp only [it, bgK, hcf, if_neg c101] at h8
                         exact h8 _)
                  · refine g_aload_n C dX7_bestGet_116 rfl ?_
                    refine g_getR (ci := 7) (k := 2) (q := 96) C dX7_bestGet_117 rfl inGX7 (by decide) fwX7_9 ly_95 (by decide) rfl rfl ?_
                    refine g_iload C dX7_bestGet_120 rfl ?_
                    refine g_iald _ C dX7_bestGet_122 ly_96 (by decide) (by decide) rfl (show 25 * p + f < 250 by omega) ?_
                    refine g_iload_n C dX7_bestGet_123 rfl ?_
                    refine g_icmp_ge 144 C dX7_bestGet_124 (by decide) (fun c124 => ?_) (fun c124 => ?_)
                    · refine g_iinc_7 C dX7_bestGet_144 (nI_1 k) (by decide) ?_
                      refine g_goto 63 C dX7_bestGet_147 (by decide) ?_
                      first
                        | (have h8 := ihk
                           simp only [it, bgK, hcf, if_pos c101, if_pos c113, if_pos (Int32.not_le.mp c124)] at h8
                           exact h8 _)
                        | (have h8 := ihk
                           simp only [it, bgK, hcf, if_pos c101, if_pos c113, if_neg (Int32.not_lt.mpr c124)] at h8
                           exact h8 _)
                        | (have h8 := ihk
                           simp only [it, bgK, hcf, if_pos c101, if_neg c113] at h8
                           exact h8 _)
                        | (have h8 := ihk
                           simp only [it, bgK, hcf, if_neg c101] at h8
                           exact h8 _)
                    · refine g_aload_n C dX7_bestGet_127 rfl ?_
                      refine g_getR (ci := 7) (k := 2) (q := 96) C dX7_bestGet_128 rfl inGX7 (by decide) fwX7_9 ly_95 (by decide) rfl rfl ?_
                      refine g_iload C dX7_bestGet_131 rfl ?_
                      refine g_iald _ C dX7_bestGet_133 ly_96 (by decide) (by decide) rfl (show 25 * p + f < 250 by omega) ?_
                      refine g_istore_3 C dX7_bestGet_134 (by decide) ?_
                      refine g_bipush (v := 100) C dX7_bestGet_135 (by decide) ?_
                      refine g_iload C dX7_bestGet_137 rfl ?_
                      refine g_imul C dX7_bestGet_139 ?_
                      refine g_iload C dX7_bestGet_140 rfl ?_
                      refine g_iadd C dX7_bestGet_142 ?_
                      rw [step_nI]
                      refine g_istore_2 C dX7_bestGet_143 (by decide) ?_
                      refine g_iinc_7 C dX7_bestGet_144 (nI_1 k) (by decide) ?_
                      refine g_goto 63 C dX7_bestGet_147 (by decide) ?_
                      first
                        | (have h8 := ihk
                           simp only [it, bgK, hcf, if_pos c101, if_pos c113, if_pos (Int32.not_le.mp c124)] at h8
                           exact h8 _)
                        | (have h8 := ihk
                           simp only [it, bgK, hcf, if_pos c101, if_pos c113, if_neg (Int32.not_lt.mpr c124)] at h8
                           exact h8 _)
                        | (have h8 := ihk
                           simp only [it, bgK, hcf, if_pos c101, if_neg c113] at h8
                           exact h8 _)
                        | (have h8 := ihk
                           simp only [it, bgK, hcf, if_neg c101] at h8
                           exact h8 _)
        refine g_iconst (v := 0) C dX7_bestGet_60 (by decide) ?_
        refine g_istore_7 C dX7_bestGet_61 (by decide) ?_
        exact inner 0 (Nat.zero_le _) _
  refine g_iconst (v := (-1)) C dX7_bestGet_0 (by decide) ?_
  refine g_istore_2 C dX7_bestGet_1 (by decide) ?_
  refine g_sipush (v := 1000) C dX7_bestGet_2 (by decide) ?_
  refine g_istore_3 C dX7_bestGet_5 (by decide) ?_
  refine g_iconst (v := 0) C dX7_bestGet_6 (by decide) ?_
  refine g_istore_4 C dX7_bestGet_7 (by decide) ?_
  exact lp 0 (Nat.zero_le _) _ _ _ _
def apT (A : Nat → Nat → Int32) (v : Int32) : Nat → Nat → Int32 := if A 95 4 < 91 then up1 (up1 A 97 (cn (A 95 4)) v) 95 4 (nI (cn (A 95 4) + 1)) else A
def tzOK (A : Nat → Nat → Int32) : Prop := ∃ z, A 95 4 = nI z ∧ z ≤ 91
theorem apT_ok {A : Nat → Nat → Int32} {v : Int32} (h : tzOK A) : tzOK (apT A v) := by
  obtain ⟨z, h1, h2⟩ := h
  unfold apT
  by_cases h : A 95 4 < 91
  · rw [if_pos h]
    rw [h1] at h ⊢
    have h3 := nI_t (b := 91) h (by omega) (by decide)
    exact ⟨z + 1, by rw [cn_nI (by omega)]; simp [up1], by omega⟩
  · rw [if_neg h]; exact ⟨z, h1, h2⟩
theorem apT_off {A : Nat → Nat → Int32} {v : Int32} {q : Nat} (h1 : q ≠ 95) (h2 : q ≠ 97) : apT A v q = A q := by
  unfold apT
  split
  · rw [up1_off h1, up1_off h2]
  · rfl
set_option maxHeartbeats 1000000 in
theorem s_appendT {l : Launch} {G : Gm} {I : Nat → Nat → Int32} {J : Nat → Nat → Int64} (hz : tzOK I) (v : Int32) : Sp l G iX7_append [.ref (G.1 + 95), .int v] (mm I J) (RetV (mm (apT I v) J)) noT := by
  refine Sp.of (by decide +kernel) (Nat.le_of_ble_eq_true rfl) ?_
  intro X hXl C
  subst hXl
  show Go X G 2 0 0 _ 0 [.ref (G.1 + 95), .int v] [] (mm I J)
  obtain ⟨z, hz1, hz2⟩ := hz
  refine g_aload_n C dX7_append_0 rfl ?_
  refine g_getIv (ci := 7) (k := 4) (v := nI z) C dX7_append_1 rfl inGX7 (by decide) fwX7_37 ly_95 (by decide) rfl hz1 ?_
  refine g_bipush (v := 91) C dX7_append_4 (by decide) ?_
  refine g_icmp_ge 29 C dX7_append_6 (by decide) (fun c6 => ?_) (fun c6 => ?_)
  · have g6 : ¬ I 95 4 < 91 := by rw [hz1]; exact Int32.not_lt.mpr c6
    exact e_V C dX7_append_29 rfl rfl rfl (by first | (rw [apT, if_neg g6]; done) | (rw [apT, if_pos g6, hz1, cn_nI (by omega)]))
  · have g6 : I 95 4 < 91 := by rw [hz1]; exact Int32.not_le.mp c6
    have g7 : z < 91 := nI_t (b := 91) (by rw [← hz1]; exact g6) (by omega) (by decide)
    refine g_aload_n C dX7_append_9 rfl ?_
    refine g_getR (ci := 7) (k := 3) (q := 97) C dX7_append_10 rfl inGX7 (by decide) fwX7_15 ly_95 (by decide) rfl rfl ?_
    refine g_aload_n C dX7_append_13 rfl ?_
    refine g_getIv (ci := 7) (k := 4) (v := nI z) C dX7_append_14 rfl inGX7 (by decide) fwX7_37 ly_95 (by decide) rfl hz1 ?_
    refine g_iload_n C dX7_append_17 rfl ?_
    refine g_iast _ C dX7_append_18 ly_97 (by decide) (by decide) rfl g7 ?_
    refine g_aload_n C dX7_append_19 rfl ?_
    refine g_dup C dX7_append_20 rfl ?_
    refine g_getIv (ci := 7) (k := 4) (v := nI z) C dX7_append_21 rfl inGX7 (by decide) fwX7_37 ly_95 (by decide) rfl (by simp [up1, hz1]) ?_
    refine g_iconst (v := 1) C dX7_append_24 (by decide) ?_
    refine g_iadd C dX7_append_25 ?_
    rw [nI_1]
    refine g_putI (ci := 7) (k := 4) .int C dX7_append_26 rfl inGX7 tyX7_ok nmX7 (by decide) fwX7_37 ly_95 (by decide) rfl rfl rfl rfl rfl ?_
    exact e_V C dX7_append_29 rfl rfl rfl (by first | (rw [apT, if_neg g6]; done) | (rw [apT, if_pos g6, hz1, cn_nI (by omega)]))
/-- the first link behind i that leads nearer -/
def flF (I : Nat → Nat → Int32) (pl : Nat) (s : Int32) : Nat → Nat → Int32
  | 0, _ => -1
  | f + 1, i => if I 78 i = nI pl then (if ftF I i s = I 96 pl then nI i else flF I pl s f (i + 1)) else flF I pl s f (i + 1)
set_option maxHeartbeats 1000000 in
theorem s_firstLink {l : Launch} {G : Gm} {I : Nat → Nat → Int32} {J : Nat → Nat → Int64} {c : Nat} (hlk : lksOK I c) {pl : Nat} (hpl : pl < 250) (s : Int32) : Sp l G iX7_firstLink [.ref (G.1 + 95), .int (nI pl), .int s] (mm I J) (RetI (flF I pl s c 0) (mm I J)) noT := by
  refine Sp.of (by decide +kernel) (Nat.le_of_ble_eq_true rfl) ?_
  intro X hXl C
  subst hXl
  show Go X G 4 0 0 _ 0 [.ref (G.1 + 95), .int (nI pl), .int s, uu] [] (mm I J)
  have loop : ∀ i : Nat, i ≤ c → flF I pl s (c - i) i = flF I pl s c 0 → Go X G 4 0 0 (KQ X G iX7_firstLink (RetI (flF I pl s c 0) (mm I J)) noT) 2 [.ref (G.1 + 95), .int (nI pl), .int s, .int (nI i)] [] (mm I J) := by
    refine loopN (c) ?_ ?_
    · intro hf
      show Go X G 4 0 0 _ 2 _ [] _
      refine g_iload_n C dX7_firstLink_2 rfl ?_
      refine g_aload_n C dX7_firstLink_3 rfl ?_
      refine g_getR (ci := 7) (k := 1) (q := 73) C dX7_firstLink_4 rfl inGX7 (by decide) fwX7_22 ly_95 (by decide) rfl rfl ?_
      refine g_getIv (ci := 1) (k := 9) (v := nI c) C dX7_firstLink_7 rfl inGX1 (by decide) fwX7_61 ly_73 (by decide) rfl hlk.1 ?_
      refine g_icmp_ge 49 C dX7_firstLink_10 (by decide) (fun c10 => ?_) (fun c10 => ?_)
      · refine g_iconst (v := (-1)) C dX7_firstLink_49 (by decide) ?_
        exact e_I C dX7_firstLink_50 rfl rfl rfl (by rw [← hf, Nat.sub_self]; rfl) rfl
      · exact absurd (Int32.le_refl _) c10
    · intro i hi ihi hf
      show Go X G 4 0 0 _ 2 _ [] _
      refine g_iload_n C dX7_firstLink_2 rfl ?_
      refine g_aload_n C dX7_firstLink_3 rfl ?_
      refine g_getR (ci := 7) (k := 1) (q := 73) C dX7_firstLink_4 rfl inGX7 (by decide) fwX7_22 ly_95 (by decide) rfl rfl ?_
      refine g_getIv (ci := 1) (k := 9) (v := nI c) C dX7_firstLink_7 rfl inGX1 (by decide) fwX7_61 ly_73 (by decide) rfl hlk.1 ?_
      refine g_icmp_ge 49 C dX7_firstLink_10 (by decide) (fun c10 => ?_) (fun c10 => ?_)
      · exact (nI_ge_dead (n := c) c10 hi (by have := hlk.2.1; omega)).elim
      · rw [show c - i = (c - (i + 1)) + 1 by omega] at hf
        replace hf : (if I 78 i = nI pl then (if ftF I i s = I 96 pl then nI i else flF I pl s (c - (i + 1)) (i + 1)) else flF I pl s (c - (i + 1)) (i + 1)) = flF I pl s c 0 := hf
        refine g_aload_n C dX7_firstLink_13 rfl ?_
        refine g_getR (ci := 7) (k := 1) (q := 73) C dX7_firstLink_14 rfl inGX7 (by decide) fwX7_22 ly_95 (by decide) rfl rfl ?_
        refine g_getR (ci := 1) (k := 5) (q := 78) C dX7_firstLink_17 rfl inGX1 (by decide) fwX7_66 ly_73 (by decide) rfl rfl ?_
        refine g_iload_n C dX7_firstLink_20 rfl ?_
        refine g_iald _ C dX7_firstLink_21 ly_78 (by decide) (by decide) rfl (by have := hlk.2.1; omega) ?_
        refine g_iload_n C dX7_firstLink_22 rfl ?_
        refine g_icmp_ne 43 C dX7_firstLink_23 (by decide) (fun c23 => ?_) (fun c23 => ?_)
        · rw [if_neg c23] at hf
          refine g_iinc_3 C dX7_firstLink_43 (nI_1 i) (by decide) ?_
          refine g_goto 2 C dX7_firstLink_46 (by decide) ?_
          exact ihi hf
        · rw [if_pos c23] at hf
          refine g_aload_n C dX7_firstLink_26 rfl ?_
          refine g_iload_n C dX7_firstLink_27 rfl ?_
          refine g_iload_n C dX7_firstLink_28 rfl ?_
          refine gv2I (ci := 7) C dX7_firstLink_29 vwX7_farThrough mwX7_69 ⟨by decide, by decide⟩ rfl ly_95 (Nat.le_of_ble_eq_true rfl) (s_farThrough hlk hi _) (Nat.le_of_ble_eq_true rfl) rfl ⟨by decide, by decide⟩ ?_
          refine g_aload_n C dX7_firstLink_32 rfl ?_
          refine g_getR (ci := 7) (k := 2) (q := 96) C dX7_firstLink_33 rfl inGX7 (by decide) fwX7_9 ly_95 (by decide) rfl rfl ?_
          refine g_iload_n C dX7_firstLink_36 rfl ?_
          refine g_iald _ C dX7_firstLink_37 ly_96 (by decide) (by decide) rfl hpl ?_
          refine g_icmp_ne 43 C dX7_firstLink_38 (by decide) (fun c38 => ?_) (fun c38 => ?_)
          · rw [if_neg c38] at hf
            refine g_iinc_3 C dX7_firstLink_43 (nI_1 i) (by decide) ?_
            refine g_goto 2 C dX7_firstLink_46 (by decide) ?_
            exact ihi hf
          · rw [if_pos c38] at hf
            refine g_iload_n C dX7_firstLink_41 rfl ?_
            exact e_I C dX7_firstLink_42 rfl rfl rfl hf rfl
  refine g_iconst (v := 0) C dX7_firstLink_0 (by decide) ?_
  refine g_istore_3 C dX7_firstLink_1 (by decide) ?_
  exact loop 0 (Nat.zero_le _) rfl
