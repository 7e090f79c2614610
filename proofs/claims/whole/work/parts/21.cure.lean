theorem nI_sub2 {cc i : Nat} (h : i < cc) : nI cc - 1 - nI i = nI (cc - 1 - i) := by
  rw [show (1 : Int32) = nI 1 from rfl, pk_sub (by omega), pk_sub (by omega)]
set_option maxHeartbeats 1000000 in
theorem s_isChosen {l : Launch} {G : Gm} {I : Nat → Nat → Int32} {J : Nat → Nat → Int64} {cc : Nat} (hcc : I 98 7 = nI cc) (hcc10 : cc ≤ 10) {i : Nat} (hi : i < cc) (ch : Int32) : Sp l G iX4_isChosen [.ref (G.1 + 98), .int ch, .int (nI i)] (mm I J) (RetI (hb ch (nI (cc - 1 - i))) (mm I J)) noT := by
  refine Sp.of (by decide +kernel) (Nat.le_of_ble_eq_true rfl) ?_
  intro X hXl C
  subst hXl
  show Go X G 3 0 0 _ 0 [.ref (G.1 + 98), .int ch, .int (nI i)] [] (mm I J)
  refine g_iload_n C dX4_isChosen_0 rfl ?_
  refine g_aload_n C dX4_isChosen_1 rfl ?_
  refine g_getIv (ci := 4) (k := 7) (v := nI cc) C dX4_isChosen_2 rfl inGX4 (by decide) fwX4_78 ly_98 (by decide) rfl hcc ?_
  refine g_iconst (v := 1) C dX4_isChosen_5 (by decide) ?_
  refine g_isub C dX4_isChosen_6 ?_
  refine g_iload_n C dX4_isChosen_7 rfl ?_
  refine g_isub C dX4_isChosen_8 ?_
  rw [nI_sub2 hi]
  refine gn2I C dX4_isChosen_9 swX8_hasBit (by decide +kernel) ⟨by decide, by decide⟩ (s_hasBit _ _) (Nat.le_of_ble_eq_true rfl) rfl ⟨by decide, by decide⟩ ?_
  exact e_Z C dX4_isChosen_12 rfl rfl rfl (hb_or _ _) rfl rfl
/-- the candidates, each a part and a right -/
def cdOK (I : Nat → Nat → Int32) (cc : Nat) : Prop := ∀ i, i < cc → ∃ p r : Nat, I 101 i = nI (100 * p + r) ∧ p < 10 ∧ r < 16
def icS (cd : Nat → Int32) (cc : Nat) (ch : Int32) (i : Nat) (t : Nat → Int32) : Nat → Int32 := if hb ch (nI (cc - 1 - i)) = 0 then t else upd t (cn (cd i) / 100) (t (cn (cd i) / 100) &&& (((1 : Int32) <<< (nI (cn (cd i) % 100) &&& 31)) ^^^ (-1)))
def icT (I : Nat → Nat → Int32) (cc : Nat) (ch : Int32) : Nat → Int32 := it (icS (I 101) cc ch) cc (I 4)
def icF (I : Nat → Nat → Int32) (n cc : Nat) (ch : Int32) : Nat → Nat → Int32 := lookF (stRow I 99 10 (icT I cc ch)) n 99
/-- the doors are as they are wanted -/
def icE (A : Nat → Nat → Int32) : Nat → Int32
  | 0 => 1
  | k + 1 => if A 94 (15 - k) = A 100 (15 - k) then icE A k else 0
theorem cp_st (I : Nat → Nat → Int32) : cpRow I 4 99 10 = stRow I 99 10 (I 4) := rfl
theorem icE_or (A : Nat → Nat → Int32) : ∀ k, icE A k = 0 ∨ icE A k = 1
  | 0 => Or.inr rfl
  | k + 1 => by
    unfold icE
    split
    · exact icE_or A k
    · exact Or.inl rfl
set_option maxHeartbeats 1000000 in
theorem s_isCure {l : Launch} {G : Gm} {I : Nat → Nat → Int32} {J : Nat → Nat → Int64} {n : Nat} (hn : I 3 2 = nI n) (hn10 : n ≤ 10) {cc : Nat} (hcc : I 98 7 = nI cc) (hcc10 : cc ≤ 10) (hcd0 : cdOK I cc) (ch : Int32) : Sp l G iX4_isCure [.ref (G.1 + 98), .int ch] (mm I J) (RetI (icE (icF I n cc ch) 16) (mm (icF I n cc ch) J)) noT := by
  refine Sp.of (by decide +kernel) (Nat.le_of_ble_eq_true rfl) ?_
  intro X hXl C
  subst hXl
  show Go X G 3 0 0 _ 0 [.ref (G.1 + 98), .int ch, uu] [] (mm I J)
  have lp2 : ∀ d : Nat, d ≤ 16 → icE (icF I n cc ch) (16 - d) = icE (icF I n cc ch) 16 → Go X G 3 0 0 (KQ X G iX4_isCure (RetI (icE (icF I n cc ch) 16) (mm (icF I n cc ch) J)) noT) 72 [.ref (G.1 + 98), .int ch, .int (nI d)] [] (mm (icF I n cc ch) J) := by
    refine loopN (16) ?_ ?_
    · intro hf
      show Go X G 3 0 0 _ 72 _ [] _
      refine g_iload_n C dX4_isCure_72 rfl ?_
      refine g_bipush (v := 16) C dX4_isCure_73 (by decide) ?_
      refine g_icmp_ge 104 C dX4_isCure_75 (by decide) (fun c75 => ?_) (fun c75 => ?_)
      · refine g_iconst (v := 1) C dX4_isCure_104 (by decide) ?_
        exact e_Z C dX4_isCure_105 rfl rfl rfl (by first | exact Or.inl rfl | exact Or.inr rfl) hf rfl
      · exact absurd (Int32.le_refl _) c75
    · intro d hd ihd hf
      show Go X G 3 0 0 _ 72 _ [] _
      refine g_iload_n C dX4_isCure_72 rfl ?_
      refine g_bipush (v := 16) C dX4_isCure_73 (by decide) ?_
      refine g_icmp_ge 104 C dX4_isCure_75 (by decide) (fun c75 => ?_) (fun c75 => ?_)
      · exact (nI_ge_dead (n := 16) c75 hd (by omega)).elim
      · rw [show 16 - d = (16 - (d + 1)) + 1 by omega] at hf
        replace hf : (if icF I n cc ch 94 (15 - (16 - (d + 1))) = icF I n cc ch 100 (15 - (16 - (d + 1))) then icE (icF I n cc ch) (16 - (d + 1)) else 0) = icE (icF I n cc ch) 16 := hf
        rw [show 15 - (16 - (d + 1)) = d by omega] at hf
        refine g_aload_n C dX4_isCure_78 rfl ?_
        refine g_getR (ci := 4) (k := 2) (q := 92) C dX4_isCure_79 rfl inGX4 (by decide) fwX4_32 ly_98 (by decide) rfl rfl ?_
        refine g_getR (ci := 0) (k := 3) (q := 94) C dX4_isCure_82 rfl inGX0 (by decide) fwX4_81 ly_92 (by decide) rfl rfl ?_
        refine g_iload_n C dX4_isCure_85 rfl ?_
        refine g_iald _ C dX4_isCure_86 ly_94 (by decide) (by decide) rfl hd ?_
        refine g_aload_n C dX4_isCure_87 rfl ?_
        refine g_getR (ci := 4) (k := 4) (q := 100) C dX4_isCure_88 rfl inGX4 (by decide) fwX4_15 ly_98 (by decide) rfl rfl ?_
        refine g_iload_n C dX4_isCure_91 rfl ?_
        refine g_iald _ C dX4_isCure_92 ly_100 (by decide) (by decide) rfl hd ?_
        refine g_icmp_eq 98 C dX4_isCure_93 (by decide) (fun c93 => ?_) (fun c93 => ?_)
        · rw [if_pos c93] at hf
          refine g_iinc_2 C dX4_isCure_98 (nI_1 d) (by decide) ?_
          refine g_goto 72 C dX4_isCure_101 (by decide) ?_
          exact ihd hf
        · rw [if_neg c93] at hf
          refine g_iconst (v := 0) C dX4_isCure_96 (by decide) ?_
          exact e_Z C dX4_isCure_97 rfl rfl rfl (by first | exact Or.inl rfl | exact Or.inr rfl) hf rfl
  have lp1 : ∀ i : Nat, i ≤ cc → Go X G 3 0 0 (KQ X G iX4_isCure (RetI (icE (icF I n cc ch) 16) (mm (icF I n cc ch) J)) noT) 6 [.ref (G.1 + 98), .int ch, .int (nI i)] [] (mm (stRow I 99 10 (it (icS (I 101) cc ch) i (I 4))) J) := by
    refine loopN (cc) ?_ ?_
    · skip
      show Go X G 3 0 0 _ 6 _ [] _
      refine g_iload_n C dX4_isCure_6 rfl ?_
      refine g_aload_n C dX4_isCure_7 rfl ?_
      refine g_getIv (ci := 4) (k := 7) (v := nI cc) C dX4_isCure_8 rfl inGX4 (by decide) fwX4_78 ly_98 (by decide) rfl (by rw [stRow_off (by decide)]; exact hcc) ?_
      refine g_icmp_ge 59 C dX4_isCure_11 (by decide) (fun c11 => ?_) (fun c11 => ?_)
      · refine g_aload_n C dX4_isCure_59 rfl ?_
        refine g_getR (ci := 4) (k := 2) (q := 92) C dX4_isCure_60 rfl inGX4 (by decide) fwX4_32 ly_98 (by decide) rfl rfl ?_
        refine g_aload_n C dX4_isCure_63 rfl ?_
        refine g_getR (ci := 4) (k := 3) (q := 99) C dX4_isCure_64 rfl inGX4 (by decide) fwX4_9 ly_98 (by decide) rfl rfl ?_
        refine gv1V (ci := 0) C dX4_isCure_67 vwX0_look mwX4_39 ⟨by decide, by decide⟩ rfl ly_92 (Nat.le_of_ble_eq_true rfl) (s_look (I := stRow I 99 10 (icT I cc ch)) (n := n) (by rw [stRow_off (by decide)]; exact hn) hn10 ly_99 (by decide) (by decide)) (Nat.le_of_ble_eq_true rfl) rfl ⟨by decide, by decide⟩ ?_
        refine g_iconst (v := 0) C dX4_isCure_70 (by decide) ?_
        refine g_istore_2 C dX4_isCure_71 (by decide) ?_
        exact lp2 0 (Nat.zero_le _) rfl
      · exact absurd (Int32.le_refl _) c11
    · intro i hi ihi 
      show Go X G 3 0 0 _ 6 _ [] _
      refine g_iload_n C dX4_isCure_6 rfl ?_
      refine g_aload_n C dX4_isCure_7 rfl ?_
      refine g_getIv (ci := 4) (k := 7) (v := nI cc) C dX4_isCure_8 rfl inGX4 (by decide) fwX4_78 ly_98 (by decide) rfl (by rw [stRow_off (by decide)]; exact hcc) ?_
      refine g_icmp_ge 59 C dX4_isCure_11 (by decide) (fun c11 => ?_) (fun c11 => ?_)
      · exact (nI_ge_dead (n := cc) c11 hi (by omega)).elim
      · refine g_aload_n C dX4_isCure_14 rfl ?_
        refine g_iload_n C dX4_isCure_15 rfl ?_
        refine g_iload_n C dX4_isCure_16 rfl ?_
        refine gv2I (ci := 4) C dX4_isCure_17 vwX4_isChosen mwX4_100 ⟨by decide, by decide⟩ rfl ly_98 (Nat.le_of_ble_eq_true rfl) (s_isChosen (cc := cc) (by rw [stRow_off (by decide)]; exact hcc) hcc10 hi _) (Nat.le_of_ble_eq_true rfl) rfl ⟨by decide, by decide⟩ ?_
        refine g_if_eq 53 C dX4_isCure_20 (by decide) (fun c20 => ?_) (fun c20 => ?_)
        · refine g_iinc_2 C dX4_isCure_53 (nI_1 i) (by decide) ?_
          refine g_goto 6 C dX4_isCure_56 (by decide) ?_
          first
            | (simp only [it, icS, if_pos c20] at ihi; exact ihi)
            | (simp only [it, icS, if_neg c20, hdv, hrv] at ihi; rw [stRow_up hp]; exact ihi)
        · obtain ⟨p, r, hcd, hp, hr⟩ := hcd0 i hi
          have hcv : cn (I 101 i) = 100 * p + r := by rw [hcd]; exact nI_clamp (by omega)
          have hdv : cn (I 101 i) / 100 = p := by rw [hcv]; omega
          have hrv : cn (I 101 i) % 100 = r := by rw [hcv]; omega
          refine g_aload_n C dX4_isCure_23 rfl ?_
          refine g_getR (ci := 4) (k := 3) (q := 99) C dX4_isCure_24 rfl inGX4 (by decide) fwX4_9 ly_98 (by decide) rfl rfl ?_
          refine g_aload_n C dX4_isCure_27 rfl ?_
          refine g_getR (ci := 4) (k := 5) (q := 101) C dX4_isCure_28 rfl inGX4 (by decide) fwX4_18 ly_98 (by decide) rfl rfl ?_
          refine g_iload_n C dX4_isCure_31 rfl ?_
          refine g_ialdv (v := nI (100 * p + r)) _ C dX4_isCure_32 ly_101 (by decide) (by decide) rfl (show i < 10 by omega) (by rw [stRow_off (by decide)]; exact hcd) ?_
          refine g_bipush (v := 100) C dX4_isCure_33 (by decide) ?_
          refine g_idiv C dX4_isCure_35 (by decide) ?_
          refine g_dup2 C dX4_isCure_36 rfl rfl ?_
          rw [show nI (100 * p + r) / 100 = nI p from by rw [show (100 : Int32) = nI 100 from rfl, pk_div (by omega) (by decide) (by decide)]; congr 1; omega]
          refine g_ialdv (v := (it (icS (I 101) cc ch) i (I 4)) p) _ C dX4_isCure_37 ly_99 (by decide) (by decide) rfl hp (stRow_in hp) ?_
          refine g_iconst (v := 1) C dX4_isCure_38 (by decide) ?_
          refine g_aload_n C dX4_isCure_39 rfl ?_
          refine g_getR (ci := 4) (k := 5) (q := 101) C dX4_isCure_40 rfl inGX4 (by decide) fwX4_18 ly_98 (by decide) rfl rfl ?_
          refine g_iload_n C dX4_isCure_43 rfl ?_
          refine g_ialdv (v := nI (100 * p + r)) _ C dX4_isCure_44 ly_101 (by decide) (by decide) rfl (show i < 10 by omega) (by rw [stRow_off (by decide)]; exact hcd) ?_
          refine g_bipush (v := 100) C dX4_isCure_45 (by decide) ?_
          refine g_irem C dX4_isCure_47 (by decide) ?_
          rw [show nI (100 * p + r) - nI (100 * p + r) / 100 * 100 = nI r from by rw [show (100 : Int32) = nI 100 from rfl, pk_rem (by omega) (by decide) (by decide)]; congr 1; omega]
          refine g_ishl C dX4_isCure_48 ?_
          refine g_iconst (v := (-1)) C dX4_isCure_49 (by decide) ?_
          refine g_ixor C dX4_isCure_50 ?_
          refine g_iand C dX4_isCure_51 ?_
          refine g_iast _ C dX4_isCure_52 ly_99 (by decide) (by decide) rfl hp ?_
          refine g_iinc_2 C dX4_isCure_53 (nI_1 i) (by decide) ?_
          refine g_goto 6 C dX4_isCure_56 (by decide) ?_
          first
            | (simp only [it, icS, if_pos c20] at ihi; exact ihi)
            | (simp only [it, icS, if_neg c20, hdv, hrv] at ihi; rw [stRow_up hp]; exact ihi)
  refine g_aload_n C dX4_isCure_0 rfl ?_
  refine gv0V (ci := 4) C dX4_isCure_1 vwX4_startTrial mwX4_36 ⟨by decide, by decide⟩ rfl ly_98 (Nat.le_of_ble_eq_true rfl) (s_startTrial) (Nat.le_of_ble_eq_true rfl) rfl ⟨by decide, by decide⟩ ?_
  refine g_iconst (v := 0) C dX4_isCure_4 (by decide) ?_
  refine g_istore_2 C dX4_isCure_5 (by decide) ?_
  exact lp1 0 (Nat.zero_le _)
def kpS (cc : Nat) (ch : Int32) (i : Nat) (A : Nat → Nat → Int32) : Nat → Nat → Int32 := if hb ch (nI (cc - 1 - i)) = 0 then A else up1 (up1 A 102 (cn (A 98 8)) (A 101 i)) 98 8 (nI (cn (A 98 8) + 1))
def kpF (I : Nat → Nat → Int32) (cc : Nat) (ch : Int32) : Nat → (Nat → Nat → Int32) := fun i => it (kpS cc ch) i (up1 I 98 8 0)
theorem kpF_ok {I : Nat → Nat → Int32} {cc : Nat} {ch : Int32} : ∀ i, i ≤ 10 → (∀ q, q ≠ 98 → q ≠ 102 → kpF I cc ch i q = I q) ∧ kpF I cc ch i 98 7 = I 98 7 ∧ ∃ s, kpF I cc ch i 98 8 = nI s ∧ s ≤ i
  | 0, _ => ⟨fun q h _ => up1_off h, by simp [kpF, it, up1], 0, by simp [kpF, it, up1, nI], by omega⟩
  | i + 1, hi => by
    obtain ⟨h1, h2, s, h3, h4⟩ := kpF_ok (I := I) (cc := cc) (ch := ch) i (by omega)
    have e : kpF I cc ch (i + 1) = kpS cc ch i (kpF I cc ch i) := rfl
    rw [e]
    unfold kpS
    split
    · exact ⟨h1, h2, s, h3, by omega⟩
    · rw [h3, cn_nI (show s < 2 ^ 31 by omega)]
      exact ⟨fun q a b => by rw [up1_off a, up1_off b]; exact h1 q a b, by simp [up1, h2], s + 1, by simp [up1], by omega⟩
set_option maxHeartbeats 1000000 in
theorem s_keep {l : Launch} {G : Gm} {I : Nat → Nat → Int32} {J : Nat → Nat → Int64} {cc : Nat} (hcc : I 98 7 = nI cc) (hcc10 : cc ≤ 10) (ch : Int32) : Sp l G iX4_keep [.ref (G.1 + 98), .int ch] (mm I J) (RetV (mm (kpF I cc ch cc) J)) noT := by
  refine Sp.of (by decide +kernel) (Nat.le_of_ble_eq_true rfl) ?_
  intro X hXl C
  subst hXl
  show Go X G 3 0 0 _ 0 [.ref (G.1 + 98), .int ch, uu] [] (mm I J)
  have loop : ∀ i : Nat, i ≤ cc → Go X G 3 0 0 (KQ X G iX4_keep (RetV (mm (kpF I cc ch cc) J)) noT) 7 [.ref (G.1 + 98), .int ch, .int (nI i)] [] (mm (kpF I cc ch i) J) := by
    refine loopN (cc) ?_ ?_
    · skip
      show Go X G 3 0 0 _ 7 _ [] _
      refine g_iload_n C dX4_keep_7 rfl ?_
      refine g_aload_n C dX4_keep_8 rfl ?_
      refine g_getIv (ci := 4) (k := 7) (v := nI cc) C dX4_keep_9 rfl inGX4 (by decide) fwX4_78 ly_98 (by decide) rfl (by rw [(kpF_ok (I := I) (cc := cc) (ch := ch) cc (by omega)).2.1]; exact hcc) ?_
      refine g_icmp_ge 55 C dX4_keep_12 (by decide) (fun c12 => ?_) (fun c12 => ?_)
      · exact e_V C dX4_keep_55 rfl rfl rfl rfl
      · exact absurd (Int32.le_refl _) c12
    · intro i hi ihi 
      show Go X G 3 0 0 _ 7 _ [] _
      refine g_iload_n C dX4_keep_7 rfl ?_
      refine g_aload_n C dX4_keep_8 rfl ?_
      refine g_getIv (ci := 4) (k := 7) (v := nI cc) C dX4_keep_9 rfl inGX4 (by decide) fwX4_78 ly_98 (by decide) rfl (by rw [(kpF_ok (I := I) (cc := cc) (ch := ch) i (by omega)).2.1]; exact hcc) ?_
      refine g_icmp_ge 55 C dX4_keep_12 (by decide) (fun c12 => ?_) (fun c12 => ?_)
      · exact (nI_ge_dead (n := cc) c12 hi (by omega)).elim
      · refine g_aload_n C dX4_keep_15 rfl ?_
        refine g_iload_n C dX4_keep_16 rfl ?_
        refine g_iload_n C dX4_keep_17 rfl ?_
        refine gv2I (ci := 4) C dX4_keep_18 vwX4_isChosen mwX4_100 ⟨by decide, by decide⟩ rfl ly_98 (Nat.le_of_ble_eq_true rfl) (s_isChosen (cc := cc) (by rw [(kpF_ok (I := I) (cc := cc) (ch := ch) i (by omega)).2.1]; exact hcc) hcc10 hi _) (Nat.le_of_ble_eq_true rfl) rfl ⟨by decide, by decide⟩ ?_
        refine g_if_eq 49 C dX4_keep_21 (by decide) (fun c21 => ?_) (fun c21 => ?_)
        · refine g_iinc_2 C dX4_keep_49 (nI_1 i) (by decide) ?_
          refine g_goto 7 C dX4_keep_52 (by decide) ?_
          first
            | (rw [show kpF I cc ch (i + 1) = kpF I cc ch i from if_pos c21] at ihi; exact ihi)
            | (rw [show kpF I cc ch (i + 1) = up1 (up1 (kpF I cc ch i) 102 (cn (kpF I cc ch i 98 8)) (kpF I cc ch i 101 i)) 98 8 (nI (cn (kpF I cc ch i 98 8) + 1)) from if_neg c21, hs, cn_nI (show s < 2 ^ 31 by omega)] at ihi; exact ihi)
        · obtain ⟨-, -, s, hs, hsi⟩ := (kpF_ok (I := I) (cc := cc) (ch := ch) i (by omega))
          refine g_aload_n C dX4_keep_24 rfl ?_
          refine g_getR (ci := 4) (k := 6) (q := 102) C dX4_keep_25 rfl inGX4 (by decide) fwX4_21 ly_98 (by decide) rfl rfl ?_
          refine g_aload_n C dX4_keep_28 rfl ?_
          refine g_getIv (ci := 4) (k := 8) (v := nI s) C dX4_keep_29 rfl inGX4 (by decide) fwX4_103 ly_98 (by decide) rfl hs ?_
          refine g_aload_n C dX4_keep_32 rfl ?_
          refine g_getR (ci := 4) (k := 5) (q := 101) C dX4_keep_33 rfl inGX4 (by decide) fwX4_18 ly_98 (by decide) rfl rfl ?_
          refine g_iload_n C dX4_keep_36 rfl ?_
          refine g_iald _ C dX4_keep_37 ly_101 (by decide) (by decide) rfl (show i < 10 by omega) ?_
          refine g_iast _ C dX4_keep_38 ly_102 (by decide) (by decide) rfl (by omega) ?_
          refine g_aload_n C dX4_keep_39 rfl ?_
          refine g_dup C dX4_keep_40 rfl ?_
          refine g_getIv (ci := 4) (k := 8) (v := nI s) C dX4_keep_41 rfl inGX4 (by decide) fwX4_103 ly_98 (by decide) rfl (by simp [up1, hs]) ?_
          refine g_iconst (v := 1) C dX4_keep_44 (by decide) ?_
          refine g_iadd C dX4_keep_45 ?_
          rw [nI_1]
          refine g_putI (ci := 4) (k := 8) .int C dX4_keep_46 rfl inGX4 tyX4_ok nmX4 (by decide) fwX4_103 ly_98 (by decide) rfl rfl rfl rfl rfl ?_
          refine g_iinc_2 C dX4_keep_49 (nI_1 i) (by decide) ?_
          refine g_goto 7 C dX4_keep_52 (by decide) ?_
          first
            | (rw [show kpF I cc ch (i + 1) = kpF I cc ch i from if_pos c21] at ihi; exact ihi)
            | (rw [show kpF I cc ch (i + 1) = up1 (up1 (kpF I cc ch i) 102 (cn (kpF I cc ch i 98 8)) (kpF I cc ch i 101 i)) 98 8 (nI (cn (kpF I cc ch i 98 8) + 1)) from if_neg c21, hs, cn_nI (show s < 2 ^ 31 by omega)] at ihi; exact ihi)
  refine g_aload_n C dX4_keep_0 rfl ?_
  refine g_iconst (v := 0) C dX4_keep_1 (by decide) ?_
  refine g_putI (ci := 4) (k := 8) .int C dX4_keep_2 rfl inGX4 tyX4_ok nmX4 (by decide) fwX4_103 ly_98 (by decide) rfl rfl rfl rfl rfl ?_
  refine g_iconst (v := 0) C dX4_keep_5 (by decide) ?_
  refine g_istore_2 C dX4_keep_6 (by decide) ?_
  exact loop 0 (Nat.zero_le _)
theorem icF_off {I : Nat → Nat → Int32} {n cc : Nat} {ch : Int32} {q : Nat} (h : q ≠ 99) (h2 : q ≠ 94) : icF I n cc ch q = I q := by
  unfold icF lookF; rw [stRow_off h2, stRow_off h]
/-- the choices of ct candidates, from j downwards; the memory behind -/
def seI (n cc ct : Nat) : Nat → (Nat → Nat → Int32) → Int32 × (Nat → Nat → Int32)
  | 0, A => (0, A)
  | j + 1, A => if bc (nI (j + 1)) = nI ct then (if icE (icF A n cc (nI (j + 1))) 16 = 0 then seI n cc ct j (icF A n cc (nI (j + 1))) else (1, kpF (icF A n cc (nI (j + 1))) cc (nI (j + 1)) cc)) else seI n cc ct j A
/-- by their number -/
def seO (n cc : Nat) : Nat → Nat → (Nat → Nat → Int32) → Int32 × (Nat → Nat → Int32)
  | 0, _, A => (0, A)
  | f + 1, ct, A => if (seI n cc ct (2 ^ cc - 1) A).1 = 0 then seO n cc f (ct + 1) (seI n cc ct (2 ^ cc - 1) A).2 else seI n cc ct (2 ^ cc - 1) A
def seW (I : Nat → Nat → Int32) : Nat → Nat → Int32 := stRow I 100 16 (fun d => I 94 d &&& I 93 d)
def seF (I : Nat → Nat → Int32) (n cc : Nat) : Int32 × (Nat → Nat → Int32) := seO n cc cc 1 (seW I)
theorem seI_off {I : Nat → Nat → Int32} {n cc ct : Nat} : ∀ (j : Nat) (A : Nat → Nat → Int32), offTD I A → (seI n cc ct j A).1 = 0 → offTD I (seI n cc ct j A).2
  | 0, A, h, _ => h
  | j + 1, A, h, h0 => by
    unfold seI at h0 ⊢
    by_cases c1 : bc (nI (j + 1)) = nI ct
    · rw [if_pos c1] at h0 ⊢
      by_cases c2 : icE (icF A n cc (nI (j + 1))) 16 = 0
      · rw [if_pos c2] at h0 ⊢
        exact seI_off j _ (fun q a b => (icF_off a b).trans (h q a b)) h0
      · rw [if_neg c2] at h0
        exact absurd h0 (show ¬ (1 : Int32) = 0 by decide)
    · rw [if_neg c1] at h0 ⊢
      exact seI_off j A h h0
theorem shl_m1 : ∀ cc, cc ≤ 10 → ((1 : Int32) <<< (nI cc &&& 31)) - 1 = nI (2 ^ cc - 1) := by decide +kernel
theorem pow_le : ∀ cc, cc ≤ 10 → 2 ^ cc ≤ 1024 := by decide +kernel
set_option maxHeartbeats 1000000 in
theorem s_search {l : Launch} {G : Gm} {I : Nat → Nat → Int32} {J : Nat → Nat → Int64} {n : Nat} (hn : I 3 2 = nI n) (hn10 : n ≤ 10) {cc : Nat} (hcc : I 98 7 = nI cc) (hcc10 : cc ≤ 10) (hcd0 : cdOK I cc) : Sp l G iX4_search [.ref (G.1 + 98)] (mm I J) (RetI (seF I n cc).1 (mm (seF I n cc).2 J)) noT := by
  refine Sp.of (by decide +kernel) (Nat.le_of_ble_eq_true rfl) ?_
  intro X hXl C
  subst hXl
  show Go X G 3 0 0 _ 0 [.ref (G.1 + 98), uu, uu] [] (mm I J)
  replace hcd0 : cdOK (seW I) cc := fun i hi => by unfold seW; rw [stRow_off (by decide)]; exact hcd0 i hi
  replace hcc : seW I 98 7 = nI cc := by unfold seW; rw [stRow_off (by decide)]; exact hcc
  replace hn : seW I 3 2 = nI n := by unfold seW; rw [stRow_off (by decide)]; exact hn
  have inner : ∀ (ct : Nat), ct ≤ cc → (∀ (a2 : Value) (A : Nat → Nat → Int32), offTD (seW I) A → seO n cc (cc - ct) (ct + 1) A = seF I n cc → Go X G 3 0 0 (KQ X G iX4_search (RetI (seF I n cc).1 (mm (seF I n cc).2 J)) noT) 41 [.ref (G.1 + 98), .int (nI (ct + 1)), a2] [] (mm A J)) → ∀ (j : Nat) (A : Nat → Nat → Int32), j < 1024 → offTD (seW I) A → (if (seI n cc ct j A).1 = 0 then seO n cc (cc - ct) (ct + 1) (seI n cc ct j A).2 else seI n cc ct j A) = seF I n cc → Go X G 3 0 0 (KQ X G iX4_search (RetI (seF I n cc).1 (mm (seF I n cc).2 J)) noT) 58 [.ref (G.1 + 98), .int (nI ct), .int (nI j)] [] (mm A J) := by
    intro ct hct ihc j
    induction j with
    | zero =>
      intro A hj hA hf
      rw [if_pos (show (seI n cc ct 0 A).1 = 0 from rfl)] at hf
      refine g_iload_n C dX4_search_58 rfl ?_
      refine g_if_le 91 C dX4_search_59 (by decide) (fun c59 => ?_) (fun c59 => ?_)
      · refine g_iinc_1 C dX4_search_91 (nI_1 ct) (by decide) ?_
        refine g_goto 41 C dX4_search_94 (by decide) ?_
        exact ihc _ A hA hf
      · exact absurd (by decide) c59
    | succ j ihj =>
      intro A hj hA hf
      unfold seI at hf
      refine g_iload_n C dX4_search_58 rfl ?_
      refine g_if_le 91 C dX4_search_59 (by decide) (fun c59 => ?_) (fun c59 => ?_)
      · exact absurd (nI_l' (b := 0) c59 (by omega) (by decide)) (by omega)
      · refine g_iload_n C dX4_search_62 rfl ?_
        refine gs1I C dX4_search_63 swJ6_bitCount_0f7a4 mwX4_87 ⟨by decide, by decide⟩ (s_bitCount _) (Nat.le_of_ble_eq_true rfl) rfl ⟨by decide, by decide⟩ ?_
        refine g_iload_n C dX4_search_66 rfl ?_
        refine g_icmp_ne 85 C dX4_search_67 (by decide) (fun c67 => ?_) (fun c67 => ?_)
        · rw [if_neg c67] at hf
          refine g_iinc_2 C dX4_search_85 (pk_m1 j) (by decide) ?_
          refine g_goto 58 C dX4_search_88 (by decide) ?_
          first
            | exact ihj _ (by omega) (fun q a b => (icF_off a b).trans (hA q a b)) hf
            | exact ihj _ (by omega) hA hf
        · rw [if_pos c67] at hf
          refine g_aload_n C dX4_search_70 rfl ?_
          refine g_iload_n C dX4_search_71 rfl ?_
          refine gv1I (ci := 4) C dX4_search_72 vwX4_isCure mwX4_92 ⟨by decide, by decide⟩ rfl ly_98 (Nat.le_of_ble_eq_true rfl) (s_isCure (n := n) (cc := cc) (by rw [hA 3 (by decide) (by decide)]; exact hn) hn10 (by rw [hA 98 (by decide) (by decide)]; exact hcc) hcc10 (by intro i hi; rw [hA 101 (by decide) (by decide)]; exact hcd0 i hi) _) (Nat.le_of_ble_eq_true rfl) rfl ⟨by decide, by decide⟩ ?_
          refine g_if_eq 85 C dX4_search_75 (by decide) (fun c75 => ?_) (fun c75 => ?_)
          · rw [if_pos c75] at hf
            refine g_iinc_2 C dX4_search_85 (pk_m1 j) (by decide) ?_
            refine g_goto 58 C dX4_search_88 (by decide) ?_
            first
              | exact ihj _ (by omega) (fun q a b => (icF_off a b).trans (hA q a b)) hf
              | exact ihj _ (by omega) hA hf
          · rw [if_neg c75, if_neg (show ¬ (1 : Int32) = 0 by decide)] at hf
            refine g_aload_n C dX4_search_78 rfl ?_
            refine g_iload_n C dX4_search_79 rfl ?_
            refine gv1V (ci := 4) C dX4_search_80 vwX4_keep mwX4_96 ⟨by decide, by decide⟩ rfl ly_98 (Nat.le_of_ble_eq_true rfl) (s_keep (cc := cc) (by rw [icF_off (by decide) (by decide), hA 98 (by decide) (by decide)]; exact hcc) hcc10 _) (Nat.le_of_ble_eq_true rfl) rfl ⟨by decide, by decide⟩ ?_
            refine g_iconst (v := 1) C dX4_search_83 (by decide) ?_
            exact e_Z C dX4_search_84 rfl rfl rfl (by first | exact Or.inl rfl | exact Or.inr rfl) (by rw [← hf]) (by rw [← hf])
  have outer : ∀ t : Nat, t ≤ cc → ∀ (a2 : Value) (A : Nat → Nat → Int32), offTD (seW I) A → seO n cc (cc - t) (t + 1) A = seF I n cc → Go X G 3 0 0 (KQ X G iX4_search (RetI (seF I n cc).1 (mm (seF I n cc).2 J)) noT) 41 [.ref (G.1 + 98), .int (nI (t + 1)), a2] [] (mm A J) := by
    refine loopN cc ?_ ?_
    · intro a2 A hA hf
      rw [Nat.sub_self] at hf
      refine g_iload_n C dX4_search_41 rfl ?_
      refine g_aload_n C dX4_search_42 rfl ?_
      refine g_getIv (ci := 4) (k := 7) (v := nI cc) C dX4_search_43 rfl inGX4 (by decide) fwX4_78 ly_98 (by decide) rfl (by rw [hA 98 (by decide) (by decide)]; exact hcc) ?_
      refine g_icmp_gt 97 C dX4_search_46 (by decide) (fun c46 => ?_) (fun c46 => ?_)
      · refine g_iconst (v := 0) C dX4_search_97 (by decide) ?_
        exact e_Z C dX4_search_98 rfl rfl rfl (by first | exact Or.inl rfl | exact Or.inr rfl) (by rw [← hf]; rfl) (by rw [← hf]; rfl)
      · exact absurd (nI_lt (a := cc) (b := cc + 1) (by omega) (by omega)) c46
    · intro t ht iht a2 A hA hf
      rw [show cc - t = (cc - (t + 1)) + 1 by omega] at hf
      unfold seO at hf
      refine g_iload_n C dX4_search_41 rfl ?_
      refine g_aload_n C dX4_search_42 rfl ?_
      refine g_getIv (ci := 4) (k := 7) (v := nI cc) C dX4_search_43 rfl inGX4 (by decide) fwX4_78 ly_98 (by decide) rfl (by rw [hA 98 (by decide) (by decide)]; exact hcc) ?_
      refine g_icmp_gt 97 C dX4_search_46 (by decide) (fun c46 => ?_) (fun c46 => ?_)
      · exact absurd (nI_t c46 (by omega) (by omega)) (by omega)
      · refine g_iconst (v := 1) C dX4_search_49 (by decide) ?_
        refine g_aload_n C dX4_search_50 rfl ?_
        refine g_getIv (ci := 4) (k := 7) (v := nI cc) C dX4_search_51 rfl inGX4 (by decide) fwX4_78 ly_98 (by decide) rfl (by rw [hA 98 (by decide) (by decide)]; exact hcc) ?_
        refine g_ishl C dX4_search_54 ?_
        refine g_iconst (v := 1) C dX4_search_55 (by decide) ?_
        refine g_isub C dX4_search_56 ?_
        rw [shl_m1 cc hcc10]
        refine g_istore_2 C dX4_search_57 (by decide) ?_
        exact inner (t + 1) (by omega) iht (2 ^ cc - 1) A (by have := pow_le cc hcc10; omega) hA hf
  have lp1 : ∀ d : Nat, d ≤ 16 → Go X G 3 0 0 (KQ X G iX4_search (RetI (seF I n cc).1 (mm (seF I n cc).2 J)) noT) 2 [.ref (G.1 + 98), .int (nI d), uu] [] (mm (stRow I 100 d (fun d => I 94 d &&& I 93 d)) J) := by
    refine loopN (16) ?_ ?_
    · skip
      show Go X G 3 0 0 _ 2 _ [] _
      refine g_iload_n C dX4_search_2 rfl ?_
      refine g_bipush (v := 16) C dX4_search_3 (by decide) ?_
      refine g_icmp_ge 39 C dX4_search_5 (by decide) (fun c5 => ?_) (fun c5 => ?_)
      · refine g_iconst (v := 1) C dX4_search_39 (by decide) ?_
        refine g_istore_1 C dX4_search_40 (by decide) ?_
        exact outer 0 (Nat.zero_le _) _ _ (fun _ _ _ => rfl) rfl
      · exact absurd (Int32.le_refl _) c5
    · intro d hd ihd 
      show Go X G 3 0 0 _ 2 _ [] _
      refine g_iload_n C dX4_search_2 rfl ?_
      refine g_bipush (v := 16) C dX4_search_3 (by decide) ?_
      refine g_icmp_ge 39 C dX4_search_5 (by decide) (fun c5 => ?_) (fun c5 => ?_)
      · exact (nI_ge_dead (n := 16) c5 hd (by omega)).elim
      · refine g_aload_n C dX4_search_8 rfl ?_
        refine g_getR (ci := 4) (k := 4) (q := 100) C dX4_search_9 rfl inGX4 (by decide) fwX4_15 ly_98 (by decide) rfl rfl ?_
        refine g_iload_n C dX4_search_12 rfl ?_
        refine g_aload_n C dX4_search_13 rfl ?_
        refine g_getR (ci := 4) (k := 2) (q := 92) C dX4_search_14 rfl inGX4 (by decide) fwX4_32 ly_98 (by decide) rfl rfl ?_
        refine g_getR (ci := 0) (k := 3) (q := 94) C dX4_search_17 rfl inGX0 (by decide) fwX4_81 ly_92 (by decide) rfl rfl ?_
        refine g_iload_n C dX4_search_20 rfl ?_
        refine g_ialdv (v := I 94 d) _ C dX4_search_21 ly_94 (by decide) (by decide) rfl hd (by rw [stRow_off (by decide)]) ?_
        refine g_aload_n C dX4_search_22 rfl ?_
        refine g_getR (ci := 4) (k := 2) (q := 92) C dX4_search_23 rfl inGX4 (by decide) fwX4_32 ly_98 (by decide) rfl rfl ?_
        refine g_getR (ci := 0) (k := 2) (q := 93) C dX4_search_26 rfl inGX0 (by decide) fwX4_84 ly_92 (by decide) rfl rfl ?_
        refine g_iload_n C dX4_search_29 rfl ?_
        refine g_ialdv (v := I 93 d) _ C dX4_search_30 ly_93 (by decide) (by decide) rfl hd (by rw [stRow_off (by decide)]) ?_
        refine g_iand C dX4_search_31 ?_
        refine g_iast _ C dX4_search_32 ly_100 (by decide) (by decide) rfl hd ?_
        refine g_iinc_1 C dX4_search_33 (nI_1 d) (by decide) ?_
        refine g_goto 2 C dX4_search_36 (by decide) ?_
        rw [stRow_succ (f := fun d => I 94 d &&& I 93 d)]
        exact ihd
  refine g_iconst (v := 0) C dX4_search_0 (by decide) ?_
  refine g_istore_1 C dX4_search_1 (by decide) ?_
  have h0 := lp1 0 (Nat.zero_le _)
  rw [stRow_0] at h0
  exact h0
