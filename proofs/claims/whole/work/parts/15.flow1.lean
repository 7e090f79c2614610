def stRow (I : Nat → Nat → Int32) (o m : Nat) (f : Nat → Int32) : Nat → Nat → Int32 := fun a b => if a = o ∧ b < m then f b else I a b
theorem stRow_succ (I : Nat → Nat → Int32) (o k : Nat) (f : Nat → Int32) : up1 (stRow I o k f) o k (f k) = stRow I o (k + 1) f := by
  funext a b
  unfold up1 stRow
  by_cases h : a = o
  · subst h
    by_cases h2 : b = k
    · subst h2; simp
    · by_cases h3 : b < k
      · simp [h2, h3, Nat.lt_succ_of_lt h3]
      · simp [h2, h3, show ¬ b < k + 1 by omega]
  · simp [h]
theorem stRow_0 (I : Nat → Nat → Int32) (o : Nat) (f : Nat → Int32) : stRow I o 0 f = I := by funext a b; simp [stRow]
theorem stRow_up {I : Nat → Nat → Int32} {o m k : Nat} {f : Nat → Int32} {v : Int32} (hk : k < m) : up1 (stRow I o m f) o k v = stRow I o m (upd f k v) := by
  funext a b
  unfold up1 stRow upd
  by_cases h : a = o
  · subst h
    by_cases h2 : b = k
    · subst h2; simp [hk]
    · simp [h2]
  · simp [h]
theorem stRow_in {I : Nat → Nat → Int32} {o m k : Nat} {f : Nat → Int32} (hk : k < m) : stRow I o m f o k = f k := by simp [stRow, hk]
theorem stRow_off {I : Nat → Nat → Int32} {o m q : Nat} {f : Nat → Int32} (h : q ≠ o) : stRow I o m f q = I q := by funext b; simp [stRow, h]
theorem spot_nI (a b : Nat) : nI a * 25 + nI b = nI (25 * a + b) := by
  rw [show (25 : Int32) = nI 25 from rfl, pk_mul, nI_add, Nat.mul_comm]
theorem s_spotN {l : Launch} {G : Gm} {I : Nat → Nat → Int32} {J : Nat → Nat → Int64} (a b : Nat) : Sp l G iX8_spot [.int (nI a), .int (nI b)] (mm I J) (RetI (nI (25 * a + b)) (mm I J)) noT := by
  have h := s_spot (l := l) (G := G) (I := I) (J := J) (nI a) (nI b)
  rw [spot_nI] at h
  exact h
theorem hb_nz {x y : Int32} (h : ¬ hb x y = 0) : hb x y = 1 := (hb_or x y).resolve_left h
set_option maxHeartbeats 1000000 in
theorem s_isLive {l : Launch} {G : Gm} {I : Nat → Nat → Int32} {J : Nat → Nat → Int64} (x : Int32) : Sp l G iX1_isLive [.ref (G.1 + 73), .int x] (mm I J) (RetI (hb (I 73 10) x) (mm I J)) noT := by
  refine Sp.of (by decide +kernel) (Nat.le_of_ble_eq_true rfl) ?_
  intro X hXl C
  subst hXl
  show Go X G 2 0 0 _ 0 [.ref (G.1 + 73), .int x] [] (mm I J)
  refine g_aload_n C dX1_isLive_0 rfl ?_
  refine g_getI (ci := 1) (k := 10) C dX1_isLive_1 rfl inGX1 (by decide) fwX1_42 ly_73 (by decide) rfl ?_
  refine g_iload_n C dX1_isLive_4 rfl ?_
  refine gn2I C dX1_isLive_5 swX8_hasBit (by decide +kernel) ⟨by decide, by decide⟩ (s_hasBit _ _) (Nat.le_of_ble_eq_true rfl) rfl ⟨by decide, by decide⟩ ?_
  exact e_Z C dX1_isLive_8 rfl rfl rfl (hb_or _ _) rfl rfl
set_option maxHeartbeats 1000000 in
theorem s_secretsAt {l : Launch} {G : Gm} {I : Nat → Nat → Int32} {J : Nat → Nat → Int64} {n : Nat} (hn : I 3 2 = nI n) (hn10 : n ≤ 10) {pl g : Nat} (hpl : pl < 250) (hg : lay g = (1, 10)) (hg2 : g < 125) : Sp l G iX1_secretsAt [.ref (G.1 + 73), .int (nI pl), .ref (G.1 + g)] (mm I J) (RetI (it (fun o a => a ||| (I (82 + o) pl &&& I g o)) n 0) (mm I J)) noT := by
  refine Sp.of (by decide +kernel) (Nat.le_of_ble_eq_true rfl) ?_
  intro X hXl C
  subst hXl
  show Go X G 5 0 0 _ 0 [.ref (G.1 + 73), .int (nI pl), .ref (G.1 + g), uu, uu] [] (mm I J)
  have loop : ∀ k : Nat, k ≤ n → Go X G 5 0 0 (KQ X G iX1_secretsAt (RetI (it (fun o a => a ||| (I (82 + o) pl &&& I g o)) n 0) (mm I J)) noT) 5 [.ref (G.1 + 73), .int (nI pl), .ref (G.1 + g), .int (it (fun o a => a ||| (I (82 + o) pl &&& I g o)) k 0), .int (nI k)] [] (mm I J) := by
    refine loopN n ?_ ?_
    · skip
      show Go X G 5 0 0 _ 5 _ [] _
      refine g_iload C dX1_secretsAt_5 rfl ?_
      refine g_aload_n C dX1_secretsAt_7 rfl ?_
      refine g_getR (ci := 1) (k := 0) (q := 3) C dX1_secretsAt_8 rfl inGX1 (by decide) fwX1_38 ly_73 (by decide) rfl rfl ?_
      refine g_getIv (ci := 2) (k := 2) (v := nI n) C dX1_secretsAt_11 rfl inGX2 (by decide) fwX1_50 ly_3 (by decide) rfl hn ?_
      refine g_icmp_ge 40 C dX1_secretsAt_14 (by decide) (fun c14 => ?_) (fun c14 => ?_)
      · refine g_iload_n C dX1_secretsAt_40 rfl ?_
        exact e_I C dX1_secretsAt_41 rfl rfl rfl rfl rfl
      · exact absurd (Int32.le_refl _) c14
    · intro k hk ih 
      show Go X G 5 0 0 _ 5 _ [] _
      refine g_iload C dX1_secretsAt_5 rfl ?_
      refine g_aload_n C dX1_secretsAt_7 rfl ?_
      refine g_getR (ci := 1) (k := 0) (q := 3) C dX1_secretsAt_8 rfl inGX1 (by decide) fwX1_38 ly_73 (by decide) rfl rfl ?_
      refine g_getIv (ci := 2) (k := 2) (v := nI n) C dX1_secretsAt_11 rfl inGX2 (by decide) fwX1_50 ly_3 (by decide) rfl hn ?_
      refine g_icmp_ge 40 C dX1_secretsAt_14 (by decide) (fun c14 => ?_) (fun c14 => ?_)
      · exact (nI_ge_dead (n := n) c14 hk (by omega)).elim
      · refine g_iload_n C dX1_secretsAt_17 rfl ?_
        refine g_aload_n C dX1_secretsAt_18 rfl ?_
        refine g_getR (ci := 1) (k := 8) (q := 81) C dX1_secretsAt_19 rfl inGX1 (by decide) fwX1_35 ly_73 (by decide) rfl rfl ?_
        refine g_iload C dX1_secretsAt_22 rfl ?_
        refine g_aald (q := 82 + k) k C dX1_secretsAt_24 ly_81 (Or.inr ⟨rfl, rfl⟩) (by decide) (by decide) rfl (show k < 10 by omega) (rf_came (show k < 10 by omega)) ?_
        refine g_iload_n C dX1_secretsAt_25 rfl ?_
        refine g_iald pl C dX1_secretsAt_26 (ly_came (show k < 10 by omega)) (by omega) (by decide) rfl hpl ?_
        refine g_aload_n C dX1_secretsAt_27 rfl ?_
        refine g_iload C dX1_secretsAt_28 rfl ?_
        refine g_iald _ C dX1_secretsAt_30 hg hg2 (by decide) rfl (by omega) ?_
        refine g_iand C dX1_secretsAt_31 ?_
        refine g_ior C dX1_secretsAt_32 ?_
        refine g_istore_3 C dX1_secretsAt_33 (by decide) ?_
        refine g_iinc_4 C dX1_secretsAt_34 (nI_1 k) (by decide) ?_
        refine g_goto 5 C dX1_secretsAt_37 (by decide) ?_
        exact ih
  refine g_iconst (v := 0) C dX1_secretsAt_0 (by decide) ?_
  refine g_istore_3 C dX1_secretsAt_1 (by decide) ?_
  refine g_iconst (v := 0) C dX1_secretsAt_2 (by decide) ?_
  refine g_istore_4 C dX1_secretsAt_3 (by decide) ?_
  exact loop 0 (Nat.zero_le _)
set_option maxHeartbeats 1000000 in
theorem s_helpersUse {l : Launch} {G : Gm} {I : Nat → Nat → Int32} {J : Nat → Nat → Int64} {n : Nat} (hn : I 3 2 = nI n) (hn10 : n ≤ 10) {p : Nat} (hp : p < 10) (hl : ¬ hb (I 73 10) (nI p) = 0) : Sp l G iX1_usesOfHelpers [.ref (G.1 + 73), .int (nI p)] (mm I J) (RetI (it (fun o a => if hb (I 74 p) (nI o) = 0 then a else a ||| ((I 75 o ||| I 76 o) &&& I 4 o)) n 0) (mm I J)) noT := by
  refine Sp.of (by decide +kernel) (Nat.le_of_ble_eq_true rfl) ?_
  intro X hXl C
  subst hXl
  show Go X G 4 0 0 _ 0 [.ref (G.1 + 73), .int (nI p), uu, uu] [] (mm I J)
  have loop : ∀ k : Nat, k ≤ n → Go X G 4 0 0 (KQ X G iX1_usesOfHelpers (RetI (it (fun o a => if hb (I 74 p) (nI o) = 0 then a else a ||| ((I 75 o ||| I 76 o) &&& I 4 o)) n 0) (mm I J)) noT) 4 [.ref (G.1 + 73), .int (nI p), .int (it (fun o a => if hb (I 74 p) (nI o) = 0 then a else a ||| ((I 75 o ||| I 76 o) &&& I 4 o)) k 0), .int (nI k)] [] (mm I J) := by
    refine loopN n ?_ ?_
    · skip
      show Go X G 4 0 0 _ 4 _ [] _
      refine g_iload_n C dX1_usesOfHelpers_4 rfl ?_
      refine g_aload_n C dX1_usesOfHelpers_5 rfl ?_
      refine g_getR (ci := 1) (k := 0) (q := 3) C dX1_usesOfHelpers_6 rfl inGX1 (by decide) fwX1_38 ly_73 (by decide) rfl rfl ?_
      refine g_getIv (ci := 2) (k := 2) (v := nI n) C dX1_usesOfHelpers_9 rfl inGX2 (by decide) fwX1_50 ly_3 (by decide) rfl hn ?_
      refine g_icmp_ge 60 C dX1_usesOfHelpers_12 (by decide) (fun c12 => ?_) (fun c12 => ?_)
      · refine g_iload_n C dX1_usesOfHelpers_60 rfl ?_
        exact e_I C dX1_usesOfHelpers_61 rfl rfl rfl rfl rfl
      · exact absurd (Int32.le_refl _) c12
    · intro k hk ih 
      show Go X G 4 0 0 _ 4 _ [] _
      refine g_iload_n C dX1_usesOfHelpers_4 rfl ?_
      refine g_aload_n C dX1_usesOfHelpers_5 rfl ?_
      refine g_getR (ci := 1) (k := 0) (q := 3) C dX1_usesOfHelpers_6 rfl inGX1 (by decide) fwX1_38 ly_73 (by decide) rfl rfl ?_
      refine g_getIv (ci := 2) (k := 2) (v := nI n) C dX1_usesOfHelpers_9 rfl inGX2 (by decide) fwX1_50 ly_3 (by decide) rfl hn ?_
      refine g_icmp_ge 60 C dX1_usesOfHelpers_12 (by decide) (fun c12 => ?_) (fun c12 => ?_)
      · exact (nI_ge_dead (n := n) c12 hk (by omega)).elim
      · refine g_aload_n C dX1_usesOfHelpers_15 rfl ?_
        refine g_iload_n C dX1_usesOfHelpers_16 rfl ?_
        refine gv1I (ci := 1) C dX1_usesOfHelpers_17 vwX1_isLive mwX1_55 ⟨by decide, by decide⟩ rfl ly_73 (Nat.le_of_ble_eq_true rfl) (s_isLive _) (Nat.le_of_ble_eq_true rfl) rfl ⟨by decide, by decide⟩ ?_
        refine g_if_eq 60 C dX1_usesOfHelpers_20 (by decide) (fun c20 => ?_) (fun c20 => ?_)
        · exact absurd c20 hl
        · refine g_aload_n C dX1_usesOfHelpers_23 rfl ?_
          refine g_getR (ci := 1) (k := 1) (q := 74) C dX1_usesOfHelpers_24 rfl inGX1 (by decide) fwX1_9 ly_73 (by decide) rfl rfl ?_
          refine g_iload_n C dX1_usesOfHelpers_27 rfl ?_
          refine g_iald _ C dX1_usesOfHelpers_28 ly_74 (by decide) (by decide) rfl hp ?_
          refine g_iload_n C dX1_usesOfHelpers_29 rfl ?_
          refine gn2I C dX1_usesOfHelpers_30 swX8_hasBit (by decide +kernel) ⟨by decide, by decide⟩ (s_hasBit _ _) (Nat.le_of_ble_eq_true rfl) rfl ⟨by decide, by decide⟩ ?_
          refine g_if_eq 54 C dX1_usesOfHelpers_33 (by decide) (fun c33 => ?_) (fun c33 => ?_)
          · refine g_iinc_3 C dX1_usesOfHelpers_54 (nI_1 k) (by decide) ?_
            refine g_goto 4 C dX1_usesOfHelpers_57 (by decide) ?_
            first
              | (simp only [it, if_pos c33] at ih; exact ih)
              | (simp only [it, if_neg c33] at ih; exact ih)
          · refine g_iload_n C dX1_usesOfHelpers_36 rfl ?_
            refine g_aload_n C dX1_usesOfHelpers_37 rfl ?_
            refine g_iload_n C dX1_usesOfHelpers_38 rfl ?_
            refine gv1I (ci := 1) C dX1_usesOfHelpers_39 vwX1_uses mwX1_59 ⟨by decide, by decide⟩ rfl ly_73 (Nat.le_of_ble_eq_true rfl) (s_uses (show k < 10 by omega)) (Nat.le_of_ble_eq_true rfl) rfl ⟨by decide, by decide⟩ ?_
            refine g_aload_n C dX1_usesOfHelpers_42 rfl ?_
            refine g_getR (ci := 1) (k := 0) (q := 3) C dX1_usesOfHelpers_43 rfl inGX1 (by decide) fwX1_38 ly_73 (by decide) rfl rfl ?_
            refine g_getR (ci := 2) (k := 0) (q := 4) C dX1_usesOfHelpers_46 rfl inGX2 (by decide) fwX1_63 ly_3 (by decide) rfl rfl ?_
            refine g_iload_n C dX1_usesOfHelpers_49 rfl ?_
            refine g_iald _ C dX1_usesOfHelpers_50 ly_4 (by decide) (by decide) rfl (by omega) ?_
            refine g_iand C dX1_usesOfHelpers_51 ?_
            refine g_ior C dX1_usesOfHelpers_52 ?_
            refine g_istore_2 C dX1_usesOfHelpers_53 (by decide) ?_
            refine g_iinc_3 C dX1_usesOfHelpers_54 (nI_1 k) (by decide) ?_
            refine g_goto 4 C dX1_usesOfHelpers_57 (by decide) ?_
            first
              | (simp only [it, if_pos c33] at ih; exact ih)
              | (simp only [it, if_neg c33] at ih; exact ih)
  refine g_iconst (v := 0) C dX1_usesOfHelpers_0 (by decide) ?_
  refine g_istore_2 C dX1_usesOfHelpers_1 (by decide) ?_
  refine g_iconst (v := 0) C dX1_usesOfHelpers_2 (by decide) ?_
  refine g_istore_3 C dX1_usesOfHelpers_3 (by decide) ?_
  exact loop 0 (Nat.zero_le _)
set_option maxHeartbeats 1000000 in
theorem s_helpersUse0 {l : Launch} {G : Gm} {I : Nat → Nat → Int32} {J : Nat → Nat → Int64} {n : Nat} (hn : I 3 2 = nI n) (hn10 : n ≤ 10) {p : Nat} (hl : hb (I 73 10) (nI p) = 0) : Sp l G iX1_usesOfHelpers [.ref (G.1 + 73), .int (nI p)] (mm I J) (RetI 0 (mm I J)) noT := by
  refine Sp.of (by decide +kernel) (Nat.le_of_ble_eq_true rfl) ?_
  intro X hXl C
  subst hXl
  show Go X G 4 0 0 _ 0 [.ref (G.1 + 73), .int (nI p), uu, uu] [] (mm I J)
  refine g_iconst (v := 0) C dX1_usesOfHelpers_0 (by decide) ?_
  refine g_istore_2 C dX1_usesOfHelpers_1 (by decide) ?_
  refine g_iconst (v := 0) C dX1_usesOfHelpers_2 (by decide) ?_
  refine g_istore_3 C dX1_usesOfHelpers_3 (by decide) ?_
  refine g_iload_n C dX1_usesOfHelpers_4 rfl ?_
  refine g_aload_n C dX1_usesOfHelpers_5 rfl ?_
  refine g_getR (ci := 1) (k := 0) (q := 3) C dX1_usesOfHelpers_6 rfl inGX1 (by decide) fwX1_38 ly_73 (by decide) rfl rfl ?_
  refine g_getIv (ci := 2) (k := 2) (v := nI n) C dX1_usesOfHelpers_9 rfl inGX2 (by decide) fwX1_50 ly_3 (by decide) rfl hn ?_
  refine g_icmp_ge 60 C dX1_usesOfHelpers_12 (by decide) (fun c12 => ?_) (fun c12 => ?_)
  · refine g_iload_n C dX1_usesOfHelpers_60 rfl ?_
    exact e_I C dX1_usesOfHelpers_61 rfl rfl rfl rfl rfl
  · refine g_aload_n C dX1_usesOfHelpers_15 rfl ?_
    refine g_iload_n C dX1_usesOfHelpers_16 rfl ?_
    refine gv1I (ci := 1) C dX1_usesOfHelpers_17 vwX1_isLive mwX1_55 ⟨by decide, by decide⟩ rfl ly_73 (Nat.le_of_ble_eq_true rfl) (s_isLive _) (Nat.le_of_ble_eq_true rfl) rfl ⟨by decide, by decide⟩ ?_
    refine g_if_eq 60 C dX1_usesOfHelpers_20 (by decide) (fun c20 => ?_) (fun c20 => ?_)
    · refine g_iload_n C dX1_usesOfHelpers_60 rfl ?_
      exact e_I C dX1_usesOfHelpers_61 rfl rfl rfl rfl rfl
    · exact absurd hl c20
/-- what each part asks, straight -/
def bel0 (I : Nat → Nat → Int32) (ln : Nat → Nat) (p : Nat) : Int32 := it (hlp (I (6 + 6 * p + 1 + 0)) (I (6 + 6 * p + 1 + 1))) (ln p) 0
def wst (m p : Nat) (b : Nat → Int32) : Nat → Int32 := if hb (b p) (nI m) = 0 then b else upd b p (b p ||| b m)
def wmid (m : Nat) (b : Nat → Int32) : Nat → Int32 := it (wst m) 10 b
def bel (I : Nat → Nat → Int32) (ln : Nat → Nat) : Nat → Int32 := it wmid 10 (bel0 I ln)
def fLive (I : Nat → Nat → Int32) (n : Nat) (ln : Nat → Nat) : Nat → Nat → Int32 := up1 (stRow I 74 10 (bel I ln)) 73 10 (if n = 0 then 0 else 1 ||| bel I ln 0)
set_option maxHeartbeats 1000000 in
theorem s_findLive {l : Launch} {G : Gm} {I : Nat → Nat → Int32} {J : Nat → Nat → Int64} {n : Nat} (hn : I 3 2 = nI n) (hn10 : n ≤ 10) {ln : Nat → Nat} (hln : ∀ p, p < 10 → I (6 + 6 * p) 5 = nI (ln p) ∧ ln p ≤ 12) : Sp l G iX1_findLive [.ref (G.1 + 73)] (mm I J) (RetV (mm (fLive I n ln) J)) noT := by
  refine Sp.of (by decide +kernel) (Nat.le_of_ble_eq_true rfl) ?_
  intro X hXl C
  subst hXl
  show Go X G 3 0 0 _ 0 [.ref (G.1 + 73), uu, uu] [] (mm I J)
  have lp2 : ∀ k : Nat, k ≤ 10 → ∀ a2 : Value, Go X G 3 0 0 (KQ X G iX1_findLive (RetV (mm (fLive I n ln) J)) noT) 34 [.ref (G.1 + 73), .int (nI k), a2] [] (mm (stRow I 74 10 (it wmid k (bel0 I ln))) J) := by
    refine loopN 10 ?_ ?_
    · intro a2
      show Go X G 3 0 0 _ 34 _ [] _
      refine g_iload_n C dX1_findLive_34 rfl ?_
      refine g_bipush (v := 10) C dX1_findLive_35 (by decide) ?_
      refine g_icmp_ge 88 C dX1_findLive_37 (by decide) (fun c37 => ?_) (fun c37 => ?_)
      · refine g_aload_n C dX1_findLive_88 rfl ?_
        refine g_aload_n C dX1_findLive_89 rfl ?_
        refine g_getR (ci := 1) (k := 0) (q := 3) C dX1_findLive_90 rfl inGX1 (by decide) fwX1_38 ly_73 (by decide) rfl rfl ?_
        refine g_getIv (ci := 2) (k := 2) (v := nI n) C dX1_findLive_93 rfl inGX2 (by decide) fwX1_50 ly_3 (by decide) rfl (by rw [stRow_off (by decide)]; exact hn) ?_
        refine g_if_ne 103 C dX1_findLive_96 (by decide) (fun c96 => ?_) (fun c96 => ?_)
        · have g96 : ¬ n = 0 := fun e => c96 (by rw [e]; rfl)
          refine g_iconst (v := 1) C dX1_findLive_103 (by decide) ?_
          refine g_aload_n C dX1_findLive_104 rfl ?_
          refine g_getR (ci := 1) (k := 1) (q := 74) C dX1_findLive_105 rfl inGX1 (by decide) fwX1_9 ly_73 (by decide) rfl rfl ?_
          refine g_iconst (v := 0) C dX1_findLive_108 (by decide) ?_
          refine g_ialdv (v := bel I ln 0) 0 C dX1_findLive_109 ly_74 (by decide) (by decide) rfl (by decide) (stRow_in (by decide)) ?_
          refine g_ior C dX1_findLive_110 ?_
          refine g_putI (ci := 1) (k := 10) .int C dX1_findLive_111 rfl inGX1 tyX1_ok nmX1 (by decide) fwX1_42 ly_73 (by decide) rfl rfl rfl rfl rfl ?_
          exact e_V C dX1_findLive_114 rfl rfl rfl (by simp only [fLive]; first | rw [if_pos g96]; rfl | rw [if_neg g96]; rfl)
        · have g96 : n = 0 := (nI_eq (by omega) (b := 0) (by decide)).mp c96
          refine g_iconst (v := 0) C dX1_findLive_99 (by decide) ?_
          refine g_goto 111 C dX1_findLive_100 (by decide) ?_
          refine g_putI (ci := 1) (k := 10) .int C dX1_findLive_111 rfl inGX1 tyX1_ok nmX1 (by decide) fwX1_42 ly_73 (by decide) rfl rfl rfl rfl rfl ?_
          exact e_V C dX1_findLive_114 rfl rfl rfl (by simp only [fLive]; first | rw [if_pos g96]; rfl | rw [if_neg g96]; rfl)
      · exact absurd (Int32.le_refl _) c37
    · intro k hk ih a2
      show Go X G 3 0 0 _ 34 _ [] _
      have inner : ∀ j : Nat, j ≤ 10 → Go X G 3 0 0 (KQ X G iX1_findLive (RetV (mm (fLive I n ln) J)) noT) 42 [.ref (G.1 + 73), .int (nI k), .int (nI j)] [] (mm (stRow I 74 10 (it (wst k) j (it wmid k (bel0 I ln)))) J) := by
        refine loopN 10 ?_ ?_
        · skip
          show Go X G 3 0 0 _ 42 _ [] _
          refine g_iload_n C dX1_findLive_42 rfl ?_
          refine g_bipush (v := 10) C dX1_findLive_43 (by decide) ?_
          refine g_icmp_ge 82 C dX1_findLive_45 (by decide) (fun c45 => ?_) (fun c45 => ?_)
          · refine g_iinc_1 C dX1_findLive_82 (nI_1 k) (by decide) ?_
            refine g_goto 34 C dX1_findLive_85 (by decide) ?_
            exact ih _
          · exact absurd (Int32.le_refl _) c45
        · intro j hj ihj 
          show Go X G 3 0 0 _ 42 _ [] _
          refine g_iload_n C dX1_findLive_42 rfl ?_
          refine g_bipush (v := 10) C dX1_findLive_43 (by decide) ?_
          refine g_icmp_ge 82 C dX1_findLive_45 (by decide) (fun c45 => ?_) (fun c45 => ?_)
          · exact (nI_ge_dead (n := 10) c45 hj (by omega)).elim
          · refine g_aload_n C dX1_findLive_48 rfl ?_
            refine g_getR (ci := 1) (k := 1) (q := 74) C dX1_findLive_49 rfl inGX1 (by decide) fwX1_9 ly_73 (by decide) rfl rfl ?_
            refine g_iload_n C dX1_findLive_52 rfl ?_
            refine g_ialdv (v := it (wst k) j (it wmid k (bel0 I ln)) j) _ C dX1_findLive_53 ly_74 (by decide) (by decide) rfl (by omega) (stRow_in (by omega)) ?_
            refine g_iload_n C dX1_findLive_54 rfl ?_
            refine gn2I C dX1_findLive_55 swX8_hasBit (by decide +kernel) ⟨by decide, by decide⟩ (s_hasBit _ _) (Nat.le_of_ble_eq_true rfl) rfl ⟨by decide, by decide⟩ ?_
            refine g_if_eq 76 C dX1_findLive_58 (by decide) (fun c58 => ?_) (fun c58 => ?_)
            · refine g_iinc_2 C dX1_findLive_76 (nI_1 j) (by decide) ?_
              refine g_goto 42 C dX1_findLive_79 (by decide) ?_
              first
                | (simp only [it, wst, if_pos c58] at ihj; exact ihj)
                | (simp only [it, wst, if_neg c58] at ihj; rw [stRow_up (by omega)]; exact ihj)
            · refine g_aload_n C dX1_findLive_61 rfl ?_
              refine g_getR (ci := 1) (k := 1) (q := 74) C dX1_findLive_62 rfl inGX1 (by decide) fwX1_9 ly_73 (by decide) rfl rfl ?_
              refine g_iload_n C dX1_findLive_65 rfl ?_
              refine g_dup2 C dX1_findLive_66 rfl rfl ?_
              refine g_ialdv (v := it (wst k) j (it wmid k (bel0 I ln)) j) _ C dX1_findLive_67 ly_74 (by decide) (by decide) rfl (by omega) (stRow_in (by omega)) ?_
              refine g_aload_n C dX1_findLive_68 rfl ?_
              refine g_getR (ci := 1) (k := 1) (q := 74) C dX1_findLive_69 rfl inGX1 (by decide) fwX1_9 ly_73 (by decide) rfl rfl ?_
              refine g_iload_n C dX1_findLive_72 rfl ?_
              refine g_ialdv (v := it (wst k) j (it wmid k (bel0 I ln)) k) _ C dX1_findLive_73 ly_74 (by decide) (by decide) rfl (by omega) (stRow_in (by omega)) ?_
              refine g_ior C dX1_findLive_74 ?_
              refine g_iast _ C dX1_findLive_75 ly_74 (by decide) (by decide) rfl (by omega) ?_
              refine g_iinc_2 C dX1_findLive_76 (nI_1 j) (by decide) ?_
              refine g_goto 42 C dX1_findLive_79 (by decide) ?_
              first
                | (simp only [it, wst, if_pos c58] at ihj; exact ihj)
                | (simp only [it, wst, if_neg c58] at ihj; rw [stRow_up (by omega)]; exact ihj)
      refine g_iload_n C dX1_findLive_34 rfl ?_
      refine g_bipush (v := 10) C dX1_findLive_35 (by decide) ?_
      refine g_icmp_ge 88 C dX1_findLive_37 (by decide) (fun c37 => ?_) (fun c37 => ?_)
      · exact (nI_ge_dead (n := 10) c37 hk (by omega)).elim
      · refine g_iconst (v := 0) C dX1_findLive_40 (by decide) ?_
        refine g_istore_2 C dX1_findLive_41 (by decide) ?_
        exact inner 0 (Nat.zero_le _)
  have lp1 : ∀ k : Nat, k ≤ 10 → Go X G 3 0 0 (KQ X G iX1_findLive (RetV (mm (fLive I n ln) J)) noT) 2 [.ref (G.1 + 73), .int (nI k), uu] [] (mm (stRow I 74 k (bel0 I ln)) J) := by
    refine loopN 10 ?_ ?_
    · skip
      show Go X G 3 0 0 _ 2 _ [] _
      refine g_iload_n C dX1_findLive_2 rfl ?_
      refine g_bipush (v := 10) C dX1_findLive_3 (by decide) ?_
      refine g_icmp_ge 32 C dX1_findLive_5 (by decide) (fun c5 => ?_) (fun c5 => ?_)
      · refine g_iconst (v := 0) C dX1_findLive_32 (by decide) ?_
        refine g_istore_1 C dX1_findLive_33 (by decide) ?_
        exact lp2 0 (Nat.zero_le _) _
      · exact absurd (Int32.le_refl _) c5
    · intro k hk ih 
      show Go X G 3 0 0 _ 2 _ [] _
      refine g_iload_n C dX1_findLive_2 rfl ?_
      refine g_bipush (v := 10) C dX1_findLive_3 (by decide) ?_
      refine g_icmp_ge 32 C dX1_findLive_5 (by decide) (fun c5 => ?_) (fun c5 => ?_)
      · exact (nI_ge_dead (n := 10) c5 hk (by omega)).elim
      · refine g_aload_n C dX1_findLive_8 rfl ?_
        refine g_getR (ci := 1) (k := 1) (q := 74) C dX1_findLive_9 rfl inGX1 (by decide) fwX1_9 ly_73 (by decide) rfl rfl ?_
        refine g_iload_n C dX1_findLive_12 rfl ?_
        refine g_aload_n C dX1_findLive_13 rfl ?_
        refine g_getR (ci := 1) (k := 0) (q := 3) C dX1_findLive_14 rfl inGX1 (by decide) fwX1_38 ly_73 (by decide) rfl rfl ?_
        refine g_getR (ci := 2) (k := 1) (q := 5) C dX1_findLive_17 rfl inGX2 (by decide) fwX1_78 ly_3 (by decide) rfl rfl ?_
        refine g_iload_n C dX1_findLive_20 rfl ?_
        refine g_aald (q := 6 + 6 * k) k C dX1_findLive_21 ly_5 (Or.inl ⟨rfl, rfl⟩) (by decide) (by decide) rfl hk (rf_shs hk) ?_
        refine gv0I (ci := 5) C dX1_findLive_22 vwX5_helpers mwX1_93 ⟨by decide, by decide⟩ rfl (ly_sh hk) (ho_sh hk) (s_helpers hk (by rw [stRow_off (by omega)]; exact (hln k hk).1) (hln k hk).2) (Nat.le_of_ble_eq_true rfl) rfl ⟨by decide, by decide⟩ ?_
        rw [stRow_off (show 6 + 6 * k + 1 + 0 ≠ 74 by omega), stRow_off (show 6 + 6 * k + 1 + 1 ≠ 74 by omega)]
        refine g_iast _ C dX1_findLive_25 ly_74 (by decide) (by decide) rfl (by omega) ?_
        refine g_iinc_1 C dX1_findLive_26 (nI_1 k) (by decide) ?_
        refine g_goto 2 C dX1_findLive_29 (by decide) ?_
        rw [show it (hlp (I (6 + 6 * k + 1 + 0)) (I (6 + 6 * k + 1 + 1))) (ln k) 0 = bel0 I ln k from rfl, stRow_succ]
        exact ih
  refine g_iconst (v := 0) C dX1_findLive_0 (by decide) ?_
  refine g_istore_1 C dX1_findLive_1 (by decide) ?_
  have h0 := lp1 0 (Nat.zero_le _)
  rw [stRow_0] at h0
  exact h0
