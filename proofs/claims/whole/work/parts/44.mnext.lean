/-! ## the model's tokens -/
def byM (I : Nat → Nat → Int32) (t : Nat → Nat) : Prop := ∀ j, j < 300 → I 113 j &&& 255 = nI (t j) ∧ t j < 256
def bA (t : Nat → Nat) (e k : Nat) : Int32 := if k < e then nI (t k) else -1
def mrX (D : Nat → Nat → Int32) (a s p g v : Int32) : Nat → Nat → Int32 := fun x y => if x = 103 then (if y = 17 then a else if y = 18 then s else if y = 19 then p else if y = 20 then g else if y = 21 then v else D x y) else D x y
section MX
variable {D : Nat → Nat → Int32} {a s p g v z : Int32}
theorem mx_off {o : Nat} (h : o ≠ 103) : mrX D a s p g v o = D o := by funext b; simp [mrX, h]
theorem mx_103 {k : Nat} (h : k < 17 ∨ 21 < k) : mrX D a s p g v 103 k = D 103 k := by
  unfold mrX
  rw [if_pos rfl, if_neg (by omega), if_neg (by omega), if_neg (by omega), if_neg (by omega), if_neg (by omega)]
theorem mx_17 : mrX D a s p g v 103 17 = a := rfl
theorem mx_18 : mrX D a s p g v 103 18 = s := rfl
theorem mx_19 : mrX D a s p g v 103 19 = p := rfl
theorem mx_20 : mrX D a s p g v 103 20 = g := rfl
theorem mx_21 : mrX D a s p g v 103 21 = v := rfl
theorem mx_u17 : up1 (mrX D a s p g v) 103 17 z = mrX D z s p g v := by
  funext x y; unfold up1 mrX; by_cases h : x = 103 <;> by_cases h1 : y = 17 <;> simp [h, h1]
theorem mx_u18 : up1 (mrX D a s p g v) 103 18 z = mrX D a z p g v := by
  funext x y; unfold up1 mrX; by_cases h : x = 103 <;> by_cases h1 : y = 18 <;> simp [h, h1]
theorem mx_u19 : up1 (mrX D a s p g v) 103 19 z = mrX D a s z g v := by
  funext x y; unfold up1 mrX; by_cases h : x = 103 <;> by_cases h1 : y = 19 <;> simp [h, h1]
theorem mx_u20 : up1 (mrX D a s p g v) 103 20 z = mrX D a s p z v := by
  funext x y; unfold up1 mrX; by_cases h : x = 103 <;> by_cases h1 : y = 20 <;> simp [h, h1]
theorem mx_u21 : up1 (mrX D a s p g v) 103 21 z = mrX D a s p g z := by
  funext x y; unfold up1 mrX; by_cases h : x = 103 <;> by_cases h1 : y = 21 <;> simp [h, h1]
theorem mx_self : mrX D (D 103 17) (D 103 18) (D 103 19) (D 103 20) (D 103 21) = D := by
  funext x y; unfold mrX
  by_cases h : x = 103
  · subst h
    rw [if_pos rfl]
    by_cases h1 : y = 17
    · subst h1; simp
    by_cases h2 : y = 18
    · subst h2; simp
    by_cases h3 : y = 19
    · subst h3; simp
    by_cases h4 : y = 20
    · subst h4; simp
    by_cases h5 : y = 21
    · subst h5; simp
    simp [h1, h2, h3, h4, h5]
  · simp [h]
theorem mx_by {t : Nat → Nat} (h : byM D t) : byM (mrX D a s p g v) t := fun j hj => by rw [mx_off (by decide)]; exact h j hj
end MX
theorem upJ_same (J : Nat → Nat → Int64) (o k : Nat) (x : Int64) : upJ J o k x o k = x := by simp [upJ]
theorem upJ_upJ (J : Nat → Nat → Int64) (o k : Nat) (x y : Int64) : upJ (upJ J o k x) o k y = upJ J o k y := by
  funext a b; unfold upJ; by_cases h : a = o ∧ b = k <;> simp [h]
theorem upJ_self (J : Nat → Nat → Int64) (o k : Nat) : upJ J o k (J o k) = J := by
  funext a b; unfold upJ; by_cases h : a = o ∧ b = k
  · simp [h]
  · simp [h]
set_option maxHeartbeats 1000000 in
theorem s_byteAt {l : Launch} {G : Gm} {I : Nat → Nat → Int32} {J : Nat → Nat → Int64} {t : Nat → Nat} {e k : Nat} (hB : byM I t) (he : I 103 16 = nI e) (he3 : e ≤ 300) (hk : k ≤ 300) : Sp l G iX10_byteAt [.ref (G.1 + 103), .int (nI k)] (mm I J) (RetI (bA t e k) (mm I J)) noT := by
  refine Sp.of (by decide +kernel) (Nat.le_of_ble_eq_true rfl) ?_
  intro X hXl C
  subst hXl
  show Go X G 2 0 0 _ 0 [.ref (G.1 + 103), .int (nI k)] [] (mm I J)
  refine g_iload_n C dX10_byteAt_0 rfl ?_
  refine g_aload_n C dX10_byteAt_1 rfl ?_
  refine g_getIv (ci := 10) (k := 16) (v := nI e) C dX10_byteAt_2 rfl inGX10 (by decide) fwX10_118 ly_103 (by decide) rfl he ?_
  refine g_icmp_ge 21 C dX10_byteAt_5 (by decide) (fun c5 => ?_) (fun c5 => ?_)
  · have g5 : ¬ k < e := by have := nI_l' c5 (by omega) (by omega); omega
    refine g_iconst (v := (-1)) C dX10_byteAt_21 (by decide) ?_
    exact e_I C dX10_byteAt_22 rfl rfl rfl (by first | exact (if_pos g5).symm | exact (if_neg g5).symm) rfl
  · have g5 : k < e := by have := nI_nl c5 (by omega) (by omega); omega
    refine g_aload_n C dX10_byteAt_8 rfl ?_
    refine g_getR (ci := 10) (k := 14) (q := 113) C dX10_byteAt_9 rfl inGX10 (by decide) fwX10_45 ly_103 (by decide) rfl rfl ?_
    refine g_iload_n C dX10_byteAt_12 rfl ?_
    refine g_bald _ C dX10_byteAt_13 ly_113 (by decide) (by decide) rfl (show k < 300 by omega) ?_
    refine g_sipush (v := 255) C dX10_byteAt_14 (by decide) ?_
    refine g_iand C dX10_byteAt_17 ?_
    rw [(hB k (by omega)).1]
    refine g_goto 22 C dX10_byteAt_18 (by decide) ?_
    exact e_I C dX10_byteAt_22 rfl rfl rfl (by first | exact (if_pos g5).symm | exact (if_neg g5).symm) rfl
def mso (k : Nat) : Nat := if k = 0 then 1 else if k = 1 then 2 else if k = 2 then 3 else if k = 3 then 4 else if k = 4 then 4 else 0
def msg (k : Nat) : Nat := if k = 3 then 44 else if k = 4 then 59 else 0
def mat (t : Nat → Nat) (e i : Nat) : Nat := if sgn t e (tf t e i) = 5 then tf t e i else tn t e i
def wdN (t : Nat → Nat) (f : Nat) : Nat → Nat
  | 0 => 0
  | k + 1 => 32 * wdN t f k + (t (f + k) - 96)
def mrS (D : Nat → Nat → Int32) (t : Nat → Nat) (e i : Nat) (v : Int32) : Nat → Nat → Int32 := mrX D (nI (mat t e i)) (nI (mso (tk t e i))) (nI (tf t e i)) (nI (msg (tk t e i))) v
def nxK (t : Nat → Nat) (e i : Nat) (v : Int32) (x : Int64) : Prop := (tk t e i = 2 → v = nI (wv t e i)) ∧ (tk t e i = 1 → x = lN (wdN t (tf t e i) (tn t e i - tf t e i)))
def nxR (D : Nat → Nat → Int32) (J : Nat → Nat → Int64) (t : Nat → Nat) (e i : Nat) : Option Value → Mm → Prop := fun r M' => r = none ∧ ∃ v x, nxK t e i v x ∧ M' = mm (mrS D t e i v) (upJ J 103 22 x)
theorem nxR_of {D : Nat → Nat → Int32} {J J' : Nat → Nat → Int64} {t : Nat → Nat} {e i : Nat} {a s p g v : Int32} {x : Int64} (hJ : J' = upJ J 103 22 x) (h1 : a = nI (mat t e i)) (h2 : s = nI (mso (tk t e i))) (h3 : p = nI (tf t e i)) (h4 : g = nI (msg (tk t e i))) (h5 : nxK t e i v x) : nxR D J t e i none (mm (mrX D a s p g v) J') := by
  subst h1; subst h2; subst h3; subst h4; subst hJ
  exact ⟨rfl, v, x, h5, rfl⟩
section NX
variable {t : Nat → Nat} {e i T : Nat}
theorem nx0 (hT : tf t e i = T) (h : sgn t e T = 0) : mat t e i = T ∧ tk t e i = 0 := by
  subst hT
  have h1 : tn t e i = tf t e i := if_pos h
  refine ⟨?_, ?_⟩
  · unfold mat; rw [if_neg (by rw [h]; decide), h1]
  · unfold tk; rw [h1, h]; simp
theorem nx12 {k R : Nat} (hT : tf t e i = T) (hTe : T < e) (hk : k = 1 ∨ k = 2) (h : sgn t e T = k) (hR : rnn t e k (e - T) T = R) : mat t e i = R ∧ tn t e i = R ∧ tk t e i = if R - T ≤ lgs k then k else 5 := by
  subst hT
  have h1 : tn t e i = R := by
    unfold tn
    rw [h, if_neg (by omega), if_pos (by rcases hk with rfl | rfl <;> decide), ← hR, show e - tf t e i = (e - (tf t e i + 1)) + 1 by omega]
    conv => rhs; unfold rnn
    rw [if_pos h]
  refine ⟨?_, h1, ?_⟩
  · unfold mat; rw [if_neg (by omega), h1]
  · unfold tk; rw [h1, h]
theorem nx34 {k : Nat} (hT : tf t e i = T) (hk : k = 3 ∨ k = 4) (h : sgn t e T = k) : mat t e i = T + 1 ∧ tk t e i = k := by
  subst hT
  have h1 : tn t e i = tf t e i + 1 := by
    unfold tn
    rw [h, if_neg (by omega), if_neg (by rcases hk with rfl | rfl <;> decide)]
  refine ⟨?_, ?_⟩
  · unfold mat; rw [if_neg (by omega), h1]
  · unfold tk; rw [h1, h, if_pos (by rcases hk with rfl | rfl <;> (simp [lgs]))]
theorem nx5 (hT : tf t e i = T) (h : sgn t e T = 5) : mat t e i = T ∧ tk t e i = 5 := by
  subst hT
  have h1 : tn t e i = tf t e i + 1 := by
    unfold tn
    rw [h, if_neg (by omega), if_neg (by decide)]
  refine ⟨?_, ?_⟩
  · unfold mat; rw [if_pos h]
  · unfold tk; rw [h1, h]; simp
end NX
theorem wd_step {t : Nat → Nat} {f c : Nat} (h : 97 ≤ t (f + c)) (h2 : t (f + c) ≤ 122) : (32 : Int64) * lN (wdN t f c) + (nI (t (f + c)) - 97 + 1).toInt64 = lN (wdN t f (c + 1)) := by
  rw [show nI (t (f + c)) - (97 : Int32) = nI (t (f + c) - 97) from pk_sub h, nI_1, nI_l (by omega), show (32 : Int64) = lN 32 from rfl, lN_mul, lN_add]
  rw [show t (f + c) - 97 + 1 = t (f + c) - 96 by omega]
  rfl
theorem sgnL {t : Nat → Nat} {e j : Nat} (hj : j < e) (h1 : 97 ≤ t j) (h2 : t j ≤ 122) : sgn t e j = 1 := by unfold sgn; rw [if_neg (by omega), if_pos ⟨h1, h2⟩]
theorem sgnD {t : Nat → Nat} {e j : Nat} (hj : j < e) (h1 : 48 ≤ t j) (h2 : t j ≤ 57) : sgn t e j = 2 := by unfold sgn; rw [if_neg (by omega), if_neg (by omega), if_pos ⟨h1, h2⟩]
theorem bA_in {t : Nat → Nat} {e k : Nat} (h : k < e) : bA t e k = nI (t k) := if_pos h
theorem bA_out {t : Nat → Nat} {e k : Nat} (h : ¬ k < e) : bA t e k = -1 := if_neg h
theorem isL {t : Nat → Nat} {e j : Nat} (ht : ∀ j, j < 300 → t j < 256) (he : e ≤ 300) : (if ¬ bA t e j < 97 ∧ ¬ 122 < bA t e j then (1 : Int32) else 0) = if sgn t e j = 1 then 1 else 0 := by
  by_cases hj : j < e
  · have := ht j (by omega)
    rw [bA_in hj]
    have e1 : (nI (t j) < 97) ↔ t j < 97 := nI_ltI (b := 97) (by omega) (by decide)
    have e2 : (122 < nI (t j)) ↔ 122 < t j := nI_ltI (a := 122) (by decide) (by omega)
    by_cases h : 97 ≤ t j ∧ t j ≤ 122
    · rw [if_pos ⟨fun q => absurd (e1.mp q) (by omega), fun q => absurd (e2.mp q) (by omega)⟩, if_pos (sgnL hj h.1 h.2)]
    · rw [if_neg (fun q => h ⟨Nat.not_lt.mp (fun z => q.1 (e1.mpr z)), Nat.not_lt.mp (fun z => q.2 (e2.mpr z))⟩), if_neg (fun q => h (sgn1 q).2)]
  · rw [bA_out hj, if_neg (by decide), if_neg (fun q => hj (sgn1 q).1)]
theorem isDg {t : Nat → Nat} {e j : Nat} (ht : ∀ j, j < 300 → t j < 256) (he : e ≤ 300) : (if ¬ bA t e j < 48 ∧ ¬ 57 < bA t e j then (1 : Int32) else 0) = if sgn t e j = 2 then 1 else 0 := by
  by_cases hj : j < e
  · have := ht j (by omega)
    rw [bA_in hj]
    have e1 : (nI (t j) < 48) ↔ t j < 48 := nI_ltI (b := 48) (by omega) (by decide)
    have e2 : (57 < nI (t j)) ↔ 57 < t j := nI_ltI (a := 57) (by decide) (by omega)
    by_cases h : 48 ≤ t j ∧ t j ≤ 57
    · rw [if_pos ⟨fun q => absurd (e1.mp q) (by omega), fun q => absurd (e2.mp q) (by omega)⟩, if_pos (sgnD hj h.1 h.2)]
    · rw [if_neg (fun q => h ⟨Nat.not_lt.mp (fun z => q.1 (e1.mpr z)), Nat.not_lt.mp (fun z => q.2 (e2.mpr z))⟩), if_neg (fun q => h (sgn2 q).2)]
  · rw [bA_out hj, if_neg (by decide), if_neg (fun q => hj (sgn2 q).1)]
set_option maxHeartbeats 4000000 in
theorem s_next {l : Launch} {G : Gm} {D : Nat → Nat → Int32} {J : Nat → Nat → Int64} {t : Nat → Nat} {e i : Nat} (hB : byM D t) (he : D 103 16 = nI e) (he3 : e ≤ 300) (hi : i ≤ e) {so pl sg v : Int32} : Sp l G iX10_next [.ref (G.1 + 103)] (mm (mrX D (nI i) so pl sg v) J) (nxR D J t e i) noT := by
  refine Sp.of (by decide +kernel) (Nat.le_of_ble_eq_true rfl) ?_
  intro X hXl C
  subst hXl
  show Go X G 3 0 0 _ 0 [.ref (G.1 + 103), uu, uu] [] (mm (mrX D (nI i) so pl sg v) J)
  have ht : ∀ j, j < 300 → t j < 256 := fun j hj => (hB j hj).2
  have aft : ∀ {T : Nat} (so pl sg : Int32) (a1 a2 : Value), skp t e (e - i) i = T → Go X G 3 0 0 (KQ X G iX10_next (nxR D J t e i) noT) 26 [.ref (G.1 + 103), a1, a2] [] (mm (mrX D (nI T) so pl sg v) J) := by
    intro T so pl sg a1 a2 hT
    have hT : tf t e i = T := hT
    have hTl : T ≤ e := by rw [← hT]; exact (tf_in hi).2
    by_cases h0 : sgn t e T = 0
    · have hn := nx0 hT h0
      have hTe : ¬ T < e := fun q => by unfold sgn at h0; rw [if_neg (by omega)] at h0; split at h0 <;> (try split at h0) <;> (try split at h0) <;> (try split at h0) <;> omega
      refine g_aload_n C dX10_next_26 rfl ?_
      refine g_aload_n C dX10_next_27 rfl ?_
      refine g_getIv (ci := 10) (k := 17) (v := nI (T)) C dX10_next_28 rfl inGX10 (by decide) fwX10_133 ly_103 (by decide) rfl mx_17 ?_
      refine g_putI (ci := 10) (k := 19) .int C dX10_next_31 rfl inGX10 tyX10_ok nmX10 (by decide) fwX10_114 ly_103 (by decide) rfl rfl rfl rfl rfl ?_
      rw [mx_u19]
      refine g_aload_n C dX10_next_34 rfl ?_
      refine g_iconst (v := 0) C dX10_next_35 (by decide) ?_
      refine g_putI (ci := 10) (k := 18) .int C dX10_next_36 rfl inGX10 tyX10_ok nmX10 (by decide) fwX10_139 ly_103 (by decide) rfl rfl rfl rfl rfl ?_
      rw [mx_u18]
      refine g_aload_n C dX10_next_39 rfl ?_
      refine g_iconst (v := 0) C dX10_next_40 (by decide) ?_
      refine g_putI (ci := 10) (k := 20) .int C dX10_next_41 rfl inGX10 tyX10_ok nmX10 (by decide) fwX10_142 ly_103 (by decide) rfl rfl rfl rfl rfl ?_
      rw [mx_u20]
      refine g_aload_n C dX10_next_44 rfl ?_
      refine g_aload_n C dX10_next_45 rfl ?_
      refine g_getIv (ci := 10) (k := 17) (v := nI (T)) C dX10_next_46 rfl inGX10 (by decide) fwX10_133 ly_103 (by decide) rfl mx_17 ?_
      refine gv1I (ci := 10) C dX10_next_49 vwX10_byteAt mwX10_136 ⟨by decide, by decide⟩ rfl ly_103 (Nat.le_of_ble_eq_true rfl) (s_byteAt (t := t) (e := e) (k := T) (mx_by hB) ((mx_103 (Or.inl (by decide))).trans he) he3 (by omega)) (Nat.le_of_ble_eq_true rfl) rfl ⟨by decide, by decide⟩ ?_
      rw [bA_out hTe]
      refine g_istore_1 C dX10_next_52 (by decide) ?_
      refine g_iconst (v := 0) C dX10_next_53 (by decide) ?_
      refine g_istore_2 C dX10_next_54 (by decide) ?_
      refine g_iload_n C dX10_next_55 rfl ?_
      refine g_iconst (v := (-1)) C dX10_next_56 (by decide) ?_
      refine g_icmp_ne 68 C dX10_next_57 (by decide) (fun c57 => ?_) (fun c57 => ?_)
      · first | exact absurd c57 (by decide) | exact absurd (by decide) c57 | exact absurd rfl c57
      · refine g_aload_n C dX10_next_60 rfl ?_
        refine g_iconst (v := 1) C dX10_next_61 (by decide) ?_
        refine g_putI (ci := 10) (k := 18) .int C dX10_next_62 rfl inGX10 tyX10_ok nmX10 (by decide) fwX10_139 ly_103 (by decide) rfl rfl rfl rfl rfl ?_
        refine g_goto 272 C dX10_next_65 (by decide) ?_
        rw [mx_u18]
        exact g_vret C dX10_next_272 rfl rfl rfl (nxR_of (x := J 103 22) (upJ_self _ _ _).symm (by rw [hn.1]) (by rw [hn.2]; rfl) (by rw [hT]) (by rw [hn.2]; rfl) ⟨fun q => absurd (hn.2.symm.trans q) (by decide), fun q => absurd (hn.2.symm.trans q) (by decide)⟩)
    have hTe : T < e := Nat.lt_of_not_le fun q => h0 (by unfold sgn; rw [if_pos q])
    have htT := ht T (by omega)
    by_cases h1 : sgn t e T = 1
    · obtain ⟨R, hRR⟩ : ∃ R, rnn t e 1 (e - T) T = R := ⟨_, rfl⟩
      have hn := nx12 hT hTe (Or.inl rfl) h1 hRR
      have lt : ∀ (f c : Nat), T + c + f = e → rnn t e 1 f (T + c) = R → Go X G 3 0 0 (KQ X G iX10_next (nxR D J t e i) noT) 80 [.ref (G.1 + 103), .int (nI (t T)), .int (nI c)] [] (mm (mrX D (nI (T + c)) 0 (nI T) 0 v) (upJ J 103 22 (lN (wdN t T (min c 8))))) := by
        intro f
        induction f with
        | zero =>
          intro c hc hR
          have hR : R = T + c := hR.symm
          have hne : ¬ sgn t e (T + c) = 1 := fun q => by have := (sgn1 q).1; omega
          refine g_aload_n C dX10_next_80 rfl ?_
          refine g_aload_n C dX10_next_81 rfl ?_
          refine g_getIv (ci := 10) (k := 17) (v := nI (T + c)) C dX10_next_82 rfl inGX10 (by decide) fwX10_133 ly_103 (by decide) rfl mx_17 ?_
          refine gv1I (ci := 10) C dX10_next_85 vwX10_byteAt mwX10_136 ⟨by decide, by decide⟩ rfl ly_103 (Nat.le_of_ble_eq_true rfl) (s_byteAt (t := t) (e := e) (k := T + c) (mx_by hB) ((mx_103 (Or.inl (by decide))).trans he) he3 (by omega)) (Nat.le_of_ble_eq_true rfl) rfl ⟨by decide, by decide⟩ ?_
          refine gs1I C dX10_next_88 swX10_isLetter mwX10_145 ⟨by decide, by decide⟩ (s_isLetter _) (Nat.le_of_ble_eq_true rfl) rfl ⟨by decide, by decide⟩ ?_
          rw [isL ht he3]
          refine g_if_eq 143 C dX10_next_91 (by decide) (fun c91 => ?_) (fun c91 => ?_)
          · skip
            refine g_iload_n C dX10_next_143 rfl ?_
            refine g_bipush (v := 9) C dX10_next_144 (by decide) ?_
            refine g_icmp_ge 272 C dX10_next_146 (by decide) (fun c146 => ?_) (fun c146 => ?_)
            · have g146 : ¬ c ≤ 8 := by have := nI_l' (a := 9) c146 (by decide) (by omega); omega
              try rw [mx_u18]
              exact g_vret C dX10_next_272 rfl rfl rfl (nxR_of (x := lN (wdN t T (min c 8))) rfl (by rw [hn.1, hR]) (by rw [hn.2.2, hR, show T + c - T = c by omega]; first | (rw [if_pos (show c ≤ lgs 1 from g146)]; rfl) | (rw [if_neg (show ¬ c ≤ lgs 1 from g146)]; rfl)) (by rw [hT]) (by rw [hn.2.2, hR, show T + c - T = c by omega]; first | (rw [if_pos (show c ≤ lgs 1 from g146)]; rfl) | (rw [if_neg (show ¬ c ≤ lgs 1 from g146)]; rfl)) ⟨fun q => absurd (hn.2.2.symm.trans q) (by split <;> decide), fun q => by rw [hn.2.1, hT, hR, show T + c - T = c by omega, show min c 8 = c by (have : c ≤ 8 := by (first | exact g146 | (exfalso; rw [hn.2.2, hR, show T + c - T = c by omega, if_neg (show ¬ c ≤ lgs 1 from g146)] at q; exact absurd q (by decide)))); omega]⟩)
            · have g146 : c ≤ 8 := by have := nI_nl (a := 9) c146 (by decide) (by omega); omega
              refine g_aload_n C dX10_next_149 rfl ?_
              refine g_iconst (v := 2) C dX10_next_150 (by decide) ?_
              refine g_putI (ci := 10) (k := 18) .int C dX10_next_151 rfl inGX10 tyX10_ok nmX10 (by decide) fwX10_139 ly_103 (by decide) rfl rfl rfl rfl rfl ?_
              refine g_goto 272 C dX10_next_154 (by decide) ?_
              try rw [mx_u18]
              exact g_vret C dX10_next_272 rfl rfl rfl (nxR_of (x := lN (wdN t T (min c 8))) rfl (by rw [hn.1, hR]) (by rw [hn.2.2, hR, show T + c - T = c by omega]; first | (rw [if_pos (show c ≤ lgs 1 from g146)]; rfl) | (rw [if_neg (show ¬ c ≤ lgs 1 from g146)]; rfl)) (by rw [hT]) (by rw [hn.2.2, hR, show T + c - T = c by omega]; first | (rw [if_pos (show c ≤ lgs 1 from g146)]; rfl) | (rw [if_neg (show ¬ c ≤ lgs 1 from g146)]; rfl)) ⟨fun q => absurd (hn.2.2.symm.trans q) (by split <;> decide), fun q => by rw [hn.2.1, hT, hR, show T + c - T = c by omega, show min c 8 = c by (have : c ≤ 8 := by (first | exact g146 | (exfalso; rw [hn.2.2, hR, show T + c - T = c by omega, if_neg (show ¬ c ≤ lgs 1 from g146)] at q; exact absurd q (by decide)))); omega]⟩)
          · exact absurd (if01.mpr hne) c91
        | succ f ih =>
          intro c hc hR
          by_cases hyes : sgn t e (T + c) = 1
          · skip
            refine g_aload_n C dX10_next_80 rfl ?_
            refine g_aload_n C dX10_next_81 rfl ?_
            refine g_getIv (ci := 10) (k := 17) (v := nI (T + c)) C dX10_next_82 rfl inGX10 (by decide) fwX10_133 ly_103 (by decide) rfl mx_17 ?_
            refine gv1I (ci := 10) C dX10_next_85 vwX10_byteAt mwX10_136 ⟨by decide, by decide⟩ rfl ly_103 (Nat.le_of_ble_eq_true rfl) (s_byteAt (t := t) (e := e) (k := T + c) (mx_by hB) ((mx_103 (Or.inl (by decide))).trans he) he3 (by omega)) (Nat.le_of_ble_eq_true rfl) rfl ⟨by decide, by decide⟩ ?_
            refine gs1I C dX10_next_88 swX10_isLetter mwX10_145 ⟨by decide, by decide⟩ (s_isLetter _) (Nat.le_of_ble_eq_true rfl) rfl ⟨by decide, by decide⟩ ?_
            rw [isL ht he3]
            refine g_if_eq 143 C dX10_next_91 (by decide) (fun c91 => ?_) (fun c91 => ?_)
            · exact absurd (show (if sgn t e (T + c) = 1 then (1 : Int32) else 0) = 1 from if_pos hyes) (by rw [c91]; decide)
            · have hch := sgn1 hyes
              refine g_iload_n C dX10_next_94 rfl ?_
              refine g_bipush (v := 8) C dX10_next_95 (by decide) ?_
              refine g_icmp_ge 127 C dX10_next_97 (by decide) (fun c97 => ?_) (fun c97 => ?_)
              · have g97 : ¬ c < 8 := by have := nI_l' (a := 8) c97 (by decide) (by omega); omega
                try rw [upJ_upJ]
                refine g_iinc_2 C dX10_next_127 (nI_1 c) (by decide) ?_
                refine g_aload_n C dX10_next_130 rfl ?_
                refine g_dup C dX10_next_131 rfl ?_
                refine g_getIv (ci := 10) (k := 17) (v := nI (T + c)) C dX10_next_132 rfl inGX10 (by decide) fwX10_133 ly_103 (by decide) rfl mx_17 ?_
                refine g_iconst (v := 1) C dX10_next_135 (by decide) ?_
                refine g_iadd C dX10_next_136 ?_
                rw [nI_1]
                refine g_putI (ci := 10) (k := 17) .int C dX10_next_137 rfl inGX10 tyX10_ok nmX10 (by decide) fwX10_133 ly_103 (by decide) rfl rfl rfl rfl rfl ?_
                refine g_goto 80 C dX10_next_140 (by decide) ?_
                rw [mx_u17, show T + c + 1 = T + (c + 1) by omega]
                first
                  | (have e9 : min (c + 1) 8 = c + 1 := by omega
                     have := ih (c + 1) (by omega) (by rw [← hR, rnn, if_pos hyes]; rfl)
                     rw [e9] at this; exact this)
                  | (have e9 : min (c + 1) 8 = 8 := by omega
                     have e8 : min c 8 = 8 := by omega
                     have := ih (c + 1) (by omega) (by rw [← hR, rnn, if_pos hyes]; rfl)
                     rw [e9] at this; rw [e8]; exact this)
              · have g97 : c < 8 := by have := nI_nl (a := 8) c97 (by decide) (by omega); omega
                refine g_aload_n C dX10_next_100 rfl ?_
                refine g_ldc2 (v := 32) C dX10_next_101 kwX10_127 ?_
                refine g_aload_n C dX10_next_104 rfl ?_
                refine g_getL (ci := 10) (k := 22) C dX10_next_105 rfl inGX10 (by decide) fwX10_148 ly_103 (by decide) rfl ?_
                refine g_lmul C dX10_next_108 ?_
                refine g_aload_n C dX10_next_109 rfl ?_
                refine g_aload_n C dX10_next_110 rfl ?_
                refine g_getIv (ci := 10) (k := 17) (v := nI (T + c)) C dX10_next_111 rfl inGX10 (by decide) fwX10_133 ly_103 (by decide) rfl mx_17 ?_
                refine gv1I (ci := 10) C dX10_next_114 vwX10_byteAt mwX10_136 ⟨by decide, by decide⟩ rfl ly_103 (Nat.le_of_ble_eq_true rfl) (s_byteAt (t := t) (e := e) (k := T + c) (mx_by hB) ((mx_103 (Or.inl (by decide))).trans he) he3 (by omega)) (Nat.le_of_ble_eq_true rfl) rfl ⟨by decide, by decide⟩ ?_
                refine g_bipush (v := 97) C dX10_next_117 (by decide) ?_
                refine g_isub C dX10_next_119 ?_
                refine g_iconst (v := 1) C dX10_next_120 (by decide) ?_
                refine g_iadd C dX10_next_121 ?_
                refine g_i2l C dX10_next_122 ?_
                refine g_ladd C dX10_next_123 ?_
                rw [bA_in hch.1, upJ_same, show min c 8 = c by omega, wd_step hch.2.1 hch.2.2]
                refine g_putL (ci := 10) (k := 22) C dX10_next_124 rfl inGX10 tyX10_ok nmX10 (by decide) fwX10_148 ly_103 (by decide) rfl rfl rfl ?_
                try rw [upJ_upJ]
                refine g_iinc_2 C dX10_next_127 (nI_1 c) (by decide) ?_
                refine g_aload_n C dX10_next_130 rfl ?_
                refine g_dup C dX10_next_131 rfl ?_
                refine g_getIv (ci := 10) (k := 17) (v := nI (T + c)) C dX10_next_132 rfl inGX10 (by decide) fwX10_133 ly_103 (by decide) rfl mx_17 ?_
                refine g_iconst (v := 1) C dX10_next_135 (by decide) ?_
                refine g_iadd C dX10_next_136 ?_
                rw [nI_1]
                refine g_putI (ci := 10) (k := 17) .int C dX10_next_137 rfl inGX10 tyX10_ok nmX10 (by decide) fwX10_133 ly_103 (by decide) rfl rfl rfl rfl rfl ?_
                refine g_goto 80 C dX10_next_140 (by decide) ?_
                rw [mx_u17, show T + c + 1 = T + (c + 1) by omega]
                first
                  | (have e9 : min (c + 1) 8 = c + 1 := by omega
                     have := ih (c + 1) (by omega) (by rw [← hR, rnn, if_pos hyes]; rfl)
                     rw [e9] at this; exact this)
                  | (have e9 : min (c + 1) 8 = 8 := by omega
                     have e8 : min c 8 = 8 := by omega
                     have := ih (c + 1) (by omega) (by rw [← hR, rnn, if_pos hyes]; rfl)
                     rw [e9] at this; rw [e8]; exact this)
          · have hne := hyes
            have hR : R = T + c := by rw [← hR, rnn, if_neg hyes]
            refine g_aload_n C dX10_next_80 rfl ?_
            refine g_aload_n C dX10_next_81 rfl ?_
            refine g_getIv (ci := 10) (k := 17) (v := nI (T + c)) C dX10_next_82 rfl inGX10 (by decide) fwX10_133 ly_103 (by decide) rfl mx_17 ?_
            refine gv1I (ci := 10) C dX10_next_85 vwX10_byteAt mwX10_136 ⟨by decide, by decide⟩ rfl ly_103 (Nat.le_of_ble_eq_true rfl) (s_byteAt (t := t) (e := e) (k := T + c) (mx_by hB) ((mx_103 (Or.inl (by decide))).trans he) he3 (by omega)) (Nat.le_of_ble_eq_true rfl) rfl ⟨by decide, by decide⟩ ?_
            refine gs1I C dX10_next_88 swX10_isLetter mwX10_145 ⟨by decide, by decide⟩ (s_isLetter _) (Nat.le_of_ble_eq_true rfl) rfl ⟨by decide, by decide⟩ ?_
            rw [isL ht he3]
            refine g_if_eq 143 C dX10_next_91 (by decide) (fun c91 => ?_) (fun c91 => ?_)
            · skip
              refine g_iload_n C dX10_next_143 rfl ?_
              refine g_bipush (v := 9) C dX10_next_144 (by decide) ?_
              refine g_icmp_ge 272 C dX10_next_146 (by decide) (fun c146 => ?_) (fun c146 => ?_)
              · have g146 : ¬ c ≤ 8 := by have := nI_l' (a := 9) c146 (by decide) (by omega); omega
                try rw [mx_u18]
                exact g_vret C dX10_next_272 rfl rfl rfl (nxR_of (x := lN (wdN t T (min c 8))) rfl (by rw [hn.1, hR]) (by rw [hn.2.2, hR, show T + c - T = c by omega]; first | (rw [if_pos (show c ≤ lgs 1 from g146)]; rfl) | (rw [if_neg (show ¬ c ≤ lgs 1 from g146)]; rfl)) (by rw [hT]) (by rw [hn.2.2, hR, show T + c - T = c by omega]; first | (rw [if_pos (show c ≤ lgs 1 from g146)]; rfl) | (rw [if_neg (show ¬ c ≤ lgs 1 from g146)]; rfl)) ⟨fun q => absurd (hn.2.2.symm.trans q) (by split <;> decide), fun q => by rw [hn.2.1, hT, hR, show T + c - T = c by omega, show min c 8 = c by (have : c ≤ 8 := by (first | exact g146 | (exfalso; rw [hn.2.2, hR, show T + c - T = c by omega, if_neg (show ¬ c ≤ lgs 1 from g146)] at q; exact absurd q (by decide)))); omega]⟩)
              · have g146 : c ≤ 8 := by have := nI_nl (a := 9) c146 (by decide) (by omega); omega
                refine g_aload_n C dX10_next_149 rfl ?_
                refine g_iconst (v := 2) C dX10_next_150 (by decide) ?_
                refine g_putI (ci := 10) (k := 18) .int C dX10_next_151 rfl inGX10 tyX10_ok nmX10 (by decide) fwX10_139 ly_103 (by decide) rfl rfl rfl rfl rfl ?_
                refine g_goto 272 C dX10_next_154 (by decide) ?_
                try rw [mx_u18]
                exact g_vret C dX10_next_272 rfl rfl rfl (nxR_of (x := lN (wdN t T (min c 8))) rfl (by rw [hn.1, hR]) (by rw [hn.2.2, hR, show T + c - T = c by omega]; first | (rw [if_pos (show c ≤ lgs 1 from g146)]; rfl) | (rw [if_neg (show ¬ c ≤ lgs 1 from g146)]; rfl)) (by rw [hT]) (by rw [hn.2.2, hR, show T + c - T = c by omega]; first | (rw [if_pos (show c ≤ lgs 1 from g146)]; rfl) | (rw [if_neg (show ¬ c ≤ lgs 1 from g146)]; rfl)) ⟨fun q => absurd (hn.2.2.symm.trans q) (by split <;> decide), fun q => by rw [hn.2.1, hT, hR, show T + c - T = c by omega, show min c 8 = c by (have : c ≤ 8 := by (first | exact g146 | (exfalso; rw [hn.2.2, hR, show T + c - T = c by omega, if_neg (show ¬ c ≤ lgs 1 from g146)] at q; exact absurd q (by decide)))); omega]⟩)
            · exact absurd (if01.mpr hne) c91
      refine g_aload_n C dX10_next_26 rfl ?_
      refine g_aload_n C dX10_next_27 rfl ?_
      refine g_getIv (ci := 10) (k := 17) (v := nI (T)) C dX10_next_28 rfl inGX10 (by decide) fwX10_133 ly_103 (by decide) rfl mx_17 ?_
      refine g_putI (ci := 10) (k := 19) .int C dX10_next_31 rfl inGX10 tyX10_ok nmX10 (by decide) fwX10_114 ly_103 (by decide) rfl rfl rfl rfl rfl ?_
      rw [mx_u19]
      refine g_aload_n C dX10_next_34 rfl ?_
      refine g_iconst (v := 0) C dX10_next_35 (by decide) ?_
      refine g_putI (ci := 10) (k := 18) .int C dX10_next_36 rfl inGX10 tyX10_ok nmX10 (by decide) fwX10_139 ly_103 (by decide) rfl rfl rfl rfl rfl ?_
      rw [mx_u18]
      refine g_aload_n C dX10_next_39 rfl ?_
      refine g_iconst (v := 0) C dX10_next_40 (by decide) ?_
      refine g_putI (ci := 10) (k := 20) .int C dX10_next_41 rfl inGX10 tyX10_ok nmX10 (by decide) fwX10_142 ly_103 (by decide) rfl rfl rfl rfl rfl ?_
      rw [mx_u20]
      refine g_aload_n C dX10_next_44 rfl ?_
      refine g_aload_n C dX10_next_45 rfl ?_
      refine g_getIv (ci := 10) (k := 17) (v := nI (T)) C dX10_next_46 rfl inGX10 (by decide) fwX10_133 ly_103 (by decide) rfl mx_17 ?_
      refine gv1I (ci := 10) C dX10_next_49 vwX10_byteAt mwX10_136 ⟨by decide, by decide⟩ rfl ly_103 (Nat.le_of_ble_eq_true rfl) (s_byteAt (t := t) (e := e) (k := T) (mx_by hB) ((mx_103 (Or.inl (by decide))).trans he) he3 (by omega)) (Nat.le_of_ble_eq_true rfl) rfl ⟨by decide, by decide⟩ ?_
      rw [bA_in hTe]
      refine g_istore_1 C dX10_next_52 (by decide) ?_
      refine g_iconst (v := 0) C dX10_next_53 (by decide) ?_
      refine g_istore_2 C dX10_next_54 (by decide) ?_
      refine g_iload_n C dX10_next_55 rfl ?_
      refine g_iconst (v := (-1)) C dX10_next_56 (by decide) ?_
      refine g_icmp_ne 68 C dX10_next_57 (by decide) (fun c57 => ?_) (fun c57 => ?_)
      · refine g_iload_n C dX10_next_68 rfl ?_
        refine gs1I C dX10_next_69 swX10_isLetter mwX10_145 ⟨by decide, by decide⟩ (s_isLetter _) (Nat.le_of_ble_eq_true rfl) rfl ⟨by decide, by decide⟩ ?_
        rw [← bA_in hTe, isL ht he3, bA_in hTe]
        rw [if_pos h1]
        refine g_if_eq 157 C dX10_next_72 (by decide) (fun c72 => ?_) (fun c72 => ?_)
        · first | exact absurd c72 (by decide) | exact absurd (by decide) c72 | exact absurd rfl c72
        · refine g_aload_n C dX10_next_75 rfl ?_
          refine g_lconst (v := 0) C dX10_next_76 rfl ?_
          refine g_putL (ci := 10) (k := 22) C dX10_next_77 rfl inGX10 tyX10_ok nmX10 (by decide) fwX10_148 ly_103 (by decide) rfl rfl rfl ?_
          exact lt (e - T) 0 (by omega) hRR
      · exact absurd c57 (nI_nm1 (by omega))
    by_cases h2 : sgn t e T = 2
    · obtain ⟨R, hRR⟩ : ∃ R, rnn t e 2 (e - T) T = R := ⟨_, rfl⟩
      have hn := nx12 hT hTe (Or.inr rfl) h2 hRR
      have lt : ∀ (f c : Nat), T + c + f = e → rnn t e 2 f (T + c) = R → Go X G 3 0 0 (KQ X G iX10_next (nxR D J t e i) noT) 169 [.ref (G.1 + 103), .int (nI (t T)), .int (nI c)] [] (mm (mrX D (nI (T + c)) 0 (nI T) 0 (nI (wv0 t T (min c 2)))) J) := by
        intro f
        induction f with
        | zero =>
          intro c hc hR
          have hR : R = T + c := hR.symm
          have hne : ¬ sgn t e (T + c) = 2 := fun q => by have := (sgn2 q).1; omega
          refine g_aload_n C dX10_next_169 rfl ?_
          refine g_aload_n C dX10_next_170 rfl ?_
          refine g_getIv (ci := 10) (k := 17) (v := nI (T + c)) C dX10_next_171 rfl inGX10 (by decide) fwX10_133 ly_103 (by decide) rfl mx_17 ?_
          refine gv1I (ci := 10) C dX10_next_174 vwX10_byteAt mwX10_136 ⟨by decide, by decide⟩ rfl ly_103 (Nat.le_of_ble_eq_true rfl) (s_byteAt (t := t) (e := e) (k := T + c) (mx_by hB) ((mx_103 (Or.inl (by decide))).trans he) he3 (by omega)) (Nat.le_of_ble_eq_true rfl) rfl ⟨by decide, by decide⟩ ?_
          refine gs1I C dX10_next_177 swX10_isDigit mwX10_152 ⟨by decide, by decide⟩ (s_isDigit _) (Nat.le_of_ble_eq_true rfl) rfl ⟨by decide, by decide⟩ ?_
          rw [isDg ht he3]
          refine g_if_eq 227 C dX10_next_180 (by decide) (fun c180 => ?_) (fun c180 => ?_)
          · skip
            refine g_iload_n C dX10_next_227 rfl ?_
            refine g_iconst (v := 3) C dX10_next_228 (by decide) ?_
            refine g_icmp_ge 272 C dX10_next_229 (by decide) (fun c229 => ?_) (fun c229 => ?_)
            · have g146 : ¬ c ≤ 2 := by have := nI_l' (a := 3) c229 (by decide) (by omega); omega
              try rw [mx_u18]
              exact g_vret C dX10_next_272 rfl rfl rfl (nxR_of (x := J 103 22) (upJ_self _ _ _).symm (by rw [hn.1, hR]) (by rw [hn.2.2, hR, show T + c - T = c by omega]; first | (rw [if_pos (show c ≤ lgs 2 from g146)]; rfl) | (rw [if_neg (show ¬ c ≤ lgs 2 from g146)]; rfl)) (by rw [hT]) (by rw [hn.2.2, hR, show T + c - T = c by omega]; first | (rw [if_pos (show c ≤ lgs 2 from g146)]; rfl) | (rw [if_neg (show ¬ c ≤ lgs 2 from g146)]; rfl)) ⟨fun q => by unfold wv; rw [hn.2.1, hT, hR, show T + c - T = c by omega, show min c 2 = c by (have : c ≤ 2 := by (first | exact g146 | (exfalso; rw [hn.2.2, hR, show T + c - T = c by omega, if_neg (show ¬ c ≤ lgs 2 from g146)] at q; exact absurd q (by decide)))); omega], fun q => absurd (hn.2.2.symm.trans q) (by split <;> decide)⟩)
            · have g146 : c ≤ 2 := by have := nI_nl (a := 3) c229 (by decide) (by omega); omega
              refine g_aload_n C dX10_next_232 rfl ?_
              refine g_iconst (v := 3) C dX10_next_233 (by decide) ?_
              refine g_putI (ci := 10) (k := 18) .int C dX10_next_234 rfl inGX10 tyX10_ok nmX10 (by decide) fwX10_139 ly_103 (by decide) rfl rfl rfl rfl rfl ?_
              refine g_goto 272 C dX10_next_237 (by decide) ?_
              try rw [mx_u18]
              exact g_vret C dX10_next_272 rfl rfl rfl (nxR_of (x := J 103 22) (upJ_self _ _ _).symm (by rw [hn.1, hR]) (by rw [hn.2.2, hR, show T + c - T = c by omega]; first | (rw [if_pos (show c ≤ lgs 2 from g146)]; rfl) | (rw [if_neg (show ¬ c ≤ lgs 2 from g146)]; rfl)) (by rw [hT]) (by rw [hn.2.2, hR, show T + c - T = c by omega]; first | (rw [if_pos (show c ≤ lgs 2 from g146)]; rfl) | (rw [if_neg (show ¬ c ≤ lgs 2 from g146)]; rfl)) ⟨fun q => by unfold wv; rw [hn.2.1, hT, hR, show T + c - T = c by omega, show min c 2 = c by (have : c ≤ 2 := by (first | exact g146 | (exfalso; rw [hn.2.2, hR, show T + c - T = c by omega, if_neg (show ¬ c ≤ lgs 2 from g146)] at q; exact absurd q (by decide)))); omega], fun q => absurd (hn.2.2.symm.trans q) (by split <;> decide)⟩)
          · exact absurd (if01.mpr hne) c180
        | succ f ih =>
          intro c hc hR
          by_cases hyes : sgn t e (T + c) = 2
          · skip
            refine g_aload_n C dX10_next_169 rfl ?_
            refine g_aload_n C dX10_next_170 rfl ?_
            refine g_getIv (ci := 10) (k := 17) (v := nI (T + c)) C dX10_next_171 rfl inGX10 (by decide) fwX10_133 ly_103 (by decide) rfl mx_17 ?_
            refine gv1I (ci := 10) C dX10_next_174 vwX10_byteAt mwX10_136 ⟨by decide, by decide⟩ rfl ly_103 (Nat.le_of_ble_eq_true rfl) (s_byteAt (t := t) (e := e) (k := T + c) (mx_by hB) ((mx_103 (Or.inl (by decide))).trans he) he3 (by omega)) (Nat.le_of_ble_eq_true rfl) rfl ⟨by decide, by decide⟩ ?_
            refine gs1I C dX10_next_177 swX10_isDigit mwX10_152 ⟨by decide, by decide⟩ (s_isDigit _) (Nat.le_of_ble_eq_true rfl) rfl ⟨by decide, by decide⟩ ?_
            rw [isDg ht he3]
            refine g_if_eq 227 C dX10_next_180 (by decide) (fun c180 => ?_) (fun c180 => ?_)
            · exact absurd (show (if sgn t e (T + c) = 2 then (1 : Int32) else 0) = 1 from if_pos hyes) (by rw [c180]; decide)
            · have hch := sgn2 hyes
              refine g_iload_n C dX10_next_183 rfl ?_
              refine g_iconst (v := 2) C dX10_next_184 (by decide) ?_
              refine g_icmp_ge 211 C dX10_next_185 (by decide) (fun c185 => ?_) (fun c185 => ?_)
              · have g97 : ¬ c < 2 := by have := nI_l' (a := 2) c185 (by decide) (by omega); omega
                try rw [mx_u21]
                refine g_iinc_2 C dX10_next_211 (nI_1 c) (by decide) ?_
                refine g_aload_n C dX10_next_214 rfl ?_
                refine g_dup C dX10_next_215 rfl ?_
                refine g_getIv (ci := 10) (k := 17) (v := nI (T + c)) C dX10_next_216 rfl inGX10 (by decide) fwX10_133 ly_103 (by decide) rfl mx_17 ?_
                refine g_iconst (v := 1) C dX10_next_219 (by decide) ?_
                refine g_iadd C dX10_next_220 ?_
                rw [nI_1]
                refine g_putI (ci := 10) (k := 17) .int C dX10_next_221 rfl inGX10 tyX10_ok nmX10 (by decide) fwX10_133 ly_103 (by decide) rfl rfl rfl rfl rfl ?_
                refine g_goto 169 C dX10_next_224 (by decide) ?_
                rw [mx_u17, show T + c + 1 = T + (c + 1) by omega]
                first
                  | (have e9 : min (c + 1) 2 = c + 1 := by omega
                     have := ih (c + 1) (by omega) (by rw [← hR, rnn, if_pos hyes]; rfl)
                     rw [e9] at this; exact this)
                  | (have e9 : min (c + 1) 2 = 2 := by omega
                     have e8 : min c 2 = 2 := by omega
                     have := ih (c + 1) (by omega) (by rw [← hR, rnn, if_pos hyes]; rfl)
                     rw [e9] at this; rw [e8]; exact this)
              · have g97 : c < 2 := by have := nI_nl (a := 2) c185 (by decide) (by omega); omega
                refine g_aload_n C dX10_next_188 rfl ?_
                refine g_bipush (v := 10) C dX10_next_189 (by decide) ?_
                refine g_aload_n C dX10_next_191 rfl ?_
                refine g_getIv (ci := 10) (k := 21) (v := (nI (wv0 t T (min c 2)))) C dX10_next_192 rfl inGX10 (by decide) fwX10_155 ly_103 (by decide) rfl mx_21 ?_
                refine g_imul C dX10_next_195 ?_
                refine g_aload_n C dX10_next_196 rfl ?_
                refine g_aload_n C dX10_next_197 rfl ?_
                refine g_getIv (ci := 10) (k := 17) (v := nI (T + c)) C dX10_next_198 rfl inGX10 (by decide) fwX10_133 ly_103 (by decide) rfl mx_17 ?_
                refine gv1I (ci := 10) C dX10_next_201 vwX10_byteAt mwX10_136 ⟨by decide, by decide⟩ rfl ly_103 (Nat.le_of_ble_eq_true rfl) (s_byteAt (t := t) (e := e) (k := T + c) (mx_by hB) ((mx_103 (Or.inl (by decide))).trans he) he3 (by omega)) (Nat.le_of_ble_eq_true rfl) rfl ⟨by decide, by decide⟩ ?_
                refine g_iadd C dX10_next_204 ?_
                refine g_bipush (v := 48) C dX10_next_205 (by decide) ?_
                refine g_isub C dX10_next_207 ?_
                rw [bA_in hch.1, show min c 2 = c by omega, Int32.mul_comm, wv_step hch.2.1]
                refine g_putI (ci := 10) (k := 21) .int C dX10_next_208 rfl inGX10 tyX10_ok nmX10 (by decide) fwX10_155 ly_103 (by decide) rfl rfl rfl rfl rfl ?_
                try rw [mx_u21]
                refine g_iinc_2 C dX10_next_211 (nI_1 c) (by decide) ?_
                refine g_aload_n C dX10_next_214 rfl ?_
                refine g_dup C dX10_next_215 rfl ?_
                refine g_getIv (ci := 10) (k := 17) (v := nI (T + c)) C dX10_next_216 rfl inGX10 (by decide) fwX10_133 ly_103 (by decide) rfl mx_17 ?_
                refine g_iconst (v := 1) C dX10_next_219 (by decide) ?_
                refine g_iadd C dX10_next_220 ?_
                rw [nI_1]
                refine g_putI (ci := 10) (k := 17) .int C dX10_next_221 rfl inGX10 tyX10_ok nmX10 (by decide) fwX10_133 ly_103 (by decide) rfl rfl rfl rfl rfl ?_
                refine g_goto 169 C dX10_next_224 (by decide) ?_
                rw [mx_u17, show T + c + 1 = T + (c + 1) by omega]
                first
                  | (have e9 : min (c + 1) 2 = c + 1 := by omega
                     have := ih (c + 1) (by omega) (by rw [← hR, rnn, if_pos hyes]; rfl)
                     rw [e9] at this; exact this)
                  | (have e9 : min (c + 1) 2 = 2 := by omega
                     have e8 : min c 2 = 2 := by omega
                     have := ih (c + 1) (by omega) (by rw [← hR, rnn, if_pos hyes]; rfl)
                     rw [e9] at this; rw [e8]; exact this)
          · have hne := hyes
            have hR : R = T + c := by rw [← hR, rnn, if_neg hyes]
            refine g_aload_n C dX10_next_169 rfl ?_
            refine g_aload_n C dX10_next_170 rfl ?_
            refine g_getIv (ci := 10) (k := 17) (v := nI (T + c)) C dX10_next_171 rfl inGX10 (by decide) fwX10_133 ly_103 (by decide) rfl mx_17 ?_
            refine gv1I (ci := 10) C dX10_next_174 vwX10_byteAt mwX10_136 ⟨by decide, by decide⟩ rfl ly_103 (Nat.le_of_ble_eq_true rfl) (s_byteAt (t := t) (e := e) (k := T + c) (mx_by hB) ((mx_103 (Or.inl (by decide))).trans he) he3 (by omega)) (Nat.le_of_ble_eq_true rfl) rfl ⟨by decide, by decide⟩ ?_
            refine gs1I C dX10_next_177 swX10_isDigit mwX10_152 ⟨by decide, by decide⟩ (s_isDigit _) (Nat.le_of_ble_eq_true rfl) rfl ⟨by decide, by decide⟩ ?_
            rw [isDg ht he3]
            refine g_if_eq 227 C dX10_next_180 (by decide) (fun c180 => ?_) (fun c180 => ?_)
            · skip
              refine g_iload_n C dX10_next_227 rfl ?_
              refine g_iconst (v := 3) C dX10_next_228 (by decide) ?_
              refine g_icmp_ge 272 C dX10_next_229 (by decide) (fun c229 => ?_) (fun c229 => ?_)
              · have g146 : ¬ c ≤ 2 := by have := nI_l' (a := 3) c229 (by decide) (by omega); omega
                try rw [mx_u18]
                exact g_vret C dX10_next_272 rfl rfl rfl (nxR_of (x := J 103 22) (upJ_self _ _ _).symm (by rw [hn.1, hR]) (by rw [hn.2.2, hR, show T + c - T = c by omega]; first | (rw [if_pos (show c ≤ lgs 2 from g146)]; rfl) | (rw [if_neg (show ¬ c ≤ lgs 2 from g146)]; rfl)) (by rw [hT]) (by rw [hn.2.2, hR, show T + c - T = c by omega]; first | (rw [if_pos (show c ≤ lgs 2 from g146)]; rfl) | (rw [if_neg (show ¬ c ≤ lgs 2 from g146)]; rfl)) ⟨fun q => by unfold wv; rw [hn.2.1, hT, hR, show T + c - T = c by omega, show min c 2 = c by (have : c ≤ 2 := by (first | exact g146 | (exfalso; rw [hn.2.2, hR, show T + c - T = c by omega, if_neg (show ¬ c ≤ lgs 2 from g146)] at q; exact absurd q (by decide)))); omega], fun q => absurd (hn.2.2.symm.trans q) (by split <;> decide)⟩)
              · have g146 : c ≤ 2 := by have := nI_nl (a := 3) c229 (by decide) (by omega); omega
                refine g_aload_n C dX10_next_232 rfl ?_
                refine g_iconst (v := 3) C dX10_next_233 (by decide) ?_
                refine g_putI (ci := 10) (k := 18) .int C dX10_next_234 rfl inGX10 tyX10_ok nmX10 (by decide) fwX10_139 ly_103 (by decide) rfl rfl rfl rfl rfl ?_
                refine g_goto 272 C dX10_next_237 (by decide) ?_
                try rw [mx_u18]
                exact g_vret C dX10_next_272 rfl rfl rfl (nxR_of (x := J 103 22) (upJ_self _ _ _).symm (by rw [hn.1, hR]) (by rw [hn.2.2, hR, show T + c - T = c by omega]; first | (rw [if_pos (show c ≤ lgs 2 from g146)]; rfl) | (rw [if_neg (show ¬ c ≤ lgs 2 from g146)]; rfl)) (by rw [hT]) (by rw [hn.2.2, hR, show T + c - T = c by omega]; first | (rw [if_pos (show c ≤ lgs 2 from g146)]; rfl) | (rw [if_neg (show ¬ c ≤ lgs 2 from g146)]; rfl)) ⟨fun q => by unfold wv; rw [hn.2.1, hT, hR, show T + c - T = c by omega, show min c 2 = c by (have : c ≤ 2 := by (first | exact g146 | (exfalso; rw [hn.2.2, hR, show T + c - T = c by omega, if_neg (show ¬ c ≤ lgs 2 from g146)] at q; exact absurd q (by decide)))); omega], fun q => absurd (hn.2.2.symm.trans q) (by split <;> decide)⟩)
            · exact absurd (if01.mpr hne) c180
      refine g_aload_n C dX10_next_26 rfl ?_
      refine g_aload_n C dX10_next_27 rfl ?_
      refine g_getIv (ci := 10) (k := 17) (v := nI (T)) C dX10_next_28 rfl inGX10 (by decide) fwX10_133 ly_103 (by decide) rfl mx_17 ?_
      refine g_putI (ci := 10) (k := 19) .int C dX10_next_31 rfl inGX10 tyX10_ok nmX10 (by decide) fwX10_114 ly_103 (by decide) rfl rfl rfl rfl rfl ?_
      rw [mx_u19]
      refine g_aload_n C dX10_next_34 rfl ?_
      refine g_iconst (v := 0) C dX10_next_35 (by decide) ?_
      refine g_putI (ci := 10) (k := 18) .int C dX10_next_36 rfl inGX10 tyX10_ok nmX10 (by decide) fwX10_139 ly_103 (by decide) rfl rfl rfl rfl rfl ?_
      rw [mx_u18]
      refine g_aload_n C dX10_next_39 rfl ?_
      refine g_iconst (v := 0) C dX10_next_40 (by decide) ?_
      refine g_putI (ci := 10) (k := 20) .int C dX10_next_41 rfl inGX10 tyX10_ok nmX10 (by decide) fwX10_142 ly_103 (by decide) rfl rfl rfl rfl rfl ?_
      rw [mx_u20]
      refine g_aload_n C dX10_next_44 rfl ?_
      refine g_aload_n C dX10_next_45 rfl ?_
      refine g_getIv (ci := 10) (k := 17) (v := nI (T)) C dX10_next_46 rfl inGX10 (by decide) fwX10_133 ly_103 (by decide) rfl mx_17 ?_
      refine gv1I (ci := 10) C dX10_next_49 vwX10_byteAt mwX10_136 ⟨by decide, by decide⟩ rfl ly_103 (Nat.le_of_ble_eq_true rfl) (s_byteAt (t := t) (e := e) (k := T) (mx_by hB) ((mx_103 (Or.inl (by decide))).trans he) he3 (by omega)) (Nat.le_of_ble_eq_true rfl) rfl ⟨by decide, by decide⟩ ?_
      rw [bA_in hTe]
      refine g_istore_1 C dX10_next_52 (by decide) ?_
      refine g_iconst (v := 0) C dX10_next_53 (by decide) ?_
      refine g_istore_2 C dX10_next_54 (by decide) ?_
      refine g_iload_n C dX10_next_55 rfl ?_
      refine g_iconst (v := (-1)) C dX10_next_56 (by decide) ?_
      refine g_icmp_ne 68 C dX10_next_57 (by decide) (fun c57 => ?_) (fun c57 => ?_)
      · refine g_iload_n C dX10_next_68 rfl ?_
        refine gs1I C dX10_next_69 swX10_isLetter mwX10_145 ⟨by decide, by decide⟩ (s_isLetter _) (Nat.le_of_ble_eq_true rfl) rfl ⟨by decide, by decide⟩ ?_
        rw [← bA_in hTe, isL ht he3, bA_in hTe]
        rw [if_neg h1]
        refine g_if_eq 157 C dX10_next_72 (by decide) (fun c72 => ?_) (fun c72 => ?_)
        · refine g_iload_n C dX10_next_157 rfl ?_
          refine gs1I C dX10_next_158 swX10_isDigit mwX10_152 ⟨by decide, by decide⟩ (s_isDigit _) (Nat.le_of_ble_eq_true rfl) rfl ⟨by decide, by decide⟩ ?_
          rw [← bA_in hTe, isDg ht he3, bA_in hTe]
          rw [if_pos h2]
          refine g_if_eq 240 C dX10_next_161 (by decide) (fun c161 => ?_) (fun c161 => ?_)
          · first | exact absurd c161 (by decide) | exact absurd (by decide) c161 | exact absurd rfl c161
          · refine g_aload_n C dX10_next_164 rfl ?_
            refine g_iconst (v := 0) C dX10_next_165 (by decide) ?_
            refine g_putI (ci := 10) (k := 21) .int C dX10_next_166 rfl inGX10 tyX10_ok nmX10 (by decide) fwX10_155 ly_103 (by decide) rfl rfl rfl rfl rfl ?_
            rw [mx_u21]
            exact lt (e - T) 0 (by omega) hRR
        · first | exact absurd c72 (by decide) | exact absurd (by decide) c72 | exact absurd rfl c72
      · exact absurd c57 (nI_nm1 (by omega))
    have hl : ¬ (97 ≤ t T ∧ t T ≤ 122) := fun q => h1 (sgnL hTe q.1 q.2)
    have hd : ¬ (48 ≤ t T ∧ t T ≤ 57) := fun q => h2 (sgnD hTe q.1 q.2)
    by_cases h3 : t T = 44
    · have hs : sgn t e T = 3 := by unfold sgn; rw [if_neg (by omega), if_neg hl, if_neg hd, if_pos h3]
      have hn := nx34 hT (Or.inl rfl) hs
      have h3 : nI (t T) = 44 := by rw [h3]; rfl
      refine g_aload_n C dX10_next_26 rfl ?_
      refine g_aload_n C dX10_next_27 rfl ?_
      refine g_getIv (ci := 10) (k := 17) (v := nI (T)) C dX10_next_28 rfl inGX10 (by decide) fwX10_133 ly_103 (by decide) rfl mx_17 ?_
      refine g_putI (ci := 10) (k := 19) .int C dX10_next_31 rfl inGX10 tyX10_ok nmX10 (by decide) fwX10_114 ly_103 (by decide) rfl rfl rfl rfl rfl ?_
      rw [mx_u19]
      refine g_aload_n C dX10_next_34 rfl ?_
      refine g_iconst (v := 0) C dX10_next_35 (by decide) ?_
      refine g_putI (ci := 10) (k := 18) .int C dX10_next_36 rfl inGX10 tyX10_ok nmX10 (by decide) fwX10_139 ly_103 (by decide) rfl rfl rfl rfl rfl ?_
      rw [mx_u18]
      refine g_aload_n C dX10_next_39 rfl ?_
      refine g_iconst (v := 0) C dX10_next_40 (by decide) ?_
      refine g_putI (ci := 10) (k := 20) .int C dX10_next_41 rfl inGX10 tyX10_ok nmX10 (by decide) fwX10_142 ly_103 (by decide) rfl rfl rfl rfl rfl ?_
      rw [mx_u20]
      refine g_aload_n C dX10_next_44 rfl ?_
      refine g_aload_n C dX10_next_45 rfl ?_
      refine g_getIv (ci := 10) (k := 17) (v := nI (T)) C dX10_next_46 rfl inGX10 (by decide) fwX10_133 ly_103 (by decide) rfl mx_17 ?_
      refine gv1I (ci := 10) C dX10_next_49 vwX10_byteAt mwX10_136 ⟨by decide, by decide⟩ rfl ly_103 (Nat.le_of_ble_eq_true rfl) (s_byteAt (t := t) (e := e) (k := T) (mx_by hB) ((mx_103 (Or.inl (by decide))).trans he) he3 (by omega)) (Nat.le_of_ble_eq_true rfl) rfl ⟨by decide, by decide⟩ ?_
      rw [bA_in hTe, h3]
      refine g_istore_1 C dX10_next_52 (by decide) ?_
      refine g_iconst (v := 0) C dX10_next_53 (by decide) ?_
      refine g_istore_2 C dX10_next_54 (by decide) ?_
      refine g_iload_n C dX10_next_55 rfl ?_
      refine g_iconst (v := (-1)) C dX10_next_56 (by decide) ?_
      refine g_icmp_ne 68 C dX10_next_57 (by decide) (fun c57 => ?_) (fun c57 => ?_)
      · refine g_iload_n C dX10_next_68 rfl ?_
        refine gs1I C dX10_next_69 swX10_isLetter mwX10_145 ⟨by decide, by decide⟩ (s_isLetter _) (Nat.le_of_ble_eq_true rfl) rfl ⟨by decide, by decide⟩ ?_
        rw [if_neg (by decide)]
        refine g_if_eq 157 C dX10_next_72 (by decide) (fun c72 => ?_) (fun c72 => ?_)
        · refine g_iload_n C dX10_next_157 rfl ?_
          refine gs1I C dX10_next_158 swX10_isDigit mwX10_152 ⟨by decide, by decide⟩ (s_isDigit _) (Nat.le_of_ble_eq_true rfl) rfl ⟨by decide, by decide⟩ ?_
          rw [if_neg (by decide)]
          refine g_if_eq 240 C dX10_next_161 (by decide) (fun c161 => ?_) (fun c161 => ?_)
          · refine g_iload_n C dX10_next_240 rfl ?_
            refine g_bipush (v := 44) C dX10_next_241 (by decide) ?_
            refine g_icmp_eq 252 C dX10_next_243 (by decide) (fun c243 => ?_) (fun c243 => ?_)
            · refine g_aload_n C dX10_next_252 rfl ?_
              refine g_iconst (v := 4) C dX10_next_253 (by decide) ?_
              refine g_putI (ci := 10) (k := 18) .int C dX10_next_254 rfl inGX10 tyX10_ok nmX10 (by decide) fwX10_139 ly_103 (by decide) rfl rfl rfl rfl rfl ?_
              rw [mx_u18]
              refine g_aload_n C dX10_next_257 rfl ?_
              refine g_iload_n C dX10_next_258 rfl ?_
              refine g_putI (ci := 10) (k := 20) .int C dX10_next_259 rfl inGX10 tyX10_ok nmX10 (by decide) fwX10_142 ly_103 (by decide) rfl rfl rfl rfl rfl ?_
              rw [mx_u20]
              refine g_aload_n C dX10_next_262 rfl ?_
              refine g_dup C dX10_next_263 rfl ?_
              refine g_getIv (ci := 10) (k := 17) (v := nI (T)) C dX10_next_264 rfl inGX10 (by decide) fwX10_133 ly_103 (by decide) rfl mx_17 ?_
              refine g_iconst (v := 1) C dX10_next_267 (by decide) ?_
              refine g_iadd C dX10_next_268 ?_
              rw [nI_1]
              refine g_putI (ci := 10) (k := 17) .int C dX10_next_269 rfl inGX10 tyX10_ok nmX10 (by decide) fwX10_133 ly_103 (by decide) rfl rfl rfl rfl rfl ?_
              rw [mx_u17]
              exact g_vret C dX10_next_272 rfl rfl rfl (nxR_of (x := J 103 22) (upJ_self _ _ _).symm (by rw [hn.1]) (by rw [hn.2]; rfl) (by rw [hT]) (by rw [hn.2]; rfl) ⟨fun q => absurd (hn.2.symm.trans q) (by decide), fun q => absurd (hn.2.symm.trans q) (by decide)⟩)
            · first | exact absurd c243 (by decide) | exact absurd (by decide) c243 | exact absurd rfl c243
          · first | exact absurd c161 (by decide) | exact absurd (by decide) c161 | exact absurd rfl c161
        · first | exact absurd c72 (by decide) | exact absurd (by decide) c72 | exact absurd rfl c72
      · exact absurd c57 (by decide)
    by_cases h4 : t T = 59
    · have hs : sgn t e T = 4 := by unfold sgn; rw [if_neg (by omega), if_neg hl, if_neg hd, if_neg h3, if_pos h4]
      have hn := nx34 hT (Or.inr rfl) hs
      have h3 : nI (t T) = 59 := by rw [h4]; rfl
      refine g_aload_n C dX10_next_26 rfl ?_
      refine g_aload_n C dX10_next_27 rfl ?_
      refine g_getIv (ci := 10) (k := 17) (v := nI (T)) C dX10_next_28 rfl inGX10 (by decide) fwX10_133 ly_103 (by decide) rfl mx_17 ?_
      refine g_putI (ci := 10) (k := 19) .int C dX10_next_31 rfl inGX10 tyX10_ok nmX10 (by decide) fwX10_114 ly_103 (by decide) rfl rfl rfl rfl rfl ?_
      rw [mx_u19]
      refine g_aload_n C dX10_next_34 rfl ?_
      refine g_iconst (v := 0) C dX10_next_35 (by decide) ?_
      refine g_putI (ci := 10) (k := 18) .int C dX10_next_36 rfl inGX10 tyX10_ok nmX10 (by decide) fwX10_139 ly_103 (by decide) rfl rfl rfl rfl rfl ?_
      rw [mx_u18]
      refine g_aload_n C dX10_next_39 rfl ?_
      refine g_iconst (v := 0) C dX10_next_40 (by decide) ?_
      refine g_putI (ci := 10) (k := 20) .int C dX10_next_41 rfl inGX10 tyX10_ok nmX10 (by decide) fwX10_142 ly_103 (by decide) rfl rfl rfl rfl rfl ?_
      rw [mx_u20]
      refine g_aload_n C dX10_next_44 rfl ?_
      refine g_aload_n C dX10_next_45 rfl ?_
      refine g_getIv (ci := 10) (k := 17) (v := nI (T)) C dX10_next_46 rfl inGX10 (by decide) fwX10_133 ly_103 (by decide) rfl mx_17 ?_
      refine gv1I (ci := 10) C dX10_next_49 vwX10_byteAt mwX10_136 ⟨by decide, by decide⟩ rfl ly_103 (Nat.le_of_ble_eq_true rfl) (s_byteAt (t := t) (e := e) (k := T) (mx_by hB) ((mx_103 (Or.inl (by decide))).trans he) he3 (by omega)) (Nat.le_of_ble_eq_true rfl) rfl ⟨by decide, by decide⟩ ?_
      rw [bA_in hTe, h3]
      refine g_istore_1 C dX10_next_52 (by decide) ?_
      refine g_iconst (v := 0) C dX10_next_53 (by decide) ?_
      refine g_istore_2 C dX10_next_54 (by decide) ?_
      refine g_iload_n C dX10_next_55 rfl ?_
      refine g_iconst (v := (-1)) C dX10_next_56 (by decide) ?_
      refine g_icmp_ne 68 C dX10_next_57 (by decide) (fun c57 => ?_) (fun c57 => ?_)
      · refine g_iload_n C dX10_next_68 rfl ?_
        refine gs1I C dX10_next_69 swX10_isLetter mwX10_145 ⟨by decide, by decide⟩ (s_isLetter _) (Nat.le_of_ble_eq_true rfl) rfl ⟨by decide, by decide⟩ ?_
        rw [if_neg (by decide)]
        refine g_if_eq 157 C dX10_next_72 (by decide) (fun c72 => ?_) (fun c72 => ?_)
        · refine g_iload_n C dX10_next_157 rfl ?_
          refine gs1I C dX10_next_158 swX10_isDigit mwX10_152 ⟨by decide, by decide⟩ (s_isDigit _) (Nat.le_of_ble_eq_true rfl) rfl ⟨by decide, by decide⟩ ?_
          rw [if_neg (by decide)]
          refine g_if_eq 240 C dX10_next_161 (by decide) (fun c161 => ?_) (fun c161 => ?_)
          · refine g_iload_n C dX10_next_240 rfl ?_
            refine g_bipush (v := 44) C dX10_next_241 (by decide) ?_
            refine g_icmp_eq 252 C dX10_next_243 (by decide) (fun c243 => ?_) (fun c243 => ?_)
            · first | exact absurd c243 (by decide) | exact absurd (by decide) c243 | exact absurd rfl c243
            · refine g_iload_n C dX10_next_246 rfl ?_
              refine g_bipush (v := 59) C dX10_next_247 (by decide) ?_
              refine g_icmp_ne 272 C dX10_next_249 (by decide) (fun c249 => ?_) (fun c249 => ?_)
              · first | exact absurd c249 (by decide) | exact absurd (by decide) c249 | exact absurd rfl c249
              · refine g_aload_n C dX10_next_252 rfl ?_
                refine g_iconst (v := 4) C dX10_next_253 (by decide) ?_
                refine g_putI (ci := 10) (k := 18) .int C dX10_next_254 rfl inGX10 tyX10_ok nmX10 (by decide) fwX10_139 ly_103 (by decide) rfl rfl rfl rfl rfl ?_
                rw [mx_u18]
                refine g_aload_n C dX10_next_257 rfl ?_
                refine g_iload_n C dX10_next_258 rfl ?_
                refine g_putI (ci := 10) (k := 20) .int C dX10_next_259 rfl inGX10 tyX10_ok nmX10 (by decide) fwX10_142 ly_103 (by decide) rfl rfl rfl rfl rfl ?_
                rw [mx_u20]
                refine g_aload_n C dX10_next_262 rfl ?_
                refine g_dup C dX10_next_263 rfl ?_
                refine g_getIv (ci := 10) (k := 17) (v := nI (T)) C dX10_next_264 rfl inGX10 (by decide) fwX10_133 ly_103 (by decide) rfl mx_17 ?_
                refine g_iconst (v := 1) C dX10_next_267 (by decide) ?_
                refine g_iadd C dX10_next_268 ?_
                rw [nI_1]
                refine g_putI (ci := 10) (k := 17) .int C dX10_next_269 rfl inGX10 tyX10_ok nmX10 (by decide) fwX10_133 ly_103 (by decide) rfl rfl rfl rfl rfl ?_
                rw [mx_u17]
                exact g_vret C dX10_next_272 rfl rfl rfl (nxR_of (x := J 103 22) (upJ_self _ _ _).symm (by rw [hn.1]) (by rw [hn.2]; rfl) (by rw [hT]) (by rw [hn.2]; rfl) ⟨fun q => absurd (hn.2.symm.trans q) (by decide), fun q => absurd (hn.2.symm.trans q) (by decide)⟩)
          · first | exact absurd c161 (by decide) | exact absurd (by decide) c161 | exact absurd rfl c161
        · first | exact absurd c72 (by decide) | exact absurd (by decide) c72 | exact absurd rfl c72
      · exact absurd c57 (by decide)
    have hs : sgn t e T = 5 := by unfold sgn; rw [if_neg (by omega), if_neg hl, if_neg hd, if_neg h3, if_neg h4]
    have hn := nx5 hT hs
    refine g_aload_n C dX10_next_26 rfl ?_
    refine g_aload_n C dX10_next_27 rfl ?_
    refine g_getIv (ci := 10) (k := 17) (v := nI (T)) C dX10_next_28 rfl inGX10 (by decide) fwX10_133 ly_103 (by decide) rfl mx_17 ?_
    refine g_putI (ci := 10) (k := 19) .int C dX10_next_31 rfl inGX10 tyX10_ok nmX10 (by decide) fwX10_114 ly_103 (by decide) rfl rfl rfl rfl rfl ?_
    rw [mx_u19]
    refine g_aload_n C dX10_next_34 rfl ?_
    refine g_iconst (v := 0) C dX10_next_35 (by decide) ?_
    refine g_putI (ci := 10) (k := 18) .int C dX10_next_36 rfl inGX10 tyX10_ok nmX10 (by decide) fwX10_139 ly_103 (by decide) rfl rfl rfl rfl rfl ?_
    rw [mx_u18]
    refine g_aload_n C dX10_next_39 rfl ?_
    refine g_iconst (v := 0) C dX10_next_40 (by decide) ?_
    refine g_putI (ci := 10) (k := 20) .int C dX10_next_41 rfl inGX10 tyX10_ok nmX10 (by decide) fwX10_142 ly_103 (by decide) rfl rfl rfl rfl rfl ?_
    rw [mx_u20]
    refine g_aload_n C dX10_next_44 rfl ?_
    refine g_aload_n C dX10_next_45 rfl ?_
    refine g_getIv (ci := 10) (k := 17) (v := nI (T)) C dX10_next_46 rfl inGX10 (by decide) fwX10_133 ly_103 (by decide) rfl mx_17 ?_
    refine gv1I (ci := 10) C dX10_next_49 vwX10_byteAt mwX10_136 ⟨by decide, by decide⟩ rfl ly_103 (Nat.le_of_ble_eq_true rfl) (s_byteAt (t := t) (e := e) (k := T) (mx_by hB) ((mx_103 (Or.inl (by decide))).trans he) he3 (by omega)) (Nat.le_of_ble_eq_true rfl) rfl ⟨by decide, by decide⟩ ?_
    rw [bA_in hTe]
    refine g_istore_1 C dX10_next_52 (by decide) ?_
    refine g_iconst (v := 0) C dX10_next_53 (by decide) ?_
    refine g_istore_2 C dX10_next_54 (by decide) ?_
    refine g_iload_n C dX10_next_55 rfl ?_
    refine g_iconst (v := (-1)) C dX10_next_56 (by decide) ?_
    refine g_icmp_ne 68 C dX10_next_57 (by decide) (fun c57 => ?_) (fun c57 => ?_)
    · refine g_iload_n C dX10_next_68 rfl ?_
      refine gs1I C dX10_next_69 swX10_isLetter mwX10_145 ⟨by decide, by decide⟩ (s_isLetter _) (Nat.le_of_ble_eq_true rfl) rfl ⟨by decide, by decide⟩ ?_
      rw [← bA_in hTe, isL ht he3, bA_in hTe]
      rw [if_neg h1]
      refine g_if_eq 157 C dX10_next_72 (by decide) (fun c72 => ?_) (fun c72 => ?_)
      · refine g_iload_n C dX10_next_157 rfl ?_
        refine gs1I C dX10_next_158 swX10_isDigit mwX10_152 ⟨by decide, by decide⟩ (s_isDigit _) (Nat.le_of_ble_eq_true rfl) rfl ⟨by decide, by decide⟩ ?_
        rw [← bA_in hTe, isDg ht he3, bA_in hTe]
        rw [if_neg h2]
        refine g_if_eq 240 C dX10_next_161 (by decide) (fun c161 => ?_) (fun c161 => ?_)
        · refine g_iload_n C dX10_next_240 rfl ?_
          refine g_bipush (v := 44) C dX10_next_241 (by decide) ?_
          refine g_icmp_eq 252 C dX10_next_243 (by decide) (fun c243 => ?_) (fun c243 => ?_)
          · exact absurd ((nI_eq (b := 44) (by omega) (by decide)).mp c243) h3
          · refine g_iload_n C dX10_next_246 rfl ?_
            refine g_bipush (v := 59) C dX10_next_247 (by decide) ?_
            refine g_icmp_ne 272 C dX10_next_249 (by decide) (fun c249 => ?_) (fun c249 => ?_)
            · exact g_vret C dX10_next_272 rfl rfl rfl (nxR_of (x := J 103 22) (upJ_self _ _ _).symm (by rw [hn.1]) (by rw [hn.2]; rfl) (by rw [hT]) (by rw [hn.2]; rfl) ⟨fun q => absurd (hn.2.symm.trans q) (by decide), fun q => absurd (hn.2.symm.trans q) (by decide)⟩)
            · exact absurd ((nI_eq (b := 59) (by omega) (by decide)).mp c249) h4
        · first | exact absurd c161 (by decide) | exact absurd (by decide) c161 | exact absurd rfl c161
      · first | exact absurd c72 (by decide) | exact absurd (by decide) c72 | exact absurd rfl c72
    · exact absurd c57 (nI_nm1 (by omega))
  have sk : ∀ (f j : Nat), j + f = e → skp t e f j = skp t e (e - i) i → ∀ a1 a2 : Value, Go X G 3 0 0 (KQ X G iX10_next (nxR D J t e i) noT) 0 [.ref (G.1 + 103), a1, a2] [] (mm (mrX D (nI j) so pl sg v) J) := by
    intro f
    induction f with
    | zero =>
      intro j hj hTj a1 a2
      have hba : bA t e j = -1 := bA_out (by omega)
      have hb32 : ¬ (-1 : Int32) = 32 := by decide
      have hTj : skp t e (e - i) i = j := hTj.symm
      refine g_aload_n C dX10_next_0 rfl ?_
      refine g_aload_n C dX10_next_1 rfl ?_
      refine g_getIv (ci := 10) (k := 17) (v := nI (j)) C dX10_next_2 rfl inGX10 (by decide) fwX10_133 ly_103 (by decide) rfl mx_17 ?_
      refine gv1I (ci := 10) C dX10_next_5 vwX10_byteAt mwX10_136 ⟨by decide, by decide⟩ rfl ly_103 (Nat.le_of_ble_eq_true rfl) (s_byteAt (t := t) (e := e) (k := j) (mx_by hB) ((mx_103 (Or.inl (by decide))).trans he) he3 (by omega)) (Nat.le_of_ble_eq_true rfl) rfl ⟨by decide, by decide⟩ ?_
      rw [hba]
      refine g_bipush (v := 32) C dX10_next_8 (by decide) ?_
      refine g_icmp_ne 26 C dX10_next_10 (by decide) (fun c10 => ?_) (fun c10 => ?_)
      · exact aft _ _ _ _ _ hTj
      · exact absurd c10 hb32
    | succ f ih =>
      intro j hj hTj a1 a2
      by_cases h32 : t j = 32
      · have hba : bA t e j = 32 := by rw [bA_in (by omega), h32]; rfl
        refine g_aload_n C dX10_next_0 rfl ?_
        refine g_aload_n C dX10_next_1 rfl ?_
        refine g_getIv (ci := 10) (k := 17) (v := nI (j)) C dX10_next_2 rfl inGX10 (by decide) fwX10_133 ly_103 (by decide) rfl mx_17 ?_
        refine gv1I (ci := 10) C dX10_next_5 vwX10_byteAt mwX10_136 ⟨by decide, by decide⟩ rfl ly_103 (Nat.le_of_ble_eq_true rfl) (s_byteAt (t := t) (e := e) (k := j) (mx_by hB) ((mx_103 (Or.inl (by decide))).trans he) he3 (by omega)) (Nat.le_of_ble_eq_true rfl) rfl ⟨by decide, by decide⟩ ?_
        rw [hba]
        refine g_bipush (v := 32) C dX10_next_8 (by decide) ?_
        refine g_icmp_ne 26 C dX10_next_10 (by decide) (fun c10 => ?_) (fun c10 => ?_)
        · exact absurd rfl c10
        · refine g_aload_n C dX10_next_13 rfl ?_
          refine g_dup C dX10_next_14 rfl ?_
          refine g_getIv (ci := 10) (k := 17) (v := nI (j)) C dX10_next_15 rfl inGX10 (by decide) fwX10_133 ly_103 (by decide) rfl mx_17 ?_
          refine g_iconst (v := 1) C dX10_next_18 (by decide) ?_
          refine g_iadd C dX10_next_19 ?_
          rw [nI_1]
          refine g_putI (ci := 10) (k := 17) .int C dX10_next_20 rfl inGX10 tyX10_ok nmX10 (by decide) fwX10_133 ly_103 (by decide) rfl rfl rfl rfl rfl ?_
          refine g_goto 0 C dX10_next_23 (by decide) ?_
          rw [mx_u17]
          exact ih (j + 1) (by omega) (by rw [← hTj, skp, if_pos h32]) _ _
      · have hb32 : ¬ nI (t j) = 32 := fun q => h32 ((nI_eq (b := 32) (by have := ht j (by omega); omega) (by decide)).mp q)
        have hba : bA t e j = nI (t j) := bA_in (by omega)
        have hTj : skp t e (e - i) i = j := by rw [← hTj, skp, if_neg h32]
        refine g_aload_n C dX10_next_0 rfl ?_
        refine g_aload_n C dX10_next_1 rfl ?_
        refine g_getIv (ci := 10) (k := 17) (v := nI (j)) C dX10_next_2 rfl inGX10 (by decide) fwX10_133 ly_103 (by decide) rfl mx_17 ?_
        refine gv1I (ci := 10) C dX10_next_5 vwX10_byteAt mwX10_136 ⟨by decide, by decide⟩ rfl ly_103 (Nat.le_of_ble_eq_true rfl) (s_byteAt (t := t) (e := e) (k := j) (mx_by hB) ((mx_103 (Or.inl (by decide))).trans he) he3 (by omega)) (Nat.le_of_ble_eq_true rfl) rfl ⟨by decide, by decide⟩ ?_
        rw [hba]
        refine g_bipush (v := 32) C dX10_next_8 (by decide) ?_
        refine g_icmp_ne 26 C dX10_next_10 (by decide) (fun c10 => ?_) (fun c10 => ?_)
        · exact aft _ _ _ _ _ hTj
        · exact absurd c10 hb32
  exact sk (e - i) i (by omega) rfl _ _
