theorem cn_nI {a : Nat} (h : a < 2 ^ 31) : cn (nI a) = a := nI_clamp h
/-- a line of a part in the class's rows -/
def LnOK (I : Nat → Nat → Int32) (p k : Nat) : Prop := ∃ kd nu f : Nat, I (6 + 6 * p + 1 + 0) k = nI kd ∧ kd ≤ 5 ∧ I (6 + 6 * p + 1 + 1) k = nI nu ∧ nu < 16 ∧ I (6 + 6 * p + 1 + 2) k = nI f ∧ f < 8 ∧ (kd = 2 → nu < 10 ∧ ∃ s : Nat, I (6 + 6 * p + 1 + 3) k = nI s ∧ s < 8)
def ntS (I : Nat → Nat → Int32) (p k : Nat) (A : Nat → Nat → Int32) : Nat → Nat → Int32 := ntF A p k (cn (I (6 + 6 * p + 1 + 0) k)) (cn (I (6 + 6 * p + 1 + 1) k)) (cn (I (6 + 6 * p + 1 + 2) k)) (cn (I (6 + 6 * p + 1 + 3) k)) (I (6 + 6 * p + 1 + 4) k)
theorem s_noteS {l : Launch} {G : Gm} {I A : Nat → Nat → Int32} {J : Nat → Nat → Int64} {p k : Nat} (hp : p < 10) (hk : k < 12) (h : LnOK I p k) (hA : ∀ q, q < 73 → A q = I q) (hlk : lkOK A) : Sp l G iX1_note [.ref (G.1 + 73), .int (nI p), .int (nI k)] (mm A J) (RetV (mm (ntS I p k A) J)) noT := by
  obtain ⟨kd, nu, f, e1, b1, e2, b2, e3, b3, e4⟩ := h
  unfold ntS
  rw [e1, e2, e3, cn_nI (show kd < 2 ^ 31 by omega), cn_nI (show nu < 2 ^ 31 by omega), cn_nI (show f < 2 ^ 31 by omega)]
  refine s_note hp hk hlk (by rw [hA _ (by omega)]; exact e1) b1 (by rw [hA _ (by omega)]; exact e2) (by rw [hA _ (by omega)]; exact e3) b3 ?_ (by rw [hA _ (by omega)])
  intro h2
  obtain ⟨-, s, e5, b5⟩ := e4 h2
  rw [hA _ (by omega), e5, cn_nI (by omega)]
theorem lksOK.ok {I : Nat → Nat → Int32} {c : Nat} (h : lksOK I c) : lkOK I := ⟨c, h.1, h.2.1⟩
theorem lkN_oks {I : Nat → Nat → Int32} {c a b : Nat} {s : Int32} (h : lksOK I c) (ha : a < 250) (hb : b < 250) : ∃ c', lksOK (lkN I (nI a) (nI b) s) c' := by
  obtain ⟨h1, h2, h3⟩ := h
  unfold lkN
  by_cases hc : I 73 9 < 480
  · rw [if_pos hc]
    rw [h1] at hc ⊢
    have h4 := nI_t (b := 480) hc (by omega) (by decide)
    rw [cn_nI (show c < 2 ^ 31 by omega)]
    refine ⟨c + 1, by simp [up1], by omega, fun i hi => ?_⟩
    by_cases e : i = c
    · subst e
      exact ⟨⟨a, by simp [up1], ha⟩, b, by simp [up1], hb⟩
    · obtain ⟨⟨a', q1, q2⟩, b', q3, q4⟩ := h3 i (by omega)
      exact ⟨⟨a', by simp [up1, e, q1], q2⟩, b', by simp [up1, e, q3], q4⟩
  · rw [if_neg hc]
    exact ⟨c, h1, h2, h3⟩
theorem lksOK_up {I : Nat → Nat → Int32} {o k c : Nat} {v : Int32} (h : lksOK I c) (ho : o ≠ 73 ∧ o ≠ 78 ∧ o ≠ 79) : lksOK (up1 I o k v) c := by
  obtain ⟨h1, h2, h3⟩ := h
  refine ⟨by rw [up1_off (fun e => ho.1 e.symm)]; exact h1, h2, fun i hi => ?_⟩
  rw [up1_off (fun e => ho.2.1 e.symm), up1_off (fun e => ho.2.2 e.symm)]
  exact h3 i hi
theorem ntl_oks {I : Nat → Nat → Int32} {p k f c : Nat} {src : Int32} (h : lksOK I c) (hp : p < 10) (hf : f < 8) : ∀ j, j ≤ 8 → ∃ c', lksOK (it (ntl I p k f src) j I) c'
  | 0, _ => ⟨c, h⟩
  | j + 1, hj => by
    obtain ⟨c', h'⟩ := ntl_oks h hp hf j (by omega)
    simp only [it, ntl]
    split
    · exact ⟨c', h'⟩
    · exact lkN_oks h' (by omega) (by omega)
theorem ntF_oks {I : Nat → Nat → Int32} {p k kd nu f s c : Nat} {src : Int32} (h : lksOK I c) (hp : p < 10) (hf : f < 8) (hnu : nu < 16) (h2 : kd = 2 → nu < 10 ∧ s < 8) : ∃ c', lksOK (ntF I p k kd nu f s src) c' := by
  unfold ntF
  split
  · exact ⟨c, lksOK_up h (by decide)⟩
  split
  · exact ntl_oks h hp hf 8 (Nat.le_refl 8)
  split
  · next e =>
    have := h2 e
    obtain ⟨c', h'⟩ := lkN_oks (a := 25 * p + f) (b := 25 * nu + 0) (s := nI (100 * p + k)) h (by omega) (by omega)
    exact lkN_oks h' (by omega) (by omega)
  split
  · exact lkN_oks (lksOK_up h (by decide)) (by omega) (by omega)
  split
  · exact ⟨c, lksOK_up h (by decide)⟩
  · exact lkN_oks h (by omega) (by omega)
theorem ntS_oks {I A : Nat → Nat → Int32} {p k c : Nat} (h : lksOK A c) (hp : p < 10) (hl : LnOK I p k) : ∃ c', lksOK (ntS I p k A) c' := by
  obtain ⟨kd, nu, f, e1, b1, e2, b2, e3, b3, e4⟩ := hl
  unfold ntS
  rw [e1, e2, e3, cn_nI (show kd < 2 ^ 31 by omega), cn_nI (show nu < 2 ^ 31 by omega), cn_nI (show f < 2 ^ 31 by omega)]
  refine ntF_oks h hp b3 b2 (fun h2 => ?_)
  obtain ⟨q, s, e5, b5⟩ := e4 h2
  rw [e5, cn_nI (by omega)]
  exact ⟨q, b5⟩
theorem lkN_live {I : Nat → Nat → Int32} {a b s : Int32} : lkN I a b s 73 10 = I 73 10 := by
  unfold lkN
  split
  · simp [up1]
  · rfl
theorem ntl_live {I : Nat → Nat → Int32} {p k f : Nat} {src : Int32} : ∀ j, it (ntl I p k f src) j I 73 10 = I 73 10
  | 0 => rfl
  | j + 1 => by
    simp only [it, ntl]
    split
    · exact ntl_live j
    · rw [lkN_live]; exact ntl_live j
theorem ntF_live {I : Nat → Nat → Int32} {p k kd nu f s : Nat} {src : Int32} : ntF I p k kd nu f s src 73 10 = I 73 10 := by
  unfold ntF
  split
  · simp [up1]
  split
  · exact ntl_live 8
  split
  · rw [lkN_live, lkN_live]
  split
  · rw [lkN_live]; simp [up1]
  split
  · simp [up1]
  · exact lkN_live
/-- the lines of an asked part are noted -/
def trP (I : Nat → Nat → Int32) (ln : Nat → Nat) (p : Nat) (A : Nat → Nat → Int32) : Nat → Nat → Int32 := if hb (A 73 10) (nI p) = 0 then A else it (ntS I p) (ln p) A
def trA (I : Nat → Nat → Int32) (n : Nat) (ln : Nat → Nat) : Nat → Nat → Int32 := flRow (flRow (flRow (up1 (fLive I n ln) 73 9 0) 75 10 0) 76 10 0) 77 250 0
def trN (I : Nat → Nat → Int32) (n : Nat) (ln : Nat → Nat) : Nat → (Nat → Nat → Int32) := fun j => it (trP I ln) j (trA I n ln)
def trS (ln : Nat → Nat) (o : Nat) (A : Nat → Nat → Int32) : Nat → Nat → Int32 := sprF A o (ln o) (cn (A 73 9))
def trF (I : Nat → Nat → Int32) (n : Nat) (ln : Nat → Nat) : Nat → Nat → Int32 := it (trS ln) n (trN I n ln n)
def shOK (I : Nat → Nat → Int32) (ln : Nat → Nat) : Prop := (∀ p, p < 10 → I (6 + 6 * p) 5 = nI (ln p) ∧ ln p ≤ 12) ∧ ∀ p, p < 10 → ∀ k, k < ln p → LnOK I p k
/-- what holds of the memory on the way -/
def trI (I A : Nat → Nat → Int32) : Prop := (∀ q, q < 73 → A q = I q) ∧ ∃ c, lksOK A c
theorem fLive_off {I : Nat → Nat → Int32} {n : Nat} {ln : Nat → Nat} {q : Nat} (h : q < 73) : fLive I n ln q = I q := by
  unfold fLive
  rw [up1_off (by omega), stRow_off (by omega)]
theorem trI_A (I : Nat → Nat → Int32) (n : Nat) (ln : Nat → Nat) : trI I (trA I n ln) := by
  refine ⟨fun q hq => ?_, 0, ?_, by decide, fun i hi => absurd hi (Nat.not_lt_zero i)⟩
  · unfold trA
    rw [flRow_st, stRow_off (by omega), flRow_st, stRow_off (by omega), flRow_st, stRow_off (by omega), up1_off (by omega), fLive_off hq]
  · unfold trA
    rw [flRow_st, stRow_off (by omega), flRow_st, stRow_off (by omega), flRow_st, stRow_off (by omega), up1_same]
    rfl
theorem trI_S {I A : Nat → Nat → Int32} {p k : Nat} (h : trI I A) (hp : p < 10) (hl : LnOK I p k) : trI I (ntS I p k A) := by
  obtain ⟨h1, c, h2⟩ := h
  exact ⟨fun q hq => by unfold ntS; rw [ntF_off (Or.inl hq)]; exact h1 q hq, ntS_oks h2 hp hl⟩
theorem trI_L {I A : Nat → Nat → Int32} {p : Nat} {ln : Nat → Nat} (h : trI I A) (hs : shOK I ln) (hp : p < 10) : ∀ j, j ≤ ln p → trI I (it (ntS I p) j A)
  | 0, _ => h
  | j + 1, hj => trI_S (trI_L h hs hp j (by omega)) hp (hs.2 p hp j (by omega))
theorem trI_P {I A : Nat → Nat → Int32} {p : Nat} {ln : Nat → Nat} (h : trI I A) (hs : shOK I ln) (hp : p < 10) : trI I (trP I ln p A) := by
  unfold trP
  split
  · exact h
  · exact trI_L h hs hp _ (Nat.le_refl _)
theorem trI_N {I : Nat → Nat → Int32} {n : Nat} {ln : Nat → Nat} (hs : shOK I ln) : ∀ j, j ≤ 10 → trI I (trN I n ln j)
  | 0, _ => trI_A I n ln
  | j + 1, hj => trI_P (trI_N hs j (by omega)) hs (by omega)
theorem trI_R {I A : Nat → Nat → Int32} {ln : Nat → Nat} {o : Nat} (h : trI I A) : trI I (trS ln o A) := by
  obtain ⟨h1, c, e1, e2, e3⟩ := h
  refine ⟨fun q hq => ?_, c, ?_, e2, ?_⟩
  · unfold trS sprF; rw [stRow_off (by omega)]; exact h1 q hq
  · unfold trS sprF; rw [stRow_off (by omega)]; exact e1
  · unfold trS sprF; rw [stRow_off (show 78 ≠ 82 + o by omega), stRow_off (show 79 ≠ 82 + o by omega)]; exact e3
theorem trI_T {I A : Nat → Nat → Int32} {ln : Nat → Nat} (h : trI I A) : ∀ j, trI I (it (trS ln) j A)
  | 0 => h
  | j + 1 => trI_R (trI_T h j)
theorem s_spreadS {l : Launch} {G : Gm} {I A : Nat → Nat → Int32} {J : Nat → Nat → Int64} {o : Nat} {ln : Nat → Nat} (ho : o < 10) (hs : shOK I ln) (h : trI I A) : Sp l G iX1_spread [.ref (G.1 + 73), .int (nI o)] (mm A J) (RetV (mm (trS ln o A) J)) noT := by
  obtain ⟨h1, c, h2⟩ := h
  unfold trS
  rw [h2.1, cn_nI (by have := h2.2.1; omega)]
  refine s_spread ho (by rw [h1 _ (by omega)]; exact (hs.1 o ho).1) (hs.1 o ho).2 (fun k hk => ?_) h2
  obtain ⟨kd, nu, f, e1, b1, e2, b2, e3, b3, e4⟩ := hs.2 o ho k hk
  exact ⟨f, by rw [h1 _ (by omega)]; exact e3, b3⟩
set_option maxHeartbeats 1000000 in
theorem s_trace {l : Launch} {G : Gm} {I : Nat → Nat → Int32} {J : Nat → Nat → Int64} {n : Nat} (hn : I 3 2 = nI n) (hn10 : n ≤ 10) {ln : Nat → Nat} (hs : shOK I ln) : Sp l G iX1_trace [.ref (G.1 + 73)] (mm I J) (RetV (mm (trF I n ln) J)) noT := by
  refine Sp.of (by decide +kernel) (Nat.le_of_ble_eq_true rfl) ?_
  intro X hXl C
  subst hXl
  show Go X G 4 0 0 _ 0 [.ref (G.1 + 73), uu, uu, uu] [] (mm I J)
  have lp2 : ∀ o : Nat, o ≤ n → ∀ a2 a3 : Value, Go X G 4 0 0 (KQ X G iX1_trace (RetV (mm (trF I n ln) J)) noT) 98 [.ref (G.1 + 73), .int (nI o), a2, a3] [] (mm (it (trS ln) o (trN I n ln n)) J) := by
    refine loopN (n) ?_ ?_
    · intro a2 a3
      show Go X G 4 0 0 _ 98 _ [] _
      refine g_iload_n C dX1_trace_98 rfl ?_
      refine g_aload_n C dX1_trace_99 rfl ?_
      refine g_getR (ci := 1) (k := 0) (q := 3) C dX1_trace_100 rfl inGX1 (by decide) fwX1_38 ly_73 (by decide) rfl rfl ?_
      refine g_getIv (ci := 2) (k := 2) (v := nI n) C dX1_trace_103 rfl inGX2 (by decide) fwX1_50 ly_3 (by decide) rfl (by rw [(trI_T (trI_N hs n (by omega)) n).1 _ (by omega)]; exact hn) ?_
      refine g_icmp_ge 120 C dX1_trace_106 (by decide) (fun c106 => ?_) (fun c106 => ?_)
      · exact e_V C dX1_trace_120 rfl rfl rfl rfl
      · exact absurd (Int32.le_refl _) c106
    · intro o ho iho a2 a3
      show Go X G 4 0 0 _ 98 _ [] _
      refine g_iload_n C dX1_trace_98 rfl ?_
      refine g_aload_n C dX1_trace_99 rfl ?_
      refine g_getR (ci := 1) (k := 0) (q := 3) C dX1_trace_100 rfl inGX1 (by decide) fwX1_38 ly_73 (by decide) rfl rfl ?_
      refine g_getIv (ci := 2) (k := 2) (v := nI n) C dX1_trace_103 rfl inGX2 (by decide) fwX1_50 ly_3 (by decide) rfl (by rw [(trI_T (trI_N hs n (by omega)) o).1 _ (by omega)]; exact hn) ?_
      refine g_icmp_ge 120 C dX1_trace_106 (by decide) (fun c106 => ?_) (fun c106 => ?_)
      · exact (nI_ge_dead (n := n) c106 ho (by omega)).elim
      · refine g_aload_n C dX1_trace_109 rfl ?_
        refine g_iload_n C dX1_trace_110 rfl ?_
        refine gv1V (ci := 1) C dX1_trace_111 vwX1_spread mwX1_89 ⟨by decide, by decide⟩ rfl ly_73 (Nat.le_of_ble_eq_true rfl) (s_spreadS (show o < 10 by omega) hs (trI_T (trI_N hs n (by omega)) o)) (Nat.le_of_ble_eq_true rfl) rfl ⟨by decide, by decide⟩ ?_
        refine g_iinc_1 C dX1_trace_114 (nI_1 o) (by decide) ?_
        refine g_goto 98 C dX1_trace_117 (by decide) ?_
        exact iho _ _
  have lp1 : ∀ p : Nat, p ≤ n → ∀ a2 a3 : Value, Go X G 4 0 0 (KQ X G iX1_trace (RetV (mm (trF I n ln) J)) noT) 35 [.ref (G.1 + 73), .int (nI p), a2, a3] [] (mm (trN I n ln p) J) := by
    refine loopN (n) ?_ ?_
    · intro a2 a3
      show Go X G 4 0 0 _ 35 _ [] _
      refine g_iload_n C dX1_trace_35 rfl ?_
      refine g_aload_n C dX1_trace_36 rfl ?_
      refine g_getR (ci := 1) (k := 0) (q := 3) C dX1_trace_37 rfl inGX1 (by decide) fwX1_38 ly_73 (by decide) rfl rfl ?_
      refine g_getIv (ci := 2) (k := 2) (v := nI n) C dX1_trace_40 rfl inGX2 (by decide) fwX1_50 ly_3 (by decide) rfl (by rw [(trI_N (n := n) hs n (by omega)).1 _ (by omega)]; exact hn) ?_
      refine g_icmp_ge 96 C dX1_trace_43 (by decide) (fun c43 => ?_) (fun c43 => ?_)
      · refine g_iconst (v := 0) C dX1_trace_96 (by decide) ?_
        refine g_istore_1 C dX1_trace_97 (by decide) ?_
        exact lp2 0 (Nat.zero_le _) _ _
      · exact absurd (Int32.le_refl _) c43
    · intro p hp ihp a2 a3
      show Go X G 4 0 0 _ 35 _ [] _
      refine g_iload_n C dX1_trace_35 rfl ?_
      refine g_aload_n C dX1_trace_36 rfl ?_
      refine g_getR (ci := 1) (k := 0) (q := 3) C dX1_trace_37 rfl inGX1 (by decide) fwX1_38 ly_73 (by decide) rfl rfl ?_
      refine g_getIv (ci := 2) (k := 2) (v := nI n) C dX1_trace_40 rfl inGX2 (by decide) fwX1_50 ly_3 (by decide) rfl (by rw [(trI_N hs p (by omega)).1 _ (by omega)]; exact hn) ?_
      refine g_icmp_ge 96 C dX1_trace_43 (by decide) (fun c43 => ?_) (fun c43 => ?_)
      · exact (nI_ge_dead (n := n) c43 hp (by omega)).elim
      · refine g_aload_n C dX1_trace_46 rfl ?_
        refine g_iload_n C dX1_trace_47 rfl ?_
        refine gv1I (ci := 1) C dX1_trace_48 vwX1_isLive mwX1_55 ⟨by decide, by decide⟩ rfl ly_73 (Nat.le_of_ble_eq_true rfl) (s_isLive _) (Nat.le_of_ble_eq_true rfl) rfl ⟨by decide, by decide⟩ ?_
        refine g_if_eq 69 C dX1_trace_51 (by decide) (fun c51 => ?_) (fun c51 => ?_)
        · refine g_iconst (v := 0) C dX1_trace_69 (by decide) ?_
          refine g_istore_2 C dX1_trace_70 (by decide) ?_
          refine g_iconst (v := 0) C dX1_trace_71 (by decide) ?_
          refine g_istore_3 C dX1_trace_72 (by decide) ?_
          refine g_iload_n C dX1_trace_73 rfl ?_
          refine g_iload_n C dX1_trace_74 rfl ?_
          refine g_icmp_ge 90 C dX1_trace_75 (by decide) (fun c75 => ?_) (fun c75 => ?_)
          · refine g_iinc_1 C dX1_trace_90 (nI_1 p) (by decide) ?_
            refine g_goto 35 C dX1_trace_93 (by decide) ?_
            have h9 : trN I n ln (p + 1) = trN I n ln p := if_pos c51
            rw [h9] at ihp
            exact ihp _ _
          · exact absurd (Int32.le_refl _) c75
        · have inner : ∀ k : Nat, k ≤ ln p → Go X G 4 0 0 (KQ X G iX1_trace (RetV (mm (trF I n ln) J)) noT) 73 [.ref (G.1 + 73), .int (nI p), .int (nI (ln p)), .int (nI k)] [] (mm (it (ntS I p) k (trN I n ln p)) J) := by
            refine loopN (ln p) ?_ ?_
            · skip
              show Go X G 4 0 0 _ 73 _ [] _
              refine g_iload_n C dX1_trace_73 rfl ?_
              refine g_iload_n C dX1_trace_74 rfl ?_
              refine g_icmp_ge 90 C dX1_trace_75 (by decide) (fun c75 => ?_) (fun c75 => ?_)
              · refine g_iinc_1 C dX1_trace_90 (nI_1 p) (by decide) ?_
                refine g_goto 35 C dX1_trace_93 (by decide) ?_
                have h9 : trN I n ln (p + 1) = it (ntS I p) (ln p) (trN I n ln p) := if_neg c51
                rw [h9] at ihp
                exact ihp _ _
              · exact absurd (Int32.le_refl _) c75
            · intro k hk ih 
              show Go X G 4 0 0 _ 73 _ [] _
              refine g_iload_n C dX1_trace_73 rfl ?_
              refine g_iload_n C dX1_trace_74 rfl ?_
              refine g_icmp_ge 90 C dX1_trace_75 (by decide) (fun c75 => ?_) (fun c75 => ?_)
              · exact (nI_ge_dead (n := ln p) c75 hk (by have := (hs.1 p (by omega)).2; omega)).elim
              · refine g_aload_n C dX1_trace_78 rfl ?_
                refine g_iload_n C dX1_trace_79 rfl ?_
                refine g_iload_n C dX1_trace_80 rfl ?_
                refine gv2V (ci := 1) C dX1_trace_81 vwX1_note mwX1_85 ⟨by decide, by decide⟩ rfl ly_73 (Nat.le_of_ble_eq_true rfl) (s_noteS (show p < 10 by omega) (show k < 12 by have := (hs.1 p (by omega)).2; omega) (hs.2 p (by omega) k hk) (trI_L (trI_N hs p (by omega)) hs (by omega) k (by omega)).1 (trI_L (trI_N hs p (by omega)) hs (by omega) k (by omega)).2.choose_spec.ok) (Nat.le_of_ble_eq_true rfl) rfl ⟨by decide, by decide⟩ ?_
                refine g_iinc_3 C dX1_trace_84 (nI_1 k) (by decide) ?_
                refine g_goto 73 C dX1_trace_87 (by decide) ?_
                exact ih
          refine g_aload_n C dX1_trace_54 rfl ?_
          refine g_getR (ci := 1) (k := 0) (q := 3) C dX1_trace_55 rfl inGX1 (by decide) fwX1_38 ly_73 (by decide) rfl rfl ?_
          refine g_getR (ci := 2) (k := 1) (q := 5) C dX1_trace_58 rfl inGX2 (by decide) fwX1_78 ly_3 (by decide) rfl rfl ?_
          refine g_iload_n C dX1_trace_61 rfl ?_
          refine g_aald (q := 6 + 6 * p) p C dX1_trace_62 ly_5 (Or.inl ⟨rfl, rfl⟩) (by decide) (by decide) rfl (show p < 10 by omega) (rf_shs (show p < 10 by omega)) ?_
          refine g_getIv (ci := 5) (k := 5) (v := nI (ln p)) C dX1_trace_63 rfl inGX5 (by decide) fwX1_82 (ly_sh (show p < 10 by omega)) (by omega) rfl (by rw [(trI_N hs p (by omega)).1 _ (by omega)]; exact (hs.1 p (by omega)).1) ?_
          refine g_goto 70 C dX1_trace_66 (by decide) ?_
          refine g_istore_2 C dX1_trace_70 (by decide) ?_
          refine g_iconst (v := 0) C dX1_trace_71 (by decide) ?_
          refine g_istore_3 C dX1_trace_72 (by decide) ?_
          exact inner 0 (Nat.zero_le _)
  refine g_aload_n C dX1_trace_0 rfl ?_
  refine gv0V (ci := 1) C dX1_trace_1 vwX1_findLive mwX1_66 ⟨by decide, by decide⟩ rfl ly_73 (Nat.le_of_ble_eq_true rfl) (s_findLive hn hn10 hs.1) (Nat.le_of_ble_eq_true rfl) rfl ⟨by decide, by decide⟩ ?_
  refine g_aload_n C dX1_trace_4 rfl ?_
  refine g_iconst (v := 0) C dX1_trace_5 (by decide) ?_
  refine g_putI (ci := 1) (k := 9) .int C dX1_trace_6 rfl inGX1 tyX1_ok nmX1 (by decide) fwX1_69 ly_73 (by decide) rfl rfl rfl rfl rfl ?_
  refine g_aload_n C dX1_trace_9 rfl ?_
  refine g_getR (ci := 1) (k := 2) (q := 75) C dX1_trace_10 rfl inGX1 (by decide) fwX1_15 ly_73 (by decide) rfl rfl ?_
  refine g_iconst (v := 0) C dX1_trace_13 (by decide) ?_
  refine gs2V C dX1_trace_14 swJ7_fill_53178 mwX1_72 ⟨by decide, by decide⟩ (s_fill ly_75 (by decide) (by decide) _) (Nat.le_of_ble_eq_true rfl) rfl ⟨by decide, by decide⟩ ?_
  refine g_aload_n C dX1_trace_17 rfl ?_
  refine g_getR (ci := 1) (k := 3) (q := 76) C dX1_trace_18 rfl inGX1 (by decide) fwX1_18 ly_73 (by decide) rfl rfl ?_
  refine g_iconst (v := 0) C dX1_trace_21 (by decide) ?_
  refine gs2V C dX1_trace_22 swJ7_fill_53178 mwX1_72 ⟨by decide, by decide⟩ (s_fill ly_76 (by decide) (by decide) _) (Nat.le_of_ble_eq_true rfl) rfl ⟨by decide, by decide⟩ ?_
  refine g_aload_n C dX1_trace_25 rfl ?_
  refine g_getR (ci := 1) (k := 4) (q := 77) C dX1_trace_26 rfl inGX1 (by decide) fwX1_21 ly_73 (by decide) rfl rfl ?_
  refine g_iconst (v := 0) C dX1_trace_29 (by decide) ?_
  refine gs2V C dX1_trace_30 swJ7_fill_53178 mwX1_72 ⟨by decide, by decide⟩ (s_fill ly_77 (by decide) (by decide) _) (Nat.le_of_ble_eq_true rfl) rfl ⟨by decide, by decide⟩ ?_
  refine g_iconst (v := 0) C dX1_trace_33 (by decide) ?_
  refine g_istore_1 C dX1_trace_34 (by decide) ?_
  exact lp1 0 (Nat.zero_le _) _ _
