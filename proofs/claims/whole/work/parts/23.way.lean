theorem nI_nm1 {a : Nat} (h : a < 2 ^ 31) : ¬ nI a = -1 := by
  intro e
  have h1 := congrArg Int32.toInt e
  rw [nI_toInt h, show ((-1 : Int32)).toInt = -1 by decide] at h1
  omega
theorem flF_in (I : Nat → Nat → Int32) (pl : Nat) (s : Int32) : ∀ f i, flF I pl s f i = -1 ∨ ∃ j, i ≤ j ∧ j < i + f ∧ flF I pl s f i = nI j
  | 0, i => Or.inl rfl
  | f + 1, i => by
    unfold flF
    split
    · split
      · exact Or.inr ⟨i, by omega, by omega, rfl⟩
      · rcases flF_in I pl s f (i + 1) with h | ⟨j, h1, h2, h3⟩
        · exact Or.inl h
        · exact Or.inr ⟨j, by omega, by omega, h3⟩
    · rcases flF_in I pl s f (i + 1) with h | ⟨j, h1, h2, h3⟩
      · exact Or.inl h
      · exact Or.inr ⟨j, by omega, by omega, h3⟩
theorem flF_congr {I A : Nat → Nat → Int32} {pl : Nat} {s : Int32} (h1 : A 77 = I 77) (h2 : A 78 = I 78) (h3 : A 79 = I 79) (h4 : A 96 = I 96) : ∀ f i, flF A pl s f i = flF I pl s f i
  | 0, i => rfl
  | f + 1, i => by
    unfold flF ftF
    rw [h1, h2, h3, h4, flF_congr h1 h2 h3 h4 f (i + 1)]
/-- on the way: lines left, place -/
def waF (I : Nat → Nat → Int32) (s : Int32) (c : Nat) : Nat → Nat → (Nat → Nat → Int32) → (Nat → Nat → Int32)
  | 0, _, A => A
  | l + 1, pl, A => if flF I pl s c 0 = -1 then A else waF I s c l (cn (I 79 (cn (flF I pl s c 0)))) (apT A (I 80 (cn (flF I pl s c 0))))
def wkOK (I A : Nat → Nat → Int32) : Prop := (∀ q, q ≠ 95 → q ≠ 97 → A q = I q) ∧ tzOK A
theorem wkOK_ap {I A : Nat → Nat → Int32} {v : Int32} (h : wkOK I A) : wkOK I (apT A v) := ⟨fun q a b => (apT_off a b).trans (h.1 q a b), apT_ok h.2⟩
def wlF (I : Nat → Nat → Int32) (s : Int32) (c p k f : Nat) : Nat → Nat → Int32 := waF I s c (cn (I 96 (25 * p + f))) (25 * p + f) (apT (up1 I 95 4 0) (nI (100 * p + k)))
set_option maxHeartbeats 1000000 in
theorem s_walk {l : Launch} {G : Gm} {I : Nat → Nat → Int32} {J : Nat → Nat → Int64} {c : Nat} (hlk : lksOK I c) {p k f d : Nat} (s : Int32) (hp : p < 10) (hk : k < 12) (hf0 : I (6 + 6 * p + 1 + 2) k = nI f) (hf8 : f < 8) (hd : I 96 (25 * p + f) = nI d) (hd1 : d ≤ 1000) : Sp l G iX7_walk [.ref (G.1 + 95), .int (nI (100 * p + k)), .int s] (mm I J) (RetV (mm (wlF I s c p k f) J)) noT := by
  refine Sp.of (by decide +kernel) (Nat.le_of_ble_eq_true rfl) ?_
  intro X hXl C
  subst hXl
  show Go X G 6 0 0 _ 0 [.ref (G.1 + 95), .int (nI (100 * p + k)), .int s, uu, uu, uu] [] (mm I J)
  have main : ∀ (j pl : Nat) (A : Nat → Nat → Int32) (a5 : Value), j ≤ 1000 → pl < 250 → wkOK I A → waF I s c j pl A = wlF I s c p k f → Go X G 6 0 0 (KQ X G iX7_walk (RetV (mm (wlF I s c p k f) J)) noT) 46 [.ref (G.1 + 95), .int (nI (100 * p + k)), .int s, .int (nI pl), .int (nI j), a5] [] (mm A J) := by
    intro j
    induction j with
    | zero =>
      intro pl A a5 hj hpl hA hf
      refine g_iload C dX7_walk_46 rfl ?_
      refine g_if_le 97 C dX7_walk_48 (by decide) (fun c48 => ?_) (fun c48 => ?_)
      · exact e_V C dX7_walk_97 rfl rfl rfl (by rw [← hf]; rfl)
      · exact absurd (by decide) c48
    | succ j ihj =>
      intro pl A a5 hj hpl hA hf
      have hfl : flF A pl s c 0 = flF I pl s c 0 := flF_congr (hA.1 _ (by decide) (by decide)) (hA.1 _ (by decide) (by decide)) (hA.1 _ (by decide) (by decide)) (hA.1 _ (by decide) (by decide)) c 0
      have hlA : lksOK A c := by
        obtain ⟨q1, q2, q3⟩ := hlk
        refine ⟨by rw [hA.1 73 (by decide) (by decide)]; exact q1, q2, fun i hi => ?_⟩
        rw [hA.1 78 (by decide) (by decide), hA.1 79 (by decide) (by decide)]
        exact q3 i hi
      refine g_iload C dX7_walk_46 rfl ?_
      refine g_if_le 97 C dX7_walk_48 (by decide) (fun c48 => ?_) (fun c48 => ?_)
      · exact absurd (nI_l' (b := 0) c48 (by omega) (by decide)) (by omega)
      · refine g_aload_n C dX7_walk_51 rfl ?_
        refine g_iload_n C dX7_walk_52 rfl ?_
        refine g_iload_n C dX7_walk_53 rfl ?_
        refine gv2I (ci := 7) C dX7_walk_54 vwX7_firstLink mwX7_106 ⟨by decide, by decide⟩ rfl ly_95 (Nat.le_of_ble_eq_true rfl) (s_firstLink hlA hpl _) (Nat.le_of_ble_eq_true rfl) rfl ⟨by decide, by decide⟩ ?_
        rw [hfl]
        refine g_istore_5 C dX7_walk_57 (by decide) ?_
        refine g_iload C dX7_walk_59 rfl ?_
        refine g_iconst (v := (-1)) C dX7_walk_61 (by decide) ?_
        refine g_icmp_ne 66 C dX7_walk_62 (by decide) (fun c62 => ?_) (fun c62 => ?_)
        · obtain ⟨i, -, hi, hi2⟩ := (flF_in I pl s c 0).resolve_left c62
          unfold waF at hf
          rw [if_neg c62, hi2, cn_nI (show i < 2 ^ 31 by have := hlk.2.1; omega)] at hf
          rw [hi2]
          obtain ⟨-, b, hb1, hb2⟩ := hlk.2.2 i (by omega)
          rw [hb1, cn_nI (show b < 2 ^ 31 by omega)] at hf
          have hi480 : i < 480 := by have := hlk.2.1; omega
          refine g_aload_n C dX7_walk_66 rfl ?_
          refine g_aload_n C dX7_walk_67 rfl ?_
          refine g_getR (ci := 7) (k := 1) (q := 73) C dX7_walk_68 rfl inGX7 (by decide) fwX7_22 ly_95 (by decide) rfl rfl ?_
          refine g_getR (ci := 1) (k := 7) (q := 80) C dX7_walk_71 rfl inGX1 (by decide) fwX7_109 ly_73 (by decide) rfl rfl ?_
          refine g_iload C dX7_walk_74 rfl ?_
          refine g_ialdv (v := I 80 i) _ C dX7_walk_76 ly_80 (by decide) (by decide) rfl hi480 (by rw [hA.1 80 (by decide) (by decide)]) ?_
          refine gv1V (ci := 7) C dX7_walk_77 vwX7_append mwX7_102 ⟨by decide, by decide⟩ rfl ly_95 (Nat.le_of_ble_eq_true rfl) (s_appendT hA.2 _) (Nat.le_of_ble_eq_true rfl) rfl ⟨by decide, by decide⟩ ?_
          refine g_aload_n C dX7_walk_80 rfl ?_
          refine g_getR (ci := 7) (k := 1) (q := 73) C dX7_walk_81 rfl inGX7 (by decide) fwX7_22 ly_95 (by decide) rfl rfl ?_
          refine g_getR (ci := 1) (k := 6) (q := 79) C dX7_walk_84 rfl inGX1 (by decide) fwX7_77 ly_73 (by decide) rfl rfl ?_
          refine g_iload C dX7_walk_87 rfl ?_
          refine g_ialdv (v := nI b) _ C dX7_walk_89 ly_79 (by decide) (by decide) rfl hi480 (by rw [apT_off (by decide) (by decide), hA.1 79 (by decide) (by decide)]; exact hb1) ?_
          refine g_istore_3 C dX7_walk_90 (by decide) ?_
          refine g_iinc_4 C dX7_walk_91 (pk_m1 j) (by decide) ?_
          refine g_goto 46 C dX7_walk_94 (by decide) ?_
          exact ihj b _ _ (by omega) hb2 (wkOK_ap hA) hf
        · unfold waF at hf
          rw [if_pos c62] at hf
          exact e_V C dX7_walk_65 rfl rfl rfl (by rw [← hf])
  refine g_aload_n C dX7_walk_0 rfl ?_
  refine g_iconst (v := 0) C dX7_walk_1 (by decide) ?_
  refine g_putI (ci := 7) (k := 4) .int C dX7_walk_2 rfl inGX7 tyX7_ok nmX7 (by decide) fwX7_37 ly_95 (by decide) rfl rfl rfl rfl rfl ?_
  refine g_aload_n C dX7_walk_5 rfl ?_
  refine g_iload_n C dX7_walk_6 rfl ?_
  refine gv1V (ci := 7) C dX7_walk_7 vwX7_append mwX7_102 ⟨by decide, by decide⟩ rfl ly_95 (Nat.le_of_ble_eq_true rfl) (s_appendT ⟨0, by rw [up1_same]; rfl, by decide⟩ _) (Nat.le_of_ble_eq_true rfl) rfl ⟨by decide, by decide⟩ ?_
  refine g_iload_n C dX7_walk_10 rfl ?_
  refine g_bipush (v := 100) C dX7_walk_11 (by decide) ?_
  refine g_idiv C dX7_walk_13 (by decide) ?_
  rw [show nI (100 * p + k) / 100 = nI p from by rw [show (100 : Int32) = nI 100 from rfl, pk_div (by omega) (by decide) (by decide)]; congr 1; omega]
  refine g_aload_n C dX7_walk_14 rfl ?_
  refine g_getR (ci := 7) (k := 0) (q := 3) C dX7_walk_15 rfl inGX7 (by decide) fwX7_18 ly_95 (by decide) rfl rfl ?_
  refine g_getR (ci := 2) (k := 1) (q := 5) C dX7_walk_18 rfl inGX2 (by decide) fwX7_86 ly_3 (by decide) rfl rfl ?_
  refine g_iload_n C dX7_walk_21 rfl ?_
  refine g_bipush (v := 100) C dX7_walk_22 (by decide) ?_
  refine g_idiv C dX7_walk_24 (by decide) ?_
  rw [show nI (100 * p + k) / 100 = nI p from by rw [show (100 : Int32) = nI 100 from rfl, pk_div (by omega) (by decide) (by decide)]; congr 1; omega]
  refine g_aald (q := 6 + 6 * p) p C dX7_walk_25 ly_5 (Or.inl ⟨rfl, rfl⟩) (by decide) (by decide) rfl hp (rf_shs hp) ?_
  refine g_getR (ci := 5) (k := 2) (q := 6 + 6 * p + 1 + 2) C dX7_walk_26 rfl inGX5 (by decide) fwX7_93 (ly_sh hp) (by omega) rfl (rf_sh hp (by decide)) ?_
  refine g_iload_n C dX7_walk_29 rfl ?_
  refine g_bipush (v := 100) C dX7_walk_30 (by decide) ?_
  refine g_irem C dX7_walk_32 (by decide) ?_
  rw [show nI (100 * p + k) - nI (100 * p + k) / 100 * 100 = nI k from by rw [show (100 : Int32) = nI 100 from rfl, pk_rem (by omega) (by decide) (by decide)]; congr 1; omega]
  refine g_ialdv (v := nI f) _ C dX7_walk_33 (ly_sa hp (by decide)) (by omega) (by decide) rfl hk (by rw [apT_off (by omega) (by omega), up1_off (by omega)]; exact hf0) ?_
  refine gn2I C dX7_walk_34 swX8_spot (by decide +kernel) ⟨by decide, by decide⟩ (s_spotN _ _) (Nat.le_of_ble_eq_true rfl) rfl ⟨by decide, by decide⟩ ?_
  refine g_istore_3 C dX7_walk_37 (by decide) ?_
  refine g_aload_n C dX7_walk_38 rfl ?_
  refine g_getR (ci := 7) (k := 2) (q := 96) C dX7_walk_39 rfl inGX7 (by decide) fwX7_9 ly_95 (by decide) rfl rfl ?_
  refine g_iload_n C dX7_walk_42 rfl ?_
  refine g_ialdv (v := nI d) _ C dX7_walk_43 ly_96 (by decide) (by decide) rfl (show 25 * p + f < 250 by omega) (by rw [apT_off (by omega) (by omega), up1_off (by omega)]; exact hd) ?_
  refine g_istore_4 C dX7_walk_44 (by decide) ?_
  exact main d (25 * p + f) _ _ hd1 (by omega) (wkOK_ap ⟨fun q a _ => up1_off a, 0, by rw [up1_same]; rfl, by decide⟩) (by rw [wlF, hd, cn_nI (by omega)])
theorem shOK_st {I : Nat → Nat → Int32} {ln : Nat → Nat} {o m : Nat} {f : Nat → Int32} (h : shOK I ln) (ho : 66 ≤ o) : shOK (stRow I o m f) ln := by
  refine ⟨fun p hp => by rw [stRow_off (by omega)]; exact h.1 p hp, fun p hp k hk => ?_⟩
  obtain ⟨kd, nu, f', e1, b1, e2, b2, e3, b3, e4⟩ := h.2 p hp k hk
  refine ⟨kd, nu, f', by rw [stRow_off (by omega)]; exact e1, b1, by rw [stRow_off (by omega)]; exact e2, b2, by rw [stRow_off (by omega)]; exact e3, b3, fun q => ?_⟩
  obtain ⟨g1, s, g2, g3⟩ := e4 q
  exact ⟨g1, s, by rw [stRow_off (by omega)]; exact g2, g3⟩
set_option maxHeartbeats 1000000 in
theorem s_find0 {l : Launch} {G : Gm} {I : Nat → Nat → Int32} {J : Nat → Nat → Int64} {n : Nat} (hn : I 3 2 = nI n) (hn10 : n ≤ 10) {ln : Nat → Nat} (hs : shOK I ln) {c : Nat} (hlk : lksOK I c) {x : Nat} (hx : x < 16) (s : Int32) (hb : (bgF (meF I n s x c) n ln s).1 = -1) : Sp l G iX7_find [.ref (G.1 + 95), .int s, .int (nI x)] (mm I J) (RetI (-2) (mm (meF I n s x c) J)) noT := by
  refine Sp.of (by decide +kernel) (Nat.le_of_ble_eq_true rfl) ?_
  intro X hXl C
  subst hXl
  show Go X G 4 0 0 _ 0 [.ref (G.1 + 95), .int s, .int (nI x), uu] [] (mm I J)
  refine g_aload_n C dX7_find_0 rfl ?_
  refine g_iload_n C dX7_find_1 rfl ?_
  refine g_iload_n C dX7_find_2 rfl ?_
  refine gv2V (ci := 7) C dX7_find_3 vwX7_measure mwX7_26 ⟨by decide, by decide⟩ rfl ly_95 (Nat.le_of_ble_eq_true rfl) (s_measure hn hn10 hlk hx _) (Nat.le_of_ble_eq_true rfl) rfl ⟨by decide, by decide⟩ ?_
  refine g_aload_n C dX7_find_6 rfl ?_
  refine g_iload_n C dX7_find_7 rfl ?_
  refine gv1I (ci := 7) C dX7_find_8 vwX7_bestGet mwX7_30 ⟨by decide, by decide⟩ rfl ly_95 (Nat.le_of_ble_eq_true rfl) (s_bestGet (n := n) (ln := ln) (by first | (rw [stRow_off (by decide)]; exact hn) | (unfold meF; rw [stRow_off (by decide)]; exact hn)) hn10 (shOK_st hs (by decide)) _) (Nat.le_of_ble_eq_true rfl) rfl ⟨by decide, by decide⟩ ?_
  refine g_istore_3 C dX7_find_11 (by decide) ?_
  refine g_iload_n C dX7_find_12 rfl ?_
  refine g_iconst (v := (-1)) C dX7_find_13 (by decide) ?_
  refine g_icmp_ne 20 C dX7_find_14 (by decide) (fun c14 => ?_) (fun c14 => ?_)
  · exact absurd hb c14
  · refine g_bipush (v := (-2)) C dX7_find_17 (by decide) ?_
    exact e_I C dX7_find_19 rfl rfl rfl rfl rfl
set_option maxHeartbeats 1000000 in
theorem s_find {l : Launch} {G : Gm} {I : Nat → Nat → Int32} {J : Nat → Nat → Int64} {n : Nat} (hn : I 3 2 = nI n) (hn10 : n ≤ 10) {ln : Nat → Nat} (hs : shOK I ln) {c : Nat} (hlk : lksOK I c) {x p k f d : Nat} (hx : x < 16) (s : Int32) (hb : (bgF (meF I n s x c) n ln s).1 = nI (100 * p + k)) (hp : p < 10) (hk : k < 12) (hf0 : I (6 + 6 * p + 1 + 2) k = nI f) (hf8 : f < 8) (hd : meR I n s x c (25 * p + f) = nI d) (hd1 : d ≤ 1000) : Sp l G iX7_find [.ref (G.1 + 95), .int s, .int (nI x)] (mm I J) (RetI (wlF (meF I n s x c) s c p k f 95 4) (mm (wlF (meF I n s x c) s c p k f) J)) noT := by
  refine Sp.of (by decide +kernel) (Nat.le_of_ble_eq_true rfl) ?_
  intro X hXl C
  subst hXl
  show Go X G 4 0 0 _ 0 [.ref (G.1 + 95), .int s, .int (nI x), uu] [] (mm I J)
  refine g_aload_n C dX7_find_0 rfl ?_
  refine g_iload_n C dX7_find_1 rfl ?_
  refine g_iload_n C dX7_find_2 rfl ?_
  refine gv2V (ci := 7) C dX7_find_3 vwX7_measure mwX7_26 ⟨by decide, by decide⟩ rfl ly_95 (Nat.le_of_ble_eq_true rfl) (s_measure hn hn10 hlk hx _) (Nat.le_of_ble_eq_true rfl) rfl ⟨by decide, by decide⟩ ?_
  refine g_aload_n C dX7_find_6 rfl ?_
  refine g_iload_n C dX7_find_7 rfl ?_
  refine gv1I (ci := 7) C dX7_find_8 vwX7_bestGet mwX7_30 ⟨by decide, by decide⟩ rfl ly_95 (Nat.le_of_ble_eq_true rfl) (s_bestGet (n := n) (ln := ln) (by first | (rw [stRow_off (by decide)]; exact hn) | (unfold meF; rw [stRow_off (by decide)]; exact hn)) hn10 (shOK_st hs (by decide)) _) (Nat.le_of_ble_eq_true rfl) rfl ⟨by decide, by decide⟩ ?_
  rw [show (bgF (stRow I 96 250 (meR I n s x c)) n ln s).1 = nI (100 * p + k) from hb]
  refine g_istore_3 C dX7_find_11 (by decide) ?_
  refine g_iload_n C dX7_find_12 rfl ?_
  refine g_iconst (v := (-1)) C dX7_find_13 (by decide) ?_
  refine g_icmp_ne 20 C dX7_find_14 (by decide) (fun c14 => ?_) (fun c14 => ?_)
  · refine g_aload_n C dX7_find_20 rfl ?_
    refine g_iload_n C dX7_find_21 rfl ?_
    refine g_iload_n C dX7_find_22 rfl ?_
    refine gv2V (ci := 7) C dX7_find_23 vwX7_walk mwX7_34 ⟨by decide, by decide⟩ rfl ly_95 (Nat.le_of_ble_eq_true rfl) (s_walk (c := c) (d := d) (lksOK_st hlk (by decide)) _ hp hk (by first | (rw [stRow_off (by omega)]; exact hf0) | (unfold meF; rw [stRow_off (by omega)]; exact hf0)) hf8 (by first | (rw [stRow_in (by omega)]; exact hd) | (unfold meF; rw [stRow_in (by omega)]; exact hd)) hd1) (Nat.le_of_ble_eq_true rfl) rfl ⟨by decide, by decide⟩ ?_
    refine g_aload_n C dX7_find_26 rfl ?_
    refine g_getI (ci := 7) (k := 4) C dX7_find_27 rfl inGX7 (by decide) fwX7_37 ly_95 (by decide) rfl ?_
    exact e_I C dX7_find_30 rfl rfl rfl rfl rfl
  · exact absurd c14 (nI_nm1 (by omega))
set_option maxHeartbeats 1000000 in
theorem s_way0 {l : Launch} {G : Gm} {I : Nat → Nat → Int32} {J : Nat → Nat → Int64} (x y : Int32) (h : ¬ ((¬ x < 0 ∧ x < 16) ∧ (¬ y < 0 ∧ y < 16))) : Sp l G iX8_way [.ref (G.1 + 0), .int x, .int y] (mm I J) (RetI (-1) (mm (up1 I 0 7 2) J)) noT := by
  refine Sp.of (by decide +kernel) (Nat.le_of_ble_eq_true rfl) ?_
  intro X hXl C
  subst hXl
  show Go X G 3 0 0 _ 0 [.ref (G.1 + 0), .int x, .int y] [] (mm I J)
  refine g_iload_n C dX8_way_0 rfl ?_
  refine gs1I C dX8_way_1 swX8_isRight mwX8_148 ⟨by decide, by decide⟩ (s_isRight _) (Nat.le_of_ble_eq_true rfl) rfl ⟨by decide, by decide⟩ ?_
  refine g_if_eq 14 C dX8_way_4 (by decide) (fun c4 => ?_) (fun c4 => ?_)
  · refine g_aload_n C dX8_way_14 rfl ?_
    refine g_iconst (v := 2) C dX8_way_15 (by decide) ?_
    refine gv1I (ci := 8) C dX8_way_16 vwX8_refuse mwX8_78 ⟨by decide, by decide⟩ rfl ly_0 (Nat.le_of_ble_eq_true rfl) (s_refuse _) (Nat.le_of_ble_eq_true rfl) rfl ⟨by decide, by decide⟩ ?_
    exact e_I C dX8_way_19 rfl rfl rfl rfl rfl
  · have g4 := Classical.not_not.mp (fun q => c4 (if01.mpr q))
    refine g_iload_n C dX8_way_7 rfl ?_
    refine gs1I C dX8_way_8 swX8_isRight mwX8_148 ⟨by decide, by decide⟩ (s_isRight _) (Nat.le_of_ble_eq_true rfl) rfl ⟨by decide, by decide⟩ ?_
    refine g_if_ne 20 C dX8_way_11 (by decide) (fun c11 => ?_) (fun c11 => ?_)
    · exact absurd ⟨g4, Classical.not_not.mp (fun q => c11 (if01.mpr q))⟩ h
    · refine g_aload_n C dX8_way_14 rfl ?_
      refine g_iconst (v := 2) C dX8_way_15 (by decide) ?_
      refine gv1I (ci := 8) C dX8_way_16 vwX8_refuse mwX8_78 ⟨by decide, by decide⟩ rfl ly_0 (Nat.le_of_ble_eq_true rfl) (s_refuse _) (Nat.le_of_ble_eq_true rfl) rfl ⟨by decide, by decide⟩ ?_
      exact e_I C dX8_way_19 rfl rfl rfl rfl rfl
theorem isR {d : Nat} (h : d < 16) : ¬ nI d < 0 ∧ nI d < 16 := ⟨nI_pos (by omega), nI_lt (b := 16) h (by decide)⟩
set_option maxHeartbeats 1000000 in
theorem s_wayR {l : Launch} {G : Gm} {I : Nat → Nat → Int32} {J : Nat → Nat → Int64} {n : Nat} (hn : I 3 2 = nI n) (hn10 : n ≤ 10) {ln : Nat → Nat} (hs : shOK I ln) {a x : Nat} (ha : a < 16) (hx : x < 16) {v : Int32} {A : Nat → Nat → Int32} (hf : Sp l G iX7_find [.ref (G.1 + 95), .int (nI a), .int (nI x)] (mm (buF I n ln) J) (RetI v (mm A J)) noT) : Sp l G iX8_way [.ref (G.1 + 0), .int (nI a), .int (nI x)] (mm I J) (RetI v (mm (up1 A 0 7 0) J)) noT := by
  refine Sp.of (by decide +kernel) (Nat.le_of_ble_eq_true rfl) ?_
  intro X hXl C
  subst hXl
  show Go X G 3 0 0 _ 0 [.ref (G.1 + 0), .int (nI a), .int (nI x)] [] (mm I J)
  refine g_iload_n C dX8_way_0 rfl ?_
  refine gs1I C dX8_way_1 swX8_isRight mwX8_148 ⟨by decide, by decide⟩ (s_isRight _) (Nat.le_of_ble_eq_true rfl) rfl ⟨by decide, by decide⟩ ?_
  refine g_if_eq 14 C dX8_way_4 (by decide) (fun c4 => ?_) (fun c4 => ?_)
  · exact absurd (isR ha) (if01.mp c4)
  · refine g_iload_n C dX8_way_7 rfl ?_
    refine gs1I C dX8_way_8 swX8_isRight mwX8_148 ⟨by decide, by decide⟩ (s_isRight _) (Nat.le_of_ble_eq_true rfl) rfl ⟨by decide, by decide⟩ ?_
    refine g_if_ne 20 C dX8_way_11 (by decide) (fun c11 => ?_) (fun c11 => ?_)
    · refine g_aload_n C dX8_way_20 rfl ?_
      refine gv0V (ci := 8) C dX8_way_21 vwX8_bringUpToDate mwX8_155 ⟨by decide, by decide⟩ rfl ly_0 (Nat.le_of_ble_eq_true rfl) (s_bring hn hn10 hs) (Nat.le_of_ble_eq_true rfl) rfl ⟨by decide, by decide⟩ ?_
      refine g_aload_n C dX8_way_24 rfl ?_
      refine g_aload_n C dX8_way_25 rfl ?_
      refine g_getR (ci := 8) (k := 5) (q := 95) C dX8_way_26 rfl inGX8 (by decide) fwX8_53 ly_0 (by decide) rfl rfl ?_
      refine g_iload_n C dX8_way_29 rfl ?_
      refine g_iload_n C dX8_way_30 rfl ?_
      refine gv2I (ci := 7) C dX8_way_31 vwX7_find mwX8_185 ⟨by decide, by decide⟩ rfl ly_95 (Nat.le_of_ble_eq_true rfl) (hf) (Nat.le_of_ble_eq_true rfl) rfl ⟨by decide, by decide⟩ ?_
      refine gv1I (ci := 8) C dX8_way_34 vwX8_accept mwX8_88 ⟨by decide, by decide⟩ rfl ly_0 (Nat.le_of_ble_eq_true rfl) (s_accept _) (Nat.le_of_ble_eq_true rfl) rfl ⟨by decide, by decide⟩ ?_
      exact e_I C dX8_way_37 rfl rfl rfl rfl rfl
    · exact absurd (isR hx) (if01.mp c11)
set_option maxHeartbeats 1000000 in
theorem s_without1 {l : Launch} {G : Gm} {I : Nat → Nat → Int32} {J : Nat → Nat → Int64} (x y : Int32) (h : ¬ (¬ x < 0 ∧ x < I 3 2)) : Sp l G iX8_without [.ref (G.1 + 0), .int x, .int y] (mm I J) (RetI (-1) (mm (up1 I 0 7 1) J)) noT := by
  refine Sp.of (by decide +kernel) (Nat.le_of_ble_eq_true rfl) ?_
  intro X hXl C
  subst hXl
  show Go X G 3 0 0 _ 0 [.ref (G.1 + 0), .int x, .int y] [] (mm I J)
  refine g_aload_n C dX8_without_0 rfl ?_
  refine g_getR (ci := 8) (k := 1) (q := 3) C dX8_without_1 rfl inGX8 (by decide) fwX8_19 ly_0 (by decide) rfl rfl ?_
  refine g_iload_n C dX8_without_4 rfl ?_
  refine gv1I (ci := 2) C dX8_without_5 vwX2_has mwX8_91 ⟨by decide, by decide⟩ rfl ly_3 (Nat.le_of_ble_eq_true rfl) (s_planHas _) (Nat.le_of_ble_eq_true rfl) rfl ⟨by decide, by decide⟩ ?_
  refine g_if_ne 17 C dX8_without_8 (by decide) (fun c8 => ?_) (fun c8 => ?_)
  · exact absurd (if01.mpr h) c8
  · refine g_aload_n C dX8_without_11 rfl ?_
    refine g_iconst (v := 1) C dX8_without_12 (by decide) ?_
    refine gv1I (ci := 8) C dX8_without_13 vwX8_refuse mwX8_78 ⟨by decide, by decide⟩ rfl ly_0 (Nat.le_of_ble_eq_true rfl) (s_refuse _) (Nat.le_of_ble_eq_true rfl) rfl ⟨by decide, by decide⟩ ?_
    exact e_I C dX8_without_16 rfl rfl rfl rfl rfl
set_option maxHeartbeats 1000000 in
theorem s_without2 {l : Launch} {G : Gm} {I : Nat → Nat → Int32} {J : Nat → Nat → Int64} (x y : Int32) (h : ¬ x < 0 ∧ x < I 3 2) (h2 : ¬ (¬ y < 0 ∧ y < 16)) : Sp l G iX8_without [.ref (G.1 + 0), .int x, .int y] (mm I J) (RetI (-1) (mm (up1 I 0 7 2) J)) noT := by
  refine Sp.of (by decide +kernel) (Nat.le_of_ble_eq_true rfl) ?_
  intro X hXl C
  subst hXl
  show Go X G 3 0 0 _ 0 [.ref (G.1 + 0), .int x, .int y] [] (mm I J)
  refine g_aload_n C dX8_without_0 rfl ?_
  refine g_getR (ci := 8) (k := 1) (q := 3) C dX8_without_1 rfl inGX8 (by decide) fwX8_19 ly_0 (by decide) rfl rfl ?_
  refine g_iload_n C dX8_without_4 rfl ?_
  refine gv1I (ci := 2) C dX8_without_5 vwX2_has mwX8_91 ⟨by decide, by decide⟩ rfl ly_3 (Nat.le_of_ble_eq_true rfl) (s_planHas _) (Nat.le_of_ble_eq_true rfl) rfl ⟨by decide, by decide⟩ ?_
  refine g_if_ne 17 C dX8_without_8 (by decide) (fun c8 => ?_) (fun c8 => ?_)
  · refine g_iload_n C dX8_without_17 rfl ?_
    refine gs1I C dX8_without_18 swX8_isRight mwX8_148 ⟨by decide, by decide⟩ (s_isRight _) (Nat.le_of_ble_eq_true rfl) rfl ⟨by decide, by decide⟩ ?_
    refine g_if_ne 30 C dX8_without_21 (by decide) (fun c21 => ?_) (fun c21 => ?_)
    · exact absurd (if01.mpr h2) c21
    · refine g_aload_n C dX8_without_24 rfl ?_
      refine g_iconst (v := 2) C dX8_without_25 (by decide) ?_
      refine gv1I (ci := 8) C dX8_without_26 vwX8_refuse mwX8_78 ⟨by decide, by decide⟩ rfl ly_0 (Nat.le_of_ble_eq_true rfl) (s_refuse _) (Nat.le_of_ble_eq_true rfl) rfl ⟨by decide, by decide⟩ ?_
      exact e_I C dX8_without_29 rfl rfl rfl rfl rfl
  · exact absurd h (if01.mp c8)
set_option maxHeartbeats 1000000 in
theorem s_without {l : Launch} {G : Gm} {I : Nat → Nat → Int32} {J : Nat → Nat → Int64} {n : Nat} (hn : I 3 2 = nI n) (hn10 : n ≤ 10) {ln : Nat → Nat} (hs : shOK I ln) {p : Nat} (y : Int32) (hp : p < 10) (h : ¬ nI p < 0 ∧ nI p < I 3 2) (h2 : ¬ y < 0 ∧ y < 16) : Sp l G iX8_without [.ref (G.1 + 0), .int (nI p), .int y] (mm I J) (RetI (msF (mwF (buF I n ln) n p y)) (mm (up1 (mwF (buF I n ln) n p y) 0 7 0) J)) noT := by
  refine Sp.of (by decide +kernel) (Nat.le_of_ble_eq_true rfl) ?_
  intro X hXl C
  subst hXl
  show Go X G 3 0 0 _ 0 [.ref (G.1 + 0), .int (nI p), .int y] [] (mm I J)
  refine g_aload_n C dX8_without_0 rfl ?_
  refine g_getR (ci := 8) (k := 1) (q := 3) C dX8_without_1 rfl inGX8 (by decide) fwX8_19 ly_0 (by decide) rfl rfl ?_
  refine g_iload_n C dX8_without_4 rfl ?_
  refine gv1I (ci := 2) C dX8_without_5 vwX2_has mwX8_91 ⟨by decide, by decide⟩ rfl ly_3 (Nat.le_of_ble_eq_true rfl) (s_planHas _) (Nat.le_of_ble_eq_true rfl) rfl ⟨by decide, by decide⟩ ?_
  refine g_if_ne 17 C dX8_without_8 (by decide) (fun c8 => ?_) (fun c8 => ?_)
  · refine g_iload_n C dX8_without_17 rfl ?_
    refine gs1I C dX8_without_18 swX8_isRight mwX8_148 ⟨by decide, by decide⟩ (s_isRight _) (Nat.le_of_ble_eq_true rfl) rfl ⟨by decide, by decide⟩ ?_
    refine g_if_ne 30 C dX8_without_21 (by decide) (fun c21 => ?_) (fun c21 => ?_)
    · refine g_aload_n C dX8_without_30 rfl ?_
      refine gv0V (ci := 8) C dX8_without_31 vwX8_bringUpToDate mwX8_155 ⟨by decide, by decide⟩ rfl ly_0 (Nat.le_of_ble_eq_true rfl) (s_bring hn hn10 hs) (Nat.le_of_ble_eq_true rfl) rfl ⟨by decide, by decide⟩ ?_
      refine g_aload_n C dX8_without_34 rfl ?_
      refine g_aload_n C dX8_without_35 rfl ?_
      refine g_getR (ci := 8) (k := 6) (q := 98) C dX8_without_36 rfl inGX8 (by decide) fwX8_62 ly_0 (by decide) rfl rfl ?_
      refine g_iload_n C dX8_without_39 rfl ?_
      refine g_iload_n C dX8_without_40 rfl ?_
      refine gv2I (ci := 4) C dX8_without_41 vwX4_misusesWithTurned mwX8_216 ⟨by decide, by decide⟩ rfl ly_98 (Nat.le_of_ble_eq_true rfl) (s_misTurned (by rw [buF_off hs hn10 (by decide) (by decide)]; exact hn) hn10 hp _) (Nat.le_of_ble_eq_true rfl) rfl ⟨by decide, by decide⟩ ?_
      refine gv1I (ci := 8) C dX8_without_44 vwX8_accept mwX8_88 ⟨by decide, by decide⟩ rfl ly_0 (Nat.le_of_ble_eq_true rfl) (s_accept _) (Nat.le_of_ble_eq_true rfl) rfl ⟨by decide, by decide⟩ ?_
      exact e_I C dX8_without_47 rfl rfl rfl rfl rfl
    · exact absurd h2 (if01.mp c21)
  · exact absurd h (if01.mp c8)
theorem lookF_off {I : Nat → Nat → Int32} {n g q : Nat} (h : q ≠ 94) : lookF I n g q = I q := stRow_off h
def xKey (I : Nat → Nat → Int32) (n : Nat) : Int32 × (Nat → Nat → Int32) := if msF I = 0 then (-1, up1 I 0 7 5) else ((bsF I n (msF I)).2.1, up1 (bsF I n (msF I)).2.2 0 7 0)
set_option maxHeartbeats 1000000 in
theorem s_key {l : Launch} {G : Gm} {I : Nat → Nat → Int32} {J : Nat → Nat → Int64} {n : Nat} (hn : I 3 2 = nI n) (hn10 : n ≤ 10) {ln : Nat → Nat} (hs : shOK I ln) : Sp l G iX8_key [.ref (G.1 + 0)] (mm I J) (RetI (xKey (lookF (buF I n ln) n 4) n).1 (mm (xKey (lookF (buF I n ln) n 4) n).2 J)) noT := by
  refine Sp.of (by decide +kernel) (Nat.le_of_ble_eq_true rfl) ?_
  intro X hXl C
  subst hXl
  show Go X G 2 0 0 _ 0 [.ref (G.1 + 0), uu] [] (mm I J)
  refine g_aload_n C dX8_key_0 rfl ?_
  refine gv0V (ci := 8) C dX8_key_1 vwX8_lookAtDoors mwX8_169 ⟨by decide, by decide⟩ rfl ly_0 (Nat.le_of_ble_eq_true rfl) (s_lookAt hn hn10 hs) (Nat.le_of_ble_eq_true rfl) rfl ⟨by decide, by decide⟩ ?_
  refine g_aload_n C dX8_key_4 rfl ?_
  refine g_getR (ci := 8) (k := 4) (q := 92) C dX8_key_5 rfl inGX8 (by decide) fwX8_46 ly_0 (by decide) rfl rfl ?_
  refine gv0I (ci := 0) C dX8_key_8 vwX0_misuses mwX8_175 ⟨by decide, by decide⟩ rfl ly_92 (Nat.le_of_ble_eq_true rfl) (s_misuses) (Nat.le_of_ble_eq_true rfl) rfl ⟨by decide, by decide⟩ ?_
  refine g_istore_1 C dX8_key_11 (by decide) ?_
  refine g_iload_n C dX8_key_12 rfl ?_
  refine g_if_ne 22 C dX8_key_13 (by decide) (fun c13 => ?_) (fun c13 => ?_)
  · have g13 : ¬ msF (lookF (buF I n ln) n 4) = 0 := c13
    refine g_aload_n C dX8_key_22 rfl ?_
    refine g_aload_n C dX8_key_23 rfl ?_
    refine g_getR (ci := 8) (k := 6) (q := 98) C dX8_key_24 rfl inGX8 (by decide) fwX8_62 ly_0 (by decide) rfl rfl ?_
    refine g_iload_n C dX8_key_27 rfl ?_
    refine gv1I (ci := 4) C dX8_key_28 vwX4_bestSingle mwX8_219 ⟨by decide, by decide⟩ rfl ly_98 (Nat.le_of_ble_eq_true rfl) (s_bestSingle (n := n) (by rw [lookF_off (by decide), buF_off hs hn10 (by decide) (by decide)]; exact hn) hn10 _) (Nat.le_of_ble_eq_true rfl) rfl ⟨by decide, by decide⟩ ?_
    refine gv1I (ci := 8) C dX8_key_31 vwX8_accept mwX8_88 ⟨by decide, by decide⟩ rfl ly_0 (Nat.le_of_ble_eq_true rfl) (s_accept _) (Nat.le_of_ble_eq_true rfl) rfl ⟨by decide, by decide⟩ ?_
    exact e_I C dX8_key_34 rfl rfl rfl (by rw [xKey, if_neg g13]; rfl) (by rw [xKey, if_neg g13]; rfl)
  · have g13 : msF (lookF (buF I n ln) n 4) = 0 := c13
    refine g_aload_n C dX8_key_16 rfl ?_
    refine g_iconst (v := 5) C dX8_key_17 (by decide) ?_
    refine gv1I (ci := 8) C dX8_key_18 vwX8_refuse mwX8_78 ⟨by decide, by decide⟩ rfl ly_0 (Nat.le_of_ble_eq_true rfl) (s_refuse _) (Nat.le_of_ble_eq_true rfl) rfl ⟨by decide, by decide⟩ ?_
    exact e_I C dX8_key_21 rfl rfl rfl (by rw [xKey, if_pos g13]) (by rw [xKey, if_pos g13])
def gaI (I A : Nat → Nat → Int32) (c : Nat) : Prop := A 98 7 = nI c ∧ c ≤ 10 ∧ cdOK A c ∧ ∀ q, q ≠ 98 → q ≠ 101 → A q = I q
theorem gaF_ok {I : Nat → Nat → Int32} {u : Nat → Int32} : ∀ (f q : Nat) (A : Nat → Nat → Int32) (c : Nat), q + f ≤ 160 → gaI I A c → ∃ c', gaI I (gaF u f q A).2 c'
  | 0, q, A, c, _, h => ⟨c, h⟩
  | f + 1, q, A, c, hq, h => by
    unfold gaF
    split
    · exact gaF_ok f (q + 1) A c (by omega) h
    split
    · next hl =>
      refine gaF_ok f (q + 1) _ (c + 1) (by omega) ?_
      obtain ⟨h1, h2, h3, h4⟩ := h
      rw [h1] at hl
      have h5 := nI_t (b := 10) hl (by omega) (by decide)
      unfold gaA
      rw [h1, cn_nI (show c < 2 ^ 31 by omega), step_nI]
      refine ⟨by simp [up1], by omega, fun i hi => ?_, fun r a b => by rw [up1_off a, up1_off b]; exact h4 r a b⟩
      by_cases e : i = c
      · subst e
        exact ⟨q / 16, q % 16, by simp [up1], by omega, by omega⟩
      · obtain ⟨p, r, g1, g2, g3⟩ := h3 i (by omega)
        exact ⟨p, r, by simp [up1, e, g1], g2, g3⟩
    · exact ⟨c, h⟩
def xCure (I : Nat → Nat → Int32) (n : Nat) : Int32 × (Nat → Nat → Int32) :=
  if msF I = 0 then (0, up1 (up1 I 98 8 0) 0 7 0)
  else if (gaF (bsU I) (16 * n) 0 (up1 I 98 7 0)).1 = 0 then (-1, up1 (gaF (bsU I) (16 * n) 0 (up1 I 98 7 0)).2 0 7 6)
  else if (seF (gaF (bsU I) (16 * n) 0 (up1 I 98 7 0)).2 n (cn ((gaF (bsU I) (16 * n) 0 (up1 I 98 7 0)).2 98 7))).1 = 0 then (-1, up1 (seF (gaF (bsU I) (16 * n) 0 (up1 I 98 7 0)).2 n (cn ((gaF (bsU I) (16 * n) 0 (up1 I 98 7 0)).2 98 7))).2 0 7 5)
  else ((seF (gaF (bsU I) (16 * n) 0 (up1 I 98 7 0)).2 n (cn ((gaF (bsU I) (16 * n) 0 (up1 I 98 7 0)).2 98 7))).2 98 8, up1 (seF (gaF (bsU I) (16 * n) 0 (up1 I 98 7 0)).2 n (cn ((gaF (bsU I) (16 * n) 0 (up1 I 98 7 0)).2 98 7))).2 0 7 0)
set_option maxHeartbeats 1000000 in
theorem s_cure {l : Launch} {G : Gm} {I : Nat → Nat → Int32} {J : Nat → Nat → Int64} {n : Nat} (hn : I 3 2 = nI n) (hn10 : n ≤ 10) {ln : Nat → Nat} (hs : shOK I ln) : Sp l G iX8_cure [.ref (G.1 + 0)] (mm I J) (RetI (xCure (lookF (buF I n ln) n 4) n).1 (mm (xCure (lookF (buF I n ln) n 4) n).2 J)) noT := by
  refine Sp.of (by decide +kernel) (Nat.le_of_ble_eq_true rfl) ?_
  intro X hXl C
  subst hXl
  show Go X G 1 0 0 _ 0 [.ref (G.1 + 0)] [] (mm I J)
  refine g_aload_n C dX8_cure_0 rfl ?_
  refine gv0V (ci := 8) C dX8_cure_1 vwX8_lookAtDoors mwX8_169 ⟨by decide, by decide⟩ rfl ly_0 (Nat.le_of_ble_eq_true rfl) (s_lookAt hn hn10 hs) (Nat.le_of_ble_eq_true rfl) rfl ⟨by decide, by decide⟩ ?_
  refine g_aload_n C dX8_cure_4 rfl ?_
  refine g_getR (ci := 8) (k := 4) (q := 92) C dX8_cure_5 rfl inGX8 (by decide) fwX8_46 ly_0 (by decide) rfl rfl ?_
  refine gv0I (ci := 0) C dX8_cure_8 vwX0_misuses mwX8_175 ⟨by decide, by decide⟩ rfl ly_92 (Nat.le_of_ble_eq_true rfl) (s_misuses) (Nat.le_of_ble_eq_true rfl) rfl ⟨by decide, by decide⟩ ?_
  refine g_if_ne 28 C dX8_cure_11 (by decide) (fun c11 => ?_) (fun c11 => ?_)
  · have g11 : ¬ msF (lookF (buF I n ln) n 4) = 0 := c11
    refine g_aload_n C dX8_cure_28 rfl ?_
    refine g_getR (ci := 8) (k := 6) (q := 98) C dX8_cure_29 rfl inGX8 (by decide) fwX8_62 ly_0 (by decide) rfl rfl ?_
    refine gv0I (ci := 4) C dX8_cure_32 vwX4_gather mwX8_207 ⟨by decide, by decide⟩ rfl ly_98 (Nat.le_of_ble_eq_true rfl) (s_gather (n := n) (by rw [lookF_off (by decide), buF_off hs hn10 (by decide) (by decide)]; exact hn) hn10) (Nat.le_of_ble_eq_true rfl) rfl ⟨by decide, by decide⟩ ?_
    refine g_if_ne 45 C dX8_cure_35 (by decide) (fun c35 => ?_) (fun c35 => ?_)
    · skip
      refine g_aload_n C dX8_cure_45 rfl ?_
      refine g_getR (ci := 8) (k := 6) (q := 98) C dX8_cure_46 rfl inGX8 (by decide) fwX8_62 ly_0 (by decide) rfl rfl ?_
      obtain ⟨cc, h1, h2, h3, h4⟩ := gaF_ok (I := (lookF (buF I n ln) n 4)) (u := bsU (lookF (buF I n ln) n 4)) (16 * n) 0 (up1 (lookF (buF I n ln) n 4) 98 7 0) 0 (by omega) ⟨by rw [up1_same]; rfl, by decide, fun i hi => absurd hi (Nat.not_lt_zero i), fun q a _ => up1_off a⟩
      have hcc : cn ((gaF (bsU (lookF (buF I n ln) n 4)) (16 * n) 0 (up1 (lookF (buF I n ln) n 4) 98 7 0)).2 98 7) = cc := by rw [h1]; exact nI_clamp (by omega)
      refine gv0I (ci := 4) C dX8_cure_49 vwX4_search mwX8_210 ⟨by decide, by decide⟩ rfl ly_98 (Nat.le_of_ble_eq_true rfl) (s_search (n := n) (cc := cc) (by rw [h4 3 (by decide) (by decide)]; exact (by rw [lookF_off (by decide), buF_off hs hn10 (by decide) (by decide)]; exact hn)) hn10 h1 h2 h3) (Nat.le_of_ble_eq_true rfl) rfl ⟨by decide, by decide⟩ ?_
      refine g_if_ne 61 C dX8_cure_52 (by decide) (fun c52 => ?_) (fun c52 => ?_)
      · refine g_aload_n C dX8_cure_61 rfl ?_
        refine g_aload_n C dX8_cure_62 rfl ?_
        refine g_getR (ci := 8) (k := 6) (q := 98) C dX8_cure_63 rfl inGX8 (by decide) fwX8_62 ly_0 (by decide) rfl rfl ?_
        refine g_getI (ci := 4) (k := 8) C dX8_cure_66 rfl inGX4 (by decide) fwX8_206 ly_98 (by decide) rfl ?_
        refine gv1I (ci := 8) C dX8_cure_69 vwX8_accept mwX8_88 ⟨by decide, by decide⟩ rfl ly_0 (Nat.le_of_ble_eq_true rfl) (s_accept _) (Nat.le_of_ble_eq_true rfl) rfl ⟨by decide, by decide⟩ ?_
        exact e_I C dX8_cure_72 rfl rfl rfl (by rw [xCure, if_neg g11, if_neg c35, hcc, if_neg c52]) (by rw [xCure, if_neg g11, if_neg c35, hcc, if_neg c52])
      · refine g_aload_n C dX8_cure_55 rfl ?_
        refine g_iconst (v := 5) C dX8_cure_56 (by decide) ?_
        refine gv1I (ci := 8) C dX8_cure_57 vwX8_refuse mwX8_78 ⟨by decide, by decide⟩ rfl ly_0 (Nat.le_of_ble_eq_true rfl) (s_refuse _) (Nat.le_of_ble_eq_true rfl) rfl ⟨by decide, by decide⟩ ?_
        exact e_I C dX8_cure_60 rfl rfl rfl (by rw [xCure, if_neg g11, if_neg c35, hcc, if_pos c52]) (by rw [xCure, if_neg g11, if_neg c35, hcc, if_pos c52])
    · skip
      refine g_aload_n C dX8_cure_38 rfl ?_
      refine g_bipush (v := 6) C dX8_cure_39 (by decide) ?_
      refine gv1I (ci := 8) C dX8_cure_41 vwX8_refuse mwX8_78 ⟨by decide, by decide⟩ rfl ly_0 (Nat.le_of_ble_eq_true rfl) (s_refuse _) (Nat.le_of_ble_eq_true rfl) rfl ⟨by decide, by decide⟩ ?_
      exact e_I C dX8_cure_44 rfl rfl rfl (by rw [xCure, if_neg g11, if_pos c35]) (by rw [xCure, if_neg g11, if_pos c35])
  · have g11 : msF (lookF (buF I n ln) n 4) = 0 := c11
    refine g_aload_n C dX8_cure_14 rfl ?_
    refine g_getR (ci := 8) (k := 6) (q := 98) C dX8_cure_15 rfl inGX8 (by decide) fwX8_62 ly_0 (by decide) rfl rfl ?_
    refine g_iconst (v := 0) C dX8_cure_18 (by decide) ?_
    refine g_putI (ci := 4) (k := 8) .int C dX8_cure_19 rfl inGX4 tyX4_ok nmX4 (by decide) fwX8_206 ly_98 (by decide) rfl rfl rfl rfl rfl ?_
    refine g_aload_n C dX8_cure_22 rfl ?_
    refine g_iconst (v := 0) C dX8_cure_23 (by decide) ?_
    refine gv1I (ci := 8) C dX8_cure_24 vwX8_accept mwX8_88 ⟨by decide, by decide⟩ rfl ly_0 (Nat.le_of_ble_eq_true rfl) (s_accept _) (Nat.le_of_ble_eq_true rfl) rfl ⟨by decide, by decide⟩ ?_
    exact e_I C dX8_cure_27 rfl rfl rfl (by rw [xCure, if_pos g11]) (by rw [xCure, if_pos g11])
