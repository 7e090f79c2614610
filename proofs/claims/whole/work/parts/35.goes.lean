/-! ## what a line brings on -/
def cv (h w : Rw) (q : Nat) (x : Int32) : Int32 := h q ||| (x &&& (w q ^^^ (-1)))
def fg (x y : Int32) : Int32 := if x = y then 0 else 1
def gAll (P : Pln) (p k : Nat) (h : Rw) : Int32 := it (fun i x => x ||| h (8 * p + P.fr p k i)) (P.nu p k) 0
abbrev HR : Type := Rw × Rw
def go1 (P : Pln) (w : Rw) (p k : Nat) (s : HR) : HR × Int32 := ((upd s.1 (8 * p + P.fs p k) (cv s.1 w (8 * p + P.fs p k) (gAll P p k s.1)), s.2), fg (cv s.1 w (8 * p + P.fs p k) (gAll P p k s.1)) (s.1 (8 * p + P.fs p k)))
def go2a (P : Pln) (w : Rw) (p k : Nat) (s : HR) : HR × Int32 := ((upd s.1 (8 * P.nu p k) (cv s.1 w (8 * P.nu p k) (s.1 (8 * p + P.fs p k))), s.2), fg (cv s.1 w (8 * P.nu p k) (s.1 (8 * p + P.fs p k))) (s.1 (8 * P.nu p k)))
def go2b (P : Pln) (w : Rw) (p k : Nat) (s : HR) : HR × Int32 := ((upd s.1 (8 * p + P.sc p k) (cv s.1 w (8 * p + P.sc p k) (s.2 (P.nu p k))), s.2), fg (cv s.1 w (8 * p + P.sc p k) (s.2 (P.nu p k))) (s.1 (8 * p + P.sc p k)))
def or2 (x y : Int32) : Int32 := if x = 0 ∧ y = 0 then 0 else 1
theorem fg_or (x y : Int32) : fg x y = 0 ∨ fg x y = 1 := by unfold fg; split <;> simp
theorem or2_0 {x y : Int32} (h : x = 0) (h2 : y = 0) : 0 = or2 x y := (if_pos ⟨h, h2⟩).symm
theorem or2_1 {x y : Int32} (h : ¬ x = 0) : 1 = or2 x y := (if_neg (fun q => h q.1)).symm
theorem or2_2 {x y : Int32} (h : ¬ y = 0) : 1 = or2 x y := (if_neg (fun q => h q.2)).symm
def go2 (P : Pln) (w : Rw) (p k : Nat) (s : HR) : HR × Int32 := ((go2b P w p k (go2a P w p k s).1).1, or2 (go2a P w p k s).2 (go2b P w p k (go2a P w p k s).1).2)
def go5 (P : Pln) (p k : Nat) (s : HR) : HR × Int32 := ((s.1, upd s.2 p (s.2 p ||| s.1 (8 * p + P.fs p k))), fg (s.2 p ||| s.1 (8 * p + P.fs p k)) (s.2 p))
def goF (P : Pln) (w : Rw) (p k : Nat) (s : HR) : HR × Int32 := if P.kd p k = 1 then go1 P w p k s else if P.kd p k = 2 then go2 P w p k s else if P.kd p k = 5 then go5 P p k s else (s, 0)
theorem s_comesW {l : Launch} {G : Gm} {I : Nat → Nat → Int32} {J : Nat → Nat → Int64} {a h w r lk : Rw} {q : Nat} {x : Int32} (hq : q < 80) : Sp l G iX10_comes [.ref (G.1 + 103), .int (nI q), .int x] (mm (wkM I a h w r lk) J) (RetI (fg (cv h w q x) (h q)) (mm (wkM I a (upd h q (cv h w q x)) w r lk) J)) noT := by
  have := s_comes (l := l) (G := G) (I := wkM I a h w r lk) (J := J) (x := x) hq
  unfold cmF at this
  rw [wk_up114 hq, show cmV (wkM I a h w r lk) q x = cv h w q x by unfold cmV cv; rw [wk_114 hq, wk_115 hq], wk_114 hq] at this
  exact this
set_option maxHeartbeats 1000000 in
theorem s_goes1 {l : Launch} {G : Gm} {I : Nat → Nat → Int32} {J : Nat → Nat → Int64} {a h w r lk : Rw} {n : Nat} {P : Pln} (hm : mOK I n P) {p k : Nat} (hp : p < n) (hk : k < P.ml p) (h1 : P.kd p k = 1) : Sp l G iX10_goes [.ref (G.1 + 103), .int (nI p), .int (nI (12 * p + k))] (mm (wkM I a h w r lk) J) (RetI (go1 P w p k (h, r)).2 (mm (wkM I a (go1 P w p k (h, r)).1.1 w (go1 P w p k (h, r)).1.2 lk) J)) noT := by
  refine Sp.of (by decide +kernel) (Nat.le_of_ble_eq_true rfl) ?_
  intro X hXl C
  subst hXl
  show Go X G 5 0 0 _ 0 [.ref (G.1 + 103), .int (nI p), .int (nI (12 * p + k)), uu, uu] [] (mm (wkM I a h w r lk) J)
  obtain ⟨hok, hn, hml, hli⟩ := hm
  have hn10 := hok.1
  have hL := hli p hp k hk
  have hLo := hok.2.2 p hp k hk
  have hm12 := hok.2.1 p
  have loop : ∀ i : Nat, i ≤ P.nu p k → Go X G 5 0 0 (KQ X G iX10_goes (RetI (go1 P w p k (h, r)).2 (mm (wkM I a (go1 P w p k (h, r)).1.1 w (go1 P w p k (h, r)).1.2 lk) J)) noT) 15 [.ref (G.1 + 103), .int (nI p), .int (nI (12 * p + k)), .int (it (fun i x => x ||| h (8 * p + P.fr p k i)) i 0), .int (nI i)] [] (mm (wkM I a h w r lk) J) := by
    refine loopN (P.nu p k) ?_ ?_
    · skip
      show Go X G 5 0 0 _ 15 _ [] _
      have hn4 := (hLo.2.2.2.2 h1).1
      refine g_iload C dX10_goes_15 rfl ?_
      refine g_aload_n C dX10_goes_17 rfl ?_
      refine g_getR (ci := 10) (k := 9) (q := 108) C dX10_goes_18 rfl inGX10 (by decide) fwX10_26 ly_103 (by decide) rfl rfl ?_
      refine g_iload_n C dX10_goes_21 rfl ?_
      refine g_ialdv (v := nI (P.nu p k)) (12 * p + k) C dX10_goes_22 ly_108 (by decide) (by decide) rfl (show 12 * p + k < 132 by omega) (by rw [wk_off (Or.inl (by decide))]; exact hL.2.1) ?_
      refine g_icmp_ge 56 C dX10_goes_23 (by decide) (fun c23 => ?_) (fun c23 => ?_)
      · refine g_aload_n C dX10_goes_56 rfl ?_
        refine g_bipush (v := 8) C dX10_goes_57 (by decide) ?_
        refine g_iload_n C dX10_goes_59 rfl ?_
        refine g_imul C dX10_goes_60 ?_
        rw [mul8]
        refine g_aload_n C dX10_goes_61 rfl ?_
        refine g_getR (ci := 10) (k := 10) (q := 109) C dX10_goes_62 rfl inGX10 (by decide) fwX10_29 ly_103 (by decide) rfl rfl ?_
        refine g_iload_n C dX10_goes_65 rfl ?_
        refine g_ialdv (v := nI (P.fs p k)) (12 * p + k) C dX10_goes_66 ly_109 (by decide) (by decide) rfl (show 12 * p + k < 132 by omega) (by rw [wk_off (Or.inl (by decide))]; exact hL.2.2.1) ?_
        refine g_iadd C dX10_goes_67 ?_
        rw [nI_add]
        refine g_iload_n C dX10_goes_68 rfl ?_
        refine gv2I (ci := 10) C dX10_goes_69 vwX10_comes mwX10_238 ⟨by decide, by decide⟩ rfl ly_103 (Nat.le_of_ble_eq_true rfl) (s_comesW (q := 8 * p + P.fs p k) (by omega)) (Nat.le_of_ble_eq_true rfl) rfl ⟨by decide, by decide⟩ ?_
        exact e_Z C dX10_goes_72 rfl rfl rfl (fg_or _ _) rfl rfl
      · exact absurd (Int32.le_refl _) c23
    · intro i hi ih 
      show Go X G 5 0 0 _ 15 _ [] _
      have hfr := (hLo.2.2.2.2 h1).2 i hi
      have hn4 := (hLo.2.2.2.2 h1).1
      refine g_iload C dX10_goes_15 rfl ?_
      refine g_aload_n C dX10_goes_17 rfl ?_
      refine g_getR (ci := 10) (k := 9) (q := 108) C dX10_goes_18 rfl inGX10 (by decide) fwX10_26 ly_103 (by decide) rfl rfl ?_
      refine g_iload_n C dX10_goes_21 rfl ?_
      refine g_ialdv (v := nI (P.nu p k)) (12 * p + k) C dX10_goes_22 ly_108 (by decide) (by decide) rfl (show 12 * p + k < 132 by omega) (by rw [wk_off (Or.inl (by decide))]; exact hL.2.1) ?_
      refine g_icmp_ge 56 C dX10_goes_23 (by decide) (fun c23 => ?_) (fun c23 => ?_)
      · exact (nI_ge_dead (n := P.nu p k) c23 hi (by omega)).elim
      · refine g_iload_n C dX10_goes_26 rfl ?_
        refine g_aload_n C dX10_goes_27 rfl ?_
        refine g_getR (ci := 10) (k := 23) (q := 114) C dX10_goes_28 rfl inGX10 (by decide) fwX10_49 ly_103 (by decide) rfl rfl ?_
        refine g_bipush (v := 8) C dX10_goes_31 (by decide) ?_
        refine g_iload_n C dX10_goes_33 rfl ?_
        refine g_imul C dX10_goes_34 ?_
        rw [mul8]
        refine g_aload_n C dX10_goes_35 rfl ?_
        refine g_getR (ci := 10) (k := 12) (q := 111) C dX10_goes_36 rfl inGX10 (by decide) fwX10_35 ly_103 (by decide) rfl rfl ?_
        refine g_iconst (v := 4) C dX10_goes_39 (by decide) ?_
        refine g_iload_n C dX10_goes_40 rfl ?_
        refine g_imul C dX10_goes_41 ?_
        rw [mul4]
        refine g_iload C dX10_goes_42 rfl ?_
        refine g_iadd C dX10_goes_44 ?_
        rw [nI_add]
        refine g_ialdv (v := nI (P.fr p k i)) (4 * (12 * p + k) + i) C dX10_goes_45 ly_111 (by decide) (by decide) rfl (show 4 * (12 * p + k) + i < 528 by omega) (by rw [wk_off (Or.inl (by decide))]; exact hL.2.2.2.2 h1 i hi) ?_
        refine g_iadd C dX10_goes_46 ?_
        rw [nI_add]
        refine g_ialdv (v := h (8 * p + P.fr p k i)) (8 * p + P.fr p k i) C dX10_goes_47 ly_114 (by decide) (by decide) rfl (show 8 * p + P.fr p k i < 80 by omega) (wk_114 (by omega)) ?_
        refine g_ior C dX10_goes_48 ?_
        refine g_istore_3 C dX10_goes_49 (by decide) ?_
        refine g_iinc_4 C dX10_goes_50 (nI_1 i) (by decide) ?_
        refine g_goto 15 C dX10_goes_53 (by decide) ?_
        exact ih
  refine g_aload_n C dX10_goes_0 rfl ?_
  refine g_getR (ci := 10) (k := 8) (q := 107) C dX10_goes_1 rfl inGX10 (by decide) fwX10_23 ly_103 (by decide) rfl rfl ?_
  refine g_iload_n C dX10_goes_4 rfl ?_
  refine g_ialdv (v := nI (P.kd p k)) (12 * p + k) C dX10_goes_5 ly_107 (by decide) (by decide) rfl (show 12 * p + k < 132 by omega) (by rw [wk_off (Or.inl (by decide))]; exact hL.1) ?_
  refine g_iconst (v := 1) C dX10_goes_6 (by decide) ?_
  refine g_icmp_ne 73 C dX10_goes_7 (by decide) (fun c7 => ?_) (fun c7 => ?_)
  · exact absurd (by rw [h1]; rfl) c7
  · refine g_iconst (v := 0) C dX10_goes_10 (by decide) ?_
    refine g_istore_3 C dX10_goes_11 (by decide) ?_
    refine g_iconst (v := 0) C dX10_goes_12 (by decide) ?_
    refine g_istore_4 C dX10_goes_13 (by decide) ?_
    exact loop 0 (Nat.zero_le _)
set_option maxHeartbeats 1000000 in
theorem s_goes2 {l : Launch} {G : Gm} {I : Nat → Nat → Int32} {J : Nat → Nat → Int64} {a h w r lk : Rw} {n : Nat} {P : Pln} (hm : mOK I n P) {p k : Nat} (hp : p < n) (hk : k < P.ml p) (h2 : P.kd p k = 2) : Sp l G iX10_goes [.ref (G.1 + 103), .int (nI p), .int (nI (12 * p + k))] (mm (wkM I a h w r lk) J) (RetI (go2 P w p k (h, r)).2 (mm (wkM I a (go2 P w p k (h, r)).1.1 w (go2 P w p k (h, r)).1.2 lk) J)) noT := by
  refine Sp.of (by decide +kernel) (Nat.le_of_ble_eq_true rfl) ?_
  intro X hXl C
  subst hXl
  show Go X G 5 0 0 _ 0 [.ref (G.1 + 103), .int (nI p), .int (nI (12 * p + k)), uu, uu] [] (mm (wkM I a h w r lk) J)
  obtain ⟨hok, hn, hml, hli⟩ := hm
  have hn10 := hok.1
  have hL := hli p hp k hk
  have hLo := hok.2.2 p hp k hk
  have hm12 := hok.2.1 p
  have hnu := hLo.2.2.2.1 h2
  refine g_aload_n C dX10_goes_0 rfl ?_
  refine g_getR (ci := 10) (k := 8) (q := 107) C dX10_goes_1 rfl inGX10 (by decide) fwX10_23 ly_103 (by decide) rfl rfl ?_
  refine g_iload_n C dX10_goes_4 rfl ?_
  refine g_ialdv (v := nI (P.kd p k)) (12 * p + k) C dX10_goes_5 ly_107 (by decide) (by decide) rfl (show 12 * p + k < 132 by omega) (by rw [wk_off (Or.inl (by decide))]; exact hL.1) ?_
  refine g_iconst (v := 1) C dX10_goes_6 (by decide) ?_
  refine g_icmp_ne 73 C dX10_goes_7 (by decide) (fun c7 => ?_) (fun c7 => ?_)
  · refine g_aload_n C dX10_goes_73 rfl ?_
    refine g_getR (ci := 10) (k := 8) (q := 107) C dX10_goes_74 rfl inGX10 (by decide) fwX10_23 ly_103 (by decide) rfl rfl ?_
    refine g_iload_n C dX10_goes_77 rfl ?_
    refine g_ialdv (v := nI (P.kd p k)) (12 * p + k) C dX10_goes_78 ly_107 (by decide) (by decide) rfl (show 12 * p + k < 132 by omega) (by rw [wk_off (Or.inl (by decide))]; exact hL.1) ?_
    refine g_iconst (v := 2) C dX10_goes_79 (by decide) ?_
    refine g_icmp_ne 156 C dX10_goes_80 (by decide) (fun c80 => ?_) (fun c80 => ?_)
    · exact absurd (by rw [h2]; rfl) c80
    · refine g_aload_n C dX10_goes_83 rfl ?_
      refine g_bipush (v := 8) C dX10_goes_84 (by decide) ?_
      refine g_aload_n C dX10_goes_86 rfl ?_
      refine g_getR (ci := 10) (k := 9) (q := 108) C dX10_goes_87 rfl inGX10 (by decide) fwX10_26 ly_103 (by decide) rfl rfl ?_
      refine g_iload_n C dX10_goes_90 rfl ?_
      refine g_ialdv (v := nI (P.nu p k)) (12 * p + k) C dX10_goes_91 ly_108 (by decide) (by decide) rfl (show 12 * p + k < 132 by omega) (by rw [wk_off (Or.inl (by decide))]; exact hL.2.1) ?_
      refine g_imul C dX10_goes_92 ?_
      rw [mul8]
      refine g_aload_n C dX10_goes_93 rfl ?_
      refine g_getR (ci := 10) (k := 23) (q := 114) C dX10_goes_94 rfl inGX10 (by decide) fwX10_49 ly_103 (by decide) rfl rfl ?_
      refine g_bipush (v := 8) C dX10_goes_97 (by decide) ?_
      refine g_iload_n C dX10_goes_99 rfl ?_
      refine g_imul C dX10_goes_100 ?_
      rw [mul8]
      refine g_aload_n C dX10_goes_101 rfl ?_
      refine g_getR (ci := 10) (k := 10) (q := 109) C dX10_goes_102 rfl inGX10 (by decide) fwX10_29 ly_103 (by decide) rfl rfl ?_
      refine g_iload_n C dX10_goes_105 rfl ?_
      refine g_ialdv (v := nI (P.fs p k)) (12 * p + k) C dX10_goes_106 ly_109 (by decide) (by decide) rfl (show 12 * p + k < 132 by omega) (by rw [wk_off (Or.inl (by decide))]; exact hL.2.2.1) ?_
      refine g_iadd C dX10_goes_107 ?_
      rw [nI_add]
      refine g_ialdv (v := h (8 * p + P.fs p k)) (8 * p + P.fs p k) C dX10_goes_108 ly_114 (by decide) (by decide) rfl (show 8 * p + P.fs p k < 80 by omega) (wk_114 (by omega)) ?_
      refine gv2I (ci := 10) C dX10_goes_109 vwX10_comes mwX10_238 ⟨by decide, by decide⟩ rfl ly_103 (Nat.le_of_ble_eq_true rfl) (s_comesW (q := 8 * P.nu p k) (by omega)) (Nat.le_of_ble_eq_true rfl) rfl ⟨by decide, by decide⟩ ?_
      refine g_istore_3 C dX10_goes_112 (by decide) ?_
      refine g_aload_n C dX10_goes_113 rfl ?_
      refine g_bipush (v := 8) C dX10_goes_114 (by decide) ?_
      refine g_iload_n C dX10_goes_116 rfl ?_
      refine g_imul C dX10_goes_117 ?_
      rw [mul8]
      refine g_aload_n C dX10_goes_118 rfl ?_
      refine g_getR (ci := 10) (k := 11) (q := 110) C dX10_goes_119 rfl inGX10 (by decide) fwX10_32 ly_103 (by decide) rfl rfl ?_
      refine g_iload_n C dX10_goes_122 rfl ?_
      refine g_ialdv (v := nI (P.sc p k)) (12 * p + k) C dX10_goes_123 ly_110 (by decide) (by decide) rfl (show 12 * p + k < 132 by omega) (by rw [wk_off (Or.inl (by decide))]; exact hL.2.2.2.1 h2) ?_
      refine g_iadd C dX10_goes_124 ?_
      rw [nI_add]
      refine g_aload_n C dX10_goes_125 rfl ?_
      refine g_getR (ci := 10) (k := 25) (q := 116) C dX10_goes_126 rfl inGX10 (by decide) fwX10_55 ly_103 (by decide) rfl rfl ?_
      refine g_aload_n C dX10_goes_129 rfl ?_
      refine g_getR (ci := 10) (k := 9) (q := 108) C dX10_goes_130 rfl inGX10 (by decide) fwX10_26 ly_103 (by decide) rfl rfl ?_
      refine g_iload_n C dX10_goes_133 rfl ?_
      refine g_ialdv (v := nI (P.nu p k)) (12 * p + k) C dX10_goes_134 ly_108 (by decide) (by decide) rfl (show 12 * p + k < 132 by omega) (by rw [wk_off (Or.inl (by decide))]; exact hL.2.1) ?_
      refine g_ialdv (v := r (P.nu p k)) (P.nu p k) C dX10_goes_135 ly_116 (by decide) (by decide) rfl (show P.nu p k < 10 by omega) (wk_116 (by omega)) ?_
      refine gv2I (ci := 10) C dX10_goes_136 vwX10_comes mwX10_238 ⟨by decide, by decide⟩ rfl ly_103 (Nat.le_of_ble_eq_true rfl) (s_comesW (q := 8 * p + P.sc p k) (by omega)) (Nat.le_of_ble_eq_true rfl) rfl ⟨by decide, by decide⟩ ?_
      refine g_istore_4 C dX10_goes_139 (by decide) ?_
      refine g_iload_n C dX10_goes_141 rfl ?_
      refine g_if_ne 150 C dX10_goes_142 (by decide) (fun c142 => ?_) (fun c142 => ?_)
      · have g142 := c142
        refine g_iconst (v := 1) C dX10_goes_150 (by decide) ?_
        refine g_goto 155 C dX10_goes_151 (by decide) ?_
        exact e_Z C dX10_goes_155 rfl rfl rfl (by first | exact Or.inl rfl | exact Or.inr rfl) (by first | exact or2_0 c142 c147 | exact or2_1 c142 | exact or2_2 c147) rfl
      · have g142 := c142
        refine g_iload C dX10_goes_145 rfl ?_
        refine g_if_eq 154 C dX10_goes_147 (by decide) (fun c147 => ?_) (fun c147 => ?_)
        · refine g_iconst (v := 0) C dX10_goes_154 (by decide) ?_
          exact e_Z C dX10_goes_155 rfl rfl rfl (by first | exact Or.inl rfl | exact Or.inr rfl) (by first | exact or2_0 c142 c147 | exact or2_1 c142 | exact or2_2 c147) rfl
        · refine g_iconst (v := 1) C dX10_goes_150 (by decide) ?_
          refine g_goto 155 C dX10_goes_151 (by decide) ?_
          exact e_Z C dX10_goes_155 rfl rfl rfl (by first | exact Or.inl rfl | exact Or.inr rfl) (by first | exact or2_0 c142 c147 | exact or2_1 c142 | exact or2_2 c147) rfl
  · exact absurd ((nI_eq (b := 1) (by omega) (by decide)).mp c7) (by omega)
set_option maxHeartbeats 1000000 in
theorem s_goes5 {l : Launch} {G : Gm} {I : Nat → Nat → Int32} {J : Nat → Nat → Int64} {a h w r lk : Rw} {n : Nat} {P : Pln} (hm : mOK I n P) {p k : Nat} (hp : p < n) (hk : k < P.ml p) (h5 : P.kd p k = 5) : Sp l G iX10_goes [.ref (G.1 + 103), .int (nI p), .int (nI (12 * p + k))] (mm (wkM I a h w r lk) J) (RetI (go5 P p k (h, r)).2 (mm (wkM I a (go5 P p k (h, r)).1.1 w (go5 P p k (h, r)).1.2 lk) J)) noT := by
  refine Sp.of (by decide +kernel) (Nat.le_of_ble_eq_true rfl) ?_
  intro X hXl C
  subst hXl
  show Go X G 5 0 0 _ 0 [.ref (G.1 + 103), .int (nI p), .int (nI (12 * p + k)), uu, uu] [] (mm (wkM I a h w r lk) J)
  obtain ⟨hok, hn, hml, hli⟩ := hm
  have hn10 := hok.1
  have hL := hli p hp k hk
  have hLo := hok.2.2 p hp k hk
  have hm12 := hok.2.1 p
  refine g_aload_n C dX10_goes_0 rfl ?_
  refine g_getR (ci := 10) (k := 8) (q := 107) C dX10_goes_1 rfl inGX10 (by decide) fwX10_23 ly_103 (by decide) rfl rfl ?_
  refine g_iload_n C dX10_goes_4 rfl ?_
  refine g_ialdv (v := nI (P.kd p k)) (12 * p + k) C dX10_goes_5 ly_107 (by decide) (by decide) rfl (show 12 * p + k < 132 by omega) (by rw [wk_off (Or.inl (by decide))]; exact hL.1) ?_
  refine g_iconst (v := 1) C dX10_goes_6 (by decide) ?_
  refine g_icmp_ne 73 C dX10_goes_7 (by decide) (fun c7 => ?_) (fun c7 => ?_)
  · refine g_aload_n C dX10_goes_73 rfl ?_
    refine g_getR (ci := 10) (k := 8) (q := 107) C dX10_goes_74 rfl inGX10 (by decide) fwX10_23 ly_103 (by decide) rfl rfl ?_
    refine g_iload_n C dX10_goes_77 rfl ?_
    refine g_ialdv (v := nI (P.kd p k)) (12 * p + k) C dX10_goes_78 ly_107 (by decide) (by decide) rfl (show 12 * p + k < 132 by omega) (by rw [wk_off (Or.inl (by decide))]; exact hL.1) ?_
    refine g_iconst (v := 2) C dX10_goes_79 (by decide) ?_
    refine g_icmp_ne 156 C dX10_goes_80 (by decide) (fun c80 => ?_) (fun c80 => ?_)
    · refine g_aload_n C dX10_goes_156 rfl ?_
      refine g_getR (ci := 10) (k := 8) (q := 107) C dX10_goes_157 rfl inGX10 (by decide) fwX10_23 ly_103 (by decide) rfl rfl ?_
      refine g_iload_n C dX10_goes_160 rfl ?_
      refine g_ialdv (v := nI (P.kd p k)) (12 * p + k) C dX10_goes_161 ly_107 (by decide) (by decide) rfl (show 12 * p + k < 132 by omega) (by rw [wk_off (Or.inl (by decide))]; exact hL.1) ?_
      refine g_iconst (v := 5) C dX10_goes_162 (by decide) ?_
      refine g_icmp_eq 168 C dX10_goes_163 (by decide) (fun c163 => ?_) (fun c163 => ?_)
      · refine g_aload_n C dX10_goes_168 rfl ?_
        refine g_getR (ci := 10) (k := 25) (q := 116) C dX10_goes_169 rfl inGX10 (by decide) fwX10_55 ly_103 (by decide) rfl rfl ?_
        refine g_iload_n C dX10_goes_172 rfl ?_
        refine g_ialdv (v := r p) p C dX10_goes_173 ly_116 (by decide) (by decide) rfl (show p < 10 by omega) (wk_116 (by omega)) ?_
        refine g_istore_3 C dX10_goes_174 (by decide) ?_
        refine g_aload_n C dX10_goes_175 rfl ?_
        refine g_getR (ci := 10) (k := 25) (q := 116) C dX10_goes_176 rfl inGX10 (by decide) fwX10_55 ly_103 (by decide) rfl rfl ?_
        refine g_iload_n C dX10_goes_179 rfl ?_
        refine g_dup2 C dX10_goes_180 rfl rfl ?_
        refine g_ialdv (v := r p) p C dX10_goes_181 ly_116 (by decide) (by decide) rfl (show p < 10 by omega) (wk_116 (by omega)) ?_
        refine g_aload_n C dX10_goes_182 rfl ?_
        refine g_getR (ci := 10) (k := 23) (q := 114) C dX10_goes_183 rfl inGX10 (by decide) fwX10_49 ly_103 (by decide) rfl rfl ?_
        refine g_bipush (v := 8) C dX10_goes_186 (by decide) ?_
        refine g_iload_n C dX10_goes_188 rfl ?_
        refine g_imul C dX10_goes_189 ?_
        rw [mul8]
        refine g_aload_n C dX10_goes_190 rfl ?_
        refine g_getR (ci := 10) (k := 10) (q := 109) C dX10_goes_191 rfl inGX10 (by decide) fwX10_29 ly_103 (by decide) rfl rfl ?_
        refine g_iload_n C dX10_goes_194 rfl ?_
        refine g_ialdv (v := nI (P.fs p k)) (12 * p + k) C dX10_goes_195 ly_109 (by decide) (by decide) rfl (show 12 * p + k < 132 by omega) (by rw [wk_off (Or.inl (by decide))]; exact hL.2.2.1) ?_
        refine g_iadd C dX10_goes_196 ?_
        rw [nI_add]
        refine g_ialdv (v := h (8 * p + P.fs p k)) (8 * p + P.fs p k) C dX10_goes_197 ly_114 (by decide) (by decide) rfl (show 8 * p + P.fs p k < 80 by omega) (wk_114 (by omega)) ?_
        refine g_ior C dX10_goes_198 ?_
        refine g_iast p C dX10_goes_199 ly_116 (by decide) (by decide) rfl (show p < 10 by omega) ?_
        rw [wk_up116 (show p < 10 by omega)]
        refine g_aload_n C dX10_goes_200 rfl ?_
        refine g_getR (ci := 10) (k := 25) (q := 116) C dX10_goes_201 rfl inGX10 (by decide) fwX10_55 ly_103 (by decide) rfl rfl ?_
        refine g_iload_n C dX10_goes_204 rfl ?_
        refine g_ialdv (v := r p ||| h (8 * p + P.fs p k)) p C dX10_goes_205 ly_116 (by decide) (by decide) rfl (show p < 10 by omega) ((wk_116 (by omega)).trans (by simp [upd])) ?_
        refine g_iload_n C dX10_goes_206 rfl ?_
        refine g_icmp_eq 214 C dX10_goes_207 (by decide) (fun c207 => ?_) (fun c207 => ?_)
        · refine g_iconst (v := 0) C dX10_goes_214 (by decide) ?_
          exact e_Z C dX10_goes_215 rfl rfl rfl (by first | exact Or.inl rfl | exact Or.inr rfl) (by first | exact (if_pos c207).symm | exact (if_neg c207).symm) rfl
        · refine g_iconst (v := 1) C dX10_goes_210 (by decide) ?_
          refine g_goto 215 C dX10_goes_211 (by decide) ?_
          exact e_Z C dX10_goes_215 rfl rfl rfl (by first | exact Or.inl rfl | exact Or.inr rfl) (by first | exact (if_pos c207).symm | exact (if_neg c207).symm) rfl
      · exact absurd (by rw [h5]; rfl) c163
    · exact absurd ((nI_eq (b := 2) (by omega) (by decide)).mp c80) (by omega)
  · exact absurd ((nI_eq (b := 1) (by omega) (by decide)).mp c7) (by omega)
set_option maxHeartbeats 1000000 in
theorem s_goes0 {l : Launch} {G : Gm} {I : Nat → Nat → Int32} {J : Nat → Nat → Int64} {a h w r lk : Rw} {n : Nat} {P : Pln} (hm : mOK I n P) {p k : Nat} (hp : p < n) (hk : k < P.ml p) (h1 : ¬ P.kd p k = 1) (h2 : ¬ P.kd p k = 2) (h5 : ¬ P.kd p k = 5) : Sp l G iX10_goes [.ref (G.1 + 103), .int (nI p), .int (nI (12 * p + k))] (mm (wkM I a h w r lk) J) (RetI 0 (mm (wkM I a h w r lk) J)) noT := by
  refine Sp.of (by decide +kernel) (Nat.le_of_ble_eq_true rfl) ?_
  intro X hXl C
  subst hXl
  show Go X G 5 0 0 _ 0 [.ref (G.1 + 103), .int (nI p), .int (nI (12 * p + k)), uu, uu] [] (mm (wkM I a h w r lk) J)
  obtain ⟨hok, hn, hml, hli⟩ := hm
  have hn10 := hok.1
  have hL := hli p hp k hk
  have hLo := hok.2.2 p hp k hk
  have hm12 := hok.2.1 p
  refine g_aload_n C dX10_goes_0 rfl ?_
  refine g_getR (ci := 10) (k := 8) (q := 107) C dX10_goes_1 rfl inGX10 (by decide) fwX10_23 ly_103 (by decide) rfl rfl ?_
  refine g_iload_n C dX10_goes_4 rfl ?_
  refine g_ialdv (v := nI (P.kd p k)) (12 * p + k) C dX10_goes_5 ly_107 (by decide) (by decide) rfl (show 12 * p + k < 132 by omega) (by rw [wk_off (Or.inl (by decide))]; exact hL.1) ?_
  refine g_iconst (v := 1) C dX10_goes_6 (by decide) ?_
  refine g_icmp_ne 73 C dX10_goes_7 (by decide) (fun c7 => ?_) (fun c7 => ?_)
  · refine g_aload_n C dX10_goes_73 rfl ?_
    refine g_getR (ci := 10) (k := 8) (q := 107) C dX10_goes_74 rfl inGX10 (by decide) fwX10_23 ly_103 (by decide) rfl rfl ?_
    refine g_iload_n C dX10_goes_77 rfl ?_
    refine g_ialdv (v := nI (P.kd p k)) (12 * p + k) C dX10_goes_78 ly_107 (by decide) (by decide) rfl (show 12 * p + k < 132 by omega) (by rw [wk_off (Or.inl (by decide))]; exact hL.1) ?_
    refine g_iconst (v := 2) C dX10_goes_79 (by decide) ?_
    refine g_icmp_ne 156 C dX10_goes_80 (by decide) (fun c80 => ?_) (fun c80 => ?_)
    · refine g_aload_n C dX10_goes_156 rfl ?_
      refine g_getR (ci := 10) (k := 8) (q := 107) C dX10_goes_157 rfl inGX10 (by decide) fwX10_23 ly_103 (by decide) rfl rfl ?_
      refine g_iload_n C dX10_goes_160 rfl ?_
      refine g_ialdv (v := nI (P.kd p k)) (12 * p + k) C dX10_goes_161 ly_107 (by decide) (by decide) rfl (show 12 * p + k < 132 by omega) (by rw [wk_off (Or.inl (by decide))]; exact hL.1) ?_
      refine g_iconst (v := 5) C dX10_goes_162 (by decide) ?_
      refine g_icmp_eq 168 C dX10_goes_163 (by decide) (fun c163 => ?_) (fun c163 => ?_)
      · exact absurd ((nI_eq (b := 5) (by omega) (by decide)).mp c163) h5
      · refine g_iconst (v := 0) C dX10_goes_166 (by decide) ?_
        exact e_Z C dX10_goes_167 rfl rfl rfl (by first | exact Or.inl rfl | exact Or.inr rfl) rfl rfl
    · exact absurd ((nI_eq (b := 2) (by omega) (by decide)).mp c80) h2
  · exact absurd ((nI_eq (b := 1) (by omega) (by decide)).mp c7) h1
theorem s_goes {l : Launch} {G : Gm} {I : Nat → Nat → Int32} {J : Nat → Nat → Int64} {a w lk : Rw} {s : HR} {n : Nat} {P : Pln} (hm : mOK I n P) {p k : Nat} (hp : p < n) (hk : k < P.ml p) : Sp l G iX10_goes [.ref (G.1 + 103), .int (nI p), .int (nI (12 * p + k))] (mm (wkM I a s.1 w s.2 lk) J) (RetI (goF P w p k s).2 (mm (wkM I a (goF P w p k s).1.1 w (goF P w p k s).1.2 lk) J)) noT := by
  unfold goF
  by_cases h1 : P.kd p k = 1
  · rw [if_pos h1]; exact s_goes1 hm hp hk h1
  · rw [if_neg h1]
    by_cases h2 : P.kd p k = 2
    · rw [if_pos h2]; exact s_goes2 hm hp hk h2
    · rw [if_neg h2]
      by_cases h5 : P.kd p k = 5
      · rw [if_pos h5]; exact s_goes5 hm hp hk h5
      · rw [if_neg h5]; exact s_goes0 hm hp hk h1 h2 h5
