/-! ## where a line leads -/
def ntN (w : Rw) (sec : Nat) (q : Nat) : Option Nat := if hb (w q) (nI sec) = 0 then some q else none
def lsF (P : Pln) (st p k : Nat) (i : Nat) (b : Int32) : Int32 := if ¬ b = 0 ∨ st = 8 * p + P.fr p k i then 1 else 0
def ldN (P : Pln) (w g : Rw) (sec door st p k : Nat) : Option Nat :=
  if P.kd p k = 1 then (if it (lsF P st p k) (P.nu p k) 0 = 0 then none else ntN w sec (8 * p + P.fs p k))
  else if P.kd p k = 2 then (if st = 80 + P.nu p k then ntN w sec (8 * p + P.sc p k) else if st = 8 * p + P.fs p k then ntN w sec (8 * P.nu p k) else none)
  else if P.kd p k = 3 then (if st = 8 * p + P.fs p k ∧ P.nu p k = door ∧ (g p >>> (nI door &&& 31)) &&& 1 = 1 then some 90 else none)
  else if P.kd p k = 5 then (if st = 8 * p + P.fs p k then some (80 + p) else none) else none
def oV (o : Option Nat) : Int32 := match o with
  | none => -2
  | some q => nI q
theorem s_intoN {l : Launch} {G : Gm} {I : Nat → Nat → Int32} {J : Nat → Nat → Int64} {q sec : Nat} (hq : q < 80) : Sp l G iX10_into [.ref (G.1 + 103), .int (nI q), .int (nI sec)] (mm I J) (RetI (oV (ntN (I 115) sec q)) (mm I J)) noT := by
  have := s_into (l := l) (G := G) (I := I) (J := J) (s := nI sec) hq
  unfold ntN
  by_cases h : hb (I 115 q) (nI sec) = 0
  · rw [if_pos h] at this ⊢; exact this
  · rw [if_neg h] at this ⊢; exact this
theorem ntN_lt {w : Rw} {sec q t : Nat} (h : ntN w sec q = some t) : t = q := by
  unfold ntN at h
  split at h
  · cases h; rfl
  · cases h
theorem ldN_le {P : Pln} {n : Nat} (hok : P.ok n) {w g : Rw} {sec door st p k t : Nat} (hp : p < n) (hk : k < P.ml p) (h : ldN P w g sec door st p k = some t) : t ≤ 90 := by
  have hLo := hok.2.2 p hp k hk
  have hn := hok.1
  unfold ldN at h
  split at h
  · split at h
    · cases h
    · have := ntN_lt h; omega
  · split at h
    · next h2 =>
      have := hLo.2.2.2.1 h2
      split at h
      · have := ntN_lt h; omega
      · split at h
        · have := ntN_lt h; omega
        · cases h
    · split at h
      · split at h
        · cases h; omega
        · cases h
      · split at h
        · split at h
          · cases h; omega
          · cases h
        · cases h
set_option maxHeartbeats 1000000 in
theorem s_leads1 {l : Launch} {G : Gm} {I : Nat → Nat → Int32} {J : Nat → Nat → Int64} {n : Nat} {P : Pln} (hm : mOK I n P) {p k : Nat} (hp : p < n) (hk : k < P.ml p) {st sec door : Nat} (hst : st < 1000) (hdo : door < 16) (hkd : P.kd p k = 1) : Sp l G iX10_leads [.ref (G.1 + 103), .int (nI st), .int (nI p), .int (nI (12 * p + k)), .int (nI sec), .int (nI door)] (mm I J) (RetI (oV (ldN P (I 115) (I 104) sec door st p k)) (mm I J)) noT := by
  refine Sp.of (by decide +kernel) (Nat.le_of_ble_eq_true rfl) ?_
  intro X hXl C
  subst hXl
  show Go X G 9 0 0 _ 0 [.ref (G.1 + 103), .int (nI st), .int (nI p), .int (nI (12 * p + k)), .int (nI sec), .int (nI door), uu, uu, uu] [] (mm I J)
  obtain ⟨hok, hn, hml, hli⟩ := hm
  have hn10 := hok.1
  have hL := hli p hp k hk
  have hLo := hok.2.2 p hp k hk
  have hm12 := hok.2.1 p
  have hld : ldN P (I 115) (I 104) sec door st p k = (if it (lsF P st p k) (P.nu p k) 0 = 0 then none else ntN (I 115) sec (8 * p + P.fs p k)) := if_pos hkd
  have loop : ∀ i : Nat, i ≤ P.nu p k → Go X G 9 0 0 (KQ X G iX10_leads (RetI (oV (ldN P (I 115) (I 104) sec door st p k)) (mm I J)) noT) 54 [.ref (G.1 + 103), .int (nI st), .int (nI p), .int (nI (12 * p + k)), .int (nI sec), .int (nI door), .int (nI (8 * p)), .int (it (lsF P st p k) i 0), .int (nI i)] [] (mm I J) := by
    refine loopN (P.nu p k) ?_ ?_
    · skip
      show Go X G 9 0 0 _ 54 _ [] _
      have hn4 := (hLo.2.2.2.2 hkd).1
      refine g_iload C dX10_leads_54 rfl ?_
      refine g_aload_n C dX10_leads_56 rfl ?_
      refine g_getR (ci := 10) (k := 9) (q := 108) C dX10_leads_57 rfl inGX10 (by decide) fwX10_26 ly_103 (by decide) rfl rfl ?_
      refine g_iload_n C dX10_leads_60 rfl ?_
      refine g_ialdv (v := nI (P.nu p k)) (12 * p + k) C dX10_leads_61 ly_108 (by decide) (by decide) rfl (show 12 * p + k < 132 by omega) (hL.2.1) ?_
      refine g_icmp_ge 101 C dX10_leads_62 (by decide) (fun c62 => ?_) (fun c62 => ?_)
      · refine g_iload C dX10_leads_101 rfl ?_
        refine g_if_eq 124 C dX10_leads_103 (by decide) (fun c103 => ?_) (fun c103 => ?_)
        · skip
          refine g_bipush (v := (-2)) C dX10_leads_124 (by decide) ?_
          exact e_I C dX10_leads_126 rfl rfl rfl (by first | (rw [hld, if_pos c103]; done) | (rw [hld, if_pos c103]; rfl) | (rw [hld, if_neg c103]; done) | (rw [hld, if_neg c103])) rfl
        · skip
          refine g_aload_n C dX10_leads_106 rfl ?_
          refine g_iload C dX10_leads_107 rfl ?_
          refine g_aload_n C dX10_leads_109 rfl ?_
          refine g_getR (ci := 10) (k := 10) (q := 109) C dX10_leads_110 rfl inGX10 (by decide) fwX10_29 ly_103 (by decide) rfl rfl ?_
          refine g_iload_n C dX10_leads_113 rfl ?_
          refine g_ialdv (v := nI (P.fs p k)) (12 * p + k) C dX10_leads_114 ly_109 (by decide) (by decide) rfl (show 12 * p + k < 132 by omega) (hL.2.2.1) ?_
          refine g_iadd C dX10_leads_115 ?_
          rw [nI_add]
          refine g_iload C dX10_leads_116 rfl ?_
          refine gv2I (ci := 10) C dX10_leads_118 vwX10_into mwX10_250 ⟨by decide, by decide⟩ rfl ly_103 (Nat.le_of_ble_eq_true rfl) (s_intoN (show 8 * p + P.fs p k < 80 by omega)) (Nat.le_of_ble_eq_true rfl) rfl ⟨by decide, by decide⟩ ?_
          refine g_goto 126 C dX10_leads_121 (by decide) ?_
          exact e_I C dX10_leads_126 rfl rfl rfl (by first | (rw [hld, if_pos c103]; done) | (rw [hld, if_pos c103]; rfl) | (rw [hld, if_neg c103]; done) | (rw [hld, if_neg c103])) rfl
      · exact absurd (Int32.le_refl _) c62
    · intro i hi ih 
      show Go X G 9 0 0 _ 54 _ [] _
      have hfr := (hLo.2.2.2.2 hkd).2 i hi
      have hn4 := (hLo.2.2.2.2 hkd).1
      refine g_iload C dX10_leads_54 rfl ?_
      refine g_aload_n C dX10_leads_56 rfl ?_
      refine g_getR (ci := 10) (k := 9) (q := 108) C dX10_leads_57 rfl inGX10 (by decide) fwX10_26 ly_103 (by decide) rfl rfl ?_
      refine g_iload_n C dX10_leads_60 rfl ?_
      refine g_ialdv (v := nI (P.nu p k)) (12 * p + k) C dX10_leads_61 ly_108 (by decide) (by decide) rfl (show 12 * p + k < 132 by omega) (hL.2.1) ?_
      refine g_icmp_ge 101 C dX10_leads_62 (by decide) (fun c62 => ?_) (fun c62 => ?_)
      · exact (nI_ge_dead (n := P.nu p k) c62 hi (by omega)).elim
      · refine g_iload C dX10_leads_65 rfl ?_
        refine g_if_ne 88 C dX10_leads_67 (by decide) (fun c67 => ?_) (fun c67 => ?_)
        · refine g_iconst (v := 1) C dX10_leads_88 (by decide) ?_
          refine g_goto 93 C dX10_leads_89 (by decide) ?_
          refine g_istore_7 C dX10_leads_93 (by decide) ?_
          refine g_iinc_8 C dX10_leads_95 (nI_1 i) (by decide) ?_
          refine g_goto 54 C dX10_leads_98 (by decide) ?_
          first
            | (have h9 : it (lsF P st p k) (i + 1) 0 = 1 := if_pos (Or.inl c67)
               rw [h9] at ih; exact ih)
            | (have h9 : it (lsF P st p k) (i + 1) 0 = 1 := if_pos (Or.inr g85)
               rw [h9] at ih; exact ih)
            | (have h9 : it (lsF P st p k) (i + 1) 0 = 0 := if_neg (fun q => q.elim (fun z => z c67) g85)
               rw [h9] at ih; exact ih)
        · refine g_iload_n C dX10_leads_70 rfl ?_
          refine g_iload C dX10_leads_71 rfl ?_
          refine g_aload_n C dX10_leads_73 rfl ?_
          refine g_getR (ci := 10) (k := 12) (q := 111) C dX10_leads_74 rfl inGX10 (by decide) fwX10_35 ly_103 (by decide) rfl rfl ?_
          refine g_iconst (v := 4) C dX10_leads_77 (by decide) ?_
          refine g_iload_n C dX10_leads_78 rfl ?_
          refine g_imul C dX10_leads_79 ?_
          rw [mul4]
          refine g_iload C dX10_leads_80 rfl ?_
          refine g_iadd C dX10_leads_82 ?_
          rw [nI_add]
          refine g_ialdv (v := nI (P.fr p k i)) (4 * (12 * p + k) + i) C dX10_leads_83 ly_111 (by decide) (by decide) rfl (show 4 * (12 * p + k) + i < 528 by omega) (hL.2.2.2.2 hkd i hi) ?_
          refine g_iadd C dX10_leads_84 ?_
          rw [nI_add]
          refine g_icmp_ne 92 C dX10_leads_85 (by decide) (fun c85 => ?_) (fun c85 => ?_)
          · have g85 : ¬ st = 8 * p + P.fr p k i := fun q => c85 (by rw [q])
            refine g_iconst (v := 0) C dX10_leads_92 (by decide) ?_
            refine g_istore_7 C dX10_leads_93 (by decide) ?_
            refine g_iinc_8 C dX10_leads_95 (nI_1 i) (by decide) ?_
            refine g_goto 54 C dX10_leads_98 (by decide) ?_
            first
              | (have h9 : it (lsF P st p k) (i + 1) 0 = 1 := if_pos (Or.inl c67)
                 rw [h9] at ih; exact ih)
              | (have h9 : it (lsF P st p k) (i + 1) 0 = 1 := if_pos (Or.inr g85)
                 rw [h9] at ih; exact ih)
              | (have h9 : it (lsF P st p k) (i + 1) 0 = 0 := if_neg (fun q => q.elim (fun z => z c67) g85)
                 rw [h9] at ih; exact ih)
          · have g85 : st = 8 * p + P.fr p k i := (nI_eq (by omega) (by omega)).mp c85
            refine g_iconst (v := 1) C dX10_leads_88 (by decide) ?_
            refine g_goto 93 C dX10_leads_89 (by decide) ?_
            refine g_istore_7 C dX10_leads_93 (by decide) ?_
            refine g_iinc_8 C dX10_leads_95 (nI_1 i) (by decide) ?_
            refine g_goto 54 C dX10_leads_98 (by decide) ?_
            first
              | (have h9 : it (lsF P st p k) (i + 1) 0 = 1 := if_pos (Or.inl c67)
                 rw [h9] at ih; exact ih)
              | (have h9 : it (lsF P st p k) (i + 1) 0 = 1 := if_pos (Or.inr g85)
                 rw [h9] at ih; exact ih)
              | (have h9 : it (lsF P st p k) (i + 1) 0 = 0 := if_neg (fun q => q.elim (fun z => z c67) g85)
                 rw [h9] at ih; exact ih)
  refine g_bipush (v := 8) C dX10_leads_0 (by decide) ?_
  refine g_iload_n C dX10_leads_2 rfl ?_
  refine g_imul C dX10_leads_3 ?_
  rw [mul8]
  refine g_istore_6 C dX10_leads_4 (by decide) ?_
  refine g_aload_n C dX10_leads_6 rfl ?_
  refine g_getR (ci := 10) (k := 8) (q := 107) C dX10_leads_7 rfl inGX10 (by decide) fwX10_23 ly_103 (by decide) rfl rfl ?_
  refine g_iload_n C dX10_leads_10 rfl ?_
  refine g_ialdv (v := 1) (12 * p + k) C dX10_leads_11 ly_107 (by decide) (by decide) rfl (show 12 * p + k < 132 by omega) (hL.1.trans (by rw [hkd]; rfl)) ?_
  refine g_tabIn 48 C dX10_leads_12 (by decide) (by decide) rfl (by decide) ?_
  refine g_iconst (v := 0) C dX10_leads_48 (by decide) ?_
  refine g_istore_7 C dX10_leads_49 (by decide) ?_
  refine g_iconst (v := 0) C dX10_leads_51 (by decide) ?_
  refine g_istore_8 C dX10_leads_52 (by decide) ?_
  exact loop 0 (Nat.zero_le _)
set_option maxHeartbeats 1000000 in
theorem s_leads2 {l : Launch} {G : Gm} {I : Nat → Nat → Int32} {J : Nat → Nat → Int64} {n : Nat} {P : Pln} (hm : mOK I n P) {p k : Nat} (hp : p < n) (hk : k < P.ml p) {st sec door : Nat} (hst : st < 1000) (hdo : door < 16) (hkd : P.kd p k = 2) : Sp l G iX10_leads [.ref (G.1 + 103), .int (nI st), .int (nI p), .int (nI (12 * p + k)), .int (nI sec), .int (nI door)] (mm I J) (RetI (oV (ldN P (I 115) (I 104) sec door st p k)) (mm I J)) noT := by
  refine Sp.of (by decide +kernel) (Nat.le_of_ble_eq_true rfl) ?_
  intro X hXl C
  subst hXl
  show Go X G 9 0 0 _ 0 [.ref (G.1 + 103), .int (nI st), .int (nI p), .int (nI (12 * p + k)), .int (nI sec), .int (nI door), uu, uu, uu] [] (mm I J)
  obtain ⟨hok, hn, hml, hli⟩ := hm
  have hn10 := hok.1
  have hL := hli p hp k hk
  have hLo := hok.2.2 p hp k hk
  have hm12 := hok.2.1 p
  have hnu := hLo.2.2.2.1 hkd
  have hld : ldN P (I 115) (I 104) sec door st p k = (if st = 80 + P.nu p k then ntN (I 115) sec (8 * p + P.sc p k) else if st = 8 * p + P.fs p k then ntN (I 115) sec (8 * P.nu p k) else none) := (if_neg (by omega)).trans (if_pos hkd)
  refine g_bipush (v := 8) C dX10_leads_0 (by decide) ?_
  refine g_iload_n C dX10_leads_2 rfl ?_
  refine g_imul C dX10_leads_3 ?_
  rw [mul8]
  refine g_istore_6 C dX10_leads_4 (by decide) ?_
  refine g_aload_n C dX10_leads_6 rfl ?_
  refine g_getR (ci := 10) (k := 8) (q := 107) C dX10_leads_7 rfl inGX10 (by decide) fwX10_23 ly_103 (by decide) rfl rfl ?_
  refine g_iload_n C dX10_leads_10 rfl ?_
  refine g_ialdv (v := 2) (12 * p + k) C dX10_leads_11 ly_107 (by decide) (by decide) rfl (show 12 * p + k < 132 by omega) (hL.1.trans (by rw [hkd]; rfl)) ?_
  refine g_tabIn 127 C dX10_leads_12 (by decide) (by decide) rfl (by decide) ?_
  refine g_iload_n C dX10_leads_127 rfl ?_
  refine g_bipush (v := 80) C dX10_leads_128 (by decide) ?_
  refine g_aload_n C dX10_leads_130 rfl ?_
  refine g_getR (ci := 10) (k := 9) (q := 108) C dX10_leads_131 rfl inGX10 (by decide) fwX10_26 ly_103 (by decide) rfl rfl ?_
  refine g_iload_n C dX10_leads_134 rfl ?_
  refine g_ialdv (v := nI (P.nu p k)) (12 * p + k) C dX10_leads_135 ly_108 (by decide) (by decide) rfl (show 12 * p + k < 132 by omega) (hL.2.1) ?_
  refine g_iadd C dX10_leads_136 ?_
  rw [show (80 : Int32) + nI (P.nu p k) = nI (80 + P.nu p k) from nI_add 80 _]
  refine g_icmp_ne 156 C dX10_leads_137 (by decide) (fun c137 => ?_) (fun c137 => ?_)
  · have g137 : ¬ st = 80 + P.nu p k := fun q => c137 (by rw [q])
    refine g_iload_n C dX10_leads_156 rfl ?_
    refine g_iload C dX10_leads_157 rfl ?_
    refine g_aload_n C dX10_leads_159 rfl ?_
    refine g_getR (ci := 10) (k := 10) (q := 109) C dX10_leads_160 rfl inGX10 (by decide) fwX10_29 ly_103 (by decide) rfl rfl ?_
    refine g_iload_n C dX10_leads_163 rfl ?_
    refine g_ialdv (v := nI (P.fs p k)) (12 * p + k) C dX10_leads_164 ly_109 (by decide) (by decide) rfl (show 12 * p + k < 132 by omega) (hL.2.2.1) ?_
    refine g_iadd C dX10_leads_165 ?_
    rw [nI_add]
    refine g_icmp_ne 187 C dX10_leads_166 (by decide) (fun c166 => ?_) (fun c166 => ?_)
    · have g166 : ¬ st = 8 * p + P.fs p k := fun q => c166 (by rw [q])
      refine g_bipush (v := (-2)) C dX10_leads_187 (by decide) ?_
      exact e_I C dX10_leads_189 rfl rfl rfl (by first | (rw [hld, if_neg g137, if_pos g166]; done) | (rw [hld, if_neg g137, if_neg g166]; rfl)) rfl
    · have g166 : st = 8 * p + P.fs p k := (nI_eq (by omega) (by omega)).mp c166
      refine g_aload_n C dX10_leads_169 rfl ?_
      refine g_bipush (v := 8) C dX10_leads_170 (by decide) ?_
      refine g_aload_n C dX10_leads_172 rfl ?_
      refine g_getR (ci := 10) (k := 9) (q := 108) C dX10_leads_173 rfl inGX10 (by decide) fwX10_26 ly_103 (by decide) rfl rfl ?_
      refine g_iload_n C dX10_leads_176 rfl ?_
      refine g_ialdv (v := nI (P.nu p k)) (12 * p + k) C dX10_leads_177 ly_108 (by decide) (by decide) rfl (show 12 * p + k < 132 by omega) (hL.2.1) ?_
      refine g_imul C dX10_leads_178 ?_
      rw [mul8]
      refine g_iload C dX10_leads_179 rfl ?_
      refine gv2I (ci := 10) C dX10_leads_181 vwX10_into mwX10_250 ⟨by decide, by decide⟩ rfl ly_103 (Nat.le_of_ble_eq_true rfl) (s_intoN (show 8 * P.nu p k < 80 by omega)) (Nat.le_of_ble_eq_true rfl) rfl ⟨by decide, by decide⟩ ?_
      refine g_goto 189 C dX10_leads_184 (by decide) ?_
      exact e_I C dX10_leads_189 rfl rfl rfl (by first | (rw [hld, if_neg g137, if_pos g166]; done) | (rw [hld, if_neg g137, if_neg g166]; rfl)) rfl
  · have g137 : st = 80 + P.nu p k := (nI_eq (by omega) (by omega)).mp c137
    refine g_aload_n C dX10_leads_140 rfl ?_
    refine g_iload C dX10_leads_141 rfl ?_
    refine g_aload_n C dX10_leads_143 rfl ?_
    refine g_getR (ci := 10) (k := 11) (q := 110) C dX10_leads_144 rfl inGX10 (by decide) fwX10_32 ly_103 (by decide) rfl rfl ?_
    refine g_iload_n C dX10_leads_147 rfl ?_
    refine g_ialdv (v := nI (P.sc p k)) (12 * p + k) C dX10_leads_148 ly_110 (by decide) (by decide) rfl (show 12 * p + k < 132 by omega) (hL.2.2.2.1 hkd) ?_
    refine g_iadd C dX10_leads_149 ?_
    rw [nI_add]
    refine g_iload C dX10_leads_150 rfl ?_
    refine gv2I (ci := 10) C dX10_leads_152 vwX10_into mwX10_250 ⟨by decide, by decide⟩ rfl ly_103 (Nat.le_of_ble_eq_true rfl) (s_intoN (show 8 * p + P.sc p k < 80 by omega)) (Nat.le_of_ble_eq_true rfl) rfl ⟨by decide, by decide⟩ ?_
    exact e_I C dX10_leads_155 rfl rfl rfl (by rw [hld, if_pos g137]) rfl
set_option maxHeartbeats 1000000 in
theorem s_leads3 {l : Launch} {G : Gm} {I : Nat → Nat → Int32} {J : Nat → Nat → Int64} {n : Nat} {P : Pln} (hm : mOK I n P) {p k : Nat} (hp : p < n) (hk : k < P.ml p) {st sec door : Nat} (hst : st < 1000) (hdo : door < 16) (hkd : P.kd p k = 3) : Sp l G iX10_leads [.ref (G.1 + 103), .int (nI st), .int (nI p), .int (nI (12 * p + k)), .int (nI sec), .int (nI door)] (mm I J) (RetI (oV (ldN P (I 115) (I 104) sec door st p k)) (mm I J)) noT := by
  refine Sp.of (by decide +kernel) (Nat.le_of_ble_eq_true rfl) ?_
  intro X hXl C
  subst hXl
  show Go X G 9 0 0 _ 0 [.ref (G.1 + 103), .int (nI st), .int (nI p), .int (nI (12 * p + k)), .int (nI sec), .int (nI door), uu, uu, uu] [] (mm I J)
  obtain ⟨hok, hn, hml, hli⟩ := hm
  have hn10 := hok.1
  have hL := hli p hp k hk
  have hLo := hok.2.2 p hp k hk
  have hm12 := hok.2.1 p
  have hld : ldN P (I 115) (I 104) sec door st p k = (if st = 8 * p + P.fs p k ∧ P.nu p k = door ∧ (I 104 p >>> (nI door &&& 31)) &&& 1 = 1 then some 90 else none) := (if_neg (by omega)).trans ((if_neg (by omega)).trans (if_pos hkd))
  refine g_bipush (v := 8) C dX10_leads_0 (by decide) ?_
  refine g_iload_n C dX10_leads_2 rfl ?_
  refine g_imul C dX10_leads_3 ?_
  rw [mul8]
  refine g_istore_6 C dX10_leads_4 (by decide) ?_
  refine g_aload_n C dX10_leads_6 rfl ?_
  refine g_getR (ci := 10) (k := 8) (q := 107) C dX10_leads_7 rfl inGX10 (by decide) fwX10_23 ly_103 (by decide) rfl rfl ?_
  refine g_iload_n C dX10_leads_10 rfl ?_
  refine g_ialdv (v := 3) (12 * p + k) C dX10_leads_11 ly_107 (by decide) (by decide) rfl (show 12 * p + k < 132 by omega) (hL.1.trans (by rw [hkd]; rfl)) ?_
  refine g_tabIn 190 C dX10_leads_12 (by decide) (by decide) rfl (by decide) ?_
  refine g_iload_n C dX10_leads_190 rfl ?_
  refine g_iload C dX10_leads_191 rfl ?_
  refine g_aload_n C dX10_leads_193 rfl ?_
  refine g_getR (ci := 10) (k := 10) (q := 109) C dX10_leads_194 rfl inGX10 (by decide) fwX10_29 ly_103 (by decide) rfl rfl ?_
  refine g_iload_n C dX10_leads_197 rfl ?_
  refine g_ialdv (v := nI (P.fs p k)) (12 * p + k) C dX10_leads_198 ly_109 (by decide) (by decide) rfl (show 12 * p + k < 132 by omega) (hL.2.2.1) ?_
  refine g_iadd C dX10_leads_199 ?_
  rw [nI_add]
  refine g_icmp_ne 234 C dX10_leads_200 (by decide) (fun c200 => ?_) (fun c200 => ?_)
  · have g200 : ¬ st = 8 * p + P.fs p k := fun q => c200 (by rw [q])
    refine g_bipush (v := (-2)) C dX10_leads_234 (by decide) ?_
    exact e_I C dX10_leads_236 rfl rfl rfl (by first | (rw [hld, if_pos ⟨g200, g211, c226⟩]; rfl) | (rw [hld, if_neg (fun q => g200 q.1)]; rfl) | (rw [hld, if_neg (fun q => g211 q.2.1)]; rfl) | (rw [hld, if_neg (fun q => c226 q.2.2)]; rfl)) rfl
  · have g200 : st = 8 * p + P.fs p k := (nI_eq (by omega) (by omega)).mp c200
    refine g_aload_n C dX10_leads_203 rfl ?_
    refine g_getR (ci := 10) (k := 9) (q := 108) C dX10_leads_204 rfl inGX10 (by decide) fwX10_26 ly_103 (by decide) rfl rfl ?_
    refine g_iload_n C dX10_leads_207 rfl ?_
    refine g_ialdv (v := nI (P.nu p k)) (12 * p + k) C dX10_leads_208 ly_108 (by decide) (by decide) rfl (show 12 * p + k < 132 by omega) (hL.2.1) ?_
    refine g_iload C dX10_leads_209 rfl ?_
    refine g_icmp_ne 234 C dX10_leads_211 (by decide) (fun c211 => ?_) (fun c211 => ?_)
    · have g211 : ¬ P.nu p k = door := fun q => c211 (by rw [q])
      refine g_bipush (v := (-2)) C dX10_leads_234 (by decide) ?_
      exact e_I C dX10_leads_236 rfl rfl rfl (by first | (rw [hld, if_pos ⟨g200, g211, c226⟩]; rfl) | (rw [hld, if_neg (fun q => g200 q.1)]; rfl) | (rw [hld, if_neg (fun q => g211 q.2.1)]; rfl) | (rw [hld, if_neg (fun q => c226 q.2.2)]; rfl)) rfl
    · have g211 : P.nu p k = door := (nI_eq (by omega) (by omega)).mp c211
      refine g_aload_n C dX10_leads_214 rfl ?_
      refine g_getR (ci := 10) (k := 5) (q := 104) C dX10_leads_215 rfl inGX10 (by decide) fwX10_13 ly_103 (by decide) rfl rfl ?_
      refine g_iload_n C dX10_leads_218 rfl ?_
      refine g_iald _ C dX10_leads_219 ly_104 (by decide) (by decide) rfl (show p < 10 by omega) ?_
      refine g_iload C dX10_leads_220 rfl ?_
      refine g_ishr C dX10_leads_222 ?_
      refine g_iconst (v := 1) C dX10_leads_223 (by decide) ?_
      refine g_iand C dX10_leads_224 ?_
      refine g_iconst (v := 1) C dX10_leads_225 (by decide) ?_
      refine g_icmp_ne 234 C dX10_leads_226 (by decide) (fun c226 => ?_) (fun c226 => ?_)
      · skip
        refine g_bipush (v := (-2)) C dX10_leads_234 (by decide) ?_
        exact e_I C dX10_leads_236 rfl rfl rfl (by first | (rw [hld, if_pos ⟨g200, g211, c226⟩]; rfl) | (rw [hld, if_neg (fun q => g200 q.1)]; rfl) | (rw [hld, if_neg (fun q => g211 q.2.1)]; rfl) | (rw [hld, if_neg (fun q => c226 q.2.2)]; rfl)) rfl
      · skip
        refine g_bipush (v := 90) C dX10_leads_229 (by decide) ?_
        refine g_goto 236 C dX10_leads_231 (by decide) ?_
        exact e_I C dX10_leads_236 rfl rfl rfl (by first | (rw [hld, if_pos ⟨g200, g211, c226⟩]; rfl) | (rw [hld, if_neg (fun q => g200 q.1)]; rfl) | (rw [hld, if_neg (fun q => g211 q.2.1)]; rfl) | (rw [hld, if_neg (fun q => c226 q.2.2)]; rfl)) rfl
set_option maxHeartbeats 1000000 in
theorem s_leads5 {l : Launch} {G : Gm} {I : Nat → Nat → Int32} {J : Nat → Nat → Int64} {n : Nat} {P : Pln} (hm : mOK I n P) {p k : Nat} (hp : p < n) (hk : k < P.ml p) {st sec door : Nat} (hst : st < 1000) (hdo : door < 16) (hkd : P.kd p k = 5) : Sp l G iX10_leads [.ref (G.1 + 103), .int (nI st), .int (nI p), .int (nI (12 * p + k)), .int (nI sec), .int (nI door)] (mm I J) (RetI (oV (ldN P (I 115) (I 104) sec door st p k)) (mm I J)) noT := by
  refine Sp.of (by decide +kernel) (Nat.le_of_ble_eq_true rfl) ?_
  intro X hXl C
  subst hXl
  show Go X G 9 0 0 _ 0 [.ref (G.1 + 103), .int (nI st), .int (nI p), .int (nI (12 * p + k)), .int (nI sec), .int (nI door), uu, uu, uu] [] (mm I J)
  obtain ⟨hok, hn, hml, hli⟩ := hm
  have hn10 := hok.1
  have hL := hli p hp k hk
  have hLo := hok.2.2 p hp k hk
  have hm12 := hok.2.1 p
  have hld : ldN P (I 115) (I 104) sec door st p k = (if st = 8 * p + P.fs p k then some (80 + p) else none) := (if_neg (by omega)).trans ((if_neg (by omega)).trans ((if_neg (by omega)).trans (if_pos hkd)))
  refine g_bipush (v := 8) C dX10_leads_0 (by decide) ?_
  refine g_iload_n C dX10_leads_2 rfl ?_
  refine g_imul C dX10_leads_3 ?_
  rw [mul8]
  refine g_istore_6 C dX10_leads_4 (by decide) ?_
  refine g_aload_n C dX10_leads_6 rfl ?_
  refine g_getR (ci := 10) (k := 8) (q := 107) C dX10_leads_7 rfl inGX10 (by decide) fwX10_23 ly_103 (by decide) rfl rfl ?_
  refine g_iload_n C dX10_leads_10 rfl ?_
  refine g_ialdv (v := 5) (12 * p + k) C dX10_leads_11 ly_107 (by decide) (by decide) rfl (show 12 * p + k < 132 by omega) (hL.1.trans (by rw [hkd]; rfl)) ?_
  refine g_tabIn 237 C dX10_leads_12 (by decide) (by decide) rfl (by decide) ?_
  refine g_iload_n C dX10_leads_237 rfl ?_
  refine g_iload C dX10_leads_238 rfl ?_
  refine g_aload_n C dX10_leads_240 rfl ?_
  refine g_getR (ci := 10) (k := 10) (q := 109) C dX10_leads_241 rfl inGX10 (by decide) fwX10_29 ly_103 (by decide) rfl rfl ?_
  refine g_iload_n C dX10_leads_244 rfl ?_
  refine g_ialdv (v := nI (P.fs p k)) (12 * p + k) C dX10_leads_245 ly_109 (by decide) (by decide) rfl (show 12 * p + k < 132 by omega) (hL.2.2.1) ?_
  refine g_iadd C dX10_leads_246 ?_
  rw [nI_add]
  refine g_icmp_ne 257 C dX10_leads_247 (by decide) (fun c247 => ?_) (fun c247 => ?_)
  · have g247 : ¬ st = 8 * p + P.fs p k := fun q => c247 (by rw [q])
    refine g_bipush (v := (-2)) C dX10_leads_257 (by decide) ?_
    exact e_I C dX10_leads_259 rfl rfl rfl (by first | (rw [hld, if_pos g247]; rfl) | (rw [hld, if_neg g247]; rfl)) rfl
  · have g247 : st = 8 * p + P.fs p k := (nI_eq (by omega) (by omega)).mp c247
    refine g_bipush (v := 80) C dX10_leads_250 (by decide) ?_
    refine g_iload_n C dX10_leads_252 rfl ?_
    refine g_iadd C dX10_leads_253 ?_
    rw [show (80 : Int32) + nI p = nI (80 + p) from nI_add 80 _]
    refine g_goto 259 C dX10_leads_254 (by decide) ?_
    exact e_I C dX10_leads_259 rfl rfl rfl (by first | (rw [hld, if_pos g247]; rfl) | (rw [hld, if_neg g247]; rfl)) rfl
set_option maxHeartbeats 1000000 in
theorem s_leads0 {l : Launch} {G : Gm} {I : Nat → Nat → Int32} {J : Nat → Nat → Int64} {n : Nat} {P : Pln} (hm : mOK I n P) {p k : Nat} (hp : p < n) (hk : k < P.ml p) {st sec door : Nat} (hst : st < 1000) (hdo : door < 16) (hkd : P.kd p k = 0) : Sp l G iX10_leads [.ref (G.1 + 103), .int (nI st), .int (nI p), .int (nI (12 * p + k)), .int (nI sec), .int (nI door)] (mm I J) (RetI (oV (ldN P (I 115) (I 104) sec door st p k)) (mm I J)) noT := by
  refine Sp.of (by decide +kernel) (Nat.le_of_ble_eq_true rfl) ?_
  intro X hXl C
  subst hXl
  show Go X G 9 0 0 _ 0 [.ref (G.1 + 103), .int (nI st), .int (nI p), .int (nI (12 * p + k)), .int (nI sec), .int (nI door), uu, uu, uu] [] (mm I J)
  obtain ⟨hok, hn, hml, hli⟩ := hm
  have hn10 := hok.1
  have hL := hli p hp k hk
  have hLo := hok.2.2 p hp k hk
  have hm12 := hok.2.1 p
  have hld : ldN P (I 115) (I 104) sec door st p k = none := (if_neg (by omega)).trans ((if_neg (by omega)).trans ((if_neg (by omega)).trans (if_neg (by omega))))
  refine g_bipush (v := 8) C dX10_leads_0 (by decide) ?_
  refine g_iload_n C dX10_leads_2 rfl ?_
  refine g_imul C dX10_leads_3 ?_
  rw [mul8]
  refine g_istore_6 C dX10_leads_4 (by decide) ?_
  refine g_aload_n C dX10_leads_6 rfl ?_
  refine g_getR (ci := 10) (k := 8) (q := 107) C dX10_leads_7 rfl inGX10 (by decide) fwX10_23 ly_103 (by decide) rfl rfl ?_
  refine g_iload_n C dX10_leads_10 rfl ?_
  refine g_ialdv (v := 0) (12 * p + k) C dX10_leads_11 ly_107 (by decide) (by decide) rfl (show 12 * p + k < 132 by omega) (hL.1.trans (by rw [hkd]; rfl)) ?_
  refine g_tabOut 260 C dX10_leads_12 (by decide) (by decide) ?_
  refine g_bipush (v := (-2)) C dX10_leads_260 (by decide) ?_
  exact e_I C dX10_leads_262 rfl rfl rfl (by rw [hld]; rfl) rfl
set_option maxHeartbeats 1000000 in
theorem s_leads4 {l : Launch} {G : Gm} {I : Nat → Nat → Int32} {J : Nat → Nat → Int64} {n : Nat} {P : Pln} (hm : mOK I n P) {p k : Nat} (hp : p < n) (hk : k < P.ml p) {st sec door : Nat} (hst : st < 1000) (hdo : door < 16) (hkd : P.kd p k = 4) : Sp l G iX10_leads [.ref (G.1 + 103), .int (nI st), .int (nI p), .int (nI (12 * p + k)), .int (nI sec), .int (nI door)] (mm I J) (RetI (oV (ldN P (I 115) (I 104) sec door st p k)) (mm I J)) noT := by
  refine Sp.of (by decide +kernel) (Nat.le_of_ble_eq_true rfl) ?_
  intro X hXl C
  subst hXl
  show Go X G 9 0 0 _ 0 [.ref (G.1 + 103), .int (nI st), .int (nI p), .int (nI (12 * p + k)), .int (nI sec), .int (nI door), uu, uu, uu] [] (mm I J)
  obtain ⟨hok, hn, hml, hli⟩ := hm
  have hn10 := hok.1
  have hL := hli p hp k hk
  have hLo := hok.2.2 p hp k hk
  have hm12 := hok.2.1 p
  have hld : ldN P (I 115) (I 104) sec door st p k = none := (if_neg (by omega)).trans ((if_neg (by omega)).trans ((if_neg (by omega)).trans (if_neg (by omega))))
  refine g_bipush (v := 8) C dX10_leads_0 (by decide) ?_
  refine g_iload_n C dX10_leads_2 rfl ?_
  refine g_imul C dX10_leads_3 ?_
  rw [mul8]
  refine g_istore_6 C dX10_leads_4 (by decide) ?_
  refine g_aload_n C dX10_leads_6 rfl ?_
  refine g_getR (ci := 10) (k := 8) (q := 107) C dX10_leads_7 rfl inGX10 (by decide) fwX10_23 ly_103 (by decide) rfl rfl ?_
  refine g_iload_n C dX10_leads_10 rfl ?_
  refine g_ialdv (v := 4) (12 * p + k) C dX10_leads_11 ly_107 (by decide) (by decide) rfl (show 12 * p + k < 132 by omega) (hL.1.trans (by rw [hkd]; rfl)) ?_
  refine g_tabIn 260 C dX10_leads_12 (by decide) (by decide) rfl (by decide) ?_
  refine g_bipush (v := (-2)) C dX10_leads_260 (by decide) ?_
  exact e_I C dX10_leads_262 rfl rfl rfl (by rw [hld]; rfl) rfl
theorem s_leads {l : Launch} {G : Gm} {I : Nat → Nat → Int32} {J : Nat → Nat → Int64} {n : Nat} {P : Pln} (hm : mOK I n P) {p k : Nat} (hp : p < n) (hk : k < P.ml p) {st sec door : Nat} (hst : st < 1000) (hdo : door < 16) : Sp l G iX10_leads [.ref (G.1 + 103), .int (nI st), .int (nI p), .int (nI (12 * p + k)), .int (nI sec), .int (nI door)] (mm I J) (RetI (oV (ldN P (I 115) (I 104) sec door st p k)) (mm I J)) noT := by
  have h5 := (hm.1.2.2 p hp k hk).1
  rcases (show P.kd p k = 0 ∨ P.kd p k = 1 ∨ P.kd p k = 2 ∨ P.kd p k = 3 ∨ P.kd p k = 4 ∨ P.kd p k = 5 by omega) with h | h | h | h | h | h
  · exact s_leads0 hm hp hk hst hdo h
  · exact s_leads1 hm hp hk hst hdo h
  · exact s_leads2 hm hp hk hst hdo h
  · exact s_leads3 hm hp hk hst hdo h
  · exact s_leads4 hm hp hk hst hdo h
  · exact s_leads5 hm hp hk hst hdo h
