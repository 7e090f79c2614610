/-! ## a plan, apart from any memory: lines of each part; of each line kind, number, first, second, what a let is from -/
abbrev Pln : Type := (Nat → Nat) × (Nat → Nat → Nat × Nat × Nat × Nat × (Nat → Nat))
abbrev Pln.ml (P : Pln) (p : Nat) : Nat := P.1 p
abbrev Pln.kd (P : Pln) (p k : Nat) : Nat := (P.2 p k).1
abbrev Pln.nu (P : Pln) (p k : Nat) : Nat := (P.2 p k).2.1
abbrev Pln.fs (P : Pln) (p k : Nat) : Nat := (P.2 p k).2.2.1
abbrev Pln.sc (P : Pln) (p k : Nat) : Nat := (P.2 p k).2.2.2.1
abbrev Pln.fr (P : Pln) (p k : Nat) : Nat → Nat := (P.2 p k).2.2.2.2
/-- a plan of n parts is in order -/
def Pln.ok (P : Pln) (n : Nat) : Prop := n ≤ 10 ∧ (∀ p, P.ml p ≤ 12) ∧ ∀ p, p < n → ∀ k, k < P.ml p → P.kd p k ≤ 5 ∧ P.nu p k < 16 ∧ P.fs p k < 8 ∧ (P.kd p k = 2 → P.nu p k < n ∧ P.sc p k < 8) ∧ (P.kd p k = 1 → P.nu p k ≤ 4 ∧ ∀ i, i < P.nu p k → P.fr p k i < 8)
/-- the model's memory holds the plan -/
def mOK (I : Nat → Nat → Int32) (n : Nat) (P : Pln) : Prop := P.ok n ∧ I 103 4 = nI n ∧ (∀ p, p < n → I 105 p = nI (P.ml p)) ∧ ∀ p, p < n → ∀ k, k < P.ml p →
  I 107 (12 * p + k) = nI (P.kd p k) ∧ I 108 (12 * p + k) = nI (P.nu p k) ∧ I 109 (12 * p + k) = nI (P.fs p k) ∧ (P.kd p k = 2 → I 110 (12 * p + k) = nI (P.sc p k)) ∧ (P.kd p k = 1 → ∀ i, i < P.nu p k → I 111 (4 * (12 * p + k) + i) = nI (P.fr p k i))
/-! ## a loop that goes on while something has changed -/
def wh {α : Type} (q : α → α × Int32) : Nat → α → α
  | 0, a => a
  | f + 1, a => if (q a).2 = 0 then (q a).1 else wh q f (q a).1
def whE {α : Type} (q : α → α × Int32) : Nat → α → Prop
  | 0, _ => False
  | f + 1, a => (q a).2 = 0 ∨ whE q f (q a).1
/-! ## who is asked -/
def akL (P : Pln) (p k : Nat) (s : (Nat → Int32) × Int32) : (Nat → Int32) × Int32 := if P.kd p k = 2 ∧ s.1 (P.nu p k) = 0 then (upd s.1 (P.nu p k) 1, 1) else s
def akP (P : Pln) (p : Nat) (s : (Nat → Int32) × Int32) : (Nat → Int32) × Int32 := if s.1 p = 0 then s else it (akL P p) (P.ml p) s
def akQ (P : Pln) (n : Nat) (a : Nat → Int32) : (Nat → Int32) × Int32 := it (akP P) n (a, 0)
def ak0 (n p : Nat) : Int32 := if p = 0 ∧ 0 < n then 1 else 0
theorem akL_nz {P : Pln} {p k q : Nat} {s : (Nat → Int32) × Int32} (h : ¬ s.1 q = 0) : ¬ (akL P p k s).1 q = 0 := by
  unfold akL
  split
  · show ¬ upd s.1 (P.nu p k) 1 q = 0
    unfold upd
    split
    · decide
    · exact h
  · exact h
theorem akLs_nz {P : Pln} {p q : Nat} {s : (Nat → Int32) × Int32} (h : ¬ s.1 q = 0) : ∀ k, ¬ (it (akL P p) k s).1 q = 0
  | 0 => h
  | k + 1 => akL_nz (akLs_nz h k)
/-! ## the rows that the model works on -/
abbrev Rw : Type := Nat → Int32
def wkM (I : Nat → Nat → Int32) (a h w r lk : Rw) : Nat → Nat → Int32 := fun o b => if o = 118 ∧ b < 10 then a b else if o = 114 ∧ b < 80 then h b else if o = 115 ∧ b < 80 then w b else if o = 116 ∧ b < 10 then r b else if o = 117 ∧ b < 16 then lk b else I o b
section WK
variable {I : Nat → Nat → Int32} {a h w r lk a' h' w' r' lk' : Rw}
theorem wk_off {o : Nat} (q : o < 114 ∨ 118 < o) : wkM I a h w r lk o = I o := by
  funext b
  unfold wkM
  rw [if_neg (by omega), if_neg (by omega), if_neg (by omega), if_neg (by omega), if_neg (by omega)]
theorem wk_118 {b : Nat} (q : b < 10) : wkM I a h w r lk 118 b = a b := by simp [wkM, q]
theorem wk_114 {b : Nat} (q : b < 80) : wkM I a h w r lk 114 b = h b := by simp [wkM, q]
theorem wk_115 {b : Nat} (q : b < 80) : wkM I a h w r lk 115 b = w b := by simp [wkM, q]
theorem wk_116 {b : Nat} (q : b < 10) : wkM I a h w r lk 116 b = r b := by simp [wkM, q]
theorem wk_117 {b : Nat} (q : b < 16) : wkM I a h w r lk 117 b = lk b := by simp [wkM, q]
theorem wk_eq (h1 : ∀ b, b < 10 → a b = a' b) (h2 : ∀ b, b < 80 → h b = h' b) (h3 : ∀ b, b < 80 → w b = w' b) (h4 : ∀ b, b < 10 → r b = r' b) (h5 : ∀ b, b < 16 → lk b = lk' b) : wkM I a h w r lk = wkM I a' h' w' r' lk' := by
  funext o b
  unfold wkM
  split
  · next q => exact h1 b q.2
  split
  · next q => exact h2 b q.2
  split
  · next q => exact h3 b q.2
  split
  · next q => exact h4 b q.2
  split
  · next q => exact h5 b q.2
  rfl
theorem wk_self : wkM I (I 118) (I 114) (I 115) (I 116) (I 117) = I := by
  funext o b
  unfold wkM
  split
  · next q => rw [q.1]
  split
  · next q => rw [q.1]
  split
  · next q => rw [q.1]
  split
  · next q => rw [q.1]
  split
  · next q => rw [q.1]
  rfl
theorem wk_up118 {b : Nat} {v : Int32} (q : b < 10) : up1 (wkM I a h w r lk) 118 b v = wkM I (upd a b v) h w r lk := by
  funext o c
  unfold up1 wkM upd
  by_cases h1 : o = 118
  · subst h1
    by_cases h2 : c = b
    · subst h2; simp [q]
    · simp [h2]
  · simp [h1]
theorem wk_up114 {b : Nat} {v : Int32} (q : b < 80) : up1 (wkM I a h w r lk) 114 b v = wkM I a (upd h b v) w r lk := by
  funext o c
  unfold up1 wkM upd
  by_cases h1 : o = 114
  · subst h1
    by_cases h2 : c = b
    · subst h2; simp [q]
    · simp [h2]
  · simp [h1]
theorem wk_up115 {b : Nat} {v : Int32} (q : b < 80) : up1 (wkM I a h w r lk) 115 b v = wkM I a h (upd w b v) r lk := by
  funext o c
  unfold up1 wkM upd
  by_cases h1 : o = 115
  · subst h1
    by_cases h2 : c = b
    · subst h2; simp [q]
    · simp [h2]
  · simp [h1]
theorem wk_up116 {b : Nat} {v : Int32} (q : b < 10) : up1 (wkM I a h w r lk) 116 b v = wkM I a h w (upd r b v) lk := by
  funext o c
  unfold up1 wkM upd
  by_cases h1 : o = 116
  · subst h1
    by_cases h2 : c = b
    · subst h2; simp [q]
    · simp [h2]
  · simp [h1]
theorem wk_up117 {b : Nat} {v : Int32} (q : b < 16) : up1 (wkM I a h w r lk) 117 b v = wkM I a h w r (upd lk b v) := by
  funext o c
  unfold up1 wkM upd
  by_cases h1 : o = 117
  · subst h1
    by_cases h2 : c = b
    · subst h2; simp [q]
    · simp [h2]
  · simp [h1]
theorem wk_ok {n : Nat} {P : Pln} (hm : mOK I n P) : mOK (wkM I a h w r lk) n P := by
  obtain ⟨h1, h2, h3, h4⟩ := hm
  refine ⟨h1, by rw [wk_off (Or.inl (by decide))]; exact h2, fun p hp => by rw [wk_off (Or.inl (by decide))]; exact h3 p hp, fun p hp k hk => ?_⟩
  rw [wk_off (Or.inl (by decide)), wk_off (Or.inl (by decide)), wk_off (Or.inl (by decide)), wk_off (Or.inl (by decide)), wk_off (Or.inl (by decide))]
  exact h4 p hp k hk
end WK
/-- a row whose first k places are of another -/
def ovr (f a : Rw) (k : Nat) : Rw := fun b => if b < k then f b else a b
theorem ovr_up (f a : Rw) (k : Nat) : upd (ovr f a k) k (f k) = ovr f a (k + 1) := by
  funext b
  unfold upd ovr
  by_cases h : b = k
  · subst h; simp
  · by_cases h2 : b < k
    · simp [h, h2, Nat.lt_succ_of_lt h2]
    · simp [h, h2, show ¬ b < k + 1 by omega]
theorem ovr_0 (f a : Rw) : ovr f a 0 = a := by funext b; simp [ovr]
theorem ovr_in {f a : Rw} {k b : Nat} (h : b < k) : ovr f a k b = f b := by simp [ovr, h]
theorem vp_z0 : vp_nar .boolean 0 = 0 := by decide
theorem vp_z1 : vp_nar .boolean 1 = 1 := by decide
set_option maxHeartbeats 1000000 in
theorem s_asks {l : Launch} {G : Gm} {I : Nat → Nat → Int32} {J : Nat → Nat → Int64} {a h w r lk : Rw} {n : Nat} {P : Pln} (hm : mOK I n P) {F : Nat} (hE : whE (akQ P n) F (ak0 n)) : Sp l G iX10_asks [.ref (G.1 + 103)] (mm (wkM I a h w r lk) J) (RetV (mm (wkM I (wh (akQ P n) F (ak0 n)) h w r lk) J)) noT := by
  refine Sp.of (by decide +kernel) (Nat.le_of_ble_eq_true rfl) ?_
  intro X hXl C
  subst hXl
  show Go X G 4 0 0 _ 0 [.ref (G.1 + 103), uu, uu, uu] [] (mm (wkM I a h w r lk) J)
  obtain ⟨hok, hn, hml, hli⟩ := hm
  have hn10 := hok.1
  have lw : ∀ (f : Nat) (a : Rw) (v : Int32), ¬ v = 0 → whE (akQ P n) f a → wh (akQ P n) f a = wh (akQ P n) F (ak0 n) → ∀ a2 a3 : Value, Go X G 4 0 0 (KQ X G iX10_asks (RetV (mm (wkM I (wh (akQ P n) F (ak0 n)) h w r lk) J)) noT) 38 [.ref (G.1 + 103), .int v, a2, a3] [] (mm (wkM I a h w r lk) J) := by
    intro f
    induction f with
    | zero => intro a v hv hE; exact hE.elim
    | succ f ih =>
      intro a v hv hE he a2 a3
      have hcont : ∀ a2 a3 : Value, Go X G 4 0 0 (KQ X G iX10_asks (RetV (mm (wkM I (wh (akQ P n) F (ak0 n)) h w r lk) J)) noT) 38 [.ref (G.1 + 103), .int (akQ P n a).2, a2, a3] [] (mm (wkM I (akQ P n a).1 h w r lk) J) := by
        intro a2 a3
        by_cases hz : (akQ P n a).2 = 0
        · rw [show (akQ P n a).1 = wh (akQ P n) F (ak0 n) by rw [← he, wh, if_pos hz]]
          refine g_iload_n C dX10_asks_38 rfl ?_
          refine g_if_eq 139 C dX10_asks_39 (by decide) (fun c39 => ?_) (fun c39 => ?_)
          · exact e_V C dX10_asks_139 rfl rfl rfl rfl
          · exact absurd hz c39
        · exact ih _ _ hz (hE.resolve_left hz) (by rw [← he, wh, if_neg hz]) _ _
      have lp : ∀ p : Nat, p ≤ n → ∀ a3 : Value, Go X G 4 0 0 (KQ X G iX10_asks (RetV (mm (wkM I (wh (akQ P n) F (ak0 n)) h w r lk) J)) noT) 46 [.ref (G.1 + 103), .int (it (akP P) p (a, 0)).2, .int (nI p), a3] [] (mm (wkM I (it (akP P) p (a, 0)).1 h w r lk) J) := by
        refine loopN (n) ?_ ?_
        · intro a3
          show Go X G 4 0 0 _ 46 _ [] _
          refine g_iload_n C dX10_asks_46 rfl ?_
          refine g_aload_n C dX10_asks_47 rfl ?_
          refine g_getIv (ci := 10) (k := 4) (v := nI n) C dX10_asks_48 rfl inGX10 (by decide) fwX10_86 ly_103 (by decide) rfl (by rw [wk_off (Or.inl (by decide))]; exact hn) ?_
          refine g_icmp_ge 136 C dX10_asks_51 (by decide) (fun c51 => ?_) (fun c51 => ?_)
          · refine g_goto 38 C dX10_asks_136 (by decide) ?_
            exact hcont _ _
          · exact absurd (Int32.le_refl _) c51
        · intro p hp ihp a3
          show Go X G 4 0 0 _ 46 _ [] _
          refine g_iload_n C dX10_asks_46 rfl ?_
          refine g_aload_n C dX10_asks_47 rfl ?_
          refine g_getIv (ci := 10) (k := 4) (v := nI n) C dX10_asks_48 rfl inGX10 (by decide) fwX10_86 ly_103 (by decide) rfl (by rw [wk_off (Or.inl (by decide))]; exact hn) ?_
          refine g_icmp_ge 136 C dX10_asks_51 (by decide) (fun c51 => ?_) (fun c51 => ?_)
          · exact (nI_ge_dead (n := n) c51 hp (by omega)).elim
          · refine g_bipush (v := 12) C dX10_asks_54 (by decide) ?_
            refine g_iload_n C dX10_asks_56 rfl ?_
            refine g_imul C dX10_asks_57 ?_
            rw [mul12]
            refine g_istore_3 C dX10_asks_58 (by decide) ?_
            by_cases hA : (it (akP P) p (a, 0)).1 p = 0
            · refine g_iload_n C dX10_asks_59 rfl ?_
              refine g_bipush (v := 12) C dX10_asks_60 (by decide) ?_
              refine g_iload_n C dX10_asks_62 rfl ?_
              refine g_imul C dX10_asks_63 ?_
              rw [mul12]
              refine g_aload_n C dX10_asks_64 rfl ?_
              refine g_getR (ci := 10) (k := 6) (q := 105) C dX10_asks_65 rfl inGX10 (by decide) fwX10_17 ly_103 (by decide) rfl rfl ?_
              refine g_iload_n C dX10_asks_68 rfl ?_
              refine g_ialdv (v := nI (P.ml p)) p C dX10_asks_69 ly_105 (by decide) (by decide) rfl (show p < 11 by omega) (by rw [wk_off (Or.inl (by decide))]; exact hml p hp) ?_
              refine g_iadd C dX10_asks_70 ?_
              rw [nI_add]
              refine g_icmp_ge 130 C dX10_asks_71 (by decide) (fun c71 => ?_) (fun c71 => ?_)
              · skip
                refine g_iinc_2 C dX10_asks_130 (nI_1 p) (by decide) ?_
                refine g_goto 46 C dX10_asks_133 (by decide) ?_
                have h9 : it (akP P) (p + 1) (a, 0) = (it (akP P) p (a, 0)) := if_pos hA
                rw [h9] at ihp
                exact ihp _
              · skip
                refine g_aload_n C dX10_asks_74 rfl ?_
                refine g_getR (ci := 10) (k := 27) (q := 118) C dX10_asks_75 rfl inGX10 (by decide) fwX10_61 ly_103 (by decide) rfl rfl ?_
                refine g_iload_n C dX10_asks_78 rfl ?_
                refine g_zald _ C dX10_asks_79 ly_118 (by decide) (by decide) rfl (show p < 10 by omega) ?_
                refine g_if_eq 130 C dX10_asks_80 (by decide) (fun c80 => ?_) (fun c80 => ?_)
                · refine g_iinc_2 C dX10_asks_130 (nI_1 p) (by decide) ?_
                  refine g_goto 46 C dX10_asks_133 (by decide) ?_
                  have h9 : it (akP P) (p + 1) (a, 0) = (it (akP P) p (a, 0)) := if_pos hA
                  rw [h9] at ihp
                  exact ihp _
                · exact absurd ((wk_118 (show p < 10 by omega)).trans hA) c80
            have inner : ∀ k : Nat, k ≤ P.ml p → Go X G 4 0 0 (KQ X G iX10_asks (RetV (mm (wkM I (wh (akQ P n) F (ak0 n)) h w r lk) J)) noT) 59 [.ref (G.1 + 103), .int (it (akL P p) k (it (akP P) p (a, 0))).2, .int (nI p), .int (nI (12 * p + k))] [] (mm (wkM I (it (akL P p) k (it (akP P) p (a, 0))).1 h w r lk) J) := by
              refine loopN (P.ml p) ?_ ?_
              · skip
                show Go X G 4 0 0 _ 59 _ [] _
                have hm12 := hok.2.1 p
                refine g_iload_n C dX10_asks_59 rfl ?_
                refine g_bipush (v := 12) C dX10_asks_60 (by decide) ?_
                refine g_iload_n C dX10_asks_62 rfl ?_
                refine g_imul C dX10_asks_63 ?_
                rw [mul12]
                refine g_aload_n C dX10_asks_64 rfl ?_
                refine g_getR (ci := 10) (k := 6) (q := 105) C dX10_asks_65 rfl inGX10 (by decide) fwX10_17 ly_103 (by decide) rfl rfl ?_
                refine g_iload_n C dX10_asks_68 rfl ?_
                refine g_ialdv (v := nI (P.ml p)) p C dX10_asks_69 ly_105 (by decide) (by decide) rfl (show p < 11 by omega) (by rw [wk_off (Or.inl (by decide))]; exact hml p hp) ?_
                refine g_iadd C dX10_asks_70 ?_
                rw [nI_add]
                refine g_icmp_ge 130 C dX10_asks_71 (by decide) (fun c71 => ?_) (fun c71 => ?_)
                · refine g_iinc_2 C dX10_asks_130 (nI_1 p) (by decide) ?_
                  refine g_goto 46 C dX10_asks_133 (by decide) ?_
                  have h9 : it (akP P) (p + 1) (a, 0) = it (akL P p) (P.ml p) (it (akP P) p (a, 0)) := if_neg hA
                  rw [h9] at ihp
                  exact ihp _
                · exact absurd (Int32.le_refl _) c71
              · intro k hk ihk 
                show Go X G 4 0 0 _ 59 _ [] _
                have hL := hli p hp k hk
                have hLo := hok.2.2 p hp k hk
                have hm12 := hok.2.1 p
                refine g_iload_n C dX10_asks_59 rfl ?_
                refine g_bipush (v := 12) C dX10_asks_60 (by decide) ?_
                refine g_iload_n C dX10_asks_62 rfl ?_
                refine g_imul C dX10_asks_63 ?_
                rw [mul12]
                refine g_aload_n C dX10_asks_64 rfl ?_
                refine g_getR (ci := 10) (k := 6) (q := 105) C dX10_asks_65 rfl inGX10 (by decide) fwX10_17 ly_103 (by decide) rfl rfl ?_
                refine g_iload_n C dX10_asks_68 rfl ?_
                refine g_ialdv (v := nI (P.ml p)) p C dX10_asks_69 ly_105 (by decide) (by decide) rfl (show p < 11 by omega) (by rw [wk_off (Or.inl (by decide))]; exact hml p hp) ?_
                refine g_iadd C dX10_asks_70 ?_
                rw [nI_add]
                refine g_icmp_ge 130 C dX10_asks_71 (by decide) (fun c71 => ?_) (fun c71 => ?_)
                · exact (nI_ge_dead (n := 12 * p + P.ml p) c71 (by omega) (by omega)).elim
                · refine g_aload_n C dX10_asks_74 rfl ?_
                  refine g_getR (ci := 10) (k := 27) (q := 118) C dX10_asks_75 rfl inGX10 (by decide) fwX10_61 ly_103 (by decide) rfl rfl ?_
                  refine g_iload_n C dX10_asks_78 rfl ?_
                  refine g_zald _ C dX10_asks_79 ly_118 (by decide) (by decide) rfl (show p < 10 by omega) ?_
                  refine g_if_eq 130 C dX10_asks_80 (by decide) (fun c80 => ?_) (fun c80 => ?_)
                  · exact absurd ((wk_118 (show p < 10 by omega)).symm.trans c80) (akLs_nz hA k)
                  · refine g_aload_n C dX10_asks_83 rfl ?_
                    refine g_getR (ci := 10) (k := 8) (q := 107) C dX10_asks_84 rfl inGX10 (by decide) fwX10_23 ly_103 (by decide) rfl rfl ?_
                    refine g_iload_n C dX10_asks_87 rfl ?_
                    refine g_ialdv (v := nI (P.kd p k)) (12 * p + k) C dX10_asks_88 ly_107 (by decide) (by decide) rfl (show 12 * p + k < 132 by omega) (by rw [wk_off (Or.inl (by decide))]; exact hL.1) ?_
                    refine g_iconst (v := 2) C dX10_asks_89 (by decide) ?_
                    refine g_icmp_ne 124 C dX10_asks_90 (by decide) (fun c90 => ?_) (fun c90 => ?_)
                    · have g90 : ¬ P.kd p k = 2 := fun q => c90 (by rw [q]; rfl)
                      refine g_iinc_3 C dX10_asks_124 (nI_1 (12 * p + k)) (by decide) ?_
                      refine g_goto 59 C dX10_asks_127 (by decide) ?_
                      first
                        | (have e9 : it (akL P p) (k + 1) (it (akP P) p (a, 0)) = (upd (it (akL P p) k (it (akP P) p (a, 0))).1 (P.nu p k) 1, 1) := if_pos ⟨g90, g104⟩
                           rw [e9] at ihk; rw [wk_up118 (by omega), vp_z1]; exact ihk)
                        | (have e9 : it (akL P p) (k + 1) (it (akP P) p (a, 0)) = (it (akL P p) k (it (akP P) p (a, 0))) := if_neg (fun q => g90 q.1)
                           rw [e9] at ihk; exact ihk)
                        | (have e9 : it (akL P p) (k + 1) (it (akP P) p (a, 0)) = (it (akL P p) k (it (akP P) p (a, 0))) := if_neg (fun q => g104 q.2)
                           rw [e9] at ihk; exact ihk)
                    · have g90 : P.kd p k = 2 := (nI_eq (b := 2) (by omega) (by decide)).mp c90
                      have hnu := hLo.2.2.2.1 g90
                      refine g_aload_n C dX10_asks_93 rfl ?_
                      refine g_getR (ci := 10) (k := 27) (q := 118) C dX10_asks_94 rfl inGX10 (by decide) fwX10_61 ly_103 (by decide) rfl rfl ?_
                      refine g_aload_n C dX10_asks_97 rfl ?_
                      refine g_getR (ci := 10) (k := 9) (q := 108) C dX10_asks_98 rfl inGX10 (by decide) fwX10_26 ly_103 (by decide) rfl rfl ?_
                      refine g_iload_n C dX10_asks_101 rfl ?_
                      refine g_ialdv (v := nI (P.nu p k)) (12 * p + k) C dX10_asks_102 ly_108 (by decide) (by decide) rfl (show 12 * p + k < 132 by omega) (by rw [wk_off (Or.inl (by decide))]; exact hL.2.1) ?_
                      refine g_zald _ C dX10_asks_103 ly_118 (by decide) (by decide) rfl (show P.nu p k < 10 by omega) ?_
                      refine g_if_eq 110 C dX10_asks_104 (by decide) (fun c104 => ?_) (fun c104 => ?_)
                      · have g104 : (it (akL P p) k (it (akP P) p (a, 0))).1 (P.nu p k) = 0 := (wk_118 (by omega)).symm.trans c104
                        refine g_aload_n C dX10_asks_110 rfl ?_
                        refine g_getR (ci := 10) (k := 27) (q := 118) C dX10_asks_111 rfl inGX10 (by decide) fwX10_61 ly_103 (by decide) rfl rfl ?_
                        refine g_aload_n C dX10_asks_114 rfl ?_
                        refine g_getR (ci := 10) (k := 9) (q := 108) C dX10_asks_115 rfl inGX10 (by decide) fwX10_26 ly_103 (by decide) rfl rfl ?_
                        refine g_iload_n C dX10_asks_118 rfl ?_
                        refine g_ialdv (v := nI (P.nu p k)) (12 * p + k) C dX10_asks_119 ly_108 (by decide) (by decide) rfl (show 12 * p + k < 132 by omega) (by rw [wk_off (Or.inl (by decide))]; exact hL.2.1) ?_
                        refine g_iconst (v := 1) C dX10_asks_120 (by decide) ?_
                        refine g_zast _ C dX10_asks_121 ly_118 (by decide) (by decide) rfl (show P.nu p k < 10 by omega) rfl ?_
                        refine g_iconst (v := 1) C dX10_asks_122 (by decide) ?_
                        refine g_istore_1 C dX10_asks_123 (by decide) ?_
                        refine g_iinc_3 C dX10_asks_124 (nI_1 (12 * p + k)) (by decide) ?_
                        refine g_goto 59 C dX10_asks_127 (by decide) ?_
                        first
                          | (have e9 : it (akL P p) (k + 1) (it (akP P) p (a, 0)) = (upd (it (akL P p) k (it (akP P) p (a, 0))).1 (P.nu p k) 1, 1) := if_pos ⟨g90, g104⟩
                             rw [e9] at ihk; rw [wk_up118 (by omega), vp_z1]; exact ihk)
                          | (have e9 : it (akL P p) (k + 1) (it (akP P) p (a, 0)) = (it (akL P p) k (it (akP P) p (a, 0))) := if_neg (fun q => g90 q.1)
                             rw [e9] at ihk; exact ihk)
                          | (have e9 : it (akL P p) (k + 1) (it (akP P) p (a, 0)) = (it (akL P p) k (it (akP P) p (a, 0))) := if_neg (fun q => g104 q.2)
                             rw [e9] at ihk; exact ihk)
                      · have g104 : ¬ (it (akL P p) k (it (akP P) p (a, 0))).1 (P.nu p k) = 0 := fun q => c104 ((wk_118 (by omega)).trans q)
                        refine g_goto 124 C dX10_asks_107 (by decide) ?_
                        refine g_iinc_3 C dX10_asks_124 (nI_1 (12 * p + k)) (by decide) ?_
                        refine g_goto 59 C dX10_asks_127 (by decide) ?_
                        first
                          | (have e9 : it (akL P p) (k + 1) (it (akP P) p (a, 0)) = (upd (it (akL P p) k (it (akP P) p (a, 0))).1 (P.nu p k) 1, 1) := if_pos ⟨g90, g104⟩
                             rw [e9] at ihk; rw [wk_up118 (by omega), vp_z1]; exact ihk)
                          | (have e9 : it (akL P p) (k + 1) (it (akP P) p (a, 0)) = (it (akL P p) k (it (akP P) p (a, 0))) := if_neg (fun q => g90 q.1)
                             rw [e9] at ihk; exact ihk)
                          | (have e9 : it (akL P p) (k + 1) (it (akP P) p (a, 0)) = (it (akL P p) k (it (akP P) p (a, 0))) := if_neg (fun q => g104 q.2)
                             rw [e9] at ihk; exact ihk)
            exact inner 0 (Nat.zero_le _)
      refine g_iload_n C dX10_asks_38 rfl ?_
      refine g_if_eq 139 C dX10_asks_39 (by decide) (fun c39 => ?_) (fun c39 => ?_)
      · exact absurd c39 hv
      · refine g_iconst (v := 0) C dX10_asks_42 (by decide) ?_
        refine g_istore_1 C dX10_asks_43 (by decide) ?_
        refine g_iconst (v := 0) C dX10_asks_44 (by decide) ?_
        refine g_istore_2 C dX10_asks_45 (by decide) ?_
        exact lp 0 (Nat.zero_le _) _
  have l1 : ∀ k : Nat, k ≤ 10 → ∀ a2 a3 : Value, Go X G 4 0 0 (KQ X G iX10_asks (RetV (mm (wkM I (wh (akQ P n) F (ak0 n)) h w r lk) J)) noT) 2 [.ref (G.1 + 103), .int (nI k), a2, a3] [] (mm (wkM I (ovr (ak0 n) a k) h w r lk) J) := by
    refine loopN (10) ?_ ?_
    · intro a2 a3
      show Go X G 4 0 0 _ 2 _ [] _
      refine g_iload_n C dX10_asks_2 rfl ?_
      refine g_bipush (v := 10) C dX10_asks_3 (by decide) ?_
      refine g_icmp_ge 36 C dX10_asks_5 (by decide) (fun c5 => ?_) (fun c5 => ?_)
      · refine g_iconst (v := 1) C dX10_asks_36 (by decide) ?_
        refine g_istore_1 C dX10_asks_37 (by decide) ?_
        rw [show wkM I (ovr (ak0 n) a 10) h w r lk = wkM I (ak0 n) h w r lk from wk_eq (fun b hb => ovr_in hb) (fun _ _ => rfl) (fun _ _ => rfl) (fun _ _ => rfl) (fun _ _ => rfl)]
        exact lw F (ak0 n) 1 (by decide) hE rfl _ _
      · exact absurd (Int32.le_refl _) c5
    · intro k hk ih a2 a3
      show Go X G 4 0 0 _ 2 _ [] _
      refine g_iload_n C dX10_asks_2 rfl ?_
      refine g_bipush (v := 10) C dX10_asks_3 (by decide) ?_
      refine g_icmp_ge 36 C dX10_asks_5 (by decide) (fun c5 => ?_) (fun c5 => ?_)
      · exact (nI_ge_dead (n := 10) c5 hk (by omega)).elim
      · refine g_aload_n C dX10_asks_8 rfl ?_
        refine g_getR (ci := 10) (k := 27) (q := 118) C dX10_asks_9 rfl inGX10 (by decide) fwX10_61 ly_103 (by decide) rfl rfl ?_
        refine g_iload_n C dX10_asks_12 rfl ?_
        refine g_iload_n C dX10_asks_13 rfl ?_
        refine g_if_ne 28 C dX10_asks_14 (by decide) (fun c14 => ?_) (fun c14 => ?_)
        · have g14 : ¬ k = 0 := fun q => c14 (by rw [q]; rfl)
          refine g_iconst (v := 0) C dX10_asks_28 (by decide) ?_
          refine g_zast _ C dX10_asks_29 ly_118 (by decide) (by decide) rfl hk rfl ?_
          refine g_iinc_1 C dX10_asks_30 (nI_1 k) (by decide) ?_
          refine g_goto 2 C dX10_asks_33 (by decide) ?_
          rw [wk_up118 hk]
          first
            | (have e9 : ak0 n k = 1 := if_pos ⟨g14, g21⟩
               have e8 := ovr_up (ak0 n) a k; rw [e9] at e8; rw [vp_z1, e8]; exact ih _ _)
            | (have e9 : ak0 n k = 0 := if_neg (fun q => g14 q.1)
               have e8 := ovr_up (ak0 n) a k; rw [e9] at e8; rw [vp_z0, e8]; exact ih _ _)
            | (have e9 : ak0 n k = 0 := if_neg (fun q => g21 q.2)
               have e8 := ovr_up (ak0 n) a k; rw [e9] at e8; rw [vp_z0, e8]; exact ih _ _)
        · have g14 : k = 0 := (nI_eq (b := 0) (by omega) (by decide)).mp c14
          refine g_aload_n C dX10_asks_17 rfl ?_
          refine g_getIv (ci := 10) (k := 4) (v := nI n) C dX10_asks_18 rfl inGX10 (by decide) fwX10_86 ly_103 (by decide) rfl (by rw [wk_off (Or.inl (by decide))]; exact hn) ?_
          refine g_if_le 28 C dX10_asks_21 (by decide) (fun c21 => ?_) (fun c21 => ?_)
          · have g21 : ¬ 0 < n := by have := nI_l' (b := 0) c21 (by omega) (by decide); omega
            refine g_iconst (v := 0) C dX10_asks_28 (by decide) ?_
            refine g_zast _ C dX10_asks_29 ly_118 (by decide) (by decide) rfl hk rfl ?_
            refine g_iinc_1 C dX10_asks_30 (nI_1 k) (by decide) ?_
            refine g_goto 2 C dX10_asks_33 (by decide) ?_
            rw [wk_up118 hk]
            first
              | (have e9 : ak0 n k = 1 := if_pos ⟨g14, g21⟩
                 have e8 := ovr_up (ak0 n) a k; rw [e9] at e8; rw [vp_z1, e8]; exact ih _ _)
              | (have e9 : ak0 n k = 0 := if_neg (fun q => g14 q.1)
                 have e8 := ovr_up (ak0 n) a k; rw [e9] at e8; rw [vp_z0, e8]; exact ih _ _)
              | (have e9 : ak0 n k = 0 := if_neg (fun q => g21 q.2)
                 have e8 := ovr_up (ak0 n) a k; rw [e9] at e8; rw [vp_z0, e8]; exact ih _ _)
          · have g21 : 0 < n := by have := nI_nl (b := 0) c21 (by omega) (by decide); omega
            refine g_iconst (v := 1) C dX10_asks_24 (by decide) ?_
            refine g_goto 29 C dX10_asks_25 (by decide) ?_
            refine g_zast _ C dX10_asks_29 ly_118 (by decide) (by decide) rfl hk rfl ?_
            refine g_iinc_1 C dX10_asks_30 (nI_1 k) (by decide) ?_
            refine g_goto 2 C dX10_asks_33 (by decide) ?_
            rw [wk_up118 hk]
            first
              | (have e9 : ak0 n k = 1 := if_pos ⟨g14, g21⟩
                 have e8 := ovr_up (ak0 n) a k; rw [e9] at e8; rw [vp_z1, e8]; exact ih _ _)
              | (have e9 : ak0 n k = 0 := if_neg (fun q => g14 q.1)
                 have e8 := ovr_up (ak0 n) a k; rw [e9] at e8; rw [vp_z0, e8]; exact ih _ _)
              | (have e9 : ak0 n k = 0 := if_neg (fun q => g21 q.2)
                 have e8 := ovr_up (ak0 n) a k; rw [e9] at e8; rw [vp_z0, e8]; exact ih _ _)
  refine g_iconst (v := 0) C dX10_asks_0 (by decide) ?_
  refine g_istore_1 C dX10_asks_1 (by decide) ?_
  have h0 := l1 0 (Nat.zero_le _) uu uu
  rw [ovr_0] at h0
  exact h0
