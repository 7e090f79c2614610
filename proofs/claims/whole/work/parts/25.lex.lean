/-! ## tokens -/
def sgn (t : Nat → Nat) (e i : Nat) : Nat := if e ≤ i then 0 else if 97 ≤ t i ∧ t i ≤ 122 then 1 else if 48 ≤ t i ∧ t i ≤ 57 then 2 else if t i = 44 then 3 else if t i = 59 then 4 else 5
def skp (t : Nat → Nat) (e : Nat) : Nat → Nat → Nat
  | 0, i => i
  | f + 1, i => if t i = 32 then skp t e f (i + 1) else i
def rnn (t : Nat → Nat) (e k : Nat) : Nat → Nat → Nat
  | 0, i => i
  | f + 1, i => if sgn t e i = k then rnn t e k f (i + 1) else i
def lgs (k : Nat) : Nat := if k = 1 then 8 else if k = 2 then 2 else 1
/-- the token behind the place i: where it begins, where it ends, its kind -/
def tf (t : Nat → Nat) (e i : Nat) : Nat := skp t e (e - i) i
def tn (t : Nat → Nat) (e i : Nat) : Nat := if sgn t e (tf t e i) = 0 then tf t e i else if 1 < lgs (sgn t e (tf t e i)) then rnn t e (sgn t e (tf t e i)) (e - (tf t e i + 1)) (tf t e i + 1) else tf t e i + 1
def tk (t : Nat → Nat) (e i : Nat) : Nat := if tn t e i - tf t e i ≤ lgs (sgn t e (tf t e i)) then sgn t e (tf t e i) else 5
theorem sgn_le (t : Nat → Nat) (e i : Nat) : sgn t e i ≤ 5 := by unfold sgn; split <;> (try split) <;> (try split) <;> (try split) <;> (try split) <;> omega
theorem skp_in (t : Nat → Nat) (e : Nat) : ∀ f i, i ≤ skp t e f i ∧ skp t e f i ≤ i + f
  | 0, i => ⟨Nat.le_refl _, Nat.le_refl _⟩
  | f + 1, i => by
    have := skp_in t e f (i + 1)
    unfold skp
    split <;> omega
theorem rnn_in (t : Nat → Nat) (e k : Nat) : ∀ f i, i ≤ rnn t e k f i ∧ rnn t e k f i ≤ i + f
  | 0, i => ⟨Nat.le_refl _, Nat.le_refl _⟩
  | f + 1, i => by
    have := rnn_in t e k f (i + 1)
    unfold rnn
    split <;> omega
theorem tf_in {t : Nat → Nat} {e i : Nat} (h : i ≤ e) : i ≤ tf t e i ∧ tf t e i ≤ e := by
  have := skp_in t e (e - i) i
  unfold tf
  omega
theorem tn_in {t : Nat → Nat} {e i : Nat} (h : i ≤ e) : tf t e i ≤ tn t e i ∧ tn t e i ≤ e := by
  have h1 := tf_in (t := t) h
  unfold tn
  split
  · omega
  · next h0 =>
    have h2 : tf t e i < e := by
      apply Classical.byContradiction
      intro q
      exact h0 (by unfold sgn; rw [if_pos (by omega)])
    split
    · have := rnn_in t e (sgn t e (tf t e i)) (e - (tf t e i + 1)) (tf t e i + 1)
      omega
    · omega
/-- the tape's bytes -/
def byOK (I : Nat → Nat → Int32) (t : Nat → Nat) : Prop := ∀ j, j < 300 → I 2 j = nI (t j) ∧ t j < 256
/-- the reader at the place i, over the memory D -/
def rdS (D : Nat → Nat → Int32) (t : Nat → Nat) (e : Nat) (wr pl num nm : Int32) (i : Nat) : Nat → Nat → Int32 := fun a b => if a = 66 then (if b = 2 then wr else if b = 3 then pl else if b = 6 then nI (tk t e i) else if b = 7 then nI (tf t e i) else if b = 8 then nI (tn t e i) else if b = 9 then num else if b = 10 then nm else D a b) else D a b
section RDS
variable {D : Nat → Nat → Int32} {t : Nat → Nat} {e : Nat} {wr pl num nm v : Int32} {i j : Nat}
theorem rd_2 : up1 (rdS D t e wr pl num nm i) 66 2 v = rdS D t e v pl num nm i := by
  funext a b; unfold up1 rdS; by_cases h : a = 66 <;> by_cases h2 : b = 2 <;> simp [h, h2]
theorem rd_3 : up1 (rdS D t e wr pl num nm i) 66 3 v = rdS D t e wr v num nm i := by
  funext a b; unfold up1 rdS; by_cases h : a = 66 <;> by_cases h2 : b = 3 <;> simp [h, h2]
theorem rd_9 : up1 (rdS D t e wr pl num nm i) 66 9 v = rdS D t e wr pl v nm i := by
  funext a b; unfold up1 rdS; by_cases h : a = 66 <;> by_cases h2 : b = 9 <;> simp [h, h2]
theorem rd_10 : up1 (rdS D t e wr pl num nm i) 66 10 v = rdS D t e wr pl num v i := by
  funext a b; unfold up1 rdS; by_cases h : a = 66 <;> by_cases h2 : b = 10 <;> simp [h, h2]
theorem rd_adv : up1 (up1 (up1 (rdS D t e wr pl num nm i) 66 7 (nI (tf t e j))) 66 8 (nI (tn t e j))) 66 6 (nI (tk t e j)) = rdS D t e wr pl num nm j := by
  funext a b; unfold up1 rdS; by_cases h : a = 66 <;> by_cases h2 : b = 6 <;> by_cases h3 : b = 7 <;> by_cases h4 : b = 8 <;> simp [h, h2, h3, h4]
theorem rd_off {q : Nat} (h : q ≠ 66) : rdS D t e wr pl num nm i q = D q := by funext b; simp [rdS, h]
theorem rd_g2 : rdS D t e wr pl num nm i 66 2 = wr := rfl
theorem rd_g3 : rdS D t e wr pl num nm i 66 3 = pl := rfl
theorem rd_g4 : rdS D t e wr pl num nm i 66 4 = D 66 4 := rfl
theorem rd_g5 : rdS D t e wr pl num nm i 66 5 = D 66 5 := rfl
theorem rd_g6 : rdS D t e wr pl num nm i 66 6 = nI (tk t e i) := rfl
theorem rd_g7 : rdS D t e wr pl num nm i 66 7 = nI (tf t e i) := rfl
theorem rd_g8 : rdS D t e wr pl num nm i 66 8 = nI (tn t e i) := rfl
theorem rd_g9 : rdS D t e wr pl num nm i 66 9 = num := rfl
theorem rd_g10 : rdS D t e wr pl num nm i 66 10 = nm := rfl
end RDS
theorem up1_up1 (I : Nat → Nat → Int32) (o k : Nat) (v w : Int32) : up1 (up1 I o k v) o k w = up1 I o k w := by
  funext a b; unfold up1; by_cases h : a = o ∧ b = k <;> simp [h]
theorem nIe {a b : Nat} (ha : a < 2 ^ 31) (hb : b < 2 ^ 31) : nI a = nI b ↔ a = b := nI_eq ha hb
set_option maxHeartbeats 1000000 in
theorem s_signAt {l : Launch} {G : Gm} {I : Nat → Nat → Int32} {J : Nat → Nat → Int64} {t : Nat → Nat} {e : Nat} (hB : byOK I t) (he : I 66 4 = nI e) (he3 : e ≤ 300) {j : Nat} (hj : j ≤ 300) : Sp l G iX3_signAt [.ref (G.1 + 66), .int (nI j)] (mm I J) (RetI (nI (sgn t e j)) (mm I J)) noT := by
  refine Sp.of (by decide +kernel) (Nat.le_of_ble_eq_true rfl) ?_
  intro X hXl C
  subst hXl
  show Go X G 3 0 0 _ 0 [.ref (G.1 + 66), .int (nI j), uu] [] (mm I J)
  refine g_iload_n C dX3_signAt_0 rfl ?_
  refine g_aload_n C dX3_signAt_1 rfl ?_
  refine g_getIv (ci := 3) (k := 4) (v := nI e) C dX3_signAt_2 rfl inGX3 (by decide) fwX3_32 ly_66 (by decide) rfl he ?_
  refine g_icmp_lt 10 C dX3_signAt_5 (by decide) (fun c5 => ?_) (fun c5 => ?_)
  · have g5 : j < e := nI_t c5 (by omega) (by omega)
    obtain ⟨hb1, hb2⟩ := hB j (by omega)
    refine g_aload_n C dX3_signAt_10 rfl ?_
    refine g_getR (ci := 3) (k := 1) (q := 1) C dX3_signAt_11 rfl inGX3 (by decide) fwX3_18 ly_66 (by decide) rfl rfl ?_
    refine g_getR (ci := 6) (k := 0) (q := 2) C dX3_signAt_14 rfl inGX6 (by decide) fwX3_103 ly_1 (by decide) rfl rfl ?_
    refine g_iload_n C dX3_signAt_17 rfl ?_
    refine g_ialdv (v := nI (t j)) _ C dX3_signAt_18 ly_2 (by decide) (by decide) rfl (by omega) hb1 ?_
    refine g_istore_2 C dX3_signAt_19 (by decide) ?_
    refine g_iload_n C dX3_signAt_20 rfl ?_
    refine g_bipush (v := 97) C dX3_signAt_21 (by decide) ?_
    refine g_icmp_lt 34 C dX3_signAt_23 (by decide) (fun c23 => ?_) (fun c23 => ?_)
    · have g23 : ¬ (97 ≤ t j ∧ t j ≤ 122) := by have := nI_t (b := 97) c23 (by omega) (by decide); omega
      refine g_iload_n C dX3_signAt_34 rfl ?_
      refine g_bipush (v := 48) C dX3_signAt_35 (by decide) ?_
      refine g_icmp_lt 48 C dX3_signAt_37 (by decide) (fun c37 => ?_) (fun c37 => ?_)
      · have g37 : ¬ (48 ≤ t j ∧ t j ≤ 57) := by have := nI_t (b := 48) c37 (by omega) (by decide); omega
        refine g_iload_n C dX3_signAt_48 rfl ?_
        refine g_bipush (v := 44) C dX3_signAt_49 (by decide) ?_
        refine g_icmp_ne 58 C dX3_signAt_51 (by decide) (fun c51 => ?_) (fun c51 => ?_)
        · have g51 : ¬ t j = 44 := fun q => c51 (by rw [q]; rfl)
          refine g_iload_n C dX3_signAt_58 rfl ?_
          refine g_bipush (v := 59) C dX3_signAt_59 (by decide) ?_
          refine g_icmp_ne 68 C dX3_signAt_61 (by decide) (fun c61 => ?_) (fun c61 => ?_)
          · have g61 : ¬ t j = 59 := fun q => c61 (by rw [q]; rfl)
            refine g_iconst (v := 5) C dX3_signAt_68 (by decide) ?_
            exact e_I C dX3_signAt_69 rfl rfl rfl (by first | (rw [sgn, if_neg (by omega), if_neg g23, if_neg g37, if_pos g51]; rfl) | (rw [sgn, if_neg (by omega), if_neg g23, if_neg g37, if_neg g51, if_pos g61]; rfl) | (rw [sgn, if_neg (by omega), if_neg g23, if_neg g37, if_neg g51, if_neg g61]; rfl)) rfl
          · have g61 : t j = 59 := (nIe (by omega) (b := 59) (by decide)).mp c61
            refine g_iconst (v := 4) C dX3_signAt_64 (by decide) ?_
            refine g_goto 69 C dX3_signAt_65 (by decide) ?_
            exact e_I C dX3_signAt_69 rfl rfl rfl (by first | (rw [sgn, if_neg (by omega), if_neg g23, if_neg g37, if_pos g51]; rfl) | (rw [sgn, if_neg (by omega), if_neg g23, if_neg g37, if_neg g51, if_pos g61]; rfl) | (rw [sgn, if_neg (by omega), if_neg g23, if_neg g37, if_neg g51, if_neg g61]; rfl)) rfl
        · have g51 : t j = 44 := (nIe (by omega) (b := 44) (by decide)).mp c51
          refine g_iconst (v := 3) C dX3_signAt_54 (by decide) ?_
          refine g_goto 69 C dX3_signAt_55 (by decide) ?_
          exact e_I C dX3_signAt_69 rfl rfl rfl (by first | (rw [sgn, if_neg (by omega), if_neg g23, if_neg g37, if_pos g51]; rfl) | (rw [sgn, if_neg (by omega), if_neg g23, if_neg g37, if_neg g51, if_pos g61]; rfl) | (rw [sgn, if_neg (by omega), if_neg g23, if_neg g37, if_neg g51, if_neg g61]; rfl)) rfl
      · have g36 : 48 ≤ t j := nI_nt (b := 48) c37 (by omega) (by decide)
        refine g_iload_n C dX3_signAt_40 rfl ?_
        refine g_bipush (v := 57) C dX3_signAt_41 (by decide) ?_
        refine g_icmp_gt 48 C dX3_signAt_43 (by decide) (fun c43 => ?_) (fun c43 => ?_)
        · have g37 : ¬ (48 ≤ t j ∧ t j ≤ 57) := by have := nI_t (a := 57) c43 (by decide) (by omega); omega
          refine g_iload_n C dX3_signAt_48 rfl ?_
          refine g_bipush (v := 44) C dX3_signAt_49 (by decide) ?_
          refine g_icmp_ne 58 C dX3_signAt_51 (by decide) (fun c51 => ?_) (fun c51 => ?_)
          · have g51 : ¬ t j = 44 := fun q => c51 (by rw [q]; rfl)
            refine g_iload_n C dX3_signAt_58 rfl ?_
            refine g_bipush (v := 59) C dX3_signAt_59 (by decide) ?_
            refine g_icmp_ne 68 C dX3_signAt_61 (by decide) (fun c61 => ?_) (fun c61 => ?_)
            · have g61 : ¬ t j = 59 := fun q => c61 (by rw [q]; rfl)
              refine g_iconst (v := 5) C dX3_signAt_68 (by decide) ?_
              exact e_I C dX3_signAt_69 rfl rfl rfl (by first | (rw [sgn, if_neg (by omega), if_neg g23, if_neg g37, if_pos g51]; rfl) | (rw [sgn, if_neg (by omega), if_neg g23, if_neg g37, if_neg g51, if_pos g61]; rfl) | (rw [sgn, if_neg (by omega), if_neg g23, if_neg g37, if_neg g51, if_neg g61]; rfl)) rfl
            · have g61 : t j = 59 := (nIe (by omega) (b := 59) (by decide)).mp c61
              refine g_iconst (v := 4) C dX3_signAt_64 (by decide) ?_
              refine g_goto 69 C dX3_signAt_65 (by decide) ?_
              exact e_I C dX3_signAt_69 rfl rfl rfl (by first | (rw [sgn, if_neg (by omega), if_neg g23, if_neg g37, if_pos g51]; rfl) | (rw [sgn, if_neg (by omega), if_neg g23, if_neg g37, if_neg g51, if_pos g61]; rfl) | (rw [sgn, if_neg (by omega), if_neg g23, if_neg g37, if_neg g51, if_neg g61]; rfl)) rfl
          · have g51 : t j = 44 := (nIe (by omega) (b := 44) (by decide)).mp c51
            refine g_iconst (v := 3) C dX3_signAt_54 (by decide) ?_
            refine g_goto 69 C dX3_signAt_55 (by decide) ?_
            exact e_I C dX3_signAt_69 rfl rfl rfl (by first | (rw [sgn, if_neg (by omega), if_neg g23, if_neg g37, if_pos g51]; rfl) | (rw [sgn, if_neg (by omega), if_neg g23, if_neg g37, if_neg g51, if_pos g61]; rfl) | (rw [sgn, if_neg (by omega), if_neg g23, if_neg g37, if_neg g51, if_neg g61]; rfl)) rfl
        · have g37 : 48 ≤ t j ∧ t j ≤ 57 := ⟨g36, nI_nt (a := 57) c43 (by decide) (by omega)⟩
          refine g_iconst (v := 2) C dX3_signAt_46 (by decide) ?_
          exact e_I C dX3_signAt_47 rfl rfl rfl (by rw [sgn, if_neg (by omega), if_neg g23, if_pos g37]; rfl) rfl
    · have g22 : 97 ≤ t j := nI_nt (b := 97) c23 (by omega) (by decide)
      refine g_iload_n C dX3_signAt_26 rfl ?_
      refine g_bipush (v := 122) C dX3_signAt_27 (by decide) ?_
      refine g_icmp_gt 34 C dX3_signAt_29 (by decide) (fun c29 => ?_) (fun c29 => ?_)
      · have g23 : ¬ (97 ≤ t j ∧ t j ≤ 122) := by have := nI_t (a := 122) c29 (by decide) (by omega); omega
        refine g_iload_n C dX3_signAt_34 rfl ?_
        refine g_bipush (v := 48) C dX3_signAt_35 (by decide) ?_
        refine g_icmp_lt 48 C dX3_signAt_37 (by decide) (fun c37 => ?_) (fun c37 => ?_)
        · have g37 : ¬ (48 ≤ t j ∧ t j ≤ 57) := by have := nI_t (b := 48) c37 (by omega) (by decide); omega
          refine g_iload_n C dX3_signAt_48 rfl ?_
          refine g_bipush (v := 44) C dX3_signAt_49 (by decide) ?_
          refine g_icmp_ne 58 C dX3_signAt_51 (by decide) (fun c51 => ?_) (fun c51 => ?_)
          · have g51 : ¬ t j = 44 := fun q => c51 (by rw [q]; rfl)
            refine g_iload_n C dX3_signAt_58 rfl ?_
            refine g_bipush (v := 59) C dX3_signAt_59 (by decide) ?_
            refine g_icmp_ne 68 C dX3_signAt_61 (by decide) (fun c61 => ?_) (fun c61 => ?_)
            · have g61 : ¬ t j = 59 := fun q => c61 (by rw [q]; rfl)
              refine g_iconst (v := 5) C dX3_signAt_68 (by decide) ?_
              exact e_I C dX3_signAt_69 rfl rfl rfl (by first | (rw [sgn, if_neg (by omega), if_neg g23, if_neg g37, if_pos g51]; rfl) | (rw [sgn, if_neg (by omega), if_neg g23, if_neg g37, if_neg g51, if_pos g61]; rfl) | (rw [sgn, if_neg (by omega), if_neg g23, if_neg g37, if_neg g51, if_neg g61]; rfl)) rfl
            · have g61 : t j = 59 := (nIe (by omega) (b := 59) (by decide)).mp c61
              refine g_iconst (v := 4) C dX3_signAt_64 (by decide) ?_
              refine g_goto 69 C dX3_signAt_65 (by decide) ?_
              exact e_I C dX3_signAt_69 rfl rfl rfl (by first | (rw [sgn, if_neg (by omega), if_neg g23, if_neg g37, if_pos g51]; rfl) | (rw [sgn, if_neg (by omega), if_neg g23, if_neg g37, if_neg g51, if_pos g61]; rfl) | (rw [sgn, if_neg (by omega), if_neg g23, if_neg g37, if_neg g51, if_neg g61]; rfl)) rfl
          · have g51 : t j = 44 := (nIe (by omega) (b := 44) (by decide)).mp c51
            refine g_iconst (v := 3) C dX3_signAt_54 (by decide) ?_
            refine g_goto 69 C dX3_signAt_55 (by decide) ?_
            exact e_I C dX3_signAt_69 rfl rfl rfl (by first | (rw [sgn, if_neg (by omega), if_neg g23, if_neg g37, if_pos g51]; rfl) | (rw [sgn, if_neg (by omega), if_neg g23, if_neg g37, if_neg g51, if_pos g61]; rfl) | (rw [sgn, if_neg (by omega), if_neg g23, if_neg g37, if_neg g51, if_neg g61]; rfl)) rfl
        · have g36 : 48 ≤ t j := nI_nt (b := 48) c37 (by omega) (by decide)
          refine g_iload_n C dX3_signAt_40 rfl ?_
          refine g_bipush (v := 57) C dX3_signAt_41 (by decide) ?_
          refine g_icmp_gt 48 C dX3_signAt_43 (by decide) (fun c43 => ?_) (fun c43 => ?_)
          · have g37 : ¬ (48 ≤ t j ∧ t j ≤ 57) := by have := nI_t (a := 57) c43 (by decide) (by omega); omega
            refine g_iload_n C dX3_signAt_48 rfl ?_
            refine g_bipush (v := 44) C dX3_signAt_49 (by decide) ?_
            refine g_icmp_ne 58 C dX3_signAt_51 (by decide) (fun c51 => ?_) (fun c51 => ?_)
            · have g51 : ¬ t j = 44 := fun q => c51 (by rw [q]; rfl)
              refine g_iload_n C dX3_signAt_58 rfl ?_
              refine g_bipush (v := 59) C dX3_signAt_59 (by decide) ?_
              refine g_icmp_ne 68 C dX3_signAt_61 (by decide) (fun c61 => ?_) (fun c61 => ?_)
              · have g61 : ¬ t j = 59 := fun q => c61 (by rw [q]; rfl)
                refine g_iconst (v := 5) C dX3_signAt_68 (by decide) ?_
                exact e_I C dX3_signAt_69 rfl rfl rfl (by first | (rw [sgn, if_neg (by omega), if_neg g23, if_neg g37, if_pos g51]; rfl) | (rw [sgn, if_neg (by omega), if_neg g23, if_neg g37, if_neg g51, if_pos g61]; rfl) | (rw [sgn, if_neg (by omega), if_neg g23, if_neg g37, if_neg g51, if_neg g61]; rfl)) rfl
              · have g61 : t j = 59 := (nIe (by omega) (b := 59) (by decide)).mp c61
                refine g_iconst (v := 4) C dX3_signAt_64 (by decide) ?_
                refine g_goto 69 C dX3_signAt_65 (by decide) ?_
                exact e_I C dX3_signAt_69 rfl rfl rfl (by first | (rw [sgn, if_neg (by omega), if_neg g23, if_neg g37, if_pos g51]; rfl) | (rw [sgn, if_neg (by omega), if_neg g23, if_neg g37, if_neg g51, if_pos g61]; rfl) | (rw [sgn, if_neg (by omega), if_neg g23, if_neg g37, if_neg g51, if_neg g61]; rfl)) rfl
            · have g51 : t j = 44 := (nIe (by omega) (b := 44) (by decide)).mp c51
              refine g_iconst (v := 3) C dX3_signAt_54 (by decide) ?_
              refine g_goto 69 C dX3_signAt_55 (by decide) ?_
              exact e_I C dX3_signAt_69 rfl rfl rfl (by first | (rw [sgn, if_neg (by omega), if_neg g23, if_neg g37, if_pos g51]; rfl) | (rw [sgn, if_neg (by omega), if_neg g23, if_neg g37, if_neg g51, if_pos g61]; rfl) | (rw [sgn, if_neg (by omega), if_neg g23, if_neg g37, if_neg g51, if_neg g61]; rfl)) rfl
          · have g37 : 48 ≤ t j ∧ t j ≤ 57 := ⟨g36, nI_nt (a := 57) c43 (by decide) (by omega)⟩
            refine g_iconst (v := 2) C dX3_signAt_46 (by decide) ?_
            exact e_I C dX3_signAt_47 rfl rfl rfl (by rw [sgn, if_neg (by omega), if_neg g23, if_pos g37]; rfl) rfl
      · have g23 : 97 ≤ t j ∧ t j ≤ 122 := ⟨g22, nI_nt (a := 122) c29 (by decide) (by omega)⟩
        refine g_iconst (v := 1) C dX3_signAt_32 (by decide) ?_
        exact e_I C dX3_signAt_33 rfl rfl rfl (by rw [sgn, if_neg (by omega), if_pos g23]; rfl) rfl
  · have g5 : e ≤ j := nI_nt c5 (by omega) (by omega)
    refine g_iconst (v := 0) C dX3_signAt_8 (by decide) ?_
    exact e_I C dX3_signAt_9 rfl rfl rfl (by rw [sgn, if_pos g5]; rfl) rfl
set_option maxHeartbeats 1000000 in
theorem s_advance0 {l : Launch} {G : Gm} {I : Nat → Nat → Int32} {J : Nat → Nat → Int64} {t : Nat → Nat} {e : Nat} (hB : byOK I t) (he : I 66 4 = nI e) (he3 : e ≤ 300) {i : Nat} (hi : i ≤ e) (hi8 : I 66 8 = nI i) : Sp l G iX3_advance [.ref (G.1 + 66)] (mm I J) (RetV (mm (up1 (up1 (up1 I 66 7 (nI (tf t e i))) 66 8 (nI (tn t e i))) 66 6 (nI (tk t e i))) J)) noT := by
  refine Sp.of (by decide +kernel) (Nat.le_of_ble_eq_true rfl) ?_
  intro X hXl C
  subst hXl
  show Go X G 3 0 0 _ 0 [.ref (G.1 + 66), uu, uu] [] (mm I J)
  have hfi := tf_in (t := t) hi
  have hni := tn_in (t := t) hi
  generalize hF : tf t e i = f0 at hfi hni ⊢
  have tail : ∀ a1 a2 : Value, Go X G 3 0 0 (KQ X G iX3_advance (RetV (mm (up1 (up1 (up1 I 66 7 (nI (f0))) 66 8 (nI (tn t e i))) 66 6 (nI (tk t e i))) J)) noT) 49 [.ref (G.1 + 66), a1, a2] [] (mm (up1 I 66 7 (nI f0)) J) := by
    intro a1 a2
    have byM : byOK (up1 I 66 7 (nI f0)) t := fun j hj => by rw [up1_off (by decide)]; exact hB j hj
    have byN : ∀ x, byOK (up1 (up1 I 66 7 (nI f0)) 66 8 (nI x)) t := fun x j hj => by rw [up1_off (by decide), up1_off (by decide)]; exact hB j hj
    have hk5 := sgn_le t e f0
    obtain ⟨kd, hkd⟩ : ∃ k, k = sgn t e f0 := ⟨_, rfl⟩
    rw [← hkd] at hk5
    have htn : tn t e i = if kd = 0 then f0 else if 1 < lgs kd then rnn t e kd (e - (f0 + 1)) (f0 + 1) else f0 + 1 := by rw [tn, hF, ← hkd]
    have htk : tk t e i = if tn t e i - f0 ≤ lgs kd then kd else 5 := by rw [tk, hF, ← hkd]
    have hlt : kd ≠ 0 → f0 < e := fun q => Classical.byContradiction fun z => q (by rw [hkd, sgn, if_pos (by omega)])
    rcases (show kd = 0 ∨ kd = 1 ∨ kd = 2 ∨ kd = 3 ∨ kd = 4 ∨ kd = 5 by omega) with rfl | rfl | rfl | rfl | rfl | rfl
    · rw [if_pos rfl] at htn
      refine g_aload_n C dX3_advance_49 rfl ?_
      refine g_aload_n C dX3_advance_50 rfl ?_
      refine g_getIv (ci := 3) (k := 7) (v := nI f0) C dX3_advance_51 rfl inGX3 (by decide) fwX3_101 ly_66 (by decide) rfl (by simp [up1]) ?_
      refine gv1I (ci := 3) C dX3_advance_54 vwX3_signAt mwX3_133 ⟨by decide, by decide⟩ rfl ly_66 (Nat.le_of_ble_eq_true rfl) (s_signAt byM (by simp [up1]; exact he) he3 (by omega)) (Nat.le_of_ble_eq_true rfl) rfl ⟨by decide, by decide⟩ ?_
      rw [← hkd]
      refine g_istore_1 C dX3_advance_57 (by decide) ?_
      refine g_iload_n C dX3_advance_58 rfl ?_
      refine g_iconst (v := 1) C dX3_advance_59 (by decide) ?_
      refine g_icmp_ne 68 C dX3_advance_60 (by decide) (fun c60 => ?_) (fun c60 => ?_)
      · refine g_iload_n C dX3_advance_68 rfl ?_
        refine g_iconst (v := 2) C dX3_advance_69 (by decide) ?_
        refine g_icmp_ne 77 C dX3_advance_70 (by decide) (fun c70 => ?_) (fun c70 => ?_)
        · refine g_iconst (v := 1) C dX3_advance_77 (by decide) ?_
          refine g_istore_2 C dX3_advance_78 (by decide) ?_
          refine g_aload_n C dX3_advance_79 rfl ?_
          refine g_iload_n C dX3_advance_80 rfl ?_
          refine g_if_ne 91 C dX3_advance_81 (by decide) (fun c81 => ?_) (fun c81 => ?_)
          · first | exact absurd c81 (by decide) | exact absurd (by decide) c81
          · refine g_aload_n C dX3_advance_84 rfl ?_
            refine g_getIv (ci := 3) (k := 7) (v := nI f0) C dX3_advance_85 rfl inGX3 (by decide) fwX3_101 ly_66 (by decide) rfl (by simp [up1]) ?_
            refine g_goto 97 C dX3_advance_88 (by decide) ?_
            refine g_putI (ci := 3) (k := 8) .int C dX3_advance_97 rfl inGX3 tyX3_ok nmX3 (by decide) fwX3_38 ly_66 (by decide) rfl rfl rfl rfl rfl ?_
            refine g_iload_n C dX3_advance_100 rfl ?_
            refine g_iconst (v := 1) C dX3_advance_101 (by decide) ?_
            refine g_icmp_le 141 C dX3_advance_102 (by decide) (fun c102 => ?_) (fun c102 => ?_)
            · refine g_aload_n C dX3_advance_141 rfl ?_
              refine g_aload_n C dX3_advance_142 rfl ?_
              refine g_getIv (ci := 3) (k := 8) (v := nI f0) C dX3_advance_143 rfl inGX3 (by decide) fwX3_38 ly_66 (by decide) rfl (by simp [up1]) ?_
              refine g_aload_n C dX3_advance_146 rfl ?_
              refine g_getIv (ci := 3) (k := 7) (v := nI f0) C dX3_advance_147 rfl inGX3 (by decide) fwX3_101 ly_66 (by decide) rfl (by simp [up1]) ?_
              refine g_isub C dX3_advance_150 ?_
              refine g_iload_n C dX3_advance_151 rfl ?_
              rw [pk_sub (show f0 ≤ f0 by omega)]
              refine g_icmp_gt 159 C dX3_advance_152 (by decide) (fun c152 => ?_) (fun c152 => ?_)
              · exact absurd (nI_t (a := 1) c152 (by decide) (by omega)) (by omega)
              · refine g_iload_n C dX3_advance_155 rfl ?_
                refine g_goto 160 C dX3_advance_156 (by decide) ?_
                refine g_putI (ci := 3) (k := 6) .int C dX3_advance_160 rfl inGX3 tyX3_ok nmX3 (by decide) fwX3_48 ly_66 (by decide) rfl rfl rfl rfl rfl ?_
                exact e_V C dX3_advance_163 rfl rfl rfl (by rw [htk, htn, if_pos (show f0 - f0 ≤ lgs 0 by show _ ≤ 1; omega)] <;> rfl)
            · first | exact absurd c102 (by decide) | exact absurd (by decide) c102
        · first | exact absurd c70 (by decide) | exact absurd (by decide) c70
      · first | exact absurd c60 (by decide) | exact absurd (by decide) c60
    · rw [if_neg (by decide), if_pos (by decide)] at htn
      have hlt2 := hlt (by decide)
      have lp : ∀ (g x : Nat), x + g = e → f0 < x → rnn t e 1 g x = tn t e i → Go X G 3 0 0 (KQ X G iX3_advance (RetV (mm (up1 (up1 (up1 I 66 7 (nI (f0))) 66 8 (nI (tn t e i))) 66 6 (nI (tk t e i))) J)) noT) 100 [.ref (G.1 + 66), .int 1, .int 8] [] (mm (up1 (up1 I 66 7 (nI f0)) 66 8 (nI x)) J) := by
        intro g
        induction g with
        | zero =>
          intro x hx hfx hr
          have hr2 : x = tn t e i := hr
          refine g_iload_n C dX3_advance_100 rfl ?_
          refine g_iconst (v := 1) C dX3_advance_101 (by decide) ?_
          refine g_icmp_le 141 C dX3_advance_102 (by decide) (fun c102 => ?_) (fun c102 => ?_)
          · exact absurd c102 (by decide)
          · refine g_aload_n C dX3_advance_105 rfl ?_
            refine g_getIv (ci := 3) (k := 8) (v := nI x) C dX3_advance_106 rfl inGX3 (by decide) fwX3_38 ly_66 (by decide) rfl (by simp [up1]) ?_
            refine g_aload_n C dX3_advance_109 rfl ?_
            refine g_getIv (ci := 3) (k := 4) (v := nI e) C dX3_advance_110 rfl inGX3 (by decide) fwX3_32 ly_66 (by decide) rfl (by simp [up1]; exact he) ?_
            refine g_icmp_ge 141 C dX3_advance_113 (by decide) (fun c113 => ?_) (fun c113 => ?_)
            · refine g_aload_n C dX3_advance_141 rfl ?_
              refine g_aload_n C dX3_advance_142 rfl ?_
              refine g_getIv (ci := 3) (k := 8) (v := nI x) C dX3_advance_143 rfl inGX3 (by decide) fwX3_38 ly_66 (by decide) rfl (by simp [up1]) ?_
              refine g_aload_n C dX3_advance_146 rfl ?_
              refine g_getIv (ci := 3) (k := 7) (v := nI f0) C dX3_advance_147 rfl inGX3 (by decide) fwX3_101 ly_66 (by decide) rfl (by simp [up1]) ?_
              refine g_isub C dX3_advance_150 ?_
              refine g_iload_n C dX3_advance_151 rfl ?_
              rw [pk_sub (show f0 ≤ x by omega)]
              refine g_icmp_gt 159 C dX3_advance_152 (by decide) (fun c152 => ?_) (fun c152 => ?_)
              · have g152 : ¬ x - f0 ≤ 8 := by have := nI_t (a := 8) c152 (by decide) (by omega); omega
                refine g_iconst (v := 5) C dX3_advance_159 (by decide) ?_
                refine g_putI (ci := 3) (k := 6) .int C dX3_advance_160 rfl inGX3 tyX3_ok nmX3 (by decide) fwX3_48 ly_66 (by decide) rfl rfl rfl rfl rfl ?_
                exact e_V C dX3_advance_163 rfl rfl rfl (by rw [htk, ← hr2]; first | (rw [if_pos (show x - f0 ≤ lgs 1 from g152)]; rfl) | (rw [if_neg (show ¬ x - f0 ≤ lgs 1 from g152)]; rfl))
              · have g152 : x - f0 ≤ 8 := nI_nt (a := 8) c152 (by decide) (by omega)
                refine g_iload_n C dX3_advance_155 rfl ?_
                refine g_goto 160 C dX3_advance_156 (by decide) ?_
                refine g_putI (ci := 3) (k := 6) .int C dX3_advance_160 rfl inGX3 tyX3_ok nmX3 (by decide) fwX3_48 ly_66 (by decide) rfl rfl rfl rfl rfl ?_
                exact e_V C dX3_advance_163 rfl rfl rfl (by rw [htk, ← hr2]; first | (rw [if_pos (show x - f0 ≤ lgs 1 from g152)]; rfl) | (rw [if_neg (show ¬ x - f0 ≤ lgs 1 from g152)]; rfl))
            · exact absurd (nI_le (show e ≤ x by omega) (by omega)) c113
        | succ g ih =>
          intro x hx hfx hr
          refine g_iload_n C dX3_advance_100 rfl ?_
          refine g_iconst (v := 1) C dX3_advance_101 (by decide) ?_
          refine g_icmp_le 141 C dX3_advance_102 (by decide) (fun c102 => ?_) (fun c102 => ?_)
          · exact absurd c102 (by decide)
          · refine g_aload_n C dX3_advance_105 rfl ?_
            refine g_getIv (ci := 3) (k := 8) (v := nI x) C dX3_advance_106 rfl inGX3 (by decide) fwX3_38 ly_66 (by decide) rfl (by simp [up1]) ?_
            refine g_aload_n C dX3_advance_109 rfl ?_
            refine g_getIv (ci := 3) (k := 4) (v := nI e) C dX3_advance_110 rfl inGX3 (by decide) fwX3_32 ly_66 (by decide) rfl (by simp [up1]; exact he) ?_
            refine g_icmp_ge 141 C dX3_advance_113 (by decide) (fun c113 => ?_) (fun c113 => ?_)
            · exact absurd (nI_l' c113 (by omega) (by omega)) (by omega)
            · refine g_aload_n C dX3_advance_116 rfl ?_
              refine g_aload_n C dX3_advance_117 rfl ?_
              refine g_getIv (ci := 3) (k := 8) (v := nI x) C dX3_advance_118 rfl inGX3 (by decide) fwX3_38 ly_66 (by decide) rfl (by simp [up1]) ?_
              refine gv1I (ci := 3) C dX3_advance_121 vwX3_signAt mwX3_133 ⟨by decide, by decide⟩ rfl ly_66 (Nat.le_of_ble_eq_true rfl) (s_signAt (byN x) (by simp [up1]; exact he) he3 (by omega)) (Nat.le_of_ble_eq_true rfl) rfl ⟨by decide, by decide⟩ ?_
              refine g_iload_n C dX3_advance_124 rfl ?_
              refine g_icmp_ne 141 C dX3_advance_125 (by decide) (fun c125 => ?_) (fun c125 => ?_)
              · have g125 : ¬ sgn t e x = 1 := fun q => c125 (by rw [q]; rfl)
                have hr2 : x = tn t e i := by rw [← hr]; unfold rnn; rw [if_neg g125]
                refine g_aload_n C dX3_advance_141 rfl ?_
                refine g_aload_n C dX3_advance_142 rfl ?_
                refine g_getIv (ci := 3) (k := 8) (v := nI x) C dX3_advance_143 rfl inGX3 (by decide) fwX3_38 ly_66 (by decide) rfl (by simp [up1]) ?_
                refine g_aload_n C dX3_advance_146 rfl ?_
                refine g_getIv (ci := 3) (k := 7) (v := nI f0) C dX3_advance_147 rfl inGX3 (by decide) fwX3_101 ly_66 (by decide) rfl (by simp [up1]) ?_
                refine g_isub C dX3_advance_150 ?_
                refine g_iload_n C dX3_advance_151 rfl ?_
                rw [pk_sub (show f0 ≤ x by omega)]
                refine g_icmp_gt 159 C dX3_advance_152 (by decide) (fun c152 => ?_) (fun c152 => ?_)
                · have g152 : ¬ x - f0 ≤ 8 := by have := nI_t (a := 8) c152 (by decide) (by omega); omega
                  refine g_iconst (v := 5) C dX3_advance_159 (by decide) ?_
                  refine g_putI (ci := 3) (k := 6) .int C dX3_advance_160 rfl inGX3 tyX3_ok nmX3 (by decide) fwX3_48 ly_66 (by decide) rfl rfl rfl rfl rfl ?_
                  exact e_V C dX3_advance_163 rfl rfl rfl (by rw [htk, ← hr2]; first | (rw [if_pos (show x - f0 ≤ lgs 1 from g152)]; rfl) | (rw [if_neg (show ¬ x - f0 ≤ lgs 1 from g152)]; rfl))
                · have g152 : x - f0 ≤ 8 := nI_nt (a := 8) c152 (by decide) (by omega)
                  refine g_iload_n C dX3_advance_155 rfl ?_
                  refine g_goto 160 C dX3_advance_156 (by decide) ?_
                  refine g_putI (ci := 3) (k := 6) .int C dX3_advance_160 rfl inGX3 tyX3_ok nmX3 (by decide) fwX3_48 ly_66 (by decide) rfl rfl rfl rfl rfl ?_
                  exact e_V C dX3_advance_163 rfl rfl rfl (by rw [htk, ← hr2]; first | (rw [if_pos (show x - f0 ≤ lgs 1 from g152)]; rfl) | (rw [if_neg (show ¬ x - f0 ≤ lgs 1 from g152)]; rfl))
              · have g125 : sgn t e x = 1 := (nIe (by have := sgn_le t e x; omega) (b := 1) (by decide)).mp c125
                refine g_aload_n C dX3_advance_128 rfl ?_
                refine g_dup C dX3_advance_129 rfl ?_
                refine g_getIv (ci := 3) (k := 8) (v := nI x) C dX3_advance_130 rfl inGX3 (by decide) fwX3_38 ly_66 (by decide) rfl (by simp [up1]) ?_
                refine g_iconst (v := 1) C dX3_advance_133 (by decide) ?_
                refine g_iadd C dX3_advance_134 ?_
                rw [nI_1]
                refine g_putI (ci := 3) (k := 8) .int C dX3_advance_135 rfl inGX3 tyX3_ok nmX3 (by decide) fwX3_38 ly_66 (by decide) rfl rfl rfl rfl rfl ?_
                refine g_goto 100 C dX3_advance_138 (by decide) ?_
                rw [up1_up1]
                exact ih (x + 1) (by omega) (by omega) (by unfold rnn at hr; rw [if_pos g125] at hr; exact hr)
      refine g_aload_n C dX3_advance_49 rfl ?_
      refine g_aload_n C dX3_advance_50 rfl ?_
      refine g_getIv (ci := 3) (k := 7) (v := nI f0) C dX3_advance_51 rfl inGX3 (by decide) fwX3_101 ly_66 (by decide) rfl (by simp [up1]) ?_
      refine gv1I (ci := 3) C dX3_advance_54 vwX3_signAt mwX3_133 ⟨by decide, by decide⟩ rfl ly_66 (Nat.le_of_ble_eq_true rfl) (s_signAt byM (by simp [up1]; exact he) he3 (by omega)) (Nat.le_of_ble_eq_true rfl) rfl ⟨by decide, by decide⟩ ?_
      rw [← hkd]
      refine g_istore_1 C dX3_advance_57 (by decide) ?_
      refine g_iload_n C dX3_advance_58 rfl ?_
      refine g_iconst (v := 1) C dX3_advance_59 (by decide) ?_
      refine g_icmp_ne 68 C dX3_advance_60 (by decide) (fun c60 => ?_) (fun c60 => ?_)
      · first | exact absurd c60 (by decide) | exact absurd (by decide) c60
      · refine g_bipush (v := 8) C dX3_advance_63 (by decide) ?_
        refine g_goto 78 C dX3_advance_65 (by decide) ?_
        refine g_istore_2 C dX3_advance_78 (by decide) ?_
        refine g_aload_n C dX3_advance_79 rfl ?_
        refine g_iload_n C dX3_advance_80 rfl ?_
        refine g_if_ne 91 C dX3_advance_81 (by decide) (fun c81 => ?_) (fun c81 => ?_)
        · refine g_aload_n C dX3_advance_91 rfl ?_
          refine g_getIv (ci := 3) (k := 7) (v := nI f0) C dX3_advance_92 rfl inGX3 (by decide) fwX3_101 ly_66 (by decide) rfl (by simp [up1]) ?_
          refine g_iconst (v := 1) C dX3_advance_95 (by decide) ?_
          refine g_iadd C dX3_advance_96 ?_
          rw [nI_1]
          refine g_putI (ci := 3) (k := 8) .int C dX3_advance_97 rfl inGX3 tyX3_ok nmX3 (by decide) fwX3_38 ly_66 (by decide) rfl rfl rfl rfl rfl ?_
          exact lp (e - (f0 + 1)) (f0 + 1) (by omega) (by omega) htn.symm
        · first | exact absurd c81 (by decide) | exact absurd (by decide) c81
    · rw [if_neg (by decide), if_pos (by decide)] at htn
      have hlt2 := hlt (by decide)
      have lp : ∀ (g x : Nat), x + g = e → f0 < x → rnn t e 2 g x = tn t e i → Go X G 3 0 0 (KQ X G iX3_advance (RetV (mm (up1 (up1 (up1 I 66 7 (nI (f0))) 66 8 (nI (tn t e i))) 66 6 (nI (tk t e i))) J)) noT) 100 [.ref (G.1 + 66), .int 2, .int 2] [] (mm (up1 (up1 I 66 7 (nI f0)) 66 8 (nI x)) J) := by
        intro g
        induction g with
        | zero =>
          intro x hx hfx hr
          have hr2 : x = tn t e i := hr
          refine g_iload_n C dX3_advance_100 rfl ?_
          refine g_iconst (v := 1) C dX3_advance_101 (by decide) ?_
          refine g_icmp_le 141 C dX3_advance_102 (by decide) (fun c102 => ?_) (fun c102 => ?_)
          · exact absurd c102 (by decide)
          · refine g_aload_n C dX3_advance_105 rfl ?_
            refine g_getIv (ci := 3) (k := 8) (v := nI x) C dX3_advance_106 rfl inGX3 (by decide) fwX3_38 ly_66 (by decide) rfl (by simp [up1]) ?_
            refine g_aload_n C dX3_advance_109 rfl ?_
            refine g_getIv (ci := 3) (k := 4) (v := nI e) C dX3_advance_110 rfl inGX3 (by decide) fwX3_32 ly_66 (by decide) rfl (by simp [up1]; exact he) ?_
            refine g_icmp_ge 141 C dX3_advance_113 (by decide) (fun c113 => ?_) (fun c113 => ?_)
            · refine g_aload_n C dX3_advance_141 rfl ?_
              refine g_aload_n C dX3_advance_142 rfl ?_
              refine g_getIv (ci := 3) (k := 8) (v := nI x) C dX3_advance_143 rfl inGX3 (by decide) fwX3_38 ly_66 (by decide) rfl (by simp [up1]) ?_
              refine g_aload_n C dX3_advance_146 rfl ?_
              refine g_getIv (ci := 3) (k := 7) (v := nI f0) C dX3_advance_147 rfl inGX3 (by decide) fwX3_101 ly_66 (by decide) rfl (by simp [up1]) ?_
              refine g_isub C dX3_advance_150 ?_
              refine g_iload_n C dX3_advance_151 rfl ?_
              rw [pk_sub (show f0 ≤ x by omega)]
              refine g_icmp_gt 159 C dX3_advance_152 (by decide) (fun c152 => ?_) (fun c152 => ?_)
              · have g152 : ¬ x - f0 ≤ 2 := by have := nI_t (a := 2) c152 (by decide) (by omega); omega
                refine g_iconst (v := 5) C dX3_advance_159 (by decide) ?_
                refine g_putI (ci := 3) (k := 6) .int C dX3_advance_160 rfl inGX3 tyX3_ok nmX3 (by decide) fwX3_48 ly_66 (by decide) rfl rfl rfl rfl rfl ?_
                exact e_V C dX3_advance_163 rfl rfl rfl (by rw [htk, ← hr2]; first | (rw [if_pos (show x - f0 ≤ lgs 2 from g152)]; rfl) | (rw [if_neg (show ¬ x - f0 ≤ lgs 2 from g152)]; rfl))
              · have g152 : x - f0 ≤ 2 := nI_nt (a := 2) c152 (by decide) (by omega)
                refine g_iload_n C dX3_advance_155 rfl ?_
                refine g_goto 160 C dX3_advance_156 (by decide) ?_
                refine g_putI (ci := 3) (k := 6) .int C dX3_advance_160 rfl inGX3 tyX3_ok nmX3 (by decide) fwX3_48 ly_66 (by decide) rfl rfl rfl rfl rfl ?_
                exact e_V C dX3_advance_163 rfl rfl rfl (by rw [htk, ← hr2]; first | (rw [if_pos (show x - f0 ≤ lgs 2 from g152)]; rfl) | (rw [if_neg (show ¬ x - f0 ≤ lgs 2 from g152)]; rfl))
            · exact absurd (nI_le (show e ≤ x by omega) (by omega)) c113
        | succ g ih =>
          intro x hx hfx hr
          refine g_iload_n C dX3_advance_100 rfl ?_
          refine g_iconst (v := 1) C dX3_advance_101 (by decide) ?_
          refine g_icmp_le 141 C dX3_advance_102 (by decide) (fun c102 => ?_) (fun c102 => ?_)
          · exact absurd c102 (by decide)
          · refine g_aload_n C dX3_advance_105 rfl ?_
            refine g_getIv (ci := 3) (k := 8) (v := nI x) C dX3_advance_106 rfl inGX3 (by decide) fwX3_38 ly_66 (by decide) rfl (by simp [up1]) ?_
            refine g_aload_n C dX3_advance_109 rfl ?_
            refine g_getIv (ci := 3) (k := 4) (v := nI e) C dX3_advance_110 rfl inGX3 (by decide) fwX3_32 ly_66 (by decide) rfl (by simp [up1]; exact he) ?_
            refine g_icmp_ge 141 C dX3_advance_113 (by decide) (fun c113 => ?_) (fun c113 => ?_)
            · exact absurd (nI_l' c113 (by omega) (by omega)) (by omega)
            · refine g_aload_n C dX3_advance_116 rfl ?_
              refine g_aload_n C dX3_advance_117 rfl ?_
              refine g_getIv (ci := 3) (k := 8) (v := nI x) C dX3_advance_118 rfl inGX3 (by decide) fwX3_38 ly_66 (by decide) rfl (by simp [up1]) ?_
              refine gv1I (ci := 3) C dX3_advance_121 vwX3_signAt mwX3_133 ⟨by decide, by decide⟩ rfl ly_66 (Nat.le_of_ble_eq_true rfl) (s_signAt (byN x) (by simp [up1]; exact he) he3 (by omega)) (Nat.le_of_ble_eq_true rfl) rfl ⟨by decide, by decide⟩ ?_
              refine g_iload_n C dX3_advance_124 rfl ?_
              refine g_icmp_ne 141 C dX3_advance_125 (by decide) (fun c125 => ?_) (fun c125 => ?_)
              · have g125 : ¬ sgn t e x = 2 := fun q => c125 (by rw [q]; rfl)
                have hr2 : x = tn t e i := by rw [← hr]; unfold rnn; rw [if_neg g125]
                refine g_aload_n C dX3_advance_141 rfl ?_
                refine g_aload_n C dX3_advance_142 rfl ?_
                refine g_getIv (ci := 3) (k := 8) (v := nI x) C dX3_advance_143 rfl inGX3 (by decide) fwX3_38 ly_66 (by decide) rfl (by simp [up1]) ?_
                refine g_aload_n C dX3_advance_146 rfl ?_
                refine g_getIv (ci := 3) (k := 7) (v := nI f0) C dX3_advance_147 rfl inGX3 (by decide) fwX3_101 ly_66 (by decide) rfl (by simp [up1]) ?_
                refine g_isub C dX3_advance_150 ?_
                refine g_iload_n C dX3_advance_151 rfl ?_
                rw [pk_sub (show f0 ≤ x by omega)]
                refine g_icmp_gt 159 C dX3_advance_152 (by decide) (fun c152 => ?_) (fun c152 => ?_)
                · have g152 : ¬ x - f0 ≤ 2 := by have := nI_t (a := 2) c152 (by decide) (by omega); omega
                  refine g_iconst (v := 5) C dX3_advance_159 (by decide) ?_
                  refine g_putI (ci := 3) (k := 6) .int C dX3_advance_160 rfl inGX3 tyX3_ok nmX3 (by decide) fwX3_48 ly_66 (by decide) rfl rfl rfl rfl rfl ?_
                  exact e_V C dX3_advance_163 rfl rfl rfl (by rw [htk, ← hr2]; first | (rw [if_pos (show x - f0 ≤ lgs 2 from g152)]; rfl) | (rw [if_neg (show ¬ x - f0 ≤ lgs 2 from g152)]; rfl))
                · have g152 : x - f0 ≤ 2 := nI_nt (a := 2) c152 (by decide) (by omega)
                  refine g_iload_n C dX3_advance_155 rfl ?_
                  refine g_goto 160 C dX3_advance_156 (by decide) ?_
                  refine g_putI (ci := 3) (k := 6) .int C dX3_advance_160 rfl inGX3 tyX3_ok nmX3 (by decide) fwX3_48 ly_66 (by decide) rfl rfl rfl rfl rfl ?_
                  exact e_V C dX3_advance_163 rfl rfl rfl (by rw [htk, ← hr2]; first | (rw [if_pos (show x - f0 ≤ lgs 2 from g152)]; rfl) | (rw [if_neg (show ¬ x - f0 ≤ lgs 2 from g152)]; rfl))
              · have g125 : sgn t e x = 2 := (nIe (by have := sgn_le t e x; omega) (b := 2) (by decide)).mp c125
                refine g_aload_n C dX3_advance_128 rfl ?_
                refine g_dup C dX3_advance_129 rfl ?_
                refine g_getIv (ci := 3) (k := 8) (v := nI x) C dX3_advance_130 rfl inGX3 (by decide) fwX3_38 ly_66 (by decide) rfl (by simp [up1]) ?_
                refine g_iconst (v := 1) C dX3_advance_133 (by decide) ?_
                refine g_iadd C dX3_advance_134 ?_
                rw [nI_1]
                refine g_putI (ci := 3) (k := 8) .int C dX3_advance_135 rfl inGX3 tyX3_ok nmX3 (by decide) fwX3_38 ly_66 (by decide) rfl rfl rfl rfl rfl ?_
                refine g_goto 100 C dX3_advance_138 (by decide) ?_
                rw [up1_up1]
                exact ih (x + 1) (by omega) (by omega) (by unfold rnn at hr; rw [if_pos g125] at hr; exact hr)
      refine g_aload_n C dX3_advance_49 rfl ?_
      refine g_aload_n C dX3_advance_50 rfl ?_
      refine g_getIv (ci := 3) (k := 7) (v := nI f0) C dX3_advance_51 rfl inGX3 (by decide) fwX3_101 ly_66 (by decide) rfl (by simp [up1]) ?_
      refine gv1I (ci := 3) C dX3_advance_54 vwX3_signAt mwX3_133 ⟨by decide, by decide⟩ rfl ly_66 (Nat.le_of_ble_eq_true rfl) (s_signAt byM (by simp [up1]; exact he) he3 (by omega)) (Nat.le_of_ble_eq_true rfl) rfl ⟨by decide, by decide⟩ ?_
      rw [← hkd]
      refine g_istore_1 C dX3_advance_57 (by decide) ?_
      refine g_iload_n C dX3_advance_58 rfl ?_
      refine g_iconst (v := 1) C dX3_advance_59 (by decide) ?_
      refine g_icmp_ne 68 C dX3_advance_60 (by decide) (fun c60 => ?_) (fun c60 => ?_)
      · refine g_iload_n C dX3_advance_68 rfl ?_
        refine g_iconst (v := 2) C dX3_advance_69 (by decide) ?_
        refine g_icmp_ne 77 C dX3_advance_70 (by decide) (fun c70 => ?_) (fun c70 => ?_)
        · first | exact absurd c70 (by decide) | exact absurd (by decide) c70
        · refine g_iconst (v := 2) C dX3_advance_73 (by decide) ?_
          refine g_goto 78 C dX3_advance_74 (by decide) ?_
          refine g_istore_2 C dX3_advance_78 (by decide) ?_
          refine g_aload_n C dX3_advance_79 rfl ?_
          refine g_iload_n C dX3_advance_80 rfl ?_
          refine g_if_ne 91 C dX3_advance_81 (by decide) (fun c81 => ?_) (fun c81 => ?_)
          · refine g_aload_n C dX3_advance_91 rfl ?_
            refine g_getIv (ci := 3) (k := 7) (v := nI f0) C dX3_advance_92 rfl inGX3 (by decide) fwX3_101 ly_66 (by decide) rfl (by simp [up1]) ?_
            refine g_iconst (v := 1) C dX3_advance_95 (by decide) ?_
            refine g_iadd C dX3_advance_96 ?_
            rw [nI_1]
            refine g_putI (ci := 3) (k := 8) .int C dX3_advance_97 rfl inGX3 tyX3_ok nmX3 (by decide) fwX3_38 ly_66 (by decide) rfl rfl rfl rfl rfl ?_
            exact lp (e - (f0 + 1)) (f0 + 1) (by omega) (by omega) htn.symm
          · first | exact absurd c81 (by decide) | exact absurd (by decide) c81
      · first | exact absurd c60 (by decide) | exact absurd (by decide) c60
    · rw [if_neg (by decide), if_neg (by decide)] at htn
      have hlt2 := hlt (by decide)
      refine g_aload_n C dX3_advance_49 rfl ?_
      refine g_aload_n C dX3_advance_50 rfl ?_
      refine g_getIv (ci := 3) (k := 7) (v := nI f0) C dX3_advance_51 rfl inGX3 (by decide) fwX3_101 ly_66 (by decide) rfl (by simp [up1]) ?_
      refine gv1I (ci := 3) C dX3_advance_54 vwX3_signAt mwX3_133 ⟨by decide, by decide⟩ rfl ly_66 (Nat.le_of_ble_eq_true rfl) (s_signAt byM (by simp [up1]; exact he) he3 (by omega)) (Nat.le_of_ble_eq_true rfl) rfl ⟨by decide, by decide⟩ ?_
      rw [← hkd]
      refine g_istore_1 C dX3_advance_57 (by decide) ?_
      refine g_iload_n C dX3_advance_58 rfl ?_
      refine g_iconst (v := 1) C dX3_advance_59 (by decide) ?_
      refine g_icmp_ne 68 C dX3_advance_60 (by decide) (fun c60 => ?_) (fun c60 => ?_)
      · refine g_iload_n C dX3_advance_68 rfl ?_
        refine g_iconst (v := 2) C dX3_advance_69 (by decide) ?_
        refine g_icmp_ne 77 C dX3_advance_70 (by decide) (fun c70 => ?_) (fun c70 => ?_)
        · refine g_iconst (v := 1) C dX3_advance_77 (by decide) ?_
          refine g_istore_2 C dX3_advance_78 (by decide) ?_
          refine g_aload_n C dX3_advance_79 rfl ?_
          refine g_iload_n C dX3_advance_80 rfl ?_
          refine g_if_ne 91 C dX3_advance_81 (by decide) (fun c81 => ?_) (fun c81 => ?_)
          · refine g_aload_n C dX3_advance_91 rfl ?_
            refine g_getIv (ci := 3) (k := 7) (v := nI f0) C dX3_advance_92 rfl inGX3 (by decide) fwX3_101 ly_66 (by decide) rfl (by simp [up1]) ?_
            refine g_iconst (v := 1) C dX3_advance_95 (by decide) ?_
            refine g_iadd C dX3_advance_96 ?_
            rw [nI_1]
            refine g_putI (ci := 3) (k := 8) .int C dX3_advance_97 rfl inGX3 tyX3_ok nmX3 (by decide) fwX3_38 ly_66 (by decide) rfl rfl rfl rfl rfl ?_
            refine g_iload_n C dX3_advance_100 rfl ?_
            refine g_iconst (v := 1) C dX3_advance_101 (by decide) ?_
            refine g_icmp_le 141 C dX3_advance_102 (by decide) (fun c102 => ?_) (fun c102 => ?_)
            · refine g_aload_n C dX3_advance_141 rfl ?_
              refine g_aload_n C dX3_advance_142 rfl ?_
              refine g_getIv (ci := 3) (k := 8) (v := nI (f0 + 1)) C dX3_advance_143 rfl inGX3 (by decide) fwX3_38 ly_66 (by decide) rfl (by simp [up1]) ?_
              refine g_aload_n C dX3_advance_146 rfl ?_
              refine g_getIv (ci := 3) (k := 7) (v := nI f0) C dX3_advance_147 rfl inGX3 (by decide) fwX3_101 ly_66 (by decide) rfl (by simp [up1]) ?_
              refine g_isub C dX3_advance_150 ?_
              refine g_iload_n C dX3_advance_151 rfl ?_
              rw [pk_sub (show f0 ≤ (f0 + 1) by omega)]
              refine g_icmp_gt 159 C dX3_advance_152 (by decide) (fun c152 => ?_) (fun c152 => ?_)
              · exact absurd (nI_t (a := 1) c152 (by decide) (by omega)) (by omega)
              · refine g_iload_n C dX3_advance_155 rfl ?_
                refine g_goto 160 C dX3_advance_156 (by decide) ?_
                refine g_putI (ci := 3) (k := 6) .int C dX3_advance_160 rfl inGX3 tyX3_ok nmX3 (by decide) fwX3_48 ly_66 (by decide) rfl rfl rfl rfl rfl ?_
                exact e_V C dX3_advance_163 rfl rfl rfl (by rw [htk, htn, if_pos (show (f0 + 1) - f0 ≤ lgs 3 by show _ ≤ 1; omega)] <;> rfl)
            · first | exact absurd c102 (by decide) | exact absurd (by decide) c102
          · first | exact absurd c81 (by decide) | exact absurd (by decide) c81
        · first | exact absurd c70 (by decide) | exact absurd (by decide) c70
      · first | exact absurd c60 (by decide) | exact absurd (by decide) c60
    · rw [if_neg (by decide), if_neg (by decide)] at htn
      have hlt2 := hlt (by decide)
      refine g_aload_n C dX3_advance_49 rfl ?_
      refine g_aload_n C dX3_advance_50 rfl ?_
      refine g_getIv (ci := 3) (k := 7) (v := nI f0) C dX3_advance_51 rfl inGX3 (by decide) fwX3_101 ly_66 (by decide) rfl (by simp [up1]) ?_
      refine gv1I (ci := 3) C dX3_advance_54 vwX3_signAt mwX3_133 ⟨by decide, by decide⟩ rfl ly_66 (Nat.le_of_ble_eq_true rfl) (s_signAt byM (by simp [up1]; exact he) he3 (by omega)) (Nat.le_of_ble_eq_true rfl) rfl ⟨by decide, by decide⟩ ?_
      rw [← hkd]
      refine g_istore_1 C dX3_advance_57 (by decide) ?_
      refine g_iload_n C dX3_advance_58 rfl ?_
      refine g_iconst (v := 1) C dX3_advance_59 (by decide) ?_
      refine g_icmp_ne 68 C dX3_advance_60 (by decide) (fun c60 => ?_) (fun c60 => ?_)
      · refine g_iload_n C dX3_advance_68 rfl ?_
        refine g_iconst (v := 2) C dX3_advance_69 (by decide) ?_
        refine g_icmp_ne 77 C dX3_advance_70 (by decide) (fun c70 => ?_) (fun c70 => ?_)
        · refine g_iconst (v := 1) C dX3_advance_77 (by decide) ?_
          refine g_istore_2 C dX3_advance_78 (by decide) ?_
          refine g_aload_n C dX3_advance_79 rfl ?_
          refine g_iload_n C dX3_advance_80 rfl ?_
          refine g_if_ne 91 C dX3_advance_81 (by decide) (fun c81 => ?_) (fun c81 => ?_)
          · refine g_aload_n C dX3_advance_91 rfl ?_
            refine g_getIv (ci := 3) (k := 7) (v := nI f0) C dX3_advance_92 rfl inGX3 (by decide) fwX3_101 ly_66 (by decide) rfl (by simp [up1]) ?_
            refine g_iconst (v := 1) C dX3_advance_95 (by decide) ?_
            refine g_iadd C dX3_advance_96 ?_
            rw [nI_1]
            refine g_putI (ci := 3) (k := 8) .int C dX3_advance_97 rfl inGX3 tyX3_ok nmX3 (by decide) fwX3_38 ly_66 (by decide) rfl rfl rfl rfl rfl ?_
            refine g_iload_n C dX3_advance_100 rfl ?_
            refine g_iconst (v := 1) C dX3_advance_101 (by decide) ?_
            refine g_icmp_le 141 C dX3_advance_102 (by decide) (fun c102 => ?_) (fun c102 => ?_)
            · refine g_aload_n C dX3_advance_141 rfl ?_
              refine g_aload_n C dX3_advance_142 rfl ?_
              refine g_getIv (ci := 3) (k := 8) (v := nI (f0 + 1)) C dX3_advance_143 rfl inGX3 (by decide) fwX3_38 ly_66 (by decide) rfl (by simp [up1]) ?_
              refine g_aload_n C dX3_advance_146 rfl ?_
              refine g_getIv (ci := 3) (k := 7) (v := nI f0) C dX3_advance_147 rfl inGX3 (by decide) fwX3_101 ly_66 (by decide) rfl (by simp [up1]) ?_
              refine g_isub C dX3_advance_150 ?_
              refine g_iload_n C dX3_advance_151 rfl ?_
              rw [pk_sub (show f0 ≤ (f0 + 1) by omega)]
              refine g_icmp_gt 159 C dX3_advance_152 (by decide) (fun c152 => ?_) (fun c152 => ?_)
              · exact absurd (nI_t (a := 1) c152 (by decide) (by omega)) (by omega)
              · refine g_iload_n C dX3_advance_155 rfl ?_
                refine g_goto 160 C dX3_advance_156 (by decide) ?_
                refine g_putI (ci := 3) (k := 6) .int C dX3_advance_160 rfl inGX3 tyX3_ok nmX3 (by decide) fwX3_48 ly_66 (by decide) rfl rfl rfl rfl rfl ?_
                exact e_V C dX3_advance_163 rfl rfl rfl (by rw [htk, htn, if_pos (show (f0 + 1) - f0 ≤ lgs 4 by show _ ≤ 1; omega)] <;> rfl)
            · first | exact absurd c102 (by decide) | exact absurd (by decide) c102
          · first | exact absurd c81 (by decide) | exact absurd (by decide) c81
        · first | exact absurd c70 (by decide) | exact absurd (by decide) c70
      · first | exact absurd c60 (by decide) | exact absurd (by decide) c60
    · rw [if_neg (by decide), if_neg (by decide)] at htn
      have hlt2 := hlt (by decide)
      refine g_aload_n C dX3_advance_49 rfl ?_
      refine g_aload_n C dX3_advance_50 rfl ?_
      refine g_getIv (ci := 3) (k := 7) (v := nI f0) C dX3_advance_51 rfl inGX3 (by decide) fwX3_101 ly_66 (by decide) rfl (by simp [up1]) ?_
      refine gv1I (ci := 3) C dX3_advance_54 vwX3_signAt mwX3_133 ⟨by decide, by decide⟩ rfl ly_66 (Nat.le_of_ble_eq_true rfl) (s_signAt byM (by simp [up1]; exact he) he3 (by omega)) (Nat.le_of_ble_eq_true rfl) rfl ⟨by decide, by decide⟩ ?_
      rw [← hkd]
      refine g_istore_1 C dX3_advance_57 (by decide) ?_
      refine g_iload_n C dX3_advance_58 rfl ?_
      refine g_iconst (v := 1) C dX3_advance_59 (by decide) ?_
      refine g_icmp_ne 68 C dX3_advance_60 (by decide) (fun c60 => ?_) (fun c60 => ?_)
      · refine g_iload_n C dX3_advance_68 rfl ?_
        refine g_iconst (v := 2) C dX3_advance_69 (by decide) ?_
        refine g_icmp_ne 77 C dX3_advance_70 (by decide) (fun c70 => ?_) (fun c70 => ?_)
        · refine g_iconst (v := 1) C dX3_advance_77 (by decide) ?_
          refine g_istore_2 C dX3_advance_78 (by decide) ?_
          refine g_aload_n C dX3_advance_79 rfl ?_
          refine g_iload_n C dX3_advance_80 rfl ?_
          refine g_if_ne 91 C dX3_advance_81 (by decide) (fun c81 => ?_) (fun c81 => ?_)
          · refine g_aload_n C dX3_advance_91 rfl ?_
            refine g_getIv (ci := 3) (k := 7) (v := nI f0) C dX3_advance_92 rfl inGX3 (by decide) fwX3_101 ly_66 (by decide) rfl (by simp [up1]) ?_
            refine g_iconst (v := 1) C dX3_advance_95 (by decide) ?_
            refine g_iadd C dX3_advance_96 ?_
            rw [nI_1]
            refine g_putI (ci := 3) (k := 8) .int C dX3_advance_97 rfl inGX3 tyX3_ok nmX3 (by decide) fwX3_38 ly_66 (by decide) rfl rfl rfl rfl rfl ?_
            refine g_iload_n C dX3_advance_100 rfl ?_
            refine g_iconst (v := 1) C dX3_advance_101 (by decide) ?_
            refine g_icmp_le 141 C dX3_advance_102 (by decide) (fun c102 => ?_) (fun c102 => ?_)
            · refine g_aload_n C dX3_advance_141 rfl ?_
              refine g_aload_n C dX3_advance_142 rfl ?_
              refine g_getIv (ci := 3) (k := 8) (v := nI (f0 + 1)) C dX3_advance_143 rfl inGX3 (by decide) fwX3_38 ly_66 (by decide) rfl (by simp [up1]) ?_
              refine g_aload_n C dX3_advance_146 rfl ?_
              refine g_getIv (ci := 3) (k := 7) (v := nI f0) C dX3_advance_147 rfl inGX3 (by decide) fwX3_101 ly_66 (by decide) rfl (by simp [up1]) ?_
              refine g_isub C dX3_advance_150 ?_
              refine g_iload_n C dX3_advance_151 rfl ?_
              rw [pk_sub (show f0 ≤ (f0 + 1) by omega)]
              refine g_icmp_gt 159 C dX3_advance_152 (by decide) (fun c152 => ?_) (fun c152 => ?_)
              · exact absurd (nI_t (a := 1) c152 (by decide) (by omega)) (by omega)
              · refine g_iload_n C dX3_advance_155 rfl ?_
                refine g_goto 160 C dX3_advance_156 (by decide) ?_
                refine g_putI (ci := 3) (k := 6) .int C dX3_advance_160 rfl inGX3 tyX3_ok nmX3 (by decide) fwX3_48 ly_66 (by decide) rfl rfl rfl rfl rfl ?_
                exact e_V C dX3_advance_163 rfl rfl rfl (by rw [htk, htn, if_pos (show (f0 + 1) - f0 ≤ lgs 5 by show _ ≤ 1; omega)] <;> rfl)
            · first | exact absurd c102 (by decide) | exact absurd (by decide) c102
          · first | exact absurd c81 (by decide) | exact absurd (by decide) c81
        · first | exact absurd c70 (by decide) | exact absurd (by decide) c70
      · first | exact absurd c60 (by decide) | exact absurd (by decide) c60
  have skip : ∀ (g f : Nat), f + g = e → skp t e g f = f0 → Go X G 3 0 0 (KQ X G iX3_advance (RetV (mm (up1 (up1 (up1 I 66 7 (nI (f0))) 66 8 (nI (tn t e i))) 66 6 (nI (tk t e i))) J)) noT) 8 [.ref (G.1 + 66), uu, uu] [] (mm (up1 I 66 7 (nI f)) J) := by
    intro g
    induction g with
    | zero =>
      intro f hf hs
      have hs2 : f = f0 := hs
      subst hs2
      refine g_aload_n C dX3_advance_8 rfl ?_
      refine g_getIv (ci := 3) (k := 7) (v := nI f) C dX3_advance_9 rfl inGX3 (by decide) fwX3_101 ly_66 (by decide) rfl (by simp [up1]) ?_
      refine g_aload_n C dX3_advance_12 rfl ?_
      refine g_getIv (ci := 3) (k := 4) (v := nI e) C dX3_advance_13 rfl inGX3 (by decide) fwX3_32 ly_66 (by decide) rfl (by simp [up1]; exact he) ?_
      refine g_icmp_ge 49 C dX3_advance_16 (by decide) (fun c16 => ?_) (fun c16 => ?_)
      · exact tail _ _
      · exact absurd (nI_le (show e ≤ f by omega) (by omega)) c16
    | succ g ih =>
      intro f hf hs
      obtain ⟨hb1, hb2⟩ := hB f (by omega)
      refine g_aload_n C dX3_advance_8 rfl ?_
      refine g_getIv (ci := 3) (k := 7) (v := nI f) C dX3_advance_9 rfl inGX3 (by decide) fwX3_101 ly_66 (by decide) rfl (by simp [up1]) ?_
      refine g_aload_n C dX3_advance_12 rfl ?_
      refine g_getIv (ci := 3) (k := 4) (v := nI e) C dX3_advance_13 rfl inGX3 (by decide) fwX3_32 ly_66 (by decide) rfl (by simp [up1]; exact he) ?_
      refine g_icmp_ge 49 C dX3_advance_16 (by decide) (fun c16 => ?_) (fun c16 => ?_)
      · exact absurd (nI_l' c16 (by omega) (by omega)) (by omega)
      · refine g_aload_n C dX3_advance_19 rfl ?_
        refine g_getR (ci := 3) (k := 1) (q := 1) C dX3_advance_20 rfl inGX3 (by decide) fwX3_18 ly_66 (by decide) rfl rfl ?_
        refine g_getR (ci := 6) (k := 0) (q := 2) C dX3_advance_23 rfl inGX6 (by decide) fwX3_103 ly_1 (by decide) rfl rfl ?_
        refine g_aload_n C dX3_advance_26 rfl ?_
        refine g_getIv (ci := 3) (k := 7) (v := nI f) C dX3_advance_27 rfl inGX3 (by decide) fwX3_101 ly_66 (by decide) rfl (by simp [up1]) ?_
        refine g_ialdv (v := nI (t f)) _ C dX3_advance_30 ly_2 (by decide) (by decide) rfl (by omega) (by rw [up1_off (by decide)]; exact hb1) ?_
        refine g_bipush (v := 32) C dX3_advance_31 (by decide) ?_
        refine g_icmp_ne 49 C dX3_advance_33 (by decide) (fun c33 => ?_) (fun c33 => ?_)
        · have g33 : ¬ t f = 32 := fun q => c33 (by rw [q]; rfl)
          have hs2 : f = f0 := by rw [← hs]; unfold skp; rw [if_neg g33]
          subst hs2
          exact tail _ _
        · have g33 : t f = 32 := (nIe (by omega) (b := 32) (by decide)).mp c33
          refine g_aload_n C dX3_advance_36 rfl ?_
          refine g_dup C dX3_advance_37 rfl ?_
          refine g_getIv (ci := 3) (k := 7) (v := nI f) C dX3_advance_38 rfl inGX3 (by decide) fwX3_101 ly_66 (by decide) rfl (by simp [up1]) ?_
          refine g_iconst (v := 1) C dX3_advance_41 (by decide) ?_
          refine g_iadd C dX3_advance_42 ?_
          rw [nI_1]
          refine g_putI (ci := 3) (k := 7) .int C dX3_advance_43 rfl inGX3 tyX3_ok nmX3 (by decide) fwX3_101 ly_66 (by decide) rfl rfl rfl rfl rfl ?_
          refine g_goto 8 C dX3_advance_46 (by decide) ?_
          rw [up1_up1]
          exact ih (f + 1) (by omega) (by unfold skp at hs; rw [if_pos g33] at hs; exact hs)
  refine g_aload_n C dX3_advance_0 rfl ?_
  refine g_aload_n C dX3_advance_1 rfl ?_
  refine g_getIv (ci := 3) (k := 8) (v := nI i) C dX3_advance_2 rfl inGX3 (by decide) fwX3_38 ly_66 (by decide) rfl hi8 ?_
  refine g_putI (ci := 3) (k := 7) .int C dX3_advance_5 rfl inGX3 tyX3_ok nmX3 (by decide) fwX3_101 ly_66 (by decide) rfl rfl rfl rfl rfl ?_
  exact skip (e - i) i (by omega) hF
