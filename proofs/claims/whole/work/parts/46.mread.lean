/-! ## lines read by the model -/
section MR
variable {D : Nat → Nat → Int32} {t : Nat → Nat} {e i : Nat} {v : Int32}
theorem mr_up {o k : Nat} {y : Int32} (h : o ≠ 103) : up1 (mrS D t e i v) o k y = mrS (up1 D o k y) t e i v := by
  funext a b
  unfold mrS mrX up1
  by_cases h1 : a = 103
  · subst h1; simp [Ne.symm h]
  · simp [h1]
theorem mr_off {o : Nat} (h : o ≠ 103) : mrS D t e i v o = D o := mx_off h
theorem mr_103 {k : Nat} (h : k < 17 ∨ 21 < k) : mrS D t e i v 103 k = D 103 k := mx_103 h
theorem rd_up {o k : Nat} {y : Int32} (h : rdOK D t e) (h1 : o ≠ 103) (h2 : o ≠ 113) : rdOK (up1 D o k y) t e := ⟨fun j hj => by rw [up1_off h2.symm]; exact h.1 j hj, by rw [up1_off h1.symm]; exact h.2.1, h.2.2⟩
end MR
def offQ (q : Nat) (D D' : Nat → Nat → Int32) : Prop := ∀ a b, ¬ (107 ≤ a ∧ a ≤ 110 ∧ b = q) → ¬ (a = 111 ∧ 4 * q ≤ b ∧ b < 4 * q + 4) → D' a b = D a b
theorem offQ_rfl {q : Nat} {D : Nat → Nat → Int32} : offQ q D D := fun _ _ _ _ => rfl
theorem offQ_up {q : Nat} {D D' : Nat → Nat → Int32} {o : Nat} {y : Int32} (h : offQ q D D') (h1 : 107 ≤ o) (h2 : o ≤ 110) : offQ q D (up1 D' o q y) := fun a b n1 n2 => by
  have : ¬ (a = o ∧ b = q) := fun z => n1 (by rw [z.1]; exact ⟨h1, h2, z.2⟩)
  rw [show up1 D' o q y a b = D' a b from if_neg this]
  exact h a b n1 n2
theorem offQ_111 {q k : Nat} {D D' : Nat → Nat → Int32} {y : Int32} (h : offQ q D D') (h1 : k < 4) : offQ q D (up1 D' 111 (4 * q + k) y) := fun a b n1 n2 => by
  have : ¬ (a = 111 ∧ b = 4 * q + k) := fun z => n2 ⟨z.1, by omega, by omega⟩
  rw [show up1 D' 111 (4 * q + k) y a b = D' a b from if_neg this]
  exact h a b n1 n2
theorem offQ_tr {q : Nat} {D D' D2 : Nat → Nat → Int32} (h : offQ q D D') (h2 : offQ q D' D2) : offQ q D D2 := fun a b n1 n2 => (h2 a b n1 n2).trans (h a b n1 n2)
theorem offQ_rd {q : Nat} {D D' : Nat → Nat → Int32} {t : Nat → Nat} {e : Nat} (h : offQ q D D') (hD : rdOK D t e) : rdOK D' t e := by
  have e1 : ∀ a b, a < 107 ∨ 111 < a → D' a b = D a b := fun a b ha => h a b (by omega) (by omega)
  exact ⟨fun j hj => by rw [e1 113 j (by omega)]; exact hD.1 j hj, by rw [e1 103 16 (by omega)]; exact hD.2.1, hD.2.2⟩
theorem TS_mono {J : Nat → Nat → Int64} {R R' : (Nat → Nat → Int32) → Prop} {t : Nat → Nat} {e : Nat} {er : Er} {M : Mm} (h : TS J R t e er M) (hR : ∀ D, R D → R' D) : TS J R' t e er M := by
  obtain ⟨D, v, x, i, h1, h2⟩ := h
  exact ⟨D, v, x, i, hR D h1, h2⟩
theorem TS_eq {J : Nat → Nat → Int64} {R : (Nat → Nat → Int32) → Prop} {t : Nat → Nat} {e : Nat} {er : Er} {M : Mm} {D0 : Nat → Nat → Int32} (h : TS J (fun D => D = D0) t e er M) (hR : R D0) : TS J R t e er M := TS_mono h (fun D hd => by rw [hd]; exact hR)
def offF (q : Nat) (D D' : Nat → Nat → Int32) : Prop := ∀ a b, ¬ (a = 108 ∧ b = q) → ¬ (a = 111 ∧ 4 * q ≤ b ∧ b < 4 * q + 4) → D' a b = D a b
theorem offF_rfl {q : Nat} {D : Nat → Nat → Int32} : offF q D D := fun _ _ _ _ => rfl
theorem offF_Q {q : Nat} {D D' : Nat → Nat → Int32} (h : offF q D D') : offQ q D D' := fun a b n1 n2 => h a b (fun z => n1 ⟨by omega, by omega, z.2⟩) n2
theorem offF_up {q : Nat} {D D' : Nat → Nat → Int32} {y : Int32} (h : offF q D D') : offF q D (up1 D' 108 q y) := fun a b n1 n2 => by
  rw [show up1 D' 108 q y a b = D' a b from if_neg n1]
  exact h a b n1 n2
theorem offF_111 {q k : Nat} {D D' : Nat → Nat → Int32} {y : Int32} (h : offF q D D') (h1 : k < 4) : offF q D (up1 D' 111 (4 * q + k) y) := fun a b n1 n2 => by
  have : ¬ (a = 111 ∧ b = 4 * q + k) := fun z => n2 ⟨z.1, by omega, by omega⟩
  rw [show up1 D' 111 (4 * q + k) y a b = D' a b from if_neg this]
  exact h a b n1 n2
theorem offF_rd {q : Nat} {D D' : Nat → Nat → Int32} {t : Nat → Nat} {e : Nat} (h : offF q D D') (hD : rdOK D t e) : rdOK D' t e := offQ_rd (offF_Q h) hD
def frOK (D : Nat → Nat → Int32) (q : Nat) (fr : List Nat) : Prop := D 108 q = nI fr.length ∧ ∀ i, i < fr.length → D 111 (4 * q + i) = nI (fr.getD i 0)
def FrP (D : Nat → Nat → Int32) (J : Nat → Nat → Int64) (t : Nat → Nat) (e q : Nat) (r : Except Er (List Nat × Nat)) : Option Value → Mm → Prop := fun z M2 => z = none ∧ ∃ fr j D', r = .ok (fr, j) ∧ frOK D' q fr ∧ 1 ≤ fr.length ∧ fr.length ≤ 4 ∧ offF q D D' ∧ j ≤ e ∧ MS D' J t e j M2
def FrT (D : Nat → Nat → Int32) (J : Nat → Nat → Int64) (t : Nat → Nat) (e q : Nat) (r : Except Er (List Nat × Nat)) : Mm → Prop := fun M2 => ∃ er, r = .error er ∧ TS J (offF q D) t e er M2
theorem pFrom_ne {t : Nat → Nat} {e i f : Nat} {acc : List Nat} (h : ¬ nmC t e i = 0) : pFrom t e f acc i = .error (nmC t e i, tf t e i) := by
  have hn : pName t e i = .error (nmC t e i, tf t e i) := if_neg h
  cases f with
  | zero => rw [pFrom, if_neg h]
  | succ f => rw [pFrom, hn]
theorem pFrom_0 {t : Nat → Nat} {e i : Nat} {acc : List Nat} (h : nmC t e i = 0) : pFrom t e 0 acc i = .error (4, tf t e i) := by rw [pFrom, if_pos h]
theorem pFrom_1 {t : Nat → Nat} {e i f : Nat} {acc : List Nat} (h : nmC t e i = 0) (h3 : tk t e (tn t e i) = 3) : pFrom t e (f + 1) acc i = pFrom t e f (acc ++ [t (tf t e i) - 97]) (tn t e (tn t e i)) := by
  have hn : pName t e i = .ok (t (tf t e i) - 97, tn t e i) := if_pos h
  rw [pFrom, hn]; exact if_pos h3
theorem pFrom_2 {t : Nat → Nat} {e i f : Nat} {acc : List Nat} (h : nmC t e i = 0) (h3 : ¬ tk t e (tn t e i) = 3) : pFrom t e (f + 1) acc i = .ok (acc ++ [t (tf t e i) - 97], tn t e i) := by
  have hn : pName t e i = .ok (t (tf t e i) - 97, tn t e i) := if_pos h
  rw [pFrom, hn]; exact if_neg h3
theorem frOK_add {D : Nat → Nat → Int32} {q a : Nat} {acc : List Nat} (h : frOK D q acc) : frOK (up1 (up1 D 111 (4 * q + acc.length) (nI a)) 108 q (nI (acc.length + 1))) q (acc ++ [a]) := by
  refine ⟨by rw [up1_same, List.length_append]; rfl, fun i hi => ?_⟩
  rw [List.length_append] at hi
  rw [up1_off (by decide)]
  have hi : i < acc.length + 1 := hi
  by_cases h1 : i = acc.length
  · subst h1
    rw [up1_same]
    simp
  · rw [show up1 D 111 (4 * q + acc.length) (nI a) 111 (4 * q + i) = D 111 (4 * q + i) from if_neg (fun z => h1 (by omega)), h.2 i (by omega)]
    rw [List.getD_eq_getElem?_getD, List.getD_eq_getElem?_getD, List.getElem?_append_left (by omega)]
set_option maxHeartbeats 2000000 in
theorem s_readFrom {l : Launch} {G : Gm} {D : Nat → Nat → Int32} {J : Nat → Nat → Int64} {t : Nat → Nat} {e i0 : Nat} (hD : rdOK D t e) (hi : i0 ≤ e) {v : Int32} {x : Int64} (hk : nxK t e i0 v x) {q : Nat} (hq : q < 132) (hn0 : D 108 q = nI 0) : Sp l G iX10_readFrom [.ref (G.1 + 103), .int (nI q)] (mm (mrS D t e i0 v) (upJ J 103 22 x)) (FrP D J t e q (pFrom t e 4 [] i0)) (FrT D J t e q (pFrom t e 4 [] i0)) := by
  refine Sp.ofT (by decide +kernel) (Nat.le_of_ble_eq_true rfl) ?_
  intro X hXl C ht
  subst hXl
  show Go X G 4 0 0 _ 0 [.ref (G.1 + 103), .int (nI q), uu, uu] [] (mm (mrS D t e i0 v) (upJ J 103 22 x))
  have fin : ∀ (fr : List Nat) (j : Nat) (D' : Nat → Nat → Int32) (M2 : Mm), (pFrom t e 4 [] i0) = .ok (fr, j) → frOK D' q fr → 1 ≤ fr.length → fr.length ≤ 4 → offF q D D' → j ≤ e → MS D' J t e j M2 → ∀ a3 : Value, Go X G 4 0 0 (KQ X G iX10_readFrom (FrP D J t e q (pFrom t e 4 [] i0)) (FrT D J t e q (pFrom t e 4 [] i0))) 2 [.ref (G.1 + 103), .int (nI q), .int 0, a3] [] M2 := by
    intro fr j D' M2 h1 h2 h3 h4 h5 h6 h7 a3
    refine g_iload_n C dX10_readFrom_2 rfl ?_
    refine g_if_eq 75 C dX10_readFrom_3 (by decide) (fun c3 => ?_) (fun c3 => ?_)
    · exact g_vret C dX10_readFrom_75 rfl rfl rfl ⟨rfl, fr, j, D', h1, h2, h3, h4, h5, h6, h7⟩
    · first | exact absurd c3 (by decide) | exact absurd (by decide) c3 | exact absurd rfl c3
  have lp : ∀ (f : Nat) (acc : List Nat) (i : Nat) (D2 : Nat → Nat → Int32) (v : Int32) (x : Int64), acc.length + f = 4 → frOK D2 q acc → offF q D D2 → i ≤ e → nxK t e i v x → pFrom t e f acc i = (pFrom t e 4 [] i0) → ∀ a3 : Value, Go X G 4 0 0 (KQ X G iX10_readFrom (FrP D J t e q (pFrom t e 4 [] i0)) (FrT D J t e q (pFrom t e 4 [] i0))) 2 [.ref (G.1 + 103), .int (nI q), .int 1, a3] [] (mm (mrS D2 t e i v) (upJ J 103 22 x)) := by
    intro f
    induction f with
    | zero =>
      intro acc i D2 v x hl hf hoff hi hk hr a3
      have hD2 := offF_rd hoff hD
      refine g_iload_n C dX10_readFrom_2 rfl ?_
      refine g_if_eq 75 C dX10_readFrom_3 (by decide) (fun c3 => absurd c3 (by decide)) (fun c3 => ?_)
      by_cases h0 : nmC t e i = 0
      · skip
        refine g_aload_n C dX10_readFrom_6 rfl ?_
        refine gv0I (ci := 10) C dX10_readFrom_7 vwX10_nameHere mwX10_174 ⟨by decide, by decide⟩ rfl ly_103 (Nat.le_of_ble_eq_true rfl) (s_nhO hD2 hi hk h0) (Nat.le_of_ble_eq_true rfl) rfl ⟨by decide, by decide⟩ ?_
        refine g_istore_3 C dX10_readFrom_10 (by decide) ?_
        refine g_aload_n C dX10_readFrom_11 rfl ?_
        refine g_getR (ci := 10) (k := 9) (q := 108) C dX10_readFrom_12 rfl inGX10 (by decide) fwX10_26 ly_103 (by decide) rfl rfl ?_
        refine g_iload_n C dX10_readFrom_15 rfl ?_
        refine g_ialdv (v := nI acc.length) q C dX10_readFrom_16 ly_108 (by decide) (by decide) rfl hq (by rw [mr_off (by decide)]; exact hf.1) ?_
        refine g_iconst (v := 4) C dX10_readFrom_17 (by decide) ?_
        refine g_icmp_ne 27 C dX10_readFrom_18 (by decide) (fun c18 => ?_) (fun c18 => ?_)
        · exact absurd (by rw [show acc.length = 4 by omega]; rfl) c18
        · refine g_aload_n C dX10_readFrom_21 rfl ?_
          refine g_iconst (v := 4) C dX10_readFrom_22 (by decide) ?_
          refine gv1 (ci := 10) (M1 := mm D J) C dX10_readFrom_23 vwX10_stop mwX10_166 ⟨by decide, by decide⟩ rfl ly_103 (Nat.le_of_ble_eq_true rfl) (s_stop) (Nat.le_of_ble_eq_true rfl) rfl ⟨by decide, by decide⟩ (fun z M2 hP => ?_)
          obtain ⟨rfl, rfl⟩ := hP
          exact g_athrow C dX10_readFrom_26 ht rfl rfl ⟨_, hr.symm.trans (by have hf0 := pFrom_0 (acc := acc) h0; exact hf0), D2, v, x, i, hoff, rfl⟩
      · skip
        refine g_aload_n C dX10_readFrom_6 rfl ?_
        exact g_callVT (na := 0) (As := []) (ci := 10) C dX10_readFrom_7 vwX10_nameHere mwX10_174 ⟨by decide, by decide⟩ rfl ly_103 (Nat.le_of_ble_eq_true rfl) (s_nhE hD2 hi hk h0) rfl (Nat.le_of_ble_eq_true rfl) rfl ⟨by decide, by decide⟩ _ rfl (fun z M2 hP => hP.elim) (fun M2 hT => gt_out C ht rfl rfl ⟨_, hr.symm.trans (pFrom_ne h0), TS_eq hT hoff⟩)
    | succ f ih =>
      intro acc i D2 v x hl hf hoff hi hk hr a3
      have hD2 := offF_rd hoff hD
      have hoff3 : offF q D (up1 (up1 D2 111 (4 * q + acc.length) (nI (t (tf t e i) - 97))) 108 q (nI (acc.length + 1))) := offF_up (offF_111 hoff (by omega))
      have hD3 := offF_rd hoff3 hD
      refine g_iload_n C dX10_readFrom_2 rfl ?_
      refine g_if_eq 75 C dX10_readFrom_3 (by decide) (fun c3 => absurd c3 (by decide)) (fun c3 => ?_)
      by_cases h0 : nmC t e i = 0
      · skip
        refine g_aload_n C dX10_readFrom_6 rfl ?_
        refine gv0I (ci := 10) C dX10_readFrom_7 vwX10_nameHere mwX10_174 ⟨by decide, by decide⟩ rfl ly_103 (Nat.le_of_ble_eq_true rfl) (s_nhO hD2 hi hk h0) (Nat.le_of_ble_eq_true rfl) rfl ⟨by decide, by decide⟩ ?_
        refine g_istore_3 C dX10_readFrom_10 (by decide) ?_
        refine g_aload_n C dX10_readFrom_11 rfl ?_
        refine g_getR (ci := 10) (k := 9) (q := 108) C dX10_readFrom_12 rfl inGX10 (by decide) fwX10_26 ly_103 (by decide) rfl rfl ?_
        refine g_iload_n C dX10_readFrom_15 rfl ?_
        refine g_ialdv (v := nI acc.length) q C dX10_readFrom_16 ly_108 (by decide) (by decide) rfl hq (by rw [mr_off (by decide)]; exact hf.1) ?_
        refine g_iconst (v := 4) C dX10_readFrom_17 (by decide) ?_
        refine g_icmp_ne 27 C dX10_readFrom_18 (by decide) (fun c18 => ?_) (fun c18 => ?_)
        · refine g_aload_n C dX10_readFrom_27 rfl ?_
          refine g_getR (ci := 10) (k := 12) (q := 111) C dX10_readFrom_28 rfl inGX10 (by decide) fwX10_35 ly_103 (by decide) rfl rfl ?_
          refine g_iconst (v := 4) C dX10_readFrom_31 (by decide) ?_
          refine g_iload_n C dX10_readFrom_32 rfl ?_
          refine g_imul C dX10_readFrom_33 ?_
          rw [mul4]
          refine g_aload_n C dX10_readFrom_34 rfl ?_
          refine g_getR (ci := 10) (k := 9) (q := 108) C dX10_readFrom_35 rfl inGX10 (by decide) fwX10_26 ly_103 (by decide) rfl rfl ?_
          refine g_iload_n C dX10_readFrom_38 rfl ?_
          refine g_ialdv (v := nI acc.length) q C dX10_readFrom_39 ly_108 (by decide) (by decide) rfl hq (by rw [mr_off (by decide)]; exact hf.1) ?_
          refine g_iadd C dX10_readFrom_40 ?_
          rw [nI_add]
          refine g_iload_n C dX10_readFrom_41 rfl ?_
          refine g_iast (4 * q + acc.length) C dX10_readFrom_42 ly_111 (by decide) (by decide) rfl (show 4 * q + acc.length < 528 by omega) ?_
          rw [mr_up (by decide)]
          refine g_aload_n C dX10_readFrom_43 rfl ?_
          refine g_getR (ci := 10) (k := 9) (q := 108) C dX10_readFrom_44 rfl inGX10 (by decide) fwX10_26 ly_103 (by decide) rfl rfl ?_
          refine g_iload_n C dX10_readFrom_47 rfl ?_
          refine g_dup2 C dX10_readFrom_48 rfl rfl ?_
          refine g_ialdv (v := nI acc.length) q C dX10_readFrom_49 ly_108 (by decide) (by decide) rfl hq (by rw [mr_off (by decide), up1_off (by decide)]; exact hf.1) ?_
          refine g_iconst (v := 1) C dX10_readFrom_50 (by decide) ?_
          refine g_iadd C dX10_readFrom_51 ?_
          rw [nI_1]
          refine g_iast q C dX10_readFrom_52 ly_108 (by decide) (by decide) rfl hq ?_
          refine g_aload_n C dX10_readFrom_53 rfl ?_
          rw [mr_up (by decide)]
          refine gv0 (ci := 10) (M1 := mm D J) C dX10_readFrom_54 vwX10_next mwX10_169 ⟨by decide, by decide⟩ rfl ly_103 (Nat.le_of_ble_eq_true rfl) (s_nextM (i := i) hD3 (mat_le hi)) (Nat.le_of_ble_eq_true rfl) rfl ⟨by decide, by decide⟩ (fun z M2 hP => ?_)
          obtain ⟨rfl, hM⟩ := hP
          rw [mat_tn (by rw [nm_1 h0]; decide)] at hM
          obtain ⟨v1, x1, hk1, rfl⟩ := hM
          refine g_aload_n C dX10_readFrom_57 rfl ?_
          refine g_bipush (v := 44) C dX10_readFrom_58 (by decide) ?_
          refine gv1I (ci := 10) C dX10_readFrom_60 vwX10_is mwX10_193 ⟨by decide, by decide⟩ rfl ly_103 (Nat.le_of_ble_eq_true rfl) (s_is44 (i := tn t e i) hD3 (tn_le hi) hk1) (Nat.le_of_ble_eq_true rfl) rfl ⟨by decide, by decide⟩ ?_
          refine g_istore_2 C dX10_readFrom_63 (by decide) ?_
          refine g_iload_n C dX10_readFrom_64 rfl ?_
          refine g_if_eq 72 C dX10_readFrom_65 (by decide) (fun c65 => ?_) (fun c65 => ?_)
          · have g65 : ¬ tk t e (tn t e i) = 3 := if01.mp c65
            refine g_goto 2 C dX10_readFrom_72 (by decide) ?_
            first
              | (rw [if_pos g65]; exact ih (acc ++ [t (tf t e i) - 97]) (tn t e (tn t e i)) (up1 (up1 D2 111 (4 * q + acc.length) (nI (t (tf t e i) - 97))) 108 q (nI (acc.length + 1))) v2 x2 (by rw [List.length_append]; show acc.length + 1 + f = 4; omega) (frOK_add hf) hoff3 (tn_le (tn_le hi)) hk2 (by rw [← pFrom_1 h0 g65]; exact hr) _)
              | (rw [if_neg g65]; exact fin _ _ _ _ (by rw [← hr, pFrom_2 h0 g65]) (frOK_add hf) (by rw [List.length_append]; show 1 ≤ acc.length + 1; omega) (by rw [List.length_append]; show acc.length + 1 ≤ 4; omega) hoff3 (tn_le hi) ⟨v1, x1, hk1, rfl⟩ _)
          · have g65 : tk t e (tn t e i) = 3 := Classical.byContradiction (fun q => c65 (if01.mpr q))
            refine g_aload_n C dX10_readFrom_68 rfl ?_
            refine gv0 (ci := 10) (M1 := mm D J) C dX10_readFrom_69 vwX10_next mwX10_169 ⟨by decide, by decide⟩ rfl ly_103 (Nat.le_of_ble_eq_true rfl) (s_nextM (i := tn t e i) hD3 (mat_le (tn_le hi))) (Nat.le_of_ble_eq_true rfl) rfl ⟨by decide, by decide⟩ (fun z M2 hP => ?_)
            obtain ⟨rfl, hM⟩ := hP
            rw [mat_tn (by rw [g65]; decide)] at hM
            obtain ⟨v2, x2, hk2, rfl⟩ := hM
            refine g_goto 2 C dX10_readFrom_72 (by decide) ?_
            first
              | (rw [if_pos g65]; exact ih (acc ++ [t (tf t e i) - 97]) (tn t e (tn t e i)) (up1 (up1 D2 111 (4 * q + acc.length) (nI (t (tf t e i) - 97))) 108 q (nI (acc.length + 1))) v2 x2 (by rw [List.length_append]; show acc.length + 1 + f = 4; omega) (frOK_add hf) hoff3 (tn_le (tn_le hi)) hk2 (by rw [← pFrom_1 h0 g65]; exact hr) _)
              | (rw [if_neg g65]; exact fin _ _ _ _ (by rw [← hr, pFrom_2 h0 g65]) (frOK_add hf) (by rw [List.length_append]; show 1 ≤ acc.length + 1; omega) (by rw [List.length_append]; show acc.length + 1 ≤ 4; omega) hoff3 (tn_le hi) ⟨v1, x1, hk1, rfl⟩ _)
        · exact absurd ((nI_eq (b := 4) (by omega) (by decide)).mp c18) (by omega)
      · skip
        refine g_aload_n C dX10_readFrom_6 rfl ?_
        exact g_callVT (na := 0) (As := []) (ci := 10) C dX10_readFrom_7 vwX10_nameHere mwX10_174 ⟨by decide, by decide⟩ rfl ly_103 (Nat.le_of_ble_eq_true rfl) (s_nhE hD2 hi hk h0) rfl (Nat.le_of_ble_eq_true rfl) rfl ⟨by decide, by decide⟩ _ rfl (fun z M2 hP => hP.elim) (fun M2 hT => gt_out C ht rfl rfl ⟨_, hr.symm.trans (pFrom_ne h0), TS_eq hT hoff⟩)
  refine g_iconst (v := 1) C dX10_readFrom_0 (by decide) ?_
  refine g_istore_2 C dX10_readFrom_1 (by decide) ?_
  exact lp 4 [] i0 D v x rfl ⟨hn0, fun i hi => absurd hi (Nat.not_lt_zero _)⟩ offF_rfl hi hk rfl _
