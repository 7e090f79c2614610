/-! ## a text -/
theorem s_next0 {l : Launch} {G : Gm} {D : Nat → Nat → Int32} {J : Nat → Nat → Int64} {t : Nat → Nat} {e i : Nat} (hD : rdOK D t e) (hi : i ≤ e) (h17 : D 103 17 = nI i) : Sp l G iX10_next [.ref (G.1 + 103)] (mm D J) (fun r M' => r = none ∧ MS D J t e i M') noT := by
  have := s_next (l := l) (G := G) (J := J) (so := D 103 18) (pl := D 103 19) (sg := D 103 20) (v := D 103 21) hD.1 hD.2.1 hD.2.2 hi
  rw [← h17, mx_self] at this
  exact this
def offR (D D' : Nat → Nat → Int32) : Prop := ∀ a b, ¬ (107 ≤ a ∧ a ≤ 110 ∧ 120 ≤ b) → ¬ (a = 111 ∧ 480 ≤ b) → ¬ (a = 105 ∧ b = 10) → D' a b = D a b
theorem offR_rfl {D : Nat → Nat → Int32} : offR D D := fun _ _ _ _ _ => rfl
theorem offR_tr {D D1 D2 : Nat → Nat → Int32} (h : offR D D1) (h2 : offR D1 D2) : offR D D2 := fun a b n1 n2 n3 => (h2 a b n1 n2 n3).trans (h a b n1 n2 n3)
theorem offR_Q {q : Nat} {D D' : Nat → Nat → Int32} (hq : 120 ≤ q) (h : offQ q D D') : offR D D' := fun a b n1 n2 n3 => h a b (by omega) (by omega)
theorem offR_10 {D : Nat → Nat → Int32} {y : Int32} : offR D (up1 D 105 10 y) := fun a b n1 n2 n3 => if_neg n3
theorem offR_rd {D D' : Nat → Nat → Int32} {t : Nat → Nat} {e : Nat} (h : offR D D') (hD : rdOK D t e) : rdOK D' t e :=
  ⟨fun j hj => by rw [h 113 j (by omega) (by omega) (by omega)]; exact hD.1 j hj, by rw [h 103 16 (by omega) (by omega) (by omega)]; exact hD.2.1, hD.2.2⟩
abbrev ln0 : Ln := (0, 0, 0, 0, [])
def lnsOK (D : Nat → Nat → Int32) (acc : List Ln) : Prop := D 105 10 = nI acc.length ∧ ∀ k, k < acc.length → lnOK D (120 + k) (acc.getD k ln0)
theorem lnOK_cg {D D' : Nat → Nat → Int32} {q : Nat} {ln : Ln} (h : ∀ a b, (107 ≤ a ∧ a ≤ 110 ∧ b = q) ∨ (a = 111 ∧ 4 * q ≤ b ∧ b < 4 * q + 4) → D' a b = D a b) (h4 : ln.1 = 1 → ln.2.2.2.2.length ≤ 4) (hl : lnOK D q ln) : lnOK D' q ln := by
  refine ⟨by rw [h 107 q (by omega)]; exact hl.1, by rw [h 108 q (by omega)]; exact hl.2.1, by rw [h 109 q (by omega)]; exact hl.2.2.1, by rw [h 110 q (by omega)]; exact hl.2.2.2.1, fun z i hi => ?_⟩
  have := h4 z
  rw [h 111 (4 * q + i) (by omega)]
  exact hl.2.2.2.2 z i hi
def Ln4 (ln : Ln) : Prop := ln.1 = 1 → ln.2.2.2.2.length ≤ 4
theorem pFrom_len {t : Nat → Nat} {e : Nat} : ∀ {f : Nat} {acc : List Nat} {i : Nat} {fr : List Nat} {j : Nat}, pFrom t e f acc i = .ok (fr, j) → fr.length ≤ acc.length + f
  | 0, acc, i, fr, j, h => by
    rw [pFrom] at h
    split at h <;> cases h
  | f + 1, acc, i, fr, j, h => by
    rw [pFrom] at h
    split at h
    · cases h
    · split at h
      · have := pFrom_len h
        rw [List.length_append] at this
        have : fr.length ≤ acc.length + 1 + f := this
        omega
      · cases h
        rw [List.length_append]
        show acc.length + 1 ≤ _
        omega
theorem pLet_4 {t : Nat → Nat} {e i : Nat} {ln : Ln} {j : Nat} (h : pLet t e i = .ok (ln, j)) : Ln4 ln := by
  intro _
  unfold pLet at h
  split at h
  · cases h
  · split at h
    · cases h
    · split at h
      · cases h
      · next hf =>
        cases h
        have := pFrom_len hf
        simpa using this
theorem pGet_k {t : Nat → Nat} {e i : Nat} {ln : Ln} {j : Nat} (h : pGet t e i = .ok (ln, j)) : Ln4 ln := by
  intro z
  unfold pGet at h
  split at h
  · cases h
  · split at h
    · cases h
    · split at h
      · cases h
      · cases h; simp at z
theorem pOut_k {t : Nat → Nat} {e k w i : Nat} {ln : Ln} {j : Nat} (hk : ¬ k = 1) (h : pOut t e k w i = .ok (ln, j)) : Ln4 ln := by
  intro z
  unfold pOut at h
  split at h
  · cases h
  · split at h
    · cases h
    · split at h
      · cases h
      · cases h; exact absurd z hk
theorem pAsk_k {t : Nat → Nat} {e n i : Nat} {ln : Ln} {j : Nat} (h : pAsk t e n i = .ok (ln, j)) : Ln4 ln := by
  intro z
  unfold pAsk at h
  split at h
  · cases h
  · split at h
    · cases h
    · split at h
      · cases h
      · split at h
        · cases h
        · split at h
          · cases h
          · cases h; simp at z
theorem pRes_k {t : Nat → Nat} {e i : Nat} {ln : Ln} {j : Nat} (h : pRes t e i = .ok (ln, j)) : Ln4 ln := by
  intro z
  unfold pRes at h
  split at h
  · cases h
  · cases h; simp at z
def lnsK (acc : List Ln) : Prop := ∀ k, k < acc.length → Ln4 (acc.getD k ln0)
theorem getD_app {acc : List Ln} {ln : Ln} {k : Nat} (h : k < acc.length) : (acc ++ [ln]).getD k ln0 = acc.getD k ln0 := by
  rw [List.getD_eq_getElem?_getD, List.getD_eq_getElem?_getD, List.getElem?_append_left h]
theorem getD_end {acc : List Ln} {ln : Ln} : (acc ++ [ln]).getD acc.length ln0 = ln := by simp
theorem lnsK_add {acc : List Ln} {ln : Ln} (h : lnsK acc) (h2 : Ln4 ln) : lnsK (acc ++ [ln]) := fun k hk => by
  rw [List.length_append] at hk
  have hk : k < acc.length + 1 := hk
  by_cases e : k = acc.length
  · subst e; rw [getD_end]; exact h2
  · rw [getD_app (by omega)]; exact h k (by omega)
theorem lnsOK_add {D D3 : Nat → Nat → Int32} {acc : List Ln} {ln : Ln} (h : lnsOK D acc) (hK : lnsK acc) (h4 : Ln4 ln) (ho : offQ (120 + acc.length) D D3) (hl : lnOK D3 (120 + acc.length) ln) : lnsOK (up1 D3 105 10 (nI (acc.length + 1))) (acc ++ [ln]) := by
  refine ⟨by rw [up1_same, List.length_append]; rfl, fun k hk => ?_⟩
  rw [List.length_append] at hk
  have hk : k < acc.length + 1 := hk
  by_cases e : k = acc.length
  · subst e
    rw [getD_end]
    exact lnOK_cg (fun a b hab => by rw [up1_off (by omega)]) h4 hl
  · rw [getD_app (by omega)]
    exact lnOK_cg (fun a b hab => by rw [up1_off (by omega)]; exact ho a b (by omega) (by omega)) (hK k (by omega)) (h.2 k (by omega))
def RdP (D : Nat → Nat → Int32) (J : Nat → Nat → Int64) (t : Nat → Nat) (e : Nat) (r : Except Er (List Ln)) : Option Value → Mm → Prop := fun z M2 => z = none ∧ ∃ ls i D', r = .ok ls ∧ ls.length ≤ 12 ∧ lnsOK D' ls ∧ lnsK ls ∧ offR D D' ∧ MS D' J t e i M2
def RdQ (D : Nat → Nat → Int32) (J : Nat → Nat → Int64) (t : Nat → Nat) (e : Nat) (r : Except Er (List Ln)) : Mm → Prop := fun M2 => ∃ er, r = .error er ∧ TS J (offR D) t e er M2
theorem kdH_5 {t : Nat → Nat} {e i : Nat} (h : tk t e i = 5) : kdH t e i = -1 := by
  have hw : ∀ w, wB t e i w = 0 := fun w => wB_0 (fun q => by rw [q.1] at h; exact absurd h (by decide))
  unfold kdH
  simp only [hw, if_true]
set_option maxHeartbeats 8000000 in
theorem s_reads {l : Launch} {G : Gm} {D : Nat → Nat → Int32} {J : Nat → Nat → Int64} {t : Nat → Nat} {e n : Nat} (hD : rdOK D t e) (hn : D 103 4 = nI n) (hn31 : n < 2 ^ 31) (h17 : D 103 17 = nI 0) : Sp l G iX10_reads [.ref (G.1 + 103)] (mm D J) (RdP D J t e (pText t e n 13 [] 0)) (RdQ D J t e (pText t e n 13 [] 0)) := by
  refine Sp.ofT (by decide +kernel) (Nat.le_of_ble_eq_true rfl) ?_
  intro X hXl C ht
  subst hXl
  show Go X G 3 0 0 _ 0 [.ref (G.1 + 103), uu, uu] [] (mm D J)
  have fin : ∀ (ls : List Ln) (j : Nat) (D4 : Nat → Nat → Int32) (v : Int32) (x : Int64), ls.length ≤ 12 → lnsOK D4 ls → lnsK ls → offR D D4 → j ≤ e → nxK t e j v x → (tk t e j = 0 → (pText t e n 13 [] 0) = .ok ls) → (¬ tk t e j = 0 → (pText t e n 13 [] 0) = .error (1, tf t e j)) → ∀ a2 : Value, Go X G 3 0 0 (KQ X G iX10_reads (RdP D J t e (pText t e n 13 [] 0)) (RdQ D J t e (pText t e n 13 [] 0))) 14 [.ref (G.1 + 103), .int 0, a2] [] (mm (mrS D4 t e j v) (upJ J 103 22 x)) := by
    intro ls j D4 v x hl12 h1 h2 h3 hj hk hz hnz a2
    by_cases h0 : tk t e j = 0
    · skip
      refine g_iload_n C dX10_reads_14 rfl ?_
      refine g_if_eq 175 C dX10_reads_15 (by decide) (fun c15 => ?_) (fun c15 => ?_)
      · refine g_aload_n C dX10_reads_175 rfl ?_
        refine g_getIv (ci := 10) (k := 18) (v := nI (mso (tk t e j))) C dX10_reads_176 rfl inGX10 (by decide) fwX10_139 ly_103 (by decide) rfl mx_18 ?_
        refine g_iconst (v := 1) C dX10_reads_179 (by decide) ?_
        refine g_icmp_eq 189 C dX10_reads_180 (by decide) (fun c180 => ?_) (fun c180 => ?_)
        · exact g_vret C dX10_reads_189 rfl rfl rfl ⟨rfl, ls, j, D4, hz h0, hl12, h1, h2, h3, v, x, hk, rfl⟩
        · exact absurd ((mso_1 (tk_le t e j)).mpr h0) c180
      · first | exact absurd c15 (by decide) | exact absurd (by decide) c15 | exact absurd rfl c15
    · skip
      refine g_iload_n C dX10_reads_14 rfl ?_
      refine g_if_eq 175 C dX10_reads_15 (by decide) (fun c15 => ?_) (fun c15 => ?_)
      · refine g_aload_n C dX10_reads_175 rfl ?_
        refine g_getIv (ci := 10) (k := 18) (v := nI (mso (tk t e j))) C dX10_reads_176 rfl inGX10 (by decide) fwX10_139 ly_103 (by decide) rfl mx_18 ?_
        refine g_iconst (v := 1) C dX10_reads_179 (by decide) ?_
        refine g_icmp_eq 189 C dX10_reads_180 (by decide) (fun c180 => ?_) (fun c180 => ?_)
        · exact absurd ((mso_1 (tk_le t e j)).mp c180) h0
        · refine g_aload_n C dX10_reads_183 rfl ?_
          refine g_iconst (v := 1) C dX10_reads_184 (by decide) ?_
          refine gv1 (ci := 10) (M1 := mm D J) C dX10_reads_185 vwX10_stop mwX10_166 ⟨by decide, by decide⟩ rfl ly_103 (Nat.le_of_ble_eq_true rfl) (s_stop) (Nat.le_of_ble_eq_true rfl) rfl ⟨by decide, by decide⟩ (fun z M2 hP => ?_)
          obtain ⟨rfl, rfl⟩ := hP
          exact g_athrow C dX10_reads_188 ht rfl rfl ⟨_, hnz h0, D4, v, x, j, h3, rfl⟩
      · first | exact absurd c15 (by decide) | exact absurd (by decide) c15 | exact absurd rfl c15
  have lp : ∀ (g : Nat) (acc : List Ln) (i : Nat) (D2 : Nat → Nat → Int32) (v : Int32) (x : Int64), acc.length + g = 13 → acc.length ≤ 12 → lnsOK D2 acc → lnsK acc → offR D D2 → i ≤ e → nxK t e i v x → pText t e n g acc i = (pText t e n 13 [] 0) → ∀ a2 : Value, Go X G 3 0 0 (KQ X G iX10_reads (RdP D J t e (pText t e n 13 [] 0)) (RdQ D J t e (pText t e n 13 [] 0))) 14 [.ref (G.1 + 103), .int 1, a2] [] (mm (mrS D2 t e i v) (upJ J 103 22 x)) := by
    intro g
    induction g with
    | zero => intro acc i D2 v x h1 h2; omega
    | succ g ih =>
      intro acc i D2 v x hl hl12 hls hlk hoff hi hk hr a2
      have hD2 := offR_rd hoff hD
      have cont : ∀ kdv : Int32, kdH t e i = kdv → Go X G 3 0 0 (KQ X G iX10_reads (RdP D J t e (pText t e n 13 [] 0)) (RdQ D J t e (pText t e n 13 [] 0))) 97 [.ref (G.1 + 103), .int 1, a2] [.int kdv] (mm (mrS D2 t e i v) (upJ J 103 22 x)) := by
        intro kdv hkd
        have htk : ¬ kdH t e i = -1 → ¬ tk t e i = 5 := fun q z => q (kdH_5 z)
        rcases kdH_in t e i with h | h | h | h | h | h | h
        · rw [h] at hkd; subst hkd
          have hkd := h
          refine g_istore_2 C dX10_reads_97 (by decide) ?_
          refine g_iload_n C dX10_reads_98 rfl ?_
          refine g_iconst (v := (-1)) C dX10_reads_99 (by decide) ?_
          refine g_icmp_ne 109 C dX10_reads_100 (by decide) (fun c100 => ?_) (fun c100 => ?_)
          · first | exact absurd c100 (by decide) | exact absurd (by decide) c100 | exact absurd rfl c100
          · refine g_aload_n C dX10_reads_103 rfl ?_
            refine g_iconst (v := 1) C dX10_reads_104 (by decide) ?_
            refine gv1 (ci := 10) (M1 := mm D J) C dX10_reads_105 vwX10_stop mwX10_166 ⟨by decide, by decide⟩ rfl ly_103 (Nat.le_of_ble_eq_true rfl) (s_stop) (Nat.le_of_ble_eq_true rfl) rfl ⟨by decide, by decide⟩ (fun z M2 hP => ?_)
            obtain ⟨rfl, rfl⟩ := hP
            exact g_athrow C dX10_reads_108 ht rfl rfl ⟨_, hr.symm.trans (pText_er (pL_m hkd)), D2, v, x, i, hoff, rfl⟩
        · rw [h] at hkd; subst hkd
          have hkd := h
          have htk := htk (by rw [h]; decide)
          refine g_istore_2 C dX10_reads_97 (by decide) ?_
          refine g_iload_n C dX10_reads_98 rfl ?_
          refine g_iconst (v := (-1)) C dX10_reads_99 (by decide) ?_
          refine g_icmp_ne 109 C dX10_reads_100 (by decide) (fun c100 => ?_) (fun c100 => ?_)
          · refine g_aload_n C dX10_reads_109 rfl ?_
            refine g_getR (ci := 10) (k := 6) (q := 105) C dX10_reads_110 rfl inGX10 (by decide) fwX10_17 ly_103 (by decide) rfl rfl ?_
            refine g_bipush (v := 10) C dX10_reads_113 (by decide) ?_
            refine g_ialdv (v := nI acc.length) 10 C dX10_reads_115 ly_105 (by decide) (by decide) rfl (by decide) (by rw [mr_off (by decide)]; exact hls.1) ?_
            refine g_bipush (v := 12) C dX10_reads_116 (by decide) ?_
            refine g_icmp_ne 127 C dX10_reads_118 (by decide) (fun c118 => ?_) (fun c118 => ?_)
            · have g118 : acc.length < 12 := by have : ¬ acc.length = 12 := fun q => c118 (by rw [q]; rfl); omega
              refine g_aload_n C dX10_reads_127 rfl ?_
              refine gv0 (ci := 10) (M1 := mm D J) C dX10_reads_128 vwX10_next mwX10_169 ⟨by decide, by decide⟩ rfl ly_103 (Nat.le_of_ble_eq_true rfl) (s_nextM (i := i) hD2 (mat_le hi)) (Nat.le_of_ble_eq_true rfl) rfl ⟨by decide, by decide⟩ (fun z M2 hP => ?_)
              obtain ⟨rfl, hM⟩ := hP
              rw [mat_tn htk] at hM
              obtain ⟨v1, x1, hk1, rfl⟩ := hM
              refine g_aload_n C dX10_reads_131 rfl ?_
              refine g_bipush (v := 120) C dX10_reads_132 (by decide) ?_
              refine g_aload_n C dX10_reads_134 rfl ?_
              refine g_getR (ci := 10) (k := 6) (q := 105) C dX10_reads_135 rfl inGX10 (by decide) fwX10_17 ly_103 (by decide) rfl rfl ?_
              refine g_bipush (v := 10) C dX10_reads_138 (by decide) ?_
              refine g_ialdv (v := nI acc.length) 10 C dX10_reads_140 ly_105 (by decide) (by decide) rfl (by decide) (by rw [mr_off (by decide)]; exact hls.1) ?_
              refine g_iadd C dX10_reads_141 ?_
              rw [show (120 : Int32) + nI acc.length = nI (120 + acc.length) from nI_add 120 _]
              refine g_iload_n C dX10_reads_142 rfl ?_
              refine g_callVT (na := 2) (As := [_, _]) (ci := 10) C dX10_reads_143 vwX10_readLine mwX10_189 ⟨by decide, by decide⟩ rfl ly_103 (Nat.le_of_ble_eq_true rfl) (s_rl0 hD2 (tn_le hi) hk1 (show 120 + acc.length < 132 by omega)) rfl (Nat.le_of_ble_eq_true rfl) rfl ⟨by decide, by decide⟩ _ rfl (fun z M2 hP => ?_) (fun M2 hT => by obtain ⟨er, h3, hT⟩ := hT; exact gt_out C ht rfl rfl ⟨er, hr.symm.trans (pText_er ((pL_0 (n := n) hkd g118).trans h3)), TS_mono hT (fun D h => offR_tr hoff (offR_Q (by omega) h))⟩)
              obtain ⟨rfl, ln, j, D3, h3, hln, hoq, hj, v3, x3, hk3, rfl⟩ := hP
              have hl4 : Ln4 ln := pGet_k h3
              have hoff4 : offR D (up1 D3 105 10 (nI (acc.length + 1))) := offR_tr (offR_tr hoff (offR_Q (by omega) hoq)) offR_10
              have hD4 := offR_rd hoff4 hD
              have hls4 := lnsOK_add hls hlk hl4 hoq hln
              have hpl := (pL_0 (n := n) hkd g118).trans h3
              have h105 : D3 105 10 = nI acc.length := (hoq 105 10 (by omega) (by omega)).trans hls.1
              refine g_aload_n C dX10_reads_146 rfl ?_
              refine g_getR (ci := 10) (k := 6) (q := 105) C dX10_reads_147 rfl inGX10 (by decide) fwX10_17 ly_103 (by decide) rfl rfl ?_
              refine g_bipush (v := 10) C dX10_reads_150 (by decide) ?_
              refine g_dup2 C dX10_reads_152 rfl rfl ?_
              refine g_ialdv (v := nI acc.length) 10 C dX10_reads_153 ly_105 (by decide) (by decide) rfl (by decide) (by rw [mr_off (by decide)]; exact h105) ?_
              refine g_iconst (v := 1) C dX10_reads_154 (by decide) ?_
              refine g_iadd C dX10_reads_155 ?_
              rw [nI_1]
              refine g_iast 10 C dX10_reads_156 ly_105 (by decide) (by decide) rfl (by decide) ?_
              rw [mr_up (by decide)]
              refine g_aload_n C dX10_reads_157 rfl ?_
              refine g_bipush (v := 59) C dX10_reads_158 (by decide) ?_
              refine gv1I (ci := 10) C dX10_reads_160 vwX10_is mwX10_193 ⟨by decide, by decide⟩ rfl ly_103 (Nat.le_of_ble_eq_true rfl) (s_is59 (i := j) hD4 hj hk3) (Nat.le_of_ble_eq_true rfl) rfl ⟨by decide, by decide⟩ ?_
              refine g_istore_1 C dX10_reads_163 (by decide) ?_
              refine g_iload_n C dX10_reads_164 rfl ?_
              refine g_if_eq 172 C dX10_reads_165 (by decide) (fun c165 => ?_) (fun c165 => ?_)
              · have g165 : ¬ tk t e j = 4 := if01.mp c165
                refine g_goto 14 C dX10_reads_172 (by decide) ?_
                first
                  | (rw [if_pos g165]; exact ih (acc ++ [ln]) (tn t e j) (up1 D3 105 10 (nI (acc.length + 1))) v2 x2 (by rw [List.length_append]; show acc.length + 1 + g = 13; omega) (by rw [List.length_append]; show acc.length + 1 ≤ 12; omega) hls4 (lnsK_add hlk hl4) hoff4 (tn_le hj) hk2 (by rw [← pText_on hpl g165]; exact hr) _)
                  | (rw [if_neg g165]; exact fin (acc ++ [ln]) j (up1 D3 105 10 (nI (acc.length + 1))) v3 x3 (by rw [List.length_append]; show acc.length + 1 ≤ 12; omega) hls4 (lnsK_add hlk hl4) hoff4 hj hk3 (fun z => hr.symm.trans (pText_end hpl z)) (fun z => hr.symm.trans (pText_bad hpl z g165)) _)
              · have g165 : tk t e j = 4 := Classical.byContradiction (fun q => c165 (if01.mpr q))
                refine g_aload_n C dX10_reads_168 rfl ?_
                refine gv0 (ci := 10) (M1 := mm D J) C dX10_reads_169 vwX10_next mwX10_169 ⟨by decide, by decide⟩ rfl ly_103 (Nat.le_of_ble_eq_true rfl) (s_nextM (i := j) hD4 (mat_le hj)) (Nat.le_of_ble_eq_true rfl) rfl ⟨by decide, by decide⟩ (fun z M2 hP => ?_)
                obtain ⟨rfl, hM⟩ := hP
                rw [mat_tn (by rw [g165]; decide)] at hM
                obtain ⟨v2, x2, hk2, rfl⟩ := hM
                refine g_goto 14 C dX10_reads_172 (by decide) ?_
                first
                  | (rw [if_pos g165]; exact ih (acc ++ [ln]) (tn t e j) (up1 D3 105 10 (nI (acc.length + 1))) v2 x2 (by rw [List.length_append]; show acc.length + 1 + g = 13; omega) (by rw [List.length_append]; show acc.length + 1 ≤ 12; omega) hls4 (lnsK_add hlk hl4) hoff4 (tn_le hj) hk2 (by rw [← pText_on hpl g165]; exact hr) _)
                  | (rw [if_neg g165]; exact fin (acc ++ [ln]) j (up1 D3 105 10 (nI (acc.length + 1))) v3 x3 (by rw [List.length_append]; show acc.length + 1 ≤ 12; omega) hls4 (lnsK_add hlk hl4) hoff4 hj hk3 (fun z => hr.symm.trans (pText_end hpl z)) (fun z => hr.symm.trans (pText_bad hpl z g165)) _)
            · have g118 : acc.length = 12 := (nI_eq (b := 12) (by omega) (by decide)).mp c118
              refine g_aload_n C dX10_reads_121 rfl ?_
              refine g_iconst (v := 4) C dX10_reads_122 (by decide) ?_
              refine gv1 (ci := 10) (M1 := mm D J) C dX10_reads_123 vwX10_stop mwX10_166 ⟨by decide, by decide⟩ rfl ly_103 (Nat.le_of_ble_eq_true rfl) (s_stop) (Nat.le_of_ble_eq_true rfl) rfl ⟨by decide, by decide⟩ (fun z M2 hP => ?_)
              obtain ⟨rfl, rfl⟩ := hP
              exact g_athrow C dX10_reads_126 ht rfl rfl ⟨_, hr.symm.trans (pText_er (pL_c (by rw [hkd]; decide) (by omega))), D2, v, x, i, hoff, rfl⟩
          · first | exact absurd c100 (by decide) | exact absurd (by decide) c100 | exact absurd rfl c100
        · rw [h] at hkd; subst hkd
          have hkd := h
          have htk := htk (by rw [h]; decide)
          refine g_istore_2 C dX10_reads_97 (by decide) ?_
          refine g_iload_n C dX10_reads_98 rfl ?_
          refine g_iconst (v := (-1)) C dX10_reads_99 (by decide) ?_
          refine g_icmp_ne 109 C dX10_reads_100 (by decide) (fun c100 => ?_) (fun c100 => ?_)
          · refine g_aload_n C dX10_reads_109 rfl ?_
            refine g_getR (ci := 10) (k := 6) (q := 105) C dX10_reads_110 rfl inGX10 (by decide) fwX10_17 ly_103 (by decide) rfl rfl ?_
            refine g_bipush (v := 10) C dX10_reads_113 (by decide) ?_
            refine g_ialdv (v := nI acc.length) 10 C dX10_reads_115 ly_105 (by decide) (by decide) rfl (by decide) (by rw [mr_off (by decide)]; exact hls.1) ?_
            refine g_bipush (v := 12) C dX10_reads_116 (by decide) ?_
            refine g_icmp_ne 127 C dX10_reads_118 (by decide) (fun c118 => ?_) (fun c118 => ?_)
            · have g118 : acc.length < 12 := by have : ¬ acc.length = 12 := fun q => c118 (by rw [q]; rfl); omega
              refine g_aload_n C dX10_reads_127 rfl ?_
              refine gv0 (ci := 10) (M1 := mm D J) C dX10_reads_128 vwX10_next mwX10_169 ⟨by decide, by decide⟩ rfl ly_103 (Nat.le_of_ble_eq_true rfl) (s_nextM (i := i) hD2 (mat_le hi)) (Nat.le_of_ble_eq_true rfl) rfl ⟨by decide, by decide⟩ (fun z M2 hP => ?_)
              obtain ⟨rfl, hM⟩ := hP
              rw [mat_tn htk] at hM
              obtain ⟨v1, x1, hk1, rfl⟩ := hM
              refine g_aload_n C dX10_reads_131 rfl ?_
              refine g_bipush (v := 120) C dX10_reads_132 (by decide) ?_
              refine g_aload_n C dX10_reads_134 rfl ?_
              refine g_getR (ci := 10) (k := 6) (q := 105) C dX10_reads_135 rfl inGX10 (by decide) fwX10_17 ly_103 (by decide) rfl rfl ?_
              refine g_bipush (v := 10) C dX10_reads_138 (by decide) ?_
              refine g_ialdv (v := nI acc.length) 10 C dX10_reads_140 ly_105 (by decide) (by decide) rfl (by decide) (by rw [mr_off (by decide)]; exact hls.1) ?_
              refine g_iadd C dX10_reads_141 ?_
              rw [show (120 : Int32) + nI acc.length = nI (120 + acc.length) from nI_add 120 _]
              refine g_iload_n C dX10_reads_142 rfl ?_
              refine g_callVT (na := 2) (As := [_, _]) (ci := 10) C dX10_reads_143 vwX10_readLine mwX10_189 ⟨by decide, by decide⟩ rfl ly_103 (Nat.le_of_ble_eq_true rfl) (s_rl1 hD2 (tn_le hi) hk1 (show 120 + acc.length < 132 by omega)) rfl (Nat.le_of_ble_eq_true rfl) rfl ⟨by decide, by decide⟩ _ rfl (fun z M2 hP => ?_) (fun M2 hT => by obtain ⟨er, h3, hT⟩ := hT; exact gt_out C ht rfl rfl ⟨er, hr.symm.trans (pText_er ((pL_1 (n := n) hkd g118).trans h3)), TS_mono hT (fun D h => offR_tr hoff (offR_Q (by omega) h))⟩)
              obtain ⟨rfl, ln, j, D3, h3, hln, hoq, hj, v3, x3, hk3, rfl⟩ := hP
              have hl4 : Ln4 ln := pLet_4 h3
              have hoff4 : offR D (up1 D3 105 10 (nI (acc.length + 1))) := offR_tr (offR_tr hoff (offR_Q (by omega) hoq)) offR_10
              have hD4 := offR_rd hoff4 hD
              have hls4 := lnsOK_add hls hlk hl4 hoq hln
              have hpl := (pL_1 (n := n) hkd g118).trans h3
              have h105 : D3 105 10 = nI acc.length := (hoq 105 10 (by omega) (by omega)).trans hls.1
              refine g_aload_n C dX10_reads_146 rfl ?_
              refine g_getR (ci := 10) (k := 6) (q := 105) C dX10_reads_147 rfl inGX10 (by decide) fwX10_17 ly_103 (by decide) rfl rfl ?_
              refine g_bipush (v := 10) C dX10_reads_150 (by decide) ?_
              refine g_dup2 C dX10_reads_152 rfl rfl ?_
              refine g_ialdv (v := nI acc.length) 10 C dX10_reads_153 ly_105 (by decide) (by decide) rfl (by decide) (by rw [mr_off (by decide)]; exact h105) ?_
              refine g_iconst (v := 1) C dX10_reads_154 (by decide) ?_
              refine g_iadd C dX10_reads_155 ?_
              rw [nI_1]
              refine g_iast 10 C dX10_reads_156 ly_105 (by decide) (by decide) rfl (by decide) ?_
              rw [mr_up (by decide)]
              refine g_aload_n C dX10_reads_157 rfl ?_
              refine g_bipush (v := 59) C dX10_reads_158 (by decide) ?_
              refine gv1I (ci := 10) C dX10_reads_160 vwX10_is mwX10_193 ⟨by decide, by decide⟩ rfl ly_103 (Nat.le_of_ble_eq_true rfl) (s_is59 (i := j) hD4 hj hk3) (Nat.le_of_ble_eq_true rfl) rfl ⟨by decide, by decide⟩ ?_
              refine g_istore_1 C dX10_reads_163 (by decide) ?_
              refine g_iload_n C dX10_reads_164 rfl ?_
              refine g_if_eq 172 C dX10_reads_165 (by decide) (fun c165 => ?_) (fun c165 => ?_)
              · have g165 : ¬ tk t e j = 4 := if01.mp c165
                refine g_goto 14 C dX10_reads_172 (by decide) ?_
                first
                  | (rw [if_pos g165]; exact ih (acc ++ [ln]) (tn t e j) (up1 D3 105 10 (nI (acc.length + 1))) v2 x2 (by rw [List.length_append]; show acc.length + 1 + g = 13; omega) (by rw [List.length_append]; show acc.length + 1 ≤ 12; omega) hls4 (lnsK_add hlk hl4) hoff4 (tn_le hj) hk2 (by rw [← pText_on hpl g165]; exact hr) _)
                  | (rw [if_neg g165]; exact fin (acc ++ [ln]) j (up1 D3 105 10 (nI (acc.length + 1))) v3 x3 (by rw [List.length_append]; show acc.length + 1 ≤ 12; omega) hls4 (lnsK_add hlk hl4) hoff4 hj hk3 (fun z => hr.symm.trans (pText_end hpl z)) (fun z => hr.symm.trans (pText_bad hpl z g165)) _)
              · have g165 : tk t e j = 4 := Classical.byContradiction (fun q => c165 (if01.mpr q))
                refine g_aload_n C dX10_reads_168 rfl ?_
                refine gv0 (ci := 10) (M1 := mm D J) C dX10_reads_169 vwX10_next mwX10_169 ⟨by decide, by decide⟩ rfl ly_103 (Nat.le_of_ble_eq_true rfl) (s_nextM (i := j) hD4 (mat_le hj)) (Nat.le_of_ble_eq_true rfl) rfl ⟨by decide, by decide⟩ (fun z M2 hP => ?_)
                obtain ⟨rfl, hM⟩ := hP
                rw [mat_tn (by rw [g165]; decide)] at hM
                obtain ⟨v2, x2, hk2, rfl⟩ := hM
                refine g_goto 14 C dX10_reads_172 (by decide) ?_
                first
                  | (rw [if_pos g165]; exact ih (acc ++ [ln]) (tn t e j) (up1 D3 105 10 (nI (acc.length + 1))) v2 x2 (by rw [List.length_append]; show acc.length + 1 + g = 13; omega) (by rw [List.length_append]; show acc.length + 1 ≤ 12; omega) hls4 (lnsK_add hlk hl4) hoff4 (tn_le hj) hk2 (by rw [← pText_on hpl g165]; exact hr) _)
                  | (rw [if_neg g165]; exact fin (acc ++ [ln]) j (up1 D3 105 10 (nI (acc.length + 1))) v3 x3 (by rw [List.length_append]; show acc.length + 1 ≤ 12; omega) hls4 (lnsK_add hlk hl4) hoff4 hj hk3 (fun z => hr.symm.trans (pText_end hpl z)) (fun z => hr.symm.trans (pText_bad hpl z g165)) _)
            · have g118 : acc.length = 12 := (nI_eq (b := 12) (by omega) (by decide)).mp c118
              refine g_aload_n C dX10_reads_121 rfl ?_
              refine g_iconst (v := 4) C dX10_reads_122 (by decide) ?_
              refine gv1 (ci := 10) (M1 := mm D J) C dX10_reads_123 vwX10_stop mwX10_166 ⟨by decide, by decide⟩ rfl ly_103 (Nat.le_of_ble_eq_true rfl) (s_stop) (Nat.le_of_ble_eq_true rfl) rfl ⟨by decide, by decide⟩ (fun z M2 hP => ?_)
              obtain ⟨rfl, rfl⟩ := hP
              exact g_athrow C dX10_reads_126 ht rfl rfl ⟨_, hr.symm.trans (pText_er (pL_c (by rw [hkd]; decide) (by omega))), D2, v, x, i, hoff, rfl⟩
          · first | exact absurd c100 (by decide) | exact absurd (by decide) c100 | exact absurd rfl c100
        · rw [h] at hkd; subst hkd
          have hkd := h
          have htk := htk (by rw [h]; decide)
          refine g_istore_2 C dX10_reads_97 (by decide) ?_
          refine g_iload_n C dX10_reads_98 rfl ?_
          refine g_iconst (v := (-1)) C dX10_reads_99 (by decide) ?_
          refine g_icmp_ne 109 C dX10_reads_100 (by decide) (fun c100 => ?_) (fun c100 => ?_)
          · refine g_aload_n C dX10_reads_109 rfl ?_
            refine g_getR (ci := 10) (k := 6) (q := 105) C dX10_reads_110 rfl inGX10 (by decide) fwX10_17 ly_103 (by decide) rfl rfl ?_
            refine g_bipush (v := 10) C dX10_reads_113 (by decide) ?_
            refine g_ialdv (v := nI acc.length) 10 C dX10_reads_115 ly_105 (by decide) (by decide) rfl (by decide) (by rw [mr_off (by decide)]; exact hls.1) ?_
            refine g_bipush (v := 12) C dX10_reads_116 (by decide) ?_
            refine g_icmp_ne 127 C dX10_reads_118 (by decide) (fun c118 => ?_) (fun c118 => ?_)
            · have g118 : acc.length < 12 := by have : ¬ acc.length = 12 := fun q => c118 (by rw [q]; rfl); omega
              refine g_aload_n C dX10_reads_127 rfl ?_
              refine gv0 (ci := 10) (M1 := mm D J) C dX10_reads_128 vwX10_next mwX10_169 ⟨by decide, by decide⟩ rfl ly_103 (Nat.le_of_ble_eq_true rfl) (s_nextM (i := i) hD2 (mat_le hi)) (Nat.le_of_ble_eq_true rfl) rfl ⟨by decide, by decide⟩ (fun z M2 hP => ?_)
              obtain ⟨rfl, hM⟩ := hP
              rw [mat_tn htk] at hM
              obtain ⟨v1, x1, hk1, rfl⟩ := hM
              refine g_aload_n C dX10_reads_131 rfl ?_
              refine g_bipush (v := 120) C dX10_reads_132 (by decide) ?_
              refine g_aload_n C dX10_reads_134 rfl ?_
              refine g_getR (ci := 10) (k := 6) (q := 105) C dX10_reads_135 rfl inGX10 (by decide) fwX10_17 ly_103 (by decide) rfl rfl ?_
              refine g_bipush (v := 10) C dX10_reads_138 (by decide) ?_
              refine g_ialdv (v := nI acc.length) 10 C dX10_reads_140 ly_105 (by decide) (by decide) rfl (by decide) (by rw [mr_off (by decide)]; exact hls.1) ?_
              refine g_iadd C dX10_reads_141 ?_
              rw [show (120 : Int32) + nI acc.length = nI (120 + acc.length) from nI_add 120 _]
              refine g_iload_n C dX10_reads_142 rfl ?_
              refine g_callVT (na := 2) (As := [_, _]) (ci := 10) C dX10_reads_143 vwX10_readLine mwX10_189 ⟨by decide, by decide⟩ rfl ly_103 (Nat.le_of_ble_eq_true rfl) (s_rl2 hD2 (tn_le hi) hk1 (show 120 + acc.length < 132 by omega) (by rw [hoff 103 4 (by omega) (by omega) (by omega)]; exact hn) hn31) rfl (Nat.le_of_ble_eq_true rfl) rfl ⟨by decide, by decide⟩ _ rfl (fun z M2 hP => ?_) (fun M2 hT => by obtain ⟨er, h3, hT⟩ := hT; exact gt_out C ht rfl rfl ⟨er, hr.symm.trans (pText_er ((pL_2 (n := n) hkd g118).trans h3)), TS_mono hT (fun D h => offR_tr hoff (offR_Q (by omega) h))⟩)
              obtain ⟨rfl, ln, j, D3, h3, hln, hoq, hj, v3, x3, hk3, rfl⟩ := hP
              have hl4 : Ln4 ln := pAsk_k h3
              have hoff4 : offR D (up1 D3 105 10 (nI (acc.length + 1))) := offR_tr (offR_tr hoff (offR_Q (by omega) hoq)) offR_10
              have hD4 := offR_rd hoff4 hD
              have hls4 := lnsOK_add hls hlk hl4 hoq hln
              have hpl := (pL_2 (n := n) hkd g118).trans h3
              have h105 : D3 105 10 = nI acc.length := (hoq 105 10 (by omega) (by omega)).trans hls.1
              refine g_aload_n C dX10_reads_146 rfl ?_
              refine g_getR (ci := 10) (k := 6) (q := 105) C dX10_reads_147 rfl inGX10 (by decide) fwX10_17 ly_103 (by decide) rfl rfl ?_
              refine g_bipush (v := 10) C dX10_reads_150 (by decide) ?_
              refine g_dup2 C dX10_reads_152 rfl rfl ?_
              refine g_ialdv (v := nI acc.length) 10 C dX10_reads_153 ly_105 (by decide) (by decide) rfl (by decide) (by rw [mr_off (by decide)]; exact h105) ?_
              refine g_iconst (v := 1) C dX10_reads_154 (by decide) ?_
              refine g_iadd C dX10_reads_155 ?_
              rw [nI_1]
              refine g_iast 10 C dX10_reads_156 ly_105 (by decide) (by decide) rfl (by decide) ?_
              rw [mr_up (by decide)]
              refine g_aload_n C dX10_reads_157 rfl ?_
              refine g_bipush (v := 59) C dX10_reads_158 (by decide) ?_
              refine gv1I (ci := 10) C dX10_reads_160 vwX10_is mwX10_193 ⟨by decide, by decide⟩ rfl ly_103 (Nat.le_of_ble_eq_true rfl) (s_is59 (i := j) hD4 hj hk3) (Nat.le_of_ble_eq_true rfl) rfl ⟨by decide, by decide⟩ ?_
              refine g_istore_1 C dX10_reads_163 (by decide) ?_
              refine g_iload_n C dX10_reads_164 rfl ?_
              refine g_if_eq 172 C dX10_reads_165 (by decide) (fun c165 => ?_) (fun c165 => ?_)
              · have g165 : ¬ tk t e j = 4 := if01.mp c165
                refine g_goto 14 C dX10_reads_172 (by decide) ?_
                first
                  | (rw [if_pos g165]; exact ih (acc ++ [ln]) (tn t e j) (up1 D3 105 10 (nI (acc.length + 1))) v2 x2 (by rw [List.length_append]; show acc.length + 1 + g = 13; omega) (by rw [List.length_append]; show acc.length + 1 ≤ 12; omega) hls4 (lnsK_add hlk hl4) hoff4 (tn_le hj) hk2 (by rw [← pText_on hpl g165]; exact hr) _)
                  | (rw [if_neg g165]; exact fin (acc ++ [ln]) j (up1 D3 105 10 (nI (acc.length + 1))) v3 x3 (by rw [List.length_append]; show acc.length + 1 ≤ 12; omega) hls4 (lnsK_add hlk hl4) hoff4 hj hk3 (fun z => hr.symm.trans (pText_end hpl z)) (fun z => hr.symm.trans (pText_bad hpl z g165)) _)
              · have g165 : tk t e j = 4 := Classical.byContradiction (fun q => c165 (if01.mpr q))
                refine g_aload_n C dX10_reads_168 rfl ?_
                refine gv0 (ci := 10) (M1 := mm D J) C dX10_reads_169 vwX10_next mwX10_169 ⟨by decide, by decide⟩ rfl ly_103 (Nat.le_of_ble_eq_true rfl) (s_nextM (i := j) hD4 (mat_le hj)) (Nat.le_of_ble_eq_true rfl) rfl ⟨by decide, by decide⟩ (fun z M2 hP => ?_)
                obtain ⟨rfl, hM⟩ := hP
                rw [mat_tn (by rw [g165]; decide)] at hM
                obtain ⟨v2, x2, hk2, rfl⟩ := hM
                refine g_goto 14 C dX10_reads_172 (by decide) ?_
                first
                  | (rw [if_pos g165]; exact ih (acc ++ [ln]) (tn t e j) (up1 D3 105 10 (nI (acc.length + 1))) v2 x2 (by rw [List.length_append]; show acc.length + 1 + g = 13; omega) (by rw [List.length_append]; show acc.length + 1 ≤ 12; omega) hls4 (lnsK_add hlk hl4) hoff4 (tn_le hj) hk2 (by rw [← pText_on hpl g165]; exact hr) _)
                  | (rw [if_neg g165]; exact fin (acc ++ [ln]) j (up1 D3 105 10 (nI (acc.length + 1))) v3 x3 (by rw [List.length_append]; show acc.length + 1 ≤ 12; omega) hls4 (lnsK_add hlk hl4) hoff4 hj hk3 (fun z => hr.symm.trans (pText_end hpl z)) (fun z => hr.symm.trans (pText_bad hpl z g165)) _)
            · have g118 : acc.length = 12 := (nI_eq (b := 12) (by omega) (by decide)).mp c118
              refine g_aload_n C dX10_reads_121 rfl ?_
              refine g_iconst (v := 4) C dX10_reads_122 (by decide) ?_
              refine gv1 (ci := 10) (M1 := mm D J) C dX10_reads_123 vwX10_stop mwX10_166 ⟨by decide, by decide⟩ rfl ly_103 (Nat.le_of_ble_eq_true rfl) (s_stop) (Nat.le_of_ble_eq_true rfl) rfl ⟨by decide, by decide⟩ (fun z M2 hP => ?_)
              obtain ⟨rfl, rfl⟩ := hP
              exact g_athrow C dX10_reads_126 ht rfl rfl ⟨_, hr.symm.trans (pText_er (pL_c (by rw [hkd]; decide) (by omega))), D2, v, x, i, hoff, rfl⟩
          · first | exact absurd c100 (by decide) | exact absurd (by decide) c100 | exact absurd rfl c100
        · rw [h] at hkd; subst hkd
          have hkd := h
          have htk := htk (by rw [h]; decide)
          refine g_istore_2 C dX10_reads_97 (by decide) ?_
          refine g_iload_n C dX10_reads_98 rfl ?_
          refine g_iconst (v := (-1)) C dX10_reads_99 (by decide) ?_
          refine g_icmp_ne 109 C dX10_reads_100 (by decide) (fun c100 => ?_) (fun c100 => ?_)
          · refine g_aload_n C dX10_reads_109 rfl ?_
            refine g_getR (ci := 10) (k := 6) (q := 105) C dX10_reads_110 rfl inGX10 (by decide) fwX10_17 ly_103 (by decide) rfl rfl ?_
            refine g_bipush (v := 10) C dX10_reads_113 (by decide) ?_
            refine g_ialdv (v := nI acc.length) 10 C dX10_reads_115 ly_105 (by decide) (by decide) rfl (by decide) (by rw [mr_off (by decide)]; exact hls.1) ?_
            refine g_bipush (v := 12) C dX10_reads_116 (by decide) ?_
            refine g_icmp_ne 127 C dX10_reads_118 (by decide) (fun c118 => ?_) (fun c118 => ?_)
            · have g118 : acc.length < 12 := by have : ¬ acc.length = 12 := fun q => c118 (by rw [q]; rfl); omega
              refine g_aload_n C dX10_reads_127 rfl ?_
              refine gv0 (ci := 10) (M1 := mm D J) C dX10_reads_128 vwX10_next mwX10_169 ⟨by decide, by decide⟩ rfl ly_103 (Nat.le_of_ble_eq_true rfl) (s_nextM (i := i) hD2 (mat_le hi)) (Nat.le_of_ble_eq_true rfl) rfl ⟨by decide, by decide⟩ (fun z M2 hP => ?_)
              obtain ⟨rfl, hM⟩ := hP
              rw [mat_tn htk] at hM
              obtain ⟨v1, x1, hk1, rfl⟩ := hM
              refine g_aload_n C dX10_reads_131 rfl ?_
              refine g_bipush (v := 120) C dX10_reads_132 (by decide) ?_
              refine g_aload_n C dX10_reads_134 rfl ?_
              refine g_getR (ci := 10) (k := 6) (q := 105) C dX10_reads_135 rfl inGX10 (by decide) fwX10_17 ly_103 (by decide) rfl rfl ?_
              refine g_bipush (v := 10) C dX10_reads_138 (by decide) ?_
              refine g_ialdv (v := nI acc.length) 10 C dX10_reads_140 ly_105 (by decide) (by decide) rfl (by decide) (by rw [mr_off (by decide)]; exact hls.1) ?_
              refine g_iadd C dX10_reads_141 ?_
              rw [show (120 : Int32) + nI acc.length = nI (120 + acc.length) from nI_add 120 _]
              refine g_iload_n C dX10_reads_142 rfl ?_
              refine g_callVT (na := 2) (As := [_, _]) (ci := 10) C dX10_reads_143 vwX10_readLine mwX10_189 ⟨by decide, by decide⟩ rfl ly_103 (Nat.le_of_ble_eq_true rfl) (s_rl3 hD2 (tn_le hi) hk1 (show 120 + acc.length < 132 by omega)) rfl (Nat.le_of_ble_eq_true rfl) rfl ⟨by decide, by decide⟩ _ rfl (fun z M2 hP => ?_) (fun M2 hT => by obtain ⟨er, h3, hT⟩ := hT; exact gt_out C ht rfl rfl ⟨er, hr.symm.trans (pText_er ((pL_3 (n := n) hkd g118).trans h3)), TS_mono hT (fun D h => offR_tr hoff (offR_Q (by omega) h))⟩)
              obtain ⟨rfl, ln, j, D3, h3, hln, hoq, hj, v3, x3, hk3, rfl⟩ := hP
              have hl4 : Ln4 ln := pOut_k (by decide) h3
              have hoff4 : offR D (up1 D3 105 10 (nI (acc.length + 1))) := offR_tr (offR_tr hoff (offR_Q (by omega) hoq)) offR_10
              have hD4 := offR_rd hoff4 hD
              have hls4 := lnsOK_add hls hlk hl4 hoq hln
              have hpl := (pL_3 (n := n) hkd g118).trans h3
              have h105 : D3 105 10 = nI acc.length := (hoq 105 10 (by omega) (by omega)).trans hls.1
              refine g_aload_n C dX10_reads_146 rfl ?_
              refine g_getR (ci := 10) (k := 6) (q := 105) C dX10_reads_147 rfl inGX10 (by decide) fwX10_17 ly_103 (by decide) rfl rfl ?_
              refine g_bipush (v := 10) C dX10_reads_150 (by decide) ?_
              refine g_dup2 C dX10_reads_152 rfl rfl ?_
              refine g_ialdv (v := nI acc.length) 10 C dX10_reads_153 ly_105 (by decide) (by decide) rfl (by decide) (by rw [mr_off (by decide)]; exact h105) ?_
              refine g_iconst (v := 1) C dX10_reads_154 (by decide) ?_
              refine g_iadd C dX10_reads_155 ?_
              rw [nI_1]
              refine g_iast 10 C dX10_reads_156 ly_105 (by decide) (by decide) rfl (by decide) ?_
              rw [mr_up (by decide)]
              refine g_aload_n C dX10_reads_157 rfl ?_
              refine g_bipush (v := 59) C dX10_reads_158 (by decide) ?_
              refine gv1I (ci := 10) C dX10_reads_160 vwX10_is mwX10_193 ⟨by decide, by decide⟩ rfl ly_103 (Nat.le_of_ble_eq_true rfl) (s_is59 (i := j) hD4 hj hk3) (Nat.le_of_ble_eq_true rfl) rfl ⟨by decide, by decide⟩ ?_
              refine g_istore_1 C dX10_reads_163 (by decide) ?_
              refine g_iload_n C dX10_reads_164 rfl ?_
              refine g_if_eq 172 C dX10_reads_165 (by decide) (fun c165 => ?_) (fun c165 => ?_)
              · have g165 : ¬ tk t e j = 4 := if01.mp c165
                refine g_goto 14 C dX10_reads_172 (by decide) ?_
                first
                  | (rw [if_pos g165]; exact ih (acc ++ [ln]) (tn t e j) (up1 D3 105 10 (nI (acc.length + 1))) v2 x2 (by rw [List.length_append]; show acc.length + 1 + g = 13; omega) (by rw [List.length_append]; show acc.length + 1 ≤ 12; omega) hls4 (lnsK_add hlk hl4) hoff4 (tn_le hj) hk2 (by rw [← pText_on hpl g165]; exact hr) _)
                  | (rw [if_neg g165]; exact fin (acc ++ [ln]) j (up1 D3 105 10 (nI (acc.length + 1))) v3 x3 (by rw [List.length_append]; show acc.length + 1 ≤ 12; omega) hls4 (lnsK_add hlk hl4) hoff4 hj hk3 (fun z => hr.symm.trans (pText_end hpl z)) (fun z => hr.symm.trans (pText_bad hpl z g165)) _)
              · have g165 : tk t e j = 4 := Classical.byContradiction (fun q => c165 (if01.mpr q))
                refine g_aload_n C dX10_reads_168 rfl ?_
                refine gv0 (ci := 10) (M1 := mm D J) C dX10_reads_169 vwX10_next mwX10_169 ⟨by decide, by decide⟩ rfl ly_103 (Nat.le_of_ble_eq_true rfl) (s_nextM (i := j) hD4 (mat_le hj)) (Nat.le_of_ble_eq_true rfl) rfl ⟨by decide, by decide⟩ (fun z M2 hP => ?_)
                obtain ⟨rfl, hM⟩ := hP
                rw [mat_tn (by rw [g165]; decide)] at hM
                obtain ⟨v2, x2, hk2, rfl⟩ := hM
                refine g_goto 14 C dX10_reads_172 (by decide) ?_
                first
                  | (rw [if_pos g165]; exact ih (acc ++ [ln]) (tn t e j) (up1 D3 105 10 (nI (acc.length + 1))) v2 x2 (by rw [List.length_append]; show acc.length + 1 + g = 13; omega) (by rw [List.length_append]; show acc.length + 1 ≤ 12; omega) hls4 (lnsK_add hlk hl4) hoff4 (tn_le hj) hk2 (by rw [← pText_on hpl g165]; exact hr) _)
                  | (rw [if_neg g165]; exact fin (acc ++ [ln]) j (up1 D3 105 10 (nI (acc.length + 1))) v3 x3 (by rw [List.length_append]; show acc.length + 1 ≤ 12; omega) hls4 (lnsK_add hlk hl4) hoff4 hj hk3 (fun z => hr.symm.trans (pText_end hpl z)) (fun z => hr.symm.trans (pText_bad hpl z g165)) _)
            · have g118 : acc.length = 12 := (nI_eq (b := 12) (by omega) (by decide)).mp c118
              refine g_aload_n C dX10_reads_121 rfl ?_
              refine g_iconst (v := 4) C dX10_reads_122 (by decide) ?_
              refine gv1 (ci := 10) (M1 := mm D J) C dX10_reads_123 vwX10_stop mwX10_166 ⟨by decide, by decide⟩ rfl ly_103 (Nat.le_of_ble_eq_true rfl) (s_stop) (Nat.le_of_ble_eq_true rfl) rfl ⟨by decide, by decide⟩ (fun z M2 hP => ?_)
              obtain ⟨rfl, rfl⟩ := hP
              exact g_athrow C dX10_reads_126 ht rfl rfl ⟨_, hr.symm.trans (pText_er (pL_c (by rw [hkd]; decide) (by omega))), D2, v, x, i, hoff, rfl⟩
          · first | exact absurd c100 (by decide) | exact absurd (by decide) c100 | exact absurd rfl c100
        · rw [h] at hkd; subst hkd
          have hkd := h
          have htk := htk (by rw [h]; decide)
          refine g_istore_2 C dX10_reads_97 (by decide) ?_
          refine g_iload_n C dX10_reads_98 rfl ?_
          refine g_iconst (v := (-1)) C dX10_reads_99 (by decide) ?_
          refine g_icmp_ne 109 C dX10_reads_100 (by decide) (fun c100 => ?_) (fun c100 => ?_)
          · refine g_aload_n C dX10_reads_109 rfl ?_
            refine g_getR (ci := 10) (k := 6) (q := 105) C dX10_reads_110 rfl inGX10 (by decide) fwX10_17 ly_103 (by decide) rfl rfl ?_
            refine g_bipush (v := 10) C dX10_reads_113 (by decide) ?_
            refine g_ialdv (v := nI acc.length) 10 C dX10_reads_115 ly_105 (by decide) (by decide) rfl (by decide) (by rw [mr_off (by decide)]; exact hls.1) ?_
            refine g_bipush (v := 12) C dX10_reads_116 (by decide) ?_
            refine g_icmp_ne 127 C dX10_reads_118 (by decide) (fun c118 => ?_) (fun c118 => ?_)
            · have g118 : acc.length < 12 := by have : ¬ acc.length = 12 := fun q => c118 (by rw [q]; rfl); omega
              refine g_aload_n C dX10_reads_127 rfl ?_
              refine gv0 (ci := 10) (M1 := mm D J) C dX10_reads_128 vwX10_next mwX10_169 ⟨by decide, by decide⟩ rfl ly_103 (Nat.le_of_ble_eq_true rfl) (s_nextM (i := i) hD2 (mat_le hi)) (Nat.le_of_ble_eq_true rfl) rfl ⟨by decide, by decide⟩ (fun z M2 hP => ?_)
              obtain ⟨rfl, hM⟩ := hP
              rw [mat_tn htk] at hM
              obtain ⟨v1, x1, hk1, rfl⟩ := hM
              refine g_aload_n C dX10_reads_131 rfl ?_
              refine g_bipush (v := 120) C dX10_reads_132 (by decide) ?_
              refine g_aload_n C dX10_reads_134 rfl ?_
              refine g_getR (ci := 10) (k := 6) (q := 105) C dX10_reads_135 rfl inGX10 (by decide) fwX10_17 ly_103 (by decide) rfl rfl ?_
              refine g_bipush (v := 10) C dX10_reads_138 (by decide) ?_
              refine g_ialdv (v := nI acc.length) 10 C dX10_reads_140 ly_105 (by decide) (by decide) rfl (by decide) (by rw [mr_off (by decide)]; exact hls.1) ?_
              refine g_iadd C dX10_reads_141 ?_
              rw [show (120 : Int32) + nI acc.length = nI (120 + acc.length) from nI_add 120 _]
              refine g_iload_n C dX10_reads_142 rfl ?_
              refine g_callVT (na := 2) (As := [_, _]) (ci := 10) C dX10_reads_143 vwX10_readLine mwX10_189 ⟨by decide, by decide⟩ rfl ly_103 (Nat.le_of_ble_eq_true rfl) (s_rl4 hD2 (tn_le hi) hk1 (show 120 + acc.length < 132 by omega)) rfl (Nat.le_of_ble_eq_true rfl) rfl ⟨by decide, by decide⟩ _ rfl (fun z M2 hP => ?_) (fun M2 hT => by obtain ⟨er, h3, hT⟩ := hT; exact gt_out C ht rfl rfl ⟨er, hr.symm.trans (pText_er ((pL_4 (n := n) hkd g118).trans h3)), TS_mono hT (fun D h => offR_tr hoff (offR_Q (by omega) h))⟩)
              obtain ⟨rfl, ln, j, D3, h3, hln, hoq, hj, v3, x3, hk3, rfl⟩ := hP
              have hl4 : Ln4 ln := pOut_k (by decide) h3
              have hoff4 : offR D (up1 D3 105 10 (nI (acc.length + 1))) := offR_tr (offR_tr hoff (offR_Q (by omega) hoq)) offR_10
              have hD4 := offR_rd hoff4 hD
              have hls4 := lnsOK_add hls hlk hl4 hoq hln
              have hpl := (pL_4 (n := n) hkd g118).trans h3
              have h105 : D3 105 10 = nI acc.length := (hoq 105 10 (by omega) (by omega)).trans hls.1
              refine g_aload_n C dX10_reads_146 rfl ?_
              refine g_getR (ci := 10) (k := 6) (q := 105) C dX10_reads_147 rfl inGX10 (by decide) fwX10_17 ly_103 (by decide) rfl rfl ?_
              refine g_bipush (v := 10) C dX10_reads_150 (by decide) ?_
              refine g_dup2 C dX10_reads_152 rfl rfl ?_
              refine g_ialdv (v := nI acc.length) 10 C dX10_reads_153 ly_105 (by decide) (by decide) rfl (by decide) (by rw [mr_off (by decide)]; exact h105) ?_
              refine g_iconst (v := 1) C dX10_reads_154 (by decide) ?_
              refine g_iadd C dX10_reads_155 ?_
              rw [nI_1]
              refine g_iast 10 C dX10_reads_156 ly_105 (by decide) (by decide) rfl (by decide) ?_
              rw [mr_up (by decide)]
              refine g_aload_n C dX10_reads_157 rfl ?_
              refine g_bipush (v := 59) C dX10_reads_158 (by decide) ?_
              refine gv1I (ci := 10) C dX10_reads_160 vwX10_is mwX10_193 ⟨by decide, by decide⟩ rfl ly_103 (Nat.le_of_ble_eq_true rfl) (s_is59 (i := j) hD4 hj hk3) (Nat.le_of_ble_eq_true rfl) rfl ⟨by decide, by decide⟩ ?_
              refine g_istore_1 C dX10_reads_163 (by decide) ?_
              refine g_iload_n C dX10_reads_164 rfl ?_
              refine g_if_eq 172 C dX10_reads_165 (by decide) (fun c165 => ?_) (fun c165 => ?_)
              · have g165 : ¬ tk t e j = 4 := if01.mp c165
                refine g_goto 14 C dX10_reads_172 (by decide) ?_
                first
                  | (rw [if_pos g165]; exact ih (acc ++ [ln]) (tn t e j) (up1 D3 105 10 (nI (acc.length + 1))) v2 x2 (by rw [List.length_append]; show acc.length + 1 + g = 13; omega) (by rw [List.length_append]; show acc.length + 1 ≤ 12; omega) hls4 (lnsK_add hlk hl4) hoff4 (tn_le hj) hk2 (by rw [← pText_on hpl g165]; exact hr) _)
                  | (rw [if_neg g165]; exact fin (acc ++ [ln]) j (up1 D3 105 10 (nI (acc.length + 1))) v3 x3 (by rw [List.length_append]; show acc.length + 1 ≤ 12; omega) hls4 (lnsK_add hlk hl4) hoff4 hj hk3 (fun z => hr.symm.trans (pText_end hpl z)) (fun z => hr.symm.trans (pText_bad hpl z g165)) _)
              · have g165 : tk t e j = 4 := Classical.byContradiction (fun q => c165 (if01.mpr q))
                refine g_aload_n C dX10_reads_168 rfl ?_
                refine gv0 (ci := 10) (M1 := mm D J) C dX10_reads_169 vwX10_next mwX10_169 ⟨by decide, by decide⟩ rfl ly_103 (Nat.le_of_ble_eq_true rfl) (s_nextM (i := j) hD4 (mat_le hj)) (Nat.le_of_ble_eq_true rfl) rfl ⟨by decide, by decide⟩ (fun z M2 hP => ?_)
                obtain ⟨rfl, hM⟩ := hP
                rw [mat_tn (by rw [g165]; decide)] at hM
                obtain ⟨v2, x2, hk2, rfl⟩ := hM
                refine g_goto 14 C dX10_reads_172 (by decide) ?_
                first
                  | (rw [if_pos g165]; exact ih (acc ++ [ln]) (tn t e j) (up1 D3 105 10 (nI (acc.length + 1))) v2 x2 (by rw [List.length_append]; show acc.length + 1 + g = 13; omega) (by rw [List.length_append]; show acc.length + 1 ≤ 12; omega) hls4 (lnsK_add hlk hl4) hoff4 (tn_le hj) hk2 (by rw [← pText_on hpl g165]; exact hr) _)
                  | (rw [if_neg g165]; exact fin (acc ++ [ln]) j (up1 D3 105 10 (nI (acc.length + 1))) v3 x3 (by rw [List.length_append]; show acc.length + 1 ≤ 12; omega) hls4 (lnsK_add hlk hl4) hoff4 hj hk3 (fun z => hr.symm.trans (pText_end hpl z)) (fun z => hr.symm.trans (pText_bad hpl z g165)) _)
            · have g118 : acc.length = 12 := (nI_eq (b := 12) (by omega) (by decide)).mp c118
              refine g_aload_n C dX10_reads_121 rfl ?_
              refine g_iconst (v := 4) C dX10_reads_122 (by decide) ?_
              refine gv1 (ci := 10) (M1 := mm D J) C dX10_reads_123 vwX10_stop mwX10_166 ⟨by decide, by decide⟩ rfl ly_103 (Nat.le_of_ble_eq_true rfl) (s_stop) (Nat.le_of_ble_eq_true rfl) rfl ⟨by decide, by decide⟩ (fun z M2 hP => ?_)
              obtain ⟨rfl, rfl⟩ := hP
              exact g_athrow C dX10_reads_126 ht rfl rfl ⟨_, hr.symm.trans (pText_er (pL_c (by rw [hkd]; decide) (by omega))), D2, v, x, i, hoff, rfl⟩
          · first | exact absurd c100 (by decide) | exact absurd (by decide) c100 | exact absurd rfl c100
        · rw [h] at hkd; subst hkd
          have hkd := h
          have htk := htk (by rw [h]; decide)
          refine g_istore_2 C dX10_reads_97 (by decide) ?_
          refine g_iload_n C dX10_reads_98 rfl ?_
          refine g_iconst (v := (-1)) C dX10_reads_99 (by decide) ?_
          refine g_icmp_ne 109 C dX10_reads_100 (by decide) (fun c100 => ?_) (fun c100 => ?_)
          · refine g_aload_n C dX10_reads_109 rfl ?_
            refine g_getR (ci := 10) (k := 6) (q := 105) C dX10_reads_110 rfl inGX10 (by decide) fwX10_17 ly_103 (by decide) rfl rfl ?_
            refine g_bipush (v := 10) C dX10_reads_113 (by decide) ?_
            refine g_ialdv (v := nI acc.length) 10 C dX10_reads_115 ly_105 (by decide) (by decide) rfl (by decide) (by rw [mr_off (by decide)]; exact hls.1) ?_
            refine g_bipush (v := 12) C dX10_reads_116 (by decide) ?_
            refine g_icmp_ne 127 C dX10_reads_118 (by decide) (fun c118 => ?_) (fun c118 => ?_)
            · have g118 : acc.length < 12 := by have : ¬ acc.length = 12 := fun q => c118 (by rw [q]; rfl); omega
              refine g_aload_n C dX10_reads_127 rfl ?_
              refine gv0 (ci := 10) (M1 := mm D J) C dX10_reads_128 vwX10_next mwX10_169 ⟨by decide, by decide⟩ rfl ly_103 (Nat.le_of_ble_eq_true rfl) (s_nextM (i := i) hD2 (mat_le hi)) (Nat.le_of_ble_eq_true rfl) rfl ⟨by decide, by decide⟩ (fun z M2 hP => ?_)
              obtain ⟨rfl, hM⟩ := hP
              rw [mat_tn htk] at hM
              obtain ⟨v1, x1, hk1, rfl⟩ := hM
              refine g_aload_n C dX10_reads_131 rfl ?_
              refine g_bipush (v := 120) C dX10_reads_132 (by decide) ?_
              refine g_aload_n C dX10_reads_134 rfl ?_
              refine g_getR (ci := 10) (k := 6) (q := 105) C dX10_reads_135 rfl inGX10 (by decide) fwX10_17 ly_103 (by decide) rfl rfl ?_
              refine g_bipush (v := 10) C dX10_reads_138 (by decide) ?_
              refine g_ialdv (v := nI acc.length) 10 C dX10_reads_140 ly_105 (by decide) (by decide) rfl (by decide) (by rw [mr_off (by decide)]; exact hls.1) ?_
              refine g_iadd C dX10_reads_141 ?_
              rw [show (120 : Int32) + nI acc.length = nI (120 + acc.length) from nI_add 120 _]
              refine g_iload_n C dX10_reads_142 rfl ?_
              refine g_callVT (na := 2) (As := [_, _]) (ci := 10) C dX10_reads_143 vwX10_readLine mwX10_189 ⟨by decide, by decide⟩ rfl ly_103 (Nat.le_of_ble_eq_true rfl) (s_rl5 hD2 (tn_le hi) hk1 (show 120 + acc.length < 132 by omega)) rfl (Nat.le_of_ble_eq_true rfl) rfl ⟨by decide, by decide⟩ _ rfl (fun z M2 hP => ?_) (fun M2 hT => by obtain ⟨er, h3, hT⟩ := hT; exact gt_out C ht rfl rfl ⟨er, hr.symm.trans (pText_er ((pL_5 (n := n) hkd g118).trans h3)), TS_mono hT (fun D h => offR_tr hoff (offR_Q (by omega) h))⟩)
              obtain ⟨rfl, ln, j, D3, h3, hln, hoq, hj, v3, x3, hk3, rfl⟩ := hP
              have hl4 : Ln4 ln := pRes_k h3
              have hoff4 : offR D (up1 D3 105 10 (nI (acc.length + 1))) := offR_tr (offR_tr hoff (offR_Q (by omega) hoq)) offR_10
              have hD4 := offR_rd hoff4 hD
              have hls4 := lnsOK_add hls hlk hl4 hoq hln
              have hpl := (pL_5 (n := n) hkd g118).trans h3
              have h105 : D3 105 10 = nI acc.length := (hoq 105 10 (by omega) (by omega)).trans hls.1
              refine g_aload_n C dX10_reads_146 rfl ?_
              refine g_getR (ci := 10) (k := 6) (q := 105) C dX10_reads_147 rfl inGX10 (by decide) fwX10_17 ly_103 (by decide) rfl rfl ?_
              refine g_bipush (v := 10) C dX10_reads_150 (by decide) ?_
              refine g_dup2 C dX10_reads_152 rfl rfl ?_
              refine g_ialdv (v := nI acc.length) 10 C dX10_reads_153 ly_105 (by decide) (by decide) rfl (by decide) (by rw [mr_off (by decide)]; exact h105) ?_
              refine g_iconst (v := 1) C dX10_reads_154 (by decide) ?_
              refine g_iadd C dX10_reads_155 ?_
              rw [nI_1]
              refine g_iast 10 C dX10_reads_156 ly_105 (by decide) (by decide) rfl (by decide) ?_
              rw [mr_up (by decide)]
              refine g_aload_n C dX10_reads_157 rfl ?_
              refine g_bipush (v := 59) C dX10_reads_158 (by decide) ?_
              refine gv1I (ci := 10) C dX10_reads_160 vwX10_is mwX10_193 ⟨by decide, by decide⟩ rfl ly_103 (Nat.le_of_ble_eq_true rfl) (s_is59 (i := j) hD4 hj hk3) (Nat.le_of_ble_eq_true rfl) rfl ⟨by decide, by decide⟩ ?_
              refine g_istore_1 C dX10_reads_163 (by decide) ?_
              refine g_iload_n C dX10_reads_164 rfl ?_
              refine g_if_eq 172 C dX10_reads_165 (by decide) (fun c165 => ?_) (fun c165 => ?_)
              · have g165 : ¬ tk t e j = 4 := if01.mp c165
                refine g_goto 14 C dX10_reads_172 (by decide) ?_
                first
                  | (rw [if_pos g165]; exact ih (acc ++ [ln]) (tn t e j) (up1 D3 105 10 (nI (acc.length + 1))) v2 x2 (by rw [List.length_append]; show acc.length + 1 + g = 13; omega) (by rw [List.length_append]; show acc.length + 1 ≤ 12; omega) hls4 (lnsK_add hlk hl4) hoff4 (tn_le hj) hk2 (by rw [← pText_on hpl g165]; exact hr) _)
                  | (rw [if_neg g165]; exact fin (acc ++ [ln]) j (up1 D3 105 10 (nI (acc.length + 1))) v3 x3 (by rw [List.length_append]; show acc.length + 1 ≤ 12; omega) hls4 (lnsK_add hlk hl4) hoff4 hj hk3 (fun z => hr.symm.trans (pText_end hpl z)) (fun z => hr.symm.trans (pText_bad hpl z g165)) _)
              · have g165 : tk t e j = 4 := Classical.byContradiction (fun q => c165 (if01.mpr q))
                refine g_aload_n C dX10_reads_168 rfl ?_
                refine gv0 (ci := 10) (M1 := mm D J) C dX10_reads_169 vwX10_next mwX10_169 ⟨by decide, by decide⟩ rfl ly_103 (Nat.le_of_ble_eq_true rfl) (s_nextM (i := j) hD4 (mat_le hj)) (Nat.le_of_ble_eq_true rfl) rfl ⟨by decide, by decide⟩ (fun z M2 hP => ?_)
                obtain ⟨rfl, hM⟩ := hP
                rw [mat_tn (by rw [g165]; decide)] at hM
                obtain ⟨v2, x2, hk2, rfl⟩ := hM
                refine g_goto 14 C dX10_reads_172 (by decide) ?_
                first
                  | (rw [if_pos g165]; exact ih (acc ++ [ln]) (tn t e j) (up1 D3 105 10 (nI (acc.length + 1))) v2 x2 (by rw [List.length_append]; show acc.length + 1 + g = 13; omega) (by rw [List.length_append]; show acc.length + 1 ≤ 12; omega) hls4 (lnsK_add hlk hl4) hoff4 (tn_le hj) hk2 (by rw [← pText_on hpl g165]; exact hr) _)
                  | (rw [if_neg g165]; exact fin (acc ++ [ln]) j (up1 D3 105 10 (nI (acc.length + 1))) v3 x3 (by rw [List.length_append]; show acc.length + 1 ≤ 12; omega) hls4 (lnsK_add hlk hl4) hoff4 hj hk3 (fun z => hr.symm.trans (pText_end hpl z)) (fun z => hr.symm.trans (pText_bad hpl z g165)) _)
            · have g118 : acc.length = 12 := (nI_eq (b := 12) (by omega) (by decide)).mp c118
              refine g_aload_n C dX10_reads_121 rfl ?_
              refine g_iconst (v := 4) C dX10_reads_122 (by decide) ?_
              refine gv1 (ci := 10) (M1 := mm D J) C dX10_reads_123 vwX10_stop mwX10_166 ⟨by decide, by decide⟩ rfl ly_103 (Nat.le_of_ble_eq_true rfl) (s_stop) (Nat.le_of_ble_eq_true rfl) rfl ⟨by decide, by decide⟩ (fun z M2 hP => ?_)
              obtain ⟨rfl, rfl⟩ := hP
              exact g_athrow C dX10_reads_126 ht rfl rfl ⟨_, hr.symm.trans (pText_er (pL_c (by rw [hkd]; decide) (by omega))), D2, v, x, i, hoff, rfl⟩
          · first | exact absurd c100 (by decide) | exact absurd (by decide) c100 | exact absurd rfl c100
      refine g_iload_n C dX10_reads_14 rfl ?_
      refine g_if_eq 175 C dX10_reads_15 (by decide) (fun c15 => ?_) (fun c15 => ?_)
      · first | exact absurd c15 (by decide) | exact absurd (by decide) c15 | exact absurd rfl c15
      · refine g_aload_n C dX10_reads_18 rfl ?_
        refine g_ldcS (i := 0) (tx := "get") C dX10_reads_19 (by decide +kernel) ?_
        refine gv1I (ci := 10) C dX10_reads_21 vwX10_isWord mwX10_162 ⟨by decide, by decide⟩ rfl ly_103 (Nat.le_of_ble_eq_true rfl) (s_misWord hD2 hi hk (w := 0) (by decide)) (Nat.le_of_ble_eq_true rfl) rfl ⟨by decide, by decide⟩ ?_
        refine g_if_eq 31 C dX10_reads_24 (by decide) (fun c24 => ?_) (fun c24 => ?_)
        · skip
          refine g_aload_n C dX10_reads_31 rfl ?_
          refine g_ldcS (i := 1) (tx := "let") C dX10_reads_32 (by decide +kernel) ?_
          refine gv1I (ci := 10) C dX10_reads_34 vwX10_isWord mwX10_162 ⟨by decide, by decide⟩ rfl ly_103 (Nat.le_of_ble_eq_true rfl) (s_misWord hD2 hi hk (w := 1) (by decide)) (Nat.le_of_ble_eq_true rfl) rfl ⟨by decide, by decide⟩ ?_
          refine g_if_eq 44 C dX10_reads_37 (by decide) (fun c37 => ?_) (fun c37 => ?_)
          · skip
            refine g_aload_n C dX10_reads_44 rfl ?_
            refine g_ldcS (i := 2) (tx := "ask") C dX10_reads_45 (by decide +kernel) ?_
            refine gv1I (ci := 10) C dX10_reads_47 vwX10_isWord mwX10_162 ⟨by decide, by decide⟩ rfl ly_103 (Nat.le_of_ble_eq_true rfl) (s_misWord hD2 hi hk (w := 2) (by decide)) (Nat.le_of_ble_eq_true rfl) rfl ⟨by decide, by decide⟩ ?_
            refine g_if_eq 57 C dX10_reads_50 (by decide) (fun c50 => ?_) (fun c50 => ?_)
            · skip
              refine g_aload_n C dX10_reads_57 rfl ?_
              refine g_ldcS (i := 3) (tx := "put") C dX10_reads_58 (by decide +kernel) ?_
              refine gv1I (ci := 10) C dX10_reads_60 vwX10_isWord mwX10_162 ⟨by decide, by decide⟩ rfl ly_103 (Nat.le_of_ble_eq_true rfl) (s_misWord hD2 hi hk (w := 3) (by decide)) (Nat.le_of_ble_eq_true rfl) rfl ⟨by decide, by decide⟩ ?_
              refine g_if_eq 70 C dX10_reads_63 (by decide) (fun c63 => ?_) (fun c63 => ?_)
              · skip
                refine g_aload_n C dX10_reads_70 rfl ?_
                refine g_ldcS (i := 4) (tx := "wash") C dX10_reads_71 (by decide +kernel) ?_
                refine gv1I (ci := 10) C dX10_reads_73 vwX10_isWord mwX10_162 ⟨by decide, by decide⟩ rfl ly_103 (Nat.le_of_ble_eq_true rfl) (s_misWord hD2 hi hk (w := 4) (by decide)) (Nat.le_of_ble_eq_true rfl) rfl ⟨by decide, by decide⟩ ?_
                refine g_if_eq 83 C dX10_reads_76 (by decide) (fun c76 => ?_) (fun c76 => ?_)
                · skip
                  refine g_aload_n C dX10_reads_83 rfl ?_
                  refine g_ldcS (i := 5) (tx := "result") C dX10_reads_84 (by decide +kernel) ?_
                  refine gv1I (ci := 10) C dX10_reads_86 vwX10_isWord mwX10_162 ⟨by decide, by decide⟩ rfl ly_103 (Nat.le_of_ble_eq_true rfl) (s_misWord hD2 hi hk (w := 5) (by decide)) (Nat.le_of_ble_eq_true rfl) rfl ⟨by decide, by decide⟩ ?_
                  refine g_if_eq 96 C dX10_reads_89 (by decide) (fun c89 => ?_) (fun c89 => ?_)
                  · skip
                    refine g_iconst (v := (-1)) C dX10_reads_96 (by decide) ?_
                    exact cont _ (by simp [kdH, *])
                  · skip
                    refine g_iconst (v := 5) C dX10_reads_92 (by decide) ?_
                    refine g_goto 97 C dX10_reads_93 (by decide) ?_
                    exact cont _ (by simp [kdH, *])
                · skip
                  refine g_iconst (v := 4) C dX10_reads_79 (by decide) ?_
                  refine g_goto 97 C dX10_reads_80 (by decide) ?_
                  exact cont _ (by simp [kdH, *])
              · skip
                refine g_iconst (v := 3) C dX10_reads_66 (by decide) ?_
                refine g_goto 97 C dX10_reads_67 (by decide) ?_
                exact cont _ (by simp [kdH, *])
            · skip
              refine g_iconst (v := 2) C dX10_reads_53 (by decide) ?_
              refine g_goto 97 C dX10_reads_54 (by decide) ?_
              exact cont _ (by simp [kdH, *])
          · skip
            refine g_iconst (v := 1) C dX10_reads_40 (by decide) ?_
            refine g_goto 97 C dX10_reads_41 (by decide) ?_
            exact cont _ (by simp [kdH, *])
        · skip
          refine g_iconst (v := 0) C dX10_reads_27 (by decide) ?_
          refine g_goto 97 C dX10_reads_28 (by decide) ?_
          exact cont _ (by simp [kdH, *])
  refine g_aload_n C dX10_reads_0 rfl ?_
  refine g_getR (ci := 10) (k := 6) (q := 105) C dX10_reads_1 rfl inGX10 (by decide) fwX10_17 ly_103 (by decide) rfl rfl ?_
  refine g_bipush (v := 10) C dX10_reads_4 (by decide) ?_
  refine g_iconst (v := 0) C dX10_reads_6 (by decide) ?_
  refine g_iast 10 C dX10_reads_7 ly_105 (by decide) (by decide) rfl (by decide) ?_
  refine g_aload_n C dX10_reads_8 rfl ?_
  refine gv0 (ci := 10) (M1 := mm D J) C dX10_reads_9 vwX10_next mwX10_169 ⟨by decide, by decide⟩ rfl ly_103 (Nat.le_of_ble_eq_true rfl) (s_next0 (rd_up hD (by decide) (by decide)) (Nat.zero_le _) (by rw [up1_off (by decide)]; exact h17)) (Nat.le_of_ble_eq_true rfl) rfl ⟨by decide, by decide⟩ (fun z M2 hP => ?_)
  obtain ⟨rfl, v, x, hk, rfl⟩ := hP
  refine g_iconst (v := 1) C dX10_reads_12 (by decide) ?_
  refine g_istore_1 C dX10_reads_13 (by decide) ?_
  exact lp 13 [] 0 (up1 D 105 10 0) v x rfl (by decide) ⟨up1_same _ _ _ _, fun k hk => absurd hk (Nat.not_lt_zero _)⟩ (fun k hk => absurd hk (Nat.not_lt_zero _)) offR_10 (Nat.zero_le _) hk rfl _
