/-! ## the parser, as a function -/
abbrev Er : Type := Nat × Nat
/-- kind, number, first name, second, what a let is from -/
abbrev Ln : Type := Nat × Nat × Nat × Int32 × List Nat
def mskL (fr : List Nat) : Int32 := fr.foldl (fun a n => a ||| ((1 : Int32) <<< (nI n &&& 31))) 0
def pName (t : Nat → Nat) (e i : Nat) : Except Er (Nat × Nat) := if nmC t e i = 0 then .ok (t (tf t e i) - 97, tn t e i) else .error (nmC t e i, tf t e i)
noncomputable def pWord (t : Nat → Nat) (e i w : Nat) : Except Er Nat := if wB t e i w = 0 then .error (1, tf t e i) else .ok (tn t e i)
def pWhole (t : Nat → Nat) (e i b : Nat) : Except Er (Nat × Nat) := if tk t e i = 2 then (if wv t e i < b then .ok (wv t e i, tn t e i) else .error (3, tf t e i)) else .error (1, tf t e i)
def pFrom (t : Nat → Nat) (e : Nat) : Nat → List Nat → Nat → Except Er (List Nat × Nat)
  | 0, _, i => if nmC t e i = 0 then .error (4, tf t e i) else .error (nmC t e i, tf t e i)
  | f + 1, acc, i => match pName t e i with
    | .error er => .error er
    | .ok (n, j) => if tk t e j = 3 then pFrom t e f (acc ++ [n]) (tn t e j) else .ok (acc ++ [n], j)
noncomputable def pLet (t : Nat → Nat) (e i : Nat) : Except Er (Ln × Nat) := match pName t e i with
  | .error er => .error er
  | .ok (f, j1) => match pWord t e j1 7 with
    | .error er => .error er
    | .ok j2 => match pFrom t e 4 [] j2 with
      | .error er => .error er
      | .ok (fr, j3) => .ok ((1, fr.length, f, nI (fr.headD 0), fr), j3)
noncomputable def pAsk (t : Nat → Nat) (e n i : Nat) : Except Er (Ln × Nat) := match pWhole t e i n with
  | .error er => .error er
  | .ok (p, j1) => match pWord t e j1 8 with
    | .error er => .error er
    | .ok j2 => match pName t e j2 with
      | .error er => .error er
      | .ok (a, j3) => match pWord t e j3 6 with
        | .error er => .error er
        | .ok j4 => match pName t e j4 with
          | .error er => .error er
          | .ok (b, j5) => .ok ((2, p, a, nI b, []), j5)
noncomputable def pGet (t : Nat → Nat) (e i : Nat) : Except Er (Ln × Nat) := match pWhole t e i 16 with
  | .error er => .error er
  | .ok (r, j1) => match pWord t e j1 6 with
    | .error er => .error er
    | .ok j2 => match pName t e j2 with
      | .error er => .error er
      | .ok (a, j3) => .ok ((0, r, a, -1, []), j3)
noncomputable def pOut (t : Nat → Nat) (e k w i : Nat) : Except Er (Ln × Nat) := match pName t e i with
  | .error er => .error er
  | .ok (a, j1) => match pWord t e j1 w with
    | .error er => .error er
    | .ok j2 => match pWhole t e j2 16 with
      | .error er => .error er
      | .ok (r, j3) => .ok ((k, r, a, -1, []), j3)
def pRes (t : Nat → Nat) (e i : Nat) : Except Er (Ln × Nat) := match pName t e i with
  | .error er => .error er
  | .ok (a, j1) => .ok ((5, 0, a, -1, []), j1)
noncomputable def pLine (t : Nat → Nat) (e n c i : Nat) : Except Er (Ln × Nat) :=
  if kdH t e i = -1 then .error (1, tf t e i) else if 12 ≤ c then .error (4, tf t e i)
  else if kdH t e i = 0 then pGet t e (tn t e i) else if kdH t e i = 1 then pLet t e (tn t e i) else if kdH t e i = 2 then pAsk t e n (tn t e i)
  else if kdH t e i = 3 then pOut t e 3 9 (tn t e i) else if kdH t e i = 4 then pOut t e 4 10 (tn t e i) else pRes t e (tn t e i)
noncomputable def pText (t : Nat → Nat) (e n : Nat) : Nat → List Ln → Nat → Except Er (List Ln)
  | 0, _, i => .error (4, tf t e i)
  | f + 1, acc, i => match pLine t e n acc.length i with
    | .error er => .error er
    | .ok (ln, j) => if tk t e j = 0 then .ok (acc ++ [ln]) else if tk t e j = 4 then pText t e n f (acc ++ [ln]) (tn t e j) else .error (1, tf t e j)
theorem pName_ok {t : Nat → Nat} {e i a j : Nat} (h : pName t e i = .ok (a, j)) : nmC t e i = 0 ∧ a = t (tf t e i) - 97 ∧ j = tn t e i ∧ a < 8 := by
  unfold pName at h
  by_cases h0 : nmC t e i = 0
  · rw [if_pos h0] at h
    cases h
    obtain ⟨h1, h2, h3, h4, h5⟩ := nm_ok h0
    exact ⟨h0, rfl, rfl, by omega⟩
  · rw [if_neg h0] at h; cases h
theorem pName_er {t : Nat → Nat} {e i : Nat} {er : Er} (h : pName t e i = .error er) : ¬ nmC t e i = 0 ∧ er = (nmC t e i, tf t e i) := by
  unfold pName at h
  by_cases h0 : nmC t e i = 0
  · rw [if_pos h0] at h; cases h
  · rw [if_neg h0] at h; cases h; exact ⟨h0, rfl⟩
theorem pWord_ok {t : Nat → Nat} {e i w j : Nat} (h : pWord t e i w = .ok j) : isW t e i w ∧ j = tn t e i := by
  unfold pWord at h
  by_cases h0 : wB t e i w = 0
  · rw [if_pos h0] at h; cases h
  · rw [if_neg h0] at h; cases h; exact ⟨wB_nz h0, rfl⟩
theorem pWord_er {t : Nat → Nat} {e i w : Nat} {er : Er} (h : pWord t e i w = .error er) : ¬ isW t e i w ∧ er = (1, tf t e i) := by
  unfold pWord at h
  by_cases h0 : wB t e i w = 0
  · rw [if_pos h0] at h; cases h; exact ⟨wB_z h0, rfl⟩
  · rw [if_neg h0] at h; cases h
theorem pWhole_ok {t : Nat → Nat} {e i b a j : Nat} (h : pWhole t e i b = .ok (a, j)) : tk t e i = 2 ∧ wv t e i < b ∧ a = wv t e i ∧ j = tn t e i := by
  unfold pWhole at h
  by_cases h0 : tk t e i = 2
  · rw [if_pos h0] at h
    by_cases h1 : wv t e i < b
    · rw [if_pos h1] at h; cases h; exact ⟨h0, h1, rfl, rfl⟩
    · rw [if_neg h1] at h; cases h
  · rw [if_neg h0] at h; cases h
theorem pWhole_er {t : Nat → Nat} {e i b : Nat} {er : Er} (h : pWhole t e i b = .error er) : (¬ tk t e i = 2 ∧ er = (1, tf t e i)) ∨ (tk t e i = 2 ∧ b ≤ wv t e i ∧ er = (3, tf t e i)) := by
  unfold pWhole at h
  by_cases h0 : tk t e i = 2
  · rw [if_pos h0] at h
    by_cases h1 : wv t e i < b
    · rw [if_pos h1] at h; cases h
    · rw [if_neg h1] at h; cases h; exact Or.inr ⟨h0, by omega, rfl⟩
  · rw [if_neg h0] at h; cases h; exact Or.inl ⟨h0, rfl⟩
theorem tn_le {t : Nat → Nat} {e i : Nat} (h : i ≤ e) : tn t e i ≤ e := (tn_in h).2
section TK
variable {l : Launch} {G : Gm} {D : Nat → Nat → Int32} {J : Nat → Nat → Int64} {t : Nat → Nat} {e : Nat} {wr pl num nm : Int32} {i : Nat}
theorem s_tnO (hB : byOK D t) (he : D 66 4 = nI e) (he3 : e ≤ 300) (hi : i ≤ e) {a j : Nat} (h : pName t e i = .ok (a, j)) : Sp l G iX3_takeName [.ref (G.1 + 66)] (mm (rdS D t e wr pl num nm i) J) (RetI 1 (mm (rdS D t e wr pl num (nI a) j) J)) noT := by
  obtain ⟨h0, rfl, rfl, -⟩ := pName_ok h
  have := s_takeName (l := l) (G := G) (J := J) (wr := wr) (pl := pl) (num := num) (nm := nm) hB he he3 hi
  rw [if_pos h0, if_pos h0] at this
  exact this
theorem s_tnE (hB : byOK D t) (he : D 66 4 = nI e) (he3 : e ≤ 300) (hi : i ≤ e) {er : Er} (h : pName t e i = .error er) : Sp l G iX3_takeName [.ref (G.1 + 66)] (mm (rdS D t e wr pl num nm i) J) (RetI 0 (mm (rdS D t e (nI er.1) (nI er.2) num nm i) J)) noT := by
  obtain ⟨h0, rfl⟩ := pName_er h
  have := s_takeName (l := l) (G := G) (J := J) (wr := wr) (pl := pl) (num := num) (nm := nm) hB he he3 hi
  rw [if_neg h0, if_neg h0] at this
  exact this
theorem s_twO (hB : byOK D t) (he : D 66 4 = nI e) (he3 : e ≤ 300) (hi : i ≤ e) {w j : Nat} (hw : w < 11) (h : pWord t e i w = .ok j) : Sp l G iX3_takeWord [.ref (G.1 + 66), .ref (G.2.2.2.1 w)] (mm (rdS D t e wr pl num nm i) J) (RetI 1 (mm (rdS D t e wr pl num nm j) J)) noT := by
  obtain ⟨h0, rfl⟩ := pWord_ok h
  exact s_takeWord1 hB he he3 hi hw h0
theorem s_twE (hB : byOK D t) (he : D 66 4 = nI e) (he3 : e ≤ 300) (hi : i ≤ e) {w : Nat} {er : Er} (hw : w < 11) (h : pWord t e i w = .error er) : Sp l G iX3_takeWord [.ref (G.1 + 66), .ref (G.2.2.2.1 w)] (mm (rdS D t e wr pl num nm i) J) (RetI 0 (mm (rdS D t e (nI er.1) (nI er.2) num nm i) J)) noT := by
  obtain ⟨h0, rfl⟩ := pWord_er h
  exact s_takeWord0 hB he he3 hi hw h0
theorem s_thO (hB : byOK D t) (he : D 66 4 = nI e) (he3 : e ≤ 300) (hi : i ≤ e) {b a j : Nat} (hb : b < 2 ^ 31) (h : pWhole t e i b = .ok (a, j)) : Sp l G iX3_takeWhole [.ref (G.1 + 66), .int (nI b)] (mm (rdS D t e wr pl num nm i) J) (RetI 1 (mm (rdS D t e wr pl (nI a) nm j) J)) noT := by
  obtain ⟨h0, h1, rfl, rfl⟩ := pWhole_ok h
  exact s_takeWhole hB he he3 hi hb h0 h1
theorem s_thE (hB : byOK D t) (he : D 66 4 = nI e) (he3 : e ≤ 300) (hi : i ≤ e) {b : Nat} {er : Er} (hb : b < 2 ^ 31) (h : pWhole t e i b = .error er) : ∃ num' : Int32, Sp l G iX3_takeWhole [.ref (G.1 + 66), .int (nI b)] (mm (rdS D t e wr pl num nm i) J) (RetI 0 (mm (rdS D t e (nI er.1) (nI er.2) num' nm i) J)) noT := by
  rcases pWhole_er h with ⟨h0, rfl⟩ | ⟨h0, h1, rfl⟩
  · exact ⟨num, s_takeWhole1 hB he he3 hi h0⟩
  · exact ⟨_, s_takeWhole3 hB he he3 hi hb h0 h1⟩
end TK
theorem adL_rd {D : Nat → Nat → Int32} {t : Nat → Nat} {e : Nat} {wr pl num nm : Int32} {i c : Nat} {x1 x2 x3 x4 x5 : Int32} : adL (rdS D t e wr pl num nm i) c x1 x2 x3 x4 x5 = rdS (adL D c x1 x2 x3 x4 x5) t e wr pl num nm i := by
  funext a b
  unfold adL up1 rdS
  by_cases h : a = 66
  · subst h; simp
  · simp [h]
def adLn (D : Nat → Nat → Int32) (c : Nat) (ln : Ln) : Nat → Nat → Int32 := adL D c (nI ln.1) (nI ln.2.1) (nI ln.2.2.1) ln.2.2.2.1 (mskL ln.2.2.2.2)
/-- what reading a line comes to -/
def RdR (D : Nat → Nat → Int32) (J : Nat → Nat → Int64) (t : Nat → Nat) (e : Nat) (wr pl : Int32) (c : Nat) (r : Except Er (Ln × Nat)) : Option Value → Mm → Prop := fun v M' => match r with
  | .ok (ln, j) => v = some (.int 1) ∧ j ≤ e ∧ ∃ num nm, M' = mm (rdS (adLn D c ln) t e wr pl num nm j) J
  | .error er => v = some (.int 0) ∧ ∃ num nm i', M' = mm (rdS D t e (nI er.1) (nI er.2) num nm i') J
theorem Rd_er {D : Nat → Nat → Int32} {J : Nat → Nat → Int64} {t : Nat → Nat} {e : Nat} {wr pl num nm : Int32} {c i' : Nat} {r : Except Er (Ln × Nat)} {er : Er} (h : r = .error er) : RdR D J t e wr pl c r (some (.int 0)) (mm (rdS D t e (nI er.1) (nI er.2) num nm i') J) := by
  subst h; exact ⟨rfl, _, _, _, rfl⟩
theorem Rd_ok {D : Nat → Nat → Int32} {J : Nat → Nat → Int64} {t : Nat → Nat} {e : Nat} {wr pl num nm : Int32} {c j : Nat} {r : Except Er (Ln × Nat)} {ln : Ln} (h : r = .ok (ln, j)) (hj : j ≤ e) : RdR D J t e wr pl c r (some (.int 1)) (mm (rdS (adLn D c ln) t e wr pl num nm j) J) := by
  subst h; exact ⟨rfl, hj, _, _, rfl⟩
set_option maxHeartbeats 1000000 in
theorem s_keepL {l : Launch} {G : Gm} {D : Nat → Nat → Int32} {J : Nat → Nat → Int64} {t : Nat → Nat} {e : Nat} (hB : byOK D t) (he : D 66 4 = nI e) (he3 : e ≤ 300) {wr pl num nm : Int32} {i : Nat} (hi : i ≤ e) {c : Nat} (hc : D 67 5 = nI c) (hc12 : c < 12) (x : Int32) : Sp l G iX3_keep [.ref (G.1 + 66), .int x] (mm (rdS D t e wr pl num nm i) J) (RetI 1 (mm (rdS (adL D c x num nm (-1) 0) t e wr pl num nm i) J)) noT := by
  refine Sp.of (by decide +kernel) (Nat.le_of_ble_eq_true rfl) ?_
  intro X hXl C
  subst hXl
  show Go X G 2 0 0 _ 0 [.ref (G.1 + 66), .int x] [] (mm (rdS D t e wr pl num nm i) J)
  refine g_aload_n C dX3_keep_0 rfl ?_
  refine g_getR (ci := 3) (k := 0) (q := 67) C dX3_keep_1 rfl inGX3 (by decide) fwX3_12 ly_66 (by decide) rfl rfl ?_
  refine g_iload_n C dX3_keep_4 rfl ?_
  refine g_aload_n C dX3_keep_5 rfl ?_
  refine g_getIv (ci := 3) (k := 9) (v := num) C dX3_keep_6 rfl inGX3 (by decide) fwX3_84 ly_66 (by decide) rfl rd_g9 ?_
  refine g_aload_n C dX3_keep_9 rfl ?_
  refine g_getIv (ci := 3) (k := 10) (v := nm) C dX3_keep_10 rfl inGX3 (by decide) fwX3_87 ly_66 (by decide) rfl rd_g10 ?_
  refine g_iconst (v := (-1)) C dX3_keep_13 (by decide) ?_
  refine g_iconst (v := 0) C dX3_keep_14 (by decide) ?_
  refine gv5I (ci := 5) C dX3_keep_15 vwX5_add mwX3_90 ⟨by decide, by decide⟩ rfl ly_67 (Nat.le_of_ble_eq_true rfl) (s_sheetAdd (c := c) (by rw [rd_off (by decide)]; exact hc) hc12 _ _ _ _ _) (Nat.le_of_ble_eq_true rfl) rfl ⟨by decide, by decide⟩ ?_
  exact e_Z C dX3_keep_18 rfl rfl rfl (Or.inr rfl) rfl (by rw [adL_rd])
set_option maxHeartbeats 1000000 in
theorem s_readAsk {l : Launch} {G : Gm} {D : Nat → Nat → Int32} {J : Nat → Nat → Int64} {t : Nat → Nat} {e : Nat} (hB : byOK D t) (he : D 66 4 = nI e) (he3 : e ≤ 300) {wr pl num nm : Int32} {i : Nat} (hi : i ≤ e) {c : Nat} (hc : D 67 5 = nI c) (hc12 : c < 12) {n : Nat} (hn : D 66 5 = nI n) (hnn : n < 2 ^ 31) : Sp l G iX3_readAsk [.ref (G.1 + 66)] (mm (rdS D t e wr pl num nm i) J) (RdR D J t e wr pl c (pAsk t e n i)) noT := by
  refine Sp.of (by decide +kernel) (Nat.le_of_ble_eq_true rfl) ?_
  intro X hXl C
  subst hXl
  show Go X G 2 0 0 _ 0 [.ref (G.1 + 66), uu] [] (mm (rdS D t e wr pl num nm i) J)
  refine g_aload_n C dX3_readAsk_0 rfl ?_
  refine g_aload_n C dX3_readAsk_1 rfl ?_
  refine g_getIv (ci := 3) (k := 5) (v := nI n) C dX3_readAsk_2 rfl inGX3 (by decide) fwX3_35 ly_66 (by decide) rfl (rd_g5.trans hn) ?_
  rcases h1 : pWhole t e i n with er | ⟨p, j1⟩
  · skip
    obtain ⟨num2, hsp⟩ := s_thE (l := X.l) (G := G) (J := J) (wr := wr) (pl := pl) (num := num) (nm := nm) hB he he3 hi (b := n) hnn h1
    refine gv1I (ci := 3) C dX3_readAsk_5 vwX3_takeWhole mwX3_59 ⟨by decide, by decide⟩ rfl ly_66 (Nat.le_of_ble_eq_true rfl) (hsp) (Nat.le_of_ble_eq_true rfl) rfl ⟨by decide, by decide⟩ ?_
    refine g_if_eq 27 C dX3_readAsk_8 (by decide) (fun c8 => ?_) (fun c8 => ?_)
    · refine g_iconst (v := 0) C dX3_readAsk_27 (by decide) ?_
      exact g_zret C dX3_readAsk_28 rfl rfl rfl (by decide) (Rd_er (by simp only [pAsk, *]))
    · first | exact absurd c8 (by decide) | exact absurd (by decide) c8 | exact absurd rfl c8
  · skip
    have hj1 : j1 ≤ e := by rw [(pWhole_ok h1).2.2.2]; exact tn_le hi
    refine gv1I (ci := 3) C dX3_readAsk_5 vwX3_takeWhole mwX3_59 ⟨by decide, by decide⟩ rfl ly_66 (Nat.le_of_ble_eq_true rfl) (s_thO hB he he3 hi hnn h1) (Nat.le_of_ble_eq_true rfl) rfl ⟨by decide, by decide⟩ ?_
    refine g_if_eq 27 C dX3_readAsk_8 (by decide) (fun c8 => ?_) (fun c8 => ?_)
    · first | exact absurd c8 (by decide) | exact absurd (by decide) c8 | exact absurd rfl c8
    · refine g_aload_n C dX3_readAsk_11 rfl ?_
      refine g_ldcS (i := 8) (tx := "with") C dX3_readAsk_12 (by decide +kernel) ?_
      rcases h2 : pWord t e j1 8 with er | j2
      · skip
        skip
        refine gv1I (ci := 3) C dX3_readAsk_14 vwX3_takeWord mwX3_64 ⟨by decide, by decide⟩ rfl ly_66 (Nat.le_of_ble_eq_true rfl) (s_twE hB he he3 hj1 (by decide) h2) (Nat.le_of_ble_eq_true rfl) rfl ⟨by decide, by decide⟩ ?_
        refine g_if_eq 27 C dX3_readAsk_17 (by decide) (fun c17 => ?_) (fun c17 => ?_)
        · refine g_iconst (v := 0) C dX3_readAsk_27 (by decide) ?_
          exact g_zret C dX3_readAsk_28 rfl rfl rfl (by decide) (Rd_er (by simp only [pAsk, *]))
        · first | exact absurd c17 (by decide) | exact absurd (by decide) c17 | exact absurd rfl c17
      · skip
        have hj2 : j2 ≤ e := by rw [(pWord_ok h2).2]; exact tn_le hj1
        refine gv1I (ci := 3) C dX3_readAsk_14 vwX3_takeWord mwX3_64 ⟨by decide, by decide⟩ rfl ly_66 (Nat.le_of_ble_eq_true rfl) (s_twO hB he he3 hj1 (by decide) h2) (Nat.le_of_ble_eq_true rfl) rfl ⟨by decide, by decide⟩ ?_
        refine g_if_eq 27 C dX3_readAsk_17 (by decide) (fun c17 => ?_) (fun c17 => ?_)
        · first | exact absurd c17 (by decide) | exact absurd (by decide) c17 | exact absurd rfl c17
        · refine g_aload_n C dX3_readAsk_20 rfl ?_
          rcases h3 : pName t e j2 with er | ⟨a, j3⟩
          · skip
            skip
            refine gv0I (ci := 3) C dX3_readAsk_21 vwX3_takeName mwX3_68 ⟨by decide, by decide⟩ rfl ly_66 (Nat.le_of_ble_eq_true rfl) (s_tnE hB he he3 hj2 h3) (Nat.le_of_ble_eq_true rfl) rfl ⟨by decide, by decide⟩ ?_
            refine g_if_ne 29 C dX3_readAsk_24 (by decide) (fun c24 => ?_) (fun c24 => ?_)
            · first | exact absurd c24 (by decide) | exact absurd (by decide) c24 | exact absurd rfl c24
            · refine g_iconst (v := 0) C dX3_readAsk_27 (by decide) ?_
              exact g_zret C dX3_readAsk_28 rfl rfl rfl (by decide) (Rd_er (by simp only [pAsk, *]))
          · skip
            have hj3 : j3 ≤ e := by rw [(pName_ok h3).2.2.1]; exact tn_le hj2
            refine gv0I (ci := 3) C dX3_readAsk_21 vwX3_takeName mwX3_68 ⟨by decide, by decide⟩ rfl ly_66 (Nat.le_of_ble_eq_true rfl) (s_tnO hB he he3 hj2 h3) (Nat.le_of_ble_eq_true rfl) rfl ⟨by decide, by decide⟩ ?_
            refine g_if_ne 29 C dX3_readAsk_24 (by decide) (fun c24 => ?_) (fun c24 => ?_)
            · refine g_aload_n C dX3_readAsk_29 rfl ?_
              refine g_getIv (ci := 3) (k := 10) (v := nI a) C dX3_readAsk_30 rfl inGX3 (by decide) fwX3_87 ly_66 (by decide) rfl rd_g10 ?_
              refine g_istore_1 C dX3_readAsk_33 (by decide) ?_
              refine g_aload_n C dX3_readAsk_34 rfl ?_
              refine g_ldcS (i := 6) (tx := "to") C dX3_readAsk_35 (by decide +kernel) ?_
              rcases h4 : pWord t e j3 6 with er | j4
              · skip
                skip
                refine gv1I (ci := 3) C dX3_readAsk_37 vwX3_takeWord mwX3_64 ⟨by decide, by decide⟩ rfl ly_66 (Nat.le_of_ble_eq_true rfl) (s_twE hB he he3 hj3 (by decide) h4) (Nat.le_of_ble_eq_true rfl) rfl ⟨by decide, by decide⟩ ?_
                refine g_if_eq 75 C dX3_readAsk_40 (by decide) (fun c40 => ?_) (fun c40 => ?_)
                · refine g_iconst (v := 0) C dX3_readAsk_75 (by decide) ?_
                  exact g_zret C dX3_readAsk_76 rfl rfl rfl (by decide) (Rd_er (by simp only [pAsk, *]))
                · first | exact absurd c40 (by decide) | exact absurd (by decide) c40 | exact absurd rfl c40
              · skip
                have hj4 : j4 ≤ e := by rw [(pWord_ok h4).2]; exact tn_le hj3
                refine gv1I (ci := 3) C dX3_readAsk_37 vwX3_takeWord mwX3_64 ⟨by decide, by decide⟩ rfl ly_66 (Nat.le_of_ble_eq_true rfl) (s_twO hB he he3 hj3 (by decide) h4) (Nat.le_of_ble_eq_true rfl) rfl ⟨by decide, by decide⟩ ?_
                refine g_if_eq 75 C dX3_readAsk_40 (by decide) (fun c40 => ?_) (fun c40 => ?_)
                · first | exact absurd c40 (by decide) | exact absurd (by decide) c40 | exact absurd rfl c40
                · refine g_aload_n C dX3_readAsk_43 rfl ?_
                  rcases h5 : pName t e j4 with er | ⟨b, j5⟩
                  · skip
                    skip
                    refine gv0I (ci := 3) C dX3_readAsk_44 vwX3_takeName mwX3_68 ⟨by decide, by decide⟩ rfl ly_66 (Nat.le_of_ble_eq_true rfl) (s_tnE hB he he3 hj4 h5) (Nat.le_of_ble_eq_true rfl) rfl ⟨by decide, by decide⟩ ?_
                    refine g_if_eq 75 C dX3_readAsk_47 (by decide) (fun c47 => ?_) (fun c47 => ?_)
                    · refine g_iconst (v := 0) C dX3_readAsk_75 (by decide) ?_
                      exact g_zret C dX3_readAsk_76 rfl rfl rfl (by decide) (Rd_er (by simp only [pAsk, *]))
                    · first | exact absurd c47 (by decide) | exact absurd (by decide) c47 | exact absurd rfl c47
                  · skip
                    have hj5 : j5 ≤ e := by rw [(pName_ok h5).2.2.1]; exact tn_le hj4
                    refine gv0I (ci := 3) C dX3_readAsk_44 vwX3_takeName mwX3_68 ⟨by decide, by decide⟩ rfl ly_66 (Nat.le_of_ble_eq_true rfl) (s_tnO hB he he3 hj4 h5) (Nat.le_of_ble_eq_true rfl) rfl ⟨by decide, by decide⟩ ?_
                    refine g_if_eq 75 C dX3_readAsk_47 (by decide) (fun c47 => ?_) (fun c47 => ?_)
                    · first | exact absurd c47 (by decide) | exact absurd (by decide) c47 | exact absurd rfl c47
                    · refine g_aload_n C dX3_readAsk_50 rfl ?_
                      refine g_getR (ci := 3) (k := 0) (q := 67) C dX3_readAsk_51 rfl inGX3 (by decide) fwX3_12 ly_66 (by decide) rfl rfl ?_
                      refine g_iconst (v := 2) C dX3_readAsk_54 (by decide) ?_
                      refine g_aload_n C dX3_readAsk_55 rfl ?_
                      refine g_getIv (ci := 3) (k := 9) (v := nI p) C dX3_readAsk_56 rfl inGX3 (by decide) fwX3_84 ly_66 (by decide) rfl rd_g9 ?_
                      refine g_iload_n C dX3_readAsk_59 rfl ?_
                      refine g_aload_n C dX3_readAsk_60 rfl ?_
                      refine g_getIv (ci := 3) (k := 10) (v := nI b) C dX3_readAsk_61 rfl inGX3 (by decide) fwX3_87 ly_66 (by decide) rfl rd_g10 ?_
                      refine g_iconst (v := 0) C dX3_readAsk_64 (by decide) ?_
                      refine gv5I (ci := 5) C dX3_readAsk_65 vwX5_add mwX3_90 ⟨by decide, by decide⟩ rfl ly_67 (Nat.le_of_ble_eq_true rfl) (s_sheetAdd (c := c) (by rw [rd_off (by decide)]; exact hc) hc12 _ _ _ _ _) (Nat.le_of_ble_eq_true rfl) rfl ⟨by decide, by decide⟩ ?_
                      rw [adL_rd]
                      refine g_if_eq 75 C dX3_readAsk_68 (by decide) (fun c68 => ?_) (fun c68 => ?_)
                      · first | exact absurd c68 (by decide) | exact absurd (by decide) c68 | exact absurd rfl c68
                      · refine g_iconst (v := 1) C dX3_readAsk_71 (by decide) ?_
                        refine g_goto 76 C dX3_readAsk_72 (by decide) ?_
                        rw [show adL D c 2 (nI p) (nI a) (nI b) 0 = adLn D c (2, p, a, nI b, []) from rfl]
                        exact g_zret C dX3_readAsk_76 rfl rfl rfl (by decide) (Rd_ok (by simp only [pAsk, *]) hj5)
            · first | exact absurd c24 (by decide) | exact absurd (by decide) c24 | exact absurd rfl c24
