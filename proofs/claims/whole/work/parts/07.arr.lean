section RA
variable {X : CX} {G : Gm} {Y : MI} {nL cells slots : Nat} {Q : State → Prop} {pc : Nat} {L st : List Value} {I : Nat → Nat → Int32} {J : Nat → Nat → Int64} {r : Nat → Nat → Option Nat} {n : Nat}
theorem Rp.of {H : Heap} (h : va_P G.2.1 kCl (wsM G (I, J, r, 125)) H) : Rp G (I, J, r, 125) H := by
  refine ⟨h, ?_, fun h => absurd h (Nat.lt_irrefl _), Nat.le_refl _⟩
  have h2 := (h 124 _ (wsM_get (M := (I, J, r, 125)) (show 124 < 125 by decide))).lt
  simp only at h2 ⊢
  omega
theorem nI_ix {j m : Nat} (h : j < m) (hm : m < 2 ^ 31) : vp_in (nI j) m ∧ (nI j).toNatClampNeg = j := ⟨vp_in_nI h hm, nI_clamp (by omega)⟩
theorem g_iald {o m : Nat} {i : Int32} (j : Nat) (C : Cx X G Y) (d : decode Y.2.1 pc = .ok (.iaload, 1)) (hl : lay o = (1, m)) (ho : o < n) (hm : m < 2 ^ 31) (hi : i = nI j) (hj : j < m) (kk : Go X G nL cells slots Q (pc + 1) L (.int (I o j) :: st) (I, J, r, n)) : Go X G nL cells slots Q pc L (.int i :: .ref (G.1 + o) :: st) (I, J, r, n) := fun H locs ls h1 h2 h3 => by
  subst hi
  have hx := nI_ix hj hm
  refine va_iald C.1 C.2.1 C.2.2.2.2.2.1.1 h1.1 o 1 (wsM_arr hl ho) rfl hx.1 d ?_
  rw [hx.2]
  exact kk H locs ls h1 h2 h3
theorem wsM_arrb {M : Mm} {o m : Nat} (hl : lay o = (2, m)) (ho : o < M.2.2.2) : (wsM G M)[o]? = some (G.1 + o, .inl (G.2.2.1 2, m, .inl (M.1 o))) := by
  rw [wsM_get ho, hl]; rfl
theorem wsM_arrz {M : Mm} {o m : Nat} (hl : lay o = (3, m)) (ho : o < M.2.2.2) : (wsM G M)[o]? = some (G.1 + o, .inl (G.2.2.1 3, m, .inl (M.1 o))) := by
  rw [wsM_get ho, hl]; rfl
theorem wsM_arrl {M : Mm} {o m : Nat} (hl : lay o = (4, m)) (ho : o < M.2.2.2) : (wsM G M)[o]? = some (G.1 + o, .inl (G.2.2.1 4, m, .inr (.inl (M.2.1 o)))) := by
  rw [wsM_get ho, hl]; rfl
theorem g_bald {o m : Nat} {i : Int32} (j : Nat) (C : Cx X G Y) (d : decode Y.2.1 pc = .ok (.baload, 1)) (hl : lay o = (2, m)) (ho : o < n) (hm : m < 2 ^ 31) (hi : i = nI j) (hj : j < m) (kk : Go X G nL cells slots Q (pc + 1) L (.int (I o j) :: st) (I, J, r, n)) : Go X G nL cells slots Q pc L (.int i :: .ref (G.1 + o) :: st) (I, J, r, n) := fun H locs ls h1 h2 h3 => by
  subst hi
  have hx := nI_ix hj hm
  refine va_bald C.1 C.2.1 C.2.2.2.2.2.1.1 h1.1 o 2 (wsM_arrb hl ho) rfl hx.1 d ?_
  rw [hx.2]
  exact kk H locs ls h1 h2 h3
theorem g_zald {o m : Nat} {i : Int32} (j : Nat) (C : Cx X G Y) (d : decode Y.2.1 pc = .ok (.baload, 1)) (hl : lay o = (3, m)) (ho : o < n) (hm : m < 2 ^ 31) (hi : i = nI j) (hj : j < m) (kk : Go X G nL cells slots Q (pc + 1) L (.int (I o j) :: st) (I, J, r, n)) : Go X G nL cells slots Q pc L (.int i :: .ref (G.1 + o) :: st) (I, J, r, n) := fun H locs ls h1 h2 h3 => by
  subst hi
  have hx := nI_ix hj hm
  refine va_zald C.1 C.2.1 C.2.2.2.2.2.1.1 h1.1 o 3 (wsM_arrz hl ho) rfl hx.1 d ?_
  rw [hx.2]
  exact kk H locs ls h1 h2 h3
theorem g_lald {o m : Nat} {i : Int32} (j : Nat) (C : Cx X G Y) (d : decode Y.2.1 pc = .ok (.laload, 1)) (hl : lay o = (4, m)) (ho : o < n) (hm : m < 2 ^ 31) (hi : i = nI j) (hj : j < m) (kk : Go X G nL cells slots Q (pc + 1) L (.long (J o j) :: st) (I, J, r, n)) : Go X G nL cells slots Q pc L (.int i :: .ref (G.1 + o) :: st) (I, J, r, n) := fun H locs ls h1 h2 h3 => by
  subst hi
  have hx := nI_ix hj hm
  refine va_lald C.1 C.2.1 C.2.2.2.2.2.1.1 h1.1 o 4 (wsM_arrl hl ho) rfl hx.1 d ?_
  rw [hx.2]
  exact kk H locs ls h1 h2 h3
theorem g_alen {o m : Nat} (C : Cx X G Y) (d : decode Y.2.1 pc = .ok (.arraylength, 1)) (hl : lay o = (1, m)) (ho : o < n) (kk : Go X G nL cells slots Q (pc + 1) L (.int (nI m) :: st) (I, J, r, n)) : Go X G nL cells slots Q pc L (.ref (G.1 + o) :: st) (I, J, r, n) := fun H locs ls h1 h2 h3 =>
  va_alen C.1 C.2.1 C.2.2.2.2.2.1.1 h1.1 o 1 (wsM_arr hl ho) rfl rfl d (kk H locs ls h1 h2 h3)
/-- an element of an array of references -/
theorem g_aald {o m q t : Nat} {i : Int32} {ty : FieldType} (j : Nat) (C : Cx X G Y) (d : decode Y.2.1 pc = .ok (.aaload, 1)) (hl : lay o = (t, m)) (htt : (t = 5 ∧ ty = .object "RightsHouse$Sheet") ∨ (t = 6 ∧ ty = .array .int)) (ho : o < n) (hm : m < 2 ^ 31) (hi : i = nI j) (hj : j < m) (hr : r o j = some q) (kk : Go X G nL cells slots Q (pc + 1) L (.ref (G.1 + q) :: st) (I, J, r, n)) : Go X G nL cells slots Q pc L (.int i :: .ref (G.1 + o) :: st) (I, J, r, n) := fun H locs ls h1 h2 h3 => by
  subst hi
  have hx := nI_ix hj hm
  have hsz : (nI j).toNatClampNeg < m := by rw [hx.2]; exact hj
  have hcell : ∃ (cA : ClassId) (f : Nat → Option Nat), f = (fun k => (r o k).map (G.1 + ·)) ∧ (wsM G (I, J, r, n))[o]? = some (G.1 + o, .inl (cA, m, .inr (.inr (.inr (.inr f))))) ∧ (kTys G)[t]? = some (cA, ty) ∧ ty.isReference = true := by
    rcases htt with ⟨rfl, rfl⟩ | ⟨rfl, rfl⟩
    · exact ⟨_, _, rfl, by rw [wsM_get ho, hl]; rfl, rfl, rfl⟩
    · exact ⟨_, _, rfl, by rw [wsM_get ho, hl]; rfl, rfl, rfl⟩
  obtain ⟨cA, f, hf, hw, hty, href⟩ := hcell
  refine W.aald (v := va_rf (f j)) (ty := ty) C.1 C.2.1 (h1.1 o _ hw) ((C.2.2.2.2.2.1.1.2 t _ hty).1 m (fun j => va_rf (f j))) href (fun q => by cases q) (by show ¬ (nI j < 0 ∨ (arrV _ _ _).slots.size ≤ _); rw [arrV_size]; exact hx.1) (by show (arrV _ _ _).slots[_]? = _; rw [arrV_read _ _ hsz, hx.2]) rfl rfl d ?_
  have e9 : f j = some (G.1 + q) := by
    rw [hf]
    show Option.map _ (r o j) = _
    rw [hr]
    rfl
  rw [e9]
  exact kk H locs ls h1 h2 h3
/-! stores: in the finished system alone -/
theorem g_iast {o m : Nat} {i v : Int32} (j : Nat) (C : Cx X G Y) (d : decode Y.2.1 pc = .ok (.iastore, 1)) (hl : lay o = (1, m)) (ho : o < 125) (hm : m < 2 ^ 31) (hi : i = nI j) (hj : j < m) (kk : Go X G nL cells slots Q (pc + 1) L st (up1 I o j v, J, r, 125)) : Go X G nL cells slots Q pc L (.int v :: .int i :: .ref (G.1 + o) :: st) (I, J, r, 125) := fun H locs ls h1 h2 h3 => by
  subst hi
  have hx := nI_ix hj hm
  refine va_iast C.1 C.2.1 C.2.2.2.2.2.1.1 h1.1 (wsM_D G _) h2 o 1 (wsM_arr (M := (I, J, r, 125)) hl ho) rfl hx.1 d (fun H1 locs1 hP _ hS => kk H1 locs1 ls (Rp.of ?_) hS h3)
  rw [← wsM_set (M := (I, J, r, 125)) (M' := (up1 I o j v, J, r, 125)) (o := o) rfl (fun q hq => cEl_eq _ (up1_off hq) rfl rfl), hl]
  rw [hx.2] at hP
  show va_P _ _ ((wsM G (I, J, r, 125)).set o (G.1 + o, .inl (G.2.2.1 1, m, .inl (up1 I o j v o)))) H1
  rw [up1_row]
  exact hP
theorem g_bast {o m : Nat} {i v w : Int32} (j : Nat) (C : Cx X G Y) (d : decode Y.2.1 pc = .ok (.bastore, 1)) (hl : lay o = (2, m)) (ho : o < 125) (hm : m < 2 ^ 31) (hi : i = nI j) (hj : j < m) (hv : vp_nar .byte v = w) (kk : Go X G nL cells slots Q (pc + 1) L st (up1 I o j w, J, r, 125)) : Go X G nL cells slots Q pc L (.int v :: .int i :: .ref (G.1 + o) :: st) (I, J, r, 125) := fun H locs ls h1 h2 h3 => by
  subst hi
  subst hv
  have hx := nI_ix hj hm
  refine va_bast C.1 C.2.1 C.2.2.2.2.2.1.1 h1.1 (wsM_D G _) h2 o 2 (wsM_arrb (M := (I, J, r, 125)) hl ho) rfl hx.1 d (fun H1 locs1 hP _ hS => kk H1 locs1 ls (Rp.of ?_) hS h3)
  rw [← wsM_set (M := (I, J, r, 125)) (M' := (up1 I o j (vp_nar .byte v), J, r, 125)) (o := o) rfl (fun q hq => cEl_eq _ (up1_off hq) rfl rfl), hl]
  rw [hx.2] at hP
  show va_P _ _ ((wsM G (I, J, r, 125)).set o (G.1 + o, .inl (G.2.2.1 2, m, .inl (up1 I o j (vp_nar .byte v) o)))) H1
  rw [up1_row]
  exact hP
theorem g_zast {o m : Nat} {i v w : Int32} (j : Nat) (C : Cx X G Y) (d : decode Y.2.1 pc = .ok (.bastore, 1)) (hl : lay o = (3, m)) (ho : o < 125) (hm : m < 2 ^ 31) (hi : i = nI j) (hj : j < m) (hv : vp_nar .boolean v = w) (kk : Go X G nL cells slots Q (pc + 1) L st (up1 I o j w, J, r, 125)) : Go X G nL cells slots Q pc L (.int v :: .int i :: .ref (G.1 + o) :: st) (I, J, r, 125) := fun H locs ls h1 h2 h3 => by
  subst hi
  subst hv
  have hx := nI_ix hj hm
  refine va_zast C.1 C.2.1 C.2.2.2.2.2.1.1 h1.1 (wsM_D G _) h2 o 3 (wsM_arrz (M := (I, J, r, 125)) hl ho) rfl hx.1 d (fun H1 locs1 hP _ hS => kk H1 locs1 ls (Rp.of ?_) hS h3)
  rw [← wsM_set (M := (I, J, r, 125)) (M' := (up1 I o j (vp_nar .boolean v), J, r, 125)) (o := o) rfl (fun q hq => cEl_eq _ (up1_off hq) rfl rfl), hl]
  rw [hx.2] at hP
  show va_P _ _ ((wsM G (I, J, r, 125)).set o (G.1 + o, .inl (G.2.2.1 3, m, .inl (up1 I o j (vp_nar .boolean v) o)))) H1
  rw [up1_row]
  exact hP
theorem upJ_row (I : Nat → Nat → Int64) (o k : Nat) (x : Int64) : upJ I o k x o = vp_updL (I o) k x := by
  funext j; simp [upJ, vp_updL]
theorem g_last {o m : Nat} {i : Int32} {v : Int64} (j : Nat) (C : Cx X G Y) (d : decode Y.2.1 pc = .ok (.lastore, 1)) (hl : lay o = (4, m)) (ho : o < 125) (hm : m < 2 ^ 31) (hi : i = nI j) (hj : j < m) (kk : Go X G nL cells slots Q (pc + 1) L st (I, upJ J o j v, r, 125)) : Go X G nL cells slots Q pc L (.long v :: .int i :: .ref (G.1 + o) :: st) (I, J, r, 125) := fun H locs ls h1 h2 h3 => by
  subst hi
  have hx := nI_ix hj hm
  refine va_last C.1 C.2.1 C.2.2.2.2.2.1.1 h1.1 (wsM_D G _) h2 o 4 (wsM_arrl (M := (I, J, r, 125)) hl ho) rfl hx.1 d (fun H1 locs1 hP _ hS => kk H1 locs1 ls (Rp.of ?_) hS h3)
  rw [← wsM_set (M := (I, J, r, 125)) (M' := (I, upJ J o j v, r, 125)) (o := o) rfl (fun q hq => cEl_eq _ rfl (upJ_off hq) rfl), hl]
  rw [hx.2] at hP
  show va_P _ _ ((wsM G (I, J, r, 125)).set o (G.1 + o, .inl (G.2.2.1 4, m, .inr (.inl (upJ J o j v o))))) H1
  rw [upJ_row]
  exact hP
/-! a row copied from one int array to another -/
def cpRow (I : Nat → Nat → Int32) (o1 o2 m : Nat) : Nat → Nat → Int32 := fun a b => if a = o2 ∧ b < m then I o1 b else I a b
theorem cpRow_off {o1 o2 m q : Nat} (h : q ≠ o2) : cpRow I o1 o2 m q = I q := by
  funext j; simp [cpRow, h]
theorem g_copy {idx o1 o2 m m1 m2 : Nat} {z1 z2 z3 : Int32} (C : Cx X G Y) (d : decode Y.2.1 pc = .ok (.invokestatic idx, 3)) (w1 : Cond.methodLink Y.1.cls idx arraycopyName ∈ GT) (w2 : Cond.native arraycopyName ∈ GT) (w3 : Cond.static arraycopyName ∈ GT) (w4 : Cond.initialized "java/lang/System" ∈ GT) (hl1 : lay o1 = (1, m1)) (hl2 : lay o2 = (1, m2)) (ho1 : o1 < 125) (ho2 : o2 < 125) (e1 : z1 = 0) (e2 : z2 = 0) (e3 : z3 = nI m) (hm1 : m ≤ m1) (hm2 : m ≤ m2) (hm : m < 2 ^ 31) (hR : 1 ≤ Y.2.2.2.2.frames ∧ (st.map fun v => v.category).sum + (nativeFrameWords "java/lang/System" "arraycopy" 5 + 11) ≤ Y.2.2.2.2.locals) (hnL : nL = Y.2.2.1)
    (kk : Go X G nL cells slots Q (pc + 3) L st (cpRow I o1 o2 m, J, r, 125)) : Go X G nL cells slots Q pc L (.int z3 :: .int z2 :: .ref (G.1 + o2) :: .int z1 :: .ref (G.1 + o1) :: st) (I, J, r, 125) := fun H locs ls h1 h2 h3 => by
  subst e1; subst e2; subst e3
  have hc : (nI m).toNatClampNeg = m := nI_clamp hm
  have hX : ∀ w ∈ GT, w.before X.args X.s = true := fun w hw => C.2.2.2.2.1 _ hw
  refine va_copyi (ty := .int) C.1 C.2.1 (by rw [h3.1, hnL]; exact C.2.2.1) C.2.2.2.1 (hX _ w1) (hX _ w2) (hX _ w3) (hX _ w4) C.2.2.2.2.2.1.1 h1.1 (wsM_D G _) h2 o1 o2 1 1 (wsM_arr (M := (I, J, r, 125)) hl1 ho1) (wsM_arr (M := (I, J, r, 125)) hl2 ho2) rfl rfl rfl (by decide) (by decide) (nI_pos hm) (by rw [hc]; show 0 + m ≤ m1; omega) (by rw [hc]; show 0 + m ≤ m2; omega) (fun i _ => rfl) (by rw [C.2.2.2.2.2.2.2.2.2]; exact hR.1) (by rw [C.2.2.2.2.2.2.2.2.2]; exact hR.2) d (fun H1 locs1 hP _ hS => kk H1 locs1 ls (Rp.of ?_) hS h3)
  rw [← wsM_set (M := (I, J, r, 125)) (M' := (cpRow I o1 o2 m, J, r, 125)) (o := o2) rfl (fun q hq => cEl_eq _ (cpRow_off hq) rfl rfl), hl2]
  rw [hc] at hP
  show va_P _ _ ((wsM G (I, J, r, 125)).set o2 (G.1 + o2, .inl (G.2.2.1 1, m2, .inl (cpRow I o1 o2 m o2)))) H1
  have e : cpRow I o1 o2 m o2 = va_cpy (I o1) (I o2) (0 : Int32).toNatClampNeg (0 : Int32).toNatClampNeg m := by
    funext j
    show (if o2 = o2 ∧ j < m then I o1 j else I o2 j) = if 0 ≤ j ∧ j < 0 + m then I o1 (0 + (j - 0)) else I o2 j
    by_cases hj : j < m
    · rw [if_pos ⟨rfl, hj⟩, if_pos ⟨by omega, by omega⟩]
      congr 1
      omega
    · rw [if_neg (fun h => hj h.2), if_neg (fun h => hj (by omega))]
  rw [e]
  exact hP
end RA
