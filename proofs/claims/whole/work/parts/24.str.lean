/-! String constants: number i of the eleven -/
def stc (i j : Nat) : Int32 := (stB.getD i []).getD j 0
section ST
variable {X : CX} {G : Gm} {Y Y' : MI} {nL cells slots : Nat} {Q : State → Prop} {pc : Nat} {L st : List Value} {M M1 : Mm} {P : Option Value → Mm → Prop} {T : Mm → Prop}
theorem cx_str (C : Cx X G Y) : vk_S 11 stL stB G.2.2.2.1 G.2.2.2.2 (fun q => G.1 ≤ q) X.s X.s.heap := C.2.2.2.2.2.1.2.2.2.1
theorem g_ldcS {index i : Nat} {tx : String} (C : Cx X G Y) (d : decode Y.2.1 pc = .ok (.ldc index, 2)) (h : (Y.1.cls, index, tx, i) ∈ stR) (k : Go X G nL cells slots Q (pc + 2) L (.ref (G.2.2.2.1 i) :: st) M) : Go X G nL cells slots Q pc L st M := fun H locs ls h1 h2 h3 =>
  va_ldcS C.1 C.2.1 C.2.2.2.1 (C.2.2.2.2.2.1.2.2.2.2.1 _ h) d (k H locs ls h1 h2 h3)
theorem g_kval {i idx : Nat} (C : Cx X G Y) (d : decode Y.2.1 pc = .ok (.getfield idx, 3)) (hi : i < 11) (hw : Cond.fieldLink Y.1.cls idx "java/lang/String" "value" "[B" ∈ GT) (k : Go X G nL cells slots Q (pc + 3) L (.ref (G.2.2.2.2 i) :: st) M) : Go X G nL cells slots Q pc L (.ref (G.2.2.2.1 i) :: st) M := fun H locs ls h1 h2 h3 =>
  vk_getf C.1 C.2.1 ((cx_str C).1 i hi).2.2.1 h2 C.2.2.2.1 (cx_w C hw) (fun _ h => h) d (k H locs ls h1 h2 h3)
theorem g_kcod {i idx : Nat} (C : Cx X G Y) (d : decode Y.2.1 pc = .ok (.getfield idx, 3)) (hi : i < 11) (hw : Cond.fieldLink Y.1.cls idx "java/lang/String" "coder" "B" ∈ GT) (k : Go X G nL cells slots Q (pc + 3) L (.int 0 :: st) M) : Go X G nL cells slots Q pc L (.ref (G.2.2.2.1 i) :: st) M := fun H locs ls h1 h2 h3 =>
  vk_getf C.1 C.2.1 ((cx_str C).1 i hi).2.1 h2 C.2.2.2.1 (cx_w C hw) (fun _ h => h) d (k H locs ls h1 h2 h3)
theorem g_klen {i : Nat} (C : Cx X G Y) (d : decode Y.2.1 pc = .ok (.arraylength, 1)) (hi : i < 11) (k : Go X G nL cells slots Q (pc + 1) L (.int (nI (stL.getD i 0)) :: st) M) : Go X G nL cells slots Q pc L (.ref (G.2.2.2.2 i) :: st) M := fun H locs ls h1 h2 h3 =>
  va_tlen C.1 C.2.1 ((cx_str C).1 i hi).2.2.2 h2 rfl d (k H locs ls h1 h2 h3)
theorem stL_le : ∀ i, i < 11 → stL.getD i 0 ≤ 6 := by decide +kernel
theorem g_kbal {i j : Nat} (C : Cx X G Y) (d : decode Y.2.1 pc = .ok (.baload, 1)) (hi : i < 11) (hj : j < stL.getD i 0) (k : Go X G nL cells slots Q (pc + 1) L (.int (stc i j) :: st) M) : Go X G nL cells slots Q pc L (.int (nI j) :: .ref (G.2.2.2.2 i) :: st) M := fun H locs ls h1 h2 h3 => by
  have h6 := stL_le i hi
  exact va_tb C.1 C.2.1 ((cx_str C).1 i hi).2.2.2 h2 (vp_in_nI hj (by omega)) (v := .int (stc i j)) (by rw [nI_clamp (by omega)]; rfl) d (k H locs ls h1 h2 h3)
theorem g_kcs {idx : Nat} (C : Cx X G Y) (d : decode Y.2.1 pc = .ok (.getstatic idx, 3)) (hw : Cond.fieldLink Y.1.cls idx "java/lang/String" "COMPACT_STRINGS" "Z" ∈ GT) (k : Go X G nL cells slots Q (pc + 3) L (.int 1 :: st) M) : Go X G nL cells slots Q pc L st M := fun H locs ls h1 h2 h3 =>
  va_gets C.1 C.2.1 C.2.2.2.2.2.1.2.2.2.2.2.1 h2 C.2.2.2.1 (cx_w C hw) (fun _ h => h) d (k H locs ls h1 h2 h3)
theorem g_kfm {idx : Nat} (C : Cx X G Y) (d : decode Y.2.1 pc = .ok (.getstatic idx, 3)) (hw : Cond.fieldLink Y.1.cls idx "jdk/internal/util/Preconditions" "SIOOBE_FORMATTER" "Ljava/util/function/BiFunction;" ∈ GT) (k : ∀ v : Value, (v = .null ∨ ∃ t : Nat, v = .ref t) → Go X G nL cells slots Q (pc + 3) L (v :: st) M) : Go X G nL cells slots Q pc L st M := fun H locs ls h1 h2 h3 => by
  rcases C.2.2.2.2.2.1.2.2.2.2.2.2.1 with h | ⟨t, h⟩
  · exact va_gets C.1 C.2.1 h h2 C.2.2.2.1 (cx_w C hw) (fun _ h => h) d (k _ (Or.inl rfl) H locs ls h1 h2 h3)
  · exact va_gets C.1 C.2.1 h h2 C.2.2.2.1 (cx_w C hw) (fun _ h => h) d (k _ (Or.inr ⟨t, rfl⟩) H locs ls h1 h2 h3)
/-- a call on a String constant -/
theorem g_callK {idx na i : Nat} {As rest : List Value} (C : Cx X G Y) (d : decode Y.2.1 pc = .ok (.invokevirtual idx, 3)) (cw : VW Y' na) (ml : Cond.methodLink Y.1.cls idx Y'.1 ∈ GT) (hR : RMok Y Y') (hcl : Y'.1.cls = "java/lang/String") (hi : i < 11) (hsp : Sp X.l G Y' (.ref (G.2.2.2.1 i) :: As) M P noT) (hn : As.length = na) (hrest : (rest.map fun v => v.category).sum ≤ 8) (hnL : nL = Y.2.2.1) (hcs : cells + Y'.2.2.2.2.cells ≤ Y.2.2.2.2.cells ∧ slots + Y'.2.2.2.2.slots ≤ Y.2.2.2.2.slots) (st0 : List Value) (hst : st0 = As.reverse ++ .ref (G.2.2.2.1 i) :: rest)
    (kk : ∀ v M', P v M' → Go X G nL (cells + Y'.2.2.2.2.cells) (slots + Y'.2.2.2.2.slots) Q (pc + 3) L (v.toList ++ rest) M') : Go X G nL cells slots Q pc L st0 M := fun H locs ls h1 h2 h3 => by
  subst hst
  refine go_run (va_runV (C := Y'.1.cls) (n := na) (b := G.2.2.2.1 i) (As := As) (rest := rest) (cx_fix C) hsp.met ⟨cx_callB C cw.1 ml hR, cx_w C cw.2.1, cx_w C cw.2.2⟩ ⟨kPc_blind G _ M, by rw [hcl]; exact vk_recv (cx_str C) hi h2, cx_pre C h1 h2⟩ rfl hn (by rw [← hnL]; exact h3.1) rfl (lv_room hrest) d (by rw [C.2.2.2.2.2.2.2.2.2]; exact hcs)) h2 h3 kk
theorem gk0I {idx i : Nat} {r : Int32} {rest : List Value} (C : Cx X G Y) (d : decode Y.2.1 pc = .ok (.invokevirtual idx, 3)) (cw : VW Y' 0) (ml : Cond.methodLink Y.1.cls idx Y'.1 ∈ GT) (hR : RMok Y Y') (hcl : Y'.1.cls = "java/lang/String") (hi : i < 11) (hsp : Sp X.l G Y' [.ref (G.2.2.2.1 i)] M (RetI r M1) noT) (hrest : (rest.map fun v => v.category).sum ≤ 8) (hnL : nL = Y.2.2.1) (hcs : cells + Y'.2.2.2.2.cells ≤ Y.2.2.2.2.cells ∧ slots + Y'.2.2.2.2.slots ≤ Y.2.2.2.2.slots) (kk : Go X G nL (cells + Y'.2.2.2.2.cells) (slots + Y'.2.2.2.2.slots) Q (pc + 3) L (.int r :: rest) M1) : Go X G nL cells slots Q pc L (.ref (G.2.2.2.1 i) :: rest) M :=
  g_callK (na := 0) (As := []) C d cw ml hR hcl hi hsp rfl hrest hnL hcs _ rfl (fun v M' h => by obtain ⟨rfl, rfl⟩ := h; exact kk)
theorem gk1I {idx i : Nat} {r : Int32} {a1 : Value} {rest : List Value} (C : Cx X G Y) (d : decode Y.2.1 pc = .ok (.invokevirtual idx, 3)) (cw : VW Y' 1) (ml : Cond.methodLink Y.1.cls idx Y'.1 ∈ GT) (hR : RMok Y Y') (hcl : Y'.1.cls = "java/lang/String") (hi : i < 11) (hsp : Sp X.l G Y' [.ref (G.2.2.2.1 i), a1] M (RetI r M1) noT) (hrest : (rest.map fun v => v.category).sum ≤ 8) (hnL : nL = Y.2.2.1) (hcs : cells + Y'.2.2.2.2.cells ≤ Y.2.2.2.2.cells ∧ slots + Y'.2.2.2.2.slots ≤ Y.2.2.2.2.slots) (kk : Go X G nL (cells + Y'.2.2.2.2.cells) (slots + Y'.2.2.2.2.slots) Q (pc + 3) L (.int r :: rest) M1) : Go X G nL cells slots Q pc L (a1 :: .ref (G.2.2.2.1 i) :: rest) M :=
  g_callK (na := 1) (As := [a1]) C d cw ml hR hcl hi hsp rfl hrest hnL hcs _ rfl (fun v M' h => by obtain ⟨rfl, rfl⟩ := h; exact kk)
theorem e_N {v w : Int32} {ty : FieldType} (C : Cx X G Y) (d : decode Y.2.1 pc = .ok (.ireturn, 1)) (hr : Y.2.2.2.1 = some ty) (hc : cells = Y.2.2.2.2.cells) (hs : slots = Y.2.2.2.2.slots) (hn : narrow ty (.int v) = .int v) (hv : v = w) (hM : M = M1) : Go X G nL cells slots (KQ X G Y (RetI w M1) T) pc L [.int v] M := fun H locs ls h1 h2 h3 => by
  subst hc; subst hs; subst hv; subst hM
  have k := W.zret (Qc := fun _ st o t => kRR G (RetI v M) T o st t) (free := fun q => G.1 ≤ q) (cells := Y.2.2.2.2.cells) (slots := Y.2.2.2.2.slots) (p := X.p) (l := X.l) (e := X.e) (R := X.R) (m := X.m) (args := X.args) (below := X.below) (ls := ls) C.1 C.2.1 (C.2.2.2.2.2.2.1.trans hr) hn (fun t ht hW => ⟨Or.inl ⟨_, M, rfl, ⟨rfl, rfl⟩, by rw [ht]; exact h1⟩, h2.F ht⟩) h2.2.2 d C.2.2.2.2.2.2.2.1
  intro T' hT Xs
  obtain ⟨t, a, b⟩ := k T' hT Xs
  exact ⟨t, a, kx_ofMQ b⟩
theorem g_i2c {x : Int32} (C : Cx X G Y) (d : decode Y.2.1 pc = .ok (.i2c, 1)) (k : Go X G nL cells slots Q (pc + 1) L (.int (x.toUInt32 % 65536).toInt32 :: st) M) : Go X G nL cells slots Q pc L (.int x :: st) M := fun H locs ls h1 h2 h3 => lv_i2c C.1 C.2.1 d rfl (k H locs ls h1 h2 h3)
end ST
theorem kfv : Cond.fieldLink RJ0 9 "java/lang/String" "value" "[B" ∈ GT := GT_at 1281 (by decide +kernel) (by decide +kernel)
theorem kfc : Cond.fieldLink RJ0 15 "java/lang/String" "coder" "B" ∈ GT := GT_at 1282 (by decide +kernel) (by decide +kernel)
theorem kfs : Cond.fieldLink RJ0 38 "java/lang/String" "COMPACT_STRINGS" "Z" ∈ GT := GT_at 404 (by decide +kernel) (by decide +kernel)
theorem kff : Cond.fieldLink RJ0 1053 "jdk/internal/util/Preconditions" "SIOOBE_FORMATTER" "Ljava/util/function/BiFunction;" ∈ GT := GT_at 420 (by decide +kernel) (by decide +kernel)
set_option maxHeartbeats 1000000 in
theorem s_coder {l : Launch} {G : Gm} {M : Mm} {i : Nat} (hi : i < 11) : Sp l G iJ0_coder_7d493 [.ref (G.2.2.2.1 i)] (M) (RetI 0 M) noT := by
  refine Sp.of (by decide +kernel) (Nat.le_of_ble_eq_true rfl) ?_
  intro X hXl C
  subst hXl
  show Go X G 1 0 0 _ 0 [.ref (G.2.2.2.1 i)] [] (M)
  refine g_kcs C dJ0_coder_7d493_0 kfs ?_
  refine g_if_eq 13 C dJ0_coder_7d493_3 (by decide) (fun c3 => ?_) (fun c3 => ?_)
  · exact absurd c3 (by decide)
  · refine g_aload_n C dJ0_coder_7d493_6 rfl ?_
    refine g_kcod C dJ0_coder_7d493_7 hi kfc ?_
    refine g_goto 14 C dJ0_coder_7d493_10 (by decide) ?_
    exact e_N C dJ0_coder_7d493_14 rfl rfl rfl (by decide) rfl rfl
set_option maxHeartbeats 1000000 in
theorem s_isLatin1 {l : Launch} {G : Gm} {M : Mm} {i : Nat} (hi : i < 11) : Sp l G iJ0_isLatin1_aae02 [.ref (G.2.2.2.1 i)] (M) (RetI 1 M) noT := by
  refine Sp.of (by decide +kernel) (Nat.le_of_ble_eq_true rfl) ?_
  intro X hXl C
  subst hXl
  show Go X G 1 0 0 _ 0 [.ref (G.2.2.2.1 i)] [] (M)
  refine g_kcs C dJ0_isLatin1_aae02_0 kfs ?_
  refine g_if_eq 17 C dJ0_isLatin1_aae02_3 (by decide) (fun c3 => ?_) (fun c3 => ?_)
  · exact absurd c3 (by decide)
  · refine g_aload_n C dJ0_isLatin1_aae02_6 rfl ?_
    refine g_kcod C dJ0_isLatin1_aae02_7 hi kfc ?_
    refine g_if_ne 17 C dJ0_isLatin1_aae02_10 (by decide) (fun c10 => ?_) (fun c10 => ?_)
    · exact absurd rfl c10
    · refine g_iconst (v := 1) C dJ0_isLatin1_aae02_13 (by decide) ?_
      refine g_goto 18 C dJ0_isLatin1_aae02_14 (by decide) ?_
      exact e_Z C dJ0_isLatin1_aae02_18 rfl rfl rfl (by first | exact Or.inl rfl | exact Or.inr rfl) rfl rfl
theorem shr0 (x : Int32) : x >>> ((0 : Int32) &&& 31) = x := sb_shr0 x
set_option maxHeartbeats 1000000 in
theorem s_strLen {l : Launch} {G : Gm} {M : Mm} {i : Nat} (hi : i < 11) : Sp l G iJ0_length_8abf5 [.ref (G.2.2.2.1 i)] (M) (RetI (nI (stL.getD i 0)) M) noT := by
  refine Sp.of (by decide +kernel) (Nat.le_of_ble_eq_true rfl) ?_
  intro X hXl C
  subst hXl
  show Go X G 1 0 0 _ 0 [.ref (G.2.2.2.1 i)] [] (M)
  refine g_aload_n C dJ0_length_8abf5_0 rfl ?_
  refine g_kval C dJ0_length_8abf5_1 hi kfv ?_
  refine g_klen C dJ0_length_8abf5_4 hi ?_
  refine g_aload_n C dJ0_length_8abf5_5 rfl ?_
  refine gk0I C dJ0_length_8abf5_6 vwJ0_coder_7d493 mwJ0_335 ⟨by decide, by decide⟩ rfl hi (s_coder hi) (Nat.le_of_ble_eq_true rfl) rfl ⟨by decide, by decide⟩ ?_
  refine g_ishr C dJ0_length_8abf5_9 ?_
  exact e_I C dJ0_length_8abf5_10 rfl rfl rfl (shr0 _) rfl
set_option maxHeartbeats 1000000 in
theorem s_preCheckN {l : Launch} {G : Gm} {M : Mm} {j m : Nat} (hj : j < m) (hm : m < 2 ^ 31) : Sp l G iJ3_checkIndex_8e157 [.int (nI j), .int (nI m), .null] (M) (RetI (nI j) M) noT := by
  refine Sp.of (by decide +kernel) (Nat.le_of_ble_eq_true rfl) ?_
  intro X hXl C
  subst hXl
  show Go X G 3 0 0 _ 0 [.int (nI j), .int (nI m), .null] [] (M)
  refine g_iload_n C dJ3_checkIndex_8e157_0 rfl ?_
  refine g_if_lt 9 C dJ3_checkIndex_8e157_1 (by decide) (fun c1 => ?_) (fun c1 => ?_)
  · exact absurd c1 (nI_pos (by omega))
  · refine g_iload_n C dJ3_checkIndex_8e157_4 rfl ?_
    refine g_iload_n C dJ3_checkIndex_8e157_5 rfl ?_
    refine g_icmp_lt 16 C dJ3_checkIndex_8e157_6 (by decide) (fun c6 => ?_) (fun c6 => ?_)
    · refine g_iload_n C dJ3_checkIndex_8e157_16 rfl ?_
      exact e_I C dJ3_checkIndex_8e157_17 rfl rfl rfl rfl rfl
    · exact absurd (nI_lt hj hm) c6
set_option maxHeartbeats 1000000 in
theorem s_preCheckR {l : Launch} {G : Gm} {M : Mm} {j m : Nat} (hj : j < m) (hm : m < 2 ^ 31) (t : Nat) : Sp l G iJ3_checkIndex_8e157 [.int (nI j), .int (nI m), .ref t] (M) (RetI (nI j) M) noT := by
  refine Sp.of (by decide +kernel) (Nat.le_of_ble_eq_true rfl) ?_
  intro X hXl C
  subst hXl
  show Go X G 3 0 0 _ 0 [.int (nI j), .int (nI m), .ref t] [] (M)
  refine g_iload_n C dJ3_checkIndex_8e157_0 rfl ?_
  refine g_if_lt 9 C dJ3_checkIndex_8e157_1 (by decide) (fun c1 => ?_) (fun c1 => ?_)
  · exact absurd c1 (nI_pos (by omega))
  · refine g_iload_n C dJ3_checkIndex_8e157_4 rfl ?_
    refine g_iload_n C dJ3_checkIndex_8e157_5 rfl ?_
    refine g_icmp_lt 16 C dJ3_checkIndex_8e157_6 (by decide) (fun c6 => ?_) (fun c6 => ?_)
    · refine g_iload_n C dJ3_checkIndex_8e157_16 rfl ?_
      exact e_I C dJ3_checkIndex_8e157_17 rfl rfl rfl rfl rfl
    · exact absurd (nI_lt hj hm) c6
theorem s_preCheck {l : Launch} {G : Gm} {M : Mm} {j m : Nat} (hj : j < m) (hm : m < 2 ^ 31) (v : Value) (hv : v = .null ∨ ∃ t : Nat, v = .ref t) : Sp l G iJ3_checkIndex_8e157 [.int (nI j), .int (nI m), v] M (RetI (nI j) M) noT := by
  rcases hv with rfl | ⟨t, rfl⟩
  · exact s_preCheckN hj hm
  · exact s_preCheckR hj hm t
set_option maxHeartbeats 1000000 in
theorem s_strCheck {l : Launch} {G : Gm} {M : Mm} {j m : Nat} (hj : j < m) (hm : m < 2 ^ 31) : Sp l G iJ0_checkIndex_df160 [.int (nI j), .int (nI m)] (M) (RetV M) noT := by
  refine Sp.of (by decide +kernel) (Nat.le_of_ble_eq_true rfl) ?_
  intro X hXl C
  subst hXl
  show Go X G 2 0 0 _ 0 [.int (nI j), .int (nI m)] [] (M)
  refine g_iload_n C dJ0_checkIndex_df160_0 rfl ?_
  refine g_iload_n C dJ0_checkIndex_df160_1 rfl ?_
  refine g_kfm C dJ0_checkIndex_df160_2 kff (fun v hv => ?_)
  refine gs3I C dJ0_checkIndex_df160_5 swJ3_checkIndex_8e157 mwJ0_1059 ⟨by decide, by decide⟩ (s_preCheck hj hm v hv) (Nat.le_of_ble_eq_true rfl) rfl ⟨by decide, by decide⟩ ?_
  refine g_pop C dJ0_checkIndex_df160_8 rfl ?_
  exact e_V C dJ0_checkIndex_df160_9 rfl rfl rfl rfl
theorem stc_c : ∀ i, i < 11 → ∀ j, j < 6 → ((stc i j &&& 255).toUInt32 % 65536).toInt32 = stc i j ∧ narrow .char (.int (stc i j)) = .int (stc i j) := by decide +kernel
set_option maxHeartbeats 1000000 in
theorem s_l1charAt {l : Launch} {G : Gm} {M : Mm} {i : Nat} (hi : i < 11) {j : Nat} (hj : j < stL.getD i 0) : Sp l G iJ1_charAt_3b067 [.ref (G.2.2.2.2 i), .int (nI j)] (M) (RetI (stc i j) M) noT := by
  refine Sp.of (by decide +kernel) (Nat.le_of_ble_eq_true rfl) ?_
  intro X hXl C
  subst hXl
  show Go X G 2 0 0 _ 0 [.ref (G.2.2.2.2 i), .int (nI j)] [] (M)
  refine g_iload_n C dJ1_charAt_3b067_0 rfl ?_
  refine g_aload_n C dJ1_charAt_3b067_1 rfl ?_
  refine g_klen C dJ1_charAt_3b067_2 hi ?_
  refine gs2V C dJ1_charAt_3b067_3 swJ0_checkIndex_df160 mwJ1_9 ⟨by decide, by decide⟩ (s_strCheck hj (by have := stL_le i hi; omega)) (Nat.le_of_ble_eq_true rfl) rfl ⟨by decide, by decide⟩ ?_
  refine g_aload_n C dJ1_charAt_3b067_6 rfl ?_
  refine g_iload_n C dJ1_charAt_3b067_7 rfl ?_
  refine g_kbal C dJ1_charAt_3b067_8 hi hj ?_
  refine g_sipush (v := 255) C dJ1_charAt_3b067_9 (by decide) ?_
  refine g_iand C dJ1_charAt_3b067_12 ?_
  refine g_i2c C dJ1_charAt_3b067_13 ?_
  rw [(stc_c i hi j (by have := stL_le i hi; omega)).1]
  exact e_N C dJ1_charAt_3b067_14 rfl rfl rfl (stc_c i hi j (by have := stL_le i hi; omega)).2 rfl rfl
set_option maxHeartbeats 1000000 in
theorem s_charAt {l : Launch} {G : Gm} {M : Mm} {i : Nat} (hi : i < 11) {j : Nat} (hj : j < stL.getD i 0) : Sp l G iJ0_charAt_5068e [.ref (G.2.2.2.1 i), .int (nI j)] (M) (RetI (stc i j) M) noT := by
  refine Sp.of (by decide +kernel) (Nat.le_of_ble_eq_true rfl) ?_
  intro X hXl C
  subst hXl
  show Go X G 2 0 0 _ 0 [.ref (G.2.2.2.1 i), .int (nI j)] [] (M)
  refine g_aload_n C dJ0_charAt_5068e_0 rfl ?_
  refine gk0I C dJ0_charAt_5068e_1 vwJ0_isLatin1_aae02 mwJ0_492 ⟨by decide, by decide⟩ rfl hi (s_isLatin1 hi) (Nat.le_of_ble_eq_true rfl) rfl ⟨by decide, by decide⟩ ?_
  refine g_if_eq 16 C dJ0_charAt_5068e_4 (by decide) (fun c4 => ?_) (fun c4 => ?_)
  · exact absurd c4 (by decide)
  · refine g_aload_n C dJ0_charAt_5068e_7 rfl ?_
    refine g_kval C dJ0_charAt_5068e_8 hi kfv ?_
    refine g_iload_n C dJ0_charAt_5068e_11 rfl ?_
    refine gs2I C dJ0_charAt_5068e_12 swJ1_charAt_3b067 mwJ0_495 ⟨by decide, by decide⟩ (s_l1charAt hi hj) (Nat.le_of_ble_eq_true rfl) rfl ⟨by decide, by decide⟩ ?_
    exact e_N C dJ0_charAt_5068e_15 rfl rfl rfl (stc_c i hi j (by have := stL_le i hi; omega)).2 rfl rfl
