/-! ## Throwable, Exception, RuntimeException, Stop -/
abbrev yT4 : MethodName := ⟨"java/lang/Throwable", "<init>", "(Ljava/lang/String;Ljava/lang/Throwable;ZZ)V"⟩
abbrev yE4 : MethodName := ⟨"java/lang/Exception", "<init>", "(Ljava/lang/String;Ljava/lang/Throwable;ZZ)V"⟩
abbrev yR4 : MethodName := ⟨"java/lang/RuntimeException", "<init>", "(Ljava/lang/String;Ljava/lang/Throwable;ZZ)V"⟩
abbrev iT4 : MI := (yT4, prog_21_method_5_code, 5, none, { frames := 1, cells := 0, slots := 0, locals := 20 })
abbrev iE4 : MI := (yE4, prog_13_method_5_code, 5, none, { frames := 2, cells := 0, slots := 0, locals := 44 })
abbrev iR4 : MI := (yR4, prog_16_method_5_code, 5, none, { frames := 3, cells := 0, slots := 0, locals := 68 })
theorem nwT4 : CW iT4 4 ∧ Cond.instanceMethod yT4 ∈ GT := ⟨⟨GT_at 879 (by decide +kernel) (by decide +kernel), GT_in (by decide +kernel) (by decide +kernel), ⟨by decide +kernel, by decide +kernel⟩, by decide +kernel⟩, GT_at 878 (by decide +kernel) (by decide +kernel)⟩
theorem nwE4 : CW iE4 4 ∧ Cond.instanceMethod yE4 ∈ GT := ⟨⟨GT_at 876 (by decide +kernel) (by decide +kernel), GT_in (by decide +kernel) (by decide +kernel), ⟨by decide +kernel, by decide +kernel⟩, by decide +kernel⟩, GT_at 875 (by decide +kernel) (by decide +kernel)⟩
theorem nwR4 : CW iR4 4 ∧ Cond.instanceMethod yR4 ∈ GT := ⟨⟨GT_at 873 (by decide +kernel) (by decide +kernel), GT_in (by decide +kernel) (by decide +kernel), ⟨by decide +kernel, by decide +kernel⟩, by decide +kernel⟩, GT_at 872 (by decide +kernel) (by decide +kernel)⟩
theorem dT4_0 : decode prog_21_method_5_code 0 = .ok (.aload_n 0, 1) := by decide +kernel
theorem dT4_1 : decode prog_21_method_5_code 1 = .ok (.invokespecial 1, 3) := by decide +kernel
theorem dT4_4 : decode prog_21_method_5_code 4 = .ok (.aload_n 0, 1) := by decide +kernel
theorem dT4_5 : decode prog_21_method_5_code 5 = .ok (.aload_n 0, 1) := by decide +kernel
theorem dT4_6 : decode prog_21_method_5_code 6 = .ok (.putfield 7, 3) := by decide +kernel
theorem dT4_9 : decode prog_21_method_5_code 9 = .ok (.aload_n 0, 1) := by decide +kernel
theorem dT4_10 : decode prog_21_method_5_code 10 = .ok (.getstatic 13, 3) := by decide +kernel
theorem dT4_13 : decode prog_21_method_5_code 13 = .ok (.putfield 17, 3) := by decide +kernel
theorem dT4_16 : decode prog_21_method_5_code 16 = .ok (.aload_n 0, 1) := by decide +kernel
theorem dT4_17 : decode prog_21_method_5_code 17 = .ok (.getstatic 20, 3) := by decide +kernel
theorem dT4_20 : decode prog_21_method_5_code 20 = .ok (.putfield 24, 3) := by decide +kernel
theorem dT4_23 : decode prog_21_method_5_code 23 = .ok (.iload 4, 2) := by decide +kernel
theorem dT4_25 : decode prog_21_method_5_code 25 = .ok (.ifCond .eq 11, 3) := by decide +kernel
theorem dT4_36 : decode prog_21_method_5_code 36 = .ok (.aload_n 0, 1) := by decide +kernel
theorem dT4_37 : decode prog_21_method_5_code 37 = .ok (.aconst_null, 1) := by decide +kernel
theorem dT4_38 : decode prog_21_method_5_code 38 = .ok (.putfield 17, 3) := by decide +kernel
theorem dT4_41 : decode prog_21_method_5_code 41 = .ok (.aload_n 0, 1) := by decide +kernel
theorem dT4_42 : decode prog_21_method_5_code 42 = .ok (.aload_n 1, 1) := by decide +kernel
theorem dT4_43 : decode prog_21_method_5_code 43 = .ok (.putfield 31, 3) := by decide +kernel
theorem dT4_46 : decode prog_21_method_5_code 46 = .ok (.aload_n 0, 1) := by decide +kernel
theorem dT4_47 : decode prog_21_method_5_code 47 = .ok (.aload_n 2, 1) := by decide +kernel
theorem dT4_48 : decode prog_21_method_5_code 48 = .ok (.putfield 7, 3) := by decide +kernel
theorem dT4_51 : decode prog_21_method_5_code 51 = .ok (.iload_n 3, 1) := by decide +kernel
theorem dT4_52 : decode prog_21_method_5_code 52 = .ok (.ifCond .ne 8, 3) := by decide +kernel
theorem dT4_55 : decode prog_21_method_5_code 55 = .ok (.aload_n 0, 1) := by decide +kernel
theorem dT4_56 : decode prog_21_method_5_code 56 = .ok (.aconst_null, 1) := by decide +kernel
theorem dT4_57 : decode prog_21_method_5_code 57 = .ok (.putfield 24, 3) := by decide +kernel
theorem dT4_60 : decode prog_21_method_5_code 60 = .ok (.return_, 1) := by decide +kernel
theorem dE4_0 : decode prog_13_method_5_code 0 = .ok (.aload_n 0, 1) := by decide +kernel
theorem dE4_1 : decode prog_13_method_5_code 1 = .ok (.aload_n 1, 1) := by decide +kernel
theorem dE4_2 : decode prog_13_method_5_code 2 = .ok (.aload_n 2, 1) := by decide +kernel
theorem dE4_3 : decode prog_13_method_5_code 3 = .ok (.iload_n 3, 1) := by decide +kernel
theorem dE4_4 : decode prog_13_method_5_code 4 = .ok (.iload 4, 2) := by decide +kernel
theorem dE4_6 : decode prog_13_method_5_code 6 = .ok (.invokespecial 16, 3) := by decide +kernel
theorem dE4_9 : decode prog_13_method_5_code 9 = .ok (.return_, 1) := by decide +kernel
theorem dR4_0 : decode prog_16_method_5_code 0 = .ok (.aload_n 0, 1) := by decide +kernel
theorem dR4_1 : decode prog_16_method_5_code 1 = .ok (.aload_n 1, 1) := by decide +kernel
theorem dR4_2 : decode prog_16_method_5_code 2 = .ok (.aload_n 2, 1) := by decide +kernel
theorem dR4_3 : decode prog_16_method_5_code 3 = .ok (.iload_n 3, 1) := by decide +kernel
theorem dR4_4 : decode prog_16_method_5_code 4 = .ok (.iload 4, 2) := by decide +kernel
theorem dR4_6 : decode prog_16_method_5_code 6 = .ok (.invokespecial 16, 3) := by decide +kernel
theorem dR4_9 : decode prog_16_method_5_code 9 = .ok (.return_, 1) := by decide +kernel
theorem Zq_v {C n d : String} {A : Nat → Prop} {U : State} {H : Heap} {e : String} (h : va_Zq C n d A U H) (ty : FieldType) (h1 : narrow ty .null = .null ∧ fits ty .null = true) (h2 : ∀ t : Nat, narrow ty (.ref t) = .ref t ∧ fits ty (.ref t) = true) : ∃ v, va_Z C n d v A U H ∧ narrow ty v = v ∧ fits ty v = true := by
  rcases h with h | ⟨t, h⟩
  · exact ⟨_, h, h1⟩
  · exact ⟨_, h, h2 t⟩
set_option maxHeartbeats 4000000 in
theorem s_T4 {l : Launch} {G : Gm} {M : Mm} (ho : 112 < M.2.2.2) : SpE l G iT4 [.ref (G.1 + 112), .null, .null, .int 0, .int 0] M := by
  refine SpE.of (by decide +kernel) (Nat.le_of_ble_eq_true rfl) ?_
  intro X hXl C ls h3 h1 hE
  subst hXl
  have hXR : X.R = iT4.2.2.2.2 := C.2.2.2.2.2.2.2.2.2
  have hK := C.2.2.2.2.2.1
  have h3 : lvL ls 5 [.ref (G.1 + 112), .null, .null, .int 0, .int 0] := h3
  have key : ∀ (H : Heap) (locs : List Loc), Rp G M H → va_S (fun q => G.1 ≤ q) X.s.heap H locs → tE G X.s H → XW X H locs 0 0 (KQ X G iT4 (RetV M) noT) (F0 X.m 0 ls []) := by
    clear h1 hE
    intro H locs h1 h2 hE
    refine lv_aload_n C.1 C.2.1 dT4_0 rfl (h3.at (k := 0) rfl rfl) ?_
    refine W.objInit C.1 C.2.1 C.2.2.2.1 (cx_w C (GT_in (by decide +kernel) (by decide +kernel))) (cx_w C oi_i) (cx_w C oi_c) (g := F0 X.m 1 ls [.ref (G.1 + 112)]) rfl (by rw [C.2.2.1]; exact h3.1) rfl dT4_1 (by rw [hXR]; decide) (by rw [hXR]; exact Nat.le_of_ble_eq_true rfl) ?_
    show XW X H locs 0 0 _ (F0 X.m 4 ls [])
    refine lv_aload_n C.1 C.2.1 dT4_4 rfl (h3.at (k := 0) rfl rfl) ?_
    refine lv_aload_n C.1 C.2.1 dT4_5 rfl (h3.at (k := 0) rfl rfl) ?_
    refine xe_put (k := 0) (ty := .object "java/lang/Throwable") C dT4_6 (by decide) (GT_in (by decide +kernel) (by decide +kernel)) rfl rfl rfl rfl ho h1 h2 hE ?_
    clear h1 h2 hE
    intro H locs h1 h2 hE
    refine lv_aload_n C.1 C.2.1 dT4_9 rfl (h3.at (k := 0) rfl rfl) ?_
    obtain ⟨v1, hZ1, n1, f1⟩ := Zq_v (e := "") hK.2.2.2.2.2.2.2.1.1 (.array (.object "java/lang/StackTraceElement")) ⟨rfl, rfl⟩ (fun t => ⟨rfl, rfl⟩)
    refine va_gets (C := "java/lang/Throwable") (n := "UNASSIGNED_STACK") (d := "[Ljava/lang/StackTraceElement;") (ref := "java/lang/Throwable") C.1 C.2.1 hZ1 h2 C.2.2.2.1 (cx_w C (GT_in (by decide +kernel) (by decide +kernel))) (fun _ h => h) dT4_10 ?_
    refine xe_put (k := 1) (ty := .array (.object "java/lang/StackTraceElement")) C dT4_13 (by decide) (GT_in (by decide +kernel) (by decide +kernel)) rfl rfl n1 f1 ho h1 h2 hE ?_
    clear h1 h2 hE
    intro H locs h1 h2 hE
    refine lv_aload_n C.1 C.2.1 dT4_16 rfl (h3.at (k := 0) rfl rfl) ?_
    obtain ⟨v2, hZ2, n2, f2⟩ := Zq_v (e := "") hK.2.2.2.2.2.2.2.2.1.1 (.object "java/util/List") ⟨rfl, rfl⟩ (fun t => ⟨rfl, rfl⟩)
    refine va_gets (C := "java/lang/Throwable") (n := "SUPPRESSED_SENTINEL") (d := "Ljava/util/List;") (ref := "java/lang/Throwable") C.1 C.2.1 hZ2 h2 C.2.2.2.1 (cx_w C (GT_in (by decide +kernel) (by decide +kernel))) (fun _ h => h) dT4_17 ?_
    refine xe_put (k := 2) (ty := .object "java/util/List") C dT4_20 (by decide) (GT_in (by decide +kernel) (by decide +kernel)) rfl rfl n2 f2 ho h1 h2 hE ?_
    clear h1 h2 hE
    intro H locs h1 h2 hE
    refine lv_iload C.1 C.2.1 dT4_23 (h3.at (k := 4) rfl rfl) ?_
    refine lv_if_eq (tgt := 36) C.1 C.2.1 dT4_25 (by decide) (fun _ => ?_) (fun q => absurd rfl q)
    refine lv_aload_n C.1 C.2.1 dT4_36 rfl (h3.at (k := 0) rfl rfl) ?_
    refine lv_null C.1 C.2.1 dT4_37 ?_
    refine xe_put (k := 1) (ty := .array (.object "java/lang/StackTraceElement")) C dT4_38 (by decide) (GT_in (by decide +kernel) (by decide +kernel)) rfl rfl rfl rfl ho h1 h2 hE ?_
    clear h1 h2 hE
    intro H locs h1 h2 hE
    refine lv_aload_n C.1 C.2.1 dT4_41 rfl (h3.at (k := 0) rfl rfl) ?_
    refine lv_aload_nN C.1 C.2.1 dT4_42 rfl (h3.at (k := 1) rfl rfl) ?_
    refine xe_put (k := 3) (ty := .object "java/lang/String") C dT4_43 (by decide) (GT_in (by decide +kernel) (by decide +kernel)) rfl rfl rfl rfl ho h1 h2 hE ?_
    clear h1 h2 hE
    intro H locs h1 h2 hE
    refine lv_aload_n C.1 C.2.1 dT4_46 rfl (h3.at (k := 0) rfl rfl) ?_
    refine lv_aload_nN C.1 C.2.1 dT4_47 rfl (h3.at (k := 2) rfl rfl) ?_
    refine xe_put (k := 0) (ty := .object "java/lang/Throwable") C dT4_48 (by decide) (GT_in (by decide +kernel) (by decide +kernel)) rfl rfl rfl rfl ho h1 h2 hE ?_
    clear h1 h2 hE
    intro H locs h1 h2 hE
    refine lv_iload_n C.1 C.2.1 dT4_51 rfl (h3.at (k := 3) rfl rfl) ?_
    refine lv_if_ne (tgt := 60) C.1 C.2.1 dT4_52 (by decide) (fun q => absurd rfl q) (fun _ => ?_)
    refine lv_aload_n C.1 C.2.1 dT4_55 rfl (h3.at (k := 0) rfl rfl) ?_
    refine lv_null C.1 C.2.1 dT4_56 ?_
    refine xe_put (k := 2) (ty := .object "java/util/List") C dT4_57 (by decide) (GT_in (by decide +kernel) (by decide +kernel)) rfl rfl rfl rfl ho h1 h2 hE ?_
    clear h1 h2 hE
    intro H locs h1 h2 hE
    exact (g_vret (T := noT) (L := [.ref (G.1 + 112), .null, .null, .int 0, .int 0]) C dT4_60 rfl rfl rfl ⟨rfl, rfl⟩ : Go X G 5 0 0 _ 60 _ [] M) H locs ls h1 h2 h3
  exact key _ _ h1 va_S.rf hE
set_option maxHeartbeats 4000000 in
theorem s_E4 {l : Launch} {G : Gm} {M : Mm} (ho : 112 < M.2.2.2) : SpE l G iE4 [.ref (G.1 + 112), .null, .null, .int 0, .int 0] M := by
  refine SpE.of (by decide +kernel) (Nat.le_of_ble_eq_true rfl) ?_
  intro X hXl C ls h3 h1 hE
  subst hXl
  have h3 : lvL ls 5 [.ref (G.1 + 112), .null, .null, .int 0, .int 0] := h3
  refine lv_aload_n C.1 C.2.1 dE4_0 rfl (h3.at (k := 0) rfl rfl) ?_
  refine lv_aload_nN C.1 C.2.1 dE4_1 rfl (h3.at (k := 1) rfl rfl) ?_
  refine lv_aload_nN C.1 C.2.1 dE4_2 rfl (h3.at (k := 2) rfl rfl) ?_
  refine lv_iload_n C.1 C.2.1 dE4_3 rfl (h3.at (k := 3) rfl rfl) ?_
  refine lv_iload C.1 C.2.1 dE4_4 (h3.at (k := 4) rfl rfl) ?_
  refine xe_call (b := G.1 + 112) (As := [.null, .null, .int 0, .int 0]) (rest := []) (nL := 5) C dE4_6 nwT4.1 nwT4.2 rfl rfl (GT_at 877 (by decide +kernel) (by decide +kernel)) ⟨by decide, by decide⟩ (s_T4 ho) rfl (Nat.le_of_ble_eq_true rfl) rfl ⟨by decide, by decide⟩ _ rfl h1 va_S.rf h3 hE ?_
  exact g_vret C dE4_9 rfl rfl rfl ⟨rfl, rfl⟩
set_option maxHeartbeats 4000000 in
theorem s_R4 {l : Launch} {G : Gm} {M : Mm} (ho : 112 < M.2.2.2) : SpE l G iR4 [.ref (G.1 + 112), .null, .null, .int 0, .int 0] M := by
  refine SpE.of (by decide +kernel) (Nat.le_of_ble_eq_true rfl) ?_
  intro X hXl C ls h3 h1 hE
  subst hXl
  have h3 : lvL ls 5 [.ref (G.1 + 112), .null, .null, .int 0, .int 0] := h3
  refine lv_aload_n C.1 C.2.1 dR4_0 rfl (h3.at (k := 0) rfl rfl) ?_
  refine lv_aload_nN C.1 C.2.1 dR4_1 rfl (h3.at (k := 1) rfl rfl) ?_
  refine lv_aload_nN C.1 C.2.1 dR4_2 rfl (h3.at (k := 2) rfl rfl) ?_
  refine lv_iload_n C.1 C.2.1 dR4_3 rfl (h3.at (k := 3) rfl rfl) ?_
  refine lv_iload C.1 C.2.1 dR4_4 (h3.at (k := 4) rfl rfl) ?_
  refine xe_call (b := G.1 + 112) (As := [.null, .null, .int 0, .int 0]) (rest := []) (nL := 5) C dR4_6 nwE4.1 nwE4.2 rfl rfl (GT_at 874 (by decide +kernel) (by decide +kernel)) ⟨by decide, by decide⟩ (s_E4 ho) rfl (Nat.le_of_ble_eq_true rfl) rfl ⟨by decide, by decide⟩ _ rfl h1 va_S.rf h3 hE ?_
  exact g_vret C dR4_9 rfl rfl rfl ⟨rfl, rfl⟩
set_option maxHeartbeats 4000000 in
theorem s_iX9 {l : Launch} {G : Gm} {M : Mm} (ho : 112 < M.2.2.2) : SpE l G iX9_init [.ref (G.1 + 112)] M := by
  refine SpE.of (by decide +kernel) (Nat.le_of_ble_eq_true rfl) ?_
  intro X hXl C ls h3 h1 hE
  subst hXl
  have h3 : lvL ls 1 [.ref (G.1 + 112)] := h3
  refine lv_aload_n C.1 C.2.1 dX9_init_0 rfl (h3.at (k := 0) rfl rfl) ?_
  refine lv_null C.1 C.2.1 dX9_init_1 ?_
  refine lv_null C.1 C.2.1 dX9_init_2 ?_
  refine lv_iconst (v := 0) C.1 C.2.1 dX9_init_3 (by decide) ?_
  refine lv_iconst (v := 0) C.1 C.2.1 dX9_init_4 (by decide) ?_
  refine xe_call (b := G.1 + 112) (As := [.null, .null, .int 0, .int 0]) (rest := []) (nL := 1) C dX9_init_5 nwR4.1 nwR4.2 rfl rfl (GT_at 871 (by decide +kernel) (by decide +kernel)) ⟨by decide, by decide⟩ (s_R4 ho) rfl (Nat.le_of_ble_eq_true rfl) rfl ⟨by decide, by decide⟩ _ rfl h1 va_S.rf h3 hE ?_
  exact g_vret C dX9_init_8 rfl rfl rfl ⟨rfl, rfl⟩
theorem g_stop {X : CX} {G : Gm} {nL cells slots : Nat} {Q : State → Prop} {L st : List Value} {I : Nat → Nat → Int32} {J : Nat → Nat → Int64} {S : List (Nat × Nat)} (C : Cx X G iX10_init) (hI : ∀ k, I 112 k = 0) (hnL : nL = iX10_init.2.2.1) (hst : (st.map fun v => v.category).sum ≤ 7) (hcs : cells + 1 ≤ iX10_init.2.2.2.2.cells ∧ slots + 8 ≤ iX10_init.2.2.2.2.slots)
    (kk : Go X G nL (cells + 1) (slots + 8) Q 86 L (.ref (G.1 + 112) :: st) (I, J, rr S, 113)) : Go X G nL cells slots Q 79 L st (I, J, rr S, 112) := fun H locs ls h1 h2 h3 => by
  have hXR : X.R = iX10_init.2.2.2.2 := C.2.2.2.2.2.2.2.2.2
  have hts : ∀ w ∈ GT, w.before X.args X.s = true := C.2.2.2.2.1
  have hK : va_K G.2.1 kCl (kTys G) X.s := C.2.2.2.2.2.1.1
  have hKn := hK.1 9 _ (show kCl[9]? = some (RX9, TS9, 2) from rfl)
  have hH : H.size = G.1 + 112 := h1.2.2.1 (show (112 : Nat) < 125 by decide)
  have wi : Cond.instantiable RX9 8 ∈ GT := GT_at 860 (by decide +kernel) (by decide +kernel)
  refine W.newcK C.1 C.2.1 C.2.2.2.1 (cx_w C clX10_38) (cx_w C wi) (cx_w C (GT_in (by decide +kernel) (by decide +kernel))) (g := F0 X.m 79 ls st) rfl dX10_init_79 (by rw [hXR]; exact hcs.1) (by rw [hXR]; exact hcs.2) hKn.2.1 hH fun H1 kC hkC e1 z1 o1 => ?_
  have hR1 : Rp G (I, J, rr S, 113) H1 := by
    refine Rp_grow h1 (by decide) (by rw [z1, hH]) (fun q hq => o1 q (by rw [← hH]; exact hq)) ?_
    rw [ly_112]
    refine ⟨_, rfl, (u_born tyS9 hts inGX9 hKn hkC e1 tyS9_ok).to (fun j hj => ?_)⟩
    have hj2 : j < 2 := hj
    have : j = 0 ∨ j = 1 := by omega
    rcases this with rfl | rfl
    · show Value.int 0 = Value.int (I 112 0); rw [hI]
    · show Value.int 0 = Value.int (I 112 1); rw [hI]
  have hS1 : va_S (fun q => G.1 ≤ q) X.s.heap H1 locs := S_grow h2 (by rw [z1, hH]; omega) (fun q hq => o1 q (by rw [← hH]; exact hq))
  have hE : tE G X.s H1 := by
    obtain ⟨cC, sl, hKt⟩ := u_known (T := TX9) (N := 8) hts inGX9t (cx_w C wi)
    have hcc : cC = G.2.1.1 9 := Option.some.inj (hKt.2.1.symm.trans hKn.2.1)
    subst hcc
    refine ⟨sl, _, hKt, fun j hj => ?_, u_born tyX9 hts inGX9t hKt hkC e1 tyX9_ok⟩
    obtain ⟨a1, a2, a3, f, hi, hs⟩ := hKt.1 (6 + j) (by omega)
    obtain ⟨b1, b2, b3, f', hi', hs'⟩ := hKn.1 j hj
    have : j = 0 ∨ j = 1 := by omega
    rcases this with rfl | rfl
    · have := hi.symm.trans hi'
      cases this
      exact hs.symm.trans hs'
    · have := hi.symm.trans hi'
      cases this
      exact hs.symm.trans hs'
  refine lv_dup C.1 C.2.1 dX10_init_82 rfl ?_
  have hsum : ((Value.ref (G.1 + 112) :: st).map fun v => v.category).sum ≤ 8 := by
    show 1 + (st.map fun v => v.category).sum ≤ 8
    omega
  exact xe_call (pc := 83) (b := G.1 + 112) (As := []) (rest := .ref (G.1 + 112) :: st) C dX10_init_83 nwX9_init.1 nwX9_init.2 rfl rfl (GT_at 868 (by decide +kernel) (by decide +kernel)) ⟨by decide, by decide⟩ (s_iX9 (M := (I, J, rr S, 113)) (show 112 < 113 by decide)) rfl hsum hnL ⟨hcs.1, hcs.2⟩ _ rfl hR1 hS1 h3 hE kk
