/-! ## the law: one call of the script -/
abbrev iLaw (nm : String) : MI := (⟨RL, nm, ""⟩, code, 7, ret, room_1)
def LX (b L : Nat) (xs : Nat → Int32) (X : CX) (G : Gm) : Prop := va_X b L xs X.s X.s.heap ∧ b < X.s.heap.size ∧ ¬ G.1 ≤ b
theorem g_sld {X : CX} {G : Gm} {Y : MI} {nL cells slots : Nat} {Q : State → Prop} {pc : Nat} {Lo st : List Value} {M : Mm} {b L i : Nat} {xs : Nat → Int32} (hx : LX b L xs X G) (C : Cx X G Y) (d : decode Y.2.1 pc = .ok (.iaload, 1)) (hi : i < L) (hL : L ≤ 3072) (kk : Go X G nL cells slots Q (pc + 1) Lo (.int (xs i) :: st) M) : Go X G nL cells slots Q pc Lo (.int (nI i) :: .ref b :: st) M := fun H locs ls h1 h2 h3 => by
  have hcl : (nI i).toNatClampNeg = i := nI_clamp (by omega)
  refine va_sld C.1 C.2.1 hx.1 hx.2.1 hx.2.2 h2 (vp_in_nI hi (by omega)) d ?_
  rw [hcl]
  exact kk H locs ls h1 h2 h3
theorem g_slen {X : CX} {G : Gm} {Y : MI} {nL cells slots : Nat} {Q : State → Prop} {pc : Nat} {Lo st : List Value} {M : Mm} {b L : Nat} {xs : Nat → Int32} (hx : LX b L xs X G) (C : Cx X G Y) (d : decode Y.2.1 pc = .ok (.arraylength, 1)) (kk : Go X G nL cells slots Q (pc + 1) Lo (.int (nI L) :: st) M) : Go X G nL cells slots Q pc Lo (.ref b :: st) M := fun H locs ls h1 h2 h3 => va_slen C.1 C.2.1 hx.1 hx.2.1 hx.2.2 h2 d (kk H locs ls h1 h2 h3)
theorem mqL_19 : Cond.methodLink RL 19 yX8_part ∈ GT := GT_in (by decide +kernel) (by decide +kernel)
theorem mqL_22 : Cond.methodLink RL 22 yX10_part ∈ GT := GT_in (by decide +kernel) (by decide +kernel)
theorem mqL_23 : Cond.methodLink RL 23 yX8_grant ∈ GT := GT_in (by decide +kernel) (by decide +kernel)
theorem mqL_27 : Cond.methodLink RL 27 yX10_grant ∈ GT := GT_in (by decide +kernel) (by decide +kernel)
theorem mqL_28 : Cond.methodLink RL 28 yX8_feed ∈ GT := GT_in (by decide +kernel) (by decide +kernel)
theorem mqL_32 : Cond.methodLink RL 32 yX10_feed ∈ GT := GT_in (by decide +kernel) (by decide +kernel)
theorem mqL_33 : Cond.methodLink RL 33 yX8_lines ∈ GT := GT_in (by decide +kernel) (by decide +kernel)
theorem mqL_37 : Cond.methodLink RL 37 yX10_lines ∈ GT := GT_in (by decide +kernel) (by decide +kernel)
theorem mqL_38 : Cond.methodLink RL 38 yX8_fault ∈ GT := GT_in (by decide +kernel) (by decide +kernel)
theorem mqL_42 : Cond.methodLink RL 42 yX10_fault ∈ GT := GT_in (by decide +kernel) (by decide +kernel)
theorem mqL_43 : Cond.methodLink RL 43 yX8_where ∈ GT := GT_in (by decide +kernel) (by decide +kernel)
theorem mqL_46 : Cond.methodLink RL 46 yX10_where ∈ GT := GT_in (by decide +kernel) (by decide +kernel)
theorem mqL_47 : Cond.methodLink RL 47 yX8_line ∈ GT := GT_in (by decide +kernel) (by decide +kernel)
theorem mqL_51 : Cond.methodLink RL 51 yX10_line ∈ GT := GT_in (by decide +kernel) (by decide +kernel)
theorem mqL_52 : Cond.methodLink RL 52 yX8_meant ∈ GT := GT_in (by decide +kernel) (by decide +kernel)
theorem mqL_56 : Cond.methodLink RL 56 yX10_meant ∈ GT := GT_in (by decide +kernel) (by decide +kernel)
theorem mqL_57 : Cond.methodLink RL 57 yX8_holds ∈ GT := GT_in (by decide +kernel) (by decide +kernel)
theorem mqL_60 : Cond.methodLink RL 60 yX10_holds ∈ GT := GT_in (by decide +kernel) (by decide +kernel)
theorem mqL_61 : Cond.methodLink RL 61 yX8_result ∈ GT := GT_in (by decide +kernel) (by decide +kernel)
theorem mqL_64 : Cond.methodLink RL 64 yX10_result ∈ GT := GT_in (by decide +kernel) (by decide +kernel)
theorem mqL_65 : Cond.methodLink RL 65 yX8_asked ∈ GT := GT_in (by decide +kernel) (by decide +kernel)
theorem mqL_68 : Cond.methodLink RL 68 yX10_asked ∈ GT := GT_in (by decide +kernel) (by decide +kernel)
theorem mqL_69 : Cond.methodLink RL 69 yX8_door ∈ GT := GT_in (by decide +kernel) (by decide +kernel)
theorem mqL_72 : Cond.methodLink RL 72 yX10_door ∈ GT := GT_in (by decide +kernel) (by decide +kernel)
theorem mqL_73 : Cond.methodLink RL 73 yX8_leaks ∈ GT := GT_in (by decide +kernel) (by decide +kernel)
theorem mqL_76 : Cond.methodLink RL 76 yX10_leaks ∈ GT := GT_in (by decide +kernel) (by decide +kernel)
theorem mqL_77 : Cond.methodLink RL 77 yX8_misuse ∈ GT := GT_in (by decide +kernel) (by decide +kernel)
theorem mqL_81 : Cond.methodLink RL 81 yX10_misuse ∈ GT := GT_in (by decide +kernel) (by decide +kernel)
theorem mqL_82 : Cond.methodLink RL 82 yX8_wrong ∈ GT := GT_in (by decide +kernel) (by decide +kernel)
theorem mqL_85 : Cond.methodLink RL 85 yX10_wrong ∈ GT := GT_in (by decide +kernel) (by decide +kernel)
theorem mqL_86 : Cond.methodLink RL 86 yX8_way ∈ GT := GT_in (by decide +kernel) (by decide +kernel)
theorem mqL_89 : Cond.methodLink RL 89 yX10_way ∈ GT := GT_in (by decide +kernel) (by decide +kernel)
theorem mqL_95 : Cond.methodLink RL 95 yX10_step ∈ GT := GT_in (by decide +kernel) (by decide +kernel)
theorem mqL_96 : Cond.methodLink RL 96 yX10_thrown ∈ GT := GT_in (by decide +kernel) (by decide +kernel)
theorem mqL_99 : Cond.methodLink RL 99 yX8_needed ∈ GT := GT_in (by decide +kernel) (by decide +kernel)
theorem mqL_102 : Cond.methodLink RL 102 yX10_needed ∈ GT := GT_in (by decide +kernel) (by decide +kernel)
theorem mqL_103 : Cond.methodLink RL 103 yX8_idle ∈ GT := GT_in (by decide +kernel) (by decide +kernel)
theorem mqL_106 : Cond.methodLink RL 106 yX10_idle ∈ GT := GT_in (by decide +kernel) (by decide +kernel)
theorem mqL_107 : Cond.methodLink RL 107 yX8_lacking ∈ GT := GT_in (by decide +kernel) (by decide +kernel)
theorem mqL_110 : Cond.methodLink RL 110 yX10_lacking ∈ GT := GT_in (by decide +kernel) (by decide +kernel)
theorem mqL_111 : Cond.methodLink RL 111 yX8_helped ∈ GT := GT_in (by decide +kernel) (by decide +kernel)
theorem mqL_114 : Cond.methodLink RL 114 yX10_helped ∈ GT := GT_in (by decide +kernel) (by decide +kernel)
theorem mqL_115 : Cond.methodLink RL 115 yX8_trim ∈ GT := GT_in (by decide +kernel) (by decide +kernel)
theorem mqL_118 : Cond.methodLink RL 118 yX10_trim ∈ GT := GT_in (by decide +kernel) (by decide +kernel)
theorem mqL_119 : Cond.methodLink RL 119 yX8_cure ∈ GT := GT_in (by decide +kernel) (by decide +kernel)
theorem mqL_122 : Cond.methodLink RL 122 yX10_cure ∈ GT := GT_in (by decide +kernel) (by decide +kernel)
theorem mqL_123 : Cond.methodLink RL 123 yX8_cured ∈ GT := GT_in (by decide +kernel) (by decide +kernel)
theorem mqL_126 : Cond.methodLink RL 126 yX10_cured ∈ GT := GT_in (by decide +kernel) (by decide +kernel)
theorem mqL_127 : Cond.methodLink RL 127 yX8_without ∈ GT := GT_in (by decide +kernel) (by decide +kernel)
theorem mqL_130 : Cond.methodLink RL 130 yX10_without ∈ GT := GT_in (by decide +kernel) (by decide +kernel)
theorem mqL_131 : Cond.methodLink RL 131 yX8_key ∈ GT := GT_in (by decide +kernel) (by decide +kernel)
theorem mqL_134 : Cond.methodLink RL 134 yX10_key ∈ GT := GT_in (by decide +kernel) (by decide +kernel)
theorem mqL_135 : Cond.methodLink RL 135 yX8_count ∈ GT := GT_in (by decide +kernel) (by decide +kernel)
theorem mqL_138 : Cond.methodLink RL 138 yX10_count ∈ GT := GT_in (by decide +kernel) (by decide +kernel)
theorem mqL_139 : Cond.methodLink RL 139 yX8_trouble ∈ GT := GT_in (by decide +kernel) (by decide +kernel)
theorem mqL_142 : Cond.methodLink RL 142 yX10_trouble ∈ GT := GT_in (by decide +kernel) (by decide +kernel)
set_option maxHeartbeats 4000000 in
theorem lc_0 {X : CX} {G : Gm} {nm : String} {Q : State → Prop} {b L j c1 s1 : Nat} {xs : Nat → Int32} {I : Nat → Nat → Int32} {J : Nat → Nat → Int64} (C : Cx X G (iLaw nm)) (hx : LX b L xs X G) (hL : L ≤ 3072) (hj : 6 * j + 6 ≤ L) (hI : InvE I) (hc : c1 + 1 ≤ 601024) (hs : s1 + 6 ≤ 7293034) (nx : ∀ I2 J2, InvE I2 → ∀ a5 a6 : Value, Go X G 7 (c1 + 1) (s1 + 6) Q 1003 [.ref b, .ref (G.1 + 0), .ref (G.1 + 103), .ref (G.1 + 124), .int (nI (6 * j)), a5, a6] [] (mm I2 J2)) (a5 a6 : Value) : Go X G 7 c1 s1 Q 168 [.ref b, .ref (G.1 + 0), .ref (G.1 + 103), .ref (G.1 + 124), .int (nI (6 * j)), a5, a6] [] (mm I J) := by
  refine g_aload_n C dL_law_168 rfl ?_
  refine g_aload_n C dL_law_169 rfl ?_
  refine g_iload C dL_law_170 rfl ?_
  refine g_iconst (v := 1) C dL_law_172 (by decide) ?_
  refine g_iadd C dL_law_173 ?_
  rw [show nI (6 * j) + 1 = nI (6 * j + 1) from nI_add (6 * j) 1]
  refine g_sld (i := 6 * j + 1) hx C dL_law_174 (by omega) hL ?_
  refine g_callV (ci := 8) (o := 0) (As := [.int (xs (6 * j + 1))]) (rest := []) C dL_law_175 vwX8_part mqL_19 ⟨Nat.le_of_ble_eq_true rfl, Nat.le_of_ble_eq_true rfl⟩ rfl ly_0 (show 0 < 125 by decide) (c_part hI ((xs (6 * j + 1)))) rfl (Nat.le_of_ble_eq_true rfl) rfl ⟨show c1 + 0 ≤ 601024 by omega, show s1 + 0 ≤ 7293034 by omega⟩ _ rfl (fun v M2 hp => ?_)
  obtain ⟨x, I1, rfl, rfl, hm⟩ := hp
  refine g_aload_n C dL_law_178 rfl ?_
  refine g_aload_n C dL_law_179 rfl ?_
  refine g_iload C dL_law_180 rfl ?_
  refine g_iconst (v := 1) C dL_law_182 (by decide) ?_
  refine g_iadd C dL_law_183 ?_
  rw [show nI (6 * j) + 1 = nI (6 * j + 1) from nI_add (6 * j) 1]
  refine g_sld (i := 6 * j + 1) hx C dL_law_184 (by omega) hL ?_
  refine g_callV (ci := 10) (o := 103) (As := [.int (xs (6 * j + 1))]) (rest := [.int x]) C dL_law_185 vwX10_part mqL_22 ⟨Nat.le_of_ble_eq_true rfl, Nat.le_of_ble_eq_true rfl⟩ rfl ly_103 (show 103 < 125 by decide) hm rfl (Nat.le_of_ble_eq_true rfl) rfl ⟨show c1 + 0 + 0 ≤ 601024 by omega, show s1 + 0 + 0 ≤ 7293034 by omega⟩ _ rfl (fun v M2 hp => ?_)
  obtain ⟨rfl, I2, rfl, hI2⟩ := hp
  refine g_icmp_eq 1003 C dL_law_188 (by decide) (fun _ => ?_) (fun q => absurd rfl q)
  exact Go.widen (show c1 + 0 + 0 ≤ c1 + 1 by omega) (show s1 + 0 + 0 ≤ s1 + 6 by omega) (nx I2 _ hI2 a5 a6)
set_option maxHeartbeats 4000000 in
theorem lc_1 {X : CX} {G : Gm} {nm : String} {Q : State → Prop} {b L j c1 s1 : Nat} {xs : Nat → Int32} {I : Nat → Nat → Int32} {J : Nat → Nat → Int64} (C : Cx X G (iLaw nm)) (hx : LX b L xs X G) (hL : L ≤ 3072) (hj : 6 * j + 6 ≤ L) (hI : InvE I) (hc : c1 + 1 ≤ 601024) (hs : s1 + 6 ≤ 7293034) (nx : ∀ I2 J2, InvE I2 → ∀ a5 a6 : Value, Go X G 7 (c1 + 1) (s1 + 6) Q 1003 [.ref b, .ref (G.1 + 0), .ref (G.1 + 103), .ref (G.1 + 124), .int (nI (6 * j)), a5, a6] [] (mm I2 J2)) (a5 a6 : Value) : Go X G 7 c1 s1 Q 193 [.ref b, .ref (G.1 + 0), .ref (G.1 + 103), .ref (G.1 + 124), .int (nI (6 * j)), a5, a6] [] (mm I J) := by
  refine g_aload_n C dL_law_193 rfl ?_
  refine g_aload_n C dL_law_194 rfl ?_
  refine g_iload C dL_law_195 rfl ?_
  refine g_iconst (v := 1) C dL_law_197 (by decide) ?_
  refine g_iadd C dL_law_198 ?_
  rw [show nI (6 * j) + 1 = nI (6 * j + 1) from nI_add (6 * j) 1]
  refine g_sld (i := 6 * j + 1) hx C dL_law_199 (by omega) hL ?_
  refine g_aload_n C dL_law_200 rfl ?_
  refine g_iload C dL_law_201 rfl ?_
  refine g_iconst (v := 2) C dL_law_203 (by decide) ?_
  refine g_iadd C dL_law_204 ?_
  rw [show nI (6 * j) + 2 = nI (6 * j + 2) from nI_add (6 * j) 2]
  refine g_sld (i := 6 * j + 2) hx C dL_law_205 (by omega) hL ?_
  refine g_callV (ci := 8) (o := 0) (As := [.int (xs (6 * j + 1)), .int (xs (6 * j + 2))]) (rest := []) C dL_law_206 vwX8_grant mqL_23 ⟨Nat.le_of_ble_eq_true rfl, Nat.le_of_ble_eq_true rfl⟩ rfl ly_0 (show 0 < 125 by decide) (c_grant hI ((xs (6 * j + 1))) ((xs (6 * j + 2)))) rfl (Nat.le_of_ble_eq_true rfl) rfl ⟨show c1 + 0 ≤ 601024 by omega, show s1 + 0 ≤ 7293034 by omega⟩ _ rfl (fun v M2 hp => ?_)
  obtain ⟨x, I1, rfl, rfl, hm⟩ := hp
  refine g_aload_n C dL_law_209 rfl ?_
  refine g_aload_n C dL_law_210 rfl ?_
  refine g_iload C dL_law_211 rfl ?_
  refine g_iconst (v := 1) C dL_law_213 (by decide) ?_
  refine g_iadd C dL_law_214 ?_
  rw [show nI (6 * j) + 1 = nI (6 * j + 1) from nI_add (6 * j) 1]
  refine g_sld (i := 6 * j + 1) hx C dL_law_215 (by omega) hL ?_
  refine g_aload_n C dL_law_216 rfl ?_
  refine g_iload C dL_law_217 rfl ?_
  refine g_iconst (v := 2) C dL_law_219 (by decide) ?_
  refine g_iadd C dL_law_220 ?_
  rw [show nI (6 * j) + 2 = nI (6 * j + 2) from nI_add (6 * j) 2]
  refine g_sld (i := 6 * j + 2) hx C dL_law_221 (by omega) hL ?_
  refine g_callV (ci := 10) (o := 103) (As := [.int (xs (6 * j + 1)), .int (xs (6 * j + 2))]) (rest := [.int x]) C dL_law_222 vwX10_grant mqL_27 ⟨Nat.le_of_ble_eq_true rfl, Nat.le_of_ble_eq_true rfl⟩ rfl ly_103 (show 103 < 125 by decide) hm rfl (Nat.le_of_ble_eq_true rfl) rfl ⟨show c1 + 0 + 0 ≤ 601024 by omega, show s1 + 0 + 0 ≤ 7293034 by omega⟩ _ rfl (fun v M2 hp => ?_)
  obtain ⟨rfl, I2, rfl, hI2⟩ := hp
  refine g_icmp_eq 1003 C dL_law_225 (by decide) (fun _ => ?_) (fun q => absurd rfl q)
  exact Go.widen (show c1 + 0 + 0 ≤ c1 + 1 by omega) (show s1 + 0 + 0 ≤ s1 + 6 by omega) (nx I2 _ hI2 a5 a6)
set_option maxHeartbeats 4000000 in
theorem lc_2 {X : CX} {G : Gm} {nm : String} {Q : State → Prop} {b L j c1 s1 : Nat} {xs : Nat → Int32} {I : Nat → Nat → Int32} {J : Nat → Nat → Int64} (C : Cx X G (iLaw nm)) (hx : LX b L xs X G) (hL : L ≤ 3072) (hj : 6 * j + 6 ≤ L) (hI : InvE I) (hc : c1 + 1 ≤ 601024) (hs : s1 + 6 ≤ 7293034) (nx : ∀ I2 J2, InvE I2 → ∀ a5 a6 : Value, Go X G 7 (c1 + 1) (s1 + 6) Q 1003 [.ref b, .ref (G.1 + 0), .ref (G.1 + 103), .ref (G.1 + 124), .int (nI (6 * j)), a5, a6] [] (mm I2 J2)) (a5 a6 : Value) : Go X G 7 c1 s1 Q 230 [.ref b, .ref (G.1 + 0), .ref (G.1 + 103), .ref (G.1 + 124), .int (nI (6 * j)), a5, a6] [] (mm I J) := by
  refine g_aload_n C dL_law_230 rfl ?_
  refine g_aload_n C dL_law_231 rfl ?_
  refine g_iload C dL_law_232 rfl ?_
  refine g_iconst (v := 1) C dL_law_234 (by decide) ?_
  refine g_iadd C dL_law_235 ?_
  rw [show nI (6 * j) + 1 = nI (6 * j + 1) from nI_add (6 * j) 1]
  refine g_sld (i := 6 * j + 1) hx C dL_law_236 (by omega) hL ?_
  refine g_aload_n C dL_law_237 rfl ?_
  refine g_iload C dL_law_238 rfl ?_
  refine g_iconst (v := 2) C dL_law_240 (by decide) ?_
  refine g_iadd C dL_law_241 ?_
  rw [show nI (6 * j) + 2 = nI (6 * j + 2) from nI_add (6 * j) 2]
  refine g_sld (i := 6 * j + 2) hx C dL_law_242 (by omega) hL ?_
  refine g_aload_n C dL_law_243 rfl ?_
  refine g_iload C dL_law_244 rfl ?_
  refine g_iconst (v := 3) C dL_law_246 (by decide) ?_
  refine g_iadd C dL_law_247 ?_
  rw [show nI (6 * j) + 3 = nI (6 * j + 3) from nI_add (6 * j) 3]
  refine g_sld (i := 6 * j + 3) hx C dL_law_248 (by omega) hL ?_
  refine g_aload_n C dL_law_249 rfl ?_
  refine g_iload C dL_law_250 rfl ?_
  refine g_iconst (v := 4) C dL_law_252 (by decide) ?_
  refine g_iadd C dL_law_253 ?_
  rw [show nI (6 * j) + 4 = nI (6 * j + 4) from nI_add (6 * j) 4]
  refine g_sld (i := 6 * j + 4) hx C dL_law_254 (by omega) hL ?_
  refine g_aload_n C dL_law_255 rfl ?_
  refine g_iload C dL_law_256 rfl ?_
  refine g_iconst (v := 5) C dL_law_258 (by decide) ?_
  refine g_iadd C dL_law_259 ?_
  rw [show nI (6 * j) + 5 = nI (6 * j + 5) from nI_add (6 * j) 5]
  refine g_sld (i := 6 * j + 5) hx C dL_law_260 (by omega) hL ?_
  refine g_callV (ci := 8) (o := 0) (As := [.int (xs (6 * j + 1)), .int (xs (6 * j + 2)), .int (xs (6 * j + 3)), .int (xs (6 * j + 4)), .int (xs (6 * j + 5))]) (rest := []) C dL_law_261 vwX8_feed mqL_28 ⟨Nat.le_of_ble_eq_true rfl, Nat.le_of_ble_eq_true rfl⟩ rfl ly_0 (show 0 < 125 by decide) (c_feed hI ((xs (6 * j + 1))) ((xs (6 * j + 2))) ((xs (6 * j + 3))) ((xs (6 * j + 4))) ((xs (6 * j + 5)))) rfl (Nat.le_of_ble_eq_true rfl) rfl ⟨show c1 + 0 ≤ 601024 by omega, show s1 + 0 ≤ 7293034 by omega⟩ _ rfl (fun v M2 hp => ?_)
  obtain ⟨x, I1, rfl, rfl, hm⟩ := hp
  refine g_aload_n C dL_law_264 rfl ?_
  refine g_aload_n C dL_law_265 rfl ?_
  refine g_iload C dL_law_266 rfl ?_
  refine g_iconst (v := 1) C dL_law_268 (by decide) ?_
  refine g_iadd C dL_law_269 ?_
  rw [show nI (6 * j) + 1 = nI (6 * j + 1) from nI_add (6 * j) 1]
  refine g_sld (i := 6 * j + 1) hx C dL_law_270 (by omega) hL ?_
  refine g_aload_n C dL_law_271 rfl ?_
  refine g_iload C dL_law_272 rfl ?_
  refine g_iconst (v := 2) C dL_law_274 (by decide) ?_
  refine g_iadd C dL_law_275 ?_
  rw [show nI (6 * j) + 2 = nI (6 * j + 2) from nI_add (6 * j) 2]
  refine g_sld (i := 6 * j + 2) hx C dL_law_276 (by omega) hL ?_
  refine g_aload_n C dL_law_277 rfl ?_
  refine g_iload C dL_law_278 rfl ?_
  refine g_iconst (v := 3) C dL_law_280 (by decide) ?_
  refine g_iadd C dL_law_281 ?_
  rw [show nI (6 * j) + 3 = nI (6 * j + 3) from nI_add (6 * j) 3]
  refine g_sld (i := 6 * j + 3) hx C dL_law_282 (by omega) hL ?_
  refine g_aload_n C dL_law_283 rfl ?_
  refine g_iload C dL_law_284 rfl ?_
  refine g_iconst (v := 4) C dL_law_286 (by decide) ?_
  refine g_iadd C dL_law_287 ?_
  rw [show nI (6 * j) + 4 = nI (6 * j + 4) from nI_add (6 * j) 4]
  refine g_sld (i := 6 * j + 4) hx C dL_law_288 (by omega) hL ?_
  refine g_aload_n C dL_law_289 rfl ?_
  refine g_iload C dL_law_290 rfl ?_
  refine g_iconst (v := 5) C dL_law_292 (by decide) ?_
  refine g_iadd C dL_law_293 ?_
  rw [show nI (6 * j) + 5 = nI (6 * j + 5) from nI_add (6 * j) 5]
  refine g_sld (i := 6 * j + 5) hx C dL_law_294 (by omega) hL ?_
  refine g_callV (ci := 10) (o := 103) (As := [.int (xs (6 * j + 1)), .int (xs (6 * j + 2)), .int (xs (6 * j + 3)), .int (xs (6 * j + 4)), .int (xs (6 * j + 5))]) (rest := [.int x]) C dL_law_295 vwX10_feed mqL_32 ⟨Nat.le_of_ble_eq_true rfl, Nat.le_of_ble_eq_true rfl⟩ rfl ly_103 (show 103 < 125 by decide) hm rfl (Nat.le_of_ble_eq_true rfl) rfl ⟨show c1 + 0 + 0 ≤ 601024 by omega, show s1 + 0 + 0 ≤ 7293034 by omega⟩ _ rfl (fun v M2 hp => ?_)
  obtain ⟨rfl, I2, rfl, hI2⟩ := hp
  refine g_icmp_eq 1003 C dL_law_298 (by decide) (fun _ => ?_) (fun q => absurd rfl q)
  exact Go.widen (show c1 + 0 + 0 ≤ c1 + 1 by omega) (show s1 + 0 + 0 ≤ s1 + 6 by omega) (nx I2 _ hI2 a5 a6)
set_option maxHeartbeats 4000000 in
theorem lc_3 {X : CX} {G : Gm} {nm : String} {Q : State → Prop} {b L j c1 s1 : Nat} {xs : Nat → Int32} {I : Nat → Nat → Int32} {J : Nat → Nat → Int64} (C : Cx X G (iLaw nm)) (hx : LX b L xs X G) (hL : L ≤ 3072) (hj : 6 * j + 6 ≤ L) (hI : InvE I) (hc : c1 + 1 ≤ 601024) (hs : s1 + 6 ≤ 7293034) (nx : ∀ I2 J2, InvE I2 → ∀ a5 a6 : Value, Go X G 7 (c1 + 1) (s1 + 6) Q 1003 [.ref b, .ref (G.1 + 0), .ref (G.1 + 103), .ref (G.1 + 124), .int (nI (6 * j)), a5, a6] [] (mm I2 J2)) (a5 a6 : Value) : Go X G 7 c1 s1 Q 303 [.ref b, .ref (G.1 + 0), .ref (G.1 + 103), .ref (G.1 + 124), .int (nI (6 * j)), a5, a6] [] (mm I J) := by
  refine g_aload_n C dL_law_303 rfl ?_
  refine g_aload_n C dL_law_304 rfl ?_
  refine g_iload C dL_law_305 rfl ?_
  refine g_iconst (v := 1) C dL_law_307 (by decide) ?_
  refine g_iadd C dL_law_308 ?_
  rw [show nI (6 * j) + 1 = nI (6 * j + 1) from nI_add (6 * j) 1]
  refine g_sld (i := 6 * j + 1) hx C dL_law_309 (by omega) hL ?_
  refine g_aload_n C dL_law_310 rfl ?_
  refine g_iload C dL_law_311 rfl ?_
  refine g_iconst (v := 2) C dL_law_313 (by decide) ?_
  refine g_iadd C dL_law_314 ?_
  rw [show nI (6 * j) + 2 = nI (6 * j + 2) from nI_add (6 * j) 2]
  refine g_sld (i := 6 * j + 2) hx C dL_law_315 (by omega) hL ?_
  refine g_callV (ci := 8) (o := 0) (As := [.int (xs (6 * j + 1)), .int (xs (6 * j + 2))]) (rest := []) C dL_law_316 vwX8_lines mqL_33 ⟨Nat.le_of_ble_eq_true rfl, Nat.le_of_ble_eq_true rfl⟩ rfl ly_0 (show 0 < 125 by decide) (c_lines hI ((xs (6 * j + 1))) ((xs (6 * j + 2)))) rfl (Nat.le_of_ble_eq_true rfl) rfl ⟨show c1 + 0 ≤ 601024 by omega, show s1 + 0 ≤ 7293034 by omega⟩ _ rfl (fun v M2 hp => ?_)
  obtain ⟨x, I1, rfl, rfl, hm⟩ := hp
  refine g_aload_n C dL_law_319 rfl ?_
  refine g_aload_n C dL_law_320 rfl ?_
  refine g_iload C dL_law_321 rfl ?_
  refine g_iconst (v := 1) C dL_law_323 (by decide) ?_
  refine g_iadd C dL_law_324 ?_
  rw [show nI (6 * j) + 1 = nI (6 * j + 1) from nI_add (6 * j) 1]
  refine g_sld (i := 6 * j + 1) hx C dL_law_325 (by omega) hL ?_
  refine g_aload_n C dL_law_326 rfl ?_
  refine g_iload C dL_law_327 rfl ?_
  refine g_iconst (v := 2) C dL_law_329 (by decide) ?_
  refine g_iadd C dL_law_330 ?_
  rw [show nI (6 * j) + 2 = nI (6 * j + 2) from nI_add (6 * j) 2]
  refine g_sld (i := 6 * j + 2) hx C dL_law_331 (by omega) hL ?_
  refine g_callVW (hh := hhL) (ci := 10) (o := 103) (As := [.int (xs (6 * j + 1)), .int (xs (6 * j + 2))]) (rest := [.int x]) C dL_law_332 cwX10_lines (GT_in (by decide +kernel) (by decide +kernel)) (GT_in (by decide +kernel) (by decide +kernel)) mqL_37 ⟨Nat.le_of_ble_eq_true rfl, Nat.le_of_ble_eq_true rfl⟩ rfl ly_103 (show 103 < 125 by decide) hm rfl (Nat.le_of_ble_eq_true rfl) rfl ⟨show c1 + 0 + 0 ≤ 601024 by omega, show s1 + 0 + 0 ≤ 7293034 by omega⟩ _ rfl (fun v M2 hp => ?_)
  obtain ⟨rfl, I2, J2, rfl, hI2⟩ := hp
  refine g_icmp_eq 1003 C dL_law_335 (by decide) (fun _ => ?_) (fun q => absurd rfl q)
  exact Go.widen (show c1 + 0 + 0 ≤ c1 + 1 by omega) (show s1 + 0 + 0 ≤ s1 + 6 by omega) (nx I2 _ hI2 a5 a6)
set_option maxHeartbeats 4000000 in
theorem lc_4 {X : CX} {G : Gm} {nm : String} {Q : State → Prop} {b L j c1 s1 : Nat} {xs : Nat → Int32} {I : Nat → Nat → Int32} {J : Nat → Nat → Int64} (C : Cx X G (iLaw nm)) (hx : LX b L xs X G) (hL : L ≤ 3072) (hj : 6 * j + 6 ≤ L) (hI : InvE I) (hc : c1 + 1 ≤ 601024) (hs : s1 + 6 ≤ 7293034) (nx : ∀ I2 J2, InvE I2 → ∀ a5 a6 : Value, Go X G 7 (c1 + 1) (s1 + 6) Q 1003 [.ref b, .ref (G.1 + 0), .ref (G.1 + 103), .ref (G.1 + 124), .int (nI (6 * j)), a5, a6] [] (mm I2 J2)) (a5 a6 : Value) : Go X G 7 c1 s1 Q 340 [.ref b, .ref (G.1 + 0), .ref (G.1 + 103), .ref (G.1 + 124), .int (nI (6 * j)), a5, a6] [] (mm I J) := by
  refine g_aload_n C dL_law_340 rfl ?_
  refine g_callV (ci := 8) (o := 0) (As := []) (rest := []) C dL_law_341 vwX8_fault mqL_38 ⟨Nat.le_of_ble_eq_true rfl, Nat.le_of_ble_eq_true rfl⟩ rfl ly_0 (show 0 < 125 by decide) (c_fault hI) rfl (Nat.le_of_ble_eq_true rfl) rfl ⟨show c1 + 0 ≤ 601024 by omega, show s1 + 0 ≤ 7293034 by omega⟩ _ rfl (fun v M2 hp => ?_)
  obtain ⟨x, I1, rfl, rfl, hm⟩ := hp
  refine g_aload_n C dL_law_344 rfl ?_
  refine g_callV (ci := 10) (o := 103) (As := []) (rest := [.int x]) C dL_law_345 vwX10_fault mqL_42 ⟨Nat.le_of_ble_eq_true rfl, Nat.le_of_ble_eq_true rfl⟩ rfl ly_103 (show 103 < 125 by decide) hm rfl (Nat.le_of_ble_eq_true rfl) rfl ⟨show c1 + 0 + 0 ≤ 601024 by omega, show s1 + 0 + 0 ≤ 7293034 by omega⟩ _ rfl (fun v M2 hp => ?_)
  obtain ⟨rfl, I2, rfl, hI2⟩ := hp
  refine g_icmp_eq 1003 C dL_law_348 (by decide) (fun _ => ?_) (fun q => absurd rfl q)
  exact Go.widen (show c1 + 0 + 0 ≤ c1 + 1 by omega) (show s1 + 0 + 0 ≤ s1 + 6 by omega) (nx I2 _ hI2 a5 a6)
set_option maxHeartbeats 4000000 in
theorem lc_5 {X : CX} {G : Gm} {nm : String} {Q : State → Prop} {b L j c1 s1 : Nat} {xs : Nat → Int32} {I : Nat → Nat → Int32} {J : Nat → Nat → Int64} (C : Cx X G (iLaw nm)) (hx : LX b L xs X G) (hL : L ≤ 3072) (hj : 6 * j + 6 ≤ L) (hI : InvE I) (hc : c1 + 1 ≤ 601024) (hs : s1 + 6 ≤ 7293034) (nx : ∀ I2 J2, InvE I2 → ∀ a5 a6 : Value, Go X G 7 (c1 + 1) (s1 + 6) Q 1003 [.ref b, .ref (G.1 + 0), .ref (G.1 + 103), .ref (G.1 + 124), .int (nI (6 * j)), a5, a6] [] (mm I2 J2)) (a5 a6 : Value) : Go X G 7 c1 s1 Q 353 [.ref b, .ref (G.1 + 0), .ref (G.1 + 103), .ref (G.1 + 124), .int (nI (6 * j)), a5, a6] [] (mm I J) := by
  refine g_aload_n C dL_law_353 rfl ?_
  refine g_callV (ci := 8) (o := 0) (As := []) (rest := []) C dL_law_354 vwX8_where mqL_43 ⟨Nat.le_of_ble_eq_true rfl, Nat.le_of_ble_eq_true rfl⟩ rfl ly_0 (show 0 < 125 by decide) (c_where hI) rfl (Nat.le_of_ble_eq_true rfl) rfl ⟨show c1 + 0 ≤ 601024 by omega, show s1 + 0 ≤ 7293034 by omega⟩ _ rfl (fun v M2 hp => ?_)
  obtain ⟨x, I1, rfl, rfl, hm⟩ := hp
  refine g_aload_n C dL_law_357 rfl ?_
  refine g_callV (ci := 10) (o := 103) (As := []) (rest := [.int x]) C dL_law_358 vwX10_where mqL_46 ⟨Nat.le_of_ble_eq_true rfl, Nat.le_of_ble_eq_true rfl⟩ rfl ly_103 (show 103 < 125 by decide) hm rfl (Nat.le_of_ble_eq_true rfl) rfl ⟨show c1 + 0 + 0 ≤ 601024 by omega, show s1 + 0 + 0 ≤ 7293034 by omega⟩ _ rfl (fun v M2 hp => ?_)
  obtain ⟨rfl, I2, rfl, hI2⟩ := hp
  refine g_icmp_eq 1003 C dL_law_361 (by decide) (fun _ => ?_) (fun q => absurd rfl q)
  exact Go.widen (show c1 + 0 + 0 ≤ c1 + 1 by omega) (show s1 + 0 + 0 ≤ s1 + 6 by omega) (nx I2 _ hI2 a5 a6)
set_option maxHeartbeats 4000000 in
theorem lc_6 {X : CX} {G : Gm} {nm : String} {Q : State → Prop} {b L j c1 s1 : Nat} {xs : Nat → Int32} {I : Nat → Nat → Int32} {J : Nat → Nat → Int64} (C : Cx X G (iLaw nm)) (hx : LX b L xs X G) (hL : L ≤ 3072) (hj : 6 * j + 6 ≤ L) (hI : InvE I) (hc : c1 + 1 ≤ 601024) (hs : s1 + 6 ≤ 7293034) (nx : ∀ I2 J2, InvE I2 → ∀ a5 a6 : Value, Go X G 7 (c1 + 1) (s1 + 6) Q 1003 [.ref b, .ref (G.1 + 0), .ref (G.1 + 103), .ref (G.1 + 124), .int (nI (6 * j)), a5, a6] [] (mm I2 J2)) (a5 a6 : Value) : Go X G 7 c1 s1 Q 366 [.ref b, .ref (G.1 + 0), .ref (G.1 + 103), .ref (G.1 + 124), .int (nI (6 * j)), a5, a6] [] (mm I J) := by
  refine g_aload_n C dL_law_366 rfl ?_
  refine g_aload_n C dL_law_367 rfl ?_
  refine g_iload C dL_law_368 rfl ?_
  refine g_iconst (v := 1) C dL_law_370 (by decide) ?_
  refine g_iadd C dL_law_371 ?_
  rw [show nI (6 * j) + 1 = nI (6 * j + 1) from nI_add (6 * j) 1]
  refine g_sld (i := 6 * j + 1) hx C dL_law_372 (by omega) hL ?_
  refine g_aload_n C dL_law_373 rfl ?_
  refine g_iload C dL_law_374 rfl ?_
  refine g_iconst (v := 2) C dL_law_376 (by decide) ?_
  refine g_iadd C dL_law_377 ?_
  rw [show nI (6 * j) + 2 = nI (6 * j + 2) from nI_add (6 * j) 2]
  refine g_sld (i := 6 * j + 2) hx C dL_law_378 (by omega) hL ?_
  refine g_aload_n C dL_law_379 rfl ?_
  refine g_iload C dL_law_380 rfl ?_
  refine g_iconst (v := 3) C dL_law_382 (by decide) ?_
  refine g_iadd C dL_law_383 ?_
  rw [show nI (6 * j) + 3 = nI (6 * j + 3) from nI_add (6 * j) 3]
  refine g_sld (i := 6 * j + 3) hx C dL_law_384 (by omega) hL ?_
  refine g_callV (ci := 8) (o := 0) (As := [.int (xs (6 * j + 1)), .int (xs (6 * j + 2)), .int (xs (6 * j + 3))]) (rest := []) C dL_law_385 vwX8_line mqL_47 ⟨Nat.le_of_ble_eq_true rfl, Nat.le_of_ble_eq_true rfl⟩ rfl ly_0 (show 0 < 125 by decide) (c_line hI ((xs (6 * j + 1))) ((xs (6 * j + 2))) ((xs (6 * j + 3)))) rfl (Nat.le_of_ble_eq_true rfl) rfl ⟨show c1 + 0 ≤ 601024 by omega, show s1 + 0 ≤ 7293034 by omega⟩ _ rfl (fun v M2 hp => ?_)
  obtain ⟨x, I1, rfl, rfl, hm⟩ := hp
  refine g_aload_n C dL_law_388 rfl ?_
  refine g_aload_n C dL_law_389 rfl ?_
  refine g_iload C dL_law_390 rfl ?_
  refine g_iconst (v := 1) C dL_law_392 (by decide) ?_
  refine g_iadd C dL_law_393 ?_
  rw [show nI (6 * j) + 1 = nI (6 * j + 1) from nI_add (6 * j) 1]
  refine g_sld (i := 6 * j + 1) hx C dL_law_394 (by omega) hL ?_
  refine g_aload_n C dL_law_395 rfl ?_
  refine g_iload C dL_law_396 rfl ?_
  refine g_iconst (v := 2) C dL_law_398 (by decide) ?_
  refine g_iadd C dL_law_399 ?_
  rw [show nI (6 * j) + 2 = nI (6 * j + 2) from nI_add (6 * j) 2]
  refine g_sld (i := 6 * j + 2) hx C dL_law_400 (by omega) hL ?_
  refine g_aload_n C dL_law_401 rfl ?_
  refine g_iload C dL_law_402 rfl ?_
  refine g_iconst (v := 3) C dL_law_404 (by decide) ?_
  refine g_iadd C dL_law_405 ?_
  rw [show nI (6 * j) + 3 = nI (6 * j + 3) from nI_add (6 * j) 3]
  refine g_sld (i := 6 * j + 3) hx C dL_law_406 (by omega) hL ?_
  refine g_callV (ci := 10) (o := 103) (As := [.int (xs (6 * j + 1)), .int (xs (6 * j + 2)), .int (xs (6 * j + 3))]) (rest := [.int x]) C dL_law_407 vwX10_line mqL_51 ⟨Nat.le_of_ble_eq_true rfl, Nat.le_of_ble_eq_true rfl⟩ rfl ly_103 (show 103 < 125 by decide) hm rfl (Nat.le_of_ble_eq_true rfl) rfl ⟨show c1 + 0 + 0 ≤ 601024 by omega, show s1 + 0 + 0 ≤ 7293034 by omega⟩ _ rfl (fun v M2 hp => ?_)
  obtain ⟨rfl, I2, rfl, hI2⟩ := hp
  refine g_icmp_eq 1003 C dL_law_410 (by decide) (fun _ => ?_) (fun q => absurd rfl q)
  exact Go.widen (show c1 + 0 + 0 ≤ c1 + 1 by omega) (show s1 + 0 + 0 ≤ s1 + 6 by omega) (nx I2 _ hI2 a5 a6)
set_option maxHeartbeats 4000000 in
theorem lc_7 {X : CX} {G : Gm} {nm : String} {Q : State → Prop} {b L j c1 s1 : Nat} {xs : Nat → Int32} {I : Nat → Nat → Int32} {J : Nat → Nat → Int64} (C : Cx X G (iLaw nm)) (hx : LX b L xs X G) (hL : L ≤ 3072) (hj : 6 * j + 6 ≤ L) (hI : InvE I) (hc : c1 + 1 ≤ 601024) (hs : s1 + 6 ≤ 7293034) (nx : ∀ I2 J2, InvE I2 → ∀ a5 a6 : Value, Go X G 7 (c1 + 1) (s1 + 6) Q 1003 [.ref b, .ref (G.1 + 0), .ref (G.1 + 103), .ref (G.1 + 124), .int (nI (6 * j)), a5, a6] [] (mm I2 J2)) (a5 a6 : Value) : Go X G 7 c1 s1 Q 415 [.ref b, .ref (G.1 + 0), .ref (G.1 + 103), .ref (G.1 + 124), .int (nI (6 * j)), a5, a6] [] (mm I J) := by
  refine g_aload_n C dL_law_415 rfl ?_
  refine g_aload_n C dL_law_416 rfl ?_
  refine g_iload C dL_law_417 rfl ?_
  refine g_iconst (v := 1) C dL_law_419 (by decide) ?_
  refine g_iadd C dL_law_420 ?_
  rw [show nI (6 * j) + 1 = nI (6 * j + 1) from nI_add (6 * j) 1]
  refine g_sld (i := 6 * j + 1) hx C dL_law_421 (by omega) hL ?_
  refine g_aload_n C dL_law_422 rfl ?_
  refine g_iload C dL_law_423 rfl ?_
  refine g_iconst (v := 2) C dL_law_425 (by decide) ?_
  refine g_iadd C dL_law_426 ?_
  rw [show nI (6 * j) + 2 = nI (6 * j + 2) from nI_add (6 * j) 2]
  refine g_sld (i := 6 * j + 2) hx C dL_law_427 (by omega) hL ?_
  refine g_aload_n C dL_law_428 rfl ?_
  refine g_iload C dL_law_429 rfl ?_
  refine g_iconst (v := 3) C dL_law_431 (by decide) ?_
  refine g_iadd C dL_law_432 ?_
  rw [show nI (6 * j) + 3 = nI (6 * j + 3) from nI_add (6 * j) 3]
  refine g_sld (i := 6 * j + 3) hx C dL_law_433 (by omega) hL ?_
  refine g_if_eq 441 C dL_law_434 (by decide) (fun hw => ?_) (fun hw => ?_)
  · refine g_iconst (v := 0) C dL_law_441 (by decide) ?_
    refine g_callV (ci := 8) (o := 0) (As := [.int (xs (6 * j + 1)), .int (xs (6 * j + 2)), .int 0]) (rest := []) C dL_law_442 vwX8_meant mqL_52 ⟨Nat.le_of_ble_eq_true rfl, Nat.le_of_ble_eq_true rfl⟩ rfl ly_0 (show 0 < 125 by decide) (c_meant hI ((xs (6 * j + 1))) ((xs (6 * j + 2))) 0) rfl (Nat.le_of_ble_eq_true rfl) rfl ⟨show c1 + 0 ≤ 601024 by omega, show s1 + 0 ≤ 7293034 by omega⟩ _ rfl (fun v M2 hp => ?_)
    obtain ⟨x, I1, rfl, rfl, hm⟩ := hp
    refine g_aload_n C dL_law_445 rfl ?_
    refine g_aload_n C dL_law_446 rfl ?_
    refine g_iload C dL_law_447 rfl ?_
    refine g_iconst (v := 1) C dL_law_449 (by decide) ?_
    refine g_iadd C dL_law_450 ?_
    rw [show nI (6 * j) + 1 = nI (6 * j + 1) from nI_add (6 * j) 1]
    refine g_sld (i := 6 * j + 1) hx C dL_law_451 (by omega) hL ?_
    refine g_aload_n C dL_law_452 rfl ?_
    refine g_iload C dL_law_453 rfl ?_
    refine g_iconst (v := 2) C dL_law_455 (by decide) ?_
    refine g_iadd C dL_law_456 ?_
    rw [show nI (6 * j) + 2 = nI (6 * j + 2) from nI_add (6 * j) 2]
    refine g_sld (i := 6 * j + 2) hx C dL_law_457 (by omega) hL ?_
    refine g_aload_n C dL_law_458 rfl ?_
    refine g_iload C dL_law_459 rfl ?_
    refine g_iconst (v := 3) C dL_law_461 (by decide) ?_
    refine g_iadd C dL_law_462 ?_
    rw [show nI (6 * j) + 3 = nI (6 * j + 3) from nI_add (6 * j) 3]
    refine g_sld (i := 6 * j + 3) hx C dL_law_463 (by omega) hL ?_
    refine g_if_eq 471 C dL_law_464 (by decide) (fun _ => ?_) (fun q => absurd hw q)
    refine g_iconst (v := 0) C dL_law_471 (by decide) ?_
    refine g_callV (ci := 10) (o := 103) (As := [.int (xs (6 * j + 1)), .int (xs (6 * j + 2)), .int 0]) (rest := [.int x]) C dL_law_472 vwX10_meant mqL_56 ⟨Nat.le_of_ble_eq_true rfl, Nat.le_of_ble_eq_true rfl⟩ rfl ly_103 (show 103 < 125 by decide) hm rfl (Nat.le_of_ble_eq_true rfl) rfl ⟨show c1 + 0 + 0 ≤ 601024 by omega, show s1 + 0 + 0 ≤ 7293034 by omega⟩ _ rfl (fun v M2 hp => ?_)
    obtain ⟨rfl, I2, rfl, hI2⟩ := hp
    refine g_icmp_eq 1003 C dL_law_475 (by decide) (fun _ => ?_) (fun q => absurd rfl q)
    exact Go.widen (show c1 + 0 + 0 ≤ c1 + 1 by omega) (show s1 + 0 + 0 ≤ s1 + 6 by omega) (nx I2 _ hI2 a5 a6)
  · refine g_iconst (v := 1) C dL_law_437 (by decide) ?_
    refine g_goto 442 C dL_law_438 (by decide) ?_
    refine g_callV (ci := 8) (o := 0) (As := [.int (xs (6 * j + 1)), .int (xs (6 * j + 2)), .int 1]) (rest := []) C dL_law_442 vwX8_meant mqL_52 ⟨Nat.le_of_ble_eq_true rfl, Nat.le_of_ble_eq_true rfl⟩ rfl ly_0 (show 0 < 125 by decide) (c_meant hI ((xs (6 * j + 1))) ((xs (6 * j + 2))) 1) rfl (Nat.le_of_ble_eq_true rfl) rfl ⟨show c1 + 0 ≤ 601024 by omega, show s1 + 0 ≤ 7293034 by omega⟩ _ rfl (fun v M2 hp => ?_)
    obtain ⟨x, I1, rfl, rfl, hm⟩ := hp
    refine g_aload_n C dL_law_445 rfl ?_
    refine g_aload_n C dL_law_446 rfl ?_
    refine g_iload C dL_law_447 rfl ?_
    refine g_iconst (v := 1) C dL_law_449 (by decide) ?_
    refine g_iadd C dL_law_450 ?_
    rw [show nI (6 * j) + 1 = nI (6 * j + 1) from nI_add (6 * j) 1]
    refine g_sld (i := 6 * j + 1) hx C dL_law_451 (by omega) hL ?_
    refine g_aload_n C dL_law_452 rfl ?_
    refine g_iload C dL_law_453 rfl ?_
    refine g_iconst (v := 2) C dL_law_455 (by decide) ?_
    refine g_iadd C dL_law_456 ?_
    rw [show nI (6 * j) + 2 = nI (6 * j + 2) from nI_add (6 * j) 2]
    refine g_sld (i := 6 * j + 2) hx C dL_law_457 (by omega) hL ?_
    refine g_aload_n C dL_law_458 rfl ?_
    refine g_iload C dL_law_459 rfl ?_
    refine g_iconst (v := 3) C dL_law_461 (by decide) ?_
    refine g_iadd C dL_law_462 ?_
    rw [show nI (6 * j) + 3 = nI (6 * j + 3) from nI_add (6 * j) 3]
    refine g_sld (i := 6 * j + 3) hx C dL_law_463 (by omega) hL ?_
    refine g_if_eq 471 C dL_law_464 (by decide) (fun q => absurd q hw) (fun _ => ?_)
    refine g_iconst (v := 1) C dL_law_467 (by decide) ?_
    refine g_goto 472 C dL_law_468 (by decide) ?_
    refine g_callV (ci := 10) (o := 103) (As := [.int (xs (6 * j + 1)), .int (xs (6 * j + 2)), .int 1]) (rest := [.int x]) C dL_law_472 vwX10_meant mqL_56 ⟨Nat.le_of_ble_eq_true rfl, Nat.le_of_ble_eq_true rfl⟩ rfl ly_103 (show 103 < 125 by decide) hm rfl (Nat.le_of_ble_eq_true rfl) rfl ⟨show c1 + 0 + 0 ≤ 601024 by omega, show s1 + 0 + 0 ≤ 7293034 by omega⟩ _ rfl (fun v M2 hp => ?_)
    obtain ⟨rfl, I2, rfl, hI2⟩ := hp
    refine g_icmp_eq 1003 C dL_law_475 (by decide) (fun _ => ?_) (fun q => absurd rfl q)
    exact Go.widen (show c1 + 0 + 0 ≤ c1 + 1 by omega) (show s1 + 0 + 0 ≤ s1 + 6 by omega) (nx I2 _ hI2 a5 a6)
set_option maxHeartbeats 4000000 in
theorem lc_8 {X : CX} {G : Gm} {nm : String} {Q : State → Prop} {b L j c1 s1 : Nat} {xs : Nat → Int32} {I : Nat → Nat → Int32} {J : Nat → Nat → Int64} (C : Cx X G (iLaw nm)) (hx : LX b L xs X G) (hL : L ≤ 3072) (hj : 6 * j + 6 ≤ L) (hI : InvE I) (hc : c1 + 1 ≤ 601024) (hs : s1 + 6 ≤ 7293034) (nx : ∀ I2 J2, InvE I2 → ∀ a5 a6 : Value, Go X G 7 (c1 + 1) (s1 + 6) Q 1003 [.ref b, .ref (G.1 + 0), .ref (G.1 + 103), .ref (G.1 + 124), .int (nI (6 * j)), a5, a6] [] (mm I2 J2)) (a5 a6 : Value) : Go X G 7 c1 s1 Q 480 [.ref b, .ref (G.1 + 0), .ref (G.1 + 103), .ref (G.1 + 124), .int (nI (6 * j)), a5, a6] [] (mm I J) := by
  refine g_aload_n C dL_law_480 rfl ?_
  refine g_aload_n C dL_law_481 rfl ?_
  refine g_iload C dL_law_482 rfl ?_
  refine g_iconst (v := 1) C dL_law_484 (by decide) ?_
  refine g_iadd C dL_law_485 ?_
  rw [show nI (6 * j) + 1 = nI (6 * j + 1) from nI_add (6 * j) 1]
  refine g_sld (i := 6 * j + 1) hx C dL_law_486 (by omega) hL ?_
  refine g_aload_n C dL_law_487 rfl ?_
  refine g_iload C dL_law_488 rfl ?_
  refine g_iconst (v := 2) C dL_law_490 (by decide) ?_
  refine g_iadd C dL_law_491 ?_
  rw [show nI (6 * j) + 2 = nI (6 * j + 2) from nI_add (6 * j) 2]
  refine g_sld (i := 6 * j + 2) hx C dL_law_492 (by omega) hL ?_
  refine g_callV (ci := 8) (o := 0) (As := [.int (xs (6 * j + 1)), .int (xs (6 * j + 2))]) (rest := []) C dL_law_493 vwX8_holds mqL_57 ⟨Nat.le_of_ble_eq_true rfl, Nat.le_of_ble_eq_true rfl⟩ rfl ly_0 (show 0 < 125 by decide) (c_holds hI ((xs (6 * j + 1))) ((xs (6 * j + 2)))) rfl (Nat.le_of_ble_eq_true rfl) rfl ⟨show c1 + 0 ≤ 601024 by omega, show s1 + 0 ≤ 7293034 by omega⟩ _ rfl (fun v M2 hp => ?_)
  obtain ⟨x, I1, rfl, rfl, hm⟩ := hp
  refine g_aload_n C dL_law_496 rfl ?_
  refine g_aload_n C dL_law_497 rfl ?_
  refine g_iload C dL_law_498 rfl ?_
  refine g_iconst (v := 1) C dL_law_500 (by decide) ?_
  refine g_iadd C dL_law_501 ?_
  rw [show nI (6 * j) + 1 = nI (6 * j + 1) from nI_add (6 * j) 1]
  refine g_sld (i := 6 * j + 1) hx C dL_law_502 (by omega) hL ?_
  refine g_aload_n C dL_law_503 rfl ?_
  refine g_iload C dL_law_504 rfl ?_
  refine g_iconst (v := 2) C dL_law_506 (by decide) ?_
  refine g_iadd C dL_law_507 ?_
  rw [show nI (6 * j) + 2 = nI (6 * j + 2) from nI_add (6 * j) 2]
  refine g_sld (i := 6 * j + 2) hx C dL_law_508 (by omega) hL ?_
  refine g_callV (ci := 10) (o := 103) (As := [.int (xs (6 * j + 1)), .int (xs (6 * j + 2))]) (rest := [.int x]) C dL_law_509 vwX10_holds mqL_60 ⟨Nat.le_of_ble_eq_true rfl, Nat.le_of_ble_eq_true rfl⟩ rfl ly_103 (show 103 < 125 by decide) hm rfl (Nat.le_of_ble_eq_true rfl) rfl ⟨show c1 + 0 + 0 ≤ 601024 by omega, show s1 + 0 + 0 ≤ 7293034 by omega⟩ _ rfl (fun v M2 hp => ?_)
  obtain ⟨rfl, I2, rfl, hI2⟩ := hp
  refine g_icmp_eq 1003 C dL_law_512 (by decide) (fun _ => ?_) (fun q => absurd rfl q)
  exact Go.widen (show c1 + 0 + 0 ≤ c1 + 1 by omega) (show s1 + 0 + 0 ≤ s1 + 6 by omega) (nx I2 _ hI2 a5 a6)
set_option maxHeartbeats 4000000 in
theorem lc_9 {X : CX} {G : Gm} {nm : String} {Q : State → Prop} {b L j c1 s1 : Nat} {xs : Nat → Int32} {I : Nat → Nat → Int32} {J : Nat → Nat → Int64} (C : Cx X G (iLaw nm)) (hx : LX b L xs X G) (hL : L ≤ 3072) (hj : 6 * j + 6 ≤ L) (hI : InvE I) (hc : c1 + 1 ≤ 601024) (hs : s1 + 6 ≤ 7293034) (nx : ∀ I2 J2, InvE I2 → ∀ a5 a6 : Value, Go X G 7 (c1 + 1) (s1 + 6) Q 1003 [.ref b, .ref (G.1 + 0), .ref (G.1 + 103), .ref (G.1 + 124), .int (nI (6 * j)), a5, a6] [] (mm I2 J2)) (a5 a6 : Value) : Go X G 7 c1 s1 Q 517 [.ref b, .ref (G.1 + 0), .ref (G.1 + 103), .ref (G.1 + 124), .int (nI (6 * j)), a5, a6] [] (mm I J) := by
  refine g_aload_n C dL_law_517 rfl ?_
  refine g_aload_n C dL_law_518 rfl ?_
  refine g_iload C dL_law_519 rfl ?_
  refine g_iconst (v := 1) C dL_law_521 (by decide) ?_
  refine g_iadd C dL_law_522 ?_
  rw [show nI (6 * j) + 1 = nI (6 * j + 1) from nI_add (6 * j) 1]
  refine g_sld (i := 6 * j + 1) hx C dL_law_523 (by omega) hL ?_
  refine g_callV (ci := 8) (o := 0) (As := [.int (xs (6 * j + 1))]) (rest := []) C dL_law_524 vwX8_result mqL_61 ⟨Nat.le_of_ble_eq_true rfl, Nat.le_of_ble_eq_true rfl⟩ rfl ly_0 (show 0 < 125 by decide) (c_result hI ((xs (6 * j + 1)))) rfl (Nat.le_of_ble_eq_true rfl) rfl ⟨show c1 + 0 ≤ 601024 by omega, show s1 + 0 ≤ 7293034 by omega⟩ _ rfl (fun v M2 hp => ?_)
  obtain ⟨x, I1, rfl, rfl, hm⟩ := hp
  refine g_aload_n C dL_law_527 rfl ?_
  refine g_aload_n C dL_law_528 rfl ?_
  refine g_iload C dL_law_529 rfl ?_
  refine g_iconst (v := 1) C dL_law_531 (by decide) ?_
  refine g_iadd C dL_law_532 ?_
  rw [show nI (6 * j) + 1 = nI (6 * j + 1) from nI_add (6 * j) 1]
  refine g_sld (i := 6 * j + 1) hx C dL_law_533 (by omega) hL ?_
  refine g_callV (ci := 10) (o := 103) (As := [.int (xs (6 * j + 1))]) (rest := [.int x]) C dL_law_534 vwX10_result mqL_64 ⟨Nat.le_of_ble_eq_true rfl, Nat.le_of_ble_eq_true rfl⟩ rfl ly_103 (show 103 < 125 by decide) hm rfl (Nat.le_of_ble_eq_true rfl) rfl ⟨show c1 + 0 + 0 ≤ 601024 by omega, show s1 + 0 + 0 ≤ 7293034 by omega⟩ _ rfl (fun v M2 hp => ?_)
  obtain ⟨rfl, I2, rfl, hI2⟩ := hp
  refine g_icmp_eq 1003 C dL_law_537 (by decide) (fun _ => ?_) (fun q => absurd rfl q)
  exact Go.widen (show c1 + 0 + 0 ≤ c1 + 1 by omega) (show s1 + 0 + 0 ≤ s1 + 6 by omega) (nx I2 _ hI2 a5 a6)
set_option maxHeartbeats 4000000 in
theorem lc_10 {X : CX} {G : Gm} {nm : String} {Q : State → Prop} {b L j c1 s1 : Nat} {xs : Nat → Int32} {I : Nat → Nat → Int32} {J : Nat → Nat → Int64} (C : Cx X G (iLaw nm)) (hx : LX b L xs X G) (hL : L ≤ 3072) (hj : 6 * j + 6 ≤ L) (hI : InvE I) (hc : c1 + 1 ≤ 601024) (hs : s1 + 6 ≤ 7293034) (nx : ∀ I2 J2, InvE I2 → ∀ a5 a6 : Value, Go X G 7 (c1 + 1) (s1 + 6) Q 1003 [.ref b, .ref (G.1 + 0), .ref (G.1 + 103), .ref (G.1 + 124), .int (nI (6 * j)), a5, a6] [] (mm I2 J2)) (a5 a6 : Value) : Go X G 7 c1 s1 Q 542 [.ref b, .ref (G.1 + 0), .ref (G.1 + 103), .ref (G.1 + 124), .int (nI (6 * j)), a5, a6] [] (mm I J) := by
  refine g_aload_n C dL_law_542 rfl ?_
  refine g_aload_n C dL_law_543 rfl ?_
  refine g_iload C dL_law_544 rfl ?_
  refine g_iconst (v := 1) C dL_law_546 (by decide) ?_
  refine g_iadd C dL_law_547 ?_
  rw [show nI (6 * j) + 1 = nI (6 * j + 1) from nI_add (6 * j) 1]
  refine g_sld (i := 6 * j + 1) hx C dL_law_548 (by omega) hL ?_
  refine g_callV (ci := 8) (o := 0) (As := [.int (xs (6 * j + 1))]) (rest := []) C dL_law_549 vwX8_asked mqL_65 ⟨Nat.le_of_ble_eq_true rfl, Nat.le_of_ble_eq_true rfl⟩ rfl ly_0 (show 0 < 125 by decide) (c_asked hI ((xs (6 * j + 1)))) rfl (Nat.le_of_ble_eq_true rfl) rfl ⟨show c1 + 0 ≤ 601024 by omega, show s1 + 0 ≤ 7293034 by omega⟩ _ rfl (fun v M2 hp => ?_)
  obtain ⟨x, I1, rfl, rfl, hm⟩ := hp
  refine g_aload_n C dL_law_552 rfl ?_
  refine g_aload_n C dL_law_553 rfl ?_
  refine g_iload C dL_law_554 rfl ?_
  refine g_iconst (v := 1) C dL_law_556 (by decide) ?_
  refine g_iadd C dL_law_557 ?_
  rw [show nI (6 * j) + 1 = nI (6 * j + 1) from nI_add (6 * j) 1]
  refine g_sld (i := 6 * j + 1) hx C dL_law_558 (by omega) hL ?_
  refine g_callV (ci := 10) (o := 103) (As := [.int (xs (6 * j + 1))]) (rest := [.int x]) C dL_law_559 vwX10_asked mqL_68 ⟨Nat.le_of_ble_eq_true rfl, Nat.le_of_ble_eq_true rfl⟩ rfl ly_103 (show 103 < 125 by decide) hm rfl (Nat.le_of_ble_eq_true rfl) rfl ⟨show c1 + 0 + 0 ≤ 601024 by omega, show s1 + 0 + 0 ≤ 7293034 by omega⟩ _ rfl (fun v M2 hp => ?_)
  obtain ⟨rfl, I2, rfl, hI2⟩ := hp
  refine g_icmp_eq 1003 C dL_law_562 (by decide) (fun _ => ?_) (fun q => absurd rfl q)
  exact Go.widen (show c1 + 0 + 0 ≤ c1 + 1 by omega) (show s1 + 0 + 0 ≤ s1 + 6 by omega) (nx I2 _ hI2 a5 a6)
set_option maxHeartbeats 4000000 in
theorem lc_11 {X : CX} {G : Gm} {nm : String} {Q : State → Prop} {b L j c1 s1 : Nat} {xs : Nat → Int32} {I : Nat → Nat → Int32} {J : Nat → Nat → Int64} (C : Cx X G (iLaw nm)) (hx : LX b L xs X G) (hL : L ≤ 3072) (hj : 6 * j + 6 ≤ L) (hI : InvE I) (hc : c1 + 1 ≤ 601024) (hs : s1 + 6 ≤ 7293034) (nx : ∀ I2 J2, InvE I2 → ∀ a5 a6 : Value, Go X G 7 (c1 + 1) (s1 + 6) Q 1003 [.ref b, .ref (G.1 + 0), .ref (G.1 + 103), .ref (G.1 + 124), .int (nI (6 * j)), a5, a6] [] (mm I2 J2)) (a5 a6 : Value) : Go X G 7 c1 s1 Q 567 [.ref b, .ref (G.1 + 0), .ref (G.1 + 103), .ref (G.1 + 124), .int (nI (6 * j)), a5, a6] [] (mm I J) := by
  refine g_aload_n C dL_law_567 rfl ?_
  refine g_aload_n C dL_law_568 rfl ?_
  refine g_iload C dL_law_569 rfl ?_
  refine g_iconst (v := 1) C dL_law_571 (by decide) ?_
  refine g_iadd C dL_law_572 ?_
  rw [show nI (6 * j) + 1 = nI (6 * j + 1) from nI_add (6 * j) 1]
  refine g_sld (i := 6 * j + 1) hx C dL_law_573 (by omega) hL ?_
  refine g_callV (ci := 8) (o := 0) (As := [.int (xs (6 * j + 1))]) (rest := []) C dL_law_574 vwX8_door mqL_69 ⟨Nat.le_of_ble_eq_true rfl, Nat.le_of_ble_eq_true rfl⟩ rfl ly_0 (show 0 < 125 by decide) (c_door hI ((xs (6 * j + 1)))) rfl (Nat.le_of_ble_eq_true rfl) rfl ⟨show c1 + 0 ≤ 601024 by omega, show s1 + 0 ≤ 7293034 by omega⟩ _ rfl (fun v M2 hp => ?_)
  obtain ⟨x, I1, rfl, rfl, hm⟩ := hp
  refine g_aload_n C dL_law_577 rfl ?_
  refine g_aload_n C dL_law_578 rfl ?_
  refine g_iload C dL_law_579 rfl ?_
  refine g_iconst (v := 1) C dL_law_581 (by decide) ?_
  refine g_iadd C dL_law_582 ?_
  rw [show nI (6 * j) + 1 = nI (6 * j + 1) from nI_add (6 * j) 1]
  refine g_sld (i := 6 * j + 1) hx C dL_law_583 (by omega) hL ?_
  refine g_callV (ci := 10) (o := 103) (As := [.int (xs (6 * j + 1))]) (rest := [.int x]) C dL_law_584 vwX10_door mqL_72 ⟨Nat.le_of_ble_eq_true rfl, Nat.le_of_ble_eq_true rfl⟩ rfl ly_103 (show 103 < 125 by decide) hm rfl (Nat.le_of_ble_eq_true rfl) rfl ⟨show c1 + 0 + 0 ≤ 601024 by omega, show s1 + 0 + 0 ≤ 7293034 by omega⟩ _ rfl (fun v M2 hp => ?_)
  obtain ⟨rfl, I2, rfl, hI2⟩ := hp
  refine g_icmp_eq 1003 C dL_law_587 (by decide) (fun _ => ?_) (fun q => absurd rfl q)
  exact Go.widen (show c1 + 0 + 0 ≤ c1 + 1 by omega) (show s1 + 0 + 0 ≤ s1 + 6 by omega) (nx I2 _ hI2 a5 a6)
set_option maxHeartbeats 4000000 in
theorem lc_12 {X : CX} {G : Gm} {nm : String} {Q : State → Prop} {b L j c1 s1 : Nat} {xs : Nat → Int32} {I : Nat → Nat → Int32} {J : Nat → Nat → Int64} (C : Cx X G (iLaw nm)) (hx : LX b L xs X G) (hL : L ≤ 3072) (hj : 6 * j + 6 ≤ L) (hI : InvE I) (hc : c1 + 1 ≤ 601024) (hs : s1 + 6 ≤ 7293034) (nx : ∀ I2 J2, InvE I2 → ∀ a5 a6 : Value, Go X G 7 (c1 + 1) (s1 + 6) Q 1003 [.ref b, .ref (G.1 + 0), .ref (G.1 + 103), .ref (G.1 + 124), .int (nI (6 * j)), a5, a6] [] (mm I2 J2)) (a5 a6 : Value) : Go X G 7 c1 s1 Q 592 [.ref b, .ref (G.1 + 0), .ref (G.1 + 103), .ref (G.1 + 124), .int (nI (6 * j)), a5, a6] [] (mm I J) := by
  refine g_aload_n C dL_law_592 rfl ?_
  refine g_callV (ci := 8) (o := 0) (As := []) (rest := []) C dL_law_593 vwX8_leaks mqL_73 ⟨Nat.le_of_ble_eq_true rfl, Nat.le_of_ble_eq_true rfl⟩ rfl ly_0 (show 0 < 125 by decide) (c_leaks hI) rfl (Nat.le_of_ble_eq_true rfl) rfl ⟨show c1 + 0 ≤ 601024 by omega, show s1 + 0 ≤ 7293034 by omega⟩ _ rfl (fun v M2 hp => ?_)
  obtain ⟨x, I1, rfl, rfl, hm⟩ := hp
  refine g_aload_n C dL_law_596 rfl ?_
  refine g_callV (ci := 10) (o := 103) (As := []) (rest := [.int x]) C dL_law_597 vwX10_leaks mqL_76 ⟨Nat.le_of_ble_eq_true rfl, Nat.le_of_ble_eq_true rfl⟩ rfl ly_103 (show 103 < 125 by decide) hm rfl (Nat.le_of_ble_eq_true rfl) rfl ⟨show c1 + 0 + 0 ≤ 601024 by omega, show s1 + 0 + 0 ≤ 7293034 by omega⟩ _ rfl (fun v M2 hp => ?_)
  obtain ⟨rfl, I2, rfl, hI2⟩ := hp
  refine g_icmp_eq 1003 C dL_law_600 (by decide) (fun _ => ?_) (fun q => absurd rfl q)
  exact Go.widen (show c1 + 0 + 0 ≤ c1 + 1 by omega) (show s1 + 0 + 0 ≤ s1 + 6 by omega) (nx I2 _ hI2 a5 a6)
set_option maxHeartbeats 4000000 in
theorem lc_13 {X : CX} {G : Gm} {nm : String} {Q : State → Prop} {b L j c1 s1 : Nat} {xs : Nat → Int32} {I : Nat → Nat → Int32} {J : Nat → Nat → Int64} (C : Cx X G (iLaw nm)) (hx : LX b L xs X G) (hL : L ≤ 3072) (hj : 6 * j + 6 ≤ L) (hI : InvE I) (hc : c1 + 1 ≤ 601024) (hs : s1 + 6 ≤ 7293034) (nx : ∀ I2 J2, InvE I2 → ∀ a5 a6 : Value, Go X G 7 (c1 + 1) (s1 + 6) Q 1003 [.ref b, .ref (G.1 + 0), .ref (G.1 + 103), .ref (G.1 + 124), .int (nI (6 * j)), a5, a6] [] (mm I2 J2)) (a5 a6 : Value) : Go X G 7 c1 s1 Q 605 [.ref b, .ref (G.1 + 0), .ref (G.1 + 103), .ref (G.1 + 124), .int (nI (6 * j)), a5, a6] [] (mm I J) := by
  refine g_aload_n C dL_law_605 rfl ?_
  refine g_aload_n C dL_law_606 rfl ?_
  refine g_iload C dL_law_607 rfl ?_
  refine g_iconst (v := 1) C dL_law_609 (by decide) ?_
  refine g_iadd C dL_law_610 ?_
  rw [show nI (6 * j) + 1 = nI (6 * j + 1) from nI_add (6 * j) 1]
  refine g_sld (i := 6 * j + 1) hx C dL_law_611 (by omega) hL ?_
  refine g_if_eq 619 C dL_law_612 (by decide) (fun hw => ?_) (fun hw => ?_)
  · refine g_iconst (v := 0) C dL_law_619 (by decide) ?_
    refine g_callV (ci := 8) (o := 0) (As := [.int 0]) (rest := []) C dL_law_620 vwX8_misuse mqL_77 ⟨Nat.le_of_ble_eq_true rfl, Nat.le_of_ble_eq_true rfl⟩ rfl ly_0 (show 0 < 125 by decide) (c_misuse hI 0) rfl (Nat.le_of_ble_eq_true rfl) rfl ⟨show c1 + 0 ≤ 601024 by omega, show s1 + 0 ≤ 7293034 by omega⟩ _ rfl (fun v M2 hp => ?_)
    obtain ⟨x, I1, rfl, rfl, hm⟩ := hp
    refine g_aload_n C dL_law_623 rfl ?_
    refine g_aload_n C dL_law_624 rfl ?_
    refine g_iload C dL_law_625 rfl ?_
    refine g_iconst (v := 1) C dL_law_627 (by decide) ?_
    refine g_iadd C dL_law_628 ?_
    rw [show nI (6 * j) + 1 = nI (6 * j + 1) from nI_add (6 * j) 1]
    refine g_sld (i := 6 * j + 1) hx C dL_law_629 (by omega) hL ?_
    refine g_if_eq 637 C dL_law_630 (by decide) (fun _ => ?_) (fun q => absurd hw q)
    refine g_iconst (v := 0) C dL_law_637 (by decide) ?_
    refine g_callV (ci := 10) (o := 103) (As := [.int 0]) (rest := [.int x]) C dL_law_638 vwX10_misuse mqL_81 ⟨Nat.le_of_ble_eq_true rfl, Nat.le_of_ble_eq_true rfl⟩ rfl ly_103 (show 103 < 125 by decide) hm rfl (Nat.le_of_ble_eq_true rfl) rfl ⟨show c1 + 0 + 0 ≤ 601024 by omega, show s1 + 0 + 0 ≤ 7293034 by omega⟩ _ rfl (fun v M2 hp => ?_)
    obtain ⟨rfl, I2, rfl, hI2⟩ := hp
    refine g_icmp_eq 1003 C dL_law_641 (by decide) (fun _ => ?_) (fun q => absurd rfl q)
    exact Go.widen (show c1 + 0 + 0 ≤ c1 + 1 by omega) (show s1 + 0 + 0 ≤ s1 + 6 by omega) (nx I2 _ hI2 a5 a6)
  · refine g_iconst (v := 1) C dL_law_615 (by decide) ?_
    refine g_goto 620 C dL_law_616 (by decide) ?_
    refine g_callV (ci := 8) (o := 0) (As := [.int 1]) (rest := []) C dL_law_620 vwX8_misuse mqL_77 ⟨Nat.le_of_ble_eq_true rfl, Nat.le_of_ble_eq_true rfl⟩ rfl ly_0 (show 0 < 125 by decide) (c_misuse hI 1) rfl (Nat.le_of_ble_eq_true rfl) rfl ⟨show c1 + 0 ≤ 601024 by omega, show s1 + 0 ≤ 7293034 by omega⟩ _ rfl (fun v M2 hp => ?_)
    obtain ⟨x, I1, rfl, rfl, hm⟩ := hp
    refine g_aload_n C dL_law_623 rfl ?_
    refine g_aload_n C dL_law_624 rfl ?_
    refine g_iload C dL_law_625 rfl ?_
    refine g_iconst (v := 1) C dL_law_627 (by decide) ?_
    refine g_iadd C dL_law_628 ?_
    rw [show nI (6 * j) + 1 = nI (6 * j + 1) from nI_add (6 * j) 1]
    refine g_sld (i := 6 * j + 1) hx C dL_law_629 (by omega) hL ?_
    refine g_if_eq 637 C dL_law_630 (by decide) (fun q => absurd q hw) (fun _ => ?_)
    refine g_iconst (v := 1) C dL_law_633 (by decide) ?_
    refine g_goto 638 C dL_law_634 (by decide) ?_
    refine g_callV (ci := 10) (o := 103) (As := [.int 1]) (rest := [.int x]) C dL_law_638 vwX10_misuse mqL_81 ⟨Nat.le_of_ble_eq_true rfl, Nat.le_of_ble_eq_true rfl⟩ rfl ly_103 (show 103 < 125 by decide) hm rfl (Nat.le_of_ble_eq_true rfl) rfl ⟨show c1 + 0 + 0 ≤ 601024 by omega, show s1 + 0 + 0 ≤ 7293034 by omega⟩ _ rfl (fun v M2 hp => ?_)
    obtain ⟨rfl, I2, rfl, hI2⟩ := hp
    refine g_icmp_eq 1003 C dL_law_641 (by decide) (fun _ => ?_) (fun q => absurd rfl q)
    exact Go.widen (show c1 + 0 + 0 ≤ c1 + 1 by omega) (show s1 + 0 + 0 ≤ s1 + 6 by omega) (nx I2 _ hI2 a5 a6)
set_option maxHeartbeats 4000000 in
theorem lc_14 {X : CX} {G : Gm} {nm : String} {Q : State → Prop} {b L j c1 s1 : Nat} {xs : Nat → Int32} {I : Nat → Nat → Int32} {J : Nat → Nat → Int64} (C : Cx X G (iLaw nm)) (hx : LX b L xs X G) (hL : L ≤ 3072) (hj : 6 * j + 6 ≤ L) (hI : InvE I) (hc : c1 + 1 ≤ 601024) (hs : s1 + 6 ≤ 7293034) (nx : ∀ I2 J2, InvE I2 → ∀ a5 a6 : Value, Go X G 7 (c1 + 1) (s1 + 6) Q 1003 [.ref b, .ref (G.1 + 0), .ref (G.1 + 103), .ref (G.1 + 124), .int (nI (6 * j)), a5, a6] [] (mm I2 J2)) (a5 a6 : Value) : Go X G 7 c1 s1 Q 646 [.ref b, .ref (G.1 + 0), .ref (G.1 + 103), .ref (G.1 + 124), .int (nI (6 * j)), a5, a6] [] (mm I J) := by
  refine g_aload_n C dL_law_646 rfl ?_
  refine g_aload_n C dL_law_647 rfl ?_
  refine g_iload C dL_law_648 rfl ?_
  refine g_iconst (v := 1) C dL_law_650 (by decide) ?_
  refine g_iadd C dL_law_651 ?_
  rw [show nI (6 * j) + 1 = nI (6 * j + 1) from nI_add (6 * j) 1]
  refine g_sld (i := 6 * j + 1) hx C dL_law_652 (by omega) hL ?_
  refine g_callV (ci := 8) (o := 0) (As := [.int (xs (6 * j + 1))]) (rest := []) C dL_law_653 vwX8_wrong mqL_82 ⟨Nat.le_of_ble_eq_true rfl, Nat.le_of_ble_eq_true rfl⟩ rfl ly_0 (show 0 < 125 by decide) (c_wrong hI ((xs (6 * j + 1)))) rfl (Nat.le_of_ble_eq_true rfl) rfl ⟨show c1 + 0 ≤ 601024 by omega, show s1 + 0 ≤ 7293034 by omega⟩ _ rfl (fun v M2 hp => ?_)
  obtain ⟨x, I1, rfl, rfl, hm⟩ := hp
  refine g_aload_n C dL_law_656 rfl ?_
  refine g_aload_n C dL_law_657 rfl ?_
  refine g_iload C dL_law_658 rfl ?_
  refine g_iconst (v := 1) C dL_law_660 (by decide) ?_
  refine g_iadd C dL_law_661 ?_
  rw [show nI (6 * j) + 1 = nI (6 * j + 1) from nI_add (6 * j) 1]
  refine g_sld (i := 6 * j + 1) hx C dL_law_662 (by omega) hL ?_
  refine g_callV (ci := 10) (o := 103) (As := [.int (xs (6 * j + 1))]) (rest := [.int x]) C dL_law_663 vwX10_wrong mqL_85 ⟨Nat.le_of_ble_eq_true rfl, Nat.le_of_ble_eq_true rfl⟩ rfl ly_103 (show 103 < 125 by decide) hm rfl (Nat.le_of_ble_eq_true rfl) rfl ⟨show c1 + 0 + 0 ≤ 601024 by omega, show s1 + 0 + 0 ≤ 7293034 by omega⟩ _ rfl (fun v M2 hp => ?_)
  obtain ⟨rfl, I2, rfl, hI2⟩ := hp
  refine g_icmp_eq 1003 C dL_law_666 (by decide) (fun _ => ?_) (fun q => absurd rfl q)
  exact Go.widen (show c1 + 0 + 0 ≤ c1 + 1 by omega) (show s1 + 0 + 0 ≤ s1 + 6 by omega) (nx I2 _ hI2 a5 a6)
set_option maxHeartbeats 4000000 in
theorem lc_15 {X : CX} {G : Gm} {nm : String} {Q : State → Prop} {b L j c1 s1 : Nat} {xs : Nat → Int32} {I : Nat → Nat → Int32} {J : Nat → Nat → Int64} (C : Cx X G (iLaw nm)) (hx : LX b L xs X G) (hL : L ≤ 3072) (hj : 6 * j + 6 ≤ L) (hI : InvE I) (hc : c1 + 1 ≤ 601024) (hs : s1 + 6 ≤ 7293034) (nx : ∀ I2 J2, InvE I2 → ∀ a5 a6 : Value, Go X G 7 (c1 + 1) (s1 + 6) Q 1003 [.ref b, .ref (G.1 + 0), .ref (G.1 + 103), .ref (G.1 + 124), .int (nI (6 * j)), a5, a6] [] (mm I2 J2)) (a5 a6 : Value) : Go X G 7 c1 s1 Q 671 [.ref b, .ref (G.1 + 0), .ref (G.1 + 103), .ref (G.1 + 124), .int (nI (6 * j)), a5, a6] [] (mm I J) := by
  refine g_aload_n C dL_law_671 rfl ?_
  refine g_aload_n C dL_law_672 rfl ?_
  refine g_iload C dL_law_673 rfl ?_
  refine g_iconst (v := 1) C dL_law_675 (by decide) ?_
  refine g_iadd C dL_law_676 ?_
  rw [show nI (6 * j) + 1 = nI (6 * j + 1) from nI_add (6 * j) 1]
  refine g_sld (i := 6 * j + 1) hx C dL_law_677 (by omega) hL ?_
  refine g_aload_n C dL_law_678 rfl ?_
  refine g_iload C dL_law_679 rfl ?_
  refine g_iconst (v := 2) C dL_law_681 (by decide) ?_
  refine g_iadd C dL_law_682 ?_
  rw [show nI (6 * j) + 2 = nI (6 * j + 2) from nI_add (6 * j) 2]
  refine g_sld (i := 6 * j + 2) hx C dL_law_683 (by omega) hL ?_
  refine g_callV (ci := 8) (o := 0) (As := [.int (xs (6 * j + 1)), .int (xs (6 * j + 2))]) (rest := []) C dL_law_684 vwX8_way mqL_86 ⟨Nat.le_of_ble_eq_true rfl, Nat.le_of_ble_eq_true rfl⟩ rfl ly_0 (show 0 < 125 by decide) (c_way hI ((xs (6 * j + 1))) ((xs (6 * j + 2)))) rfl (Nat.le_of_ble_eq_true rfl) rfl ⟨show c1 + 0 ≤ 601024 by omega, show s1 + 0 ≤ 7293034 by omega⟩ _ rfl (fun v M2 hp => ?_)
  obtain ⟨x, I1, rfl, rfl, hm⟩ := hp
  refine g_aload_n C dL_law_687 rfl ?_
  refine g_aload_n C dL_law_688 rfl ?_
  refine g_iload C dL_law_689 rfl ?_
  refine g_iconst (v := 1) C dL_law_691 (by decide) ?_
  refine g_iadd C dL_law_692 ?_
  rw [show nI (6 * j) + 1 = nI (6 * j + 1) from nI_add (6 * j) 1]
  refine g_sld (i := 6 * j + 1) hx C dL_law_693 (by omega) hL ?_
  refine g_aload_n C dL_law_694 rfl ?_
  refine g_iload C dL_law_695 rfl ?_
  refine g_iconst (v := 2) C dL_law_697 (by decide) ?_
  refine g_iadd C dL_law_698 ?_
  rw [show nI (6 * j) + 2 = nI (6 * j + 2) from nI_add (6 * j) 2]
  refine g_sld (i := 6 * j + 2) hx C dL_law_699 (by omega) hL ?_
  refine g_callV (ci := 10) (o := 103) (As := [.int (xs (6 * j + 1)), .int (xs (6 * j + 2))]) (rest := [.int x]) C dL_law_700 vwX10_way mqL_89 ⟨Nat.le_of_ble_eq_true rfl, Nat.le_of_ble_eq_true rfl⟩ rfl ly_103 (show 103 < 125 by decide) hm rfl (Nat.le_of_ble_eq_true rfl) rfl ⟨show c1 + 0 + 0 ≤ 601024 by omega, show s1 + 0 + 0 ≤ 7293034 by omega⟩ _ rfl (fun v M2 hp => ?_)
  obtain ⟨rfl, I2, rfl, hI2⟩ := hp
  refine g_icmp_eq 1003 C dL_law_703 (by decide) (fun _ => ?_) (fun q => absurd rfl q)
  exact Go.widen (show c1 + 0 + 0 ≤ c1 + 1 by omega) (show s1 + 0 + 0 ≤ s1 + 6 by omega) (nx I2 _ hI2 a5 a6)
set_option maxHeartbeats 4000000 in
theorem lc_17 {X : CX} {G : Gm} {nm : String} {Q : State → Prop} {b L j c1 s1 : Nat} {xs : Nat → Int32} {I : Nat → Nat → Int32} {J : Nat → Nat → Int64} (C : Cx X G (iLaw nm)) (hx : LX b L xs X G) (hL : L ≤ 3072) (hj : 6 * j + 6 ≤ L) (hI : InvE I) (hc : c1 + 1 ≤ 601024) (hs : s1 + 6 ≤ 7293034) (nx : ∀ I2 J2, InvE I2 → ∀ a5 a6 : Value, Go X G 7 (c1 + 1) (s1 + 6) Q 1003 [.ref b, .ref (G.1 + 0), .ref (G.1 + 103), .ref (G.1 + 124), .int (nI (6 * j)), a5, a6] [] (mm I2 J2)) (a5 a6 : Value) : Go X G 7 c1 s1 Q 764 [.ref b, .ref (G.1 + 0), .ref (G.1 + 103), .ref (G.1 + 124), .int (nI (6 * j)), a5, a6] [] (mm I J) := by
  refine g_aload_n C dL_law_764 rfl ?_
  refine g_aload_n C dL_law_765 rfl ?_
  refine g_iload C dL_law_766 rfl ?_
  refine g_iconst (v := 1) C dL_law_768 (by decide) ?_
  refine g_iadd C dL_law_769 ?_
  rw [show nI (6 * j) + 1 = nI (6 * j + 1) from nI_add (6 * j) 1]
  refine g_sld (i := 6 * j + 1) hx C dL_law_770 (by omega) hL ?_
  refine g_callV (ci := 8) (o := 0) (As := [.int (xs (6 * j + 1))]) (rest := []) C dL_law_771 vwX8_needed mqL_99 ⟨Nat.le_of_ble_eq_true rfl, Nat.le_of_ble_eq_true rfl⟩ rfl ly_0 (show 0 < 125 by decide) (c_needed hI ((xs (6 * j + 1)))) rfl (Nat.le_of_ble_eq_true rfl) rfl ⟨show c1 + 0 ≤ 601024 by omega, show s1 + 0 ≤ 7293034 by omega⟩ _ rfl (fun v M2 hp => ?_)
  obtain ⟨x, I1, rfl, rfl, hm⟩ := hp
  refine g_aload_n C dL_law_774 rfl ?_
  refine g_aload_n C dL_law_775 rfl ?_
  refine g_iload C dL_law_776 rfl ?_
  refine g_iconst (v := 1) C dL_law_778 (by decide) ?_
  refine g_iadd C dL_law_779 ?_
  rw [show nI (6 * j) + 1 = nI (6 * j + 1) from nI_add (6 * j) 1]
  refine g_sld (i := 6 * j + 1) hx C dL_law_780 (by omega) hL ?_
  refine g_callV (ci := 10) (o := 103) (As := [.int (xs (6 * j + 1))]) (rest := [.int x]) C dL_law_781 vwX10_needed mqL_102 ⟨Nat.le_of_ble_eq_true rfl, Nat.le_of_ble_eq_true rfl⟩ rfl ly_103 (show 103 < 125 by decide) hm rfl (Nat.le_of_ble_eq_true rfl) rfl ⟨show c1 + 0 + 0 ≤ 601024 by omega, show s1 + 0 + 0 ≤ 7293034 by omega⟩ _ rfl (fun v M2 hp => ?_)
  obtain ⟨rfl, I2, rfl, hI2⟩ := hp
  refine g_icmp_eq 1003 C dL_law_784 (by decide) (fun _ => ?_) (fun q => absurd rfl q)
  exact Go.widen (show c1 + 0 + 0 ≤ c1 + 1 by omega) (show s1 + 0 + 0 ≤ s1 + 6 by omega) (nx I2 _ hI2 a5 a6)
set_option maxHeartbeats 4000000 in
theorem lc_18 {X : CX} {G : Gm} {nm : String} {Q : State → Prop} {b L j c1 s1 : Nat} {xs : Nat → Int32} {I : Nat → Nat → Int32} {J : Nat → Nat → Int64} (C : Cx X G (iLaw nm)) (hx : LX b L xs X G) (hL : L ≤ 3072) (hj : 6 * j + 6 ≤ L) (hI : InvE I) (hc : c1 + 1 ≤ 601024) (hs : s1 + 6 ≤ 7293034) (nx : ∀ I2 J2, InvE I2 → ∀ a5 a6 : Value, Go X G 7 (c1 + 1) (s1 + 6) Q 1003 [.ref b, .ref (G.1 + 0), .ref (G.1 + 103), .ref (G.1 + 124), .int (nI (6 * j)), a5, a6] [] (mm I2 J2)) (a5 a6 : Value) : Go X G 7 c1 s1 Q 789 [.ref b, .ref (G.1 + 0), .ref (G.1 + 103), .ref (G.1 + 124), .int (nI (6 * j)), a5, a6] [] (mm I J) := by
  refine g_aload_n C dL_law_789 rfl ?_
  refine g_aload_n C dL_law_790 rfl ?_
  refine g_iload C dL_law_791 rfl ?_
  refine g_iconst (v := 1) C dL_law_793 (by decide) ?_
  refine g_iadd C dL_law_794 ?_
  rw [show nI (6 * j) + 1 = nI (6 * j + 1) from nI_add (6 * j) 1]
  refine g_sld (i := 6 * j + 1) hx C dL_law_795 (by omega) hL ?_
  refine g_callV (ci := 8) (o := 0) (As := [.int (xs (6 * j + 1))]) (rest := []) C dL_law_796 vwX8_idle mqL_103 ⟨Nat.le_of_ble_eq_true rfl, Nat.le_of_ble_eq_true rfl⟩ rfl ly_0 (show 0 < 125 by decide) (c_idle hI ((xs (6 * j + 1)))) rfl (Nat.le_of_ble_eq_true rfl) rfl ⟨show c1 + 0 ≤ 601024 by omega, show s1 + 0 ≤ 7293034 by omega⟩ _ rfl (fun v M2 hp => ?_)
  obtain ⟨x, I1, rfl, rfl, hm⟩ := hp
  refine g_aload_n C dL_law_799 rfl ?_
  refine g_aload_n C dL_law_800 rfl ?_
  refine g_iload C dL_law_801 rfl ?_
  refine g_iconst (v := 1) C dL_law_803 (by decide) ?_
  refine g_iadd C dL_law_804 ?_
  rw [show nI (6 * j) + 1 = nI (6 * j + 1) from nI_add (6 * j) 1]
  refine g_sld (i := 6 * j + 1) hx C dL_law_805 (by omega) hL ?_
  refine g_callV (ci := 10) (o := 103) (As := [.int (xs (6 * j + 1))]) (rest := [.int x]) C dL_law_806 vwX10_idle mqL_106 ⟨Nat.le_of_ble_eq_true rfl, Nat.le_of_ble_eq_true rfl⟩ rfl ly_103 (show 103 < 125 by decide) hm rfl (Nat.le_of_ble_eq_true rfl) rfl ⟨show c1 + 0 + 0 ≤ 601024 by omega, show s1 + 0 + 0 ≤ 7293034 by omega⟩ _ rfl (fun v M2 hp => ?_)
  obtain ⟨rfl, I2, rfl, hI2⟩ := hp
  refine g_icmp_eq 1003 C dL_law_809 (by decide) (fun _ => ?_) (fun q => absurd rfl q)
  exact Go.widen (show c1 + 0 + 0 ≤ c1 + 1 by omega) (show s1 + 0 + 0 ≤ s1 + 6 by omega) (nx I2 _ hI2 a5 a6)
set_option maxHeartbeats 4000000 in
theorem lc_19 {X : CX} {G : Gm} {nm : String} {Q : State → Prop} {b L j c1 s1 : Nat} {xs : Nat → Int32} {I : Nat → Nat → Int32} {J : Nat → Nat → Int64} (C : Cx X G (iLaw nm)) (hx : LX b L xs X G) (hL : L ≤ 3072) (hj : 6 * j + 6 ≤ L) (hI : InvE I) (hc : c1 + 1 ≤ 601024) (hs : s1 + 6 ≤ 7293034) (nx : ∀ I2 J2, InvE I2 → ∀ a5 a6 : Value, Go X G 7 (c1 + 1) (s1 + 6) Q 1003 [.ref b, .ref (G.1 + 0), .ref (G.1 + 103), .ref (G.1 + 124), .int (nI (6 * j)), a5, a6] [] (mm I2 J2)) (a5 a6 : Value) : Go X G 7 c1 s1 Q 814 [.ref b, .ref (G.1 + 0), .ref (G.1 + 103), .ref (G.1 + 124), .int (nI (6 * j)), a5, a6] [] (mm I J) := by
  refine g_aload_n C dL_law_814 rfl ?_
  refine g_aload_n C dL_law_815 rfl ?_
  refine g_iload C dL_law_816 rfl ?_
  refine g_iconst (v := 1) C dL_law_818 (by decide) ?_
  refine g_iadd C dL_law_819 ?_
  rw [show nI (6 * j) + 1 = nI (6 * j + 1) from nI_add (6 * j) 1]
  refine g_sld (i := 6 * j + 1) hx C dL_law_820 (by omega) hL ?_
  refine g_callV (ci := 8) (o := 0) (As := [.int (xs (6 * j + 1))]) (rest := []) C dL_law_821 vwX8_lacking mqL_107 ⟨Nat.le_of_ble_eq_true rfl, Nat.le_of_ble_eq_true rfl⟩ rfl ly_0 (show 0 < 125 by decide) (c_lacking hI ((xs (6 * j + 1)))) rfl (Nat.le_of_ble_eq_true rfl) rfl ⟨show c1 + 0 ≤ 601024 by omega, show s1 + 0 ≤ 7293034 by omega⟩ _ rfl (fun v M2 hp => ?_)
  obtain ⟨x, I1, rfl, rfl, hm⟩ := hp
  refine g_aload_n C dL_law_824 rfl ?_
  refine g_aload_n C dL_law_825 rfl ?_
  refine g_iload C dL_law_826 rfl ?_
  refine g_iconst (v := 1) C dL_law_828 (by decide) ?_
  refine g_iadd C dL_law_829 ?_
  rw [show nI (6 * j) + 1 = nI (6 * j + 1) from nI_add (6 * j) 1]
  refine g_sld (i := 6 * j + 1) hx C dL_law_830 (by omega) hL ?_
  refine g_callV (ci := 10) (o := 103) (As := [.int (xs (6 * j + 1))]) (rest := [.int x]) C dL_law_831 vwX10_lacking mqL_110 ⟨Nat.le_of_ble_eq_true rfl, Nat.le_of_ble_eq_true rfl⟩ rfl ly_103 (show 103 < 125 by decide) hm rfl (Nat.le_of_ble_eq_true rfl) rfl ⟨show c1 + 0 + 0 ≤ 601024 by omega, show s1 + 0 + 0 ≤ 7293034 by omega⟩ _ rfl (fun v M2 hp => ?_)
  obtain ⟨rfl, I2, rfl, hI2⟩ := hp
  refine g_icmp_eq 1003 C dL_law_834 (by decide) (fun _ => ?_) (fun q => absurd rfl q)
  exact Go.widen (show c1 + 0 + 0 ≤ c1 + 1 by omega) (show s1 + 0 + 0 ≤ s1 + 6 by omega) (nx I2 _ hI2 a5 a6)
set_option maxHeartbeats 4000000 in
theorem lc_20 {X : CX} {G : Gm} {nm : String} {Q : State → Prop} {b L j c1 s1 : Nat} {xs : Nat → Int32} {I : Nat → Nat → Int32} {J : Nat → Nat → Int64} (C : Cx X G (iLaw nm)) (hx : LX b L xs X G) (hL : L ≤ 3072) (hj : 6 * j + 6 ≤ L) (hI : InvE I) (hc : c1 + 1 ≤ 601024) (hs : s1 + 6 ≤ 7293034) (nx : ∀ I2 J2, InvE I2 → ∀ a5 a6 : Value, Go X G 7 (c1 + 1) (s1 + 6) Q 1003 [.ref b, .ref (G.1 + 0), .ref (G.1 + 103), .ref (G.1 + 124), .int (nI (6 * j)), a5, a6] [] (mm I2 J2)) (a5 a6 : Value) : Go X G 7 c1 s1 Q 839 [.ref b, .ref (G.1 + 0), .ref (G.1 + 103), .ref (G.1 + 124), .int (nI (6 * j)), a5, a6] [] (mm I J) := by
  refine g_aload_n C dL_law_839 rfl ?_
  refine g_aload_n C dL_law_840 rfl ?_
  refine g_iload C dL_law_841 rfl ?_
  refine g_iconst (v := 1) C dL_law_843 (by decide) ?_
  refine g_iadd C dL_law_844 ?_
  rw [show nI (6 * j) + 1 = nI (6 * j + 1) from nI_add (6 * j) 1]
  refine g_sld (i := 6 * j + 1) hx C dL_law_845 (by omega) hL ?_
  refine g_callV (ci := 8) (o := 0) (As := [.int (xs (6 * j + 1))]) (rest := []) C dL_law_846 vwX8_helped mqL_111 ⟨Nat.le_of_ble_eq_true rfl, Nat.le_of_ble_eq_true rfl⟩ rfl ly_0 (show 0 < 125 by decide) (c_helped hI ((xs (6 * j + 1)))) rfl (Nat.le_of_ble_eq_true rfl) rfl ⟨show c1 + 0 ≤ 601024 by omega, show s1 + 0 ≤ 7293034 by omega⟩ _ rfl (fun v M2 hp => ?_)
  obtain ⟨x, I1, rfl, rfl, hm⟩ := hp
  refine g_aload_n C dL_law_849 rfl ?_
  refine g_aload_n C dL_law_850 rfl ?_
  refine g_iload C dL_law_851 rfl ?_
  refine g_iconst (v := 1) C dL_law_853 (by decide) ?_
  refine g_iadd C dL_law_854 ?_
  rw [show nI (6 * j) + 1 = nI (6 * j + 1) from nI_add (6 * j) 1]
  refine g_sld (i := 6 * j + 1) hx C dL_law_855 (by omega) hL ?_
  refine g_callV (ci := 10) (o := 103) (As := [.int (xs (6 * j + 1))]) (rest := [.int x]) C dL_law_856 vwX10_helped mqL_114 ⟨Nat.le_of_ble_eq_true rfl, Nat.le_of_ble_eq_true rfl⟩ rfl ly_103 (show 103 < 125 by decide) hm rfl (Nat.le_of_ble_eq_true rfl) rfl ⟨show c1 + 0 + 0 ≤ 601024 by omega, show s1 + 0 + 0 ≤ 7293034 by omega⟩ _ rfl (fun v M2 hp => ?_)
  obtain ⟨rfl, I2, rfl, hI2⟩ := hp
  refine g_icmp_eq 1003 C dL_law_859 (by decide) (fun _ => ?_) (fun q => absurd rfl q)
  exact Go.widen (show c1 + 0 + 0 ≤ c1 + 1 by omega) (show s1 + 0 + 0 ≤ s1 + 6 by omega) (nx I2 _ hI2 a5 a6)
set_option maxHeartbeats 4000000 in
theorem lc_21 {X : CX} {G : Gm} {nm : String} {Q : State → Prop} {b L j c1 s1 : Nat} {xs : Nat → Int32} {I : Nat → Nat → Int32} {J : Nat → Nat → Int64} (C : Cx X G (iLaw nm)) (hx : LX b L xs X G) (hL : L ≤ 3072) (hj : 6 * j + 6 ≤ L) (hI : InvE I) (hc : c1 + 1 ≤ 601024) (hs : s1 + 6 ≤ 7293034) (nx : ∀ I2 J2, InvE I2 → ∀ a5 a6 : Value, Go X G 7 (c1 + 1) (s1 + 6) Q 1003 [.ref b, .ref (G.1 + 0), .ref (G.1 + 103), .ref (G.1 + 124), .int (nI (6 * j)), a5, a6] [] (mm I2 J2)) (a5 a6 : Value) : Go X G 7 c1 s1 Q 864 [.ref b, .ref (G.1 + 0), .ref (G.1 + 103), .ref (G.1 + 124), .int (nI (6 * j)), a5, a6] [] (mm I J) := by
  refine g_aload_n C dL_law_864 rfl ?_
  refine g_callV (ci := 8) (o := 0) (As := []) (rest := []) C dL_law_865 vwX8_trim mqL_115 ⟨Nat.le_of_ble_eq_true rfl, Nat.le_of_ble_eq_true rfl⟩ rfl ly_0 (show 0 < 125 by decide) (c_trim hI) rfl (Nat.le_of_ble_eq_true rfl) rfl ⟨show c1 + 0 ≤ 601024 by omega, show s1 + 0 ≤ 7293034 by omega⟩ _ rfl (fun v M2 hp => ?_)
  obtain ⟨x, I1, rfl, rfl, hm⟩ := hp
  refine g_aload_n C dL_law_868 rfl ?_
  refine g_callV (ci := 10) (o := 103) (As := []) (rest := [.int x]) C dL_law_869 vwX10_trim mqL_118 ⟨Nat.le_of_ble_eq_true rfl, Nat.le_of_ble_eq_true rfl⟩ rfl ly_103 (show 103 < 125 by decide) hm rfl (Nat.le_of_ble_eq_true rfl) rfl ⟨show c1 + 0 + 0 ≤ 601024 by omega, show s1 + 0 + 0 ≤ 7293034 by omega⟩ _ rfl (fun v M2 hp => ?_)
  obtain ⟨rfl, I2, rfl, hI2⟩ := hp
  refine g_icmp_eq 1003 C dL_law_872 (by decide) (fun _ => ?_) (fun q => absurd rfl q)
  exact Go.widen (show c1 + 0 + 0 ≤ c1 + 1 by omega) (show s1 + 0 + 0 ≤ s1 + 6 by omega) (nx I2 _ hI2 a5 a6)
set_option maxHeartbeats 4000000 in
theorem lc_22 {X : CX} {G : Gm} {nm : String} {Q : State → Prop} {b L j c1 s1 : Nat} {xs : Nat → Int32} {I : Nat → Nat → Int32} {J : Nat → Nat → Int64} (C : Cx X G (iLaw nm)) (hx : LX b L xs X G) (hL : L ≤ 3072) (hj : 6 * j + 6 ≤ L) (hI : InvE I) (hc : c1 + 1 ≤ 601024) (hs : s1 + 6 ≤ 7293034) (nx : ∀ I2 J2, InvE I2 → ∀ a5 a6 : Value, Go X G 7 (c1 + 1) (s1 + 6) Q 1003 [.ref b, .ref (G.1 + 0), .ref (G.1 + 103), .ref (G.1 + 124), .int (nI (6 * j)), a5, a6] [] (mm I2 J2)) (a5 a6 : Value) : Go X G 7 c1 s1 Q 877 [.ref b, .ref (G.1 + 0), .ref (G.1 + 103), .ref (G.1 + 124), .int (nI (6 * j)), a5, a6] [] (mm I J) := by
  refine g_aload_n C dL_law_877 rfl ?_
  refine g_callV (ci := 8) (o := 0) (As := []) (rest := []) C dL_law_878 vwX8_cure mqL_119 ⟨Nat.le_of_ble_eq_true rfl, Nat.le_of_ble_eq_true rfl⟩ rfl ly_0 (show 0 < 125 by decide) (c_cure hI) rfl (Nat.le_of_ble_eq_true rfl) rfl ⟨show c1 + 0 ≤ 601024 by omega, show s1 + 0 ≤ 7293034 by omega⟩ _ rfl (fun v M2 hp => ?_)
  obtain ⟨x, I1, rfl, rfl, hm⟩ := hp
  refine g_aload_n C dL_law_881 rfl ?_
  refine g_callV (ci := 10) (o := 103) (As := []) (rest := [.int x]) C dL_law_882 vwX10_cure mqL_122 ⟨Nat.le_of_ble_eq_true rfl, Nat.le_of_ble_eq_true rfl⟩ rfl ly_103 (show 103 < 125 by decide) hm rfl (Nat.le_of_ble_eq_true rfl) rfl ⟨show c1 + 0 + 0 ≤ 601024 by omega, show s1 + 0 + 0 ≤ 7293034 by omega⟩ _ rfl (fun v M2 hp => ?_)
  obtain ⟨rfl, I2, rfl, hI2⟩ := hp
  refine g_icmp_eq 1003 C dL_law_885 (by decide) (fun _ => ?_) (fun q => absurd rfl q)
  exact Go.widen (show c1 + 0 + 0 ≤ c1 + 1 by omega) (show s1 + 0 + 0 ≤ s1 + 6 by omega) (nx I2 _ hI2 a5 a6)
set_option maxHeartbeats 4000000 in
theorem lc_23 {X : CX} {G : Gm} {nm : String} {Q : State → Prop} {b L j c1 s1 : Nat} {xs : Nat → Int32} {I : Nat → Nat → Int32} {J : Nat → Nat → Int64} (C : Cx X G (iLaw nm)) (hx : LX b L xs X G) (hL : L ≤ 3072) (hj : 6 * j + 6 ≤ L) (hI : InvE I) (hc : c1 + 1 ≤ 601024) (hs : s1 + 6 ≤ 7293034) (nx : ∀ I2 J2, InvE I2 → ∀ a5 a6 : Value, Go X G 7 (c1 + 1) (s1 + 6) Q 1003 [.ref b, .ref (G.1 + 0), .ref (G.1 + 103), .ref (G.1 + 124), .int (nI (6 * j)), a5, a6] [] (mm I2 J2)) (a5 a6 : Value) : Go X G 7 c1 s1 Q 890 [.ref b, .ref (G.1 + 0), .ref (G.1 + 103), .ref (G.1 + 124), .int (nI (6 * j)), a5, a6] [] (mm I J) := by
  refine g_aload_n C dL_law_890 rfl ?_
  refine g_aload_n C dL_law_891 rfl ?_
  refine g_iload C dL_law_892 rfl ?_
  refine g_iconst (v := 1) C dL_law_894 (by decide) ?_
  refine g_iadd C dL_law_895 ?_
  rw [show nI (6 * j) + 1 = nI (6 * j + 1) from nI_add (6 * j) 1]
  refine g_sld (i := 6 * j + 1) hx C dL_law_896 (by omega) hL ?_
  refine g_callV (ci := 8) (o := 0) (As := [.int (xs (6 * j + 1))]) (rest := []) C dL_law_897 vwX8_cured mqL_123 ⟨Nat.le_of_ble_eq_true rfl, Nat.le_of_ble_eq_true rfl⟩ rfl ly_0 (show 0 < 125 by decide) (c_cured hI ((xs (6 * j + 1)))) rfl (Nat.le_of_ble_eq_true rfl) rfl ⟨show c1 + 0 ≤ 601024 by omega, show s1 + 0 ≤ 7293034 by omega⟩ _ rfl (fun v M2 hp => ?_)
  obtain ⟨x, I1, rfl, rfl, hm⟩ := hp
  refine g_aload_n C dL_law_900 rfl ?_
  refine g_aload_n C dL_law_901 rfl ?_
  refine g_iload C dL_law_902 rfl ?_
  refine g_iconst (v := 1) C dL_law_904 (by decide) ?_
  refine g_iadd C dL_law_905 ?_
  rw [show nI (6 * j) + 1 = nI (6 * j + 1) from nI_add (6 * j) 1]
  refine g_sld (i := 6 * j + 1) hx C dL_law_906 (by omega) hL ?_
  refine g_callV (ci := 10) (o := 103) (As := [.int (xs (6 * j + 1))]) (rest := [.int x]) C dL_law_907 vwX10_cured mqL_126 ⟨Nat.le_of_ble_eq_true rfl, Nat.le_of_ble_eq_true rfl⟩ rfl ly_103 (show 103 < 125 by decide) hm rfl (Nat.le_of_ble_eq_true rfl) rfl ⟨show c1 + 0 + 0 ≤ 601024 by omega, show s1 + 0 + 0 ≤ 7293034 by omega⟩ _ rfl (fun v M2 hp => ?_)
  obtain ⟨rfl, I2, rfl, hI2⟩ := hp
  refine g_icmp_eq 1003 C dL_law_910 (by decide) (fun _ => ?_) (fun q => absurd rfl q)
  exact Go.widen (show c1 + 0 + 0 ≤ c1 + 1 by omega) (show s1 + 0 + 0 ≤ s1 + 6 by omega) (nx I2 _ hI2 a5 a6)
set_option maxHeartbeats 4000000 in
theorem lc_24 {X : CX} {G : Gm} {nm : String} {Q : State → Prop} {b L j c1 s1 : Nat} {xs : Nat → Int32} {I : Nat → Nat → Int32} {J : Nat → Nat → Int64} (C : Cx X G (iLaw nm)) (hx : LX b L xs X G) (hL : L ≤ 3072) (hj : 6 * j + 6 ≤ L) (hI : InvE I) (hc : c1 + 1 ≤ 601024) (hs : s1 + 6 ≤ 7293034) (nx : ∀ I2 J2, InvE I2 → ∀ a5 a6 : Value, Go X G 7 (c1 + 1) (s1 + 6) Q 1003 [.ref b, .ref (G.1 + 0), .ref (G.1 + 103), .ref (G.1 + 124), .int (nI (6 * j)), a5, a6] [] (mm I2 J2)) (a5 a6 : Value) : Go X G 7 c1 s1 Q 915 [.ref b, .ref (G.1 + 0), .ref (G.1 + 103), .ref (G.1 + 124), .int (nI (6 * j)), a5, a6] [] (mm I J) := by
  refine g_aload_n C dL_law_915 rfl ?_
  refine g_aload_n C dL_law_916 rfl ?_
  refine g_iload C dL_law_917 rfl ?_
  refine g_iconst (v := 1) C dL_law_919 (by decide) ?_
  refine g_iadd C dL_law_920 ?_
  rw [show nI (6 * j) + 1 = nI (6 * j + 1) from nI_add (6 * j) 1]
  refine g_sld (i := 6 * j + 1) hx C dL_law_921 (by omega) hL ?_
  refine g_aload_n C dL_law_922 rfl ?_
  refine g_iload C dL_law_923 rfl ?_
  refine g_iconst (v := 2) C dL_law_925 (by decide) ?_
  refine g_iadd C dL_law_926 ?_
  rw [show nI (6 * j) + 2 = nI (6 * j + 2) from nI_add (6 * j) 2]
  refine g_sld (i := 6 * j + 2) hx C dL_law_927 (by omega) hL ?_
  refine g_callV (ci := 8) (o := 0) (As := [.int (xs (6 * j + 1)), .int (xs (6 * j + 2))]) (rest := []) C dL_law_928 vwX8_without mqL_127 ⟨Nat.le_of_ble_eq_true rfl, Nat.le_of_ble_eq_true rfl⟩ rfl ly_0 (show 0 < 125 by decide) (c_without hI ((xs (6 * j + 1))) ((xs (6 * j + 2)))) rfl (Nat.le_of_ble_eq_true rfl) rfl ⟨show c1 + 0 ≤ 601024 by omega, show s1 + 0 ≤ 7293034 by omega⟩ _ rfl (fun v M2 hp => ?_)
  obtain ⟨x, I1, rfl, rfl, hm⟩ := hp
  refine g_aload_n C dL_law_931 rfl ?_
  refine g_aload_n C dL_law_932 rfl ?_
  refine g_iload C dL_law_933 rfl ?_
  refine g_iconst (v := 1) C dL_law_935 (by decide) ?_
  refine g_iadd C dL_law_936 ?_
  rw [show nI (6 * j) + 1 = nI (6 * j + 1) from nI_add (6 * j) 1]
  refine g_sld (i := 6 * j + 1) hx C dL_law_937 (by omega) hL ?_
  refine g_aload_n C dL_law_938 rfl ?_
  refine g_iload C dL_law_939 rfl ?_
  refine g_iconst (v := 2) C dL_law_941 (by decide) ?_
  refine g_iadd C dL_law_942 ?_
  rw [show nI (6 * j) + 2 = nI (6 * j + 2) from nI_add (6 * j) 2]
  refine g_sld (i := 6 * j + 2) hx C dL_law_943 (by omega) hL ?_
  refine g_callV (ci := 10) (o := 103) (As := [.int (xs (6 * j + 1)), .int (xs (6 * j + 2))]) (rest := [.int x]) C dL_law_944 vwX10_without mqL_130 ⟨Nat.le_of_ble_eq_true rfl, Nat.le_of_ble_eq_true rfl⟩ rfl ly_103 (show 103 < 125 by decide) hm rfl (Nat.le_of_ble_eq_true rfl) rfl ⟨show c1 + 0 + 0 ≤ 601024 by omega, show s1 + 0 + 0 ≤ 7293034 by omega⟩ _ rfl (fun v M2 hp => ?_)
  obtain ⟨rfl, I2, rfl, hI2⟩ := hp
  refine g_icmp_eq 1003 C dL_law_947 (by decide) (fun _ => ?_) (fun q => absurd rfl q)
  exact Go.widen (show c1 + 0 + 0 ≤ c1 + 1 by omega) (show s1 + 0 + 0 ≤ s1 + 6 by omega) (nx I2 _ hI2 a5 a6)
set_option maxHeartbeats 4000000 in
theorem lc_25 {X : CX} {G : Gm} {nm : String} {Q : State → Prop} {b L j c1 s1 : Nat} {xs : Nat → Int32} {I : Nat → Nat → Int32} {J : Nat → Nat → Int64} (C : Cx X G (iLaw nm)) (hx : LX b L xs X G) (hL : L ≤ 3072) (hj : 6 * j + 6 ≤ L) (hI : InvE I) (hc : c1 + 1 ≤ 601024) (hs : s1 + 6 ≤ 7293034) (nx : ∀ I2 J2, InvE I2 → ∀ a5 a6 : Value, Go X G 7 (c1 + 1) (s1 + 6) Q 1003 [.ref b, .ref (G.1 + 0), .ref (G.1 + 103), .ref (G.1 + 124), .int (nI (6 * j)), a5, a6] [] (mm I2 J2)) (a5 a6 : Value) : Go X G 7 c1 s1 Q 952 [.ref b, .ref (G.1 + 0), .ref (G.1 + 103), .ref (G.1 + 124), .int (nI (6 * j)), a5, a6] [] (mm I J) := by
  refine g_aload_n C dL_law_952 rfl ?_
  refine g_callV (ci := 8) (o := 0) (As := []) (rest := []) C dL_law_953 vwX8_key mqL_131 ⟨Nat.le_of_ble_eq_true rfl, Nat.le_of_ble_eq_true rfl⟩ rfl ly_0 (show 0 < 125 by decide) (c_key hI) rfl (Nat.le_of_ble_eq_true rfl) rfl ⟨show c1 + 0 ≤ 601024 by omega, show s1 + 0 ≤ 7293034 by omega⟩ _ rfl (fun v M2 hp => ?_)
  obtain ⟨x, I1, rfl, rfl, hm⟩ := hp
  refine g_aload_n C dL_law_956 rfl ?_
  refine g_callV (ci := 10) (o := 103) (As := []) (rest := [.int x]) C dL_law_957 vwX10_key mqL_134 ⟨Nat.le_of_ble_eq_true rfl, Nat.le_of_ble_eq_true rfl⟩ rfl ly_103 (show 103 < 125 by decide) hm rfl (Nat.le_of_ble_eq_true rfl) rfl ⟨show c1 + 0 + 0 ≤ 601024 by omega, show s1 + 0 + 0 ≤ 7293034 by omega⟩ _ rfl (fun v M2 hp => ?_)
  obtain ⟨rfl, I2, rfl, hI2⟩ := hp
  refine g_icmp_eq 1003 C dL_law_960 (by decide) (fun _ => ?_) (fun q => absurd rfl q)
  exact Go.widen (show c1 + 0 + 0 ≤ c1 + 1 by omega) (show s1 + 0 + 0 ≤ s1 + 6 by omega) (nx I2 _ hI2 a5 a6)
set_option maxHeartbeats 4000000 in
theorem lc_26 {X : CX} {G : Gm} {nm : String} {Q : State → Prop} {b L j c1 s1 : Nat} {xs : Nat → Int32} {I : Nat → Nat → Int32} {J : Nat → Nat → Int64} (C : Cx X G (iLaw nm)) (hx : LX b L xs X G) (hL : L ≤ 3072) (hj : 6 * j + 6 ≤ L) (hI : InvE I) (hc : c1 + 1 ≤ 601024) (hs : s1 + 6 ≤ 7293034) (nx : ∀ I2 J2, InvE I2 → ∀ a5 a6 : Value, Go X G 7 (c1 + 1) (s1 + 6) Q 1003 [.ref b, .ref (G.1 + 0), .ref (G.1 + 103), .ref (G.1 + 124), .int (nI (6 * j)), a5, a6] [] (mm I2 J2)) (a5 a6 : Value) : Go X G 7 c1 s1 Q 965 [.ref b, .ref (G.1 + 0), .ref (G.1 + 103), .ref (G.1 + 124), .int (nI (6 * j)), a5, a6] [] (mm I J) := by
  refine g_aload_n C dL_law_965 rfl ?_
  refine g_aload_n C dL_law_966 rfl ?_
  refine g_iload C dL_law_967 rfl ?_
  refine g_iconst (v := 1) C dL_law_969 (by decide) ?_
  refine g_iadd C dL_law_970 ?_
  rw [show nI (6 * j) + 1 = nI (6 * j + 1) from nI_add (6 * j) 1]
  refine g_sld (i := 6 * j + 1) hx C dL_law_971 (by omega) hL ?_
  refine g_callV (ci := 8) (o := 0) (As := [.int (xs (6 * j + 1))]) (rest := []) C dL_law_972 vwX8_count mqL_135 ⟨Nat.le_of_ble_eq_true rfl, Nat.le_of_ble_eq_true rfl⟩ rfl ly_0 (show 0 < 125 by decide) (c_count hI ((xs (6 * j + 1)))) rfl (Nat.le_of_ble_eq_true rfl) rfl ⟨show c1 + 0 ≤ 601024 by omega, show s1 + 0 ≤ 7293034 by omega⟩ _ rfl (fun v M2 hp => ?_)
  obtain ⟨x, I1, rfl, rfl, hm⟩ := hp
  refine g_aload_n C dL_law_975 rfl ?_
  refine g_aload_n C dL_law_976 rfl ?_
  refine g_iload C dL_law_977 rfl ?_
  refine g_iconst (v := 1) C dL_law_979 (by decide) ?_
  refine g_iadd C dL_law_980 ?_
  rw [show nI (6 * j) + 1 = nI (6 * j + 1) from nI_add (6 * j) 1]
  refine g_sld (i := 6 * j + 1) hx C dL_law_981 (by omega) hL ?_
  refine g_callV (ci := 10) (o := 103) (As := [.int (xs (6 * j + 1))]) (rest := [.int x]) C dL_law_982 vwX10_count mqL_138 ⟨Nat.le_of_ble_eq_true rfl, Nat.le_of_ble_eq_true rfl⟩ rfl ly_103 (show 103 < 125 by decide) hm rfl (Nat.le_of_ble_eq_true rfl) rfl ⟨show c1 + 0 + 0 ≤ 601024 by omega, show s1 + 0 + 0 ≤ 7293034 by omega⟩ _ rfl (fun v M2 hp => ?_)
  obtain ⟨rfl, I2, rfl, hI2⟩ := hp
  refine g_icmp_eq 1003 C dL_law_985 (by decide) (fun _ => ?_) (fun q => absurd rfl q)
  exact Go.widen (show c1 + 0 + 0 ≤ c1 + 1 by omega) (show s1 + 0 + 0 ≤ s1 + 6 by omega) (nx I2 _ hI2 a5 a6)
set_option maxHeartbeats 4000000 in
theorem lc_27 {X : CX} {G : Gm} {nm : String} {Q : State → Prop} {b L j c1 s1 : Nat} {xs : Nat → Int32} {I : Nat → Nat → Int32} {J : Nat → Nat → Int64} (C : Cx X G (iLaw nm)) (hx : LX b L xs X G) (hL : L ≤ 3072) (hj : 6 * j + 6 ≤ L) (hI : InvE I) (hc : c1 + 1 ≤ 601024) (hs : s1 + 6 ≤ 7293034) (nx : ∀ I2 J2, InvE I2 → ∀ a5 a6 : Value, Go X G 7 (c1 + 1) (s1 + 6) Q 1003 [.ref b, .ref (G.1 + 0), .ref (G.1 + 103), .ref (G.1 + 124), .int (nI (6 * j)), a5, a6] [] (mm I2 J2)) (a5 a6 : Value) : Go X G 7 c1 s1 Q 990 [.ref b, .ref (G.1 + 0), .ref (G.1 + 103), .ref (G.1 + 124), .int (nI (6 * j)), a5, a6] [] (mm I J) := by
  refine g_aload_n C dL_law_990 rfl ?_
  refine g_callV (ci := 8) (o := 0) (As := []) (rest := []) C dL_law_991 vwX8_trouble mqL_139 ⟨Nat.le_of_ble_eq_true rfl, Nat.le_of_ble_eq_true rfl⟩ rfl ly_0 (show 0 < 125 by decide) (c_trouble hI) rfl (Nat.le_of_ble_eq_true rfl) rfl ⟨show c1 + 0 ≤ 601024 by omega, show s1 + 0 ≤ 7293034 by omega⟩ _ rfl (fun v M2 hp => ?_)
  obtain ⟨x, I1, rfl, rfl, hm⟩ := hp
  refine g_aload_n C dL_law_994 rfl ?_
  refine g_callV (ci := 10) (o := 103) (As := []) (rest := [.int x]) C dL_law_995 vwX10_trouble mqL_142 ⟨Nat.le_of_ble_eq_true rfl, Nat.le_of_ble_eq_true rfl⟩ rfl ly_103 (show 103 < 125 by decide) hm rfl (Nat.le_of_ble_eq_true rfl) rfl ⟨show c1 + 0 + 0 ≤ 601024 by omega, show s1 + 0 + 0 ≤ 7293034 by omega⟩ _ rfl (fun v M2 hp => ?_)
  obtain ⟨rfl, I2, rfl, hI2⟩ := hp
  refine g_icmp_eq 1003 C dL_law_998 (by decide) (fun _ => ?_) (fun q => absurd rfl q)
  exact Go.widen (show c1 + 0 + 0 ≤ c1 + 1 by omega) (show s1 + 0 + 0 ≤ s1 + 6 by omega) (nx I2 _ hI2 a5 a6)
