/-! ## the model's cure -/
def offC (I A : Nat → Nat → Int32) : Prop := ∀ q, q < 114 ∨ (118 < q ∧ q ≠ 121 ∧ q ≠ 123) → A q = I q
theorem offC_ok {I A : Nat → Nat → Int32} {n : Nat} {P : Pln} (h : offC I A) (hm : mOK I n P) : mOK A n P := mOK_cg (by rw [h 103 (by omega)]) (fun q hq => h q (by omega)) hm
def cuU (P : Pln) (a g : Rw) (p : Nat) : Int32 := g p &&& nP P a p
abbrev CdS : Type := Nat × (Nat → Nat)
def updN (f : Nat → Nat) (i v : Nat) : Nat → Nat := fun j => if j = i then v else f j
def mgF (u : Rw) : Nat → Nat → CdS → Bool × CdS
  | 0, _, s => (true, s)
  | f + 1, q, s => if (u (q / 16) >>> (nI (q % 16) &&& 31)) &&& 1 = 0 then mgF u f (q + 1) s else if s.1 = 10 then (false, s) else mgF u f (q + 1) (s.1 + 1, updN s.2 s.1 (100 * (q / 16) + q % 16))
def mG (P : Pln) (n : Nat) (g : Rw) (F : Nat) : Bool × CdS := mgF (cuU P (wA P n F) g) (16 * n) 0 (0, fun _ => 0)
def tgS (cd : Nat → Nat) (set : Int32) (k : Nat) (g : Rw) : Rw := if (set >>> (nI k &&& 31)) &&& 1 = 1 then trnG g (cd k / 100) (cd k % 100) else g
def svR (P : Pln) (n : Nat) (g me : Rw) (F F2 : Nat) : Rw := fun s => wL P n g F F2 s &&& me s
def wellF (P : Pln) (n : Nat) (g me : Rw) (F F2 : Nat) (cd : Nat → Nat) (c : Nat) (set : Int32) : Int32 := it (wlS (wL P n (it (tgS cd set) c g) F F2) (svR P n g me F F2)) 16 1
def cuK (set best : Int32) : Prop := ¬ best = -1 ∧ (bts 32 best 0 < bts 32 set 0 ∨ (bts 32 set 0 = bts 32 best 0 ∧ ((set ^^^ best) &&& -(set ^^^ best)) &&& set = 0))
noncomputable def cuS (P : Pln) (n : Nat) (g me : Rw) (F F2 : Nat) (cd : Nat → Nat) (c : Nat) (k : Nat) (b : Int32) : Int32 := by classical exact if cuK (nI (k + 1)) b ∨ wellF P n g me F F2 cd c (nI (k + 1)) = 0 then b else nI (k + 1)
noncomputable def cuB (P : Pln) (n : Nat) (g me : Rw) (F F2 : Nat) (cd : Nat → Nat) (c : Nat) : Int32 := it (cuS P n g me F F2 cd c) (2 ^ c - 1) (-1)
def kpM (cd : Nat → Nat) (best : Int32) (k : Nat) (s : Nat × Rw) : Nat × Rw := if (best >>> (nI k &&& 31)) &&& 1 = 0 then s else (s.1 + 1, upd s.2 s.1 (nI (cd k)))
theorem kpM_le (cd : Nat → Nat) (best : Int32) (s : Rw) : ∀ k, (it (kpM cd best) k (0, s)).1 ≤ k
  | 0 => Nat.le_refl _
  | k + 1 => by
    have := kpM_le cd best s k
    show (kpM cd best k (it (kpM cd best) k (0, s))).1 ≤ k + 1
    generalize it (kpM cd best) k (0, s) = z at this ⊢
    unfold kpM
    split
    · omega
    · show _ + 1 ≤ _; omega
/-- what cure comes to -/
def CuR (I : Nat → Nat → Int32) (J : Nat → Nat → Int64) (P : Pln) (n F F2 : Nat) : Option Value → Mm → Prop := fun v M' =>
  (mMis (wL P n (I 104) F F2) (I 106) = 0 → v = some (.int 0) ∧ ∃ A, offC (T0 I) A ∧ M' = mm (tr (up1 A 103 34 0) 0) J) ∧
  (¬ mMis (wL P n (I 104) F F2) (I 106) = 0 → ((mG P n (I 104) F).1 = false → v = some (.int (-1)) ∧ ∃ A, offC (T0 I) A ∧ M' = mm (tr A 6) J) ∧
   ((mG P n (I 104) F).1 = true → 
     (cuB P n (I 104) (I 106) F F2 (mG P n (I 104) F).2.2 (mG P n (I 104) F).2.1 = -1 → v = some (.int (-1)) ∧ ∃ A, offC (T0 I) A ∧ M' = mm (tr A 5) J) ∧
     (¬ cuB P n (I 104) (I 106) F F2 (mG P n (I 104) F).2.2 (mG P n (I 104) F).2.1 = -1 → v = some (.int (nI (it (kpM (mG P n (I 104) F).2.2 (cuB P n (I 104) (I 106) F F2 (mG P n (I 104) F).2.2 (mG P n (I 104) F).2.1)) (mG P n (I 104) F).2.1 (0, I 122)).1)) ∧ ∃ A, offC (T0 I) A ∧ M' = mm (tr (up1 (stRow A 122 10 (it (kpM (mG P n (I 104) F).2.2 (cuB P n (I 104) (I 106) F F2 (mG P n (I 104) F).2.2 (mG P n (I 104) F).2.1)) (mG P n (I 104) F).2.1 (0, I 122)).2) 103 34 (nI (it (kpM (mG P n (I 104) F).2.2 (cuB P n (I 104) (I 106) F F2 (mG P n (I 104) F).2.2 (mG P n (I 104) F).2.1)) (mG P n (I 104) F).2.1 (0, I 122)).1)) 0) J)))
theorem s_mMisG {l : Launch} {G : Gm} {A : Nat → Nat → Int32} {J : Nat → Nat → Int64} {lk me : Rw} (h1 : ∀ s, s < 16 → A 117 s = lk s) (h2 : ∀ s, s < 16 → A 106 s = me s) : Sp l G iX10_misuses [.ref (G.1 + 103)] (mm A J) (RetI (mMis lk me) (mm A J)) noT := by
  have := s_mmisuses (l := l) (G := G) (I := A) (J := J)
  rw [show it (fun s a => a + bts 32 (A 117 s &&& (A 106 s ^^^ (-1))) 0) 16 0 = mMis lk me from it_congr (fun k hk x => by rw [h1 k hk, h2 k hk])] at this
  exact this
theorem s_isWellG {l : Launch} {G : Gm} {A : Nat → Nat → Int32} {J : Nat → Nat → Int64} {n : Nat} {P : Pln} (hm : mOK A n P) {F F2 : Nat} (hfu : ∀ g : Rw, fuOK P n g F F2) {g sv : Rw} (hg : A 104 = g) (h2 : ∀ s, s < 16 → A 123 s = sv s) : Sp l G iX10_isWell [.ref (G.1 + 103)] (mm A J) (RetI (it (wlS (wL P n g F F2) sv) 16 1) (mm (wkF A P n F F2) J)) noT := by
  have := s_isWell (l := l) (G := G) (J := J) hm hfu
  rw [hg, show it (wlS (wL P n g F F2) (A 123)) 16 1 = it (wlS (wL P n g F F2) sv) 16 1 from it_congr (fun k hk x => by unfold wlS; rw [h2 k hk])] at this
  exact this
theorem shl_c : ∀ c, c ≤ 10 → (1 : Int32) <<< (nI c &&& 31) = nI (2 ^ c) := by decide +kernel
def tgX (cd : Nat → Nat) (set : Int32) (b : Nat) : Nat → Int32
  | 0 => 0
  | k + 1 => if (set >>> (nI k &&& 31)) &&& 1 = 1 ∧ b = cd k / 100 then tgX cd set b k ^^^ bt (cd k % 100) else tgX cd set b k
theorem tg_at (cd : Nat → Nat) (set : Int32) (g : Rw) (b : Nat) : ∀ k, it (tgS cd set) k g b = g b ^^^ tgX cd set b k
  | 0 => (Int32.xor_zero).symm
  | k + 1 => by
    show tgS cd set k (it (tgS cd set) k g) b = _
    have ih := tg_at cd set g b k
    generalize it (tgS cd set) k g = z at ih ⊢
    show (if (set >>> (nI k &&& 31)) &&& 1 = 1 then trnG z (cd k / 100) (cd k % 100) else z) b = g b ^^^ (if (set >>> (nI k &&& 31)) &&& 1 = 1 ∧ b = cd k / 100 then tgX cd set b k ^^^ bt (cd k % 100) else tgX cd set b k)
    by_cases h : (set >>> (nI k &&& 31)) &&& 1 = 1
    · rw [if_pos h]
      unfold trnG upd
      by_cases hb : b = cd k / 100
      · rw [if_pos hb, if_pos (And.intro h hb), ← hb, ih, Int32.xor_assoc]
      · rw [if_neg hb, if_neg (fun q : _ ∧ _ => hb q.2), ih]
    · rw [if_neg h, if_neg (fun q : _ ∧ _ => h q.1), ih]
theorem tg_back (cd : Nat → Nat) (set : Int32) (g : Rw) (k : Nat) : it (tgS cd set) k (it (tgS cd set) k g) = g := by
  funext b
  rw [tg_at, tg_at, xor_back]
theorem tg_far {cd : Nat → Nat} {set : Int32} {g : Rw} {b : Nat} : ∀ {k : Nat}, (∀ i, i < k → cd i / 100 < 10) → 10 ≤ b → it (tgS cd set) k g b = g b
  | 0, _, _ => rfl
  | k + 1, h, hb => by
    show tgS cd set k (it (tgS cd set) k g) b = _
    have ih := tg_far (set := set) (g := g) (k := k) (fun i hi => h i (by omega)) hb
    generalize it (tgS cd set) k g = z at ih ⊢
    unfold tgS
    split
    · unfold trnG upd
      rw [if_neg (by have := h k (by omega); omega), ih]
    · exact ih
theorem trn_st {A : Nat → Nat → Int32} {g : Rw} {p r : Nat} (hp : p < 10) : trnF (stRow A 104 10 g) p r = stRow A 104 10 (trnG g p r) := by
  unfold trnF
  rw [stRow_up hp, stRow_in hp]
  rfl
theorem cuM_up {A : Nat → Nat → Int32} {row : Rw} {x y v : Int32} {c : Nat} (hc : c < 10) : up1 (up1 (up1 (stRow A 122 10 row) 103 34 x) 122 c v) 103 34 y = up1 (stRow A 122 10 (upd row c v)) 103 34 y := by
  funext a b
  unfold up1 stRow upd
  by_cases h1 : a = 103
  · subst h1; simp; by_cases h2 : b = 34 <;> simp [h2]
  · by_cases h2 : a = 122
    · subst h2
      by_cases h3 : b = c
      · subst h3; simp [hc]
      · simp [h3]
    · simp [h1, h2]
def cdI (A : Nat → Nat → Int32) (s : CdS) : Prop := ∀ k, k < s.1 → A 121 k = nI (s.2 k) ∧ s.2 k / 100 < 10 ∧ s.2 k % 100 < 16
theorem st_self {A : Nat → Nat → Int32} {g : Rw} (h : ∀ b, b < 10 → A 104 b = g b) : stRow A 104 10 g = A := by
  funext a b
  unfold stRow
  split
  · next q => rw [q.1, h b q.2]
  · rfl
theorem st_row {A : Nat → Nat → Int32} {g : Rw} (h : ∀ b, 10 ≤ b → g b = A 104 b) : stRow A 104 10 g 104 = g := by
  funext b
  unfold stRow
  by_cases hb : b < 10
  · simp [hb]
  · rw [if_neg (fun q => hb q.2), h b (by omega)]
set_option maxHeartbeats 8000000 in
theorem s_mcure {l : Launch} {G : Gm} {I : Nat → Nat → Int32} {J : Nat → Nat → Int64} {n : Nat} {P : Pln} (hm : mOK I n P) {F F2 : Nat} (hfu : ∀ g : Rw, fuOK P n g F F2) : Sp l G iX10_cure [.ref (G.1 + 103)] (mm I J) (CuR I J P n F F2) noT := by
  refine Sp.of (by decide +kernel) (Nat.le_of_ble_eq_true rfl) ?_
  intro X hXl C
  subst hXl
  show Go X G 5 0 0 _ 0 [.ref (G.1 + 103), uu, uu, uu, uu] [] (mm I J)
  have hn10 := hm.1.1
  have hn := hm.2.1
  have hoff : offC (T0 I) (stRow (wkF (T0 I) P n F F2) 123 16 (svR P n (I 104) (I 106) F F2)) := fun q hq => by
    rw [stRow_off (by omega)]
    exact offW_wk q (by omega)
  have ml : ¬ mMis (wL P n (I 104) F F2) (I 106) = 0 → ∀ (s : CdS) (A : Nat → Nat → Int32), s.1 ≤ 10 → offC (T0 I) A → (∀ s, s < 16 → A 123 s = (svR P n (I 104) (I 106) F F2) s) → cdI A s → (true, s) = mG P n (I 104) F → ∀ k : Nat, k ≤ 2 ^ s.1 - 1 → ∀ A : Nat → Nat → Int32, offC (T0 I) A → (∀ s, s < 16 → A 123 s = (svR P n (I 104) (I 106) F F2) s) → cdI A s → ∀ a4 : Value, Go X G 5 0 0 (KQ X G iX10_cure (CuR I J P n F F2) noT) 152 [.ref (G.1 + 103), .int (nI s.1), .int (it (cuS P n (I 104) (I 106) F F2 s.2 s.1) k (-1)), .int (nI (k + 1)), a4] [] (mm A J) := by
    intro h0 s A0 hs10 hA0 hsv0 hcd0 hf
    have hpw : 1 ≤ 2 ^ s.1 := Nat.one_le_two_pow
    have hpw2 : 2 ^ s.1 ≤ 2 ^ 10 := Nat.pow_le_pow_right (by decide) hs10
    refine loopN (2 ^ s.1 - 1) ?_ ?_
    · intro A hA hsv hcd a4
      show Go X G 5 0 0 _ 152 _ [] _
      refine g_iload_n C dX10_cure_152 rfl ?_
      refine g_iconst (v := 1) C dX10_cure_153 (by decide) ?_
      refine g_iload_n C dX10_cure_154 rfl ?_
      refine g_ishl C dX10_cure_155 ?_
      rw [shl_c s.1 hs10, show 2 ^ s.1 - 1 + 1 = 2 ^ s.1 by omega]
      refine g_icmp_ge 284 C dX10_cure_156 (by decide) (fun c156 => ?_) (fun c156 => ?_)
      · refine g_iload_n C dX10_cure_284 rfl ?_
        refine g_iconst (v := (-1)) C dX10_cure_285 (by decide) ?_
        refine g_icmp_ne 295 C dX10_cure_286 (by decide) (fun c286 => ?_) (fun c286 => ?_)
        · skip
          refine g_aload_n C dX10_cure_295 rfl ?_
          refine g_iconst (v := 0) C dX10_cure_296 (by decide) ?_
          refine g_putI (ci := 10) (k := 34) .int C dX10_cure_297 rfl inGX10 tyX10_ok nmX10 (by decide) fwX10_272 ly_103 (by decide) rfl rfl rfl rfl rfl ?_
          refine g_iconst (v := 0) C dX10_cure_300 (by decide) ?_
          refine g_istore_3 C dX10_cure_301 (by decide) ?_
          have kl : ∀ i : Nat, i ≤ s.1 → ∀ a4 : Value, Go X G 5 0 0 (KQ X G iX10_cure (CuR I J P n F F2) noT) 302 [.ref (G.1 + 103), .int (nI s.1), .int (cuB P n (I 104) (I 106) F F2 s.2 s.1), .int (nI i), a4] [] (mm (up1 (stRow A 122 10 (it (kpM s.2 (cuB P n (I 104) (I 106) F F2 s.2 s.1)) i (0, I 122)).2) 103 34 (nI (it (kpM s.2 (cuB P n (I 104) (I 106) F F2 s.2 s.1)) i (0, I 122)).1)) J) := by
            refine loopN (s.1) ?_ ?_
            · intro a4
              show Go X G 5 0 0 _ 302 _ [] _
              refine g_iload_n C dX10_cure_302 rfl ?_
              refine g_iload_n C dX10_cure_303 rfl ?_
              refine g_icmp_ge 349 C dX10_cure_304 (by decide) (fun c304 => ?_) (fun c304 => ?_)
              · refine g_aload_n C dX10_cure_349 rfl ?_
                refine g_aload_n C dX10_cure_350 rfl ?_
                refine g_getIv (ci := 10) (k := 34) (v := nI (it (kpM s.2 (cuB P n (I 104) (I 106) F F2 s.2 s.1)) s.1 (0, I 122)).1) C dX10_cure_351 rfl inGX10 (by decide) fwX10_272 ly_103 (by decide) rfl (up1_same _ _ _ _) ?_
                refine gv1I (ci := 10) C dX10_cure_354 vwX10_done mwX10_98 ⟨by decide, by decide⟩ rfl ly_103 (Nat.le_of_ble_eq_true rfl) (s_done _) (Nat.le_of_ble_eq_true rfl) rfl ⟨by decide, by decide⟩ ?_
                exact g_iret C dX10_cure_357 rfl rfl rfl ⟨fun q => absurd q h0, fun _ => ⟨fun q => absurd (show true = false from (congrArg Prod.fst hf).trans q) (by decide), fun _ => ⟨fun q => absurd (by rw [← hf] at q; exact q) c286, fun _ => ⟨by rw [← hf], A, hA, by rw [← hf]⟩⟩⟩⟩
              · exact absurd (Int32.le_refl _) c304
            · intro i hi ihi a4
              show Go X G 5 0 0 _ 302 _ [] _
              have hle := kpM_le s.2 (cuB P n (I 104) (I 106) F F2 s.2 s.1) (I 122) i
              refine g_iload_n C dX10_cure_302 rfl ?_
              refine g_iload_n C dX10_cure_303 rfl ?_
              refine g_icmp_ge 349 C dX10_cure_304 (by decide) (fun c304 => ?_) (fun c304 => ?_)
              · exact (nI_ge_dead (n := s.1) c304 hi (by omega)).elim
              · refine g_iload_n C dX10_cure_307 rfl ?_
                refine g_iload_n C dX10_cure_308 rfl ?_
                refine g_ishr C dX10_cure_309 ?_
                refine g_iconst (v := 1) C dX10_cure_310 (by decide) ?_
                refine g_iand C dX10_cure_311 ?_
                refine g_if_ne 318 C dX10_cure_312 (by decide) (fun c312 => ?_) (fun c312 => ?_)
                · refine g_aload_n C dX10_cure_318 rfl ?_
                  refine g_getR (ci := 10) (k := 32) (q := 122) C dX10_cure_319 rfl inGX10 (by decide) fwX10_74 ly_103 (by decide) rfl rfl ?_
                  refine g_aload_n C dX10_cure_322 rfl ?_
                  refine g_getIv (ci := 10) (k := 34) (v := nI (it (kpM s.2 (cuB P n (I 104) (I 106) F F2 s.2 s.1)) i (0, I 122)).1) C dX10_cure_323 rfl inGX10 (by decide) fwX10_272 ly_103 (by decide) rfl (up1_same _ _ _ _) ?_
                  refine g_aload_n C dX10_cure_326 rfl ?_
                  refine g_getR (ci := 10) (k := 31) (q := 121) C dX10_cure_327 rfl inGX10 (by decide) fwX10_71 ly_103 (by decide) rfl rfl ?_
                  refine g_iload_n C dX10_cure_330 rfl ?_
                  refine g_ialdv (v := nI (s.2 i)) i C dX10_cure_331 ly_121 (by decide) (by decide) rfl (show i < 10 by omega) (by rw [up1_off (by decide), stRow_off (by decide)]; exact (hcd i hi).1) ?_
                  refine g_iast (it (kpM s.2 (cuB P n (I 104) (I 106) F F2 s.2 s.1)) i (0, I 122)).1 C dX10_cure_332 ly_122 (by decide) (by decide) rfl (show (it (kpM s.2 (cuB P n (I 104) (I 106) F F2 s.2 s.1)) i (0, I 122)).1 < 10 by omega) ?_
                  refine g_aload_n C dX10_cure_333 rfl ?_
                  refine g_dup C dX10_cure_334 rfl ?_
                  refine g_getIv (ci := 10) (k := 34) (v := nI (it (kpM s.2 (cuB P n (I 104) (I 106) F F2 s.2 s.1)) i (0, I 122)).1) C dX10_cure_335 rfl inGX10 (by decide) fwX10_272 ly_103 (by decide) rfl (by rw [up1_off (by decide), up1_same]) ?_
                  refine g_iconst (v := 1) C dX10_cure_338 (by decide) ?_
                  refine g_iadd C dX10_cure_339 ?_
                  rw [nI_1]
                  refine g_putI (ci := 10) (k := 34) .int C dX10_cure_340 rfl inGX10 tyX10_ok nmX10 (by decide) fwX10_272 ly_103 (by decide) rfl rfl rfl rfl rfl ?_
                  refine g_iinc_3 C dX10_cure_343 (nI_1 i) (by decide) ?_
                  refine g_goto 302 C dX10_cure_346 (by decide) ?_
                  first
                    | (have h9 : it (kpM s.2 (cuB P n (I 104) (I 106) F F2 s.2 s.1)) (i + 1) (0, I 122) = (it (kpM s.2 (cuB P n (I 104) (I 106) F F2 s.2 s.1)) i (0, I 122)) := if_pos c312
                       rw [h9] at ihi; exact ihi _)
                    | (have h9 : it (kpM s.2 (cuB P n (I 104) (I 106) F F2 s.2 s.1)) (i + 1) (0, I 122) = _ := if_neg c312
                       rw [h9] at ihi; rw [cuM_up (show (it (kpM s.2 (cuB P n (I 104) (I 106) F F2 s.2 s.1)) i (0, I 122)).1 < 10 by omega)]; exact ihi _)
                · refine g_goto 343 C dX10_cure_315 (by decide) ?_
                  refine g_iinc_3 C dX10_cure_343 (nI_1 i) (by decide) ?_
                  refine g_goto 302 C dX10_cure_346 (by decide) ?_
                  first
                    | (have h9 : it (kpM s.2 (cuB P n (I 104) (I 106) F F2 s.2 s.1)) (i + 1) (0, I 122) = (it (kpM s.2 (cuB P n (I 104) (I 106) F F2 s.2 s.1)) i (0, I 122)) := if_pos c312
                       rw [h9] at ihi; exact ihi _)
                    | (have h9 : it (kpM s.2 (cuB P n (I 104) (I 106) F F2 s.2 s.1)) (i + 1) (0, I 122) = _ := if_neg c312
                       rw [h9] at ihi; rw [cuM_up (show (it (kpM s.2 (cuB P n (I 104) (I 106) F F2 s.2 s.1)) i (0, I 122)).1 < 10 by omega)]; exact ihi _)
          have h5 := kl 0 (Nat.zero_le _)
          rw [show (up1 (stRow A 122 10 (it (kpM s.2 (cuB P n (I 104) (I 106) F F2 s.2 s.1)) 0 (0, I 122)).2) 103 34 (nI (it (kpM s.2 (cuB P n (I 104) (I 106) F F2 s.2 s.1)) 0 (0, I 122)).1)) = up1 A 103 34 0 by (show up1 (stRow A 122 10 (I 122)) 103 34 0 = _; rw [show I 122 = A 122 by rw [hA 122 (by omega), T0_off (by decide)], stRow_self])] at h5
          exact h5 _
        · skip
          refine g_aload_n C dX10_cure_289 rfl ?_
          refine g_iconst (v := 5) C dX10_cure_290 (by decide) ?_
          refine gv1I (ci := 10) C dX10_cure_291 vwX10_refused mwX10_94 ⟨by decide, by decide⟩ rfl ly_103 (Nat.le_of_ble_eq_true rfl) (s_refused _) (Nat.le_of_ble_eq_true rfl) rfl ⟨by decide, by decide⟩ ?_
          exact g_iret C dX10_cure_294 rfl rfl rfl ⟨fun q => absurd q h0, fun _ => ⟨fun q => absurd (show true = false from (congrArg Prod.fst hf).trans q) (by decide), fun _ => ⟨fun _ => ⟨rfl, A, hA, rfl⟩, fun q => absurd (by rw [← hf]; exact c286) q⟩⟩⟩
      · exact absurd (Int32.le_refl _) c156
    · intro k hk ih A hA hsv hcd a4
      show Go X G 5 0 0 _ 152 _ [] _
      refine g_iload_n C dX10_cure_152 rfl ?_
      refine g_iconst (v := 1) C dX10_cure_153 (by decide) ?_
      refine g_iload_n C dX10_cure_154 rfl ?_
      refine g_ishl C dX10_cure_155 ?_
      rw [shl_c s.1 hs10]
      refine g_icmp_ge 284 C dX10_cure_156 (by decide) (fun c156 => ?_) (fun c156 => ?_)
      · exact (nI_ge_dead (n := 2 ^ s.1) c156 (by omega) (by omega)).elim
      · refine g_iload_n C dX10_cure_159 rfl ?_
        refine g_iconst (v := (-1)) C dX10_cure_160 (by decide) ?_
        refine g_icmp_eq 197 C dX10_cure_161 (by decide) (fun c161 => ?_) (fun c161 => ?_)
        · refine g_iconst (v := 0) C dX10_cure_197 (by decide) ?_
          refine g_istore_4 C dX10_cure_198 (by decide) ?_
          have hnk : ¬ cuK (nI (k + 1)) (it (cuS P n (I 104) (I 106) F F2 s.2 s.1) k (-1)) := by
            first
            | exact fun q => q.1 c161
            | exact fun q => q.2.elim c172 (fun z => c183 z.1)
            | exact fun q => q.2.elim c172 (fun z => g191 z.2)
          have t2 : ∀ bb : Int32, ∀ i : Nat, i ≤ s.1 → bb = it (cuS P n (I 104) (I 106) F F2 s.2 s.1) (k + 1) (-1) → Go X G 5 0 0 (KQ X G iX10_cure (CuR I J P n F F2) noT) 245 [.ref (G.1 + 103), .int (nI s.1), .int bb, .int (nI (k + 1)), .int (nI i)] [] (mm (stRow (wkF (stRow A 104 10 (it (tgS s.2 (nI (k + 1))) s.1 (I 104))) P n F F2) 104 10 (it (tgS s.2 (nI (k + 1))) i (it (tgS s.2 (nI (k + 1))) s.1 (I 104)))) J) := by
            intro bb
            refine loopN (s.1) ?_ ?_
            · intro hbb
              show Go X G 5 0 0 _ 245 _ [] _
              refine g_iload C dX10_cure_245 rfl ?_
              refine g_iload_n C dX10_cure_247 rfl ?_
              refine g_icmp_ge 278 C dX10_cure_248 (by decide) (fun c248 => ?_) (fun c248 => ?_)
              · refine g_iinc_3 C dX10_cure_278 (nI_1 (k + 1)) (by decide) ?_
                refine g_goto 152 C dX10_cure_281 (by decide) ?_
                rw [tg_back]
                have e9 : ∀ q, q < 114 ∨ 118 < q → stRow (wkF (stRow A 104 10 (it (tgS s.2 (nI (k + 1))) s.1 (I 104))) P n F F2) 104 10 (I 104) q = A q := fun q hq => by
                  by_cases h4 : q = 104
                  · subst h4
                    rw [show A 104 = I 104 by rw [hA 104 (by omega), T0_off (by decide)]]
                    funext b
                    unfold stRow
                    split
                    · rfl
                    · next z =>
                      unfold wkF
                      rw [wk_off hq]
                      show stRow A 104 10 (it (tgS s.2 (nI (k + 1))) s.1 (I 104)) 104 b = _
                      unfold stRow
                      rw [if_neg z, hA 104 (by omega), T0_off (by decide)]
                  · rw [stRow_off h4]
                    unfold wkF
                    rw [wk_off hq, stRow_off h4]
                rw [hbb]
                exact ih (stRow (wkF (stRow A 104 10 (it (tgS s.2 (nI (k + 1))) s.1 (I 104))) P n F F2) 104 10 (I 104)) (fun q hq => (e9 q (by omega)).trans (hA q hq)) (fun s hs => by rw [e9 123 (by omega)]; exact hsv s hs) (fun k hk => by rw [e9 121 (by omega)]; exact hcd k hk) _
              · exact absurd (Int32.le_refl _) c248
            · intro i hi ihi hbb
              show Go X G 5 0 0 _ 245 _ [] _
              refine g_iload C dX10_cure_245 rfl ?_
              refine g_iload_n C dX10_cure_247 rfl ?_
              refine g_icmp_ge 278 C dX10_cure_248 (by decide) (fun c248 => ?_) (fun c248 => ?_)
              · exact (nI_ge_dead (n := s.1) c248 hi (by omega)).elim
              · refine g_iload_n C dX10_cure_251 rfl ?_
                refine g_iload C dX10_cure_252 rfl ?_
                refine g_ishr C dX10_cure_254 ?_
                refine g_iconst (v := 1) C dX10_cure_255 (by decide) ?_
                refine g_iand C dX10_cure_256 ?_
                refine g_iconst (v := 1) C dX10_cure_257 (by decide) ?_
                refine g_icmp_ne 272 C dX10_cure_258 (by decide) (fun c258 => ?_) (fun c258 => ?_)
                · refine g_iinc_4 C dX10_cure_272 (nI_1 i) (by decide) ?_
                  refine g_goto 245 C dX10_cure_275 (by decide) ?_
                  first
                    | (have h9 : it (tgS s.2 (nI (k + 1))) (i + 1) (it (tgS s.2 (nI (k + 1))) s.1 (I 104)) = (it (tgS s.2 (nI (k + 1))) i (it (tgS s.2 (nI (k + 1))) s.1 (I 104))) := if_neg c258
                       rw [h9] at ihi; exact ihi hbb)
                    | (have h9 : it (tgS s.2 (nI (k + 1))) (i + 1) (it (tgS s.2 (nI (k + 1))) s.1 (I 104)) = _ := if_pos c258
                       rw [h9] at ihi; exact ihi hbb)
                · refine g_aload_n C dX10_cure_261 rfl ?_
                  refine g_aload_n C dX10_cure_262 rfl ?_
                  refine g_getR (ci := 10) (k := 31) (q := 121) C dX10_cure_263 rfl inGX10 (by decide) fwX10_71 ly_103 (by decide) rfl rfl ?_
                  refine g_iload C dX10_cure_266 rfl ?_
                  refine g_ialdv (v := nI (100 * (s.2 i / 100) + s.2 i % 100)) i C dX10_cure_268 ly_121 (by decide) (by decide) rfl (show i < 10 by omega) (by rw [stRow_off (by decide)]; unfold wkF; rw [wk_off (Or.inr (by decide)), stRow_off (by decide), (hcd i hi).1, Nat.div_add_mod]) ?_
                  refine gv1V (ci := 10) C dX10_cure_269 vwX10_turns mwX10_278 ⟨by decide, by decide⟩ rfl ly_103 (Nat.le_of_ble_eq_true rfl) (s_turns (hcd i hi).2.1 (show s.2 i % 100 < 100 by omega)) (Nat.le_of_ble_eq_true rfl) rfl ⟨by decide, by decide⟩ ?_
                  rw [trn_st (hcd i hi).2.1]
                  refine g_iinc_4 C dX10_cure_272 (nI_1 i) (by decide) ?_
                  refine g_goto 245 C dX10_cure_275 (by decide) ?_
                  first
                    | (have h9 : it (tgS s.2 (nI (k + 1))) (i + 1) (it (tgS s.2 (nI (k + 1))) s.1 (I 104)) = (it (tgS s.2 (nI (k + 1))) i (it (tgS s.2 (nI (k + 1))) s.1 (I 104))) := if_neg c258
                       rw [h9] at ihi; exact ihi hbb)
                    | (have h9 : it (tgS s.2 (nI (k + 1))) (i + 1) (it (tgS s.2 (nI (k + 1))) s.1 (I 104)) = _ := if_pos c258
                       rw [h9] at ihi; exact ihi hbb)
          have t3 : ∀ bb : Int32, bb = it (cuS P n (I 104) (I 106) F F2 s.2 s.1) (k + 1) (-1) → Go X G 5 0 0 (KQ X G iX10_cure (CuR I J P n F F2) noT) 245 [.ref (G.1 + 103), .int (nI s.1), .int bb, .int (nI (k + 1)), .int 0] [] (mm (wkF (stRow A 104 10 (it (tgS s.2 (nI (k + 1))) s.1 (I 104))) P n F F2) J) := by
            intro bb hbb
            have h7 := t2 bb 0 (Nat.zero_le _) hbb
            rw [show stRow (wkF (stRow A 104 10 (it (tgS s.2 (nI (k + 1))) s.1 (I 104))) P n F F2) 104 10 (it (tgS s.2 (nI (k + 1))) 0 (it (tgS s.2 (nI (k + 1))) s.1 (I 104))) = (wkF (stRow A 104 10 (it (tgS s.2 (nI (k + 1))) s.1 (I 104))) P n F F2) from st_self (fun b hb => by unfold wkF; rw [wk_off (Or.inl (by decide)), stRow_in hb]; rfl)] at h7
            exact h7
          have t1 : ∀ i : Nat, i ≤ s.1 → Go X G 5 0 0 (KQ X G iX10_cure (CuR I J P n F F2) noT) 200 [.ref (G.1 + 103), .int (nI s.1), .int (it (cuS P n (I 104) (I 106) F F2 s.2 s.1) k (-1)), .int (nI (k + 1)), .int (nI i)] [] (mm (stRow A 104 10 (it (tgS s.2 (nI (k + 1))) i (I 104))) J) := by
            refine loopN (s.1) ?_ ?_
            · skip
              show Go X G 5 0 0 _ 200 _ [] _
              refine g_iload C dX10_cure_200 rfl ?_
              refine g_iload_n C dX10_cure_202 rfl ?_
              refine g_icmp_ge 233 C dX10_cure_203 (by decide) (fun c203 => ?_) (fun c203 => ?_)
              · refine g_aload_n C dX10_cure_233 rfl ?_
                refine gv0I (ci := 10) C dX10_cure_234 vwX10_isWell mwX10_281 ⟨by decide, by decide⟩ rfl ly_103 (Nat.le_of_ble_eq_true rfl) (s_isWellG (mOK_st (offC_ok hA (mOK_T0 hm))) hfu (g := (it (tgS s.2 (nI (k + 1))) s.1 (I 104))) (sv := (svR P n (I 104) (I 106) F F2)) (st_row (fun b hb => by rw [tg_far (fun i hi => (hcd i hi).2.1) hb, hA 104 (by omega), T0_off (by decide)])) (fun s hs => by rw [stRow_off (by decide)]; exact hsv s hs)) (Nat.le_of_ble_eq_true rfl) rfl ⟨by decide, by decide⟩ ?_
                refine g_if_eq 242 C dX10_cure_237 (by decide) (fun c237 => ?_) (fun c237 => ?_)
                · skip
                  refine g_iconst (v := 0) C dX10_cure_242 (by decide) ?_
                  refine g_istore_4 C dX10_cure_243 (by decide) ?_
                  first
                    | exact t3 _ (if_pos (Or.inr c237)).symm
                    | exact t3 _ (if_neg (fun q => q.elim hnk (fun z => absurd z c237))).symm
                · skip
                  refine g_iload_n C dX10_cure_240 rfl ?_
                  refine g_istore_2 C dX10_cure_241 (by decide) ?_
                  refine g_iconst (v := 0) C dX10_cure_242 (by decide) ?_
                  refine g_istore_4 C dX10_cure_243 (by decide) ?_
                  first
                    | exact t3 _ (if_pos (Or.inr c237)).symm
                    | exact t3 _ (if_neg (fun q => q.elim hnk (fun z => absurd z c237))).symm
              · exact absurd (Int32.le_refl _) c203
            · intro i hi ihi 
              show Go X G 5 0 0 _ 200 _ [] _
              refine g_iload C dX10_cure_200 rfl ?_
              refine g_iload_n C dX10_cure_202 rfl ?_
              refine g_icmp_ge 233 C dX10_cure_203 (by decide) (fun c203 => ?_) (fun c203 => ?_)
              · exact (nI_ge_dead (n := s.1) c203 hi (by omega)).elim
              · refine g_iload_n C dX10_cure_206 rfl ?_
                refine g_iload C dX10_cure_207 rfl ?_
                refine g_ishr C dX10_cure_209 ?_
                refine g_iconst (v := 1) C dX10_cure_210 (by decide) ?_
                refine g_iand C dX10_cure_211 ?_
                refine g_iconst (v := 1) C dX10_cure_212 (by decide) ?_
                refine g_icmp_ne 227 C dX10_cure_213 (by decide) (fun c213 => ?_) (fun c213 => ?_)
                · refine g_iinc_4 C dX10_cure_227 (nI_1 i) (by decide) ?_
                  refine g_goto 200 C dX10_cure_230 (by decide) ?_
                  first
                    | (have h9 : it (tgS s.2 (nI (k + 1))) (i + 1) (I 104) = (it (tgS s.2 (nI (k + 1))) i (I 104)) := if_neg c213
                       rw [h9] at ihi; exact ihi)
                    | (have h9 : it (tgS s.2 (nI (k + 1))) (i + 1) (I 104) = _ := if_pos c213
                       rw [h9] at ihi; exact ihi)
                · refine g_aload_n C dX10_cure_216 rfl ?_
                  refine g_aload_n C dX10_cure_217 rfl ?_
                  refine g_getR (ci := 10) (k := 31) (q := 121) C dX10_cure_218 rfl inGX10 (by decide) fwX10_71 ly_103 (by decide) rfl rfl ?_
                  refine g_iload C dX10_cure_221 rfl ?_
                  refine g_ialdv (v := nI (100 * (s.2 i / 100) + s.2 i % 100)) i C dX10_cure_223 ly_121 (by decide) (by decide) rfl (show i < 10 by omega) (by rw [stRow_off (by decide), (hcd i hi).1, Nat.div_add_mod]) ?_
                  refine gv1V (ci := 10) C dX10_cure_224 vwX10_turns mwX10_278 ⟨by decide, by decide⟩ rfl ly_103 (Nat.le_of_ble_eq_true rfl) (s_turns (hcd i hi).2.1 (show s.2 i % 100 < 100 by omega)) (Nat.le_of_ble_eq_true rfl) rfl ⟨by decide, by decide⟩ ?_
                  rw [trn_st (hcd i hi).2.1]
                  refine g_iinc_4 C dX10_cure_227 (nI_1 i) (by decide) ?_
                  refine g_goto 200 C dX10_cure_230 (by decide) ?_
                  first
                    | (have h9 : it (tgS s.2 (nI (k + 1))) (i + 1) (I 104) = (it (tgS s.2 (nI (k + 1))) i (I 104)) := if_neg c213
                       rw [h9] at ihi; exact ihi)
                    | (have h9 : it (tgS s.2 (nI (k + 1))) (i + 1) (I 104) = _ := if_pos c213
                       rw [h9] at ihi; exact ihi)
          have h0 := t1 0 (Nat.zero_le _)
          rw [show stRow A 104 10 (it (tgS s.2 (nI (k + 1))) 0 (I 104)) = A by (show stRow A 104 10 (I 104) = A; rw [show I 104 = A 104 by rw [hA 104 (by omega), T0_off (by decide)], stRow_self])] at h0
          exact h0
        · refine g_iload_n C dX10_cure_164 rfl ?_
          refine gs1I C dX10_cure_165 swX10_bits mwX10_244 ⟨by decide, by decide⟩ (s_mbits _) (Nat.le_of_ble_eq_true rfl) rfl ⟨by decide, by decide⟩ ?_
          refine g_iload_n C dX10_cure_168 rfl ?_
          refine gs1I C dX10_cure_169 swX10_bits mwX10_244 ⟨by decide, by decide⟩ (s_mbits _) (Nat.le_of_ble_eq_true rfl) rfl ⟨by decide, by decide⟩ ?_
          refine g_icmp_gt 278 C dX10_cure_172 (by decide) (fun c172 => ?_) (fun c172 => ?_)
          · refine g_iinc_3 C dX10_cure_278 (nI_1 (k + 1)) (by decide) ?_
            refine g_goto 152 C dX10_cure_281 (by decide) ?_
            have hK : cuK (nI (k + 1)) (it (cuS P n (I 104) (I 106) F F2 s.2 s.1) k (-1)) := by
              first
              | exact ⟨c161, Or.inl c172⟩
              | exact ⟨c161, Or.inr ⟨c183, g191⟩⟩
            rw [show it (cuS P n (I 104) (I 106) F F2 s.2 s.1) (k + 1) (-1) = (it (cuS P n (I 104) (I 106) F F2 s.2 s.1) k (-1)) from if_pos (Or.inl hK)] at ih
            exact ih A hA hsv hcd _
          · refine g_iload_n C dX10_cure_175 rfl ?_
            refine gs1I C dX10_cure_176 swX10_bits mwX10_244 ⟨by decide, by decide⟩ (s_mbits _) (Nat.le_of_ble_eq_true rfl) rfl ⟨by decide, by decide⟩ ?_
            refine g_iload_n C dX10_cure_179 rfl ?_
            refine gs1I C dX10_cure_180 swX10_bits mwX10_244 ⟨by decide, by decide⟩ (s_mbits _) (Nat.le_of_ble_eq_true rfl) rfl ⟨by decide, by decide⟩ ?_
            refine g_icmp_ne 197 C dX10_cure_183 (by decide) (fun c183 => ?_) (fun c183 => ?_)
            · refine g_iconst (v := 0) C dX10_cure_197 (by decide) ?_
              refine g_istore_4 C dX10_cure_198 (by decide) ?_
              have hnk : ¬ cuK (nI (k + 1)) (it (cuS P n (I 104) (I 106) F F2 s.2 s.1) k (-1)) := by
                first
                | exact fun q => q.1 c161
                | exact fun q => q.2.elim c172 (fun z => c183 z.1)
                | exact fun q => q.2.elim c172 (fun z => g191 z.2)
              have t2 : ∀ bb : Int32, ∀ i : Nat, i ≤ s.1 → bb = it (cuS P n (I 104) (I 106) F F2 s.2 s.1) (k + 1) (-1) → Go X G 5 0 0 (KQ X G iX10_cure (CuR I J P n F F2) noT) 245 [.ref (G.1 + 103), .int (nI s.1), .int bb, .int (nI (k + 1)), .int (nI i)] [] (mm (stRow (wkF (stRow A 104 10 (it (tgS s.2 (nI (k + 1))) s.1 (I 104))) P n F F2) 104 10 (it (tgS s.2 (nI (k + 1))) i (it (tgS s.2 (nI (k + 1))) s.1 (I 104)))) J) := by
                intro bb
                refine loopN (s.1) ?_ ?_
                · intro hbb
                  show Go X G 5 0 0 _ 245 _ [] _
                  refine g_iload C dX10_cure_245 rfl ?_
                  refine g_iload_n C dX10_cure_247 rfl ?_
                  refine g_icmp_ge 278 C dX10_cure_248 (by decide) (fun c248 => ?_) (fun c248 => ?_)
                  · refine g_iinc_3 C dX10_cure_278 (nI_1 (k + 1)) (by decide) ?_
                    refine g_goto 152 C dX10_cure_281 (by decide) ?_
                    rw [tg_back]
                    have e9 : ∀ q, q < 114 ∨ 118 < q → stRow (wkF (stRow A 104 10 (it (tgS s.2 (nI (k + 1))) s.1 (I 104))) P n F F2) 104 10 (I 104) q = A q := fun q hq => by
                      by_cases h4 : q = 104
                      · subst h4
                        rw [show A 104 = I 104 by rw [hA 104 (by omega), T0_off (by decide)]]
                        funext b
                        unfold stRow
                        split
                        · rfl
                        · next z =>
                          unfold wkF
                          rw [wk_off hq]
                          show stRow A 104 10 (it (tgS s.2 (nI (k + 1))) s.1 (I 104)) 104 b = _
                          unfold stRow
                          rw [if_neg z, hA 104 (by omega), T0_off (by decide)]
                      · rw [stRow_off h4]
                        unfold wkF
                        rw [wk_off hq, stRow_off h4]
                    rw [hbb]
                    exact ih (stRow (wkF (stRow A 104 10 (it (tgS s.2 (nI (k + 1))) s.1 (I 104))) P n F F2) 104 10 (I 104)) (fun q hq => (e9 q (by omega)).trans (hA q hq)) (fun s hs => by rw [e9 123 (by omega)]; exact hsv s hs) (fun k hk => by rw [e9 121 (by omega)]; exact hcd k hk) _
                  · exact absurd (Int32.le_refl _) c248
                · intro i hi ihi hbb
                  show Go X G 5 0 0 _ 245 _ [] _
                  refine g_iload C dX10_cure_245 rfl ?_
                  refine g_iload_n C dX10_cure_247 rfl ?_
                  refine g_icmp_ge 278 C dX10_cure_248 (by decide) (fun c248 => ?_) (fun c248 => ?_)
                  · exact (nI_ge_dead (n := s.1) c248 hi (by omega)).elim
                  · refine g_iload_n C dX10_cure_251 rfl ?_
                    refine g_iload C dX10_cure_252 rfl ?_
                    refine g_ishr C dX10_cure_254 ?_
                    refine g_iconst (v := 1) C dX10_cure_255 (by decide) ?_
                    refine g_iand C dX10_cure_256 ?_
                    refine g_iconst (v := 1) C dX10_cure_257 (by decide) ?_
                    refine g_icmp_ne 272 C dX10_cure_258 (by decide) (fun c258 => ?_) (fun c258 => ?_)
                    · refine g_iinc_4 C dX10_cure_272 (nI_1 i) (by decide) ?_
                      refine g_goto 245 C dX10_cure_275 (by decide) ?_
                      first
                        | (have h9 : it (tgS s.2 (nI (k + 1))) (i + 1) (it (tgS s.2 (nI (k + 1))) s.1 (I 104)) = (it (tgS s.2 (nI (k + 1))) i (it (tgS s.2 (nI (k + 1))) s.1 (I 104))) := if_neg c258
                           rw [h9] at ihi; exact ihi hbb)
                        | (have h9 : it (tgS s.2 (nI (k + 1))) (i + 1) (it (tgS s.2 (nI (k + 1))) s.1 (I 104)) = _ := if_pos c258
                           rw [h9] at ihi; exact ihi hbb)
                    · refine g_aload_n C dX10_cure_261 rfl ?_
                      refine g_aload_n C dX10_cure_262 rfl ?_
                      refine g_getR (ci := 10) (k := 31) (q := 121) C dX10_cure_263 rfl inGX10 (by decide) fwX10_71 ly_103 (by decide) rfl rfl ?_
                      refine g_iload C dX10_cure_266 rfl ?_
                      refine g_ialdv (v := nI (100 * (s.2 i / 100) + s.2 i % 100)) i C dX10_cure_268 ly_121 (by decide) (by decide) rfl (show i < 10 by omega) (by rw [stRow_off (by decide)]; unfold wkF; rw [wk_off (Or.inr (by decide)), stRow_off (by decide), (hcd i hi).1, Nat.div_add_mod]) ?_
                      refine gv1V (ci := 10) C dX10_cure_269 vwX10_turns mwX10_278 ⟨by decide, by decide⟩ rfl ly_103 (Nat.le_of_ble_eq_true rfl) (s_turns (hcd i hi).2.1 (show s.2 i % 100 < 100 by omega)) (Nat.le_of_ble_eq_true rfl) rfl ⟨by decide, by decide⟩ ?_
                      rw [trn_st (hcd i hi).2.1]
                      refine g_iinc_4 C dX10_cure_272 (nI_1 i) (by decide) ?_
                      refine g_goto 245 C dX10_cure_275 (by decide) ?_
                      first
                        | (have h9 : it (tgS s.2 (nI (k + 1))) (i + 1) (it (tgS s.2 (nI (k + 1))) s.1 (I 104)) = (it (tgS s.2 (nI (k + 1))) i (it (tgS s.2 (nI (k + 1))) s.1 (I 104))) := if_neg c258
                           rw [h9] at ihi; exact ihi hbb)
                        | (have h9 : it (tgS s.2 (nI (k + 1))) (i + 1) (it (tgS s.2 (nI (k + 1))) s.1 (I 104)) = _ := if_pos c258
                           rw [h9] at ihi; exact ihi hbb)
              have t3 : ∀ bb : Int32, bb = it (cuS P n (I 104) (I 106) F F2 s.2 s.1) (k + 1) (-1) → Go X G 5 0 0 (KQ X G iX10_cure (CuR I J P n F F2) noT) 245 [.ref (G.1 + 103), .int (nI s.1), .int bb, .int (nI (k + 1)), .int 0] [] (mm (wkF (stRow A 104 10 (it (tgS s.2 (nI (k + 1))) s.1 (I 104))) P n F F2) J) := by
                intro bb hbb
                have h7 := t2 bb 0 (Nat.zero_le _) hbb
                rw [show stRow (wkF (stRow A 104 10 (it (tgS s.2 (nI (k + 1))) s.1 (I 104))) P n F F2) 104 10 (it (tgS s.2 (nI (k + 1))) 0 (it (tgS s.2 (nI (k + 1))) s.1 (I 104))) = (wkF (stRow A 104 10 (it (tgS s.2 (nI (k + 1))) s.1 (I 104))) P n F F2) from st_self (fun b hb => by unfold wkF; rw [wk_off (Or.inl (by decide)), stRow_in hb]; rfl)] at h7
                exact h7
              have t1 : ∀ i : Nat, i ≤ s.1 → Go X G 5 0 0 (KQ X G iX10_cure (CuR I J P n F F2) noT) 200 [.ref (G.1 + 103), .int (nI s.1), .int (it (cuS P n (I 104) (I 106) F F2 s.2 s.1) k (-1)), .int (nI (k + 1)), .int (nI i)] [] (mm (stRow A 104 10 (it (tgS s.2 (nI (k + 1))) i (I 104))) J) := by
                refine loopN (s.1) ?_ ?_
                · skip
                  show Go X G 5 0 0 _ 200 _ [] _
                  refine g_iload C dX10_cure_200 rfl ?_
                  refine g_iload_n C dX10_cure_202 rfl ?_
                  refine g_icmp_ge 233 C dX10_cure_203 (by decide) (fun c203 => ?_) (fun c203 => ?_)
                  · refine g_aload_n C dX10_cure_233 rfl ?_
                    refine gv0I (ci := 10) C dX10_cure_234 vwX10_isWell mwX10_281 ⟨by decide, by decide⟩ rfl ly_103 (Nat.le_of_ble_eq_true rfl) (s_isWellG (mOK_st (offC_ok hA (mOK_T0 hm))) hfu (g := (it (tgS s.2 (nI (k + 1))) s.1 (I 104))) (sv := (svR P n (I 104) (I 106) F F2)) (st_row (fun b hb => by rw [tg_far (fun i hi => (hcd i hi).2.1) hb, hA 104 (by omega), T0_off (by decide)])) (fun s hs => by rw [stRow_off (by decide)]; exact hsv s hs)) (Nat.le_of_ble_eq_true rfl) rfl ⟨by decide, by decide⟩ ?_
                    refine g_if_eq 242 C dX10_cure_237 (by decide) (fun c237 => ?_) (fun c237 => ?_)
                    · skip
                      refine g_iconst (v := 0) C dX10_cure_242 (by decide) ?_
                      refine g_istore_4 C dX10_cure_243 (by decide) ?_
                      first
                        | exact t3 _ (if_pos (Or.inr c237)).symm
                        | exact t3 _ (if_neg (fun q => q.elim hnk (fun z => absurd z c237))).symm
                    · skip
                      refine g_iload_n C dX10_cure_240 rfl ?_
                      refine g_istore_2 C dX10_cure_241 (by decide) ?_
                      refine g_iconst (v := 0) C dX10_cure_242 (by decide) ?_
                      refine g_istore_4 C dX10_cure_243 (by decide) ?_
                      first
                        | exact t3 _ (if_pos (Or.inr c237)).symm
                        | exact t3 _ (if_neg (fun q => q.elim hnk (fun z => absurd z c237))).symm
                  · exact absurd (Int32.le_refl _) c203
                · intro i hi ihi 
                  show Go X G 5 0 0 _ 200 _ [] _
                  refine g_iload C dX10_cure_200 rfl ?_
                  refine g_iload_n C dX10_cure_202 rfl ?_
                  refine g_icmp_ge 233 C dX10_cure_203 (by decide) (fun c203 => ?_) (fun c203 => ?_)
                  · exact (nI_ge_dead (n := s.1) c203 hi (by omega)).elim
                  · refine g_iload_n C dX10_cure_206 rfl ?_
                    refine g_iload C dX10_cure_207 rfl ?_
                    refine g_ishr C dX10_cure_209 ?_
                    refine g_iconst (v := 1) C dX10_cure_210 (by decide) ?_
                    refine g_iand C dX10_cure_211 ?_
                    refine g_iconst (v := 1) C dX10_cure_212 (by decide) ?_
                    refine g_icmp_ne 227 C dX10_cure_213 (by decide) (fun c213 => ?_) (fun c213 => ?_)
                    · refine g_iinc_4 C dX10_cure_227 (nI_1 i) (by decide) ?_
                      refine g_goto 200 C dX10_cure_230 (by decide) ?_
                      first
                        | (have h9 : it (tgS s.2 (nI (k + 1))) (i + 1) (I 104) = (it (tgS s.2 (nI (k + 1))) i (I 104)) := if_neg c213
                           rw [h9] at ihi; exact ihi)
                        | (have h9 : it (tgS s.2 (nI (k + 1))) (i + 1) (I 104) = _ := if_pos c213
                           rw [h9] at ihi; exact ihi)
                    · refine g_aload_n C dX10_cure_216 rfl ?_
                      refine g_aload_n C dX10_cure_217 rfl ?_
                      refine g_getR (ci := 10) (k := 31) (q := 121) C dX10_cure_218 rfl inGX10 (by decide) fwX10_71 ly_103 (by decide) rfl rfl ?_
                      refine g_iload C dX10_cure_221 rfl ?_
                      refine g_ialdv (v := nI (100 * (s.2 i / 100) + s.2 i % 100)) i C dX10_cure_223 ly_121 (by decide) (by decide) rfl (show i < 10 by omega) (by rw [stRow_off (by decide), (hcd i hi).1, Nat.div_add_mod]) ?_
                      refine gv1V (ci := 10) C dX10_cure_224 vwX10_turns mwX10_278 ⟨by decide, by decide⟩ rfl ly_103 (Nat.le_of_ble_eq_true rfl) (s_turns (hcd i hi).2.1 (show s.2 i % 100 < 100 by omega)) (Nat.le_of_ble_eq_true rfl) rfl ⟨by decide, by decide⟩ ?_
                      rw [trn_st (hcd i hi).2.1]
                      refine g_iinc_4 C dX10_cure_227 (nI_1 i) (by decide) ?_
                      refine g_goto 200 C dX10_cure_230 (by decide) ?_
                      first
                        | (have h9 : it (tgS s.2 (nI (k + 1))) (i + 1) (I 104) = (it (tgS s.2 (nI (k + 1))) i (I 104)) := if_neg c213
                           rw [h9] at ihi; exact ihi)
                        | (have h9 : it (tgS s.2 (nI (k + 1))) (i + 1) (I 104) = _ := if_pos c213
                           rw [h9] at ihi; exact ihi)
              have h0 := t1 0 (Nat.zero_le _)
              rw [show stRow A 104 10 (it (tgS s.2 (nI (k + 1))) 0 (I 104)) = A by (show stRow A 104 10 (I 104) = A; rw [show I 104 = A 104 by rw [hA 104 (by omega), T0_off (by decide)], stRow_self])] at h0
              exact h0
            · refine g_iload_n C dX10_cure_186 rfl ?_
              refine g_iload_n C dX10_cure_187 rfl ?_
              refine gs2I C dX10_cure_188 swX10_isAhead mwX10_275 ⟨by decide, by decide⟩ (s_isAhead _ _) (Nat.le_of_ble_eq_true rfl) rfl ⟨by decide, by decide⟩ ?_
              refine g_if_ne 197 C dX10_cure_191 (by decide) (fun c191 => ?_) (fun c191 => ?_)
              · have g191 : ¬ (((nI (k + 1)) ^^^ (it (cuS P n (I 104) (I 106) F F2 s.2 s.1) k (-1))) &&& -((nI (k + 1)) ^^^ (it (cuS P n (I 104) (I 106) F F2 s.2 s.1) k (-1)))) &&& (nI (k + 1)) = 0 := fun q => c191 (if_pos q)
                refine g_iconst (v := 0) C dX10_cure_197 (by decide) ?_
                refine g_istore_4 C dX10_cure_198 (by decide) ?_
                have hnk : ¬ cuK (nI (k + 1)) (it (cuS P n (I 104) (I 106) F F2 s.2 s.1) k (-1)) := by
                  first
                  | exact fun q => q.1 c161
                  | exact fun q => q.2.elim c172 (fun z => c183 z.1)
                  | exact fun q => q.2.elim c172 (fun z => g191 z.2)
                have t2 : ∀ bb : Int32, ∀ i : Nat, i ≤ s.1 → bb = it (cuS P n (I 104) (I 106) F F2 s.2 s.1) (k + 1) (-1) → Go X G 5 0 0 (KQ X G iX10_cure (CuR I J P n F F2) noT) 245 [.ref (G.1 + 103), .int (nI s.1), .int bb, .int (nI (k + 1)), .int (nI i)] [] (mm (stRow (wkF (stRow A 104 10 (it (tgS s.2 (nI (k + 1))) s.1 (I 104))) P n F F2) 104 10 (it (tgS s.2 (nI (k + 1))) i (it (tgS s.2 (nI (k + 1))) s.1 (I 104)))) J) := by
                  intro bb
                  refine loopN (s.1) ?_ ?_
                  · intro hbb
                    show Go X G 5 0 0 _ 245 _ [] _
                    refine g_iload C dX10_cure_245 rfl ?_
                    refine g_iload_n C dX10_cure_247 rfl ?_
                    refine g_icmp_ge 278 C dX10_cure_248 (by decide) (fun c248 => ?_) (fun c248 => ?_)
                    · refine g_iinc_3 C dX10_cure_278 (nI_1 (k + 1)) (by decide) ?_
                      refine g_goto 152 C dX10_cure_281 (by decide) ?_
                      rw [tg_back]
                      have e9 : ∀ q, q < 114 ∨ 118 < q → stRow (wkF (stRow A 104 10 (it (tgS s.2 (nI (k + 1))) s.1 (I 104))) P n F F2) 104 10 (I 104) q = A q := fun q hq => by
                        by_cases h4 : q = 104
                        · subst h4
                          rw [show A 104 = I 104 by rw [hA 104 (by omega), T0_off (by decide)]]
                          funext b
                          unfold stRow
                          split
                          · rfl
                          · next z =>
                            unfold wkF
                            rw [wk_off hq]
                            show stRow A 104 10 (it (tgS s.2 (nI (k + 1))) s.1 (I 104)) 104 b = _
                            unfold stRow
                            rw [if_neg z, hA 104 (by omega), T0_off (by decide)]
                        · rw [stRow_off h4]
                          unfold wkF
                          rw [wk_off hq, stRow_off h4]
                      rw [hbb]
                      exact ih (stRow (wkF (stRow A 104 10 (it (tgS s.2 (nI (k + 1))) s.1 (I 104))) P n F F2) 104 10 (I 104)) (fun q hq => (e9 q (by omega)).trans (hA q hq)) (fun s hs => by rw [e9 123 (by omega)]; exact hsv s hs) (fun k hk => by rw [e9 121 (by omega)]; exact hcd k hk) _
                    · exact absurd (Int32.le_refl _) c248
                  · intro i hi ihi hbb
                    show Go X G 5 0 0 _ 245 _ [] _
                    refine g_iload C dX10_cure_245 rfl ?_
                    refine g_iload_n C dX10_cure_247 rfl ?_
                    refine g_icmp_ge 278 C dX10_cure_248 (by decide) (fun c248 => ?_) (fun c248 => ?_)
                    · exact (nI_ge_dead (n := s.1) c248 hi (by omega)).elim
                    · refine g_iload_n C dX10_cure_251 rfl ?_
                      refine g_iload C dX10_cure_252 rfl ?_
                      refine g_ishr C dX10_cure_254 ?_
                      refine g_iconst (v := 1) C dX10_cure_255 (by decide) ?_
                      refine g_iand C dX10_cure_256 ?_
                      refine g_iconst (v := 1) C dX10_cure_257 (by decide) ?_
                      refine g_icmp_ne 272 C dX10_cure_258 (by decide) (fun c258 => ?_) (fun c258 => ?_)
                      · refine g_iinc_4 C dX10_cure_272 (nI_1 i) (by decide) ?_
                        refine g_goto 245 C dX10_cure_275 (by decide) ?_
                        first
                          | (have h9 : it (tgS s.2 (nI (k + 1))) (i + 1) (it (tgS s.2 (nI (k + 1))) s.1 (I 104)) = (it (tgS s.2 (nI (k + 1))) i (it (tgS s.2 (nI (k + 1))) s.1 (I 104))) := if_neg c258
                             rw [h9] at ihi; exact ihi hbb)
                          | (have h9 : it (tgS s.2 (nI (k + 1))) (i + 1) (it (tgS s.2 (nI (k + 1))) s.1 (I 104)) = _ := if_pos c258
                             rw [h9] at ihi; exact ihi hbb)
                      · refine g_aload_n C dX10_cure_261 rfl ?_
                        refine g_aload_n C dX10_cure_262 rfl ?_
                        refine g_getR (ci := 10) (k := 31) (q := 121) C dX10_cure_263 rfl inGX10 (by decide) fwX10_71 ly_103 (by decide) rfl rfl ?_
                        refine g_iload C dX10_cure_266 rfl ?_
                        refine g_ialdv (v := nI (100 * (s.2 i / 100) + s.2 i % 100)) i C dX10_cure_268 ly_121 (by decide) (by decide) rfl (show i < 10 by omega) (by rw [stRow_off (by decide)]; unfold wkF; rw [wk_off (Or.inr (by decide)), stRow_off (by decide), (hcd i hi).1, Nat.div_add_mod]) ?_
                        refine gv1V (ci := 10) C dX10_cure_269 vwX10_turns mwX10_278 ⟨by decide, by decide⟩ rfl ly_103 (Nat.le_of_ble_eq_true rfl) (s_turns (hcd i hi).2.1 (show s.2 i % 100 < 100 by omega)) (Nat.le_of_ble_eq_true rfl) rfl ⟨by decide, by decide⟩ ?_
                        rw [trn_st (hcd i hi).2.1]
                        refine g_iinc_4 C dX10_cure_272 (nI_1 i) (by decide) ?_
                        refine g_goto 245 C dX10_cure_275 (by decide) ?_
                        first
                          | (have h9 : it (tgS s.2 (nI (k + 1))) (i + 1) (it (tgS s.2 (nI (k + 1))) s.1 (I 104)) = (it (tgS s.2 (nI (k + 1))) i (it (tgS s.2 (nI (k + 1))) s.1 (I 104))) := if_neg c258
                             rw [h9] at ihi; exact ihi hbb)
                          | (have h9 : it (tgS s.2 (nI (k + 1))) (i + 1) (it (tgS s.2 (nI (k + 1))) s.1 (I 104)) = _ := if_pos c258
                             rw [h9] at ihi; exact ihi hbb)
                have t3 : ∀ bb : Int32, bb = it (cuS P n (I 104) (I 106) F F2 s.2 s.1) (k + 1) (-1) → Go X G 5 0 0 (KQ X G iX10_cure (CuR I J P n F F2) noT) 245 [.ref (G.1 + 103), .int (nI s.1), .int bb, .int (nI (k + 1)), .int 0] [] (mm (wkF (stRow A 104 10 (it (tgS s.2 (nI (k + 1))) s.1 (I 104))) P n F F2) J) := by
                  intro bb hbb
                  have h7 := t2 bb 0 (Nat.zero_le _) hbb
                  rw [show stRow (wkF (stRow A 104 10 (it (tgS s.2 (nI (k + 1))) s.1 (I 104))) P n F F2) 104 10 (it (tgS s.2 (nI (k + 1))) 0 (it (tgS s.2 (nI (k + 1))) s.1 (I 104))) = (wkF (stRow A 104 10 (it (tgS s.2 (nI (k + 1))) s.1 (I 104))) P n F F2) from st_self (fun b hb => by unfold wkF; rw [wk_off (Or.inl (by decide)), stRow_in hb]; rfl)] at h7
                  exact h7
                have t1 : ∀ i : Nat, i ≤ s.1 → Go X G 5 0 0 (KQ X G iX10_cure (CuR I J P n F F2) noT) 200 [.ref (G.1 + 103), .int (nI s.1), .int (it (cuS P n (I 104) (I 106) F F2 s.2 s.1) k (-1)), .int (nI (k + 1)), .int (nI i)] [] (mm (stRow A 104 10 (it (tgS s.2 (nI (k + 1))) i (I 104))) J) := by
                  refine loopN (s.1) ?_ ?_
                  · skip
                    show Go X G 5 0 0 _ 200 _ [] _
                    refine g_iload C dX10_cure_200 rfl ?_
                    refine g_iload_n C dX10_cure_202 rfl ?_
                    refine g_icmp_ge 233 C dX10_cure_203 (by decide) (fun c203 => ?_) (fun c203 => ?_)
                    · refine g_aload_n C dX10_cure_233 rfl ?_
                      refine gv0I (ci := 10) C dX10_cure_234 vwX10_isWell mwX10_281 ⟨by decide, by decide⟩ rfl ly_103 (Nat.le_of_ble_eq_true rfl) (s_isWellG (mOK_st (offC_ok hA (mOK_T0 hm))) hfu (g := (it (tgS s.2 (nI (k + 1))) s.1 (I 104))) (sv := (svR P n (I 104) (I 106) F F2)) (st_row (fun b hb => by rw [tg_far (fun i hi => (hcd i hi).2.1) hb, hA 104 (by omega), T0_off (by decide)])) (fun s hs => by rw [stRow_off (by decide)]; exact hsv s hs)) (Nat.le_of_ble_eq_true rfl) rfl ⟨by decide, by decide⟩ ?_
                      refine g_if_eq 242 C dX10_cure_237 (by decide) (fun c237 => ?_) (fun c237 => ?_)
                      · skip
                        refine g_iconst (v := 0) C dX10_cure_242 (by decide) ?_
                        refine g_istore_4 C dX10_cure_243 (by decide) ?_
                        first
                          | exact t3 _ (if_pos (Or.inr c237)).symm
                          | exact t3 _ (if_neg (fun q => q.elim hnk (fun z => absurd z c237))).symm
                      · skip
                        refine g_iload_n C dX10_cure_240 rfl ?_
                        refine g_istore_2 C dX10_cure_241 (by decide) ?_
                        refine g_iconst (v := 0) C dX10_cure_242 (by decide) ?_
                        refine g_istore_4 C dX10_cure_243 (by decide) ?_
                        first
                          | exact t3 _ (if_pos (Or.inr c237)).symm
                          | exact t3 _ (if_neg (fun q => q.elim hnk (fun z => absurd z c237))).symm
                    · exact absurd (Int32.le_refl _) c203
                  · intro i hi ihi 
                    show Go X G 5 0 0 _ 200 _ [] _
                    refine g_iload C dX10_cure_200 rfl ?_
                    refine g_iload_n C dX10_cure_202 rfl ?_
                    refine g_icmp_ge 233 C dX10_cure_203 (by decide) (fun c203 => ?_) (fun c203 => ?_)
                    · exact (nI_ge_dead (n := s.1) c203 hi (by omega)).elim
                    · refine g_iload_n C dX10_cure_206 rfl ?_
                      refine g_iload C dX10_cure_207 rfl ?_
                      refine g_ishr C dX10_cure_209 ?_
                      refine g_iconst (v := 1) C dX10_cure_210 (by decide) ?_
                      refine g_iand C dX10_cure_211 ?_
                      refine g_iconst (v := 1) C dX10_cure_212 (by decide) ?_
                      refine g_icmp_ne 227 C dX10_cure_213 (by decide) (fun c213 => ?_) (fun c213 => ?_)
                      · refine g_iinc_4 C dX10_cure_227 (nI_1 i) (by decide) ?_
                        refine g_goto 200 C dX10_cure_230 (by decide) ?_
                        first
                          | (have h9 : it (tgS s.2 (nI (k + 1))) (i + 1) (I 104) = (it (tgS s.2 (nI (k + 1))) i (I 104)) := if_neg c213
                             rw [h9] at ihi; exact ihi)
                          | (have h9 : it (tgS s.2 (nI (k + 1))) (i + 1) (I 104) = _ := if_pos c213
                             rw [h9] at ihi; exact ihi)
                      · refine g_aload_n C dX10_cure_216 rfl ?_
                        refine g_aload_n C dX10_cure_217 rfl ?_
                        refine g_getR (ci := 10) (k := 31) (q := 121) C dX10_cure_218 rfl inGX10 (by decide) fwX10_71 ly_103 (by decide) rfl rfl ?_
                        refine g_iload C dX10_cure_221 rfl ?_
                        refine g_ialdv (v := nI (100 * (s.2 i / 100) + s.2 i % 100)) i C dX10_cure_223 ly_121 (by decide) (by decide) rfl (show i < 10 by omega) (by rw [stRow_off (by decide), (hcd i hi).1, Nat.div_add_mod]) ?_
                        refine gv1V (ci := 10) C dX10_cure_224 vwX10_turns mwX10_278 ⟨by decide, by decide⟩ rfl ly_103 (Nat.le_of_ble_eq_true rfl) (s_turns (hcd i hi).2.1 (show s.2 i % 100 < 100 by omega)) (Nat.le_of_ble_eq_true rfl) rfl ⟨by decide, by decide⟩ ?_
                        rw [trn_st (hcd i hi).2.1]
                        refine g_iinc_4 C dX10_cure_227 (nI_1 i) (by decide) ?_
                        refine g_goto 200 C dX10_cure_230 (by decide) ?_
                        first
                          | (have h9 : it (tgS s.2 (nI (k + 1))) (i + 1) (I 104) = (it (tgS s.2 (nI (k + 1))) i (I 104)) := if_neg c213
                             rw [h9] at ihi; exact ihi)
                          | (have h9 : it (tgS s.2 (nI (k + 1))) (i + 1) (I 104) = _ := if_pos c213
                             rw [h9] at ihi; exact ihi)
                have h0 := t1 0 (Nat.zero_le _)
                rw [show stRow A 104 10 (it (tgS s.2 (nI (k + 1))) 0 (I 104)) = A by (show stRow A 104 10 (I 104) = A; rw [show I 104 = A 104 by rw [hA 104 (by omega), T0_off (by decide)], stRow_self])] at h0
                exact h0
              · have g191 : (((nI (k + 1)) ^^^ (it (cuS P n (I 104) (I 106) F F2 s.2 s.1) k (-1))) &&& -((nI (k + 1)) ^^^ (it (cuS P n (I 104) (I 106) F F2 s.2 s.1) k (-1)))) &&& (nI (k + 1)) = 0 := Classical.byContradiction (fun q => absurd ((if_neg q).symm.trans c191) (by decide))
                refine g_goto 278 C dX10_cure_194 (by decide) ?_
                refine g_iinc_3 C dX10_cure_278 (nI_1 (k + 1)) (by decide) ?_
                refine g_goto 152 C dX10_cure_281 (by decide) ?_
                have hK : cuK (nI (k + 1)) (it (cuS P n (I 104) (I 106) F F2 s.2 s.1) k (-1)) := by
                  first
                  | exact ⟨c161, Or.inl c172⟩
                  | exact ⟨c161, Or.inr ⟨c183, g191⟩⟩
                rw [show it (cuS P n (I 104) (I 106) F F2 s.2 s.1) (k + 1) (-1) = (it (cuS P n (I 104) (I 106) F F2 s.2 s.1) k (-1)) from if_pos (Or.inl hK)] at ih
                exact ih A hA hsv hcd _
  have ga : ¬ mMis (wL P n (I 104) F F2) (I 106) = 0 → ∀ p : Nat, p ≤ n → ∀ (s : CdS) (A : Nat → Nat → Int32), s.1 ≤ 10 → offC (T0 I) A → (∀ s, s < 16 → A 123 s = (svR P n (I 104) (I 106) F F2) s) → (∀ b, b < 10 → A 118 b = wA P n F b) → cdI A s → mgF (cuU P (wA P n F) (I 104)) (16 * n - 16 * p) (16 * p) s = mG P n (I 104) F → ∀ a3 a4 : Value, Go X G 5 0 0 (KQ X G iX10_cure (CuR I J P n F F2) noT) 64 [.ref (G.1 + 103), .int (nI s.1), .int (nI p), a3, a4] [] (mm A J) := by
    intro h0
    refine loopN (n) ?_ ?_
    · intro s A hs10 hA hsv hak hcd hf a3 a4
      show Go X G 5 0 0 _ 64 _ [] _
      refine g_iload_n C dX10_cure_64 rfl ?_
      refine g_aload_n C dX10_cure_65 rfl ?_
      refine g_getIv (ci := 10) (k := 4) (v := nI n) C dX10_cure_66 rfl inGX10 (by decide) fwX10_86 ly_103 (by decide) rfl (by rw [hA 103 (by omega), T0_103 (by decide)]; exact hn) ?_
      refine g_icmp_ge 148 C dX10_cure_69 (by decide) (fun c69 => ?_) (fun c69 => ?_)
      · refine g_iconst (v := (-1)) C dX10_cure_148 (by decide) ?_
        refine g_istore_2 C dX10_cure_149 (by decide) ?_
        refine g_iconst (v := 1) C dX10_cure_150 (by decide) ?_
        refine g_istore_3 C dX10_cure_151 (by decide) ?_
        rw [show 16 * n - 16 * n = 0 by omega] at hf
        exact ml h0 s A hs10 hA hsv hcd hf 0 (Nat.zero_le _) A hA hsv hcd _
      · exact absurd (Int32.le_refl _) c69
    · intro p hp ihp s A hs10 hA hsv hak hcd hf a3 a4
      show Go X G 5 0 0 _ 64 _ [] _
      have inner : ∀ r : Nat, r ≤ 16 → ∀ (s : CdS) (A : Nat → Nat → Int32), s.1 ≤ 10 → offC (T0 I) A → (∀ s, s < 16 → A 123 s = (svR P n (I 104) (I 106) F F2) s) → (∀ b, b < 10 → A 118 b = wA P n F b) → cdI A s → mgF (cuU P (wA P n F) (I 104)) (16 * n - 16 * p - r) (16 * p + r) s = mG P n (I 104) F → Go X G 5 0 0 (KQ X G iX10_cure (CuR I J P n F F2) noT) 88 [.ref (G.1 + 103), .int (nI s.1), .int (nI p), .int ((cuU P (wA P n F) (I 104)) p), .int (nI r)] [] (mm A J) := by
        refine loopN (16) ?_ ?_
        · intro s A hs10 hA hsv hak hcd hf
          show Go X G 5 0 0 _ 88 _ [] _
          refine g_iload C dX10_cure_88 rfl ?_
          refine g_bipush (v := 16) C dX10_cure_90 (by decide) ?_
          refine g_icmp_ge 142 C dX10_cure_92 (by decide) (fun c92 => ?_) (fun c92 => ?_)
          · refine g_iinc_2 C dX10_cure_142 (nI_1 p) (by decide) ?_
            refine g_goto 64 C dX10_cure_145 (by decide) ?_
            exact ihp s A hs10 hA hsv hak hcd (by rw [show 16 * n - 16 * (p + 1) = 16 * n - 16 * p - 16 by omega, show 16 * (p + 1) = 16 * p + 16 by omega]; exact hf) _ _
          · exact absurd (Int32.le_refl _) c92
        · intro r hr ihr s A hs10 hA hsv hak hcd hf
          show Go X G 5 0 0 _ 88 _ [] _
          refine g_iload C dX10_cure_88 rfl ?_
          refine g_bipush (v := 16) C dX10_cure_90 (by decide) ?_
          refine g_icmp_ge 142 C dX10_cure_92 (by decide) (fun c92 => ?_) (fun c92 => ?_)
          · exact (nI_ge_dead (n := 16) c92 hr (by omega)).elim
          · rw [show 16 * n - 16 * p - r = (16 * n - 16 * p - (r + 1)) + 1 by omega, mgF, show (16 * p + r) % 16 = r by omega, show (16 * p + r) / 16 = p by omega] at hf
            refine g_iload_n C dX10_cure_95 rfl ?_
            refine g_iload C dX10_cure_96 rfl ?_
            refine g_ishr C dX10_cure_98 ?_
            refine g_iconst (v := 1) C dX10_cure_99 (by decide) ?_
            refine g_iand C dX10_cure_100 ?_
            refine g_if_ne 107 C dX10_cure_101 (by decide) (fun c101 => ?_) (fun c101 => ?_)
            · replace hf := (if_neg (show ¬ ((cuU P (wA P n F) (I 104)) p >>> (nI r &&& 31)) &&& 1 = 0 from c101)).symm.trans hf
              refine g_iload_n C dX10_cure_107 rfl ?_
              refine g_bipush (v := 10) C dX10_cure_108 (by decide) ?_
              refine g_icmp_ne 120 C dX10_cure_110 (by decide) (fun c110 => ?_) (fun c110 => ?_)
              · have g110 : ¬ s.1 = 10 := fun q => c110 (by rw [q]; rfl)
                rw [if_neg g110] at hf
                refine g_aload_n C dX10_cure_120 rfl ?_
                refine g_getR (ci := 10) (k := 31) (q := 121) C dX10_cure_121 rfl inGX10 (by decide) fwX10_71 ly_103 (by decide) rfl rfl ?_
                refine g_iload_n C dX10_cure_124 rfl ?_
                refine g_bipush (v := 100) C dX10_cure_125 (by decide) ?_
                refine g_iload_n C dX10_cure_127 rfl ?_
                refine g_imul C dX10_cure_128 ?_
                rw [mul100]
                refine g_iload C dX10_cure_129 rfl ?_
                refine g_iadd C dX10_cure_131 ?_
                rw [nI_add]
                refine g_iast s.1 C dX10_cure_132 ly_121 (by decide) (by decide) rfl (show s.1 < 10 by omega) ?_
                refine g_iinc_1 C dX10_cure_133 (nI_1 s.1) (by decide) ?_
                refine g_iinc_4 C dX10_cure_136 (nI_1 r) (by decide) ?_
                refine g_goto 88 C dX10_cure_139 (by decide) ?_
                first
                  | exact ihr s A hs10 hA hsv hak hcd hf
                  | (refine ihr (s.1 + 1, updN s.2 s.1 (100 * p + r)) (up1 A 121 s.1 (nI (100 * p + r))) (by show s.1 + 1 ≤ 10; omega) (fun q hq => by rw [up1_off (by omega)]; exact hA q hq) (fun s hs => by rw [up1_off (by decide)]; exact hsv s hs) (fun b hb => by rw [up1_off (by decide)]; exact hak b hb) ?_ hf
                     intro k hk
                     by_cases hks : k = s.1
                     · subst hks
                       exact ⟨by rw [up1_same]; simp [updN], by simp only [updN, if_true]; omega, by simp only [updN, if_true]; omega⟩
                     · have hk' : k < s.1 := by have : k < s.1 + 1 := hk; omega
                       refine ⟨?_, ?_, ?_⟩
                       · rw [show up1 A 121 s.1 (nI (100 * p + r)) 121 k = A 121 k by simp [up1, hks]]
                         simp only [updN, if_neg hks]; exact (hcd k hk').1
                       · simp only [updN, if_neg hks]; exact (hcd k hk').2.1
                       · simp only [updN, if_neg hks]; exact (hcd k hk').2.2)
              · have g110 : s.1 = 10 := (nI_eq (b := 10) (by omega) (by decide)).mp c110
                rw [if_pos g110] at hf
                refine g_aload_n C dX10_cure_113 rfl ?_
                refine g_bipush (v := 6) C dX10_cure_114 (by decide) ?_
                refine gv1I (ci := 10) C dX10_cure_116 vwX10_refused mwX10_94 ⟨by decide, by decide⟩ rfl ly_103 (Nat.le_of_ble_eq_true rfl) (s_refused _) (Nat.le_of_ble_eq_true rfl) rfl ⟨by decide, by decide⟩ ?_
                exact g_iret C dX10_cure_119 rfl rfl rfl ⟨fun q => absurd q h0, fun _ => ⟨fun _ => ⟨rfl, A, hA, rfl⟩, fun q => absurd (show false = true from (congrArg Prod.fst hf).trans q) (by decide)⟩⟩
            · replace hf := (if_pos (show ((cuU P (wA P n F) (I 104)) p >>> (nI r &&& 31)) &&& 1 = 0 from c101)).symm.trans hf
              refine g_goto 136 C dX10_cure_104 (by decide) ?_
              refine g_iinc_4 C dX10_cure_136 (nI_1 r) (by decide) ?_
              refine g_goto 88 C dX10_cure_139 (by decide) ?_
              first
                | exact ihr s A hs10 hA hsv hak hcd hf
                | (refine ihr (s.1 + 1, updN s.2 s.1 (100 * p + r)) (up1 A 121 s.1 (nI (100 * p + r))) (by show s.1 + 1 ≤ 10; omega) (fun q hq => by rw [up1_off (by omega)]; exact hA q hq) (fun s hs => by rw [up1_off (by decide)]; exact hsv s hs) (fun b hb => by rw [up1_off (by decide)]; exact hak b hb) ?_ hf
                   intro k hk
                   by_cases hks : k = s.1
                   · subst hks
                     exact ⟨by rw [up1_same]; simp [updN], by simp only [updN, if_true]; omega, by simp only [updN, if_true]; omega⟩
                   · have hk' : k < s.1 := by have : k < s.1 + 1 := hk; omega
                     refine ⟨?_, ?_, ?_⟩
                     · rw [show up1 A 121 s.1 (nI (100 * p + r)) 121 k = A 121 k by simp [up1, hks]]
                       simp only [updN, if_neg hks]; exact (hcd k hk').1
                     · simp only [updN, if_neg hks]; exact (hcd k hk').2.1
                     · simp only [updN, if_neg hks]; exact (hcd k hk').2.2)
      refine g_iload_n C dX10_cure_64 rfl ?_
      refine g_aload_n C dX10_cure_65 rfl ?_
      refine g_getIv (ci := 10) (k := 4) (v := nI n) C dX10_cure_66 rfl inGX10 (by decide) fwX10_86 ly_103 (by decide) rfl (by rw [hA 103 (by omega), T0_103 (by decide)]; exact hn) ?_
      refine g_icmp_ge 148 C dX10_cure_69 (by decide) (fun c69 => ?_) (fun c69 => ?_)
      · exact (nI_ge_dead (n := n) c69 hp (by omega)).elim
      · refine g_aload_n C dX10_cure_72 rfl ?_
        refine g_getR (ci := 10) (k := 5) (q := 104) C dX10_cure_73 rfl inGX10 (by decide) fwX10_13 ly_103 (by decide) rfl rfl ?_
        refine g_iload_n C dX10_cure_76 rfl ?_
        refine g_ialdv (v := I 104 p) p C dX10_cure_77 ly_104 (by decide) (by decide) rfl (show p < 10 by omega) (by rw [hA 104 (by omega), T0_off (by decide)]) ?_
        refine g_aload_n C dX10_cure_78 rfl ?_
        refine g_iload_n C dX10_cure_79 rfl ?_
        refine gv1I (ci := 10) C dX10_cure_80 vwX10_neededOf mwX10_269 ⟨by decide, by decide⟩ rfl ly_103 (Nat.le_of_ble_eq_true rfl) (s_nP (offC_ok hA (mOK_T0 hm)) hp) (Nat.le_of_ble_eq_true rfl) rfl ⟨by decide, by decide⟩ ?_
        rw [show nP P (A 118) p = nP P (wA P n F) p from nP_cg (hak p (by omega))]
        refine g_iand C dX10_cure_83 ?_
        refine g_istore_3 C dX10_cure_84 (by decide) ?_
        refine g_iconst (v := 0) C dX10_cure_85 (by decide) ?_
        refine g_istore_4 C dX10_cure_86 (by decide) ?_
        exact inner 0 (Nat.zero_le _) s A hs10 hA hsv hak hcd hf
  have aft : ∀ a2 a3 a4 a5 : Value, Go X G 5 0 0 (KQ X G iX10_cure (CuR I J P n F F2) noT) 42 [.ref (G.1 + 103), a5, a2, a3, a4] [] (mm (stRow (wkF (T0 I) P n F F2) 123 16 (svR P n (I 104) (I 106) F F2)) J) := by
    intro a2 a3 a4 a5
    refine g_aload_n C dX10_cure_42 rfl ?_
    refine gv0I (ci := 10) C dX10_cure_43 vwX10_misuses mwX10_247 ⟨by decide, by decide⟩ rfl ly_103 (Nat.le_of_ble_eq_true rfl) (s_mMisG (lk := (wL P n (I 104) F F2)) (me := I 106) (fun s hs => by rw [stRow_off (by decide)]; exact wk_117 hs) (fun s hs => by rw [stRow_off (by decide)]; unfold wkF; rw [wk_off (Or.inl (by decide)), T0_off (by decide)])) (Nat.le_of_ble_eq_true rfl) rfl ⟨by decide, by decide⟩ ?_
    refine g_if_ne 60 C dX10_cure_46 (by decide) (fun c46 => ?_) (fun c46 => ?_)
    · skip
      refine g_iconst (v := 0) C dX10_cure_60 (by decide) ?_
      refine g_istore_1 C dX10_cure_61 (by decide) ?_
      refine g_iconst (v := 0) C dX10_cure_62 (by decide) ?_
      refine g_istore_2 C dX10_cure_63 (by decide) ?_
      exact ga c46 0 (Nat.zero_le _) (0, fun _ => 0) _ (Nat.zero_le _) hoff (fun s hs => stRow_in hs) (fun b hb => by rw [stRow_off (by decide)]; exact wk_118 hb) (fun k hk => absurd hk (Nat.not_lt_zero _)) rfl _ _
    · skip
      refine g_aload_n C dX10_cure_49 rfl ?_
      refine g_iconst (v := 0) C dX10_cure_50 (by decide) ?_
      refine g_putI (ci := 10) (k := 34) .int C dX10_cure_51 rfl inGX10 tyX10_ok nmX10 (by decide) fwX10_272 ly_103 (by decide) rfl rfl rfl rfl rfl ?_
      refine g_aload_n C dX10_cure_54 rfl ?_
      refine g_iconst (v := 0) C dX10_cure_55 (by decide) ?_
      refine gv1I (ci := 10) C dX10_cure_56 vwX10_done mwX10_98 ⟨by decide, by decide⟩ rfl ly_103 (Nat.le_of_ble_eq_true rfl) (s_done _) (Nat.le_of_ble_eq_true rfl) rfl ⟨by decide, by decide⟩ ?_
      exact g_iret C dX10_cure_59 rfl rfl rfl ⟨fun _ => ⟨rfl, _, hoff, rfl⟩, fun q => absurd c46 q⟩
  have l1 : ∀ k : Nat, k ≤ 16 → ∀ a2 a3 a4 : Value, Go X G 5 0 0 (KQ X G iX10_cure (CuR I J P n F F2) noT) 11 [.ref (G.1 + 103), .int (nI k), a2, a3, a4] [] (mm (stRow (wkF (T0 I) P n F F2) 123 k (svR P n (I 104) (I 106) F F2)) J) := by
    refine loopN (16) ?_ ?_
    · intro a2 a3 a4
      show Go X G 5 0 0 _ 11 _ [] _
      refine g_iload_n C dX10_cure_11 rfl ?_
      refine g_bipush (v := 16) C dX10_cure_12 (by decide) ?_
      refine g_icmp_ge 42 C dX10_cure_14 (by decide) (fun c14 => ?_) (fun c14 => ?_)
      · exact aft _ _ _ _
      · exact absurd (Int32.le_refl _) c14
    · intro k hk ih a2 a3 a4
      show Go X G 5 0 0 _ 11 _ [] _
      refine g_iload_n C dX10_cure_11 rfl ?_
      refine g_bipush (v := 16) C dX10_cure_12 (by decide) ?_
      refine g_icmp_ge 42 C dX10_cure_14 (by decide) (fun c14 => ?_) (fun c14 => ?_)
      · exact (nI_ge_dead (n := 16) c14 hk (by omega)).elim
      · refine g_aload_n C dX10_cure_17 rfl ?_
        refine g_getR (ci := 10) (k := 33) (q := 123) C dX10_cure_18 rfl inGX10 (by decide) fwX10_77 ly_103 (by decide) rfl rfl ?_
        refine g_iload_n C dX10_cure_21 rfl ?_
        refine g_aload_n C dX10_cure_22 rfl ?_
        refine g_getR (ci := 10) (k := 26) (q := 117) C dX10_cure_23 rfl inGX10 (by decide) fwX10_58 ly_103 (by decide) rfl rfl ?_
        refine g_iload_n C dX10_cure_26 rfl ?_
        refine g_ialdv (v := (wL P n (I 104) F F2) k) _ C dX10_cure_27 ly_117 (by decide) (by decide) rfl hk (by rw [stRow_off (by decide)]; exact wk_117 hk) ?_
        refine g_aload_n C dX10_cure_28 rfl ?_
        refine g_getR (ci := 10) (k := 7) (q := 106) C dX10_cure_29 rfl inGX10 (by decide) fwX10_20 ly_103 (by decide) rfl rfl ?_
        refine g_iload_n C dX10_cure_32 rfl ?_
        refine g_ialdv (v := I 106 k) _ C dX10_cure_33 ly_106 (by decide) (by decide) rfl hk (by rw [stRow_off (by decide)]; unfold wkF; rw [wk_off (Or.inl (by decide)), T0_off (by decide)]) ?_
        refine g_iand C dX10_cure_34 ?_
        refine g_iast _ C dX10_cure_35 ly_123 (by decide) (by decide) rfl hk ?_
        refine g_iinc_1 C dX10_cure_36 (nI_1 k) (by decide) ?_
        refine g_goto 11 C dX10_cure_39 (by decide) ?_
        rw [show up1 (stRow (wkF (T0 I) P n F F2) 123 k (svR P n (I 104) (I 106) F F2)) 123 k ((wL P n (I 104) F F2) k &&& I 106 k) = stRow (wkF (T0 I) P n F F2) 123 (k + 1) (svR P n (I 104) (I 106) F F2) from stRow_succ _ _ _ _]
        exact ih _ _ _
  refine g_aload_n C dX10_cure_0 rfl ?_
  refine g_iconst (v := 0) C dX10_cure_1 (by decide) ?_
  refine g_putI (ci := 10) (k := 0) .int C dX10_cure_2 rfl inGX10 tyX10_ok nmX10 (by decide) fwX10_80 ly_103 (by decide) rfl rfl rfl rfl rfl ?_
  refine g_aload_n C dX10_cure_5 rfl ?_
  refine gv0V (ci := 10) C dX10_cure_6 vwX10_works mwX10_241 ⟨by decide, by decide⟩ rfl ly_103 (Nat.le_of_ble_eq_true rfl) (s_works (mOK_T0 hm) hfu) (Nat.le_of_ble_eq_true rfl) rfl ⟨by decide, by decide⟩ ?_
  refine g_iconst (v := 0) C dX10_cure_9 (by decide) ?_
  refine g_istore_1 C dX10_cure_10 (by decide) ?_
  have h0 := l1 0 (Nat.zero_le _) uu uu uu
  rw [stRow_0] at h0
  exact h0
