/-! ## the whole working out -/
def bt (x : Nat) : Int32 := (1 : Int32) <<< (nI x &&& 31)
def zr : Rw := fun _ => 0
def sdL (P : Pln) (g : Rw) (p k : Nat) (s : HR) : HR := if P.kd p k = 4 then (s.1, upd s.2 (8 * p + P.fs p k) (s.2 (8 * p + P.fs p k) ||| bt (P.nu p k))) else if P.kd p k = 0 then (upd s.1 (8 * p + P.fs p k) (s.1 (8 * p + P.fs p k) ||| (g p &&& bt (P.nu p k))), s.2) else s
def sdP (P : Pln) (g a : Rw) (p : Nat) (s : HR) : HR := if a p = 0 then s else it (sdL P g p) (P.ml p) s
def sdA (P : Pln) (n : Nat) (g a : Rw) : HR := it (sdP P g a) n (zr, zr)
def goL (P : Pln) (w : Rw) (p k : Nat) (t : HR × Int32) : HR × Int32 := ((goF P w p k t.1).1, or2 t.2 (goF P w p k t.1).2)
def goP (P : Pln) (w a : Rw) (p : Nat) (t : HR × Int32) : HR × Int32 := if a p = 0 then t else it (goL P w p) (P.ml p) t
def goQ (P : Pln) (n : Nat) (w a : Rw) (s : HR) : HR × Int32 := it (goP P w a) n (s, 0)
def mlS (x : Int32) (b : Nat) (s : Nat) (lk : Rw) : Rw := upd lk s (lk s ||| (((x >>> (nI s &&& 31)) &&& 1) <<< (nI b &&& 31)))
def mlL (P : Pln) (g h : Rw) (p k : Nat) (lk : Rw) : Rw := if P.kd p k = 3 ∧ ¬ (g p >>> (nI (P.nu p k) &&& 31)) &&& 1 = 0 then it (mlS (h (8 * p + P.fs p k)) (P.nu p k)) 16 lk else lk
def mlP (P : Pln) (g h a : Rw) (p : Nat) (lk : Rw) : Rw := if a p = 0 then lk else it (mlL P g h p) (P.ml p) lk
def mlA (P : Pln) (n : Nat) (g h a : Rw) : Rw := it (mlP P g h a) n zr
def wA (P : Pln) (n F : Nat) : Rw := wh (akQ P n) F (ak0 n)
def wS (P : Pln) (n : Nat) (g : Rw) (F : Nat) : HR := sdA P n g (wA P n F)
def wHR (P : Pln) (n : Nat) (g : Rw) (F F2 : Nat) : HR := wh (goQ P n (wS P n g F).2 (wA P n F)) F2 ((wS P n g F).1, zr)
def wL (P : Pln) (n : Nat) (g : Rw) (F F2 : Nat) : Rw := mlA P n g (wHR P n g F F2).1 (wA P n F)
def wkF (I : Nat → Nat → Int32) (P : Pln) (n F F2 : Nat) : Nat → Nat → Int32 := wkM I (wA P n F) (wHR P n (I 104) F F2).1 (wS P n (I 104) F).2 (wHR P n (I 104) F F2).2 (wL P n (I 104) F F2)
set_option maxHeartbeats 4000000 in
theorem s_worksW {l : Launch} {G : Gm} {I : Nat → Nat → Int32} {J : Nat → Nat → Int64} {a h w r lk : Rw} {n : Nat} {P : Pln} (hm : mOK I n P) {F F2 : Nat} (hE : whE (akQ P n) F (ak0 n)) (hE2 : whE (goQ P n (wS P n (I 104) F).2 (wA P n F)) F2 ((wS P n (I 104) F).1, zr)) : Sp l G iX10_works [.ref (G.1 + 103)] (mm (wkM I a h w r lk) J) (RetV (mm (wkF I P n F F2) J)) noT := by
  refine Sp.of (by decide +kernel) (Nat.le_of_ble_eq_true rfl) ?_
  intro X hXl C
  subst hXl
  show Go X G 5 0 0 _ 0 [.ref (G.1 + 103), uu, uu, uu, uu] [] (mm (wkM I a h w r lk) J)
  obtain ⟨hok, hn, hml, hli⟩ := hm
  have hn10 := hok.1
  have l6 : ∀ v1 : Int32, ∀ p : Nat, p ≤ n → ∀ a3 a4 : Value, Go X G 5 0 0 (KQ X G iX10_works (RetV (mm (wkF I P n F F2) J)) noT) 292 [.ref (G.1 + 103), .int v1, .int (nI p), a3, a4] [] (mm (wkM I (wA P n F) (wHR P n (I 104) F F2).1 (wS P n (I 104) F).2 (wHR P n (I 104) F F2).2 (it (mlP P (I 104) (wHR P n (I 104) F F2).1 (wA P n F)) p zr)) J) := by
    intro v1
    refine loopN (n) ?_ ?_
    · intro a3 a4
      show Go X G 5 0 0 _ 292 _ [] _
      refine g_iload_n C dX10_works_292 rfl ?_
      refine g_aload_n C dX10_works_293 rfl ?_
      refine g_getIv (ci := 10) (k := 4) (v := nI n) C dX10_works_294 rfl inGX10 (by decide) fwX10_86 ly_103 (by decide) rfl (by rw [wk_off (Or.inl (by decide))]; exact hn) ?_
      refine g_icmp_ge 426 C dX10_works_297 (by decide) (fun c297 => ?_) (fun c297 => ?_)
      · exact e_V C dX10_works_426 rfl rfl rfl rfl
      · exact absurd (Int32.le_refl _) c297
    · intro p hp ihp a3 a4
      show Go X G 5 0 0 _ 292 _ [] _
      refine g_iload_n C dX10_works_292 rfl ?_
      refine g_aload_n C dX10_works_293 rfl ?_
      refine g_getIv (ci := 10) (k := 4) (v := nI n) C dX10_works_294 rfl inGX10 (by decide) fwX10_86 ly_103 (by decide) rfl (by rw [wk_off (Or.inl (by decide))]; exact hn) ?_
      refine g_icmp_ge 426 C dX10_works_297 (by decide) (fun c297 => ?_) (fun c297 => ?_)
      · exact (nI_ge_dead (n := n) c297 hp (by omega)).elim
      · refine g_bipush (v := 12) C dX10_works_300 (by decide) ?_
        refine g_iload_n C dX10_works_302 rfl ?_
        refine g_imul C dX10_works_303 ?_
        rw [mul12]
        refine g_istore_3 C dX10_works_304 (by decide) ?_
        by_cases hA : (wA P n F) p = 0
        · refine g_iload_n C dX10_works_305 rfl ?_
          refine g_bipush (v := 12) C dX10_works_306 (by decide) ?_
          refine g_iload_n C dX10_works_308 rfl ?_
          refine g_imul C dX10_works_309 ?_
          rw [mul12]
          refine g_aload_n C dX10_works_310 rfl ?_
          refine g_getR (ci := 10) (k := 6) (q := 105) C dX10_works_311 rfl inGX10 (by decide) fwX10_17 ly_103 (by decide) rfl rfl ?_
          refine g_iload_n C dX10_works_314 rfl ?_
          refine g_ialdv (v := nI (P.ml p)) p C dX10_works_315 ly_105 (by decide) (by decide) rfl (show p < 11 by omega) (by rw [wk_off (Or.inl (by decide))]; exact hml p hp) ?_
          refine g_iadd C dX10_works_316 ?_
          rw [nI_add]
          refine g_icmp_ge 420 C dX10_works_317 (by decide) (fun c317 => ?_) (fun c317 => ?_)
          · skip
            refine g_iinc_2 C dX10_works_420 (nI_1 p) (by decide) ?_
            refine g_goto 292 C dX10_works_423 (by decide) ?_
            have h9 : it (mlP P (I 104) (wHR P n (I 104) F F2).1 (wA P n F)) (p + 1) zr = (it (mlP P (I 104) (wHR P n (I 104) F F2).1 (wA P n F)) p zr) := if_pos hA
            rw [h9] at ihp
            exact ihp _ _
          · skip
            refine g_aload_n C dX10_works_320 rfl ?_
            refine g_getR (ci := 10) (k := 27) (q := 118) C dX10_works_321 rfl inGX10 (by decide) fwX10_61 ly_103 (by decide) rfl rfl ?_
            refine g_iload_n C dX10_works_324 rfl ?_
            refine g_zald _ C dX10_works_325 ly_118 (by decide) (by decide) rfl (show p < 10 by omega) ?_
            refine g_if_eq 420 C dX10_works_326 (by decide) (fun c326 => ?_) (fun c326 => ?_)
            · refine g_iinc_2 C dX10_works_420 (nI_1 p) (by decide) ?_
              refine g_goto 292 C dX10_works_423 (by decide) ?_
              have h9 : it (mlP P (I 104) (wHR P n (I 104) F F2).1 (wA P n F)) (p + 1) zr = (it (mlP P (I 104) (wHR P n (I 104) F F2).1 (wA P n F)) p zr) := if_pos hA
              rw [h9] at ihp
              exact ihp _ _
            · exact absurd ((wk_118 (show p < 10 by omega)).trans hA) c326
        have inner : ∀ k : Nat, k ≤ P.ml p → ∀ a4 : Value, Go X G 5 0 0 (KQ X G iX10_works (RetV (mm (wkF I P n F F2) J)) noT) 305 [.ref (G.1 + 103), .int v1, .int (nI p), .int (nI (12 * p + k)), a4] [] (mm (wkM I (wA P n F) (wHR P n (I 104) F F2).1 (wS P n (I 104) F).2 (wHR P n (I 104) F F2).2 (it (mlL P (I 104) (wHR P n (I 104) F F2).1 p) k (it (mlP P (I 104) (wHR P n (I 104) F F2).1 (wA P n F)) p zr))) J) := by
          refine loopN (P.ml p) ?_ ?_
          · intro a4
            show Go X G 5 0 0 _ 305 _ [] _
            have hm12 := hok.2.1 p
            refine g_iload_n C dX10_works_305 rfl ?_
            refine g_bipush (v := 12) C dX10_works_306 (by decide) ?_
            refine g_iload_n C dX10_works_308 rfl ?_
            refine g_imul C dX10_works_309 ?_
            rw [mul12]
            refine g_aload_n C dX10_works_310 rfl ?_
            refine g_getR (ci := 10) (k := 6) (q := 105) C dX10_works_311 rfl inGX10 (by decide) fwX10_17 ly_103 (by decide) rfl rfl ?_
            refine g_iload_n C dX10_works_314 rfl ?_
            refine g_ialdv (v := nI (P.ml p)) p C dX10_works_315 ly_105 (by decide) (by decide) rfl (show p < 11 by omega) (by rw [wk_off (Or.inl (by decide))]; exact hml p hp) ?_
            refine g_iadd C dX10_works_316 ?_
            rw [nI_add]
            refine g_icmp_ge 420 C dX10_works_317 (by decide) (fun c317 => ?_) (fun c317 => ?_)
            · refine g_iinc_2 C dX10_works_420 (nI_1 p) (by decide) ?_
              refine g_goto 292 C dX10_works_423 (by decide) ?_
              have h9 : it (mlP P (I 104) (wHR P n (I 104) F F2).1 (wA P n F)) (p + 1) zr = it (mlL P (I 104) (wHR P n (I 104) F F2).1 p) (P.ml p) (it (mlP P (I 104) (wHR P n (I 104) F F2).1 (wA P n F)) p zr) := if_neg hA
              rw [h9] at ihp
              exact ihp _ _
            · exact absurd (Int32.le_refl _) c317
          · intro k hk ihk a4
            show Go X G 5 0 0 _ 305 _ [] _
            have hL := hli p hp k hk
            have hLo := hok.2.2 p hp k hk
            have hm12 := hok.2.1 p
            refine g_iload_n C dX10_works_305 rfl ?_
            refine g_bipush (v := 12) C dX10_works_306 (by decide) ?_
            refine g_iload_n C dX10_works_308 rfl ?_
            refine g_imul C dX10_works_309 ?_
            rw [mul12]
            refine g_aload_n C dX10_works_310 rfl ?_
            refine g_getR (ci := 10) (k := 6) (q := 105) C dX10_works_311 rfl inGX10 (by decide) fwX10_17 ly_103 (by decide) rfl rfl ?_
            refine g_iload_n C dX10_works_314 rfl ?_
            refine g_ialdv (v := nI (P.ml p)) p C dX10_works_315 ly_105 (by decide) (by decide) rfl (show p < 11 by omega) (by rw [wk_off (Or.inl (by decide))]; exact hml p hp) ?_
            refine g_iadd C dX10_works_316 ?_
            rw [nI_add]
            refine g_icmp_ge 420 C dX10_works_317 (by decide) (fun c317 => ?_) (fun c317 => ?_)
            · exact (nI_ge_dead (n := 12 * p + P.ml p) c317 (by omega) (by omega)).elim
            · refine g_aload_n C dX10_works_320 rfl ?_
              refine g_getR (ci := 10) (k := 27) (q := 118) C dX10_works_321 rfl inGX10 (by decide) fwX10_61 ly_103 (by decide) rfl rfl ?_
              refine g_iload_n C dX10_works_324 rfl ?_
              refine g_zald _ C dX10_works_325 ly_118 (by decide) (by decide) rfl (show p < 10 by omega) ?_
              refine g_if_eq 420 C dX10_works_326 (by decide) (fun c326 => ?_) (fun c326 => ?_)
              · exact absurd ((wk_118 (show p < 10 by omega)).symm.trans c326) hA
              · refine g_aload_n C dX10_works_329 rfl ?_
                refine g_getR (ci := 10) (k := 8) (q := 107) C dX10_works_330 rfl inGX10 (by decide) fwX10_23 ly_103 (by decide) rfl rfl ?_
                refine g_iload_n C dX10_works_333 rfl ?_
                refine g_ialdv (v := nI (P.kd p k)) (12 * p + k) C dX10_works_334 ly_107 (by decide) (by decide) rfl (show 12 * p + k < 132 by omega) (by rw [wk_off (Or.inl (by decide))]; exact hL.1) ?_
                refine g_iconst (v := 3) C dX10_works_335 (by decide) ?_
                refine g_icmp_ne 414 C dX10_works_336 (by decide) (fun c336 => ?_) (fun c336 => ?_)
                · have g336 : ¬ P.kd p k = 3 := fun q => c336 (by rw [q]; rfl)
                  refine g_iinc_3 C dX10_works_414 (nI_1 (12 * p + k)) (by decide) ?_
                  refine g_goto 305 C dX10_works_417 (by decide) ?_
                  first
                    | (have h9 : it (mlL P (I 104) (wHR P n (I 104) F F2).1 p) (k + 1) (it (mlP P (I 104) (wHR P n (I 104) F F2).1 (wA P n F)) p zr) = (it (mlL P (I 104) (wHR P n (I 104) F F2).1 p) k (it (mlP P (I 104) (wHR P n (I 104) F F2).1 (wA P n F)) p zr)) := if_neg (fun q => g336 q.1)
                       rw [h9] at ihk
                       exact ihk _)
                    | (have h9 : it (mlL P (I 104) (wHR P n (I 104) F F2).1 p) (k + 1) (it (mlP P (I 104) (wHR P n (I 104) F F2).1 (wA P n F)) p zr) = (it (mlL P (I 104) (wHR P n (I 104) F F2).1 p) k (it (mlP P (I 104) (wHR P n (I 104) F F2).1 (wA P n F)) p zr)) := if_neg (fun q => q.2 c354)
                       rw [h9] at ihk
                       exact ihk _)
                · have g336 : P.kd p k = 3 := (nI_eq (b := 3) (by omega) (by decide)).mp c336
                  refine g_aload_n C dX10_works_339 rfl ?_
                  refine g_getR (ci := 10) (k := 5) (q := 104) C dX10_works_340 rfl inGX10 (by decide) fwX10_13 ly_103 (by decide) rfl rfl ?_
                  refine g_iload_n C dX10_works_343 rfl ?_
                  refine g_ialdv (v := I 104 p) p C dX10_works_344 ly_104 (by decide) (by decide) rfl (show p < 10 by omega) (by rw [wk_off (Or.inl (by decide))]) ?_
                  refine g_aload_n C dX10_works_345 rfl ?_
                  refine g_getR (ci := 10) (k := 9) (q := 108) C dX10_works_346 rfl inGX10 (by decide) fwX10_26 ly_103 (by decide) rfl rfl ?_
                  refine g_iload_n C dX10_works_349 rfl ?_
                  refine g_ialdv (v := nI (P.nu p k)) (12 * p + k) C dX10_works_350 ly_108 (by decide) (by decide) rfl (show 12 * p + k < 132 by omega) (by rw [wk_off (Or.inl (by decide))]; exact hL.2.1) ?_
                  refine g_ishr C dX10_works_351 ?_
                  refine g_iconst (v := 1) C dX10_works_352 (by decide) ?_
                  refine g_iand C dX10_works_353 ?_
                  refine g_if_ne 360 C dX10_works_354 (by decide) (fun c354 => ?_) (fun c354 => ?_)
                  · refine g_iconst (v := 0) C dX10_works_360 (by decide) ?_
                    refine g_istore_4 C dX10_works_361 (by decide) ?_
                    have s3 : ∀ s : Nat, s ≤ 16 → Go X G 5 0 0 (KQ X G iX10_works (RetV (mm (wkF I P n F F2) J)) noT) 363 [.ref (G.1 + 103), .int v1, .int (nI p), .int (nI (12 * p + k)), .int (nI s)] [] (mm (wkM I (wA P n F) (wHR P n (I 104) F F2).1 (wS P n (I 104) F).2 (wHR P n (I 104) F F2).2 (it (mlS ((wHR P n (I 104) F F2).1 (8 * p + P.fs p k)) (P.nu p k)) s (it (mlL P (I 104) (wHR P n (I 104) F F2).1 p) k (it (mlP P (I 104) (wHR P n (I 104) F F2).1 (wA P n F)) p zr)))) J) := by
                      refine loopN (16) ?_ ?_
                      · skip
                        show Go X G 5 0 0 _ 363 _ [] _
                        refine g_iload C dX10_works_363 rfl ?_
                        refine g_bipush (v := 16) C dX10_works_365 (by decide) ?_
                        refine g_icmp_ge 414 C dX10_works_367 (by decide) (fun c367 => ?_) (fun c367 => ?_)
                        · refine g_iinc_3 C dX10_works_414 (nI_1 (12 * p + k)) (by decide) ?_
                          refine g_goto 305 C dX10_works_417 (by decide) ?_
                          have h9 : it (mlL P (I 104) (wHR P n (I 104) F F2).1 p) (k + 1) (it (mlP P (I 104) (wHR P n (I 104) F F2).1 (wA P n F)) p zr) = it (mlS ((wHR P n (I 104) F F2).1 (8 * p + P.fs p k)) (P.nu p k)) 16 (it (mlL P (I 104) (wHR P n (I 104) F F2).1 p) k (it (mlP P (I 104) (wHR P n (I 104) F F2).1 (wA P n F)) p zr)) := if_pos ⟨g336, c354⟩
                          rw [h9] at ihk
                          exact ihk _
                        · exact absurd (Int32.le_refl _) c367
                      · intro s hs ihs 
                        show Go X G 5 0 0 _ 363 _ [] _
                        refine g_iload C dX10_works_363 rfl ?_
                        refine g_bipush (v := 16) C dX10_works_365 (by decide) ?_
                        refine g_icmp_ge 414 C dX10_works_367 (by decide) (fun c367 => ?_) (fun c367 => ?_)
                        · exact (nI_ge_dead (n := 16) c367 hs (by omega)).elim
                        · refine g_aload_n C dX10_works_370 rfl ?_
                          refine g_getR (ci := 10) (k := 26) (q := 117) C dX10_works_371 rfl inGX10 (by decide) fwX10_58 ly_103 (by decide) rfl rfl ?_
                          refine g_iload C dX10_works_374 rfl ?_
                          refine g_dup2 C dX10_works_376 rfl rfl ?_
                          refine g_ialdv (v := (it (mlS ((wHR P n (I 104) F F2).1 (8 * p + P.fs p k)) (P.nu p k)) s (it (mlL P (I 104) (wHR P n (I 104) F F2).1 p) k (it (mlP P (I 104) (wHR P n (I 104) F F2).1 (wA P n F)) p zr))) s) _ C dX10_works_377 ly_117 (by decide) (by decide) rfl hs (wk_117 hs) ?_
                          refine g_aload_n C dX10_works_378 rfl ?_
                          refine g_getR (ci := 10) (k := 23) (q := 114) C dX10_works_379 rfl inGX10 (by decide) fwX10_49 ly_103 (by decide) rfl rfl ?_
                          refine g_bipush (v := 8) C dX10_works_382 (by decide) ?_
                          refine g_iload_n C dX10_works_384 rfl ?_
                          refine g_imul C dX10_works_385 ?_
                          rw [mul8]
                          refine g_aload_n C dX10_works_386 rfl ?_
                          refine g_getR (ci := 10) (k := 10) (q := 109) C dX10_works_387 rfl inGX10 (by decide) fwX10_29 ly_103 (by decide) rfl rfl ?_
                          refine g_iload_n C dX10_works_390 rfl ?_
                          refine g_ialdv (v := nI (P.fs p k)) (12 * p + k) C dX10_works_391 ly_109 (by decide) (by decide) rfl (show 12 * p + k < 132 by omega) (by rw [wk_off (Or.inl (by decide))]; exact hL.2.2.1) ?_
                          refine g_iadd C dX10_works_392 ?_
                          rw [nI_add]
                          refine g_ialdv (v := (wHR P n (I 104) F F2).1 (8 * p + P.fs p k)) (8 * p + P.fs p k) C dX10_works_393 ly_114 (by decide) (by decide) rfl (show (8 * p + P.fs p k) < 80 by omega) (wk_114 (by omega)) ?_
                          refine g_iload C dX10_works_394 rfl ?_
                          refine g_ishr C dX10_works_396 ?_
                          refine g_iconst (v := 1) C dX10_works_397 (by decide) ?_
                          refine g_iand C dX10_works_398 ?_
                          refine g_aload_n C dX10_works_399 rfl ?_
                          refine g_getR (ci := 10) (k := 9) (q := 108) C dX10_works_400 rfl inGX10 (by decide) fwX10_26 ly_103 (by decide) rfl rfl ?_
                          refine g_iload_n C dX10_works_403 rfl ?_
                          refine g_ialdv (v := nI (P.nu p k)) (12 * p + k) C dX10_works_404 ly_108 (by decide) (by decide) rfl (show 12 * p + k < 132 by omega) (by rw [wk_off (Or.inl (by decide))]; exact hL.2.1) ?_
                          refine g_ishl C dX10_works_405 ?_
                          refine g_ior C dX10_works_406 ?_
                          refine g_iast _ C dX10_works_407 ly_117 (by decide) (by decide) rfl hs ?_
                          refine g_iinc_4 C dX10_works_408 (nI_1 s) (by decide) ?_
                          refine g_goto 363 C dX10_works_411 (by decide) ?_
                          rw [wk_up117 hs]
                          exact ihs
                    exact s3 0 (Nat.zero_le _)
                  · refine g_goto 414 C dX10_works_357 (by decide) ?_
                    refine g_iinc_3 C dX10_works_414 (nI_1 (12 * p + k)) (by decide) ?_
                    refine g_goto 305 C dX10_works_417 (by decide) ?_
                    first
                      | (have h9 : it (mlL P (I 104) (wHR P n (I 104) F F2).1 p) (k + 1) (it (mlP P (I 104) (wHR P n (I 104) F F2).1 (wA P n F)) p zr) = (it (mlL P (I 104) (wHR P n (I 104) F F2).1 p) k (it (mlP P (I 104) (wHR P n (I 104) F F2).1 (wA P n F)) p zr)) := if_neg (fun q => g336 q.1)
                         rw [h9] at ihk
                         exact ihk _)
                      | (have h9 : it (mlL P (I 104) (wHR P n (I 104) F F2).1 p) (k + 1) (it (mlP P (I 104) (wHR P n (I 104) F F2).1 (wA P n F)) p zr) = (it (mlL P (I 104) (wHR P n (I 104) F F2).1 p) k (it (mlP P (I 104) (wHR P n (I 104) F F2).1 (wA P n F)) p zr)) := if_neg (fun q => q.2 c354)
                         rw [h9] at ihk
                         exact ihk _)
        exact inner 0 (Nat.zero_le _) _
  have l5 : ∀ k : Nat, k ≤ 16 → ∀ (v1 : Int32) (a3 a4 : Value), Go X G 5 0 0 (KQ X G iX10_works (RetV (mm (wkF I P n F F2) J)) noT) 271 [.ref (G.1 + 103), .int v1, .int (nI k), a3, a4] [] (mm (wkM I (wA P n F) (wHR P n (I 104) F F2).1 (wS P n (I 104) F).2 (wHR P n (I 104) F F2).2 (ovr zr lk k)) J) := by
    refine loopN (16) ?_ ?_
    · intro v1 a3 a4
      show Go X G 5 0 0 _ 271 _ [] _
      refine g_iload_n C dX10_works_271 rfl ?_
      refine g_bipush (v := 16) C dX10_works_272 (by decide) ?_
      refine g_icmp_ge 290 C dX10_works_274 (by decide) (fun c274 => ?_) (fun c274 => ?_)
      · refine g_iconst (v := 0) C dX10_works_290 (by decide) ?_
        refine g_istore_2 C dX10_works_291 (by decide) ?_
        rw [show wkM I (wA P n F) (wHR P n (I 104) F F2).1 (wS P n (I 104) F).2 (wHR P n (I 104) F F2).2 (ovr zr lk 16) = wkM I (wA P n F) (wHR P n (I 104) F F2).1 (wS P n (I 104) F).2 (wHR P n (I 104) F F2).2 zr from wk_eq (fun _ _ => rfl) (fun _ _ => rfl) (fun _ _ => rfl) (fun _ _ => rfl) (fun b hb => ovr_in hb)]
        exact l6 _ 0 (Nat.zero_le _) _ _
      · exact absurd (Int32.le_refl _) c274
    · intro k hk ih v1 a3 a4
      show Go X G 5 0 0 _ 271 _ [] _
      refine g_iload_n C dX10_works_271 rfl ?_
      refine g_bipush (v := 16) C dX10_works_272 (by decide) ?_
      refine g_icmp_ge 290 C dX10_works_274 (by decide) (fun c274 => ?_) (fun c274 => ?_)
      · exact (nI_ge_dead (n := 16) c274 hk (by omega)).elim
      · refine g_aload_n C dX10_works_277 rfl ?_
        refine g_getR (ci := 10) (k := 26) (q := 117) C dX10_works_278 rfl inGX10 (by decide) fwX10_58 ly_103 (by decide) rfl rfl ?_
        refine g_iload_n C dX10_works_281 rfl ?_
        refine g_iconst (v := 0) C dX10_works_282 (by decide) ?_
        refine g_iast _ C dX10_works_283 ly_117 (by decide) (by decide) rfl hk ?_
        refine g_iinc_2 C dX10_works_284 (nI_1 k) (by decide) ?_
        refine g_goto 271 C dX10_works_287 (by decide) ?_
        rw [wk_up117 hk, show upd (ovr zr lk k) k 0 = ovr zr lk (k + 1) from ovr_up zr lk k]
        exact ih _ _ _
  have lw : ∀ (f : Nat) (s : HR) (v : Int32), ¬ v = 0 → whE (goQ P n (wS P n (I 104) F).2 (wA P n F)) f s → wh (goQ P n (wS P n (I 104) F).2 (wA P n F)) f s = (wHR P n (I 104) F F2) → ∀ a2 a3 a4 : Value, Go X G 5 0 0 (KQ X G iX10_works (RetV (mm (wkF I P n F F2) J)) noT) 186 [.ref (G.1 + 103), .int v, a2, a3, a4] [] (mm (wkM I (wA P n F) s.1 (wS P n (I 104) F).2 s.2 lk) J) := by
    intro f
    induction f with
    | zero => intro s v hv hE; exact hE.elim
    | succ f ih =>
      intro s v hv hE he a2 a3 a4
      have hcont : ∀ a2 a3 a4 : Value, Go X G 5 0 0 (KQ X G iX10_works (RetV (mm (wkF I P n F F2) J)) noT) 186 [.ref (G.1 + 103), .int ((goQ P n (wS P n (I 104) F).2 (wA P n F)) s).2, a2, a3, a4] [] (mm (wkM I (wA P n F) ((goQ P n (wS P n (I 104) F).2 (wA P n F)) s).1.1 (wS P n (I 104) F).2 ((goQ P n (wS P n (I 104) F).2 (wA P n F)) s).1.2 lk) J) := by
        intro a2 a3 a4
        by_cases hz : ((goQ P n (wS P n (I 104) F).2 (wA P n F)) s).2 = 0
        · rw [show ((goQ P n (wS P n (I 104) F).2 (wA P n F)) s).1 = (wHR P n (I 104) F F2) by rw [← he, wh, if_pos hz]]
          refine g_iload_n C dX10_works_186 rfl ?_
          refine g_if_eq 269 C dX10_works_187 (by decide) (fun c187 => ?_) (fun c187 => ?_)
          · refine g_iconst (v := 0) C dX10_works_269 (by decide) ?_
            refine g_istore_2 C dX10_works_270 (by decide) ?_
            have h0 := l5 0 (Nat.zero_le _)
            rw [ovr_0] at h0
            exact h0 _ _ _
          · exact absurd hz c187
        · exact ih _ _ hz (hE.resolve_left hz) (by rw [← he, wh, if_neg hz]) _ _ _
      have lp : ∀ p : Nat, p ≤ n → ∀ a3 a4 : Value, Go X G 5 0 0 (KQ X G iX10_works (RetV (mm (wkF I P n F F2) J)) noT) 194 [.ref (G.1 + 103), .int (it (goP P (wS P n (I 104) F).2 (wA P n F)) p (s, 0)).2, .int (nI p), a3, a4] [] (mm (wkM I (wA P n F) (it (goP P (wS P n (I 104) F).2 (wA P n F)) p (s, 0)).1.1 (wS P n (I 104) F).2 (it (goP P (wS P n (I 104) F).2 (wA P n F)) p (s, 0)).1.2 lk) J) := by
        refine loopN (n) ?_ ?_
        · intro a3 a4
          show Go X G 5 0 0 _ 194 _ [] _
          refine g_iload_n C dX10_works_194 rfl ?_
          refine g_aload_n C dX10_works_195 rfl ?_
          refine g_getIv (ci := 10) (k := 4) (v := nI n) C dX10_works_196 rfl inGX10 (by decide) fwX10_86 ly_103 (by decide) rfl (by rw [wk_off (Or.inl (by decide))]; exact hn) ?_
          refine g_icmp_ge 266 C dX10_works_199 (by decide) (fun c199 => ?_) (fun c199 => ?_)
          · refine g_goto 186 C dX10_works_266 (by decide) ?_
            exact hcont _ _ _
          · exact absurd (Int32.le_refl _) c199
        · intro p hp ihp a3 a4
          show Go X G 5 0 0 _ 194 _ [] _
          refine g_iload_n C dX10_works_194 rfl ?_
          refine g_aload_n C dX10_works_195 rfl ?_
          refine g_getIv (ci := 10) (k := 4) (v := nI n) C dX10_works_196 rfl inGX10 (by decide) fwX10_86 ly_103 (by decide) rfl (by rw [wk_off (Or.inl (by decide))]; exact hn) ?_
          refine g_icmp_ge 266 C dX10_works_199 (by decide) (fun c199 => ?_) (fun c199 => ?_)
          · exact (nI_ge_dead (n := n) c199 hp (by omega)).elim
          · refine g_bipush (v := 12) C dX10_works_202 (by decide) ?_
            refine g_iload_n C dX10_works_204 rfl ?_
            refine g_imul C dX10_works_205 ?_
            rw [mul12]
            refine g_istore_3 C dX10_works_206 (by decide) ?_
            by_cases hA : (wA P n F) p = 0
            · refine g_iload_n C dX10_works_207 rfl ?_
              refine g_bipush (v := 12) C dX10_works_208 (by decide) ?_
              refine g_iload_n C dX10_works_210 rfl ?_
              refine g_imul C dX10_works_211 ?_
              rw [mul12]
              refine g_aload_n C dX10_works_212 rfl ?_
              refine g_getR (ci := 10) (k := 6) (q := 105) C dX10_works_213 rfl inGX10 (by decide) fwX10_17 ly_103 (by decide) rfl rfl ?_
              refine g_iload_n C dX10_works_216 rfl ?_
              refine g_ialdv (v := nI (P.ml p)) p C dX10_works_217 ly_105 (by decide) (by decide) rfl (show p < 11 by omega) (by rw [wk_off (Or.inl (by decide))]; exact hml p hp) ?_
              refine g_iadd C dX10_works_218 ?_
              rw [nI_add]
              refine g_icmp_ge 260 C dX10_works_219 (by decide) (fun c219 => ?_) (fun c219 => ?_)
              · skip
                refine g_iinc_2 C dX10_works_260 (nI_1 p) (by decide) ?_
                refine g_goto 194 C dX10_works_263 (by decide) ?_
                have h9 : it (goP P (wS P n (I 104) F).2 (wA P n F)) (p + 1) (s, 0) = (it (goP P (wS P n (I 104) F).2 (wA P n F)) p (s, 0)) := if_pos hA
                rw [h9] at ihp
                exact ihp _ _
              · skip
                refine g_aload_n C dX10_works_222 rfl ?_
                refine g_getR (ci := 10) (k := 27) (q := 118) C dX10_works_223 rfl inGX10 (by decide) fwX10_61 ly_103 (by decide) rfl rfl ?_
                refine g_iload_n C dX10_works_226 rfl ?_
                refine g_zald _ C dX10_works_227 ly_118 (by decide) (by decide) rfl (show p < 10 by omega) ?_
                refine g_if_eq 260 C dX10_works_228 (by decide) (fun c228 => ?_) (fun c228 => ?_)
                · refine g_iinc_2 C dX10_works_260 (nI_1 p) (by decide) ?_
                  refine g_goto 194 C dX10_works_263 (by decide) ?_
                  have h9 : it (goP P (wS P n (I 104) F).2 (wA P n F)) (p + 1) (s, 0) = (it (goP P (wS P n (I 104) F).2 (wA P n F)) p (s, 0)) := if_pos hA
                  rw [h9] at ihp
                  exact ihp _ _
                · exact absurd ((wk_118 (show p < 10 by omega)).trans hA) c228
            have inner : ∀ k : Nat, k ≤ P.ml p → ∀ a4 : Value, Go X G 5 0 0 (KQ X G iX10_works (RetV (mm (wkF I P n F F2) J)) noT) 207 [.ref (G.1 + 103), .int (it (goL P (wS P n (I 104) F).2 p) k (it (goP P (wS P n (I 104) F).2 (wA P n F)) p (s, 0))).2, .int (nI p), .int (nI (12 * p + k)), a4] [] (mm (wkM I (wA P n F) (it (goL P (wS P n (I 104) F).2 p) k (it (goP P (wS P n (I 104) F).2 (wA P n F)) p (s, 0))).1.1 (wS P n (I 104) F).2 (it (goL P (wS P n (I 104) F).2 p) k (it (goP P (wS P n (I 104) F).2 (wA P n F)) p (s, 0))).1.2 lk) J) := by
              refine loopN (P.ml p) ?_ ?_
              · intro a4
                show Go X G 5 0 0 _ 207 _ [] _
                have hm12 := hok.2.1 p
                refine g_iload_n C dX10_works_207 rfl ?_
                refine g_bipush (v := 12) C dX10_works_208 (by decide) ?_
                refine g_iload_n C dX10_works_210 rfl ?_
                refine g_imul C dX10_works_211 ?_
                rw [mul12]
                refine g_aload_n C dX10_works_212 rfl ?_
                refine g_getR (ci := 10) (k := 6) (q := 105) C dX10_works_213 rfl inGX10 (by decide) fwX10_17 ly_103 (by decide) rfl rfl ?_
                refine g_iload_n C dX10_works_216 rfl ?_
                refine g_ialdv (v := nI (P.ml p)) p C dX10_works_217 ly_105 (by decide) (by decide) rfl (show p < 11 by omega) (by rw [wk_off (Or.inl (by decide))]; exact hml p hp) ?_
                refine g_iadd C dX10_works_218 ?_
                rw [nI_add]
                refine g_icmp_ge 260 C dX10_works_219 (by decide) (fun c219 => ?_) (fun c219 => ?_)
                · refine g_iinc_2 C dX10_works_260 (nI_1 p) (by decide) ?_
                  refine g_goto 194 C dX10_works_263 (by decide) ?_
                  have h9 : it (goP P (wS P n (I 104) F).2 (wA P n F)) (p + 1) (s, 0) = it (goL P (wS P n (I 104) F).2 p) (P.ml p) (it (goP P (wS P n (I 104) F).2 (wA P n F)) p (s, 0)) := if_neg hA
                  rw [h9] at ihp
                  exact ihp _ _
                · exact absurd (Int32.le_refl _) c219
              · intro k hk ihk a4
                show Go X G 5 0 0 _ 207 _ [] _
                have hL := hli p hp k hk
                have hLo := hok.2.2 p hp k hk
                have hm12 := hok.2.1 p
                refine g_iload_n C dX10_works_207 rfl ?_
                refine g_bipush (v := 12) C dX10_works_208 (by decide) ?_
                refine g_iload_n C dX10_works_210 rfl ?_
                refine g_imul C dX10_works_211 ?_
                rw [mul12]
                refine g_aload_n C dX10_works_212 rfl ?_
                refine g_getR (ci := 10) (k := 6) (q := 105) C dX10_works_213 rfl inGX10 (by decide) fwX10_17 ly_103 (by decide) rfl rfl ?_
                refine g_iload_n C dX10_works_216 rfl ?_
                refine g_ialdv (v := nI (P.ml p)) p C dX10_works_217 ly_105 (by decide) (by decide) rfl (show p < 11 by omega) (by rw [wk_off (Or.inl (by decide))]; exact hml p hp) ?_
                refine g_iadd C dX10_works_218 ?_
                rw [nI_add]
                refine g_icmp_ge 260 C dX10_works_219 (by decide) (fun c219 => ?_) (fun c219 => ?_)
                · exact (nI_ge_dead (n := 12 * p + P.ml p) c219 (by omega) (by omega)).elim
                · refine g_aload_n C dX10_works_222 rfl ?_
                  refine g_getR (ci := 10) (k := 27) (q := 118) C dX10_works_223 rfl inGX10 (by decide) fwX10_61 ly_103 (by decide) rfl rfl ?_
                  refine g_iload_n C dX10_works_226 rfl ?_
                  refine g_zald _ C dX10_works_227 ly_118 (by decide) (by decide) rfl (show p < 10 by omega) ?_
                  refine g_if_eq 260 C dX10_works_228 (by decide) (fun c228 => ?_) (fun c228 => ?_)
                  · exact absurd ((wk_118 (show p < 10 by omega)).symm.trans c228) hA
                  · refine g_aload_n C dX10_works_231 rfl ?_
                    refine g_iload_n C dX10_works_232 rfl ?_
                    refine g_iload_n C dX10_works_233 rfl ?_
                    refine gv2I (ci := 10) C dX10_works_234 vwX10_goes mwX10_234 ⟨by decide, by decide⟩ rfl ly_103 (Nat.le_of_ble_eq_true rfl) (s_goes ⟨hok, hn, hml, hli⟩ hp hk) (Nat.le_of_ble_eq_true rfl) rfl ⟨by decide, by decide⟩ ?_
                    refine g_istore_4 C dX10_works_237 (by decide) ?_
                    refine g_iload_n C dX10_works_239 rfl ?_
                    refine g_if_ne 248 C dX10_works_240 (by decide) (fun c240 => ?_) (fun c240 => ?_)
                    · refine g_iconst (v := 1) C dX10_works_248 (by decide) ?_
                      refine g_goto 253 C dX10_works_249 (by decide) ?_
                      refine g_istore_1 C dX10_works_253 (by decide) ?_
                      refine g_iinc_3 C dX10_works_254 (nI_1 (12 * p + k)) (by decide) ?_
                      refine g_goto 207 C dX10_works_257 (by decide) ?_
                      first
                        | (have h9 : it (goL P (wS P n (I 104) F).2 p) (k + 1) (it (goP P (wS P n (I 104) F).2 (wA P n F)) p (s, 0)) = ((goF P (wS P n (I 104) F).2 p k (it (goL P (wS P n (I 104) F).2 p) k (it (goP P (wS P n (I 104) F).2 (wA P n F)) p (s, 0))).1).1, 0) := congrArg (Prod.mk _) (or2_0 c240 c245).symm
                           rw [h9] at ihk; exact ihk _)
                        | (have h9 : it (goL P (wS P n (I 104) F).2 p) (k + 1) (it (goP P (wS P n (I 104) F).2 (wA P n F)) p (s, 0)) = ((goF P (wS P n (I 104) F).2 p k (it (goL P (wS P n (I 104) F).2 p) k (it (goP P (wS P n (I 104) F).2 (wA P n F)) p (s, 0))).1).1, 1) := congrArg (Prod.mk _) (or2_1 c240).symm
                           rw [h9] at ihk; exact ihk _)
                        | (have h9 : it (goL P (wS P n (I 104) F).2 p) (k + 1) (it (goP P (wS P n (I 104) F).2 (wA P n F)) p (s, 0)) = ((goF P (wS P n (I 104) F).2 p k (it (goL P (wS P n (I 104) F).2 p) k (it (goP P (wS P n (I 104) F).2 (wA P n F)) p (s, 0))).1).1, 1) := congrArg (Prod.mk _) (or2_2 c245).symm
                           rw [h9] at ihk; exact ihk _)
                    · refine g_iload C dX10_works_243 rfl ?_
                      refine g_if_eq 252 C dX10_works_245 (by decide) (fun c245 => ?_) (fun c245 => ?_)
                      · refine g_iconst (v := 0) C dX10_works_252 (by decide) ?_
                        refine g_istore_1 C dX10_works_253 (by decide) ?_
                        refine g_iinc_3 C dX10_works_254 (nI_1 (12 * p + k)) (by decide) ?_
                        refine g_goto 207 C dX10_works_257 (by decide) ?_
                        first
                          | (have h9 : it (goL P (wS P n (I 104) F).2 p) (k + 1) (it (goP P (wS P n (I 104) F).2 (wA P n F)) p (s, 0)) = ((goF P (wS P n (I 104) F).2 p k (it (goL P (wS P n (I 104) F).2 p) k (it (goP P (wS P n (I 104) F).2 (wA P n F)) p (s, 0))).1).1, 0) := congrArg (Prod.mk _) (or2_0 c240 c245).symm
                             rw [h9] at ihk; exact ihk _)
                          | (have h9 : it (goL P (wS P n (I 104) F).2 p) (k + 1) (it (goP P (wS P n (I 104) F).2 (wA P n F)) p (s, 0)) = ((goF P (wS P n (I 104) F).2 p k (it (goL P (wS P n (I 104) F).2 p) k (it (goP P (wS P n (I 104) F).2 (wA P n F)) p (s, 0))).1).1, 1) := congrArg (Prod.mk _) (or2_1 c240).symm
                             rw [h9] at ihk; exact ihk _)
                          | (have h9 : it (goL P (wS P n (I 104) F).2 p) (k + 1) (it (goP P (wS P n (I 104) F).2 (wA P n F)) p (s, 0)) = ((goF P (wS P n (I 104) F).2 p k (it (goL P (wS P n (I 104) F).2 p) k (it (goP P (wS P n (I 104) F).2 (wA P n F)) p (s, 0))).1).1, 1) := congrArg (Prod.mk _) (or2_2 c245).symm
                             rw [h9] at ihk; exact ihk _)
                      · refine g_iconst (v := 1) C dX10_works_248 (by decide) ?_
                        refine g_goto 253 C dX10_works_249 (by decide) ?_
                        refine g_istore_1 C dX10_works_253 (by decide) ?_
                        refine g_iinc_3 C dX10_works_254 (nI_1 (12 * p + k)) (by decide) ?_
                        refine g_goto 207 C dX10_works_257 (by decide) ?_
                        first
                          | (have h9 : it (goL P (wS P n (I 104) F).2 p) (k + 1) (it (goP P (wS P n (I 104) F).2 (wA P n F)) p (s, 0)) = ((goF P (wS P n (I 104) F).2 p k (it (goL P (wS P n (I 104) F).2 p) k (it (goP P (wS P n (I 104) F).2 (wA P n F)) p (s, 0))).1).1, 0) := congrArg (Prod.mk _) (or2_0 c240 c245).symm
                             rw [h9] at ihk; exact ihk _)
                          | (have h9 : it (goL P (wS P n (I 104) F).2 p) (k + 1) (it (goP P (wS P n (I 104) F).2 (wA P n F)) p (s, 0)) = ((goF P (wS P n (I 104) F).2 p k (it (goL P (wS P n (I 104) F).2 p) k (it (goP P (wS P n (I 104) F).2 (wA P n F)) p (s, 0))).1).1, 1) := congrArg (Prod.mk _) (or2_1 c240).symm
                             rw [h9] at ihk; exact ihk _)
                          | (have h9 : it (goL P (wS P n (I 104) F).2 p) (k + 1) (it (goP P (wS P n (I 104) F).2 (wA P n F)) p (s, 0)) = ((goF P (wS P n (I 104) F).2 p k (it (goL P (wS P n (I 104) F).2 p) k (it (goP P (wS P n (I 104) F).2 (wA P n F)) p (s, 0))).1).1, 1) := congrArg (Prod.mk _) (or2_2 c245).symm
                             rw [h9] at ihk; exact ihk _)
            exact inner 0 (Nat.zero_le _) _
      refine g_iload_n C dX10_works_186 rfl ?_
      refine g_if_eq 269 C dX10_works_187 (by decide) (fun c187 => ?_) (fun c187 => ?_)
      · exact absurd c187 hv
      · refine g_iconst (v := 0) C dX10_works_190 (by decide) ?_
        refine g_istore_1 C dX10_works_191 (by decide) ?_
        refine g_iconst (v := 0) C dX10_works_192 (by decide) ?_
        refine g_istore_2 C dX10_works_193 (by decide) ?_
        exact lp 0 (Nat.zero_le _) _ _
  have l3 : ∀ p : Nat, p ≤ n → ∀ a2 a3 a4 : Value, Go X G 5 0 0 (KQ X G iX10_works (RetV (mm (wkF I P n F F2) J)) noT) 55 [.ref (G.1 + 103), .int (nI p), a2, a3, a4] [] (mm (wkM I (wA P n F) (it (sdP P (I 104) (wA P n F)) p (zr, zr)).1 (it (sdP P (I 104) (wA P n F)) p (zr, zr)).2 zr lk) J) := by
    refine loopN (n) ?_ ?_
    · intro a2 a3 a4
      show Go X G 5 0 0 _ 55 _ [] _
      refine g_iload_n C dX10_works_55 rfl ?_
      refine g_aload_n C dX10_works_56 rfl ?_
      refine g_getIv (ci := 10) (k := 4) (v := nI n) C dX10_works_57 rfl inGX10 (by decide) fwX10_86 ly_103 (by decide) rfl (by rw [wk_off (Or.inl (by decide))]; exact hn) ?_
      refine g_icmp_ge 184 C dX10_works_60 (by decide) (fun c60 => ?_) (fun c60 => ?_)
      · refine g_iconst (v := 1) C dX10_works_184 (by decide) ?_
        refine g_istore_1 C dX10_works_185 (by decide) ?_
        exact lw F2 ((wS P n (I 104) F).1, zr) 1 (by decide) hE2 rfl _ _ _
      · exact absurd (Int32.le_refl _) c60
    · intro p hp ihp a2 a3 a4
      show Go X G 5 0 0 _ 55 _ [] _
      refine g_iload_n C dX10_works_55 rfl ?_
      refine g_aload_n C dX10_works_56 rfl ?_
      refine g_getIv (ci := 10) (k := 4) (v := nI n) C dX10_works_57 rfl inGX10 (by decide) fwX10_86 ly_103 (by decide) rfl (by rw [wk_off (Or.inl (by decide))]; exact hn) ?_
      refine g_icmp_ge 184 C dX10_works_60 (by decide) (fun c60 => ?_) (fun c60 => ?_)
      · exact (nI_ge_dead (n := n) c60 hp (by omega)).elim
      · refine g_bipush (v := 12) C dX10_works_63 (by decide) ?_
        refine g_iload_n C dX10_works_65 rfl ?_
        refine g_imul C dX10_works_66 ?_
        rw [mul12]
        refine g_istore_2 C dX10_works_67 (by decide) ?_
        by_cases hA : (wA P n F) p = 0
        · refine g_iload_n C dX10_works_68 rfl ?_
          refine g_bipush (v := 12) C dX10_works_69 (by decide) ?_
          refine g_iload_n C dX10_works_71 rfl ?_
          refine g_imul C dX10_works_72 ?_
          rw [mul12]
          refine g_aload_n C dX10_works_73 rfl ?_
          refine g_getR (ci := 10) (k := 6) (q := 105) C dX10_works_74 rfl inGX10 (by decide) fwX10_17 ly_103 (by decide) rfl rfl ?_
          refine g_iload_n C dX10_works_77 rfl ?_
          refine g_ialdv (v := nI (P.ml p)) p C dX10_works_78 ly_105 (by decide) (by decide) rfl (show p < 11 by omega) (by rw [wk_off (Or.inl (by decide))]; exact hml p hp) ?_
          refine g_iadd C dX10_works_79 ?_
          rw [nI_add]
          refine g_icmp_ge 178 C dX10_works_80 (by decide) (fun c80 => ?_) (fun c80 => ?_)
          · skip
            refine g_iinc_1 C dX10_works_178 (nI_1 p) (by decide) ?_
            refine g_goto 55 C dX10_works_181 (by decide) ?_
            have h9 : it (sdP P (I 104) (wA P n F)) (p + 1) (zr, zr) = (it (sdP P (I 104) (wA P n F)) p (zr, zr)) := if_pos hA
            rw [h9] at ihp
            exact ihp _ _ _
          · skip
            refine g_aload_n C dX10_works_83 rfl ?_
            refine g_getR (ci := 10) (k := 27) (q := 118) C dX10_works_84 rfl inGX10 (by decide) fwX10_61 ly_103 (by decide) rfl rfl ?_
            refine g_iload_n C dX10_works_87 rfl ?_
            refine g_zald _ C dX10_works_88 ly_118 (by decide) (by decide) rfl (show p < 10 by omega) ?_
            refine g_if_eq 178 C dX10_works_89 (by decide) (fun c89 => ?_) (fun c89 => ?_)
            · refine g_iinc_1 C dX10_works_178 (nI_1 p) (by decide) ?_
              refine g_goto 55 C dX10_works_181 (by decide) ?_
              have h9 : it (sdP P (I 104) (wA P n F)) (p + 1) (zr, zr) = (it (sdP P (I 104) (wA P n F)) p (zr, zr)) := if_pos hA
              rw [h9] at ihp
              exact ihp _ _ _
            · exact absurd ((wk_118 (show p < 10 by omega)).trans hA) c89
        have inner : ∀ k : Nat, k ≤ P.ml p → Go X G 5 0 0 (KQ X G iX10_works (RetV (mm (wkF I P n F F2) J)) noT) 68 [.ref (G.1 + 103), .int (nI p), .int (nI (12 * p + k)), a3, a4] [] (mm (wkM I (wA P n F) (it (sdL P (I 104) p) k (it (sdP P (I 104) (wA P n F)) p (zr, zr))).1 (it (sdL P (I 104) p) k (it (sdP P (I 104) (wA P n F)) p (zr, zr))).2 zr lk) J) := by
          refine loopN (P.ml p) ?_ ?_
          · skip
            show Go X G 5 0 0 _ 68 _ [] _
            have hm12 := hok.2.1 p
            refine g_iload_n C dX10_works_68 rfl ?_
            refine g_bipush (v := 12) C dX10_works_69 (by decide) ?_
            refine g_iload_n C dX10_works_71 rfl ?_
            refine g_imul C dX10_works_72 ?_
            rw [mul12]
            refine g_aload_n C dX10_works_73 rfl ?_
            refine g_getR (ci := 10) (k := 6) (q := 105) C dX10_works_74 rfl inGX10 (by decide) fwX10_17 ly_103 (by decide) rfl rfl ?_
            refine g_iload_n C dX10_works_77 rfl ?_
            refine g_ialdv (v := nI (P.ml p)) p C dX10_works_78 ly_105 (by decide) (by decide) rfl (show p < 11 by omega) (by rw [wk_off (Or.inl (by decide))]; exact hml p hp) ?_
            refine g_iadd C dX10_works_79 ?_
            rw [nI_add]
            refine g_icmp_ge 178 C dX10_works_80 (by decide) (fun c80 => ?_) (fun c80 => ?_)
            · refine g_iinc_1 C dX10_works_178 (nI_1 p) (by decide) ?_
              refine g_goto 55 C dX10_works_181 (by decide) ?_
              have h9 : it (sdP P (I 104) (wA P n F)) (p + 1) (zr, zr) = it (sdL P (I 104) p) (P.ml p) (it (sdP P (I 104) (wA P n F)) p (zr, zr)) := if_neg hA
              rw [h9] at ihp
              exact ihp _ _ _
            · exact absurd (Int32.le_refl _) c80
          · intro k hk ihk 
            show Go X G 5 0 0 _ 68 _ [] _
            have hL := hli p hp k hk
            have hLo := hok.2.2 p hp k hk
            have hm12 := hok.2.1 p
            refine g_iload_n C dX10_works_68 rfl ?_
            refine g_bipush (v := 12) C dX10_works_69 (by decide) ?_
            refine g_iload_n C dX10_works_71 rfl ?_
            refine g_imul C dX10_works_72 ?_
            rw [mul12]
            refine g_aload_n C dX10_works_73 rfl ?_
            refine g_getR (ci := 10) (k := 6) (q := 105) C dX10_works_74 rfl inGX10 (by decide) fwX10_17 ly_103 (by decide) rfl rfl ?_
            refine g_iload_n C dX10_works_77 rfl ?_
            refine g_ialdv (v := nI (P.ml p)) p C dX10_works_78 ly_105 (by decide) (by decide) rfl (show p < 11 by omega) (by rw [wk_off (Or.inl (by decide))]; exact hml p hp) ?_
            refine g_iadd C dX10_works_79 ?_
            rw [nI_add]
            refine g_icmp_ge 178 C dX10_works_80 (by decide) (fun c80 => ?_) (fun c80 => ?_)
            · exact (nI_ge_dead (n := 12 * p + P.ml p) c80 (by omega) (by omega)).elim
            · refine g_aload_n C dX10_works_83 rfl ?_
              refine g_getR (ci := 10) (k := 27) (q := 118) C dX10_works_84 rfl inGX10 (by decide) fwX10_61 ly_103 (by decide) rfl rfl ?_
              refine g_iload_n C dX10_works_87 rfl ?_
              refine g_zald _ C dX10_works_88 ly_118 (by decide) (by decide) rfl (show p < 10 by omega) ?_
              refine g_if_eq 178 C dX10_works_89 (by decide) (fun c89 => ?_) (fun c89 => ?_)
              · exact absurd ((wk_118 (show p < 10 by omega)).symm.trans c89) hA
              · refine g_aload_n C dX10_works_92 rfl ?_
                refine g_getR (ci := 10) (k := 8) (q := 107) C dX10_works_93 rfl inGX10 (by decide) fwX10_23 ly_103 (by decide) rfl rfl ?_
                refine g_iload_n C dX10_works_96 rfl ?_
                refine g_ialdv (v := nI (P.kd p k)) (12 * p + k) C dX10_works_97 ly_107 (by decide) (by decide) rfl (show 12 * p + k < 132 by omega) (by rw [wk_off (Or.inl (by decide))]; exact hL.1) ?_
                refine g_iconst (v := 4) C dX10_works_98 (by decide) ?_
                refine g_icmp_ne 129 C dX10_works_99 (by decide) (fun c99 => ?_) (fun c99 => ?_)
                · have g99 : ¬ P.kd p k = 4 := fun q => c99 (by rw [q]; rfl)
                  try rw [wk_up115 (show (8 * p + P.fs p k) < 80 by omega)]
                  refine g_aload_n C dX10_works_129 rfl ?_
                  refine g_getR (ci := 10) (k := 8) (q := 107) C dX10_works_130 rfl inGX10 (by decide) fwX10_23 ly_103 (by decide) rfl rfl ?_
                  refine g_iload_n C dX10_works_133 rfl ?_
                  refine g_ialdv (v := nI (P.kd p k)) (12 * p + k) C dX10_works_134 ly_107 (by decide) (by decide) rfl (show 12 * p + k < 132 by omega) (by rw [wk_off (Or.inl (by decide))]; exact hL.1) ?_
                  refine g_if_ne 172 C dX10_works_135 (by decide) (fun c135 => ?_) (fun c135 => ?_)
                  · have g135 : ¬ P.kd p k = 0 := fun q => c135 (by rw [q]; rfl)
                    refine g_iinc_2 C dX10_works_172 (nI_1 (12 * p + k)) (by decide) ?_
                    refine g_goto 68 C dX10_works_175 (by decide) ?_
                    first
                      | (exact absurd (g99.symm.trans g135) (by decide))
                      | (have h9 : it (sdL P (I 104) p) (k + 1) (it (sdP P (I 104) (wA P n F)) p (zr, zr)) = _ := if_pos g99
                         rw [h9] at ihk; exact ihk)
                      | (have h9 : it (sdL P (I 104) p) (k + 1) (it (sdP P (I 104) (wA P n F)) p (zr, zr)) = _ := (if_neg g99).trans (if_pos g135)
                         rw [h9] at ihk; rw [wk_up114 (show (8 * p + P.fs p k) < 80 by omega)]; exact ihk)
                      | (have h9 : it (sdL P (I 104) p) (k + 1) (it (sdP P (I 104) (wA P n F)) p (zr, zr)) = _ := (if_neg g99).trans (if_neg g135)
                         rw [h9] at ihk; exact ihk)
                  · have g135 : P.kd p k = 0 := (nI_eq (b := 0) (by omega) (by decide)).mp c135
                    refine g_aload_n C dX10_works_138 rfl ?_
                    refine g_getR (ci := 10) (k := 23) (q := 114) C dX10_works_139 rfl inGX10 (by decide) fwX10_49 ly_103 (by decide) rfl rfl ?_
                    refine g_bipush (v := 8) C dX10_works_142 (by decide) ?_
                    refine g_iload_n C dX10_works_144 rfl ?_
                    refine g_imul C dX10_works_145 ?_
                    rw [mul8]
                    refine g_aload_n C dX10_works_146 rfl ?_
                    refine g_getR (ci := 10) (k := 10) (q := 109) C dX10_works_147 rfl inGX10 (by decide) fwX10_29 ly_103 (by decide) rfl rfl ?_
                    refine g_iload_n C dX10_works_150 rfl ?_
                    refine g_ialdv (v := nI (P.fs p k)) (12 * p + k) C dX10_works_151 ly_109 (by decide) (by decide) rfl (show 12 * p + k < 132 by omega) (by rw [wk_off (Or.inl (by decide))]; exact hL.2.2.1) ?_
                    refine g_iadd C dX10_works_152 ?_
                    rw [nI_add]
                    refine g_dup2 C dX10_works_153 rfl rfl ?_
                    refine g_ialdv (v := (it (sdL P (I 104) p) k (it (sdP P (I 104) (wA P n F)) p (zr, zr))).1 (8 * p + P.fs p k)) (8 * p + P.fs p k) C dX10_works_154 ly_114 (by decide) (by decide) rfl (show (8 * p + P.fs p k) < 80 by omega) (wk_114 (by omega)) ?_
                    refine g_aload_n C dX10_works_155 rfl ?_
                    refine g_getR (ci := 10) (k := 5) (q := 104) C dX10_works_156 rfl inGX10 (by decide) fwX10_13 ly_103 (by decide) rfl rfl ?_
                    refine g_iload_n C dX10_works_159 rfl ?_
                    refine g_ialdv (v := I 104 p) p C dX10_works_160 ly_104 (by decide) (by decide) rfl (show p < 10 by omega) (by rw [wk_off (Or.inl (by decide))]) ?_
                    refine g_iconst (v := 1) C dX10_works_161 (by decide) ?_
                    refine g_aload_n C dX10_works_162 rfl ?_
                    refine g_getR (ci := 10) (k := 9) (q := 108) C dX10_works_163 rfl inGX10 (by decide) fwX10_26 ly_103 (by decide) rfl rfl ?_
                    refine g_iload_n C dX10_works_166 rfl ?_
                    refine g_ialdv (v := nI (P.nu p k)) (12 * p + k) C dX10_works_167 ly_108 (by decide) (by decide) rfl (show 12 * p + k < 132 by omega) (by rw [wk_off (Or.inl (by decide))]; exact hL.2.1) ?_
                    refine g_ishl C dX10_works_168 ?_
                    refine g_iand C dX10_works_169 ?_
                    refine g_ior C dX10_works_170 ?_
                    refine g_iast (8 * p + P.fs p k) C dX10_works_171 ly_114 (by decide) (by decide) rfl (show (8 * p + P.fs p k) < 80 by omega) ?_
                    refine g_iinc_2 C dX10_works_172 (nI_1 (12 * p + k)) (by decide) ?_
                    refine g_goto 68 C dX10_works_175 (by decide) ?_
                    first
                      | (exact absurd (g99.symm.trans g135) (by decide))
                      | (have h9 : it (sdL P (I 104) p) (k + 1) (it (sdP P (I 104) (wA P n F)) p (zr, zr)) = _ := if_pos g99
                         rw [h9] at ihk; exact ihk)
                      | (have h9 : it (sdL P (I 104) p) (k + 1) (it (sdP P (I 104) (wA P n F)) p (zr, zr)) = _ := (if_neg g99).trans (if_pos g135)
                         rw [h9] at ihk; rw [wk_up114 (show (8 * p + P.fs p k) < 80 by omega)]; exact ihk)
                      | (have h9 : it (sdL P (I 104) p) (k + 1) (it (sdP P (I 104) (wA P n F)) p (zr, zr)) = _ := (if_neg g99).trans (if_neg g135)
                         rw [h9] at ihk; exact ihk)
                · have g99 : P.kd p k = 4 := (nI_eq (b := 4) (by omega) (by decide)).mp c99
                  refine g_aload_n C dX10_works_102 rfl ?_
                  refine g_getR (ci := 10) (k := 24) (q := 115) C dX10_works_103 rfl inGX10 (by decide) fwX10_52 ly_103 (by decide) rfl rfl ?_
                  refine g_bipush (v := 8) C dX10_works_106 (by decide) ?_
                  refine g_iload_n C dX10_works_108 rfl ?_
                  refine g_imul C dX10_works_109 ?_
                  rw [mul8]
                  refine g_aload_n C dX10_works_110 rfl ?_
                  refine g_getR (ci := 10) (k := 10) (q := 109) C dX10_works_111 rfl inGX10 (by decide) fwX10_29 ly_103 (by decide) rfl rfl ?_
                  refine g_iload_n C dX10_works_114 rfl ?_
                  refine g_ialdv (v := nI (P.fs p k)) (12 * p + k) C dX10_works_115 ly_109 (by decide) (by decide) rfl (show 12 * p + k < 132 by omega) (by rw [wk_off (Or.inl (by decide))]; exact hL.2.2.1) ?_
                  refine g_iadd C dX10_works_116 ?_
                  rw [nI_add]
                  refine g_dup2 C dX10_works_117 rfl rfl ?_
                  refine g_ialdv (v := (it (sdL P (I 104) p) k (it (sdP P (I 104) (wA P n F)) p (zr, zr))).2 (8 * p + P.fs p k)) (8 * p + P.fs p k) C dX10_works_118 ly_115 (by decide) (by decide) rfl (show (8 * p + P.fs p k) < 80 by omega) (wk_115 (by omega)) ?_
                  refine g_iconst (v := 1) C dX10_works_119 (by decide) ?_
                  refine g_aload_n C dX10_works_120 rfl ?_
                  refine g_getR (ci := 10) (k := 9) (q := 108) C dX10_works_121 rfl inGX10 (by decide) fwX10_26 ly_103 (by decide) rfl rfl ?_
                  refine g_iload_n C dX10_works_124 rfl ?_
                  refine g_ialdv (v := nI (P.nu p k)) (12 * p + k) C dX10_works_125 ly_108 (by decide) (by decide) rfl (show 12 * p + k < 132 by omega) (by rw [wk_off (Or.inl (by decide))]; exact hL.2.1) ?_
                  refine g_ishl C dX10_works_126 ?_
                  refine g_ior C dX10_works_127 ?_
                  refine g_iast (8 * p + P.fs p k) C dX10_works_128 ly_115 (by decide) (by decide) rfl (show (8 * p + P.fs p k) < 80 by omega) ?_
                  try rw [wk_up115 (show (8 * p + P.fs p k) < 80 by omega)]
                  refine g_aload_n C dX10_works_129 rfl ?_
                  refine g_getR (ci := 10) (k := 8) (q := 107) C dX10_works_130 rfl inGX10 (by decide) fwX10_23 ly_103 (by decide) rfl rfl ?_
                  refine g_iload_n C dX10_works_133 rfl ?_
                  refine g_ialdv (v := nI (P.kd p k)) (12 * p + k) C dX10_works_134 ly_107 (by decide) (by decide) rfl (show 12 * p + k < 132 by omega) (by rw [wk_off (Or.inl (by decide))]; exact hL.1) ?_
                  refine g_if_ne 172 C dX10_works_135 (by decide) (fun c135 => ?_) (fun c135 => ?_)
                  · have g135 : ¬ P.kd p k = 0 := fun q => c135 (by rw [q]; rfl)
                    refine g_iinc_2 C dX10_works_172 (nI_1 (12 * p + k)) (by decide) ?_
                    refine g_goto 68 C dX10_works_175 (by decide) ?_
                    first
                      | (exact absurd (g99.symm.trans g135) (by decide))
                      | (have h9 : it (sdL P (I 104) p) (k + 1) (it (sdP P (I 104) (wA P n F)) p (zr, zr)) = _ := if_pos g99
                         rw [h9] at ihk; exact ihk)
                      | (have h9 : it (sdL P (I 104) p) (k + 1) (it (sdP P (I 104) (wA P n F)) p (zr, zr)) = _ := (if_neg g99).trans (if_pos g135)
                         rw [h9] at ihk; rw [wk_up114 (show (8 * p + P.fs p k) < 80 by omega)]; exact ihk)
                      | (have h9 : it (sdL P (I 104) p) (k + 1) (it (sdP P (I 104) (wA P n F)) p (zr, zr)) = _ := (if_neg g99).trans (if_neg g135)
                         rw [h9] at ihk; exact ihk)
                  · have g135 : P.kd p k = 0 := (nI_eq (b := 0) (by omega) (by decide)).mp c135
                    refine g_aload_n C dX10_works_138 rfl ?_
                    refine g_getR (ci := 10) (k := 23) (q := 114) C dX10_works_139 rfl inGX10 (by decide) fwX10_49 ly_103 (by decide) rfl rfl ?_
                    refine g_bipush (v := 8) C dX10_works_142 (by decide) ?_
                    refine g_iload_n C dX10_works_144 rfl ?_
                    refine g_imul C dX10_works_145 ?_
                    rw [mul8]
                    refine g_aload_n C dX10_works_146 rfl ?_
                    refine g_getR (ci := 10) (k := 10) (q := 109) C dX10_works_147 rfl inGX10 (by decide) fwX10_29 ly_103 (by decide) rfl rfl ?_
                    refine g_iload_n C dX10_works_150 rfl ?_
                    refine g_ialdv (v := nI (P.fs p k)) (12 * p + k) C dX10_works_151 ly_109 (by decide) (by decide) rfl (show 12 * p + k < 132 by omega) (by rw [wk_off (Or.inl (by decide))]; exact hL.2.2.1) ?_
                    refine g_iadd C dX10_works_152 ?_
                    rw [nI_add]
                    refine g_dup2 C dX10_works_153 rfl rfl ?_
                    refine g_ialdv (v := (it (sdL P (I 104) p) k (it (sdP P (I 104) (wA P n F)) p (zr, zr))).1 (8 * p + P.fs p k)) (8 * p + P.fs p k) C dX10_works_154 ly_114 (by decide) (by decide) rfl (show (8 * p + P.fs p k) < 80 by omega) (wk_114 (by omega)) ?_
                    refine g_aload_n C dX10_works_155 rfl ?_
                    refine g_getR (ci := 10) (k := 5) (q := 104) C dX10_works_156 rfl inGX10 (by decide) fwX10_13 ly_103 (by decide) rfl rfl ?_
                    refine g_iload_n C dX10_works_159 rfl ?_
                    refine g_ialdv (v := I 104 p) p C dX10_works_160 ly_104 (by decide) (by decide) rfl (show p < 10 by omega) (by rw [wk_off (Or.inl (by decide))]) ?_
                    refine g_iconst (v := 1) C dX10_works_161 (by decide) ?_
                    refine g_aload_n C dX10_works_162 rfl ?_
                    refine g_getR (ci := 10) (k := 9) (q := 108) C dX10_works_163 rfl inGX10 (by decide) fwX10_26 ly_103 (by decide) rfl rfl ?_
                    refine g_iload_n C dX10_works_166 rfl ?_
                    refine g_ialdv (v := nI (P.nu p k)) (12 * p + k) C dX10_works_167 ly_108 (by decide) (by decide) rfl (show 12 * p + k < 132 by omega) (by rw [wk_off (Or.inl (by decide))]; exact hL.2.1) ?_
                    refine g_ishl C dX10_works_168 ?_
                    refine g_iand C dX10_works_169 ?_
                    refine g_ior C dX10_works_170 ?_
                    refine g_iast (8 * p + P.fs p k) C dX10_works_171 ly_114 (by decide) (by decide) rfl (show (8 * p + P.fs p k) < 80 by omega) ?_
                    refine g_iinc_2 C dX10_works_172 (nI_1 (12 * p + k)) (by decide) ?_
                    refine g_goto 68 C dX10_works_175 (by decide) ?_
                    first
                      | (exact absurd (g99.symm.trans g135) (by decide))
                      | (have h9 : it (sdL P (I 104) p) (k + 1) (it (sdP P (I 104) (wA P n F)) p (zr, zr)) = _ := if_pos g99
                         rw [h9] at ihk; exact ihk)
                      | (have h9 : it (sdL P (I 104) p) (k + 1) (it (sdP P (I 104) (wA P n F)) p (zr, zr)) = _ := (if_neg g99).trans (if_pos g135)
                         rw [h9] at ihk; rw [wk_up114 (show (8 * p + P.fs p k) < 80 by omega)]; exact ihk)
                      | (have h9 : it (sdL P (I 104) p) (k + 1) (it (sdP P (I 104) (wA P n F)) p (zr, zr)) = _ := (if_neg g99).trans (if_neg g135)
                         rw [h9] at ihk; exact ihk)
        exact inner 0 (Nat.zero_le _)
  have l2 : ∀ k : Nat, k ≤ 10 → ∀ a2 a3 a4 : Value, Go X G 5 0 0 (KQ X G iX10_works (RetV (mm (wkF I P n F F2) J)) noT) 34 [.ref (G.1 + 103), .int (nI k), a2, a3, a4] [] (mm (wkM I (wA P n F) zr zr (ovr zr r k) lk) J) := by
    refine loopN (10) ?_ ?_
    · intro a2 a3 a4
      show Go X G 5 0 0 _ 34 _ [] _
      refine g_iload_n C dX10_works_34 rfl ?_
      refine g_bipush (v := 10) C dX10_works_35 (by decide) ?_
      refine g_icmp_ge 53 C dX10_works_37 (by decide) (fun c37 => ?_) (fun c37 => ?_)
      · refine g_iconst (v := 0) C dX10_works_53 (by decide) ?_
        refine g_istore_1 C dX10_works_54 (by decide) ?_
        rw [show wkM I (wA P n F) zr zr (ovr zr r 10) lk = wkM I (wA P n F) zr zr zr lk from wk_eq (fun _ _ => rfl) (fun _ _ => rfl) (fun _ _ => rfl) (fun b hb => ovr_in hb) (fun _ _ => rfl)]
        exact l3 0 (Nat.zero_le _) _ _ _
      · exact absurd (Int32.le_refl _) c37
    · intro k hk ih a2 a3 a4
      show Go X G 5 0 0 _ 34 _ [] _
      refine g_iload_n C dX10_works_34 rfl ?_
      refine g_bipush (v := 10) C dX10_works_35 (by decide) ?_
      refine g_icmp_ge 53 C dX10_works_37 (by decide) (fun c37 => ?_) (fun c37 => ?_)
      · exact (nI_ge_dead (n := 10) c37 hk (by omega)).elim
      · refine g_aload_n C dX10_works_40 rfl ?_
        refine g_getR (ci := 10) (k := 25) (q := 116) C dX10_works_41 rfl inGX10 (by decide) fwX10_55 ly_103 (by decide) rfl rfl ?_
        refine g_iload_n C dX10_works_44 rfl ?_
        refine g_iconst (v := 0) C dX10_works_45 (by decide) ?_
        refine g_iast _ C dX10_works_46 ly_116 (by decide) (by decide) rfl hk ?_
        refine g_iinc_1 C dX10_works_47 (nI_1 k) (by decide) ?_
        refine g_goto 34 C dX10_works_50 (by decide) ?_
        rw [wk_up116 hk, show upd (ovr zr r k) k 0 = ovr zr r (k + 1) from ovr_up zr r k]
        exact ih _ _ _
  have l1 : ∀ k : Nat, k ≤ 80 → ∀ a2 a3 a4 : Value, Go X G 5 0 0 (KQ X G iX10_works (RetV (mm (wkF I P n F F2) J)) noT) 6 [.ref (G.1 + 103), .int (nI k), a2, a3, a4] [] (mm (wkM I (wA P n F) (ovr zr h k) (ovr zr w k) r lk) J) := by
    refine loopN (80) ?_ ?_
    · intro a2 a3 a4
      show Go X G 5 0 0 _ 6 _ [] _
      refine g_iload_n C dX10_works_6 rfl ?_
      refine g_bipush (v := 80) C dX10_works_7 (by decide) ?_
      refine g_icmp_ge 32 C dX10_works_9 (by decide) (fun c9 => ?_) (fun c9 => ?_)
      · refine g_iconst (v := 0) C dX10_works_32 (by decide) ?_
        refine g_istore_1 C dX10_works_33 (by decide) ?_
        rw [show wkM I (wA P n F) (ovr zr h 80) (ovr zr w 80) r lk = wkM I (wA P n F) zr zr r lk from wk_eq (fun _ _ => rfl) (fun b hb => ovr_in hb) (fun b hb => ovr_in hb) (fun _ _ => rfl) (fun _ _ => rfl)]
        have h0 := l2 0 (Nat.zero_le _)
        rw [ovr_0] at h0
        exact h0 _ _ _
      · exact absurd (Int32.le_refl _) c9
    · intro k hk ih a2 a3 a4
      show Go X G 5 0 0 _ 6 _ [] _
      refine g_iload_n C dX10_works_6 rfl ?_
      refine g_bipush (v := 80) C dX10_works_7 (by decide) ?_
      refine g_icmp_ge 32 C dX10_works_9 (by decide) (fun c9 => ?_) (fun c9 => ?_)
      · exact (nI_ge_dead (n := 80) c9 hk (by omega)).elim
      · refine g_aload_n C dX10_works_12 rfl ?_
        refine g_getR (ci := 10) (k := 23) (q := 114) C dX10_works_13 rfl inGX10 (by decide) fwX10_49 ly_103 (by decide) rfl rfl ?_
        refine g_iload_n C dX10_works_16 rfl ?_
        refine g_iconst (v := 0) C dX10_works_17 (by decide) ?_
        refine g_iast _ C dX10_works_18 ly_114 (by decide) (by decide) rfl hk ?_
        rw [wk_up114 hk]
        refine g_aload_n C dX10_works_19 rfl ?_
        refine g_getR (ci := 10) (k := 24) (q := 115) C dX10_works_20 rfl inGX10 (by decide) fwX10_52 ly_103 (by decide) rfl rfl ?_
        refine g_iload_n C dX10_works_23 rfl ?_
        refine g_iconst (v := 0) C dX10_works_24 (by decide) ?_
        refine g_iast _ C dX10_works_25 ly_115 (by decide) (by decide) rfl hk ?_
        refine g_iinc_1 C dX10_works_26 (nI_1 k) (by decide) ?_
        refine g_goto 6 C dX10_works_29 (by decide) ?_
        rw [wk_up115 hk, show upd (ovr zr h k) k 0 = ovr zr h (k + 1) from ovr_up zr h k, show upd (ovr zr w k) k 0 = ovr zr w (k + 1) from ovr_up zr w k]
        exact ih _ _ _
  refine g_aload_n C dX10_works_0 rfl ?_
  refine gv0V (ci := 10) C dX10_works_1 vwX10_asks mwX10_231 ⟨by decide, by decide⟩ rfl ly_103 (Nat.le_of_ble_eq_true rfl) (s_asks (F := F) ⟨hok, hn, hml, hli⟩ hE) (Nat.le_of_ble_eq_true rfl) rfl ⟨by decide, by decide⟩ ?_
  refine g_iconst (v := 0) C dX10_works_4 (by decide) ?_
  refine g_istore_1 C dX10_works_5 (by decide) ?_
  have h0 := l1 0 (Nat.zero_le _) uu uu uu
  rw [ovr_0, ovr_0] at h0
  exact h0
