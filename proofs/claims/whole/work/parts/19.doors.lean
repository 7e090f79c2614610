theorem it_congr {α : Type} {f g : Nat → α → α} : ∀ {n : Nat} {a : α}, (∀ k, k < n → ∀ a, f k a = g k a) → it f n a = it g n a
  | 0, _, _ => rfl
  | n + 1, a, h => by
    have e : it f n a = it g n a := it_congr (fun k hk a => h k (by omega) a)
    show f n (it f n a) = g n (it g n a)
    rw [e, h n (by omega)]
/-- secrets that come to a place under the grants of the row g -/
def scA (I : Nat → Nat → Int32) (n g pl : Nat) : Int32 := it (fun o a => a ||| (I (82 + o) pl &&& I g o)) n 0
theorem scA_congr {I A : Nat → Nat → Int32} {n g pl : Nat} (hn10 : n ≤ 10) (h : ∀ q, q ≠ 94 → A q = I q) (hg : g ≠ 94) : scA A n g pl = scA I n g pl := by
  unfold scA
  apply it_congr
  intro k hk a
  rw [h (82 + k) (by omega), h g hg]
/-- what comes to the doors by the part p, behind the first d doors -/
def lkD (I : Nat → Nat → Int32) (n g p : Nat) (d : Nat) (a : Nat → Int32) : Nat → Int32 := if hb (I 76 p &&& I g p) (nI d) = 0 then a else upd a d (a d ||| scA I n g (25 * p + (9 + d)))
def lkP (I : Nat → Nat → Int32) (n g : Nat) (p : Nat) (a : Nat → Int32) : Nat → Int32 := if I 76 p &&& I g p = 0 then a else it (lkD I n g p) 16 a
def lkR (I : Nat → Nat → Int32) (n g : Nat) : Nat → Int32 := it (lkP I n g) n (fun _ => 0)
def lookF (I : Nat → Nat → Int32) (n g : Nat) : Nat → Nat → Int32 := stRow I 94 16 (lkR I n g)
set_option maxHeartbeats 1000000 in
theorem s_look {l : Launch} {G : Gm} {I : Nat → Nat → Int32} {J : Nat → Nat → Int64} {n : Nat} (hn : I 3 2 = nI n) (hn10 : n ≤ 10) {g : Nat} (hg : lay g = (1, 10)) (hg2 : g < 125) (hg94 : g ≠ 94) : Sp l G iX0_look [.ref (G.1 + 92), .ref (G.1 + g)] (mm I J) (RetV (mm (lookF I n g) J)) noT := by
  refine Sp.of (by decide +kernel) (Nat.le_of_ble_eq_true rfl) ?_
  intro X hXl C
  subst hXl
  show Go X G 5 0 0 _ 0 [.ref (G.1 + 92), .ref (G.1 + g), uu, uu, uu] [] (mm I J)
  have lp : ∀ p : Nat, p ≤ n → ∀ a3 a4 : Value, Go X G 5 0 0 (KQ X G iX0_look (RetV (mm (lookF I n g) J)) noT) 10 [.ref (G.1 + 92), .ref (G.1 + g), .int (nI p), a3, a4] [] (mm (stRow I 94 16 (it (lkP I n g) p (fun _ => 0))) J) := by
    refine loopN (n) ?_ ?_
    · intro a3 a4
      show Go X G 5 0 0 _ 10 _ [] _
      refine g_iload_n C dX0_look_10 rfl ?_
      refine g_aload_n C dX0_look_11 rfl ?_
      refine g_getR (ci := 0) (k := 0) (q := 3) C dX0_look_12 rfl inGX0 (by decide) fwX0_18 ly_92 (by decide) rfl rfl ?_
      refine g_getIv (ci := 2) (k := 2) (v := nI n) C dX0_look_15 rfl inGX2 (by decide) fwX0_32 ly_3 (by decide) rfl (by rw [stRow_off (by decide)]; exact hn) ?_
      refine g_icmp_ge 97 C dX0_look_18 (by decide) (fun c18 => ?_) (fun c18 => ?_)
      · exact e_V C dX0_look_97 rfl rfl rfl rfl
      · exact absurd (Int32.le_refl _) c18
    · intro p hp ihp a3 a4
      show Go X G 5 0 0 _ 10 _ [] _
      refine g_iload_n C dX0_look_10 rfl ?_
      refine g_aload_n C dX0_look_11 rfl ?_
      refine g_getR (ci := 0) (k := 0) (q := 3) C dX0_look_12 rfl inGX0 (by decide) fwX0_18 ly_92 (by decide) rfl rfl ?_
      refine g_getIv (ci := 2) (k := 2) (v := nI n) C dX0_look_15 rfl inGX2 (by decide) fwX0_32 ly_3 (by decide) rfl (by rw [stRow_off (by decide)]; exact hn) ?_
      refine g_icmp_ge 97 C dX0_look_18 (by decide) (fun c18 => ?_) (fun c18 => ?_)
      · exact (nI_ge_dead (n := n) c18 hp (by omega)).elim
      · refine g_aload_n C dX0_look_21 rfl ?_
        refine g_getR (ci := 0) (k := 1) (q := 73) C dX0_look_22 rfl inGX0 (by decide) fwX0_22 ly_92 (by decide) rfl rfl ?_
        refine g_getR (ci := 1) (k := 3) (q := 76) C dX0_look_25 rfl inGX1 (by decide) fwX0_38 ly_73 (by decide) rfl rfl ?_
        refine g_iload_n C dX0_look_28 rfl ?_
        refine g_ialdv (v := I 76 p) _ C dX0_look_29 ly_76 (by decide) (by decide) rfl (show p < 10 by omega) (by rw [stRow_off (by decide)]) ?_
        refine g_aload_n C dX0_look_30 rfl ?_
        refine g_iload_n C dX0_look_31 rfl ?_
        refine g_ialdv (v := I g p) _ C dX0_look_32 hg hg2 (by decide) rfl (show p < 10 by omega) (by rw [stRow_off hg94]) ?_
        refine g_iand C dX0_look_33 ?_
        refine g_istore_3 C dX0_look_34 (by decide) ?_
        by_cases g30 : I 76 p &&& I g p = 0
        · refine g_iconst (v := 0) C dX0_look_35 (by decide) ?_
          refine g_istore_4 C dX0_look_36 (by decide) ?_
          refine g_iload C dX0_look_38 rfl ?_
          refine g_bipush (v := 16) C dX0_look_40 (by decide) ?_
          refine g_icmp_ge 91 C dX0_look_42 (by decide) (fun c42 => ?_) (fun c42 => ?_)
          · exact absurd c42 (by decide)
          · refine g_iload_n C dX0_look_45 rfl ?_
            refine g_if_eq 91 C dX0_look_46 (by decide) (fun c46 => ?_) (fun c46 => ?_)
            · refine g_iinc_2 C dX0_look_91 (nI_1 p) (by decide) ?_
              refine g_goto 10 C dX0_look_94 (by decide) ?_
              have h9 : it (lkP I n g) (p + 1) (fun _ => 0) = (it (lkP I n g) p (fun _ => 0)) := if_pos g30
              rw [h9] at ihp
              exact ihp _ _
            · exact absurd g30 c46
        have inner : ∀ d : Nat, d ≤ 16 → Go X G 5 0 0 (KQ X G iX0_look (RetV (mm (lookF I n g) J)) noT) 38 [.ref (G.1 + 92), .ref (G.1 + g), .int (nI p), .int (I 76 p &&& I g p), .int (nI d)] [] (mm (stRow I 94 16 (it (lkD I n g p) d (it (lkP I n g) p (fun _ => 0)))) J) := by
          refine loopN (16) ?_ ?_
          · skip
            show Go X G 5 0 0 _ 38 _ [] _
            refine g_iload C dX0_look_38 rfl ?_
            refine g_bipush (v := 16) C dX0_look_40 (by decide) ?_
            refine g_icmp_ge 91 C dX0_look_42 (by decide) (fun c42 => ?_) (fun c42 => ?_)
            · refine g_iinc_2 C dX0_look_91 (nI_1 p) (by decide) ?_
              refine g_goto 10 C dX0_look_94 (by decide) ?_
              have h9 : it (lkP I n g) (p + 1) (fun _ => 0) = it (lkD I n g p) 16 (it (lkP I n g) p (fun _ => 0)) := if_neg g30
              rw [h9] at ihp
              exact ihp _ _
            · exact absurd (Int32.le_refl _) c42
          · intro d hd ihd 
            show Go X G 5 0 0 _ 38 _ [] _
            refine g_iload C dX0_look_38 rfl ?_
            refine g_bipush (v := 16) C dX0_look_40 (by decide) ?_
            refine g_icmp_ge 91 C dX0_look_42 (by decide) (fun c42 => ?_) (fun c42 => ?_)
            · exact (nI_ge_dead (n := 16) c42 hd (by omega)).elim
            · refine g_iload_n C dX0_look_45 rfl ?_
              refine g_if_eq 91 C dX0_look_46 (by decide) (fun c46 => ?_) (fun c46 => ?_)
              · exact absurd c46 g30
              · refine g_iload_n C dX0_look_49 rfl ?_
                refine g_iload C dX0_look_50 rfl ?_
                refine gn2I C dX0_look_52 swX8_hasBit (by decide +kernel) ⟨by decide, by decide⟩ (s_hasBit _ _) (Nat.le_of_ble_eq_true rfl) rfl ⟨by decide, by decide⟩ ?_
                refine g_if_eq 85 C dX0_look_55 (by decide) (fun c55 => ?_) (fun c55 => ?_)
                · refine g_iinc_4 C dX0_look_85 (nI_1 d) (by decide) ?_
                  refine g_goto 38 C dX0_look_88 (by decide) ?_
                  first
                    | (simp only [it, lkD, if_pos c55] at ihd; exact ihd)
                    | (simp only [it, lkD, if_neg c55] at ihd; rw [stRow_up hd]; exact ihd)
                · refine g_aload_n C dX0_look_58 rfl ?_
                  refine g_getR (ci := 0) (k := 3) (q := 94) C dX0_look_59 rfl inGX0 (by decide) fwX0_15 ly_92 (by decide) rfl rfl ?_
                  refine g_iload C dX0_look_62 rfl ?_
                  refine g_dup2 C dX0_look_64 rfl rfl ?_
                  refine g_ialdv (v := it (lkD I n g p) d (it (lkP I n g) p (fun _ => 0)) d) _ C dX0_look_65 ly_94 (by decide) (by decide) rfl hd (stRow_in hd) ?_
                  refine g_aload_n C dX0_look_66 rfl ?_
                  refine g_getR (ci := 0) (k := 1) (q := 73) C dX0_look_67 rfl inGX0 (by decide) fwX0_22 ly_92 (by decide) rfl rfl ?_
                  refine g_iload_n C dX0_look_70 rfl ?_
                  refine g_bipush (v := 9) C dX0_look_71 (by decide) ?_
                  refine g_iload C dX0_look_73 rfl ?_
                  refine g_iadd C dX0_look_75 ?_
                  rw [show (9 : Int32) + nI d = nI (9 + d) from nI_add 9 d]
                  refine gn2I C dX0_look_76 swX8_spot (by decide +kernel) ⟨by decide, by decide⟩ (s_spotN _ _) (Nat.le_of_ble_eq_true rfl) rfl ⟨by decide, by decide⟩ ?_
                  refine g_aload_n C dX0_look_79 rfl ?_
                  refine gv2I (ci := 1) C dX0_look_80 vwX1_secretsAt mwX0_51 ⟨by decide, by decide⟩ rfl ly_73 (Nat.le_of_ble_eq_true rfl) (s_secretsAt (n := n) (by rw [stRow_off (by decide)]; exact hn) hn10 (show 25 * p + (9 + d) < 250 by omega) hg hg2) (Nat.le_of_ble_eq_true rfl) rfl ⟨by decide, by decide⟩ ?_
                  rw [show it (fun o a => a ||| (stRow I 94 16 (it (lkD I n g p) d (it (lkP I n g) p (fun _ => 0))) (82 + o) (25 * p + (9 + d)) &&& stRow I 94 16 (it (lkD I n g p) d (it (lkP I n g) p (fun _ => 0))) g o)) n 0 = scA I n g (25 * p + (9 + d)) from scA_congr hn10 (fun q hq => stRow_off hq) hg94]
                  refine g_ior C dX0_look_83 ?_
                  refine g_iast _ C dX0_look_84 ly_94 (by decide) (by decide) rfl hd ?_
                  refine g_iinc_4 C dX0_look_85 (nI_1 d) (by decide) ?_
                  refine g_goto 38 C dX0_look_88 (by decide) ?_
                  first
                    | (simp only [it, lkD, if_pos c55] at ihd; exact ihd)
                    | (simp only [it, lkD, if_neg c55] at ihd; rw [stRow_up hd]; exact ihd)
        refine g_iconst (v := 0) C dX0_look_35 (by decide) ?_
        refine g_istore_4 C dX0_look_36 (by decide) ?_
        exact inner 0 (Nat.zero_le _)
  refine g_aload_n C dX0_look_0 rfl ?_
  refine g_getR (ci := 0) (k := 3) (q := 94) C dX0_look_1 rfl inGX0 (by decide) fwX0_15 ly_92 (by decide) rfl rfl ?_
  refine g_iconst (v := 0) C dX0_look_4 (by decide) ?_
  refine gs2V C dX0_look_5 swJ7_fill_53178 mwX0_26 ⟨by decide, by decide⟩ (s_fill ly_94 (by decide) (by decide) _) (Nat.le_of_ble_eq_true rfl) rfl ⟨by decide, by decide⟩ ?_
  refine g_iconst (v := 0) C dX0_look_8 (by decide) ?_
  refine g_istore_2 C dX0_look_9 (by decide) ?_
  exact lp 0 (Nat.zero_le _) _ _
/-- the i-th misuse, the search at place q, b found before -/
def mAt (w : Nat → Int32) (i : Int32) : Nat → Nat → Int32 → Int32
  | 0, _, _ => -1
  | f + 1, q, b => if hb (w (q % 16)) (nI (q / 16)) = 0 then mAt w i f (q + 1) b else if b = i then 100 * nI (q / 16) + nI (q % 16) else mAt w i f (q + 1) (b + 1)
def msw (I : Nat → Nat → Int32) (d : Nat) : Int32 := I 94 d &&& (I 93 d ^^^ (-1))
set_option maxHeartbeats 1000000 in
theorem s_misuseAt {l : Launch} {G : Gm} {I : Nat → Nat → Int32} {J : Nat → Nat → Int64} (i : Int32) : Sp l G iX0_misuseAt [.ref (G.1 + 92), .int i] (mm I J) (RetI (mAt (msw I) i 256 0 0) (mm I J)) noT := by
  refine Sp.of (by decide +kernel) (Nat.le_of_ble_eq_true rfl) ?_
  intro X hXl C
  subst hXl
  show Go X G 5 0 0 _ 0 [.ref (G.1 + 92), .int i, uu, uu, uu] [] (mm I J)
  have lp : ∀ s : Nat, s ≤ 16 → ∀ (b : Int32) (a4 : Value), mAt (msw I) i (256 - 16 * s) (16 * s) b = mAt (msw I) i 256 0 0 → Go X G 5 0 0 (KQ X G iX0_misuseAt (RetI (mAt (msw I) i 256 0 0) (mm I J)) noT) 4 [.ref (G.1 + 92), .int i, .int b, .int (nI s), a4] [] (mm I J) := by
    refine loopN (16) ?_ ?_
    · intro b a4 hf
      show Go X G 5 0 0 _ 4 _ [] _
      refine g_iload_n C dX0_misuseAt_4 rfl ?_
      refine g_bipush (v := 16) C dX0_misuseAt_5 (by decide) ?_
      refine g_icmp_ge 72 C dX0_misuseAt_7 (by decide) (fun c7 => ?_) (fun c7 => ?_)
      · refine g_iconst (v := (-1)) C dX0_misuseAt_72 (by decide) ?_
        exact e_I C dX0_misuseAt_73 rfl rfl rfl hf rfl
      · exact absurd (Int32.le_refl _) c7
    · intro s hs ihs b a4 hf
      show Go X G 5 0 0 _ 4 _ [] _
      have inner : ∀ d : Nat, d ≤ 16 → ∀ b : Int32, mAt (msw I) i (256 - 16 * s - d) (16 * s + d) b = mAt (msw I) i 256 0 0 → Go X G 5 0 0 (KQ X G iX0_misuseAt (RetI (mAt (msw I) i 256 0 0) (mm I J)) noT) 13 [.ref (G.1 + 92), .int i, .int b, .int (nI s), .int (nI d)] [] (mm I J) := by
        refine loopN (16) ?_ ?_
        · intro b hf
          show Go X G 5 0 0 _ 13 _ [] _
          refine g_iload C dX0_misuseAt_13 rfl ?_
          refine g_bipush (v := 16) C dX0_misuseAt_15 (by decide) ?_
          refine g_icmp_ge 66 C dX0_misuseAt_17 (by decide) (fun c17 => ?_) (fun c17 => ?_)
          · refine g_iinc_3 C dX0_misuseAt_66 (nI_1 s) (by decide) ?_
            refine g_goto 4 C dX0_misuseAt_69 (by decide) ?_
            exact ihs _ _ (by rw [show 256 - 16 * (s + 1) = 256 - 16 * s - 16 by omega, show 16 * (s + 1) = 16 * s + 16 by omega]; exact hf)
          · exact absurd (Int32.le_refl _) c17
        · intro d hd ihd b hf
          show Go X G 5 0 0 _ 13 _ [] _
          refine g_iload C dX0_misuseAt_13 rfl ?_
          refine g_bipush (v := 16) C dX0_misuseAt_15 (by decide) ?_
          refine g_icmp_ge 66 C dX0_misuseAt_17 (by decide) (fun c17 => ?_) (fun c17 => ?_)
          · exact (nI_ge_dead (n := 16) c17 hd (by omega)).elim
          · rw [show 256 - 16 * s - d = (256 - 16 * s - (d + 1)) + 1 by omega] at hf
            replace hf : (if hb (msw I ((16 * s + d) % 16)) (nI ((16 * s + d) / 16)) = 0 then mAt (msw I) i (256 - 16 * s - (d + 1)) (16 * s + d + 1) b else if b = i then 100 * nI ((16 * s + d) / 16) + nI ((16 * s + d) % 16) else mAt (msw I) i (256 - 16 * s - (d + 1)) (16 * s + d + 1) (b + 1)) = mAt (msw I) i 256 0 0 := hf
            rw [show (16 * s + d) % 16 = d by omega, show (16 * s + d) / 16 = s by omega] at hf
            refine g_aload_n C dX0_misuseAt_20 rfl ?_
            refine g_getR (ci := 0) (k := 3) (q := 94) C dX0_misuseAt_21 rfl inGX0 (by decide) fwX0_15 ly_92 (by decide) rfl rfl ?_
            refine g_iload C dX0_misuseAt_24 rfl ?_
            refine g_iald _ C dX0_misuseAt_26 ly_94 (by decide) (by decide) rfl hd ?_
            refine g_aload_n C dX0_misuseAt_27 rfl ?_
            refine g_getR (ci := 0) (k := 2) (q := 93) C dX0_misuseAt_28 rfl inGX0 (by decide) fwX0_9 ly_92 (by decide) rfl rfl ?_
            refine g_iload C dX0_misuseAt_31 rfl ?_
            refine g_iald _ C dX0_misuseAt_33 ly_93 (by decide) (by decide) rfl hd ?_
            refine g_iconst (v := (-1)) C dX0_misuseAt_34 (by decide) ?_
            refine g_ixor C dX0_misuseAt_35 ?_
            refine g_iand C dX0_misuseAt_36 ?_
            refine g_iload_n C dX0_misuseAt_37 rfl ?_
            refine gn2I C dX0_misuseAt_38 swX8_hasBit (by decide +kernel) ⟨by decide, by decide⟩ (s_hasBit _ _) (Nat.le_of_ble_eq_true rfl) rfl ⟨by decide, by decide⟩ ?_
            refine g_if_eq 60 C dX0_misuseAt_41 (by decide) (fun c41 => ?_) (fun c41 => ?_)
            · rw [if_pos (show hb (msw I d) (nI s) = 0 from c41)] at hf
              refine g_iinc_4 C dX0_misuseAt_60 (nI_1 d) (by decide) ?_
              refine g_goto 13 C dX0_misuseAt_63 (by decide) ?_
              exact ihd _ hf
            · rw [if_neg (show ¬ hb (msw I d) (nI s) = 0 from c41)] at hf
              refine g_iload_n C dX0_misuseAt_44 rfl ?_
              refine g_iload_n C dX0_misuseAt_45 rfl ?_
              refine g_icmp_ne 57 C dX0_misuseAt_46 (by decide) (fun c46 => ?_) (fun c46 => ?_)
              · rw [if_neg c46] at hf
                refine g_iinc_2 C dX0_misuseAt_57 rfl (by decide) ?_
                refine g_iinc_4 C dX0_misuseAt_60 (nI_1 d) (by decide) ?_
                refine g_goto 13 C dX0_misuseAt_63 (by decide) ?_
                exact ihd _ hf
              · rw [if_pos c46] at hf
                refine g_bipush (v := 100) C dX0_misuseAt_49 (by decide) ?_
                refine g_iload_n C dX0_misuseAt_51 rfl ?_
                refine g_imul C dX0_misuseAt_52 ?_
                refine g_iload C dX0_misuseAt_53 rfl ?_
                refine g_iadd C dX0_misuseAt_55 ?_
                exact e_I C dX0_misuseAt_56 rfl rfl rfl hf rfl
      refine g_iload_n C dX0_misuseAt_4 rfl ?_
      refine g_bipush (v := 16) C dX0_misuseAt_5 (by decide) ?_
      refine g_icmp_ge 72 C dX0_misuseAt_7 (by decide) (fun c7 => ?_) (fun c7 => ?_)
      · exact (nI_ge_dead (n := 16) c7 hs (by omega)).elim
      · refine g_iconst (v := 0) C dX0_misuseAt_10 (by decide) ?_
        refine g_istore_4 C dX0_misuseAt_11 (by decide) ?_
        exact inner 0 (Nat.zero_le _) _ hf
  refine g_iconst (v := 0) C dX0_misuseAt_0 (by decide) ?_
  refine g_istore_2 C dX0_misuseAt_1 (by decide) ?_
  refine g_iconst (v := 0) C dX0_misuseAt_2 (by decide) ?_
  refine g_istore_3 C dX0_misuseAt_3 (by decide) ?_
  exact lp 0 (Nat.zero_le _) _ _ rfl
def buF (I : Nat → Nat → Int32) (n : Nat) (ln : Nat → Nat) : Nat → Nat → Int32 := if I 0 8 = 0 then I else up1 (trF I n ln) 0 8 0
theorem trF_off {I : Nat → Nat → Int32} {n : Nat} {ln : Nat → Nat} (hs : shOK I ln) (hn10 : n ≤ 10) {q : Nat} (h : q < 73) : trF I n ln q = I q := (trI_T (trI_N hs n hn10) n).1 q h
theorem buF_off {I : Nat → Nat → Int32} {n : Nat} {ln : Nat → Nat} (hs : shOK I ln) (hn10 : n ≤ 10) {q : Nat} (h : q < 73) (h0 : q ≠ 0) : buF I n ln q = I q := by
  unfold buF
  split
  · rfl
  · rw [up1_off h0, trF_off hs hn10 h]
set_option maxHeartbeats 1000000 in
theorem s_bring {l : Launch} {G : Gm} {I : Nat → Nat → Int32} {J : Nat → Nat → Int64} {n : Nat} (hn : I 3 2 = nI n) (hn10 : n ≤ 10) {ln : Nat → Nat} (hs : shOK I ln) : Sp l G iX8_bringUpToDate [.ref (G.1 + 0)] (mm I J) (RetV (mm (buF I n ln) J)) noT := by
  refine Sp.of (by decide +kernel) (Nat.le_of_ble_eq_true rfl) ?_
  intro X hXl C
  subst hXl
  show Go X G 1 0 0 _ 0 [.ref (G.1 + 0)] [] (mm I J)
  refine g_aload_n C dX8_bringUpToDate_0 rfl ?_
  refine g_getI (ci := 8) (k := 8) C dX8_bringUpToDate_1 rfl inGX8 (by decide) fwX8_70 ly_0 (by decide) rfl ?_
  refine g_if_eq 19 C dX8_bringUpToDate_4 (by decide) (fun c4 => ?_) (fun c4 => ?_)
  · have g4 : I 0 8 = 0 := c4
    exact e_V C dX8_bringUpToDate_19 rfl rfl rfl (by first | (rw [buF, if_pos g4]; done) | (rw [buF, if_neg g4]))
  · have g4 : ¬ I 0 8 = 0 := c4
    refine g_aload_n C dX8_bringUpToDate_7 rfl ?_
    refine g_getR (ci := 8) (k := 3) (q := 73) C dX8_bringUpToDate_8 rfl inGX8 (by decide) fwX8_37 ly_0 (by decide) rfl rfl ?_
    refine gv0V (ci := 1) C dX8_bringUpToDate_11 vwX1_trace mwX8_231 ⟨by decide, by decide⟩ rfl ly_73 (Nat.le_of_ble_eq_true rfl) (s_trace hn hn10 hs) (Nat.le_of_ble_eq_true rfl) rfl ⟨by decide, by decide⟩ ?_
    refine g_aload_n C dX8_bringUpToDate_14 rfl ?_
    refine g_iconst (v := 0) C dX8_bringUpToDate_15 (by decide) ?_
    refine g_putI (ci := 8) (k := 8) .boolean C dX8_bringUpToDate_16 rfl inGX8 tyX8_ok nmX8 (by decide) fwX8_70 ly_0 (by decide) rfl rfl rfl (by decide) rfl ?_
    exact e_V C dX8_bringUpToDate_19 rfl rfl rfl (by first | (rw [buF, if_pos g4]; done) | (rw [buF, if_neg g4]))
set_option maxHeartbeats 1000000 in
theorem s_lookAt {l : Launch} {G : Gm} {I : Nat → Nat → Int32} {J : Nat → Nat → Int64} {n : Nat} (hn : I 3 2 = nI n) (hn10 : n ≤ 10) {ln : Nat → Nat} (hs : shOK I ln) : Sp l G iX8_lookAtDoors [.ref (G.1 + 0)] (mm I J) (RetV (mm (lookF (buF I n ln) n 4) J)) noT := by
  refine Sp.of (by decide +kernel) (Nat.le_of_ble_eq_true rfl) ?_
  intro X hXl C
  subst hXl
  show Go X G 1 0 0 _ 0 [.ref (G.1 + 0)] [] (mm I J)
  refine g_aload_n C dX8_lookAtDoors_0 rfl ?_
  refine gv0V (ci := 8) C dX8_lookAtDoors_1 vwX8_bringUpToDate mwX8_155 ⟨by decide, by decide⟩ rfl ly_0 (Nat.le_of_ble_eq_true rfl) (s_bring hn hn10 hs) (Nat.le_of_ble_eq_true rfl) rfl ⟨by decide, by decide⟩ ?_
  refine g_aload_n C dX8_lookAtDoors_4 rfl ?_
  refine g_getR (ci := 8) (k := 4) (q := 92) C dX8_lookAtDoors_5 rfl inGX8 (by decide) fwX8_46 ly_0 (by decide) rfl rfl ?_
  refine g_aload_n C dX8_lookAtDoors_8 rfl ?_
  refine g_getR (ci := 8) (k := 1) (q := 3) C dX8_lookAtDoors_9 rfl inGX8 (by decide) fwX8_19 ly_0 (by decide) rfl rfl ?_
  refine g_getR (ci := 2) (k := 0) (q := 4) C dX8_lookAtDoors_12 rfl inGX2 (by decide) fwX8_97 ly_3 (by decide) rfl rfl ?_
  refine gv1V (ci := 0) C dX8_lookAtDoors_15 vwX0_look mwX8_234 ⟨by decide, by decide⟩ rfl ly_92 (Nat.le_of_ble_eq_true rfl) (s_look (by rw [buF_off hs hn10 (by decide) (by decide)]; exact hn) hn10 ly_4 (by decide) (by decide)) (Nat.le_of_ble_eq_true rfl) rfl ⟨by decide, by decide⟩ ?_
  exact e_V C dX8_lookAtDoors_18 rfl rfl rfl rfl
set_option maxHeartbeats 1000000 in
theorem s_result0 {l : Launch} {G : Gm} {I : Nat → Nat → Int32} {J : Nat → Nat → Int64} (x : Int32) (h : ¬ (¬ x < 0 ∧ x < I 3 2)) : Sp l G iX8_result [.ref (G.1 + 0), .int x] (mm I J) (RetI (-1) (mm I J)) noT := by
  refine Sp.of (by decide +kernel) (Nat.le_of_ble_eq_true rfl) ?_
  intro X hXl C
  subst hXl
  show Go X G 2 0 0 _ 0 [.ref (G.1 + 0), .int x] [] (mm I J)
  refine g_aload_n C dX8_result_0 rfl ?_
  refine g_getR (ci := 8) (k := 1) (q := 3) C dX8_result_1 rfl inGX8 (by decide) fwX8_19 ly_0 (by decide) rfl rfl ?_
  refine g_iload_n C dX8_result_4 rfl ?_
  refine gv1I (ci := 2) C dX8_result_5 vwX2_has mwX8_91 ⟨by decide, by decide⟩ rfl ly_3 (Nat.le_of_ble_eq_true rfl) (s_planHas _) (Nat.le_of_ble_eq_true rfl) rfl ⟨by decide, by decide⟩ ?_
  refine g_if_ne 13 C dX8_result_8 (by decide) (fun c8 => ?_) (fun c8 => ?_)
  · exact absurd (if01.mpr h) c8
  · refine g_iconst (v := (-1)) C dX8_result_11 (by decide) ?_
    exact e_I C dX8_result_12 rfl rfl rfl rfl rfl
set_option maxHeartbeats 1000000 in
theorem s_asked0 {l : Launch} {G : Gm} {I : Nat → Nat → Int32} {J : Nat → Nat → Int64} (x : Int32) (h : ¬ (¬ x < 0 ∧ x < I 3 2)) : Sp l G iX8_asked [.ref (G.1 + 0), .int x] (mm I J) (RetI (-1) (mm I J)) noT := by
  refine Sp.of (by decide +kernel) (Nat.le_of_ble_eq_true rfl) ?_
  intro X hXl C
  subst hXl
  show Go X G 2 0 0 _ 0 [.ref (G.1 + 0), .int x] [] (mm I J)
  refine g_aload_n C dX8_asked_0 rfl ?_
  refine g_getR (ci := 8) (k := 1) (q := 3) C dX8_asked_1 rfl inGX8 (by decide) fwX8_19 ly_0 (by decide) rfl rfl ?_
  refine g_iload_n C dX8_asked_4 rfl ?_
  refine gv1I (ci := 2) C dX8_asked_5 vwX2_has mwX8_91 ⟨by decide, by decide⟩ rfl ly_3 (Nat.le_of_ble_eq_true rfl) (s_planHas _) (Nat.le_of_ble_eq_true rfl) rfl ⟨by decide, by decide⟩ ?_
  refine g_if_ne 13 C dX8_asked_8 (by decide) (fun c8 => ?_) (fun c8 => ?_)
  · exact absurd (if01.mpr h) c8
  · refine g_iconst (v := (-1)) C dX8_asked_11 (by decide) ?_
    exact e_I C dX8_asked_12 rfl rfl rfl rfl rfl
set_option maxHeartbeats 1000000 in
theorem s_needed0 {l : Launch} {G : Gm} {I : Nat → Nat → Int32} {J : Nat → Nat → Int64} (x : Int32) (h : ¬ (¬ x < 0 ∧ x < I 3 2)) : Sp l G iX8_needed [.ref (G.1 + 0), .int x] (mm I J) (RetI (-1) (mm I J)) noT := by
  refine Sp.of (by decide +kernel) (Nat.le_of_ble_eq_true rfl) ?_
  intro X hXl C
  subst hXl
  show Go X G 2 0 0 _ 0 [.ref (G.1 + 0), .int x] [] (mm I J)
  refine g_aload_n C dX8_needed_0 rfl ?_
  refine g_getR (ci := 8) (k := 1) (q := 3) C dX8_needed_1 rfl inGX8 (by decide) fwX8_19 ly_0 (by decide) rfl rfl ?_
  refine g_iload_n C dX8_needed_4 rfl ?_
  refine gv1I (ci := 2) C dX8_needed_5 vwX2_has mwX8_91 ⟨by decide, by decide⟩ rfl ly_3 (Nat.le_of_ble_eq_true rfl) (s_planHas _) (Nat.le_of_ble_eq_true rfl) rfl ⟨by decide, by decide⟩ ?_
  refine g_if_ne 13 C dX8_needed_8 (by decide) (fun c8 => ?_) (fun c8 => ?_)
  · exact absurd (if01.mpr h) c8
  · refine g_iconst (v := (-1)) C dX8_needed_11 (by decide) ?_
    exact e_I C dX8_needed_12 rfl rfl rfl rfl rfl
set_option maxHeartbeats 1000000 in
theorem s_idle0 {l : Launch} {G : Gm} {I : Nat → Nat → Int32} {J : Nat → Nat → Int64} (x : Int32) (h : ¬ (¬ x < 0 ∧ x < I 3 2)) : Sp l G iX8_idle [.ref (G.1 + 0), .int x] (mm I J) (RetI (-1) (mm I J)) noT := by
  refine Sp.of (by decide +kernel) (Nat.le_of_ble_eq_true rfl) ?_
  intro X hXl C
  subst hXl
  show Go X G 2 0 0 _ 0 [.ref (G.1 + 0), .int x] [] (mm I J)
  refine g_aload_n C dX8_idle_0 rfl ?_
  refine g_getR (ci := 8) (k := 1) (q := 3) C dX8_idle_1 rfl inGX8 (by decide) fwX8_19 ly_0 (by decide) rfl rfl ?_
  refine g_iload_n C dX8_idle_4 rfl ?_
  refine gv1I (ci := 2) C dX8_idle_5 vwX2_has mwX8_91 ⟨by decide, by decide⟩ rfl ly_3 (Nat.le_of_ble_eq_true rfl) (s_planHas _) (Nat.le_of_ble_eq_true rfl) rfl ⟨by decide, by decide⟩ ?_
  refine g_if_ne 13 C dX8_idle_8 (by decide) (fun c8 => ?_) (fun c8 => ?_)
  · exact absurd (if01.mpr h) c8
  · refine g_iconst (v := (-1)) C dX8_idle_11 (by decide) ?_
    exact e_I C dX8_idle_12 rfl rfl rfl rfl rfl
set_option maxHeartbeats 1000000 in
theorem s_lacking0 {l : Launch} {G : Gm} {I : Nat → Nat → Int32} {J : Nat → Nat → Int64} (x : Int32) (h : ¬ (¬ x < 0 ∧ x < I 3 2)) : Sp l G iX8_lacking [.ref (G.1 + 0), .int x] (mm I J) (RetI (-1) (mm I J)) noT := by
  refine Sp.of (by decide +kernel) (Nat.le_of_ble_eq_true rfl) ?_
  intro X hXl C
  subst hXl
  show Go X G 2 0 0 _ 0 [.ref (G.1 + 0), .int x] [] (mm I J)
  refine g_aload_n C dX8_lacking_0 rfl ?_
  refine g_getR (ci := 8) (k := 1) (q := 3) C dX8_lacking_1 rfl inGX8 (by decide) fwX8_19 ly_0 (by decide) rfl rfl ?_
  refine g_iload_n C dX8_lacking_4 rfl ?_
  refine gv1I (ci := 2) C dX8_lacking_5 vwX2_has mwX8_91 ⟨by decide, by decide⟩ rfl ly_3 (Nat.le_of_ble_eq_true rfl) (s_planHas _) (Nat.le_of_ble_eq_true rfl) rfl ⟨by decide, by decide⟩ ?_
  refine g_if_ne 13 C dX8_lacking_8 (by decide) (fun c8 => ?_) (fun c8 => ?_)
  · exact absurd (if01.mpr h) c8
  · refine g_iconst (v := (-1)) C dX8_lacking_11 (by decide) ?_
    exact e_I C dX8_lacking_12 rfl rfl rfl rfl rfl
set_option maxHeartbeats 1000000 in
theorem s_helped0 {l : Launch} {G : Gm} {I : Nat → Nat → Int32} {J : Nat → Nat → Int64} (x : Int32) (h : ¬ (¬ x < 0 ∧ x < I 3 2)) : Sp l G iX8_helped [.ref (G.1 + 0), .int x] (mm I J) (RetI (-1) (mm I J)) noT := by
  refine Sp.of (by decide +kernel) (Nat.le_of_ble_eq_true rfl) ?_
  intro X hXl C
  subst hXl
  show Go X G 2 0 0 _ 0 [.ref (G.1 + 0), .int x] [] (mm I J)
  refine g_aload_n C dX8_helped_0 rfl ?_
  refine g_getR (ci := 8) (k := 1) (q := 3) C dX8_helped_1 rfl inGX8 (by decide) fwX8_19 ly_0 (by decide) rfl rfl ?_
  refine g_iload_n C dX8_helped_4 rfl ?_
  refine gv1I (ci := 2) C dX8_helped_5 vwX2_has mwX8_91 ⟨by decide, by decide⟩ rfl ly_3 (Nat.le_of_ble_eq_true rfl) (s_planHas _) (Nat.le_of_ble_eq_true rfl) rfl ⟨by decide, by decide⟩ ?_
  refine g_if_ne 13 C dX8_helped_8 (by decide) (fun c8 => ?_) (fun c8 => ?_)
  · exact absurd (if01.mpr h) c8
  · refine g_iconst (v := (-1)) C dX8_helped_11 (by decide) ?_
    exact e_I C dX8_helped_12 rfl rfl rfl rfl rfl
set_option maxHeartbeats 1000000 in
theorem s_holds0 {l : Launch} {G : Gm} {I : Nat → Nat → Int32} {J : Nat → Nat → Int64} (x y : Int32) (h : ¬ ((¬ x < 0 ∧ x < I 3 2) ∧ ¬ y < 0 ∧ y < 8)) : Sp l G iX8_holds [.ref (G.1 + 0), .int x, .int y] (mm I J) (RetI (-1) (mm I J)) noT := by
  refine Sp.of (by decide +kernel) (Nat.le_of_ble_eq_true rfl) ?_
  intro X hXl C
  subst hXl
  show Go X G 3 0 0 _ 0 [.ref (G.1 + 0), .int x, .int y] [] (mm I J)
  refine g_aload_n C dX8_holds_0 rfl ?_
  refine g_getR (ci := 8) (k := 1) (q := 3) C dX8_holds_1 rfl inGX8 (by decide) fwX8_19 ly_0 (by decide) rfl rfl ?_
  refine g_iload_n C dX8_holds_4 rfl ?_
  refine gv1I (ci := 2) C dX8_holds_5 vwX2_has mwX8_91 ⟨by decide, by decide⟩ rfl ly_3 (Nat.le_of_ble_eq_true rfl) (s_planHas _) (Nat.le_of_ble_eq_true rfl) rfl ⟨by decide, by decide⟩ ?_
  refine g_if_eq 21 C dX8_holds_8 (by decide) (fun c8 => ?_) (fun c8 => ?_)
  · refine g_iconst (v := (-1)) C dX8_holds_21 (by decide) ?_
    exact e_I C dX8_holds_22 rfl rfl rfl rfl rfl
  · have g8 := Classical.not_not.mp (fun q => c8 (if01.mpr q))
    refine g_iload_n C dX8_holds_11 rfl ?_
    refine g_if_lt 21 C dX8_holds_12 (by decide) (fun c12 => ?_) (fun c12 => ?_)
    · refine g_iconst (v := (-1)) C dX8_holds_21 (by decide) ?_
      exact e_I C dX8_holds_22 rfl rfl rfl rfl rfl
    · refine g_iload_n C dX8_holds_15 rfl ?_
      refine g_bipush (v := 8) C dX8_holds_16 (by decide) ?_
      refine g_icmp_lt 23 C dX8_holds_18 (by decide) (fun c18 => ?_) (fun c18 => ?_)
      · exact absurd ⟨g8, c12, c18⟩ h
      · refine g_iconst (v := (-1)) C dX8_holds_21 (by decide) ?_
        exact e_I C dX8_holds_22 rfl rfl rfl rfl rfl
set_option maxHeartbeats 1000000 in
theorem s_holds {l : Launch} {G : Gm} {I : Nat → Nat → Int32} {J : Nat → Nat → Int64} {n : Nat} (hn : I 3 2 = nI n) (hn10 : n ≤ 10) {ln : Nat → Nat} (hs : shOK I ln) {p : Nat} (hp : p < 10) (h : ¬ nI p < 0 ∧ nI p < I 3 2) {nm : Nat} (hnm : nm < 8) : Sp l G iX8_holds [.ref (G.1 + 0), .int (nI p), .int (nI nm)] (mm I J) (RetI (scA (buF I n ln) n 4 (25 * p + nm)) (mm (buF I n ln) J)) noT := by
  refine Sp.of (by decide +kernel) (Nat.le_of_ble_eq_true rfl) ?_
  intro X hXl C
  subst hXl
  show Go X G 3 0 0 _ 0 [.ref (G.1 + 0), .int (nI p), .int (nI nm)] [] (mm I J)
  refine g_aload_n C dX8_holds_0 rfl ?_
  refine g_getR (ci := 8) (k := 1) (q := 3) C dX8_holds_1 rfl inGX8 (by decide) fwX8_19 ly_0 (by decide) rfl rfl ?_
  refine g_iload_n C dX8_holds_4 rfl ?_
  refine gv1I (ci := 2) C dX8_holds_5 vwX2_has mwX8_91 ⟨by decide, by decide⟩ rfl ly_3 (Nat.le_of_ble_eq_true rfl) (s_planHas _) (Nat.le_of_ble_eq_true rfl) rfl ⟨by decide, by decide⟩ ?_
  refine g_if_eq 21 C dX8_holds_8 (by decide) (fun c8 => ?_) (fun c8 => ?_)
  · exact absurd h (if01.mp c8)
  · refine g_iload_n C dX8_holds_11 rfl ?_
    refine g_if_lt 21 C dX8_holds_12 (by decide) (fun c12 => ?_) (fun c12 => ?_)
    · exact absurd c12 (nI_pos (by omega))
    · refine g_iload_n C dX8_holds_15 rfl ?_
      refine g_bipush (v := 8) C dX8_holds_16 (by decide) ?_
      refine g_icmp_lt 23 C dX8_holds_18 (by decide) (fun c18 => ?_) (fun c18 => ?_)
      · refine g_aload_n C dX8_holds_23 rfl ?_
        refine gv0V (ci := 8) C dX8_holds_24 vwX8_bringUpToDate mwX8_155 ⟨by decide, by decide⟩ rfl ly_0 (Nat.le_of_ble_eq_true rfl) (s_bring hn hn10 hs) (Nat.le_of_ble_eq_true rfl) rfl ⟨by decide, by decide⟩ ?_
        refine g_aload_n C dX8_holds_27 rfl ?_
        refine g_getR (ci := 8) (k := 3) (q := 73) C dX8_holds_28 rfl inGX8 (by decide) fwX8_37 ly_0 (by decide) rfl rfl ?_
        refine g_iload_n C dX8_holds_31 rfl ?_
        refine g_iload_n C dX8_holds_32 rfl ?_
        refine gs2I C dX8_holds_33 swX8_spot mwX8_158 ⟨by decide, by decide⟩ (s_spotN _ _) (Nat.le_of_ble_eq_true rfl) rfl ⟨by decide, by decide⟩ ?_
        refine g_aload_n C dX8_holds_36 rfl ?_
        refine g_getR (ci := 8) (k := 1) (q := 3) C dX8_holds_37 rfl inGX8 (by decide) fwX8_19 ly_0 (by decide) rfl rfl ?_
        refine g_getR (ci := 2) (k := 0) (q := 4) C dX8_holds_40 rfl inGX2 (by decide) fwX8_97 ly_3 (by decide) rfl rfl ?_
        refine gv2I (ci := 1) C dX8_holds_43 vwX1_secretsAt mwX8_162 ⟨by decide, by decide⟩ rfl ly_73 (Nat.le_of_ble_eq_true rfl) (s_secretsAt (n := n) (by rw [buF_off hs hn10 (by decide) (by decide)]; exact hn) hn10 (show 25 * p + nm < 250 by omega) ly_4 (by decide)) (Nat.le_of_ble_eq_true rfl) rfl ⟨by decide, by decide⟩ ?_
        exact e_I C dX8_holds_46 rfl rfl rfl rfl rfl
      · exact absurd (nI_lt (b := 8) hnm (by decide)) c18
set_option maxHeartbeats 1000000 in
theorem s_result {l : Launch} {G : Gm} {I : Nat → Nat → Int32} {J : Nat → Nat → Int64} {n : Nat} (hn : I 3 2 = nI n) (hn10 : n ≤ 10) {ln : Nat → Nat} (hs : shOK I ln) {p : Nat} (hp : p < 10) (h : ¬ nI p < 0 ∧ nI p < I 3 2) : Sp l G iX8_result [.ref (G.1 + 0), .int (nI p)] (mm I J) (RetI (scA (buF I n ln) n 4 (25 * p + 8)) (mm (buF I n ln) J)) noT := by
  refine Sp.of (by decide +kernel) (Nat.le_of_ble_eq_true rfl) ?_
  intro X hXl C
  subst hXl
  show Go X G 2 0 0 _ 0 [.ref (G.1 + 0), .int (nI p)] [] (mm I J)
  refine g_aload_n C dX8_result_0 rfl ?_
  refine g_getR (ci := 8) (k := 1) (q := 3) C dX8_result_1 rfl inGX8 (by decide) fwX8_19 ly_0 (by decide) rfl rfl ?_
  refine g_iload_n C dX8_result_4 rfl ?_
  refine gv1I (ci := 2) C dX8_result_5 vwX2_has mwX8_91 ⟨by decide, by decide⟩ rfl ly_3 (Nat.le_of_ble_eq_true rfl) (s_planHas _) (Nat.le_of_ble_eq_true rfl) rfl ⟨by decide, by decide⟩ ?_
  refine g_if_ne 13 C dX8_result_8 (by decide) (fun c8 => ?_) (fun c8 => ?_)
  · refine g_aload_n C dX8_result_13 rfl ?_
    refine gv0V (ci := 8) C dX8_result_14 vwX8_bringUpToDate mwX8_155 ⟨by decide, by decide⟩ rfl ly_0 (Nat.le_of_ble_eq_true rfl) (s_bring hn hn10 hs) (Nat.le_of_ble_eq_true rfl) rfl ⟨by decide, by decide⟩ ?_
    refine g_aload_n C dX8_result_17 rfl ?_
    refine g_getR (ci := 8) (k := 3) (q := 73) C dX8_result_18 rfl inGX8 (by decide) fwX8_37 ly_0 (by decide) rfl rfl ?_
    refine g_iload_n C dX8_result_21 rfl ?_
    refine g_bipush (v := 8) C dX8_result_22 (by decide) ?_
    refine gs2I C dX8_result_24 swX8_spot mwX8_158 ⟨by decide, by decide⟩ (s_spotN _ 8) (Nat.le_of_ble_eq_true rfl) rfl ⟨by decide, by decide⟩ ?_
    refine g_aload_n C dX8_result_27 rfl ?_
    refine g_getR (ci := 8) (k := 1) (q := 3) C dX8_result_28 rfl inGX8 (by decide) fwX8_19 ly_0 (by decide) rfl rfl ?_
    refine g_getR (ci := 2) (k := 0) (q := 4) C dX8_result_31 rfl inGX2 (by decide) fwX8_97 ly_3 (by decide) rfl rfl ?_
    refine gv2I (ci := 1) C dX8_result_34 vwX1_secretsAt mwX8_162 ⟨by decide, by decide⟩ rfl ly_73 (Nat.le_of_ble_eq_true rfl) (s_secretsAt (n := n) (by rw [buF_off hs hn10 (by decide) (by decide)]; exact hn) hn10 (show 25 * p + 8 < 250 by omega) ly_4 (by decide)) (Nat.le_of_ble_eq_true rfl) rfl ⟨by decide, by decide⟩ ?_
    exact e_I C dX8_result_37 rfl rfl rfl rfl rfl
  · exact absurd h (if01.mp c8)
set_option maxHeartbeats 1000000 in
theorem s_asked {l : Launch} {G : Gm} {I : Nat → Nat → Int32} {J : Nat → Nat → Int64} {n : Nat} (hn : I 3 2 = nI n) (hn10 : n ≤ 10) {ln : Nat → Nat} (hs : shOK I ln) {p : Nat} (hp : p < 10) (h : ¬ nI p < 0 ∧ nI p < I 3 2) : Sp l G iX8_asked [.ref (G.1 + 0), .int (nI p)] (mm I J) (RetI (hb ((buF I n ln) 73 10) (nI p)) (mm (buF I n ln) J)) noT := by
  refine Sp.of (by decide +kernel) (Nat.le_of_ble_eq_true rfl) ?_
  intro X hXl C
  subst hXl
  show Go X G 2 0 0 _ 0 [.ref (G.1 + 0), .int (nI p)] [] (mm I J)
  refine g_aload_n C dX8_asked_0 rfl ?_
  refine g_getR (ci := 8) (k := 1) (q := 3) C dX8_asked_1 rfl inGX8 (by decide) fwX8_19 ly_0 (by decide) rfl rfl ?_
  refine g_iload_n C dX8_asked_4 rfl ?_
  refine gv1I (ci := 2) C dX8_asked_5 vwX2_has mwX8_91 ⟨by decide, by decide⟩ rfl ly_3 (Nat.le_of_ble_eq_true rfl) (s_planHas _) (Nat.le_of_ble_eq_true rfl) rfl ⟨by decide, by decide⟩ ?_
  refine g_if_ne 13 C dX8_asked_8 (by decide) (fun c8 => ?_) (fun c8 => ?_)
  · refine g_aload_n C dX8_asked_13 rfl ?_
    refine gv0V (ci := 8) C dX8_asked_14 vwX8_bringUpToDate mwX8_155 ⟨by decide, by decide⟩ rfl ly_0 (Nat.le_of_ble_eq_true rfl) (s_bring hn hn10 hs) (Nat.le_of_ble_eq_true rfl) rfl ⟨by decide, by decide⟩ ?_
    refine g_aload_n C dX8_asked_17 rfl ?_
    refine g_getR (ci := 8) (k := 3) (q := 73) C dX8_asked_18 rfl inGX8 (by decide) fwX8_37 ly_0 (by decide) rfl rfl ?_
    refine g_iload_n C dX8_asked_21 rfl ?_
    refine gv1I (ci := 1) C dX8_asked_22 vwX1_isLive mwX8_166 ⟨by decide, by decide⟩ rfl ly_73 (Nat.le_of_ble_eq_true rfl) (s_isLive _) (Nat.le_of_ble_eq_true rfl) rfl ⟨by decide, by decide⟩ ?_
    refine g_if_eq 32 C dX8_asked_25 (by decide) (fun c25 => ?_) (fun c25 => ?_)
    · refine g_iconst (v := 0) C dX8_asked_32 (by decide) ?_
      exact e_I C dX8_asked_33 rfl rfl rfl (by first | exact c25.symm | exact (hb_nz c25).symm) rfl
    · refine g_iconst (v := 1) C dX8_asked_28 (by decide) ?_
      refine g_goto 33 C dX8_asked_29 (by decide) ?_
      exact e_I C dX8_asked_33 rfl rfl rfl (by first | exact c25.symm | exact (hb_nz c25).symm) rfl
  · exact absurd h (if01.mp c8)
set_option maxHeartbeats 1000000 in
theorem s_needed {l : Launch} {G : Gm} {I : Nat → Nat → Int32} {J : Nat → Nat → Int64} {n : Nat} (hn : I 3 2 = nI n) (hn10 : n ≤ 10) {ln : Nat → Nat} (hs : shOK I ln) {p : Nat} (hp : p < 10) (h : ¬ nI p < 0 ∧ nI p < I 3 2) : Sp l G iX8_needed [.ref (G.1 + 0), .int (nI p)] (mm I J) (RetI ((buF I n ln) 75 p ||| (buF I n ln) 76 p) (mm (buF I n ln) J)) noT := by
  refine Sp.of (by decide +kernel) (Nat.le_of_ble_eq_true rfl) ?_
  intro X hXl C
  subst hXl
  show Go X G 2 0 0 _ 0 [.ref (G.1 + 0), .int (nI p)] [] (mm I J)
  refine g_aload_n C dX8_needed_0 rfl ?_
  refine g_getR (ci := 8) (k := 1) (q := 3) C dX8_needed_1 rfl inGX8 (by decide) fwX8_19 ly_0 (by decide) rfl rfl ?_
  refine g_iload_n C dX8_needed_4 rfl ?_
  refine gv1I (ci := 2) C dX8_needed_5 vwX2_has mwX8_91 ⟨by decide, by decide⟩ rfl ly_3 (Nat.le_of_ble_eq_true rfl) (s_planHas _) (Nat.le_of_ble_eq_true rfl) rfl ⟨by decide, by decide⟩ ?_
  refine g_if_ne 13 C dX8_needed_8 (by decide) (fun c8 => ?_) (fun c8 => ?_)
  · refine g_aload_n C dX8_needed_13 rfl ?_
    refine gv0V (ci := 8) C dX8_needed_14 vwX8_bringUpToDate mwX8_155 ⟨by decide, by decide⟩ rfl ly_0 (Nat.le_of_ble_eq_true rfl) (s_bring hn hn10 hs) (Nat.le_of_ble_eq_true rfl) rfl ⟨by decide, by decide⟩ ?_
    refine g_aload_n C dX8_needed_17 rfl ?_
    refine g_getR (ci := 8) (k := 3) (q := 73) C dX8_needed_18 rfl inGX8 (by decide) fwX8_37 ly_0 (by decide) rfl rfl ?_
    refine g_iload_n C dX8_needed_21 rfl ?_
    refine gv1I (ci := 1) C dX8_needed_22 vwX1_uses mwX8_195 ⟨by decide, by decide⟩ rfl ly_73 (Nat.le_of_ble_eq_true rfl) (s_uses hp) (Nat.le_of_ble_eq_true rfl) rfl ⟨by decide, by decide⟩ ?_
    exact e_I C dX8_needed_25 rfl rfl rfl rfl rfl
  · exact absurd h (if01.mp c8)
set_option maxHeartbeats 1000000 in
theorem s_idle {l : Launch} {G : Gm} {I : Nat → Nat → Int32} {J : Nat → Nat → Int64} {n : Nat} (hn : I 3 2 = nI n) (hn10 : n ≤ 10) {ln : Nat → Nat} (hs : shOK I ln) {p : Nat} (hp : p < 10) (h : ¬ nI p < 0 ∧ nI p < I 3 2) : Sp l G iX8_idle [.ref (G.1 + 0), .int (nI p)] (mm I J) (RetI ((buF I n ln) 4 p &&& (((buF I n ln) 75 p ||| (buF I n ln) 76 p) ^^^ (-1))) (mm (buF I n ln) J)) noT := by
  refine Sp.of (by decide +kernel) (Nat.le_of_ble_eq_true rfl) ?_
  intro X hXl C
  subst hXl
  show Go X G 2 0 0 _ 0 [.ref (G.1 + 0), .int (nI p)] [] (mm I J)
  refine g_aload_n C dX8_idle_0 rfl ?_
  refine g_getR (ci := 8) (k := 1) (q := 3) C dX8_idle_1 rfl inGX8 (by decide) fwX8_19 ly_0 (by decide) rfl rfl ?_
  refine g_iload_n C dX8_idle_4 rfl ?_
  refine gv1I (ci := 2) C dX8_idle_5 vwX2_has mwX8_91 ⟨by decide, by decide⟩ rfl ly_3 (Nat.le_of_ble_eq_true rfl) (s_planHas _) (Nat.le_of_ble_eq_true rfl) rfl ⟨by decide, by decide⟩ ?_
  refine g_if_ne 13 C dX8_idle_8 (by decide) (fun c8 => ?_) (fun c8 => ?_)
  · refine g_aload_n C dX8_idle_13 rfl ?_
    refine gv0V (ci := 8) C dX8_idle_14 vwX8_bringUpToDate mwX8_155 ⟨by decide, by decide⟩ rfl ly_0 (Nat.le_of_ble_eq_true rfl) (s_bring hn hn10 hs) (Nat.le_of_ble_eq_true rfl) rfl ⟨by decide, by decide⟩ ?_
    refine g_aload_n C dX8_idle_17 rfl ?_
    refine g_getR (ci := 8) (k := 1) (q := 3) C dX8_idle_18 rfl inGX8 (by decide) fwX8_19 ly_0 (by decide) rfl rfl ?_
    refine g_getR (ci := 2) (k := 0) (q := 4) C dX8_idle_21 rfl inGX2 (by decide) fwX8_97 ly_3 (by decide) rfl rfl ?_
    refine g_iload_n C dX8_idle_24 rfl ?_
    refine g_iald _ C dX8_idle_25 ly_4 (by decide) (by decide) rfl hp ?_
    refine g_aload_n C dX8_idle_26 rfl ?_
    refine g_getR (ci := 8) (k := 3) (q := 73) C dX8_idle_27 rfl inGX8 (by decide) fwX8_37 ly_0 (by decide) rfl rfl ?_
    refine g_iload_n C dX8_idle_30 rfl ?_
    refine gv1I (ci := 1) C dX8_idle_31 vwX1_uses mwX8_195 ⟨by decide, by decide⟩ rfl ly_73 (Nat.le_of_ble_eq_true rfl) (s_uses hp) (Nat.le_of_ble_eq_true rfl) rfl ⟨by decide, by decide⟩ ?_
    refine g_iconst (v := (-1)) C dX8_idle_34 (by decide) ?_
    refine g_ixor C dX8_idle_35 ?_
    refine g_iand C dX8_idle_36 ?_
    exact e_I C dX8_idle_37 rfl rfl rfl rfl rfl
  · exact absurd h (if01.mp c8)
set_option maxHeartbeats 1000000 in
theorem s_lacking {l : Launch} {G : Gm} {I : Nat → Nat → Int32} {J : Nat → Nat → Int64} {n : Nat} (hn : I 3 2 = nI n) (hn10 : n ≤ 10) {ln : Nat → Nat} (hs : shOK I ln) {p : Nat} (hp : p < 10) (h : ¬ nI p < 0 ∧ nI p < I 3 2) : Sp l G iX8_lacking [.ref (G.1 + 0), .int (nI p)] (mm I J) (RetI (((buF I n ln) 75 p ||| (buF I n ln) 76 p) &&& ((buF I n ln) 4 p ^^^ (-1))) (mm (buF I n ln) J)) noT := by
  refine Sp.of (by decide +kernel) (Nat.le_of_ble_eq_true rfl) ?_
  intro X hXl C
  subst hXl
  show Go X G 2 0 0 _ 0 [.ref (G.1 + 0), .int (nI p)] [] (mm I J)
  refine g_aload_n C dX8_lacking_0 rfl ?_
  refine g_getR (ci := 8) (k := 1) (q := 3) C dX8_lacking_1 rfl inGX8 (by decide) fwX8_19 ly_0 (by decide) rfl rfl ?_
  refine g_iload_n C dX8_lacking_4 rfl ?_
  refine gv1I (ci := 2) C dX8_lacking_5 vwX2_has mwX8_91 ⟨by decide, by decide⟩ rfl ly_3 (Nat.le_of_ble_eq_true rfl) (s_planHas _) (Nat.le_of_ble_eq_true rfl) rfl ⟨by decide, by decide⟩ ?_
  refine g_if_ne 13 C dX8_lacking_8 (by decide) (fun c8 => ?_) (fun c8 => ?_)
  · refine g_aload_n C dX8_lacking_13 rfl ?_
    refine gv0V (ci := 8) C dX8_lacking_14 vwX8_bringUpToDate mwX8_155 ⟨by decide, by decide⟩ rfl ly_0 (Nat.le_of_ble_eq_true rfl) (s_bring hn hn10 hs) (Nat.le_of_ble_eq_true rfl) rfl ⟨by decide, by decide⟩ ?_
    refine g_aload_n C dX8_lacking_17 rfl ?_
    refine g_getR (ci := 8) (k := 3) (q := 73) C dX8_lacking_18 rfl inGX8 (by decide) fwX8_37 ly_0 (by decide) rfl rfl ?_
    refine g_iload_n C dX8_lacking_21 rfl ?_
    refine gv1I (ci := 1) C dX8_lacking_22 vwX1_uses mwX8_195 ⟨by decide, by decide⟩ rfl ly_73 (Nat.le_of_ble_eq_true rfl) (s_uses hp) (Nat.le_of_ble_eq_true rfl) rfl ⟨by decide, by decide⟩ ?_
    refine g_aload_n C dX8_lacking_25 rfl ?_
    refine g_getR (ci := 8) (k := 1) (q := 3) C dX8_lacking_26 rfl inGX8 (by decide) fwX8_19 ly_0 (by decide) rfl rfl ?_
    refine g_getR (ci := 2) (k := 0) (q := 4) C dX8_lacking_29 rfl inGX2 (by decide) fwX8_97 ly_3 (by decide) rfl rfl ?_
    refine g_iload_n C dX8_lacking_32 rfl ?_
    refine g_iald _ C dX8_lacking_33 ly_4 (by decide) (by decide) rfl hp ?_
    refine g_iconst (v := (-1)) C dX8_lacking_34 (by decide) ?_
    refine g_ixor C dX8_lacking_35 ?_
    refine g_iand C dX8_lacking_36 ?_
    exact e_I C dX8_lacking_37 rfl rfl rfl rfl rfl
  · exact absurd h (if01.mp c8)
def hlF (I : Nat → Nat → Int32) (n p : Nat) : Int32 := if hb (I 73 10) (nI p) = 0 then 0 else it (fun o a => if hb (I 74 p) (nI o) = 0 then a else a ||| ((I 75 o ||| I 76 o) &&& I 4 o)) n 0
theorem s_hlF {l : Launch} {G : Gm} {I : Nat → Nat → Int32} {J : Nat → Nat → Int64} {n : Nat} (hn : I 3 2 = nI n) (hn10 : n ≤ 10) {p : Nat} (hp : p < 10) : Sp l G iX1_usesOfHelpers [.ref (G.1 + 73), .int (nI p)] (mm I J) (RetI (hlF I n p) (mm I J)) noT := by
  unfold hlF
  by_cases h : hb (I 73 10) (nI p) = 0
  · rw [if_pos h]; exact s_helpersUse0 hn hn10 h
  · rw [if_neg h]; exact s_helpersUse hn hn10 hp h
set_option maxHeartbeats 1000000 in
theorem s_helped {l : Launch} {G : Gm} {I : Nat → Nat → Int32} {J : Nat → Nat → Int64} {n : Nat} (hn : I 3 2 = nI n) (hn10 : n ≤ 10) {ln : Nat → Nat} (hs : shOK I ln) {p : Nat} (hp : p < 10) (h : ¬ nI p < 0 ∧ nI p < I 3 2) : Sp l G iX8_helped [.ref (G.1 + 0), .int (nI p)] (mm I J) (RetI (hlF (buF I n ln) n p &&& ((buF I n ln) 4 p ^^^ (-1))) (mm (buF I n ln) J)) noT := by
  refine Sp.of (by decide +kernel) (Nat.le_of_ble_eq_true rfl) ?_
  intro X hXl C
  subst hXl
  show Go X G 2 0 0 _ 0 [.ref (G.1 + 0), .int (nI p)] [] (mm I J)
  refine g_aload_n C dX8_helped_0 rfl ?_
  refine g_getR (ci := 8) (k := 1) (q := 3) C dX8_helped_1 rfl inGX8 (by decide) fwX8_19 ly_0 (by decide) rfl rfl ?_
  refine g_iload_n C dX8_helped_4 rfl ?_
  refine gv1I (ci := 2) C dX8_helped_5 vwX2_has mwX8_91 ⟨by decide, by decide⟩ rfl ly_3 (Nat.le_of_ble_eq_true rfl) (s_planHas _) (Nat.le_of_ble_eq_true rfl) rfl ⟨by decide, by decide⟩ ?_
  refine g_if_ne 13 C dX8_helped_8 (by decide) (fun c8 => ?_) (fun c8 => ?_)
  · refine g_aload_n C dX8_helped_13 rfl ?_
    refine gv0V (ci := 8) C dX8_helped_14 vwX8_bringUpToDate mwX8_155 ⟨by decide, by decide⟩ rfl ly_0 (Nat.le_of_ble_eq_true rfl) (s_bring hn hn10 hs) (Nat.le_of_ble_eq_true rfl) rfl ⟨by decide, by decide⟩ ?_
    refine g_aload_n C dX8_helped_17 rfl ?_
    refine g_getR (ci := 8) (k := 3) (q := 73) C dX8_helped_18 rfl inGX8 (by decide) fwX8_37 ly_0 (by decide) rfl rfl ?_
    refine g_iload_n C dX8_helped_21 rfl ?_
    refine gv1I (ci := 1) C dX8_helped_22 vwX1_usesOfHelpers mwX8_198 ⟨by decide, by decide⟩ rfl ly_73 (Nat.le_of_ble_eq_true rfl) (s_hlF (by rw [buF_off hs hn10 (by decide) (by decide)]; exact hn) hn10 hp) (Nat.le_of_ble_eq_true rfl) rfl ⟨by decide, by decide⟩ ?_
    refine g_aload_n C dX8_helped_25 rfl ?_
    refine g_getR (ci := 8) (k := 1) (q := 3) C dX8_helped_26 rfl inGX8 (by decide) fwX8_19 ly_0 (by decide) rfl rfl ?_
    refine g_getR (ci := 2) (k := 0) (q := 4) C dX8_helped_29 rfl inGX2 (by decide) fwX8_97 ly_3 (by decide) rfl rfl ?_
    refine g_iload_n C dX8_helped_32 rfl ?_
    refine g_iald _ C dX8_helped_33 ly_4 (by decide) (by decide) rfl hp ?_
    refine g_iconst (v := (-1)) C dX8_helped_34 (by decide) ?_
    refine g_ixor C dX8_helped_35 ?_
    refine g_iand C dX8_helped_36 ?_
    exact e_I C dX8_helped_37 rfl rfl rfl rfl rfl
  · exact absurd h (if01.mp c8)
set_option maxHeartbeats 1000000 in
theorem s_door0 {l : Launch} {G : Gm} {I : Nat → Nat → Int32} {J : Nat → Nat → Int64} (x : Int32) (h : ¬ (¬ x < 0 ∧ x < 16)) : Sp l G iX8_door [.ref (G.1 + 0), .int x] (mm I J) (RetI (-1) (mm I J)) noT := by
  refine Sp.of (by decide +kernel) (Nat.le_of_ble_eq_true rfl) ?_
  intro X hXl C
  subst hXl
  show Go X G 2 0 0 _ 0 [.ref (G.1 + 0), .int x] [] (mm I J)
  refine g_iload_n C dX8_door_0 rfl ?_
  refine gs1I C dX8_door_1 swX8_isRight mwX8_148 ⟨by decide, by decide⟩ (s_isRight _) (Nat.le_of_ble_eq_true rfl) rfl ⟨by decide, by decide⟩ ?_
  refine g_if_ne 9 C dX8_door_4 (by decide) (fun c4 => ?_) (fun c4 => ?_)
  · exact absurd (if01.mpr h) c4
  · refine g_iconst (v := (-1)) C dX8_door_7 (by decide) ?_
    exact e_I C dX8_door_8 rfl rfl rfl rfl rfl
set_option maxHeartbeats 1000000 in
theorem s_door {l : Launch} {G : Gm} {I : Nat → Nat → Int32} {J : Nat → Nat → Int64} {n : Nat} (hn : I 3 2 = nI n) (hn10 : n ≤ 10) {ln : Nat → Nat} (hs : shOK I ln) {d : Nat} (hd : d < 16) : Sp l G iX8_door [.ref (G.1 + 0), .int (nI d)] (mm I J) (RetI (lkR (buF I n ln) n 4 d) (mm (lookF (buF I n ln) n 4) J)) noT := by
  refine Sp.of (by decide +kernel) (Nat.le_of_ble_eq_true rfl) ?_
  intro X hXl C
  subst hXl
  show Go X G 2 0 0 _ 0 [.ref (G.1 + 0), .int (nI d)] [] (mm I J)
  refine g_iload_n C dX8_door_0 rfl ?_
  refine gs1I C dX8_door_1 swX8_isRight mwX8_148 ⟨by decide, by decide⟩ (s_isRight _) (Nat.le_of_ble_eq_true rfl) rfl ⟨by decide, by decide⟩ ?_
  refine g_if_ne 9 C dX8_door_4 (by decide) (fun c4 => ?_) (fun c4 => ?_)
  · refine g_aload_n C dX8_door_9 rfl ?_
    refine gv0V (ci := 8) C dX8_door_10 vwX8_lookAtDoors mwX8_169 ⟨by decide, by decide⟩ rfl ly_0 (Nat.le_of_ble_eq_true rfl) (s_lookAt hn hn10 hs) (Nat.le_of_ble_eq_true rfl) rfl ⟨by decide, by decide⟩ ?_
    refine g_aload_n C dX8_door_13 rfl ?_
    refine g_getR (ci := 8) (k := 4) (q := 92) C dX8_door_14 rfl inGX8 (by decide) fwX8_46 ly_0 (by decide) rfl rfl ?_
    refine g_getR (ci := 0) (k := 3) (q := 94) C dX8_door_17 rfl inGX0 (by decide) fwX8_172 ly_92 (by decide) rfl rfl ?_
    refine g_iload_n C dX8_door_20 rfl ?_
    refine g_ialdv (v := lkR (buF I n ln) n 4 d) _ C dX8_door_21 ly_94 (by decide) (by decide) rfl hd (stRow_in hd) ?_
    exact e_I C dX8_door_22 rfl rfl rfl rfl rfl
  · exact absurd ⟨nI_pos (show d < 2 ^ 31 by omega), nI_lt (b := 16) hd (by decide)⟩ (if01.mp c4)
def msF (I : Nat → Nat → Int32) : Int32 := it (fun d a => a + bc (I 94 d &&& (I 93 d ^^^ (-1)))) 16 0
def svF (I : Nat → Nat → Int32) : Int32 := it (fun d a => a + bc (I 94 d &&& I 93 d)) 16 0
set_option maxHeartbeats 1000000 in
theorem s_leaks {l : Launch} {G : Gm} {I : Nat → Nat → Int32} {J : Nat → Nat → Int64} {n : Nat} (hn : I 3 2 = nI n) (hn10 : n ≤ 10) {ln : Nat → Nat} (hs : shOK I ln) : Sp l G iX8_leaks [.ref (G.1 + 0)] (mm I J) (RetI (msF (lookF (buF I n ln) n 4) + svF (lookF (buF I n ln) n 4)) (mm (lookF (buF I n ln) n 4) J)) noT := by
  refine Sp.of (by decide +kernel) (Nat.le_of_ble_eq_true rfl) ?_
  intro X hXl C
  subst hXl
  show Go X G 1 0 0 _ 0 [.ref (G.1 + 0)] [] (mm I J)
  refine g_aload_n C dX8_leaks_0 rfl ?_
  refine gv0V (ci := 8) C dX8_leaks_1 vwX8_lookAtDoors mwX8_169 ⟨by decide, by decide⟩ rfl ly_0 (Nat.le_of_ble_eq_true rfl) (s_lookAt hn hn10 hs) (Nat.le_of_ble_eq_true rfl) rfl ⟨by decide, by decide⟩ ?_
  refine g_aload_n C dX8_leaks_4 rfl ?_
  refine g_getR (ci := 8) (k := 4) (q := 92) C dX8_leaks_5 rfl inGX8 (by decide) fwX8_46 ly_0 (by decide) rfl rfl ?_
  refine gv0I (ci := 0) C dX8_leaks_8 vwX0_misuses mwX8_175 ⟨by decide, by decide⟩ rfl ly_92 (Nat.le_of_ble_eq_true rfl) (s_misuses) (Nat.le_of_ble_eq_true rfl) rfl ⟨by decide, by decide⟩ ?_
  refine g_aload_n C dX8_leaks_11 rfl ?_
  refine g_getR (ci := 8) (k := 4) (q := 92) C dX8_leaks_12 rfl inGX8 (by decide) fwX8_46 ly_0 (by decide) rfl rfl ?_
  refine gv0I (ci := 0) C dX8_leaks_15 vwX0_services mwX8_179 ⟨by decide, by decide⟩ rfl ly_92 (Nat.le_of_ble_eq_true rfl) (s_services) (Nat.le_of_ble_eq_true rfl) rfl ⟨by decide, by decide⟩ ?_
  refine g_iadd C dX8_leaks_18 ?_
  exact e_I C dX8_leaks_19 rfl rfl rfl rfl rfl
set_option maxHeartbeats 1000000 in
theorem s_misuse {l : Launch} {G : Gm} {I : Nat → Nat → Int32} {J : Nat → Nat → Int64} {n : Nat} (hn : I 3 2 = nI n) (hn10 : n ≤ 10) {ln : Nat → Nat} (hs : shOK I ln) (w : Int32) : Sp l G iX8_misuse [.ref (G.1 + 0), .int w] (mm I J) (RetI (if w = 0 then msF (lookF (buF I n ln) n 4) else svF (lookF (buF I n ln) n 4)) (mm (lookF (buF I n ln) n 4) J)) noT := by
  refine Sp.of (by decide +kernel) (Nat.le_of_ble_eq_true rfl) ?_
  intro X hXl C
  subst hXl
  show Go X G 2 0 0 _ 0 [.ref (G.1 + 0), .int w] [] (mm I J)
  refine g_aload_n C dX8_misuse_0 rfl ?_
  refine gv0V (ci := 8) C dX8_misuse_1 vwX8_lookAtDoors mwX8_169 ⟨by decide, by decide⟩ rfl ly_0 (Nat.le_of_ble_eq_true rfl) (s_lookAt hn hn10 hs) (Nat.le_of_ble_eq_true rfl) rfl ⟨by decide, by decide⟩ ?_
  refine g_iload_n C dX8_misuse_4 rfl ?_
  refine g_if_eq 18 C dX8_misuse_5 (by decide) (fun c5 => ?_) (fun c5 => ?_)
  · refine g_aload_n C dX8_misuse_18 rfl ?_
    refine g_getR (ci := 8) (k := 4) (q := 92) C dX8_misuse_19 rfl inGX8 (by decide) fwX8_46 ly_0 (by decide) rfl rfl ?_
    refine gv0I (ci := 0) C dX8_misuse_22 vwX0_misuses mwX8_175 ⟨by decide, by decide⟩ rfl ly_92 (Nat.le_of_ble_eq_true rfl) (s_misuses) (Nat.le_of_ble_eq_true rfl) rfl ⟨by decide, by decide⟩ ?_
    exact e_I C dX8_misuse_25 rfl rfl rfl (by first | (rw [if_pos c5]; rfl) | (rw [if_neg c5]; rfl)) rfl
  · refine g_aload_n C dX8_misuse_8 rfl ?_
    refine g_getR (ci := 8) (k := 4) (q := 92) C dX8_misuse_9 rfl inGX8 (by decide) fwX8_46 ly_0 (by decide) rfl rfl ?_
    refine gv0I (ci := 0) C dX8_misuse_12 vwX0_services mwX8_179 ⟨by decide, by decide⟩ rfl ly_92 (Nat.le_of_ble_eq_true rfl) (s_services) (Nat.le_of_ble_eq_true rfl) rfl ⟨by decide, by decide⟩ ?_
    refine g_goto 25 C dX8_misuse_15 (by decide) ?_
    exact e_I C dX8_misuse_25 rfl rfl rfl (by first | (rw [if_pos c5]; rfl) | (rw [if_neg c5]; rfl)) rfl
set_option maxHeartbeats 1000000 in
theorem s_wrong {l : Launch} {G : Gm} {I : Nat → Nat → Int32} {J : Nat → Nat → Int64} {n : Nat} (hn : I 3 2 = nI n) (hn10 : n ≤ 10) {ln : Nat → Nat} (hs : shOK I ln) (i : Int32) : Sp l G iX8_wrong [.ref (G.1 + 0), .int i] (mm I J) (RetI (mAt (msw (lookF (buF I n ln) n 4)) i 256 0 0) (mm (lookF (buF I n ln) n 4) J)) noT := by
  refine Sp.of (by decide +kernel) (Nat.le_of_ble_eq_true rfl) ?_
  intro X hXl C
  subst hXl
  show Go X G 2 0 0 _ 0 [.ref (G.1 + 0), .int i] [] (mm I J)
  refine g_aload_n C dX8_wrong_0 rfl ?_
  refine gv0V (ci := 8) C dX8_wrong_1 vwX8_lookAtDoors mwX8_169 ⟨by decide, by decide⟩ rfl ly_0 (Nat.le_of_ble_eq_true rfl) (s_lookAt hn hn10 hs) (Nat.le_of_ble_eq_true rfl) rfl ⟨by decide, by decide⟩ ?_
  refine g_aload_n C dX8_wrong_4 rfl ?_
  refine g_getR (ci := 8) (k := 4) (q := 92) C dX8_wrong_5 rfl inGX8 (by decide) fwX8_46 ly_0 (by decide) rfl rfl ?_
  refine g_iload_n C dX8_wrong_8 rfl ?_
  refine gv1I (ci := 0) C dX8_wrong_9 vwX0_misuseAt mwX8_182 ⟨by decide, by decide⟩ rfl ly_92 (Nat.le_of_ble_eq_true rfl) (s_misuseAt _) (Nat.le_of_ble_eq_true rfl) rfl ⟨by decide, by decide⟩ ?_
  exact e_I C dX8_wrong_12 rfl rfl rfl rfl rfl
def tmF (I : Nat → Nat → Int32) (p : Nat) (s : Int32 × (Nat → Int32)) : Int32 × (Nat → Int32) := (s.1 + bc (s.2 p &&& ((I 75 p ||| I 76 p) ^^^ (-1))), upd s.2 p (s.2 p &&& (I 75 p ||| I 76 p)))
theorem stRow_self (I : Nat → Nat → Int32) (o m : Nat) : stRow I o m (I o) = I := by
  funext a b
  unfold stRow
  split
  · next h => rw [h.1]
  · rfl
set_option maxHeartbeats 1000000 in
theorem s_trim {l : Launch} {G : Gm} {I : Nat → Nat → Int32} {J : Nat → Nat → Int64} {n : Nat} (hn : I 3 2 = nI n) (hn10 : n ≤ 10) {ln : Nat → Nat} (hs : shOK I ln) : Sp l G iX8_trim [.ref (G.1 + 0)] (mm I J) (RetI (it (tmF (buF I n ln)) n (0, (buF I n ln) 4)).1 (mm (stRow (buF I n ln) 4 10 (it (tmF (buF I n ln)) n (0, (buF I n ln) 4)).2) J)) noT := by
  refine Sp.of (by decide +kernel) (Nat.le_of_ble_eq_true rfl) ?_
  intro X hXl C
  subst hXl
  show Go X G 3 0 0 _ 0 [.ref (G.1 + 0), uu, uu] [] (mm I J)
  have loop : ∀ k : Nat, k ≤ n → Go X G 3 0 0 (KQ X G iX8_trim (RetI (it (tmF (buF I n ln)) n (0, (buF I n ln) 4)).1 (mm (stRow (buF I n ln) 4 10 (it (tmF (buF I n ln)) n (0, (buF I n ln) 4)).2) J)) noT) 8 [.ref (G.1 + 0), .int (it (tmF (buF I n ln)) k (0, (buF I n ln) 4)).1, .int (nI k)] [] (mm (stRow (buF I n ln) 4 10 (it (tmF (buF I n ln)) k (0, (buF I n ln) 4)).2) J) := by
    refine loopN (n) ?_ ?_
    · skip
      show Go X G 3 0 0 _ 8 _ [] _
      refine g_iload_n C dX8_trim_8 rfl ?_
      refine g_aload_n C dX8_trim_9 rfl ?_
      refine g_getR (ci := 8) (k := 1) (q := 3) C dX8_trim_10 rfl inGX8 (by decide) fwX8_19 ly_0 (by decide) rfl rfl ?_
      refine g_getIv (ci := 2) (k := 2) (v := nI n) C dX8_trim_13 rfl inGX2 (by decide) fwX8_82 ly_3 (by decide) rfl (by rw [stRow_off (by decide), buF_off hs hn10 (by decide) (by decide)]; exact hn) ?_
      refine g_icmp_ge 71 C dX8_trim_16 (by decide) (fun c16 => ?_) (fun c16 => ?_)
      · refine g_iload_n C dX8_trim_71 rfl ?_
        exact e_I C dX8_trim_72 rfl rfl rfl rfl rfl
      · exact absurd (Int32.le_refl _) c16
    · intro k hk ih 
      show Go X G 3 0 0 _ 8 _ [] _
      refine g_iload_n C dX8_trim_8 rfl ?_
      refine g_aload_n C dX8_trim_9 rfl ?_
      refine g_getR (ci := 8) (k := 1) (q := 3) C dX8_trim_10 rfl inGX8 (by decide) fwX8_19 ly_0 (by decide) rfl rfl ?_
      refine g_getIv (ci := 2) (k := 2) (v := nI n) C dX8_trim_13 rfl inGX2 (by decide) fwX8_82 ly_3 (by decide) rfl (by rw [stRow_off (by decide), buF_off hs hn10 (by decide) (by decide)]; exact hn) ?_
      refine g_icmp_ge 71 C dX8_trim_16 (by decide) (fun c16 => ?_) (fun c16 => ?_)
      · exact (nI_ge_dead (n := n) c16 hk (by omega)).elim
      · refine g_iload_n C dX8_trim_19 rfl ?_
        refine g_aload_n C dX8_trim_20 rfl ?_
        refine g_getR (ci := 8) (k := 1) (q := 3) C dX8_trim_21 rfl inGX8 (by decide) fwX8_19 ly_0 (by decide) rfl rfl ?_
        refine g_getR (ci := 2) (k := 0) (q := 4) C dX8_trim_24 rfl inGX2 (by decide) fwX8_97 ly_3 (by decide) rfl rfl ?_
        refine g_iload_n C dX8_trim_27 rfl ?_
        refine g_ialdv (v := (it (tmF (buF I n ln)) k (0, (buF I n ln) 4)).2 k) _ C dX8_trim_28 ly_4 (by decide) (by decide) rfl (show k < 10 by omega) (stRow_in (by omega)) ?_
        refine g_aload_n C dX8_trim_29 rfl ?_
        refine g_getR (ci := 8) (k := 3) (q := 73) C dX8_trim_30 rfl inGX8 (by decide) fwX8_37 ly_0 (by decide) rfl rfl ?_
        refine g_iload_n C dX8_trim_33 rfl ?_
        refine gv1I (ci := 1) C dX8_trim_34 vwX1_uses mwX8_195 ⟨by decide, by decide⟩ rfl ly_73 (Nat.le_of_ble_eq_true rfl) (s_uses (show k < 10 by omega)) (Nat.le_of_ble_eq_true rfl) rfl ⟨by decide, by decide⟩ ?_
        rw [stRow_off (show 75 ≠ 4 by decide), stRow_off (show 76 ≠ 4 by decide)]
        refine g_iconst (v := (-1)) C dX8_trim_37 (by decide) ?_
        refine g_ixor C dX8_trim_38 ?_
        refine g_iand C dX8_trim_39 ?_
        refine gs1I C dX8_trim_40 swJ6_bitCount_0f7a4 mwX8_201 ⟨by decide, by decide⟩ (s_bitCount _) (Nat.le_of_ble_eq_true rfl) rfl ⟨by decide, by decide⟩ ?_
        refine g_iadd C dX8_trim_43 ?_
        refine g_istore_1 C dX8_trim_44 (by decide) ?_
        refine g_aload_n C dX8_trim_45 rfl ?_
        refine g_getR (ci := 8) (k := 1) (q := 3) C dX8_trim_46 rfl inGX8 (by decide) fwX8_19 ly_0 (by decide) rfl rfl ?_
        refine g_getR (ci := 2) (k := 0) (q := 4) C dX8_trim_49 rfl inGX2 (by decide) fwX8_97 ly_3 (by decide) rfl rfl ?_
        refine g_iload_n C dX8_trim_52 rfl ?_
        refine g_dup2 C dX8_trim_53 rfl rfl ?_
        refine g_ialdv (v := (it (tmF (buF I n ln)) k (0, (buF I n ln) 4)).2 k) _ C dX8_trim_54 ly_4 (by decide) (by decide) rfl (show k < 10 by omega) (stRow_in (by omega)) ?_
        refine g_aload_n C dX8_trim_55 rfl ?_
        refine g_getR (ci := 8) (k := 3) (q := 73) C dX8_trim_56 rfl inGX8 (by decide) fwX8_37 ly_0 (by decide) rfl rfl ?_
        refine g_iload_n C dX8_trim_59 rfl ?_
        refine gv1I (ci := 1) C dX8_trim_60 vwX1_uses mwX8_195 ⟨by decide, by decide⟩ rfl ly_73 (Nat.le_of_ble_eq_true rfl) (s_uses (show k < 10 by omega)) (Nat.le_of_ble_eq_true rfl) rfl ⟨by decide, by decide⟩ ?_
        rw [stRow_off (show 75 ≠ 4 by decide), stRow_off (show 76 ≠ 4 by decide)]
        refine g_iand C dX8_trim_63 ?_
        refine g_iast _ C dX8_trim_64 ly_4 (by decide) (by decide) rfl (show k < 10 by omega) ?_
        refine g_iinc_2 C dX8_trim_65 (nI_1 k) (by decide) ?_
        refine g_goto 8 C dX8_trim_68 (by decide) ?_
        rw [stRow_up (show k < 10 by omega)]
        exact ih
  refine g_aload_n C dX8_trim_0 rfl ?_
  refine gv0V (ci := 8) C dX8_trim_1 vwX8_bringUpToDate mwX8_155 ⟨by decide, by decide⟩ rfl ly_0 (Nat.le_of_ble_eq_true rfl) (s_bring hn hn10 hs) (Nat.le_of_ble_eq_true rfl) rfl ⟨by decide, by decide⟩ ?_
  refine g_iconst (v := 0) C dX8_trim_4 (by decide) ?_
  refine g_istore_1 C dX8_trim_5 (by decide) ?_
  refine g_iconst (v := 0) C dX8_trim_6 (by decide) ?_
  refine g_istore_2 C dX8_trim_7 (by decide) ?_
  have h0 := loop 0 (Nat.zero_le _)
  rw [show (it (tmF (buF I n ln)) 0 (0, (buF I n ln) 4)).2 = (buF I n ln) 4 from rfl, stRow_self] at h0
  exact h0
