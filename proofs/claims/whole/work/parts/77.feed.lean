/-! ## bytes -/
def bN (v : Int32) (q : Nat) : Nat := val v / 2 ^ q % 256
theorem nI_val (v : Int32) : nI (val v) = v := by
  apply Int32.toBitVec_inj.mp
  rw [nI_bv]
  exact BitVec.ofNat_toNat 32 v.toBitVec
theorem byt_N (v : Int32) {q : Nat} (hq : q < 32) : byt v (nI q) = nI (bN v q) := by
  unfold byt bN
  conv => lhs; rw [← nI_val v]
  rw [nI_shr (val_lt v) q hq, show (255 : Int32) = nI 255 from rfl, nI_and]
  congr 1
  exact Nat.and_two_pow_sub_one_eq_mod _ 8
theorem B_255 {s : Nat} (h : s < 32) : B 255 s ↔ s < 8 := by
  have : ∀ s, s < 32 → (B 255 s ↔ s < 8) := by decide +kernel
  exact this s h
theorem fb_sh {k : Nat} (hk : k < 20) : (24 - 8 * (nI k - nI k / 4 * 4)) &&& 31 = nI (24 - 8 * (k % 4)) &&& 31 := by
  have : ∀ k, k < 20 → (24 - 8 * (nI k - nI k / 4 * 4)) &&& 31 = nI (24 - 8 * (k % 4)) &&& 31 := by decide +kernel
  exact this k hk
theorem fby_N (v : Int32) {k : Nat} (hk : k < 20) : fby v k &&& 255 = nI (bN v (24 - 8 * (k % 4))) := by
  unfold fby
  rw [vp_nar_byte, fb_sh hk]
  apply B_ext
  intro s hs
  rw [B_and, B_255 hs, B_nI hs]
  unfold bN
  rw [show (256 : Nat) = 2 ^ 8 from rfl, Nat.testBit_mod_two_pow, Nat.testBit_div_two_pow]
  by_cases h8 : s < 8
  · have h1 : B ((v >>> (nI (24 - 8 * (k % 4)) &&& 31)).toInt8.toInt32.toInt8.toInt32) s ↔ (val v).testBit (s + (24 - 8 * (k % 4))) = true := by
      unfold B Bb val
      simp only [Int8.toBitVec_toInt32, Int32.toBitVec_toInt8, BitVec.getLsbD_signExtend, hs, h8, decide_true, if_true, Bool.true_and]
      rw [sh_bv v (by omega), BitVec.getLsbD_sshiftRight, if_pos (by omega), BitVec.testBit_toNat, Nat.add_comm]
      simp [show ¬ 32 ≤ s by omega]
    rw [h1]
    simp [h8]
  · simp [h8]
/-! ## the class's feeding -/
theorem ap4_2 (I : Nat → Nat → Int32) (s : Nat) (x : Int32) (j : Nat) : ap4 I s x 2 j = if s ≤ j ∧ j < s + 4 then nI (bN x (24 - 8 * (j - s))) else I 2 j := by
  have b24 : byt x 24 = nI (bN x 24) := byt_N x (q := 24) (by decide)
  have b16 : byt x 16 = nI (bN x 16) := byt_N x (q := 16) (by decide)
  have b8 : byt x 8 = nI (bN x 8) := byt_N x (q := 8) (by decide)
  have b0 : byt x 0 = nI (bN x 0) := byt_N x (q := 0) (by decide)
  unfold ap4 ap1
  rw [b24, b16, b8, b0]
  simp only [up1, show ¬ ((2 : Nat) = 1) by decide, false_and, if_false, true_and]
  by_cases h : s ≤ j ∧ j < s + 4
  · rw [if_pos h]
    have : j = s ∨ j = s + 1 ∨ j = s + 2 ∨ j = s + 3 := by omega
    rcases this with rfl | rfl | rfl | rfl
    · simp
    · rw [if_neg (by omega), if_neg (by omega), if_pos rfl, show 24 - 8 * (s + 1 - s) = 16 by omega]
    · rw [if_neg (by omega), if_pos rfl, show 24 - 8 * (s + 2 - s) = 8 by omega]
    · rw [if_pos rfl, show 24 - 8 * (s + 3 - s) = 0 by omega]
  · rw [if_neg h, if_neg (by omega), if_neg (by omega), if_neg (by omega), if_neg (by omega)]
theorem ap4_o (I : Nat → Nat → Int32) (s : Nat) (x : Int32) {q : Nat} (h1 : q ≠ 1) (h2 : q ≠ 2) : ap4 I s x q = I q := by
  unfold ap4 ap1
  simp only [up1_nf h1, up1_nf h2]
theorem ap4_1 (I : Nat → Nat → Int32) (s : Nat) (x : Int32) : ap4 I s x 1 1 = nI (s + 4) := by
  unfold ap4 ap1
  rw [up1_same]
def bF (a b c d e : Int32) (k : Nat) : Nat := bN (fsel a b c d e k) (24 - 8 * (k % 4))
theorem ap20_2 (I : Nat → Nat → Int32) (s : Nat) (a b c d e : Int32) (j : Nat) : ap20 I s a b c d e 2 j = if s ≤ j ∧ j < s + 20 then nI (bF a b c d e (j - s)) else I 2 j := by
  unfold ap20 bF fsel
  rw [ap4_2, ap4_2, ap4_2, ap4_2, ap4_2]
  by_cases h : s ≤ j ∧ j < s + 20
  · rw [if_pos h]
    by_cases h1 : j < s + 4
    · rw [if_neg (by omega), if_neg (by omega), if_neg (by omega), if_neg (by omega), if_pos (by omega), if_pos (by omega), show (j - s) % 4 = j - s by omega]
    · by_cases h2 : j < s + 8
      · rw [if_neg (by omega), if_neg (by omega), if_neg (by omega), if_pos (by omega), if_neg (by omega), if_pos (by omega), show (j - s) % 4 = j - (s + 4) by omega]
      · by_cases h3 : j < s + 12
        · rw [if_neg (by omega), if_neg (by omega), if_pos (by omega), if_neg (by omega), if_neg (by omega), if_pos (by omega), show (j - s) % 4 = j - (s + 8) by omega]
        · by_cases h4 : j < s + 16
          · rw [if_neg (by omega), if_pos (by omega), if_neg (by omega), if_neg (by omega), if_neg (by omega), if_pos (by omega), show (j - s) % 4 = j - (s + 12) by omega]
          · rw [if_pos (by omega), if_neg (by omega), if_neg (by omega), if_neg (by omega), if_neg (by omega), show (j - s) % 4 = j - (s + 16) by omega]
  · rw [if_neg h, if_neg (by omega), if_neg (by omega), if_neg (by omega), if_neg (by omega), if_neg (by omega)]
theorem ap20_o (I : Nat → Nat → Int32) (s : Nat) (a b c d e : Int32) {q : Nat} (h1 : q ≠ 1) (h2 : q ≠ 2) : ap20 I s a b c d e q = I q := by
  unfold ap20
  rw [ap4_o _ _ _ h1 h2, ap4_o _ _ _ h1 h2, ap4_o _ _ _ h1 h2, ap4_o _ _ _ h1 h2, ap4_o _ _ _ h1 h2]
/-! ## the model's -/
theorem fd_at (s : Nat) (w : Nat → Int32) (I : Nat → Nat → Int32) : ∀ m, (∀ j, it (fdS s w) m I 113 j = if s ≤ j ∧ j < s + m then fby (w (j - s)) (j - s) else I 113 j) ∧ (0 < m → it (fdS s w) m I 103 15 = nI (s + m)) ∧ (∀ b, b ≠ 15 → it (fdS s w) m I 103 b = I 103 b) ∧ ∀ q, q ≠ 103 → q ≠ 113 → it (fdS s w) m I q = I q
  | 0 => ⟨fun j => by rw [if_neg (by omega)]; rfl, fun h => absurd h (by omega), fun _ _ => rfl, fun _ _ _ => rfl⟩
  | m + 1 => by
    obtain ⟨h1, h2, h3, h4⟩ := fd_at s w I m
    have hs : it (fdS s w) (m + 1) I = fdS s w m (it (fdS s w) m I) := rfl
    rw [hs]
    generalize it (fdS s w) m I = Z at h1 h2 h3 h4 ⊢
    unfold fdS
    refine ⟨fun j => ?_, fun _ => up1_same _ _ _ _, fun b hb => ?_, fun q q1 q2 => ?_⟩
    · rw [up1_ne (by decide)]
      simp only [up1, true_and]
      by_cases e : j = s + m
      · rw [if_pos e, if_pos (by omega), e, show s + m - s = m by omega]
      · rw [if_neg e, h1 j]
        by_cases h : s ≤ j ∧ j < s + m
        · rw [if_pos h, if_pos (by omega)]
        · rw [if_neg h, if_neg (by omega)]
    · have : up1 (up1 Z 113 (s + m) (fby (w m) m)) 103 15 (nI (s + m + 1)) 103 b = Z 103 b := by simp [up1, hb]
      rw [this]; exact h3 b hb
    · rw [up1_nf q1, up1_nf q2]; exact h4 q q1 q2
/-! ## feed -/
theorem c_feed {l : Launch} {G : Gm} {I : Nat → Nat → Int32} {J : Nat → Nat → Int64} (hI : InvE I) (a b c d e : Int32) : CPr l G iX8_feed iX10_feed [.int a, .int b, .int c, .int d, .int e] I J := by
  obtain ⟨n, P, t, sz, z, y, h⟩ := hI
  have h1 := h.1.2.2.1
  have h300 := h.1.2.2.2.1
  have h15 := h.2.1.2.2.1
  by_cases hs : sz ≤ 280
  · refine CPr.mk (s_feed h1 hs a b c d e) (s_mfeed (s := sz) (by rw [ap20_o _ _ _ _ _ _ _ (by decide) (by decide)]; exact h15) hs) ⟨n, P, fun j => if sz ≤ j ∧ j < sz + 20 then bF a b c d e (j - sz) else t j, sz + 20, z, y, ?_⟩
    obtain ⟨f1, f2, f3, f4⟩ := fd_at sz (fsel a b c d e) (T0 (ap20 I sz a b c d e)) 20
    generalize hZ : it (fdS sz (fsel a b c d e)) 20 (T0 (ap20 I sz a b c d e)) = Z at f1 f2 f3 f4
    have ro : ∀ q, q ≠ 1 → q ≠ 2 → q ≠ 103 → q ≠ 113 → Z q = I q := fun q q1 q2 q3 q4 => by rw [f4 q q3 q4, T0_off q3, ap20_o _ _ _ _ _ _ _ q1 q2]
    have r3 : ∀ k, k ≠ 15 → k ≠ 0 → Z 103 k = I 103 k := fun k k1 k2 => by rw [f3 k k1, T0_103 k2, ap20_o _ _ _ _ _ _ _ (by decide) (by decide)]
    have hb256 : ∀ k, bF a b c d e k < 256 := fun k => Nat.mod_lt _ (by decide)
    obtain ⟨⟨a1, a2, a3, a4, a5, a6, a7, a8⟩, ⟨b1, b2, b3, b4, b5⟩, c1, c2, c3, c4, c5, c6, c7, c8⟩ := h
    have hn := a1.1.1
    refine ⟨⟨shP_cg a1 (by rw [ro 3 (by decide) (by decide) (by decide) (by decide)]) (fun q q1 q2 => ro q (by omega) (by omega) (by omega) (by omega)), ?_, ?_, by omega, fun q => ?_, ?_, ⟨?_, a7.2⟩, ⟨?_, a8.2⟩⟩, ⟨?_, ?_, f2 (by decide), ?_, ?_⟩, ?_, ?_, ?_, ?_, ?_, ?_, ?_, ?_⟩
    · intro j hj
      rw [f4 2 (by decide) (by decide), T0_off (by decide), ap20_2]
      by_cases hh : sz ≤ j ∧ j < sz + 20
      · simp only [if_pos hh, true_and]; exact hb256 _
      · simp only [if_neg hh]; exact a2 j hj
    · rw [f4 1 (by decide) (by decide), T0_off (by decide)]
      unfold ap20
      rw [ap4_1]
    · exact Fr_cg hn (a5 (by rw [← ro 0 (by decide) (by decide) (by decide) (by decide)]; exact q)) (fun q q1 q2 => ro q (by omega) (by omega) (by omega) (by omega))
    · rw [ro 4 (by decide) (by decide) (by decide) (by decide)]; exact a6
    · rw [ro 95 (by decide) (by decide) (by decide) (by decide)]; exact a7.1
    · rw [ro 98 (by decide) (by decide) (by decide) (by decide)]; exact a8.1
    · exact mOK_cg (r3 4 (by decide) (by decide)) (fun q hq => ro q (by omega) (by omega) (by omega) (by omega)) b1
    · intro j hj
      rw [f1 j]
      by_cases hh : sz ≤ j ∧ j < sz + 20
      · simp only [if_pos hh]
        rw [fby_N _ (by omega)]
        exact ⟨rfl, hb256 _⟩
      · simp only [if_neg hh]
        rw [T0_off (by decide), ap20_o _ _ _ _ _ _ _ (by decide) (by decide)]; exact b2 j hj
    · rw [r3 30 (by decide) (by decide)]; exact b4
    · rw [r3 34 (by decide) (by decide)]; exact b5
    · rw [ro 4 (by decide) (by decide) (by decide) (by decide), ro 104 (by decide) (by decide) (by decide) (by decide)]; exact c1
    · rw [ro 93 (by decide) (by decide) (by decide) (by decide), ro 106 (by decide) (by decide) (by decide) (by decide)]; exact c2
    · rw [ro 0 (by decide) (by decide) (by decide) (by decide), r3 1 (by decide) (by decide)]; exact c3
    · rw [ro 0 (by decide) (by decide) (by decide) (by decide), r3 2 (by decide) (by decide), ro 66 (by decide) (by decide) (by decide) (by decide)]; exact c4
    · rw [ro 66 (by decide) (by decide) (by decide) (by decide), r3 3 (by decide) (by decide)]; exact c5
    · intro p hp k hk
      rw [ro _ (by omega) (by omega) (by omega) (by omega), ro 110 (by decide) (by decide) (by decide) (by decide)]; exact c6 p hp k hk
    · rw [ro 97 (by decide) (by decide) (by decide) (by decide), ro 120 (by decide) (by decide) (by decide) (by decide)]; exact c7
    · rw [ro 102 (by decide) (by decide) (by decide) (by decide), ro 122 (by decide) (by decide) (by decide) (by decide)]; exact c8
  · exact CPr.mk (s_feedFull h1 (by omega) h300 a b c d e) (s_mfeed0 h15 (by omega) h300) ⟨n, P, t, sz, z, y, Inv_q0 h⟩
