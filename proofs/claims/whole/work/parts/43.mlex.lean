/-! ## rows for the model's reader -/
section KVN
variable {p : Program} {l : Launch} {e : Env} {R : Room} {s : State} {m : MethodId} {args : Array Value} {below : List Frame} {meth : Method} {c : Code} {H0 H : Heap} {locs : List Loc} {cells slots : Nat} {Q : State → Prop} {cc : ByteArray} {A : Addr → Prop} {D : va_G} {cl : List vw_C} {tys : List (ClassId × FieldType)} {ws : va_W} {pc : Nat} {ls : Array Slot} {rest : List Value} {a : Addr}
theorem kv_putN (hexec : p.tables.exec = Jvm.exec) (hb : c.code = cc) {own ref C host : String} {T : u_T} {N ci index : Nat} {Ts : List Cond} (hts : ∀ w ∈ Ts, w.before args s = true) (hin : ∀ w ∈ u_ws C T N, w ∈ Ts) (ty0 : Nat → FieldType) (hty : ∀ k, k < N → parseFieldDescriptor (T k).2.2.1 = some (ty0 k)) (hnm : ∀ a, a < N → ∀ b, b < N → a ≠ b → (T a).2.1 ≠ (T b).2.1) (hown : s.vm.findClass own = some m.cls) (hK : va_K D cl tys s) (hP : va_P D cl ws H) (hD : va_D A ws) (hS0 : va_S A H0 H locs) (q0 : Nat) {fs : List Value} (he : ws[q0]? = some (a, .inr (ci, fs))) (hc : cl[ci]? = some (C, T, N)) (k : Nat) (hk : k < N) (hlink : (Cond.fieldLinkNest own index ref (T k).2.1 (T k).2.2.1 host).before args s = true) (hsame : ∀ x, s.fieldFound? (T k).1 (T k).2.1 (T k).2.2.1 = some x → s.fieldFound? ref (T k).2.1 (T k).2.2.1 = some x) (hfin : (T k).2.2.2 = false) {ty : FieldType} {v : Value} (hd : parseFieldDescriptor (T k).2.2.1 = some ty) (hn : narrow ty v = v) (hfit : fits ty v = true) (hl : k < fs.length)
    (hdg : decode cc pc = .ok (.putfield index, 3)) (kk : ∀ (H1 : Heap) (locs1 : List Loc), H1.size = H.size → va_P D cl (ws.set q0 (a, .inr (ci, fs.set k v))) H1 → va_S A H0 H1 locs1 → W p l e R s m args below meth c H1 locs1 cells slots Q (F0 m (pc + 3) ls rest)) : W p l e R s m args below meth c H locs cells slots Q (F0 m pc ls (v :: .ref a :: rest)) := by
  have hap := va_apart (own := own) hts hin ty0 hty hnm hK hc
  obtain ⟨r, h1, cell, q1, q2, q3, q4⟩ := hP q0 _ he
  have hr : r = (C, T, N) := Option.some.inj (h1.symm.trans hc)
  subst hr
  obtain ⟨hS, hfc, kC, hkC, hkind⟩ := hK.1 ci _ hc
  obtain ⟨cf, kf, fi, f, hi, hsl⟩ := hS k hk
  have hlay := hts _ (hin _ (u_in_lay hk))
  unfold u_lay at hlay
  rw [if_neg (by rw [hfin]; decide)] at hlay
  have hst := (u_facts hfc hkC (u_lays hts hin hk) hi).1
  have h6 := u_store hfc hkC hkind hlay hi hd hn hfit
  refine va_WputK hexec hb (f := f) hown hlink (hsame _ hi) hst (by rw [q2]; exact h6) q1 q3 (by rw [hsl]; exact k2_hasslot (q4 k hk)) rfl rfl hdg fun H' e1 e2 e3 => ?_
  rw [hsl] at e1 ⊢
  exact kk H' _ e2 (hP.set hD he ⟨_, hc, t_OB.to (V := updV (vp_V fs) k v) ⟨_, e1, q2, q3, t_set q4 hap hk v⟩ (fun j _ => vp_updV_set hl v j)⟩ e3) (hS0.put e2 e3 (hD.2 q0 _ he))
end KVN
section RN
variable {X : CX} {G : Gm} {Y : MI} {nL cells slots : Nat} {Q : State → Prop} {pc : Nat} {L st : List Value} {I : Nat → Nat → Int32} {J : Nat → Nat → Int64} {r : Nat → Nat → Option Nat} {n : Nat}
theorem cx_nw (C : Cx X G Y) {q : Nat × String} (h : q ∈ nwF) : (Cond.fieldLinkNest RX10 q.1 RX9 q.2 "I" RX10).before X.args X.s = true := va_tabs rfl rfl (C.2.2.2.2.2.1.2.2.1 q h)
theorem g_lcmp {x y : Int64} (C : Cx X G Y) (d : decode Y.2.1 pc = .ok (.lcmp, 1)) {M : Mm} (k : Go X G nL cells slots Q (pc + 1) L (.int (lg_cmp x y) :: st) M) : Go X G nL cells slots Q pc L (.long y :: .long x :: st) M := fun H locs ls h1 h2 h3 => W.lcmp C.1 C.2.1 d (k H locs ls h1 h2 h3)
theorem g_getN {k idx : Nat} (C : Cx X G Y) (hy : Y.1.cls = RX10) (d : decode Y.2.1 pc = .ok (.getfield idx, 3)) (hk : k < 2) (hq : (idx, (TS9 k).2.1) ∈ nwF) (hd : (TS9 k).2.2.1 = "I") (hs : (TS9 k).1 = RX9) (hf : (kF 9)[k]? = some 0) (ho : 112 < n) (kk : Go X G nL cells slots Q (pc + 3) L (.int (I 112 k) :: st) (I, J, r, n)) : Go X G nL cells slots Q pc L (.ref (G.1 + 112) :: st) (I, J, r, n) := fun H locs ls h1 h2 h3 =>
  va_getN (D := G.2.1) (Ts := GT) (ref := RX9) (own := RX10) (host := RX10) C.1 C.2.1 C.2.2.2.2.1 inGX9 (by rw [← hy]; exact C.2.2.2.1) C.2.2.2.2.2.1.1 h1.1 112 (wsM_obj ly_112 ho) rfl k hk (by rw [hd]; exact cx_nw C hq) (fun _ h => by rw [hs] at h; exact h) (fvs_at G.1 (I, J, r, n) 112 9 hf) d (kk H locs ls h1 h2 h3)
theorem g_putN {k idx : Nat} {v : Int32} (C : Cx X G Y) (hy : Y.1.cls = RX10) (d : decode Y.2.1 pc = .ok (.putfield idx, 3)) (hk : k < 2) (hq : (idx, (TS9 k).2.1) ∈ nwF) (hd : (TS9 k).2.2.1 = "I") (hs : (TS9 k).1 = RX9) (hf : (kF 9)[k]? = some 0) (hfin : (TS9 k).2.2.2 = false) (hp : parseFieldDescriptor (TS9 k).2.2.1 = some .int) (ho : 112 < n) (kk : Go X G nL cells slots Q (pc + 3) L st (up1 I 112 k v, J, r, n)) : Go X G nL cells slots Q pc L (.int v :: .ref (G.1 + 112) :: st) (I, J, r, n) := fun H locs ls h1 h2 h3 => by
  refine kv_putN (D := G.2.1) (Ts := GT) (ref := RX9) (own := RX10) (host := RX10) C.1 C.2.1 C.2.2.2.2.1 inGX9 tyS9 tyS9_ok nmS9 (by rw [← hy]; exact C.2.2.2.1) C.2.2.2.2.2.1.1 h1.1 (wsM_D G _) h2 112 (wsM_obj ly_112 ho) rfl k hk (by rw [hd]; exact cx_nw C hq) (fun _ h => by rw [hs] at h; exact h) hfin hp rfl rfl (by rw [fvs_len]; exact (List.getElem?_eq_some_iff.mp hf).1) d (fun H1 locs1 hz hP hS => ?_)
  have hw : (wsM G (I, J, r, n)).set 112 (G.1 + 112, .inr (9, (fvs G.1 (I, J, r, n) 112 9).set k (.int v))) = wsM G (up1 I 112 k v, J, r, n) := by
    have hv : fvl G.1 (up1 I 112 k v, J, r, n) 112 k 0 = .int v := by show Value.int (up1 I 112 k v 112 k) = _; rw [up1_same]
    rw [← hv, fvs_set (M' := (up1 I 112 k v, J, r, n)) hf (fun j u hj => fvl_off (by simp [up1, hj]) rfl rfl), ← wsM_set (o := 112) (M := (I, J, r, n)) (M' := (up1 I 112 k v, J, r, n)) rfl (fun q hq => cEl_eq _ (up1_off hq) rfl rfl), ly_112]; rfl
  rw [hw] at hP
  exact kk H1 locs1 ls ⟨hP, by show G.1 + n ≤ _; rw [hz]; exact h1.2.1, by show n < 125 → _ = _; rw [hz]; exact h1.2.2.1, h1.2.2.2⟩ hS h3
end RN
theorem cmp_lt {x y : Int64} : lg_cmp x y < 0 ↔ x < y := by
  unfold lg_cmp
  by_cases h : y < x
  · have h2 : ¬ x < y := fun q => absurd (Int64.lt_trans q h) (Int64.lt_irrefl)
    simp [h, h2]
  · by_cases he : x = y
    · subst he; simp [Int64.lt_irrefl]
    · have h2 : x < y := Int64.lt_of_le_of_ne (Int64.not_lt.mp h) he
      simp [h, he, h2]
theorem cmp_gt {x y : Int64} : 0 < lg_cmp x y ↔ y < x := by
  unfold lg_cmp
  by_cases h : y < x
  · simp [h]
  · by_cases he : x = y
    · subst he; simp [Int64.lt_irrefl]
    · simp [h, he]
theorem cmp_eq {x y : Int64} : lg_cmp x y = 0 ↔ x = y := by
  unfold lg_cmp
  by_cases h : y < x
  · have h2 : ¬ x = y := fun q => by subst q; exact absurd h Int64.lt_irrefl
    simp [h, h2]
  · by_cases he : x = y
    · subst he; simp [Int64.lt_irrefl]
    · simp [h, he]
set_option maxHeartbeats 1000000 in
theorem s_stop {l : Launch} {G : Gm} {I : Nat → Nat → Int32} {J : Nat → Nat → Int64} {x : Int32} : Sp l G iX10_stop [.ref (G.1 + 103), .int x] (mm I J) (fun v M2 => v = some (.ref (G.1 + 112)) ∧ M2 = mm (up1 (up1 I 112 0 x) 112 1 (I 103 19)) J) noT := by
  refine Sp.of (by decide +kernel) (Nat.le_of_ble_eq_true rfl) ?_
  intro X hXl C
  subst hXl
  show Go X G 2 0 0 _ 0 [.ref (G.1 + 103), .int x] [] (mm I J)
  refine g_aload_n C dX10_stop_0 rfl ?_
  refine g_getR (ci := 10) (k := 13) (q := 112) C dX10_stop_1 rfl inGX10 (by decide) fwX10_41 ly_103 (by decide) rfl rfl ?_
  refine g_iload_n C dX10_stop_4 rfl ?_
  refine g_putN (k := 0) C rfl dX10_stop_5 (by decide) (by decide) rfl rfl rfl rfl rfl (by decide) ?_
  refine g_aload_n C dX10_stop_8 rfl ?_
  refine g_getR (ci := 10) (k := 13) (q := 112) C dX10_stop_9 rfl inGX10 (by decide) fwX10_41 ly_103 (by decide) rfl rfl ?_
  refine g_aload_n C dX10_stop_12 rfl ?_
  refine g_getIv (ci := 10) (k := 19) (v := I 103 19) C dX10_stop_13 rfl inGX10 (by decide) fwX10_114 ly_103 (by decide) rfl (by rw [up1_off (by decide)]) ?_
  refine g_putN (k := 1) C rfl dX10_stop_16 (by decide) (by decide) rfl rfl rfl rfl rfl (by decide) ?_
  refine g_aload_n C dX10_stop_19 rfl ?_
  refine g_getR (ci := 10) (k := 13) (q := 112) C dX10_stop_20 rfl inGX10 (by decide) fwX10_41 ly_103 (by decide) rfl rfl ?_
  exact g_aret C dX10_stop_23 rfl rfl rfl ⟨rfl, rfl⟩
