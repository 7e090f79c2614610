section KVF
variable {p : Program} {l : Launch} {e : Env} {R : Room} {s : State} {m : MethodId} {args : Array Value} {below : List Frame} {meth : Method} {c : Code} {H : Heap} {locs : List Loc} {cells slots : Nat} {Q : State → Prop}
variable {cc : ByteArray} {pc : Nat} {ls : Array Slot} {rest : List Value} {D : va_G} {cl : List vw_C} {A : Nat → Prop} {a : Nat} {tys : List (ClassId × FieldType)} {ws : va_W} {H0 : Heap}
theorem kv_putF (hexec : p.tables.exec = Jvm.exec) (hb : c.code = cc) {own ref C : String} {T : u_T} {N ci index : Nat} {Ts : List Cond} (hts : ∀ w ∈ Ts, w.before args s = true) (hin : ∀ w ∈ u_ws C T N, w ∈ Ts) (ty0 : Nat → FieldType) (hty : ∀ k, k < N → parseFieldDescriptor (T k).2.2.1 = some (ty0 k)) (hnm : ∀ a, a < N → ∀ b, b < N → a ≠ b → (T a).2.1 ≠ (T b).2.1) (hown : s.vm.findClass own = some m.cls) (hK : va_K D cl tys s) (hP : va_P D cl ws H) (hD : va_D A ws) (hS0 : va_S A H0 H locs) (q0 : Nat) {fs : List Value} (he : ws[q0]? = some (a, .inr (ci, fs))) (hc : cl[ci]? = some (C, T, N)) (k : Nat) (hk : k < N) (hlink : (Cond.fieldLink own index ref (T k).2.1 (T k).2.2.1).before args s = true) (hsame : ∀ x, s.fieldFound? (T k).1 (T k).2.1 (T k).2.2.1 = some x → s.fieldFound? ref (T k).2.1 (T k).2.2.1 = some x) (hfin : (T k).2.2.2 = true) (hin2 : meth.name = "<init>") (hdecl : (T k).1 = own) {ty : FieldType} {v : Value} (hd : parseFieldDescriptor (T k).2.2.1 = some ty) (hn : narrow ty v = v) (hfit : fits ty v = true) (hl : k < fs.length)
    (hdg : decode cc pc = .ok (.putfield index, 3)) (kk : ∀ (H1 : Heap) (locs1 : List Loc), H1.size = H.size → va_P D cl (ws.set q0 (a, .inr (ci, fs.set k v))) H1 → va_S A H0 H1 locs1 → W p l e R s m args below meth c H1 locs1 cells slots Q (F0 m (pc + 3) ls rest)) : W p l e R s m args below meth c H locs cells slots Q (F0 m pc ls (v :: .ref a :: rest)) := by
  have hap := va_apart (own := own) hts hin ty0 hty hnm hK hc
  obtain ⟨r, h1, cell, q1, q2, q3, q4⟩ := hP q0 _ he
  have hr : r = (C, T, N) := Option.some.inj (h1.symm.trans hc)
  subst hr
  obtain ⟨hS, hfc, kC, hkC, hkind⟩ := hK.1 ci _ hc
  obtain ⟨cf, kf, fi, f, hi, hsl⟩ := hS k hk
  have hlay := hts _ (hin _ (u_in_lay hk))
  unfold u_lay at hlay
  rw [if_pos hfin] at hlay
  have hst := (u_facts hfc hkC (u_lays hts hin hk) hi).1
  have hcf : m.cls = cf := by
    obtain ⟨_, _, c', _, _, _, -, -, hf', -, -, -, hown2, -⟩ := Cond.laysFinal_spec hlay
    have e1 : c' = cf := by have := hi.symm.trans hf'; simp at this; exact this.1.symm
    rw [hdecl] at hown2
    rw [← e1]; exact Option.some.inj (hown.symm.trans hown2)
  have h6 := u_fits hfc hkC hkind (Or.inr hlay) hi hd hn hfit
  refine W.putFinK hexec hb hown hlink (hsame _ hi) hst hcf hin2 (by rw [q2]; exact h6) q1 q3 (by rw [hsl]; exact k2_hasslot (q4 k hk)) rfl rfl hdg fun H' e1 e2 e3 => ?_
  rw [hsl] at e1 ⊢
  exact kk H' _ e2 (hP.set hD he ⟨_, hc, t_OB.to (V := updV (vp_V fs) k v) ⟨_, e1, q2, q3, t_set q4 hap hk v⟩ (fun j _ => vp_updV_set hl v j)⟩ e3) (hS0.put e2 e3 (hD.2 q0 _ he))
end KVF
section MK2
variable {X : CX} {G : Gm} {Y : MI} {nL cells slots : Nat} {Q : State → Prop} {pc : Nat} {L st : List Value} {I : Nat → Nat → Int32} {J : Nat → Nat → Int64} {S : List (Nat × Nat)} {n : Nat}
/-- a final field of a reference, in its constructor -/
theorem g_putRF {ci o k q idx : Nat} {CN : String} {TT : u_T} {N : Nat} {ty0 : Nat → FieldType} {ty : FieldType} (C : Cx X G Y) (d : decode Y.2.1 pc = .ok (.putfield idx, 3)) (hc : kCl[ci]? = some (CN, TT, N)) (hin : ∀ w ∈ u_ws CN TT N, w ∈ GT) (hty : ∀ k, k < N → parseFieldDescriptor (TT k).2.2.1 = some (ty0 k)) (hnm : ∀ a, a < N → ∀ b, b < N → a ≠ b → (TT a).2.1 ≠ (TT b).2.1) (hk : k < N) (hlk : Cond.fieldLink Y.1.cls idx (TT k).1 (TT k).2.1 (TT k).2.2.1 ∈ GT) (hl : lay o = (0, ci)) (ho : o < n) (ht : (kF ci)[k]? = some 1) (hfin : (TT k).2.2.2 = true) (hini : Y.1.name = "<init>") (hdecl : (TT k).1 = Y.1.cls) (hd : parseFieldDescriptor (TT k).2.2.1 = some ty) (hn1 : ∀ a : Nat, narrow ty (.ref a) = .ref a) (hfit : ∀ a : Nat, fits ty (.ref a) = true) (hq : rf0 o k = some q)
    (kk : Go X G nL cells slots Q (pc + 3) L st (I, J, rr ((o, k) :: S), n)) : Go X G nL cells slots Q pc L (.ref (G.1 + q) :: .ref (G.1 + o) :: st) (I, J, rr S, n) := fun H locs ls h1 h2 h3 => by
  rw [← rr_up] at kk
  let M : Mm := (I, J, rr S, n)
  let M' : Mm := (I, J, upR (rr S) o k (rf0 o k), n)
  refine kv_putF (D := G.2.1) (Ts := GT) C.1 C.2.1 C.2.2.2.2.1 hin ty0 hty hnm C.2.2.2.1 C.2.2.2.2.2.1.1 h1.1 (wsM_D G M) h2 o (wsM_obj (M := M) hl ho) hc k hk (C.2.2.2.2.1 _ hlk) (fun _ h => h) hfin (by rw [C.2.2.2.2.2.2.2.2.1]; exact hini) hdecl hd (hn1 _) (hfit _) (by rw [fvs_len]; exact (List.getElem?_eq_some_iff.mp ht).1) d (fun H1 locs1 hz hP hS => ?_)
  have hv : fvl G.1 M' o k 1 = .ref (G.1 + q) := by
    show va_rf ((upR (rr S) o k (rf0 o k) o k).map (G.1 + ·)) = _
    rw [show upR (rr S) o k (rf0 o k) o k = rf0 o k by simp [upR], hq]; rfl
  have hw : (wsM G M).set o (G.1 + o, .inr (ci, (fvs G.1 M o ci).set k (.ref (G.1 + q)))) = wsM G M' := by
    rw [← hv, fvs_set ht (fun j u hj => fvl_off rfl rfl (by simp [upR, hj])), ← wsM_set (M := M) (M' := M') rfl (fun q hq => cEl_eq _ rfl rfl (upR_off hq)), hl]; rfl
  rw [hw] at hP
  exact kk H1 locs1 ls ⟨hP, by rw [hz]; exact h1.2.1, by rw [hz]; exact h1.2.2.1, h1.2.2.2⟩ hS h3
/-- a sheet is laid into the plan's row -/
theorem g_aast {p : Nat} (C : Cx X G Y) (d : decode Y.2.1 pc = .ok (.aastore, 1)) (hp : p < 10) (hn : 6 + 6 * p < n) (hn5 : 5 < n)
    (kk : Go X G nL cells slots Q (pc + 1) L st (I, J, rr ((5, p) :: S), n)) : Go X G nL cells slots Q pc L (.ref (G.1 + (6 + 6 * p)) :: .int (nI p) :: .ref (G.1 + 5) :: st) (I, J, rr S, n) := fun H locs ls h1 h2 h3 => by
  rw [← rr_up] at kk
  let M : Mm := (I, J, rr S, n)
  let M' : Mm := (I, J, upR (rr S) 5 p (rf0 5 p), n)
  have hK : va_K G.2.1 kCl (kTys G) X.s := C.2.2.2.2.2.1.1
  have hP := h1.1
  have hl5 : lay 5 = (5, 10) := by decide
  have hls : lay (6 + 6 * p) = (0, 5) := ly_sh hp
  have ha : (wsM G M)[5]? = some (G.1 + 5, .inl (G.2.2.1 5, 10, .inr (.inr (.inr (.inr fun k => (rr S 5 k).map (G.1 + ·)))))) := by
    rw [wsM_get (M := M) hn5, hl5]; rfl
  have hcm : (nI p).toNatClampNeg = p := nI_clamp (by omega)
  obtain ⟨r', hr', cellV, g1, g2, g3, -⟩ := hP (6 + 6 * p) _ (wsM_obj (M := M) hls hn)
  have hcls := (hK.1 5 _ (show kCl[5]? = some (RX5, TX5, 6) from rfl)).2
  obtain ⟨kA, comp, k1, k2, k3, -⟩ := (hK.2 5 _ (show (kTys G)[5]? = some (G.2.2.1 5, .object "RightsHouse$Sheet") from rfl)).2
  have hcomp : comp = G.2.1.1 5 := Option.some.inj (k3.symm.trans hcls.1)
  subst hcomp
  obtain ⟨kC, hkC, -⟩ := hcls.2
  refine W.aast C.1 C.2.1 (hP 5 _ ha) (fun q h => by cases h) (fun h => by cases h) k1 k2 rfl hkC ⟨nI_pos (by omega), by show _ < (arrV _ _ _).slots.size; rw [arrV_size, hcm]; exact hp⟩ g1 (fun q h => by rw [g3] at h; cases h) (by rw [g2]; exact hkC) (by rw [g2]; exact va_assign hcls) (g := F0 X.m pc ls (.ref (G.1 + (6 + 6 * p)) :: .int (nI p) :: .ref (G.1 + 5) :: st)) rfl rfl d fun H1 e z oq => ?_
  have hD := wsM_D G M
  have hP1 := hP.set hD ha (e := .inl (G.2.2.1 5, 10, .inr (.inr (.inr (.inr fun k => (upR (rr S) 5 p (rf0 5 p) 5 k).map (G.1 + ·)))))) (by
    show H1[G.1 + 5]? = some (vp_cell _ _)
    rw [e, vp_cell_q, vp_cell_q, arrV_store, hcm]
    congr 2
    funext q
    by_cases hq : q = p
    · subst hq
      simp [updV, upR, va_rf, rf_shs hp]
    · simp [updV, upR, hq]) oq
  have hw : (wsM G M).set 5 (G.1 + 5, .inl (G.2.2.1 5, 10, .inr (.inr (.inr (.inr fun k => (upR (rr S) 5 p (rf0 5 p) 5 k).map (G.1 + ·)))))) = wsM G M' := by
    rw [← wsM_set (M := M) (M' := M') rfl (fun q hq => cEl_eq _ rfl rfl (upR_off hq)), hl5]; rfl
  rw [hw] at hP1
  exact kk H1 _ ls ⟨hP1, by rw [z]; exact h1.2.1, by rw [z]; exact h1.2.2.1, h1.2.2.2⟩ (h2.put z oq (hD.2 5 _ ha)) h3
end MK2
