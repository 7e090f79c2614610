/-! ## the good words of the tables; every method of the system has them all -/
def GT : List Cond := lw_tbl.filter goodWord
theorem GT_in {w : Cond} (h : w ∈ lw_tbl) (hg : goodWord w = true) : w ∈ GT := List.mem_filter.mpr ⟨h, hg⟩
theorem GT_at {w : Cond} (i : Nat) (h : tables_1[i]? = some w) (hg : goodWord w = true) : w ∈ GT := GT_in (List.mem_append_right _ (List.mem_of_getElem? h)) hg
theorem GT_sel {w : Cond} (i : Nat) (h : (k2_sels lw_privs)[i]? = some w) (hg : goodWord w = true) : w ∈ GT := GT_in (List.mem_append_left _ (List.mem_of_getElem? h)) hg
theorem GT_good {w : Cond} (h : w ∈ GT) : (w.onTables && w.keeps) = true ∨ ∃ ty, w = .arrayClass ty := good_of_word (List.mem_filter.mp h).2
theorem GT_sub {c c' : Cond} (h : c' ∈ GT) : GoodIn (c :: GT) (c' :: GT) := by
  intro w hw
  have hw' : w ∈ GT := by
    rcases List.mem_cons.mp hw with rfl | h2
    · exact h
    · exact h2
  exact ⟨List.mem_cons_of_mem _ hw', GT_good hw'⟩
theorem GT_sub0 {c' : Cond} (h : c' ∈ GT) : GoodIn GT (c' :: GT) := by
  intro w hw
  have hw' : w ∈ GT := by
    rcases List.mem_cons.mp hw with rfl | h2
    · exact h
    · exact h2
  exact ⟨hw', GT_good hw'⟩
theorem GT_subL {c' : Cond} (h : c' ∈ GT) : GoodIn lw_tbl (c' :: GT) := by
  intro w hw
  have hw' : w ∈ GT := by
    rcases List.mem_cons.mp hw with rfl | h2
    · exact h
    · exact h2
  exact ⟨(List.mem_filter.mp hw').1, GT_good hw'⟩
/-! ## the memory: whole numbers, longs, references (by their places behind the base), how many cells there are -/
abbrev Mm : Type := (Nat → Nat → Int32) × (Nat → Nat → Int64) × (Nat → Nat → Option Nat) × Nat
/-- base; classes and their slots; the classes of arrays; where the String constants lie, and their bytes -/
abbrev Gm : Type := Nat × va_G × (Nat → ClassId) × (Nat → Nat) × (Nat → Nat)
def TS9 : u_T := fun k => match k with
  | 0 => ("RightsHouseModel$Stop", "kind", "I", false)
  | _ => ("RightsHouseModel$Stop", "place", "I", false)
def tyS9 : Nat → FieldType := fun _ => .int
theorem nmS9 : ∀ a, a < 2 → ∀ b, b < 2 → a ≠ b → (TS9 a).2.1 ≠ (TS9 b).2.1 := by decide +kernel
theorem tyS9_ok : ∀ k, k < 2 → parseFieldDescriptor (TS9 k).2.2.1 = some (tyS9 k) := by decide +kernel
def kCl : List vw_C := [(RX0, TX0, 4), (RX1, TX1, 11), (RX2, TX2, 3), (RX3, TX3, 11), (RX4, TX4, 9), (RX5, TX5, 6), (RX6, TX6, 2), (RX7, TX7, 5), (RX8, TX8, 9), (RX9, TS9, 2), (RX10, TX10, 35)]
/-- the kinds of a class's fields: 0 a whole number, 1 a reference, 2 a long -/
def kF (c : Nat) : List Nat := match c with
  | 0 => [1, 1, 1, 1]
  | 1 => [1, 1, 1, 1, 1, 1, 1, 1, 1, 0, 0]
  | 2 => [1, 1, 0]
  | 3 => [1, 1, 0, 0, 0, 0, 0, 0, 0, 0, 0]
  | 4 => [1, 1, 1, 1, 1, 1, 1, 0, 0]
  | 5 => [1, 1, 1, 1, 1, 0]
  | 6 => [1, 0]
  | 7 => [1, 1, 1, 1, 0]
  | 8 => [1, 1, 1, 1, 1, 1, 1, 0, 0]
  | 9 => [0, 0]
  | 10 => [0, 0, 0, 0, 0, 1, 1, 1, 1, 1, 1, 1, 1, 1, 1, 0, 0, 0, 0, 0, 0, 0, 2, 1, 1, 1, 1, 1, 1, 1, 0, 1, 1, 1, 0]
  | _ => []
/-- what lies at each place: (0, class), (1, n) int[n], (2, n) byte[n], (3, n) boolean[n], (4, n) long[n], (5, n) Sheet[n], (6, n) int[n][] -/
def layL : List (Nat × Nat) := [(0, 8), (0, 6), (1, 300), (0, 2), (1, 10), (5, 10)]
  ++ (List.replicate 10 [(0, 5), (1, 12), (1, 12), (1, 12), (1, 12), (1, 12)]).flatten
  ++ [(0, 3), (0, 5), (1, 12), (1, 12), (1, 12), (1, 12), (1, 12), (0, 1), (1, 10), (1, 10), (1, 10), (1, 250), (1, 480), (1, 480), (1, 480), (6, 10)]
  ++ List.replicate 10 (1, 250)
  ++ [(0, 0), (1, 16), (1, 16), (0, 7), (1, 250), (1, 91), (0, 4), (1, 10), (1, 16), (1, 10), (1, 10),
      (0, 10), (1, 10), (1, 11), (1, 16), (1, 132), (1, 132), (1, 132), (1, 132), (1, 528), (0, 9), (2, 300), (1, 80), (1, 80), (1, 10), (1, 16), (3, 10), (1, 91), (1, 92), (1, 10), (1, 10), (1, 16), (4, 1)]
theorem layL_length : layL.length = 125 := by decide +kernel
def lay (o : Nat) : Nat × Nat := layL.getD o (9, 0)
def fvl (B : Nat) (M : Mm) (o k t : Nat) : Value := match t with
  | 0 => .int (M.1 o k)
  | 1 => va_rf ((M.2.2.1 o k).map (B + ·))
  | _ => .long (M.2.1 o k)
def fvs (B : Nat) (M : Mm) (o n : Nat) : List Value := (List.range (kF n).length).map fun k => fvl B M o k ((kF n).getD k 0)
def cEl (G : Gm) (M : Mm) (o : Nat) (ly : Nat × Nat) : va_E := match ly.1 with
  | 0 => .inr (ly.2, fvs G.1 M o ly.2)
  | 1 => .inl (G.2.2.1 1, ly.2, .inl (M.1 o))
  | 2 => .inl (G.2.2.1 2, ly.2, .inl (M.1 o))
  | 3 => .inl (G.2.2.1 3, ly.2, .inl (M.1 o))
  | 4 => .inl (G.2.2.1 4, ly.2, .inr (.inl (M.2.1 o)))
  | 5 => .inl (G.2.2.1 5, ly.2, .inr (.inr (.inr (.inr fun k => (M.2.2.1 o k).map (G.1 + ·)))))
  | _ => .inl (G.2.2.1 6, ly.2, .inr (.inr (.inr (.inr fun k => (M.2.2.1 o k).map (G.1 + ·)))))
def wsM (G : Gm) (M : Mm) : va_W := (List.range M.2.2.2).map fun o => (G.1 + o, cEl G M o (lay o))
def kTys (G : Gm) : List (ClassId × FieldType) := [(G.2.2.1 0, .int), (G.2.2.1 1, .int), (G.2.2.1 2, .byte), (G.2.2.1 3, .boolean), (G.2.2.1 4, .long), (G.2.2.1 5, .object "RightsHouse$Sheet"), (G.2.2.1 6, .array .int)]
theorem wsM_get {G : Gm} {M : Mm} {o : Nat} (h : o < M.2.2.2) : (wsM G M)[o]? = some (G.1 + o, cEl G M o (lay o)) := by
  unfold wsM
  rw [List.getElem?_map, List.getElem?_range h]
  rfl
theorem wsM_len (G : Gm) (M : Mm) : (wsM G M).length = M.2.2.2 := by simp [wsM]
theorem wsM_D (G : Gm) (M : Mm) : va_D (fun q => G.1 ≤ q) (wsM G M) := by
  refine ⟨fun i j p q hp hq he => ?_, fun k q hk => ?_⟩
  · have hi : i < M.2.2.2 := by have := (List.getElem?_eq_some_iff.mp hp).1; rwa [wsM_len] at this
    have hj : j < M.2.2.2 := by have := (List.getElem?_eq_some_iff.mp hq).1; rwa [wsM_len] at this
    rw [wsM_get hi] at hp
    rw [wsM_get hj] at hq
    cases hp; cases hq
    simp only at he
    omega
  · have hi : k < M.2.2.2 := by have := (List.getElem?_eq_some_iff.mp hk).1; rwa [wsM_len] at this
    rw [wsM_get hi] at hk
    cases hk
    show G.1 ≤ G.1 + k
    omega
theorem wsM_set {G : Gm} {M M' : Mm} {o : Nat} (hn : M'.2.2.2 = M.2.2.2) (he : ∀ q, q ≠ o → cEl G M' q (lay q) = cEl G M q (lay q)) : (wsM G M).set o (G.1 + o, cEl G M' o (lay o)) = wsM G M' := by
  apply List.ext_getElem?
  intro i
  rw [List.getElem?_set]
  by_cases hi : i < M.2.2.2
  · rw [wsM_get (M := M') (by rw [hn]; exact hi)]
    by_cases h : o = i
    · subst h
      rw [if_pos rfl, if_pos (by rw [wsM_len]; exact hi)]
    · rw [if_neg h, wsM_get hi, he i (fun e => h e.symm)]
  · have h1 : (wsM G M')[i]? = none := List.getElem?_eq_none (by rw [wsM_len, hn]; omega)
    rw [h1]
    by_cases h : o = i
    · subst h
      rw [if_pos rfl, if_neg (by rw [wsM_len]; exact hi)]
    · rw [if_neg h]
      exact List.getElem?_eq_none (by rw [wsM_len]; omega)
/-- the heap holds the memory -/
def Rp (G : Gm) (M : Mm) (H : Heap) : Prop := va_P G.2.1 kCl (wsM G M) H ∧ G.1 + M.2.2.2 ≤ H.size ∧ (M.2.2.2 < 125 → H.size = G.1 + M.2.2.2) ∧ M.2.2.2 ≤ 125
def up1 (I : Nat → Nat → Int32) (o k : Nat) (x : Int32) : Nat → Nat → Int32 := fun a b => if a = o ∧ b = k then x else I a b
def upJ (I : Nat → Nat → Int64) (o k : Nat) (x : Int64) : Nat → Nat → Int64 := fun a b => if a = o ∧ b = k then x else I a b
def upR (I : Nat → Nat → Option Nat) (o k : Nat) (x : Option Nat) : Nat → Nat → Option Nat := fun a b => if a = o ∧ b = k then x else I a b
theorem up1_same (I : Nat → Nat → Int32) (o k : Nat) (x : Int32) : up1 I o k x o k = x := by simp [up1]
theorem up1_row (I : Nat → Nat → Int32) (o k : Nat) (x : Int32) : up1 I o k x o = upd (I o) k x := by
  funext j; simp [up1, upd]
theorem up1_off {I : Nat → Nat → Int32} {o k : Nat} {x : Int32} {q : Nat} (h : q ≠ o) : up1 I o k x q = I q := by
  funext j; simp [up1, h]
theorem upJ_off {I : Nat → Nat → Int64} {o k : Nat} {x : Int64} {q : Nat} (h : q ≠ o) : upJ I o k x q = I q := by
  funext j; simp [upJ, h]
theorem upR_off {I : Nat → Nat → Option Nat} {o k : Nat} {x : Option Nat} {q : Nat} (h : q ≠ o) : upR I o k x q = I q := by
  funext j; simp [upR, h]
theorem cEl_eq {G : Gm} {M M' : Mm} {q : Nat} (ly : Nat × Nat) (h1 : M'.1 q = M.1 q) (h2 : M'.2.1 q = M.2.1 q) (h3 : M'.2.2.1 q = M.2.2.1 q) : cEl G M' q ly = cEl G M q ly := by
  unfold cEl fvs fvl
  rw [h1, h2, h3]
