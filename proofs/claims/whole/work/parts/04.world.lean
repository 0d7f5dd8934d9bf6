/-! THE WORLD: 63 cells by fixed numbers, all references among them fixed; what changes is ints (first function) and longs (second), by cell and place. References 1000, 1001: the two static rows; 1002: the script. -/
abbrev Mem : Type := (Nat → Nat → Int32) × (Nat → Nat → Int64)
abbrev ShE : Type := (Nat × Nat × Nat) ⊕ (Nat × List Nat)
/-- a row: (kind 0 int, 1 long, 2 char, 3 rows of ints; its length; its first row's number); an object: (its class's number; its fields: 0 int, 1 long, 10 + k a reference to k) -/
def SHl : List ShE := [
  .inr (6, [11, 20, 22, 28, 32, 47, 49]),
  .inr (0, [12, 13, 14, 15, 16, 17, 18, 19, 0]),
  .inl (0, 12, 0), .inl (0, 12, 0), .inl (0, 12, 0), .inl (0, 12, 0), .inl (0, 12, 0), .inl (0, 12, 0), .inl (0, 12, 0), .inl (0, 3, 0),
  .inr (3, [21, 0, 0, 0, 0, 0, 0]),
  .inl (2, 80, 0),
  .inr (2, [23, 24, 25, 26, 27, 0, 0, 0]),
  .inl (1, 150, 0), .inl (1, 150, 0), .inl (0, 150, 0), .inl (0, 150, 0), .inl (0, 12, 0),
  .inr (5, [29, 30, 31]),
  .inl (1, 8, 0), .inl (1, 8, 0), .inl (0, 8, 0),
  .inr (1, [33, 40]),
  .inl (3, 6, 24), .inl (0, 8, 0), .inl (0, 8, 0), .inl (0, 8, 0), .inl (0, 8, 0), .inl (0, 8, 0), .inl (0, 8, 0),
  .inl (3, 6, 31), .inl (0, 8, 0), .inl (0, 8, 0), .inl (0, 8, 0), .inl (0, 8, 0), .inl (0, 8, 0), .inl (0, 8, 0),
  .inr (4, [48, 0, 0]),
  .inl (0, 12, 0),
  .inl (0, 8, 0),
  .inr (7, [0, 51, 52, 53, 54, 55, 56, 57, 58, 0, 59, 60, 0, 0, 61, 62, 63, 64, 65, 66, 67, 68, 1, 1, 0, 0, 69, 70, 71, 72]),
  .inl (0, 12, 0), .inl (0, 12, 0), .inl (0, 12, 0), .inl (0, 12, 0), .inl (0, 12, 0), .inl (0, 12, 0), .inl (0, 12, 0), .inl (0, 3, 0),
  .inl (0, 80, 0), .inl (0, 8, 0),
  .inl (0, 400, 0), .inl (0, 400, 0), .inl (0, 3200, 0), .inl (1, 400, 0), .inl (1, 400, 0),
  .inl (0, 8, 0), .inl (1, 9, 0), .inl (1, 9, 0),
  .inl (0, 5, 0), .inl (0, 6, 0), .inl (0, 6, 0), .inl (0, 12, 0)]
theorem SHl_len : SHl.length = 63 := rfl
theorem SHl_lt {k : Nat} {x : ShE} (h : SHl[k]? = some x) : k < 63 := by
  have := (List.getElem?_eq_some_iff.mp h).1
  rw [SHl_len] at this
  exact this
/-- a field's value by its code -/
def fvl (ad : Nat → Nat) (μ : Mem) (k j c : Nat) : Value := if c = 0 then .int (μ.1 k j) else if c = 1 then .long (μ.2 k j) else .ref (ad (c - 10))
def fv (ad : Nat → Nat) (μ : Mem) (k : Nat) : Nat → List Nat → List Value
  | _, [] => []
  | j, c :: t => fvl ad μ k j c :: fv ad μ k (j + 1) t
theorem fv_get (ad : Nat → Nat) (μ : Mem) (k : Nat) : ∀ (fl : List Nat) (j0 j : Nat), (fv ad μ k j0 fl)[j]? = (fl[j]?).map (fun c => fvl ad μ k (j0 + j) c)
  | [], j0, j => by simp [fv]
  | c :: t, j0, 0 => by simp [fv]
  | c :: t, j0, j + 1 => by
    rw [fv, List.getElem?_cons_succ, List.getElem?_cons_succ, fv_get ad μ k t (j0 + 1) j, show j0 + 1 + j = j0 + (j + 1) by omega]
theorem fv_len (ad : Nat → Nat) (μ : Mem) (k : Nat) : ∀ (fl : List Nat) (j0 : Nat), (fv ad μ k j0 fl).length = fl.length
  | [], j0 => rfl
  | c :: t, j0 => by rw [fv, List.length_cons, List.length_cons, fv_len ad μ k t (j0 + 1)]
/-- a cell as the kit has it -/
def ceA (ad : Nat → Nat) (μ : Mem) (k t n b : Nat) : (Nat → Int32) ⊕ (Nat → Int64) ⊕ (Nat → UInt32) ⊕ (Nat → UInt64) ⊕ (Nat → Option Nat) :=
  if t = 1 then .inr (.inl (μ.2 k)) else if t = 3 then .inr (.inr (.inr (.inr (fun j => if j < n then some (ad (b + j)) else none)))) else .inl (μ.1 k)
def ce (ad : Nat → Nat) (ca : Nat → ClassId) (μ : Mem) (k : Nat) : va_E := match SHl[k]? with
  | some (.inl (t, n, b)) => .inl (ca k, n, ceA ad μ k t n b)
  | some (.inr (ci, fl)) => .inr (ci, fv ad μ k 0 fl)
  | none => .inr (0, [])
def wsO (ad : Nat → Nat) (ca : Nat → ClassId) (μ : Mem) : va_W := (List.range 63).map (fun k => (ad k, ce ad ca μ k))
theorem wsO_get {ad : Nat → Nat} {ca : Nat → ClassId} {μ : Mem} {k : Nat} (hk : k < 63) : (wsO ad ca μ)[k]? = some (ad k, ce ad ca μ k) := by
  simp [wsO, hk]
theorem wsO_some {ad : Nat → Nat} {ca : Nat → ClassId} {μ : Mem} {k : Nat} {q : Nat × va_E} (h : (wsO ad ca μ)[k]? = some q) : k < 63 ∧ q = (ad k, ce ad ca μ k) := by
  have hl : k < 63 := by
    have := (List.getElem?_eq_some_iff.mp h).1
    simpa [wsO] using this
  rw [wsO_get hl] at h
  exact ⟨hl, (Option.some.inj h).symm⟩
theorem wsO_set {ad : Nat → Nat} {ca : Nat → ClassId} {μ μ' : Mem} {k : Nat} (h : ∀ j, j ≠ k → ce ad ca μ' j = ce ad ca μ j) : (wsO ad ca μ).set k (ad k, ce ad ca μ' k) = wsO ad ca μ' := by
  apply List.ext_getElem?
  intro i
  by_cases hi : i < 63
  · rw [List.getElem?_set, wsO_get hi, wsO_get hi]
    by_cases e : k = i
    · subst e
      simp [wsO, hi]
    · rw [if_neg e, h i (fun q => e q.symm)]
  · rw [List.getElem?_eq_none (by simp [wsO]; omega), List.getElem?_eq_none (by simp [wsO]; omega)]
theorem ce_row {ad : Nat → Nat} {ca : Nat → ClassId} {μ : Mem} {k t n b : Nat} (h : SHl[k]? = some (.inl (t, n, b))) : ce ad ca μ k = .inl (ca k, n, ceA ad μ k t n b) := by
  unfold ce
  rw [h]
theorem ce_obj {ad : Nat → Nat} {ca : Nat → ClassId} {μ : Mem} {k ci : Nat} {fl : List Nat} (h : SHl[k]? = some (.inr (ci, fl))) : ce ad ca μ k = .inr (ci, fv ad μ k 0 fl) := by
  unfold ce
  rw [h]
/-- one int, one long anew -/
def setI (μ : Mem) (k j : Nat) (v : Int32) : Mem := (fun a => if a = k then upd (μ.1 k) j v else μ.1 a, μ.2)
def setL (μ : Mem) (k j : Nat) (v : Int64) : Mem := (μ.1, fun a => if a = k then vp_updL (μ.2 k) j v else μ.2 a)
theorem fv_cong {ad : Nat → Nat} {μ μ' : Mem} {k : Nat} (h1 : μ'.1 k = μ.1 k) (h2 : μ'.2 k = μ.2 k) : ∀ (fl : List Nat) (j : Nat), fv ad μ' k j fl = fv ad μ k j fl
  | [], j => rfl
  | c :: t, j => by
    rw [fv, fv, fv_cong h1 h2 t (j + 1)]
    unfold fvl
    rw [h1, h2]
theorem ce_cong {ad : Nat → Nat} {ca : Nat → ClassId} {μ μ' : Mem} {k : Nat} (h1 : μ'.1 k = μ.1 k) (h2 : μ'.2 k = μ.2 k) : ce ad ca μ' k = ce ad ca μ k := by
  unfold ce
  split
  · unfold ceA
    rw [h1, h2]
  · rw [fv_cong h1 h2]
  · rfl
theorem ce_setI {ad : Nat → Nat} {ca : Nat → ClassId} {μ : Mem} {k i : Nat} {v : Int32} : ∀ j, j ≠ k → ce ad ca (setI μ k i v) j = ce ad ca μ j := fun j hj => ce_cong (by simp [setI, hj]) rfl
theorem ce_setL {ad : Nat → Nat} {ca : Nat → ClassId} {μ : Mem} {k i : Nat} {v : Int64} : ∀ j, j ≠ k → ce ad ca (setL μ k i v) j = ce ad ca μ j := fun j hj => ce_cong rfl (by simp [setL, hj])
theorem fv_set_gen {ad : Nat → Nat} {μ μ' : Mem} {k : Nat} : ∀ (fl : List Nat) (j0 j : Nat) (v : Value), (∀ i c, fl[i]? = some c → fvl ad μ' k (j0 + i) c = if i = j then v else fvl ad μ k (j0 + i) c) → (fv ad μ k j0 fl).set j v = fv ad μ' k j0 fl
  | [], j0, j, v, h => by simp [fv]
  | c :: t, j0, 0, v, h => by
    rw [fv, fv, List.set_cons_zero]
    have h0 := h 0 c rfl
    rw [if_pos rfl, Nat.add_zero] at h0
    rw [h0]
    congr 1
    have := fv_set_gen (μ := μ) (μ' := μ') (k := k) (ad := ad) t (j0 + 1) t.length v (fun i c hc => by
      have := h (i + 1) c (by rw [List.getElem?_cons_succ]; exact hc)
      rw [if_neg (by omega), show j0 + (i + 1) = j0 + 1 + i by omega] at this
      rw [this, if_neg (by have := (List.getElem?_eq_some_iff.mp hc).1; omega)])
    rw [← this, List.set_eq_of_length_le (by rw [fv_len]; exact Nat.le_refl _)]
  | c :: t, j0, j + 1, v, h => by
    rw [fv, fv, List.set_cons_succ]
    have h0 := h 0 c rfl
    rw [if_neg (by omega), Nat.add_zero] at h0
    rw [h0]
    congr 1
    exact fv_set_gen t (j0 + 1) j v (fun i c hc => by
      have := h (i + 1) c (by rw [List.getElem?_cons_succ]; exact hc)
      rw [show j0 + (i + 1) = j0 + 1 + i by omega] at this
      rw [this]
      by_cases e : i = j
      · rw [if_pos (by omega), if_pos e]
      · rw [if_neg (by omega), if_neg e])
theorem fv_setI {ad : Nat → Nat} {μ : Mem} {k j : Nat} {v : Int32} {fl : List Nat} (hc : fl[j]? = some 0) : (fv ad μ k 0 fl).set j (.int v) = fv ad (setI μ k j v) k 0 fl := by
  refine fv_set_gen fl 0 j _ (fun i c hi => ?_)
  rw [Nat.zero_add]
  by_cases e : i = j
  · subst e
    rw [hc] at hi
    cases hi
    simp [fvl, setI, upd]
  · rw [if_neg e]
    unfold fvl setI upd
    simp [e]
theorem fv_setL {ad : Nat → Nat} {μ : Mem} {k j : Nat} {v : Int64} {fl : List Nat} (hc : fl[j]? = some 1) : (fv ad μ k 0 fl).set j (.long v) = fv ad (setL μ k j v) k 0 fl := by
  refine fv_set_gen fl 0 j _ (fun i c hi => ?_)
  rw [Nat.zero_add]
  by_cases e : i = j
  · subst e
    rw [hc] at hi
    cases hi
    simp [fvl, setL, vp_updL]
  · rw [if_neg e]
    unfold fvl setL vp_updL
    simp [e]
