/-! THE ENGINE: a judgement WP over the fixed world, a rule an instruction -/
def tyF (t : Nat) : FieldType := if t = 0 then .int else if t = 1 then .long else if t = 2 then .char else .array .int
def lwG : List Cond := lw_tbl.filter goodWord
def lwN : List (String × Nat × MethodName × String) := [(RX0, 45, yX6_isWithin, "FairBoards"), (RX0, 52, yX6_rateUpper, "FairBoards"), (RX2, 88, yX6_rateUpper, "FairBoards"), (RX2, 95, yX6_isAbove, "FairBoards"), (RX5, 48, yX6_isAbove, "FairBoards"), (RX5, 52, yX6_greatestDivisor, "FairBoards"), (RX5, 56, yX6_inLowestTerms, "FairBoards")]
/-- the tables' part of the world -/
def Wk (D : va_G) (ca : Nat → ClassId) (U : State) : Prop :=
  (∀ (c : Nat) (q : vw_C), vwCl[c]? = some q → u_Kn U q.1 q.2.1 q.2.2 (D.1 c) (D.2 c)) ∧
  (∀ (k t n b : Nat), SHl[k]? = some (.inl (t, n, b)) → ArrOfT U (ca k) (tyF t) ∧ va_RA U (ca k) (tyF t)) ∧
  ∀ q ∈ lwN, va_Nw (.methodLinkNest q.1 q.2.1 q.2.2.1 q.2.2.2) U
def cst0 (j : Nat) : Int32 := if j = 2 then 1 else 0
def cst1 (j : Nat) : Int32 := if j = 1 then 99 else 98
/-- the static rows -/
def Wst (ad : Nat → Nat) (A : Nat → Prop) (U : State) (H : Heap) : Prop :=
  (va_Z "FairBoards" "LEAST_SETTING" "[I" (.ref (ad 1000)) A U H ∧ va_T .int (ad 1000) 3 (fun j => .int (cst0 j)) A U H) ∧
  (va_Z "FairBoards" "GREATEST_SETTING" "[I" (.ref (ad 1001)) A U H ∧ va_T .int (ad 1001) 3 (fun j => .int (cst1 j)) A U H)
def Inj (ad : Nat → Nat) : Prop := ∀ i j, i < 63 → j < 63 → ad i = ad j → i = j
def Aad (ad : Nat → Nat) : Nat → Prop := fun q => ∃ k, k < 63 ∧ q = ad k
abbrev Scr : Type := Option (Nat × (Nat → Int32))
def Wsc (sc : Scr) (ad : Nat → Nat) (A : Nat → Prop) (U : State) (H : Heap) : Prop := match sc with
  | none => True
  | some (L, xs) => va_X (ad 1002) L xs U H ∧ ad 1002 < H.size ∧ ¬ A (ad 1002)
theorem Wk.moved {D : va_G} {ca : Nat → ClassId} {u U : State} (hW : u.WarmedH U.vm) (h : Wk D ca u) : Wk D ca U :=
  ⟨fun c q hq => u_Kn_moved hW.alike (h.1 c q hq), fun k t n b hk => ⟨arrOfT_moved hW.alike (h.2.1 k t n b hk).1, (h.2.1 k t n b hk).2.moved hW.alike⟩, fun q hq => va_Nw.warmM hW (h.2.2 q hq)⟩
theorem Wk.K {D : va_G} {ca : Nat → ClassId} {U : State} (h : Wk D ca U) : va_K D vwCl [] U := ⟨h.1, fun k q hk => by simp at hk⟩
theorem Wk.K1 {D : va_G} {ca : Nat → ClassId} {U : State} (h : Wk D ca U) {k t n b : Nat} (hk : SHl[k]? = some (.inl (t, n, b))) : va_K D vwCl [(ca k, tyF t)] U := ⟨h.1, fun j q hj => by
  have h0 : j < 1 := (List.getElem?_eq_some_iff.mp hj).1
  rw [show j = 0 by omega] at hj
  cases hj
  exact h.2.1 k t n b hk⟩
theorem Wk.K2 {D : va_G} {ca : Nat → ClassId} {U : State} (h : Wk D ca U) {k t n b k' t' n' b' : Nat} (hk : SHl[k]? = some (.inl (t, n, b))) (hk' : SHl[k']? = some (.inl (t', n', b'))) : va_K D vwCl [(ca k, tyF t), (ca k', tyF t')] U := (h.K1 hk).app (h.K1 hk')
theorem Wst.moved {ad : Nat → Nat} {A B : Nat → Prop} {u U : State} {H H1 : Heap} (hvm : u.vm.Alike U.vm) (hAB : ∀ q, B q → A q) (hq : ∀ a : Nat, a < H.size → ¬ A a → H1[a]? = H[a]?) (h : Wst ad A u H) : Wst ad B U H1 :=
  ⟨⟨((h.1.1.kept hq).moved hvm).narrow hAB, ((h.1.2.kept hq).moved hvm).narrow hAB⟩, ⟨((h.2.1.kept hq).moved hvm).narrow hAB, ((h.2.2.kept hq).moved hvm).narrow hAB⟩⟩
/-- a value with cells' numbers for references, as the machine has it -/
def cv (ad : Nat → Nat) : Value → Value
  | .ref k => .ref (ad k)
  | v => v
theorem cv_cat (ad : Nat → Nat) (v : Value) : (cv ad v).category = v.category := by cases v <;> rfl
def cvL (ad : Nat → Nat) (l : List (Nat × Value)) : List (Nat × Value) := l.map (fun q => (q.1, cv ad q.2))
def cvS (ad : Nat → Nat) (l : List Value) : List Value := l.map (cv ad)
/-- a method: its class's name, its locals, its answer's type, its depth, the script (the law alone) -/
abbrev Mt : Type := String × Nat × Option FieldType × Nat × Scr
def rmD (d : Nat) : Room := { frames := d, cells := 0, slots := 0, locals := 60 * d }
def Ctx (cc : ByteArray) (mt : Mt) (p : Program) (R : Room) (s : State) (m : MethodId) (args : Array Value) (c : Code) (D : va_G) (ad : Nat → Nat) (ca : Nat → ClassId) (A : Nat → Prop) (cells slots : Nat) : Prop :=
  p.tables.exec = Jvm.exec ∧ c.code = cc ∧ c.maxLocals = mt.2.1 ∧ s.vm.findClass mt.1 = some m.cls ∧ (∀ w ∈ lwG, w.before args s = true) ∧
  Wk D ca s ∧ Wst ad A s s.heap ∧ Inj ad ∧ (∀ k, k < 63 → A (ad k)) ∧ (mt.2.2.2.1 ≤ R.frames ∧ 60 * mt.2.2.2.1 ≤ R.locals) ∧ (cells ≤ R.cells ∧ slots ≤ R.slots) ∧ Wsc mt.2.2.2.2 ad A s s.heap
/-- what may be answered by a method of a type -/
def okR (ret : Option FieldType) (v : Option Value) : Prop := match ret, v with
  | none, none => True
  | some .long, some (.long _) => True
  | some .long, _ => False
  | some ty, some (.int x) => narrow ty (.int x) = .int x ∧ (ty = .int ∨ ty = .boolean)
  | _, _ => False
def rIns (v : Option Value) (cc : ByteArray) (pc : Nat) : Prop := match v with
  | none => decode cc pc = .ok (.return_, 1)
  | some (.int _) => decode cc pc = .ok (.ireturn, 1)
  | some (.long _) => decode cc pc = .ok (.lreturn, 1)
  | _ => False
def WP (cc : ByteArray) (mt : Mt) (pc : Nat) (ls : List (Nat × Value)) (st : List Value) (μ : Mem) (Q : Option Value → Mem → Prop) : Prop :=
  ∀ (p : Program) (l : Launch) (e : Env) (R : Room) (s : State) (m : MethodId) (args : Array Value) (below : List Frame) (meth : Method) (c : Code) (D : va_G) (ad : Nat → Nat) (ca : Nat → ClassId) (A : Nat → Prop) (cells slots : Nat) (Qz : State → Prop),
    Ctx cc mt p R s m args c D ad ca A cells slots →
    (∀ (v : Option Value) (μ' : Mem) (H' : Heap) (locs' : List Loc) (pc' : Nat) (la : Array Slot), Q v μ' → okR mt.2.2.1 v → va_P D vwCl (wsO ad ca μ') H' → va_S A s.heap H' locs' → rIns v cc pc' → W p l e R s m args below meth c H' locs' cells slots Qz (F0 m pc' la v.toList)) →
    ∀ (H : Heap) (locs : List Loc), va_P D vwCl (wsO ad ca μ) H → va_S A s.heap H locs → ∀ la : Array Slot, lv_has la mt.2.1 (cvL ad ls) → W p l e R s m args below meth c H locs cells slots Qz (F0 m pc la (cvS ad st))
theorem wsO_D {ad : Nat → Nat} {ca : Nat → ClassId} {μ : Mem} {A : Nat → Prop} (hi : Inj ad) (hA : ∀ k, k < 63 → A (ad k)) : va_D A (wsO ad ca μ) := by
  refine ⟨fun i j x y hx hy hxy => ?_, fun k q hq => ?_⟩
  · obtain ⟨h1, rfl⟩ := wsO_some hx
    obtain ⟨h2, rfl⟩ := wsO_some hy
    exact hi i j h1 h2 hxy
  · obtain ⟨h1, rfl⟩ := wsO_some hq
    exact hA k h1
/-- the locals: by name, a store -/
def lk : List (Nat × Value) → Nat → Option Value
  | [], _ => none
  | (j, w) :: t, i => if j = i then some w else lk t i
theorem lk_mem : ∀ {l : List (Nat × Value)} {i : Nat} {v : Value}, lk l i = some v → (i, v) ∈ l
  | [], i, v, h => by cases h
  | (j, w) :: t, i, v, h => by
    rw [lk] at h
    by_cases e : j = i
    · rw [if_pos e] at h
      cases h
      rw [e]
      exact List.mem_cons_self
    · rw [if_neg e] at h
      exact List.mem_cons_of_mem _ (lk_mem h)
theorem lk_at {ad : Nat → Nat} {la : Array Slot} {n : Nat} {l : List (Nat × Value)} (h : lv_has la n (cvL ad l)) {i : Nat} {v : Value} (hk : lk l i = some v) : la[i]? = some (.val (cv ad v)) :=
  h.2.2 (i, cv ad v) (List.mem_map.mpr ⟨(i, v), lk_mem hk, rfl⟩)
def lset : List (Nat × Value) → Nat → Value → List (Nat × Value)
  | [], i, v => [(i, v)]
  | (j, w) :: t, i, v => if j = i then (i, v) :: t.filter (fun q => !(q.1 == i)) else (j, w) :: lset t i v
theorem lset_mem : ∀ {l : List (Nat × Value)} {i : Nat} {v : Value} {q : Nat × Value}, q ∈ lset l i v → q = (i, v) ∨ (q ∈ l ∧ q.1 ≠ i)
  | [], i, v, q, h => Or.inl (by simpa [lset] using h)
  | (j, w) :: t, i, v, q, h => by
    rw [lset] at h
    by_cases e : j = i
    · rw [if_pos e] at h
      rcases List.mem_cons.mp h with h | h
      · exact Or.inl h
      · obtain ⟨h1, h2⟩ := List.mem_filter.mp h
        exact Or.inr ⟨List.mem_cons_of_mem _ h1, by simpa using h2⟩
    · rw [if_neg e] at h
      rcases List.mem_cons.mp h with h | h
      · rw [h]
        exact Or.inr ⟨List.mem_cons_self, e⟩
      · rcases lset_mem h with h | h
        · exact Or.inl h
        · exact Or.inr ⟨List.mem_cons_of_mem _ h.1, h.2⟩
/-- a store of one slot; of two -/
def st1 (l : List (Nat × Value)) (i : Nat) (v : Value) : List (Nat × Value) := lset (l.filter (fun q => !(q.1 + 1 == i && q.2.category == 2))) i v
def st2 (l : List (Nat × Value)) (i : Nat) (v : Value) : List (Nat × Value) := lset (l.filter (fun q => !(q.1 == i + 1) && !(q.1 + 1 == i && q.2.category == 2))) i v
theorem st1_has {ad : Nat → Nat} {la : Array Slot} {n : Nat} {l : List (Nat × Value)} {i : Nat} {v : Value} (h : lv_has la n ((i, cv ad v) :: (cvL ad l).filter (fun q => !(q.1 == i) && !(q.1 + 1 == i && q.2.category == 2)))) : lv_has la n (cvL ad (st1 l i v)) := by
  refine ⟨h.1, h.2.1, fun q hq => h.2.2 q ?_⟩
  obtain ⟨x, hx, rfl⟩ := List.mem_map.mp hq
  rcases lset_mem hx with rfl | ⟨hx, hne⟩
  · exact List.mem_cons_self
  · obtain ⟨h1, h2⟩ := List.mem_filter.mp hx
    refine List.mem_cons_of_mem _ (List.mem_filter.mpr ⟨List.mem_map.mpr ⟨x, h1, rfl⟩, ?_⟩)
    simp only [cv_cat]
    simp only [Bool.and_eq_true]
    exact ⟨by simpa using hne, h2⟩
theorem st2_has {ad : Nat → Nat} {la : Array Slot} {n : Nat} {l : List (Nat × Value)} {i : Nat} {v : Value} (h : lv_has la n ((i, cv ad v) :: (cvL ad l).filter (fun q => !(q.1 == i) && (!(q.1 == i + 1) && !(q.1 + 1 == i && q.2.category == 2))))) : lv_has la n (cvL ad (st2 l i v)) := by
  refine ⟨h.1, h.2.1, fun q hq => h.2.2 q ?_⟩
  obtain ⟨x, hx, rfl⟩ := List.mem_map.mp hq
  rcases lset_mem hx with rfl | ⟨hx, hne⟩
  · exact List.mem_cons_self
  · obtain ⟨h1, h2⟩ := List.mem_filter.mp hx
    refine List.mem_cons_of_mem _ (List.mem_filter.mpr ⟨List.mem_map.mpr ⟨x, h1, rfl⟩, ?_⟩)
    simp only [cv_cat]
    rw [Bool.and_eq_true]
    exact ⟨by simpa using hne, h2⟩
section WR
variable {cc : ByteArray} {mt : Mt} {pc : Nat} {ls ls' : List (Nat × Value)} {st : List Value} {μ : Mem} {Q : Option Value → Mem → Prop}
/-- fewer locals -/
theorem r_sub (h : WP cc mt pc ls' st μ Q) (hs : ∀ q ∈ ls', q ∈ ls) : WP cc mt pc ls st μ Q := by
  intro p l e R s m args below meth c D ad ca A cells slots Qz C hR H locs hP hS la hl
  refine h p l e R s m args below meth c D ad ca A cells slots Qz C hR H locs hP hS la ⟨hl.1, hl.2.1, fun q hq => ?_⟩
  obtain ⟨x, hx, rfl⟩ := List.mem_map.mp hq
  exact hl.2.2 _ (List.mem_map.mpr ⟨x, hs x hx, rfl⟩)
/-- another end -/
theorem r_post {Q' : Option Value → Mem → Prop} (h : WP cc mt pc ls st μ Q') (hq : ∀ v μ', Q' v μ' → Q v μ') : WP cc mt pc ls st μ Q := by
  intro p l e R s m args below meth c D ad ca A cells slots Qz C hR H locs hP hS la hl
  exact h p l e R s m args below meth c D ad ca A cells slots Qz C (fun v μ' H' locs' pc' la h1 => hR v μ' H' locs' pc' la (hq v μ' h1)) H locs hP hS la hl
theorem r_ireturn {x : Int32} {ty : FieldType} (hd : decode cc pc = .ok (.ireturn, 1)) (hret : mt.2.2.1 = some ty) (hty : ty = .int ∨ ty = .boolean) (hn : narrow ty (.int x) = .int x) (h : Q (some (.int x)) μ) : WP cc mt pc ls [.int x] μ Q := by
  intro p l e R s m args below meth c D ad ca A cells slots Qz C hR H locs hP hS la hl
  exact hR (some (.int x)) μ H locs pc la h (by rw [hret]; rcases hty with rfl | rfl <;> exact ⟨hn, by simp⟩) hP hS hd
theorem r_lreturn {x : Int64} (hd : decode cc pc = .ok (.lreturn, 1)) (hret : mt.2.2.1 = some .long) (h : Q (some (.long x)) μ) : WP cc mt pc ls [.long x] μ Q := by
  intro p l e R s m args below meth c D ad ca A cells slots Qz C hR H locs hP hS la hl
  exact hR (some (.long x)) μ H locs pc la h (by rw [hret]; trivial) hP hS hd
theorem r_return (hd : decode cc pc = .ok (.return_, 1)) (hret : mt.2.2.1 = none) (h : Q none μ) : WP cc mt pc ls [] μ Q := by
  intro p l e R s m args below meth c D ad ca A cells slots Qz C hR H locs hP hS la hl
  exact hR none μ H locs pc la h (by rw [hret]; trivial) hP hS hd
end WR
