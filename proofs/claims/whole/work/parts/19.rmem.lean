/-! WHAT A ROUND IS; what the calls on rounds answer -/
theorem dfs_mem (σ : Sg) (s : Nat) : ∀ (f c seen : Nat) (p r : List Nat), seen.testBit c = true → r ∈ dfs σ s f c seen p → ∃ t, r = p ++ t ∧ 1 ≤ t.length ∧ t.length ≤ f ∧ (∀ x ∈ t, x < σ 0 0 ∧ opn σ x = true ∧ (σ 1 x = c ∨ seen.testBit (σ 1 x) = false)) ∧ t.Nodup
  | 0, c, seen, p, r, _, h => by unfold dfs at h; exact absurd h List.not_mem_nil
  | f + 1, c, seen, p, r, hc, h => by
    unfold dfs at h
    obtain ⟨b, hb, h⟩ := List.mem_flatMap.mp h
    have hbn := List.mem_range.mp hb
    by_cases h1 : σ 1 b = c ∧ opn σ b = true
    · rw [if_pos h1] at h
      by_cases h2 : σ 3 b = s
      · rw [if_pos h2] at h
        refine ⟨[b], List.mem_singleton.mp h, by simp, by simp, fun x hx => ?_, by simp⟩
        rw [List.mem_singleton.mp hx]
        exact ⟨hbn, h1.2, Or.inl h1.1⟩
      · rw [if_neg h2] at h
        by_cases h3 : s < σ 3 b ∧ seen.testBit (σ 3 b) = false
        · rw [if_pos h3] at h
          obtain ⟨t, e, t1, t2, t3, t4⟩ := dfs_mem σ s f (σ 3 b) _ _ r (by rw [tb_or]; simp) h
          refine ⟨b :: t, by rw [e]; simp, by simp, by simp; omega, fun x hx => ?_, ?_⟩
          · rcases List.mem_cons.mp hx with q | q
            · rw [q]; exact ⟨hbn, h1.2, Or.inl h1.1⟩
            · obtain ⟨q1, q2, q3⟩ := t3 x q
              refine ⟨q1, q2, Or.inr ?_⟩
              rcases q3 with q3 | q3
              · rw [q3]; exact h3.2
              · rw [tb_or] at q3
                simp at q3
                exact q3.1
          · refine List.nodup_cons.mpr ⟨fun hm => ?_, t4⟩
            rcases (t3 b hm).2.2 with q | q
            · rw [h1.1] at q
              rw [q] at hc
              rw [hc] at h3
              exact absurd h3.2 (by decide)
            · rw [h1.1, tb_or, hc] at q
              exact absurd q (by simp)
        · rw [if_neg h3] at h
          exact absurd h List.not_mem_nil
    · rw [if_neg h1] at h
      exact absurd h List.not_mem_nil
theorem rnds_mem {σ : Sg} {r : List Nat} (h : r ∈ rnds σ) : (1 ≤ r.length ∧ r.length ≤ 8) ∧ okP σ r ∧ (∀ x ∈ r, opn σ x = true) ∧ r.Nodup := by
  unfold rnds at h
  obtain ⟨s, _, h⟩ := List.mem_flatMap.mp h
  obtain ⟨t, e, t1, t2, t3, t4⟩ := dfs_mem σ s 8 s (2 ^ s) [] r (by simp) h
  rw [List.nil_append] at e
  subst e
  exact ⟨⟨t1, t2⟩, fun x hx => (t3 x hx).1, fun x hx => (t3 x hx).2.1, t4⟩
/-- those that gain -/
def Gs (σ : Sg) : List (List Nat) := (rnds σ).filter (gnF σ)
def gi (σ : Sg) (i : Nat) : List Nat := (Gs σ).getD i []
theorem Gs_mem {σ : Sg} {i : Nat} (h : i < (Gs σ).length) : gi σ i ∈ rnds σ := by
  unfold gi
  rw [List.getD_eq_getElem?_getD, List.getElem?_eq_getElem h]
  exact (List.mem_filter.mp (List.getElem_mem h)).1
theorem Gs_get {σ : Sg} {i : Nat} (h : i < (Gs σ).length) : (Gs σ)[i]? = some (gi σ i) := by
  unfold gi
  rw [List.getD_eq_getElem?_getD, List.getElem?_eq_getElem h]
  rfl
theorem GA_i {μ : Mem} {σ : Sg} {i : Nat} (hG : GA μ σ (rnds σ)) (h : i < (Gs σ).length) : RM μ σ i (gi σ i) := hG.2.2 i _ (Gs_get h)
theorem Gs_len {σ : Sg} (hO : Ok σ) : (Gs σ).length ≤ 150 := Nat.le_trans (List.length_filter_le _ _) (rnds_le hO)
abbrev gU (σ : Sg) (i : Nat) : Nat := pUp (σ 4) (σ 0 1) (gi σ i)
abbrev gL (σ : Sg) (i : Nat) : Nat := pLow σ (gi σ i)
abbrev gB (σ : Sg) (i : Nat) : Nat := bitsP (gi σ i)
/-- the bounds of one round that gains, for omega -/
theorem gi_b {σ : Sg} (hO : Ok σ) {i : Nat} (h : i < (Gs σ).length) : (1 ≤ (gi σ i).length ∧ (gi σ i).length ≤ 8) ∧ gU σ i < 2 ^ 63 ∧ 1 ≤ gL σ i ∧ gL σ i < 2 ^ 63 ∧ gB σ i < 4096 := by
  have hm := rnds_mem (Gs_mem h)
  exact ⟨hm.1, okP_up hO hm.2.1 hm.1.2, pLow_pos hO hm.2.1, okP_low hO hm.2.1 hm.1.2, okP_bits hO hm.2.1⟩
def sp_rounds (σ : Sg) (w : Int32) : Int32 := if inR w (nI 0) (nI 1) = false then -2 else if w = nI 0 then nI (rnds σ).length else nI (Gs σ).length
def sp_round (σ : Sg) (n i : Int32) : Int32 := if isB n (Gs σ).length = false then -1 else if i = -1 then nI (gi σ (bN n)).length else if isB i (gi σ (bN n)).length = false then -6 else nI ((gi σ (bN n)).getD (bN i) 0)
def lowT (p q part : Nat) : Nat := if part = 0 then p / Nat.gcd p q else q / Nat.gcd p q
def sp_product (σ : Sg) (n part : Int32) : Int64 := if isB n (Gs σ).length = false then -1000000000000000001 else if inR part (nI 0) (nI 1) = false then -1000000000000000002 else lN (lowT (gU σ (bN n)) (gL σ (bN n)) (bN part))
def si (m : Nat → Nat) : Nat → Option Nat
  | 0 => none
  | n + 1 => match si m n with
    | none => some n
    | some j => if m n < m j then some n else some j
def oI (o : Option Nat) : Int32 := match o with
  | none => -6
  | some j => nI j
theorem mi_lt {u l : Nat → Nat} : ∀ {n j : Nat}, mi u l n = some j → j < n
  | 0, j, h => by cases h
  | n + 1, j, h => by
    unfold mi at h
    cases e : mi u l n with
    | none => rw [e] at h; cases h; omega
    | some k =>
      rw [e] at h
      have := mi_lt e
      by_cases q : above (u n) (l n) (u k) (l k) = true
      · simp only [q, if_true] at h; cases h; omega
      · simp only [q, if_false] at h; cases h; omega
theorem mi_some {u l : Nat → Nat} {n : Nat} : ∃ j, mi u l (n + 1) = some j := by
  unfold mi
  cases mi u l n with
  | none => exact ⟨n, rfl⟩
  | some k =>
    by_cases q : above (u n) (l n) (u k) (l k) = true
    · exact ⟨n, if_pos q⟩
    · exact ⟨k, if_neg q⟩
theorem si_lt {m : Nat → Nat} : ∀ {n j : Nat}, si m n = some j → j < n
  | 0, j, h => by cases h
  | n + 1, j, h => by
    unfold si at h
    cases e : si m n with
    | none => rw [e] at h; cases h; omega
    | some k =>
      rw [e] at h
      have := si_lt e
      by_cases q : m n < m k
      · simp only [q, if_true] at h; cases h; omega
      · simp only [q, if_false] at h; cases h; omega
theorem si_some {m : Nat → Nat} {n : Nat} : ∃ j, si m (n + 1) = some j := by
  unfold si
  cases si m n with
  | none => exact ⟨n, rfl⟩
  | some k =>
    by_cases q : m n < m k
    · exact ⟨n, if_pos q⟩
    · exact ⟨k, if_neg q⟩
def sp_best (σ : Sg) (w : Int32) : Int32 := if inR w (nI 0) (nI 1) = false then -2 else if w = nI 0 then oI (mi (gU σ) (gL σ) (Gs σ).length) else oI (si (fun i => (gi σ i).length) (Gs σ).length)
def thrN (s : Nat → Nat) (b : Nat) : Nat → Nat
  | 0 => 0
  | n + 1 => thrN s b n + s n / 2 ^ b % 2
theorem thrN_le (s : Nat → Nat) (b : Nat) : ∀ n, thrN s b n ≤ n
  | 0 => Nat.le_refl _
  | n + 1 => by
    have := thrN_le s b n
    show thrN s b n + s n / 2 ^ b % 2 ≤ n + 1
    omega
def sp_through (σ : Sg) (b : Int32) : Int32 := if isB b (σ 0 0) = false then -1 else nI (thrN (gB σ) (bN b) (Gs σ).length)
def blN (s : Nat → Nat) : Nat → Nat
  | 0 => s 0
  | n + 1 => blN s n &&& s n
def sp_blamed (σ : Sg) : Int32 := if (Gs σ).length = 0 then nI 0 else nI (blN (gB σ) (Gs σ).length)
/-- how many bits of twelve; a set that meets all -/
def pc12 (x : Nat) : Nat := cnt x.testBit 12
def hits (s : Nat → Nat) (x : Nat) : Nat → Bool
  | 0 => true
  | n + 1 => hits s x n && !decide (s n &&& x = 0)
def cu (s : Nat → Nat) (n : Nat) : Nat → Option Nat
  | 0 => none
  | x + 1 => match cu s n x with
    | none => if hits s x n = true then some x else none
    | some y => if pc12 x < pc12 y ∧ hits s x n = true then some x else some y
def sp_cut (σ : Sg) : Int32 := oI (cu (gB σ) (Gs σ).length (2 ^ σ 0 0))
/-- whether any gains by other gives and another fee -/
def anyG (σ : Sg) (g : Nat → Nat) (f : Nat) : Bool := (rnds σ).any (gns σ g f)
def setG (g : Nat → Nat) (b v : Nat) : Nat → Nat := fun i => if i = b then v else g i
def mvR (σ : Sg) (b : Nat) : Nat → Nat → Int32
  | 0, y => if anyG σ (setG (σ 4) b (σ 4 b - y)) (σ 0 1) = true then -6 else nI y
  | k + 1, y => if anyG σ (setG (σ 4) b (σ 4 b - y)) (σ 0 1) = true then mvR σ b k (y + 1) else nI y
def sp_move (σ : Sg) (b : Int32) : Int32 := if isB b (σ 0 0) = false then -1 else if opn σ (bN b) = false then -3 else mvR σ (bN b) (σ 4 (bN b) - 1) 0
def egR (σ : Sg) : Nat → Nat → Int32
  | 0, f => if anyG σ (σ 4) f = true then -6 else nI f
  | k + 1, f => if anyG σ (σ 4) f = true then egR σ k (f + 1) else nI f
def sp_edge (σ : Sg) : Int32 := egR σ 98 0
/-- the rounds hang on coins and hours alone -/
theorem rnds_cong2 {σ σ' : Sg} (h0 : σ' 0 0 = σ 0 0) (h2 : σ' 0 2 = σ 0 2) (h4 : σ' 1 = σ 1) (h6 : σ' 3 = σ 3) (h8 : σ' 5 = σ 5) (h9 : σ' 6 = σ 6) : rnds σ' = rnds σ := by
  have ho : ∀ b, opn σ' b = opn σ b := fun b => by unfold opn; rw [h8, h9, h2]
  have hd : ∀ (s f c seen : Nat) (p : List Nat), dfs σ' s f c seen p = dfs σ s f c seen p := by
    intro s f
    induction f with
    | zero => intro c seen p; rfl
    | succ f ih =>
      intro c seen p
      unfold dfs
      rw [h0, h4, h6]
      congr 1
      funext b
      rw [ho b, ih]
  unfold rnds
  congr 1
  funext s
  exact hd s _ _ _ _
