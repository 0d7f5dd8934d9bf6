/-! THE CLASS'S ROUNDS: places of those that gain -/
def gxl (σ : Sg) (g : Nat → Nat) (f m : Nat) : List Nat := (List.range m).filter (fun i => gns σ g f ((rnds σ).getD i []))
theorem gxl_s (σ : Sg) (g : Nat → Nat) (f m : Nat) : gxl σ g f (m + 1) = gxl σ g f m ++ (if gns σ g f ((rnds σ).getD m []) = true then [m] else []) := by
  unfold gxl
  rw [List.range_succ, List.filter_append]
  congr 1
  exact filter_one (fun i => gns σ g f ((rnds σ).getD i [])) m
theorem gxl_map (σ : Sg) (g : Nat → Nat) (f : Nat) : ∀ m, m ≤ (rnds σ).length → (gxl σ g f m).map (fun i => (rnds σ).getD i []) = ((rnds σ).take m).filter (gns σ g f)
  | 0, _ => rfl
  | m + 1, h => by
    have ih := gxl_map σ g f m (by omega)
    have ht : (rnds σ).take (m + 1) = (rnds σ).take m ++ [(rnds σ).getD m []] := by
      rw [List.take_add_one, rnds_at (by omega)]
      rfl
    rw [gxl_s, List.map_append, ih, ht, List.filter_append]
    congr 1
    by_cases e : gns σ g f ((rnds σ).getD m []) = true
    · rw [if_pos e, List.filter_cons_of_pos e]
      rfl
    · rw [if_neg e, List.filter_cons_of_neg e]
      rfl
theorem gxl_all (σ : Sg) (g : Nat → Nat) (f : Nat) : (gxl σ g f (rnds σ).length).map (fun i => (rnds σ).getD i []) = gsl σ g f := by
  rw [gxl_map σ g f _ (Nat.le_refl _), List.take_length]
  rfl
theorem gxl_len (σ : Sg) (g : Nat → Nat) (f : Nat) : (gxl σ g f (rnds σ).length).length = (gsl σ g f).length := by
  rw [← gxl_all, List.length_map]
theorem gxl_lt {σ : Sg} {g : Nat → Nat} {f m i k : Nat} (h : (gxl σ g f m)[i]? = some k) : k < m := List.mem_range.mp (List.mem_filter.mp (List.mem_of_getElem? h)).1
theorem gxl_pre (σ : Sg) (g : Nat → Nat) (f m : Nat) : ∀ d, ∃ t, gxl σ g f (m + d) = gxl σ g f m ++ t
  | 0 => ⟨[], (List.append_nil _).symm⟩
  | d + 1 => by
    obtain ⟨t, ht⟩ := gxl_pre σ g f m d
    rw [show m + (d + 1) = (m + d) + 1 by omega, gxl_s, ht, List.append_assoc]
    exact ⟨_, rfl⟩
/-- the place of the i-th round that gains -/
def gk (σ : Sg) (i : Nat) : Nat := (gix σ (σ 4) (σ 0 1)).getD i 0
theorem gix_gxl (σ : Sg) : gix σ (σ 4) (σ 0 1) = gxl σ (σ 4) (σ 0 1) (rnds σ).length := rfl
theorem gix_len (σ : Sg) : (gix σ (σ 4) (σ 0 1)).length = (Gs σ).length := gxl_len σ _ _
theorem gk_at {σ : Sg} {i : Nat} (h : i < (Gs σ).length) : (gix σ (σ 4) (σ 0 1))[i]? = some (gk σ i) := by
  rw [← gix_len] at h
  unfold gk
  rw [List.getD_eq_getElem?_getD, List.getElem?_eq_getElem h]
  rfl
theorem gk_lt {σ : Sg} {i : Nat} (h : i < (Gs σ).length) : gk σ i < (rnds σ).length := gxl_lt (gk_at h)
theorem gk_r {σ : Sg} {i : Nat} (h : i < (Gs σ).length) : (rnds σ).getD (gk σ i) [] = gi σ i := by
  have h1 : ((gix σ (σ 4) (σ 0 1)).map (fun i => (rnds σ).getD i []))[i]? = some ((rnds σ).getD (gk σ i) []) := by
    rw [List.getElem?_map, gk_at h]
    rfl
  rw [gix_gxl, gxl_all] at h1
  have h2 := Gs_get h
  have h3 : gsl σ (σ 4) (σ 0 1) = Gs σ := rfl
  rw [h3, h2] at h1
  exact (Option.some.inj h1).symm
theorem gxl_inc {σ : Sg} {g : Nat → Nat} {f : Nat} : ∀ m {i j a b : Nat}, (gxl σ g f m)[i]? = some a → (gxl σ g f m)[j]? = some b → a = b → i = j := by
  intro m i j a b h1 h2 e
  subst e
  have hn : (gxl σ g f m).Nodup := List.Pairwise.filter _ List.nodup_range
  have hi := (List.getElem?_eq_some_iff.mp h1).1
  exact (List.getElem?_inj hi hn).mp (h1.trans h2.symm)
theorem gk_inj {σ : Sg} {i j : Nat} (hi : i < (Gs σ).length) (hj : j < (Gs σ).length) (e : gk σ i = gk σ j) : i = j := gxl_inc _ (gk_at hi) (gk_at hj) e
/-- how many bits a round has -/
theorem cnt_or {x b : Nat} : ∀ {n}, b < n → x.testBit b = false → cnt (x ||| 2 ^ b).testBit n = cnt x.testBit n + 1
  | 0, h, _ => absurd h (Nat.not_lt_zero b)
  | n + 1, h, hx => by
    unfold cnt
    rw [tb_or]
    by_cases e : b = n
    · subst e
      have : ∀ m, m ≤ b → cnt (x ||| 2 ^ b).testBit m = cnt x.testBit m := by
        intro m
        induction m with
        | zero => intro _; rfl
        | succ m ih =>
          intro hm
          unfold cnt
          rw [ih (by omega), tb_or]
          have : decide (b = m) = false := by simp; omega
          rw [this, Bool.or_false]
      rw [this b (Nat.le_refl _), hx]
      simp
    · have ih := cnt_or (n := n) (show b < n by omega) hx
      have : decide (b = n) = false := by simp; omega
      rw [ih, this, Bool.or_false]
      omega
theorem pc_len : ∀ {r : List Nat}, r.Nodup → (∀ x ∈ r, x < 12) → pc12 (bitsP r) = r.length
  | [], _, _ => by decide
  | b :: r, hn, h => by
    have hn' := List.nodup_cons.mp hn
    have ih := pc_len hn'.2 (fun x hx => h x (List.mem_cons_of_mem _ hx))
    show cnt (2 ^ b ||| bitsP r).testBit 12 = r.length + 1
    rw [Nat.or_comm, cnt_or (h b List.mem_cons_self)]
    · unfold pc12 at ih
      rw [ih]
    · rw [Bool.eq_false_iff]
      intro q
      exact hn'.1 ((bitsP_mem r b).mp q)
/-- what is found, of the i-th that gains -/
theorem FO_i {μ : Mem} {σ : Sg} (hF : FoundOK μ σ) {i : Nat} (h : i < (Gs σ).length) : μ.1 16 i = nI (gk σ i) ∧ μ.2 13 (gk σ i) = lN (packP (gi σ i)) ∧ μ.2 14 (gk σ i) = lN (gL σ i) ∧ μ.1 15 (gk σ i) = nI (gB σ i) := by
  have h1 := hF.2.2.2 i _ (gk_at h)
  have h2 := hF.2.2.1 (gk σ i) _ (rnds_at (gk_lt h))
  rw [gk_r h] at h2
  exact ⟨h1, h2⟩
theorem FO_n {μ : Mem} {σ : Sg} (hF : FoundOK μ σ) : μ.1 12 6 = nI (Gs σ).length := by rw [hF.2.1, gix_len]
