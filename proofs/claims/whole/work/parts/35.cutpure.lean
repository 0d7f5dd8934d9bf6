/-! CUT: the class's way and the model's give the same set -/
theorem hits_iff {s : Nat → Nat} {x : Nat} : ∀ {n : Nat}, hits s x n = true ↔ ∀ i, i < n → ¬ s i &&& x = 0
  | 0 => by simp [hits]
  | n + 1 => by
    rw [hits_s, Bool.and_eq_true, hits_iff (n := n)]
    constructor
    · intro h i hi
      by_cases e : i = n
      · subst e; simpa using h.2
      · exact h.1 i (by omega)
    · intro h
      exact ⟨fun i hi => h i (by omega), by simpa using h n (by omega)⟩
theorem cu_spec (s : Nat → Nat) (n : Nat) : ∀ X, (cu s n X = none → ∀ x, x < X → hits s x n = false) ∧ (∀ y, cu s n X = some y → y < X ∧ hits s y n = true ∧ (∀ x, x < X → hits s x n = true → pc12 y ≤ pc12 x) ∧ (∀ x, x < y → hits s x n = true → pc12 y < pc12 x))
  | 0 => ⟨fun _ x hx => absurd hx (Nat.not_lt_zero x), fun y hy => by cases hy⟩
  | X + 1 => by
    obtain ⟨h1, h2⟩ := cu_spec s n X
    unfold cu
    cases e : cu s n X with
    | none =>
      have h0 := h1 e
      by_cases q : hits s X n = true
      · refine ⟨fun hq => by simp [q] at hq, fun y hy => ?_⟩
        simp only [q, if_true] at hy
        cases hy
        refine ⟨by omega, q, fun x hx hh => ?_, fun x hx hh => absurd hh (by rw [h0 x hx]; decide)⟩
        by_cases ex : x = X
        · rw [ex]; exact Nat.le_refl _
        · exact absurd hh (by rw [h0 x (by omega)]; decide)
      · refine ⟨fun _ x hx => ?_, fun y hy => by simp [q] at hy⟩
        by_cases ex : x = X
        · rw [ex]; simpa using q
        · exact h0 x (by omega)
    | some z =>
      obtain ⟨z1, z2, z3, z4⟩ := h2 z e
      by_cases q : pc12 X < pc12 z ∧ hits s X n = true
      · refine ⟨fun hq => by simp [q] at hq, fun y hy => ?_⟩
        simp only [q, and_self, if_true] at hy
        cases hy
        refine ⟨by omega, q.2, fun x hx hh => ?_, fun x hx hh => Nat.lt_of_lt_of_le q.1 (z3 x hx hh)⟩
        by_cases ex : x = X
        · rw [ex]; exact Nat.le_refl _
        · have := z3 x (by omega) hh; omega
      · refine ⟨fun hq => (by simp only [q, if_false] at hq; nomatch hq), fun y hy => ?_⟩
        simp only [q, if_false] at hy
        cases hy
        refine ⟨by omega, z2, fun x hx hh => ?_, z4⟩
        by_cases ex : x = X
        · subst ex
          have : ¬ pc12 x < pc12 z := fun p => q ⟨p, hh⟩
          omega
        · exact z3 x (by omega) hh
theorem cf_spec (s : Nat → Nat) (n op : Nat) : ∀ X, (cf s n op X = op ∨ (cf s n op X < X ∧ hits s (cf s n op X) n = true ∧ pc12 (cf s n op X) < pc12 op)) ∧ (∀ x, x < X → hits s x n = true → pc12 (cf s n op X) ≤ pc12 x) ∧ (¬ cf s n op X = op → ∀ x, x < cf s n op X → hits s x n = true → pc12 (cf s n op X) < pc12 x)
  | 0 => ⟨Or.inl rfl, fun x hx => absurd hx (Nat.not_lt_zero x), fun h => absurd rfl h⟩
  | X + 1 => by
    obtain ⟨h1, h2, h3⟩ := cf_spec s n op X
    have hle : pc12 (cf s n op X) ≤ pc12 op := by
      rcases h1 with h1 | h1
      · rw [h1]; exact Nat.le_refl _
      · omega
    by_cases q : pc12 X < pc12 (cf s n op X) ∧ hits s X n = true
    · have e : cf s n op (X + 1) = X := if_pos q
      rw [e]
      refine ⟨Or.inr ⟨by omega, q.2, by omega⟩, fun x hx hh => ?_, fun _ x hx hh => Nat.lt_of_lt_of_le q.1 (h2 x hx hh)⟩
      by_cases ex : x = X
      · rw [ex]; exact Nat.le_refl _
      · have := h2 x (by omega) hh; omega
    · have e : cf s n op (X + 1) = cf s n op X := if_neg q
      rw [e]
      refine ⟨?_, fun x hx hh => ?_, h3⟩
      · rcases h1 with h1 | h1
        · exact Or.inl h1
        · exact Or.inr ⟨by omega, h1.2⟩
      · by_cases ex : x = X
        · subst ex
          have : ¬ pc12 x < pc12 (cf s n op x) := fun p => q ⟨p, hh⟩
          omega
        · exact h2 x (by omega) hh
theorem obits_tb (σ : Sg) (b : Nat) : ∀ m, (obits σ m).testBit b = true ↔ b < m ∧ opn σ b = true
  | 0 => by simp [obits]
  | m + 1 => by
    unfold obits
    rw [Nat.testBit_or, Bool.or_eq_true, obits_tb σ b m]
    constructor
    · rintro (h | h)
      · exact ⟨by omega, h.2⟩
      · by_cases q : opn σ m = true
        · rw [if_pos q, Nat.testBit_two_pow, decide_eq_true_eq] at h
          rw [← h]; exact ⟨by omega, q⟩
        · rw [if_neg q] at h; simp at h
    · rintro ⟨h1, h2⟩
      by_cases e : b = m
      · right; rw [← e, if_pos h2, Nat.testBit_two_pow]; simp
      · left; exact ⟨by omega, h2⟩
theorem sub_and {x y : Nat} (h : ∀ b, x.testBit b = true → y.testBit b = true) : x &&& y = x := by
  apply Nat.eq_of_testBit_eq
  intro b
  rw [Nat.testBit_and]
  cases e : x.testBit b with
  | false => rfl
  | true => rw [h b e]; rfl
theorem gB_sub {σ : Sg} {i : Nat} (hi : i < (Gs σ).length) (b : Nat) (h : (gB σ i).testBit b = true) : (obits σ (σ 0 0)).testBit b = true := by
  have hm := rnds_mem (Gs_mem hi)
  have hb := (bitsP_mem _ b).mp h
  exact (obits_tb σ b _).mpr ⟨hm.2.1 b hb, hm.2.2.1 b hb⟩
theorem gB_ne {σ : Sg} {i : Nat} (hi : i < (Gs σ).length) : ¬ gB σ i = 0 := by
  have hm := rnds_mem (Gs_mem hi)
  intro h
  cases e : gi σ i with
  | nil => rw [e] at hm; simp at hm
  | cons x r =>
    have := (bitsP_mem (gi σ i) x).mpr (by rw [e]; simp)
    rw [show bitsP (gi σ i) = 0 from h] at this
    simp at this
theorem cut_eq {σ : Sg} (hO : Ok σ) : sp_cut σ = nI (cf (gB σ) (Gs σ).length (obits σ (σ 0 0)) (obits σ (σ 0 0))) := by
  have hop := obits_lt σ (σ 0 0)
  have hho : hits (gB σ) (obits σ (σ 0 0)) (Gs σ).length = true := hits_iff.mpr (fun i hi => by
    rw [sub_and (gB_sub hi)]; exact gB_ne hi)
  obtain ⟨c1, c2⟩ := cu_spec (gB σ) (Gs σ).length (2 ^ σ 0 0)
  obtain ⟨f1, f2, f3⟩ := cf_spec (gB σ) (Gs σ).length (obits σ (σ 0 0)) (obits σ (σ 0 0))
  cases e : cu (gB σ) (Gs σ).length (2 ^ σ 0 0) with
  | none => exact absurd hho (by rw [c1 e _ hop]; decide)
  | some y =>
    obtain ⟨y1, y2, y3, y4⟩ := c2 y e
    unfold sp_cut
    rw [e]
    show nI y = _
    congr 1
    -- y has open boards alone
    have hya : hits (gB σ) (y &&& obits σ (σ 0 0)) (Gs σ).length = true := hits_iff.mpr (fun i hi => by
      have h1 := hits_iff.mp y2 i hi
      rw [Nat.and_comm y, ← Nat.and_assoc, sub_and (gB_sub hi)]
      exact h1)
    have hle : y &&& obits σ (σ 0 0) ≤ y := Nat.and_le_left
    have hpc : pc12 (y &&& obits σ (σ 0 0)) ≤ pc12 y := cnt_mono (fun b hb => by
      rw [Nat.testBit_and, Bool.and_eq_true] at hb; exact hb.1) 12
    have hye : y &&& obits σ (σ 0 0) = y := by
      rcases Nat.lt_or_ge (y &&& obits σ (σ 0 0)) y with q | q
      · have := y4 _ q hya; omega
      · omega
    have hsub : ∀ b, y.testBit b = true → (obits σ (σ 0 0)).testBit b = true := fun b hb => by
      rw [← hye, Nat.testBit_and, Bool.and_eq_true] at hb; exact hb.2
    have hyo : y ≤ obits σ (σ 0 0) := by rw [← hye]; exact Nat.and_le_right
    have hlt : y < obits σ (σ 0 0) → pc12 y < pc12 (obits σ (σ 0 0)) := fun q => by
      have : ∃ b, y.testBit b = false ∧ (obits σ (σ 0 0)).testBit b = true := by
        apply Classical.byContradiction
        intro hn
        have : y = obits σ (σ 0 0) := by
          apply Nat.eq_of_testBit_eq
          intro b
          cases e1 : y.testBit b with
          | true => rw [hsub b e1]
          | false =>
            cases e2 : (obits σ (σ 0 0)).testBit b with
            | false => rfl
            | true => exact absurd ⟨b, e1, e2⟩ hn
        omega
      obtain ⟨b, hb1, hb2⟩ := this
      have hb12 : b < 12 := by have := (obits_tb σ b _).mp hb2; have := hO.1; omega
      exact cnt_one (p := y.testBit) (q := (obits σ (σ 0 0)).testBit) hsub hb12 hb1 hb2
    rcases f1 with f1 | ⟨f4, f5, f6⟩
    · rw [f1] at f2 ⊢
      rcases Nat.lt_or_ge y (obits σ (σ 0 0)) with q | q
      · have := hlt q
        have := f2 y q y2
        omega
      · omega
    · have hne : ¬ cf (gB σ) (Gs σ).length (obits σ (σ 0 0)) (obits σ (σ 0 0)) = obits σ (σ 0 0) := by omega
      have h1 := y3 _ (Nat.lt_trans f4 hop) f5
      rcases Nat.lt_or_ge y (obits σ (σ 0 0)) with q | q
      · have h2 := f2 y q y2
        rcases Nat.lt_trichotomy y (cf (gB σ) (Gs σ).length (obits σ (σ 0 0)) (obits σ (σ 0 0))) with z | z | z
        · have := f3 hne y z y2; omega
        · exact z
        · have := y4 _ z f5; omega
      · have : y = obits σ (σ 0 0) := by omega
        have h9 : pc12 (obits σ (σ 0 0)) = pc12 y := by rw [← this]
        omega
