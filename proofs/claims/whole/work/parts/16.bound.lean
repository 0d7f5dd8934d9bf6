/-! AT MOST 150 ROUNDS -/
def cnt (p : Nat → Bool) : Nat → Nat
  | 0 => 0
  | n + 1 => cnt p n + (if p n = true then 1 else 0)
theorem cnt_le (p : Nat → Bool) : ∀ n, cnt p n ≤ n
  | 0 => Nat.le_refl _
  | n + 1 => by
    have := cnt_le p n
    unfold cnt
    split <;> omega
theorem cnt_mono {p q : Nat → Bool} (h : ∀ b, p b = true → q b = true) : ∀ n, cnt p n ≤ cnt q n
  | 0 => Nat.le_refl _
  | n + 1 => by
    have := cnt_mono h n
    have h1 := h n
    unfold cnt
    by_cases e : p n = true
    · rw [if_pos e, if_pos (h1 e)]; omega
    · rw [if_neg e]; split <;> omega
/-- one that only q has -/
theorem cnt_one {p q : Nat → Bool} (h : ∀ b, p b = true → q b = true) : ∀ {n x : Nat}, x < n → p x = false → q x = true → cnt p n + 1 ≤ cnt q n
  | 0, x, hx, _, _ => absurd hx (Nat.not_lt_zero x)
  | n + 1, x, hx, hp, hq => by
    unfold cnt
    by_cases e : x = n
    · subst e
      have := cnt_mono h x
      rw [hp, if_neg (by decide), if_pos hq]
      omega
    · have := cnt_one h (show x < n by omega) hp hq
      have h1 := h n
      by_cases e1 : p n = true
      · rw [if_pos e1, if_pos (h1 e1)]; omega
      · rw [if_neg e1]; split <;> omega
theorem cnt_two {p q : Nat → Bool} (h : ∀ b, p b = true → q b = true) : ∀ {n x y : Nat}, x < n → y < n → x ≠ y → p x = false → q x = true → p y = false → q y = true → cnt p n + 2 ≤ cnt q n
  | 0, x, y, hx, _, _, _, _, _, _ => absurd hx (Nat.not_lt_zero x)
  | n + 1, x, y, hx, hy, hne, px, qx, py, qy => by
    unfold cnt
    by_cases e : x = n
    · subst e
      have := cnt_one h (show y < x by omega) py qy
      rw [px, if_neg (by decide), if_pos qx]
      omega
    · by_cases e2 : y = n
      · subst e2
        have := cnt_one h (show x < y by omega) px qx
        rw [py, if_neg (by decide), if_pos qy]
        omega
      · have := cnt_two h (show x < n by omega) (show y < n by omega) hne px qx py qy
        have h1 := h n
        by_cases e1 : p n = true
        · rw [if_pos e1, if_pos (h1 e1)]; omega
        · rw [if_neg e1]; split <;> omega
theorem flat_le {α : Type} {F : Nat → List α} {p : Nat → Bool} {K : Nat} (h : ∀ b, (F b).length ≤ if p b = true then K else 0) : ∀ n, ((List.range n).flatMap F).length ≤ cnt p n * K
  | 0 => by simp
  | n + 1 => by
    rw [List.range_succ, List.flatMap_append, List.length_append]
    have h1 := flat_le h n
    have h2 := h n
    unfold cnt
    rw [Nat.add_mul]
    have h3 : ([n].flatMap F).length = (F n).length := by simp
    rw [h3]
    by_cases e : p n = true
    · rw [if_pos e] at h2 ⊢; omega
    · rw [if_neg e] at h2 ⊢; omega
theorem flat_congr {α : Type} {F G : Nat → List α} : ∀ {l : List Nat}, (∀ b ∈ l, F b = G b) → l.flatMap F = l.flatMap G
  | [], _ => rfl
  | a :: l, h => by
    rw [List.flatMap_cons, List.flatMap_cons, h a List.mem_cons_self, flat_congr (fun b hb => h b (List.mem_cons_of_mem _ hb))]
/-- boards that take c and keep to coins from s on -/
def dgp (σ : Sg) (s c b : Nat) : Bool := decide (σ 1 b = c) && opn σ b && decide (s ≤ σ 3 b) && decide (s ≤ c)
def usp (σ : Sg) (s b : Nat) : Bool := decide (s ≤ σ 1 b) && opn σ b && decide (s ≤ σ 3 b)
theorem usp_iff {σ : Sg} {s b : Nat} : usp σ s b = true ↔ s ≤ σ 1 b ∧ opn σ b = true ∧ s ≤ σ 3 b := by
  unfold usp
  simp [and_assoc]
def dg (σ : Sg) (s c : Nat) : Nat → Nat := cnt (dgp σ s c)
def us (σ : Sg) (s : Nat) : Nat → Nat := cnt (usp σ s)
def m1 (x : Nat) : Nat := if x = 0 then 1 else x
theorem m1_pos (x : Nat) : 1 ≤ m1 x := by unfold m1; split <;> omega
theorem m1_le (x : Nat) : x ≤ m1 x := by unfold m1; split <;> omega
/-- the product over coins that aren't seen -/
def PM (d : Nat → Nat) (seen : Nat) : Nat → Nat
  | 0 => 1
  | c + 1 => PM d seen c * (if seen.testBit c = true then 1 else m1 (d c))
theorem PM_pos (d : Nat → Nat) (seen : Nat) : ∀ n, 1 ≤ PM d seen n
  | 0 => Nat.le_refl _
  | n + 1 => by
    unfold PM
    have h1 := PM_pos d seen n
    have h2 : 1 ≤ (if seen.testBit n = true then 1 else m1 (d n)) := by
      split
      · exact Nat.le_refl _
      · exact m1_pos _
    exact Nat.mul_le_mul h1 h2
theorem tb_or (s c i : Nat) : (s ||| 2 ^ c).testBit i = (s.testBit i || decide (c = i)) := by
  rw [Nat.testBit_or, Nat.testBit_two_pow]
theorem PM_same {d : Nat → Nat} {seen c : Nat} : ∀ {n}, n ≤ c → PM d (seen ||| 2 ^ c) n = PM d seen n
  | 0, _ => rfl
  | n + 1, h => by
    unfold PM
    rw [PM_same (by omega : n ≤ c), tb_or]
    have : decide (c = n) = false := by simp; omega
    rw [this, Bool.or_false]
theorem PM_take {d : Nat → Nat} {seen c : Nat} (hs : seen.testBit c = false) : ∀ {n}, c < n → m1 (d c) * PM d (seen ||| 2 ^ c) n = PM d seen n
  | 0, h => absurd h (Nat.not_lt_zero c)
  | n + 1, h => by
    unfold PM
    by_cases e : c = n
    · subst e
      rw [PM_same (Nat.le_refl _), tb_or, hs]
      simp [Nat.mul_comm]
    · have ih := PM_take (d := d) hs (show c < n by omega)
      rw [← ih, tb_or]
      have : decide (c = n) = false := by simp; omega
      rw [this, Bool.or_false, Nat.mul_assoc]
theorem dfs_le (σ : Sg) (hO : Ok σ) (s : Nat) : ∀ (f c seen : Nat) (p : List Nat), s ≤ c → (dfs σ s f c seen p).length ≤ dg σ s c (σ 0 0) * PM (fun x => dg σ s x (σ 0 0)) seen 8
  | 0, c, seen, p, _ => by unfold dfs; exact Nat.zero_le _
  | f + 1, c, seen, p, hc => by
    unfold dfs
    have hcong : (List.range (σ 0 0)).flatMap (fun b => if σ 1 b = c ∧ opn σ b = true then (if σ 3 b = s then [p ++ [b]] else if s < σ 3 b ∧ seen.testBit (σ 3 b) = false then dfs σ s f (σ 3 b) (seen ||| 2 ^ σ 3 b) (p ++ [b]) else []) else []) = (List.range (σ 0 0)).flatMap (fun b => if b < 12 then (if σ 1 b = c ∧ opn σ b = true then (if σ 3 b = s then [p ++ [b]] else if s < σ 3 b ∧ seen.testBit (σ 3 b) = false then dfs σ s f (σ 3 b) (seen ||| 2 ^ σ 3 b) (p ++ [b]) else []) else []) else []) := by
      refine flat_congr (fun b hb => ?_)
      have : b < 12 := by have := List.mem_range.mp hb; have := hO.1; omega
      rw [if_pos this]
    rw [hcong]
    unfold dg
    refine flat_le (fun b => ?_) _
    by_cases hb : b < 12
    · rw [if_pos hb]
      by_cases h1 : σ 1 b = c ∧ opn σ b = true
      · rw [if_pos h1]
        by_cases h2 : σ 3 b = s
        · rw [if_pos h2]
          have hp := PM_pos (fun x => cnt (dgp σ s x) (σ 0 0)) seen 8
          rw [if_pos (by unfold dgp; simp [h1.1, h1.2, h2, hc])]
          exact hp
        · rw [if_neg h2]
          by_cases h3 : s < σ 3 b ∧ seen.testBit (σ 3 b) = false
          · rw [if_pos h3]
            have ih := dfs_le σ hO s f (σ 3 b) (seen ||| 2 ^ σ 3 b) (p ++ [b]) (by omega)
            have h8 := (Ok_b hO hb).2.2.1
            have ht := PM_take (d := fun x => dg σ s x (σ 0 0)) h3.2 h8
            have hm := Nat.mul_le_mul_right (PM (fun x => dg σ s x (σ 0 0)) (seen ||| 2 ^ σ 3 b) 8) (m1_le (dg σ s (σ 3 b) (σ 0 0)))
            have : (dfs σ s f (σ 3 b) (seen ||| 2 ^ σ 3 b) (p ++ [b])).length ≤ PM (fun x => dg σ s x (σ 0 0)) seen 8 := by
              rw [← ht]
              exact Nat.le_trans ih hm
            have hs : s ≤ σ 3 b := by omega
            rw [if_pos (by unfold dgp; simp [h1.1, h1.2, hs, hc])]
            exact this
          · rw [if_neg h3]
            exact Nat.zero_le _
      · rw [if_neg h1]
        exact Nat.zero_le _
    · rw [if_neg hb]
      exact Nat.zero_le _
/-- the greatest products of numbers with a sum -/
def gP : Nat → Nat
  | 0 => 1 | 1 => 1 | 2 => 2 | 3 => 3 | 4 => 4 | 5 => 6 | 6 => 9 | 7 => 12 | 8 => 18 | 9 => 27 | 10 => 36 | 11 => 54 | _ => 81
def hP : Nat → Nat
  | 0 => 0 | 1 => 0 | n + 2 => gP (n + 2) + hP n
theorem gP_mul : ∀ d, d < 13 → ∀ m, m < 13 → m + d ≤ 12 → gP m * m1 d ≤ gP (m + d) := by decide +kernel
theorem hP_mono : ∀ a, a < 13 → ∀ b, b < 13 → a ≤ b → hP a ≤ hP b := by decide +kernel
theorem hP12 : hP 12 = 150 := by decide +kernel
theorem gP_mono : ∀ a, a < 13 → ∀ b, b < 13 → a ≤ b → gP a ≤ gP b := by decide +kernel
def sumD (d : Nat → Nat) : Nat → Nat
  | 0 => 0
  | c + 1 => sumD d c + d c
theorem PM_gP {d : Nat → Nat} {seen : Nat} : ∀ n, sumD d n ≤ 12 → PM d seen n ≤ gP (sumD d n)
  | 0, _ => by show 1 ≤ gP 0; decide
  | n + 1, h => by
    unfold sumD at h
    have ih := PM_gP (d := d) (seen := seen) n (by omega)
    unfold PM sumD
    have hk := gP_mul (d n) (by omega) (sumD d n) (by omega) (by omega)
    have h2 : (if seen.testBit n = true then 1 else m1 (d n)) ≤ m1 (d n) := by
      split
      · exact m1_pos _
      · exact Nat.le_refl _
    exact Nat.le_trans (Nat.mul_le_mul ih h2) hk
theorem sum_dg (σ : Sg) (hO : Ok σ) (s : Nat) : ∀ n, n ≤ 12 → sumD (fun c => dg σ s c n) 8 = us σ s n
  | 0, _ => rfl
  | n + 1, h => by
    have ih := sum_dg σ hO s n (by omega)
    have h8 := (Ok_b hO (j := n) (by omega)).1
    unfold dg us at ih ⊢
    simp only [sumD, cnt] at ih ⊢
    have hd : ∀ c, dgp σ s c n = (decide (σ 1 n = c) && opn σ n && decide (s ≤ σ 3 n) && decide (s ≤ c)) := fun _ => rfl
    have hu : usp σ s n = (decide (s ≤ σ 1 n) && opn σ n && decide (s ≤ σ 3 n)) := rfl
    simp only [hd, hu]
    generalize cnt (dgp σ s 0) n = x0 at ih ⊢
    generalize cnt (dgp σ s 1) n = x1 at ih ⊢
    generalize cnt (dgp σ s 2) n = x2 at ih ⊢
    generalize cnt (dgp σ s 3) n = x3 at ih ⊢
    generalize cnt (dgp σ s 4) n = x4 at ih ⊢
    generalize cnt (dgp σ s 5) n = x5 at ih ⊢
    generalize cnt (dgp σ s 6) n = x6 at ih ⊢
    generalize cnt (dgp σ s 7) n = x7 at ih ⊢
    generalize cnt (usp σ s) n = y at ih ⊢
    generalize decide (s ≤ σ 3 n) = z
    generalize opn σ n = o
    rcases (show σ 1 n = 0 ∨ σ 1 n = 1 ∨ σ 1 n = 2 ∨ σ 1 n = 3 ∨ σ 1 n = 4 ∨ σ 1 n = 5 ∨ σ 1 n = 6 ∨ σ 1 n = 7 by omega) with e | e | e | e | e | e | e | e <;> rw [e] <;> cases o <;> cases z <;> simp <;> (try split) <;> omega
theorem us_le (σ : Sg) (s n : Nat) : us σ s n ≤ n := cnt_le _ n
/-- a round's first board and its last one -/
theorem dfs_last (σ : Sg) (s : Nat) : ∀ (f c seen : Nat) (p : List Nat), s ≤ c → 0 < (dfs σ s f c seen p).length → ∃ b, b < σ 0 0 ∧ opn σ b = true ∧ σ 3 b = s ∧ s ≤ σ 1 b
  | 0, c, seen, p, _, h => by unfold dfs at h; exact absurd h (Nat.lt_irrefl 0)
  | f + 1, c, seen, p, hc, h => by
    unfold dfs at h
    obtain ⟨x, hx⟩ := List.exists_mem_of_length_pos h
    obtain ⟨b, hb, hxb⟩ := List.mem_flatMap.mp hx
    have hbn := List.mem_range.mp hb
    by_cases h1 : σ 1 b = c ∧ opn σ b = true
    · rw [if_pos h1] at hxb
      by_cases h2 : σ 3 b = s
      · exact ⟨b, hbn, h1.2, h2, by omega⟩
      · rw [if_neg h2] at hxb
        by_cases h3 : s < σ 3 b ∧ seen.testBit (σ 3 b) = false
        · rw [if_pos h3] at hxb
          exact dfs_last σ s f (σ 3 b) _ _ (by omega) (List.length_pos_of_mem hxb)
        · rw [if_neg h3] at hxb
          exact absurd hxb (List.not_mem_nil)
    · rw [if_neg h1] at hxb
      exact absurd hxb (List.not_mem_nil)
theorem dfs_first (σ : Sg) (s : Nat) (f c seen : Nat) (p : List Nat) (h : 0 < (dfs σ s f c seen p).length) : ∃ b, b < σ 0 0 ∧ opn σ b = true ∧ σ 1 b = c ∧ s ≤ σ 3 b := by
  cases f with
  | zero => unfold dfs at h; exact absurd h (Nat.lt_irrefl 0)
  | succ f =>
    unfold dfs at h
    obtain ⟨x, hx⟩ := List.exists_mem_of_length_pos h
    obtain ⟨b, hb, hxb⟩ := List.mem_flatMap.mp hx
    have hbn := List.mem_range.mp hb
    by_cases h1 : σ 1 b = c ∧ opn σ b = true
    · rw [if_pos h1] at hxb
      by_cases h2 : σ 3 b = s
      · exact ⟨b, hbn, h1.2, h1.1, by omega⟩
      · rw [if_neg h2] at hxb
        by_cases h3 : s < σ 3 b ∧ seen.testBit (σ 3 b) = false
        · exact ⟨b, hbn, h1.2, h1.1, by omega⟩
        · rw [if_neg h3] at hxb
          exact absurd hxb (List.not_mem_nil)
    · rw [if_neg h1] at hxb
      exact absurd hxb (List.not_mem_nil)
theorem us_mono (σ : Sg) (s n : Nat) : us σ (s + 1) n ≤ us σ s n := cnt_mono (fun b h => by rw [usp_iff] at h ⊢; exact ⟨by omega, h.2.1, by omega⟩) n
theorem us_two (σ : Sg) (hO : Ok σ) (s : Nat) (h : 0 < (dfs σ s 8 s (2 ^ s) []).length) : us σ (s + 1) (σ 0 0) + 2 ≤ us σ s (σ 0 0) := by
  obtain ⟨x, hx, ox, tx, fx⟩ := dfs_last σ s 8 s _ _ (Nat.le_refl _) h
  obtain ⟨y, hy, oy, fy, ty⟩ := dfs_first σ s 8 s _ _ h
  have hne := (Ok_p hO hx).1
  refine cnt_two (x := x) (y := y) (fun b h => by rw [usp_iff] at h ⊢; exact ⟨by omega, h.2.1, by omega⟩) hx hy (fun e => ?_) ?_ ?_ ?_ ?_
  · subst e
    exact hne (fy.trans tx.symm)
  · refine Bool.eq_false_iff.mpr (fun h => ?_)
    have := (usp_iff.mp h).2.2
    omega
  · exact usp_iff.mpr ⟨fx, ox, by omega⟩
  · refine Bool.eq_false_iff.mpr (fun h => ?_)
    have := (usp_iff.mp h).1
    omega
  · exact usp_iff.mpr ⟨by omega, oy, ty⟩
theorem start_le (σ : Sg) (hO : Ok σ) (s : Nat) (hs : s < 8) : (dfs σ s 8 s (2 ^ s) []).length ≤ gP (us σ s (σ 0 0)) := by
  have h12 := hO.1
  have h1 := dfs_le σ hO s 8 s (2 ^ s) [] (Nat.le_refl _)
  have hsum := sum_dg σ hO s (σ 0 0) h12
  have hu := us_le σ s (σ 0 0)
  have h2 := PM_gP (d := fun x => dg σ s x (σ 0 0)) (seen := 0) 8 (by rw [hsum]; omega)
  rw [hsum] at h2
  have ht := PM_take (d := fun x => dg σ s x (σ 0 0)) (seen := 0) (c := s) (by simp) hs
  rw [Nat.zero_or] at ht
  have hm := Nat.mul_le_mul_right (PM (fun x => dg σ s x (σ 0 0)) (2 ^ s) 8) (m1_le (dg σ s s (σ 0 0)))
  have ht' : m1 (dg σ s s (σ 0 0)) * PM (fun x => dg σ s x (σ 0 0)) (2 ^ s) 8 = PM (fun x => dg σ s x (σ 0 0)) 0 8 := ht
  omega
theorem rest_le (σ : Sg) (hO : Ok σ) : ∀ k s, s + k = 8 → (((List.range k).map (· + s)).flatMap (fun s => dfs σ s 8 s (2 ^ s) [])).length ≤ hP (us σ s (σ 0 0))
  | 0, s, _ => by simp
  | k + 1, s, h => by
    have ih := rest_le σ hO k (s + 1) (by omega)
    have h12 := hO.1
    have hu := us_le σ s (σ 0 0)
    have hu1 := us_le σ (s + 1) (σ 0 0)
    have e : (List.range (k + 1)).map (· + s) = s :: (List.range k).map (· + (s + 1)) := by
      rw [List.range_succ_eq_map, List.map_cons, List.map_map]
      congr 1
      · omega
      · apply List.map_congr_left
        intro a _
        show Nat.succ a + s = a + (s + 1)
        omega
    rw [e, List.flatMap_cons, List.length_append]
    by_cases hz : 0 < (dfs σ s 8 s (2 ^ s) []).length
    · have h2 := us_two σ hO s hz
      have hs := start_le σ hO s (by omega)
      have hm := hP_mono (us σ (s + 1) (σ 0 0)) (by omega) (us σ s (σ 0 0) - 2) (by omega) (by omega)
      have e2 : hP (us σ s (σ 0 0)) = gP (us σ s (σ 0 0)) + hP (us σ s (σ 0 0) - 2) := by
        have e3 : us σ s (σ 0 0) = (us σ s (σ 0 0) - 2) + 2 := by omega
        rw [e3]
        rfl
      omega
    · have hm := hP_mono (us σ (s + 1) (σ 0 0)) (by omega) (us σ s (σ 0 0)) (by omega) (us_mono σ s _)
      omega
theorem rnds_le {σ : Sg} (hO : Ok σ) : (rnds σ).length ≤ 150 := by
  have h := rest_le σ hO 8 0 rfl
  have h12 := hO.1
  have hu := us_le σ 0 (σ 0 0)
  have hm := hP_mono (us σ 0 (σ 0 0)) (by omega) 12 (by decide) (by omega)
  rw [hP12] at hm
  have e : (List.range 8).map (· + 0) = List.range 8 := by simp
  rw [e] at h
  unfold rnds
  omega
