/-! ROUNDS: plain facts -/
theorem prodL_app : ∀ a b : List Nat, prodL (a ++ b) = prodL a * prodL b
  | [], b => (Nat.one_mul _).symm
  | x :: a, b => by
    show x * prodL (a ++ b) = x * prodL a * prodL b
    rw [prodL_app a b, Nat.mul_assoc]
theorem pUp_snoc (g : Nat → Nat) (f : Nat) (p : List Nat) (b : Nat) : pUp g f (p ++ [b]) = pUp g f p * upR (g b) f := by
  unfold pUp
  rw [List.map_append, prodL_app]
  show _ * (upR (g b) f * 1) = _
  rw [Nat.mul_one]
theorem pLow_snoc (σ : Sg) (p : List Nat) (b : Nat) : pLow σ (p ++ [b]) = pLow σ p * σ 2 b := by
  unfold pLow
  rw [List.map_append, prodL_app]
  show _ * (σ 2 b * 1) = _
  rw [Nat.mul_one]
theorem bitsP_snoc : ∀ (p : List Nat) (b : Nat), bitsP (p ++ [b]) = bitsP p ||| 2 ^ b
  | [], b => by show 2 ^ b ||| 0 = 0 ||| 2 ^ b; simp
  | x :: p, b => by
    show 2 ^ x ||| bitsP (p ++ [b]) = (2 ^ x ||| bitsP p) ||| 2 ^ b
    rw [bitsP_snoc p b, Nat.or_assoc]
theorem bitsP_lt {k : Nat} : ∀ {p : List Nat}, (∀ x ∈ p, x < k) → bitsP p < 2 ^ k
  | [], _ => Nat.two_pow_pos _
  | x :: p, h => or_lt (Nat.pow_lt_pow_right (by decide) (h x List.mem_cons_self)) (bitsP_lt (fun y hy => h y (List.mem_cons_of_mem _ hy)))
theorem prodL_le : ∀ {l : List Nat} {m : Nat}, (∀ x ∈ l, x ≤ 99) → l.length ≤ m → prodL l ≤ 99 ^ m
  | [], m, _, _ => Nat.one_le_pow _ _ (by decide)
  | x :: l, 0, _, h => by simp at h
  | x :: l, m + 1, h, hl => by
    show x * prodL l ≤ 99 ^ (m + 1)
    rw [Nat.pow_succ, Nat.mul_comm]
    exact Nat.mul_le_mul (prodL_le (fun y hy => h y (List.mem_cons_of_mem _ hy)) (by simpa using hl)) (h x List.mem_cons_self)
theorem p99 : 99 ^ 8 < 2 ^ 63 := by decide +kernel
theorem pUp_lt {g : Nat → Nat} {f : Nat} {r : List Nat} (hg : ∀ x ∈ r, g x ≤ 99) (hl : r.length ≤ 8) : pUp g f r < 2 ^ 63 := by
  refine Nat.lt_of_le_of_lt (prodL_le (m := 8) (fun x hx => ?_) (by rw [List.length_map]; exact hl)) p99
  obtain ⟨y, hy, rfl⟩ := List.mem_map.mp hx
  exact upR_99 (hg y hy)
theorem pLow_lt {σ : Sg} {r : List Nat} (hg : ∀ x ∈ r, σ 2 x ≤ 99) (hl : r.length ≤ 8) : pLow σ r < 2 ^ 63 := by
  refine Nat.lt_of_le_of_lt (prodL_le (m := 8) (fun x hx => ?_) (by rw [List.length_map]; exact hl)) p99
  obtain ⟨y, hy, rfl⟩ := List.mem_map.mp hx
  exact hg y hy
theorem prodL_pos : ∀ {l : List Nat}, (∀ x ∈ l, 1 ≤ x) → 1 ≤ prodL l
  | [], _ => Nat.le_refl _
  | x :: l, h => Nat.mul_le_mul (h x List.mem_cons_self) (prodL_pos (fun y hy => h y (List.mem_cons_of_mem _ hy)))
theorem pUp_pos (g : Nat → Nat) (f : Nat) (r : List Nat) : 1 ≤ pUp g f r := prodL_pos (fun x hx => by
  obtain ⟨y, _, rfl⟩ := List.mem_map.mp hx
  exact upR_pos _ _)
theorem pLow_pos {σ : Sg} (hO : Ok σ) {r : List Nat} (h : ∀ x ∈ r, x < σ 0 0) : 1 ≤ pLow σ r := prodL_pos (fun x hx => by
  obtain ⟨y, hy, rfl⟩ := List.mem_map.mp hx
  exact (Ok_p hO (h y hy)).2.1)
/-- boards of a list, in the ranges -/
def okP (σ : Sg) (r : List Nat) : Prop := ∀ x ∈ r, x < σ 0 0
theorem okP_snoc {σ : Sg} {r : List Nat} {b : Nat} (h : okP σ r) (hb : b < σ 0 0) : okP σ (r ++ [b]) := fun x hx => by
  rcases List.mem_append.mp hx with q | q
  · exact h x q
  · rw [List.mem_singleton.mp q]; exact hb
theorem okP_up {σ : Sg} (hO : Ok σ) {r : List Nat} (h : okP σ r) (hl : r.length ≤ 8) : pUp (σ 4) (σ 0 1) r < 2 ^ 63 := pUp_lt (fun x hx => (Ok_b hO (Nat.lt_of_lt_of_le (h x hx) hO.1)).2.2.2.1) hl
theorem okP_low {σ : Sg} (hO : Ok σ) {r : List Nat} (h : okP σ r) (hl : r.length ≤ 8) : pLow σ r < 2 ^ 63 := pLow_lt (fun x hx => (Ok_b hO (Nat.lt_of_lt_of_le (h x hx) hO.1)).2.1) hl
theorem okP_bits {σ : Sg} (hO : Ok σ) {r : List Nat} (h : okP σ r) : bitsP r < 2 ^ 12 := bitsP_lt (fun x hx => Nat.lt_of_lt_of_le (h x hx) hO.1)
/-! the boards of one coin, from the k-th last on -/
def Fb (σ : Sg) (s f c seen : Nat) (p : List Nat) (b : Nat) : List (List Nat) := if σ 1 b = c ∧ opn σ b = true then (if σ 3 b = s then [p ++ [b]] else if s < σ 3 b ∧ seen.testBit (σ 3 b) = false then dfs σ s f (σ 3 b) (seen ||| 2 ^ σ 3 b) (p ++ [b]) else []) else []
def sc (σ : Sg) (s f c seen : Nat) (p : List Nat) : Nat → List (List Nat)
  | 0 => []
  | k + 1 => Fb σ s f c seen p (σ 0 0 - (k + 1)) ++ sc σ s f c seen p k
theorem sc_drop (σ : Sg) (s f c seen : Nat) (p : List Nat) : ∀ k, k ≤ σ 0 0 → ((List.range (σ 0 0)).drop (σ 0 0 - k)).flatMap (Fb σ s f c seen p) = sc σ s f c seen p k
  | 0, _ => by
    rw [List.drop_of_length_le (by simp)]
    rfl
  | k + 1, h => by
    have e : (List.range (σ 0 0)).drop (σ 0 0 - (k + 1)) = (σ 0 0 - (k + 1)) :: (List.range (σ 0 0)).drop (σ 0 0 - k) := by
      rw [List.drop_eq_getElem_cons (by simp; omega)]
      rw [List.getElem_range, show σ 0 0 - (k + 1) + 1 = σ 0 0 - k by omega]
    rw [e, List.flatMap_cons, sc_drop σ s f c seen p k (by omega)]
    rfl
theorem dfs_sc (σ : Sg) (s f c seen : Nat) (p : List Nat) : dfs σ s (f + 1) c seen p = sc σ s f c seen p (σ 0 0) := by
  rw [← sc_drop σ s f c seen p (σ 0 0) (Nat.le_refl _), Nat.sub_self, List.drop_zero]
  rfl
/-- coins that are seen, as a number -/
theorem seen_room {seen t n : Nat} (h : n + 1 ≤ cnt seen.testBit 8) (ht : t < 8) (hs : seen.testBit t = false) : n + 1 ≤ 7 ∧ n + 1 + 1 ≤ cnt (seen ||| 2 ^ t).testBit 8 := by
  have h1 := cnt_one (p := seen.testBit) (q := fun _ => true) (fun _ _ => rfl) ht hs rfl
  have h2 := cnt_le (fun _ => true) 8
  have h3 := cnt_one (p := seen.testBit) (q := (seen ||| 2 ^ t).testBit) (fun b hb => by rw [tb_or, hb]; rfl) ht hs (by rw [tb_or]; simp)
  omega
theorem seen_start {s : Nat} (hs : s < 8) : 0 + 1 ≤ cnt (2 ^ s).testBit 8 := by
  have key : ∀ s, s < 8 → 0 + 1 ≤ cnt (2 ^ s).testBit 8 := by decide +kernel
  exact key s hs
/-- taking a bit away again -/
theorem clr_ok : ∀ t, t < 8 → nI (2 ^ t) ^^^ (-1) = nI (4294967295 - 2 ^ t) := by decide +kernel
theorem clr_bit {s t : Nat} (hs : s < 2 ^ 8) (ht : t < 8) (h : s.testBit t = false) : nI (s ||| 2 ^ t) &&& (nI (2 ^ t) ^^^ (-1)) = nI s := by
  have key : ∀ s, s < 256 → ∀ t, t < 8 → s.testBit t = false → nI (s ||| 2 ^ t) &&& (nI (2 ^ t) ^^^ (-1)) = nI s := by decide +kernel
  exact key s hs t ht h
