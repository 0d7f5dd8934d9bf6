/-! THE STATE in numbers: σ 0 = (boards, fee, now, drop, signs); σ 1 to σ 7: from, takes, to, gives, since, till, most; σ 8 the signs; σ 9 the worths -/
abbrev Sg : Type := Nat → Nat → Nat
def Xs (μ : Mem) (σ : Sg) : Prop :=
  μ.1 1 8 = nI (σ 0 0) ∧ (∀ j, j < 12 → μ.1 2 j = nI (σ 1 j)) ∧ (∀ j, j < 12 → μ.1 3 j = nI (σ 2 j)) ∧ (∀ j, j < 12 → μ.1 4 j = nI (σ 3 j)) ∧ (∀ j, j < 12 → μ.1 5 j = nI (σ 4 j)) ∧ (∀ j, j < 12 → μ.1 6 j = nI (σ 5 j)) ∧ (∀ j, j < 12 → μ.1 7 j = nI (σ 6 j)) ∧ (∀ j, j < 12 → μ.1 8 j = nI (σ 7 j)) ∧
  μ.1 9 0 = nI (σ 0 1) ∧ μ.1 9 1 = nI (σ 0 2) ∧ μ.1 9 2 = nI (σ 0 3) ∧ μ.1 10 1 = nI (σ 0 4) ∧ (∀ j, j < σ 0 4 → μ.1 11 j = nI (σ 8 j)) ∧ (∀ j, j < 8 → μ.1 39 j = nI (σ 9 j))
def Ms (μ : Mem) (σ : Sg) : Prop :=
  μ.1 40 0 = nI (σ 0 0) ∧ (∀ j, j < 12 → μ.1 41 j = nI (σ 1 j)) ∧ (∀ j, j < 12 → μ.1 42 j = nI (σ 2 j)) ∧ (∀ j, j < 12 → μ.1 43 j = nI (σ 3 j)) ∧ (∀ j, j < 12 → μ.1 44 j = nI (σ 4 j)) ∧ (∀ j, j < 12 → μ.1 45 j = nI (σ 5 j)) ∧ (∀ j, j < 12 → μ.1 46 j = nI (σ 6 j)) ∧ (∀ j, j < 12 → μ.1 47 j = nI (σ 7 j)) ∧
  μ.1 48 0 = nI (σ 0 1) ∧ μ.1 48 1 = nI (σ 0 2) ∧ μ.1 48 2 = nI (σ 0 3) ∧ μ.1 40 9 = nI (σ 0 4) ∧ (∀ j, j < σ 0 4 → μ.1 49 j = nI (σ 8 j)) ∧ (∀ j, j < 8 → μ.1 50 j = nI (σ 9 j))
def Ok (σ : Sg) : Prop :=
  σ 0 0 ≤ 12 ∧ σ 0 1 ≤ 98 ∧ σ 0 2 ≤ 99 ∧ (1 ≤ σ 0 3 ∧ σ 0 3 ≤ 98) ∧ σ 0 4 ≤ 80 ∧
  (∀ j, j < 12 → σ 1 j < 8 ∧ σ 2 j ≤ 99 ∧ σ 3 j < 8 ∧ σ 4 j ≤ 99 ∧ σ 5 j ≤ 99 ∧ σ 6 j ≤ 99 ∧ σ 7 j ≤ 1000000) ∧
  (∀ j, j < σ 0 0 → ¬ σ 1 j = σ 3 j ∧ 1 ≤ σ 2 j ∧ 1 ≤ σ 4 j ∧ 1 ≤ σ 7 j) ∧
  (∀ j, j < σ 0 4 → 33 ≤ σ 8 j ∧ σ 8 j ≤ 126) ∧ (∀ j, j < 8 → 1 ≤ σ 9 j ∧ σ 9 j ≤ 1000000)
theorem Xs_n {μ : Mem} {σ : Sg} (h : Xs μ σ) : μ.1 1 8 = nI (σ 0 0) := h.1
theorem Xs_1 {μ : Mem} {σ : Sg} (h : Xs μ σ) {j : Nat} (hj : j < 12) : μ.1 2 j = nI (σ 1 j) := h.2.1 j hj
theorem Xs_2 {μ : Mem} {σ : Sg} (h : Xs μ σ) {j : Nat} (hj : j < 12) : μ.1 3 j = nI (σ 2 j) := h.2.2.1 j hj
theorem Xs_3 {μ : Mem} {σ : Sg} (h : Xs μ σ) {j : Nat} (hj : j < 12) : μ.1 4 j = nI (σ 3 j) := h.2.2.2.1 j hj
theorem Xs_4 {μ : Mem} {σ : Sg} (h : Xs μ σ) {j : Nat} (hj : j < 12) : μ.1 5 j = nI (σ 4 j) := h.2.2.2.2.1 j hj
theorem Xs_5 {μ : Mem} {σ : Sg} (h : Xs μ σ) {j : Nat} (hj : j < 12) : μ.1 6 j = nI (σ 5 j) := h.2.2.2.2.2.1 j hj
theorem Xs_6 {μ : Mem} {σ : Sg} (h : Xs μ σ) {j : Nat} (hj : j < 12) : μ.1 7 j = nI (σ 6 j) := h.2.2.2.2.2.2.1 j hj
theorem Xs_7 {μ : Mem} {σ : Sg} (h : Xs μ σ) {j : Nat} (hj : j < 12) : μ.1 8 j = nI (σ 7 j) := h.2.2.2.2.2.2.2.1 j hj
theorem Xs_fee {μ : Mem} {σ : Sg} (h : Xs μ σ) : μ.1 9 0 = nI (σ 0 1) := h.2.2.2.2.2.2.2.2.1
theorem Xs_now {μ : Mem} {σ : Sg} (h : Xs μ σ) : μ.1 9 1 = nI (σ 0 2) := h.2.2.2.2.2.2.2.2.2.1
theorem Xs_drop {μ : Mem} {σ : Sg} (h : Xs μ σ) : μ.1 9 2 = nI (σ 0 3) := h.2.2.2.2.2.2.2.2.2.2.1
theorem Xs_sn {μ : Mem} {σ : Sg} (h : Xs μ σ) : μ.1 10 1 = nI (σ 0 4) := h.2.2.2.2.2.2.2.2.2.2.2.1
theorem Xs_8 {μ : Mem} {σ : Sg} (h : Xs μ σ) {j : Nat} (hj : j < σ 0 4) : μ.1 11 j = nI (σ 8 j) := h.2.2.2.2.2.2.2.2.2.2.2.2.1 j hj
theorem Xs_9 {μ : Mem} {σ : Sg} (h : Xs μ σ) {j : Nat} (hj : j < 8) : μ.1 39 j = nI (σ 9 j) := h.2.2.2.2.2.2.2.2.2.2.2.2.2 j hj
theorem Ms_n {μ : Mem} {σ : Sg} (h : Ms μ σ) : μ.1 40 0 = nI (σ 0 0) := h.1
theorem Ms_1 {μ : Mem} {σ : Sg} (h : Ms μ σ) {j : Nat} (hj : j < 12) : μ.1 41 j = nI (σ 1 j) := h.2.1 j hj
theorem Ms_2 {μ : Mem} {σ : Sg} (h : Ms μ σ) {j : Nat} (hj : j < 12) : μ.1 42 j = nI (σ 2 j) := h.2.2.1 j hj
theorem Ms_3 {μ : Mem} {σ : Sg} (h : Ms μ σ) {j : Nat} (hj : j < 12) : μ.1 43 j = nI (σ 3 j) := h.2.2.2.1 j hj
theorem Ms_4 {μ : Mem} {σ : Sg} (h : Ms μ σ) {j : Nat} (hj : j < 12) : μ.1 44 j = nI (σ 4 j) := h.2.2.2.2.1 j hj
theorem Ms_5 {μ : Mem} {σ : Sg} (h : Ms μ σ) {j : Nat} (hj : j < 12) : μ.1 45 j = nI (σ 5 j) := h.2.2.2.2.2.1 j hj
theorem Ms_6 {μ : Mem} {σ : Sg} (h : Ms μ σ) {j : Nat} (hj : j < 12) : μ.1 46 j = nI (σ 6 j) := h.2.2.2.2.2.2.1 j hj
theorem Ms_7 {μ : Mem} {σ : Sg} (h : Ms μ σ) {j : Nat} (hj : j < 12) : μ.1 47 j = nI (σ 7 j) := h.2.2.2.2.2.2.2.1 j hj
theorem Ms_fee {μ : Mem} {σ : Sg} (h : Ms μ σ) : μ.1 48 0 = nI (σ 0 1) := h.2.2.2.2.2.2.2.2.1
theorem Ms_now {μ : Mem} {σ : Sg} (h : Ms μ σ) : μ.1 48 1 = nI (σ 0 2) := h.2.2.2.2.2.2.2.2.2.1
theorem Ms_drop {μ : Mem} {σ : Sg} (h : Ms μ σ) : μ.1 48 2 = nI (σ 0 3) := h.2.2.2.2.2.2.2.2.2.2.1
theorem Ms_sn {μ : Mem} {σ : Sg} (h : Ms μ σ) : μ.1 40 9 = nI (σ 0 4) := h.2.2.2.2.2.2.2.2.2.2.2.1
theorem Ms_8 {μ : Mem} {σ : Sg} (h : Ms μ σ) {j : Nat} (hj : j < σ 0 4) : μ.1 49 j = nI (σ 8 j) := h.2.2.2.2.2.2.2.2.2.2.2.2.1 j hj
theorem Ms_9 {μ : Mem} {σ : Sg} (h : Ms μ σ) {j : Nat} (hj : j < 8) : μ.1 50 j = nI (σ 9 j) := h.2.2.2.2.2.2.2.2.2.2.2.2.2 j hj
/-- the bounds of one board, for omega -/
theorem Ok_n {σ : Sg} (h : Ok σ) : σ 0 0 ≤ 12 ∧ σ 0 1 ≤ 98 ∧ σ 0 2 ≤ 99 ∧ 1 ≤ σ 0 3 ∧ σ 0 3 ≤ 98 ∧ σ 0 4 ≤ 80 := ⟨h.1, h.2.1, h.2.2.1, h.2.2.2.1.1, h.2.2.2.1.2, h.2.2.2.2.1⟩
theorem Ok_b {σ : Sg} (h : Ok σ) {j : Nat} (hj : j < 12) : σ 1 j < 8 ∧ σ 2 j ≤ 99 ∧ σ 3 j < 8 ∧ σ 4 j ≤ 99 ∧ σ 5 j ≤ 99 ∧ σ 6 j ≤ 99 ∧ σ 7 j ≤ 1000000 := h.2.2.2.2.2.1 j hj
theorem Ok_p {σ : Sg} (h : Ok σ) {j : Nat} (hj : j < σ 0 0) : ¬ σ 1 j = σ 3 j ∧ 1 ≤ σ 2 j ∧ 1 ≤ σ 4 j ∧ 1 ≤ σ 7 j := h.2.2.2.2.2.2.1 j hj
theorem Ok_s {σ : Sg} (h : Ok σ) {j : Nat} (hj : j < σ 0 4) : 33 ≤ σ 8 j ∧ σ 8 j ≤ 126 := h.2.2.2.2.2.2.2.1 j hj
theorem Ok_w {σ : Sg} (h : Ok σ) {j : Nat} (hj : j < 8) : 1 ≤ σ 9 j ∧ σ 9 j ≤ 1000000 := h.2.2.2.2.2.2.2.2 j hj
/-- one number anew -/
def su (σ : Sg) (a j v : Nat) : Sg := fun b i => if b = a ∧ i = j then v else σ b i
theorem su_s {σ : Sg} {a j v : Nat} : su σ a j v a j = v := by simp [su]
theorem su_o {σ : Sg} {a j v b i : Nat} (h : ¬ (b = a ∧ i = j)) : su σ a j v b i = σ b i := by simp only [su, if_neg h]
/-- in a range, over raw ints -/
def inR (v lo hi : Int32) : Bool := decide (lo ≤ v) && decide (v ≤ hi)
theorem inR_iff {v lo hi : Int32} : inR v lo hi = true ↔ lo.toInt ≤ v.toInt ∧ v.toInt ≤ hi.toInt := by
  unfold inR
  simp [Int32.le_iff_toInt_le]
theorem inR_f {v lo hi : Int32} : inR v lo hi = false ↔ v.toInt < lo.toInt ∨ hi.toInt < v.toInt := by
  rw [← Bool.not_eq_true, inR_iff]
  omega
theorem inR_nat {a l h : Nat} (ha : a < 2 ^ 31) (hl : l < 2 ^ 31) (hh : h < 2 ^ 31) : inR (nI a) (nI l) (nI h) = (decide (l ≤ a) && decide (a ≤ h)) := by
  unfold inR
  rw [decide_eq_decide.mpr (nI_leI hl ha), decide_eq_decide.mpr (nI_leI ha hh)]
/-- a raw int within 0 .. n - 1 -/
def isB (b : Int32) (n : Nat) : Bool := decide (0 ≤ b.toInt) && decide (b.toInt < (n : Int))
theorem isB_t {b : Int32} {n : Nat} (h : isB b n = true) : ∃ j : Nat, j < n ∧ b = nI j ∧ b.toInt = j := by
  unfold isB at h
  simp at h
  obtain ⟨j, hj, rfl⟩ := nI_of (x := b) (fun q => by have := Int32.lt_iff_toInt_lt.mp q; simp at this; omega)
  rw [nI_toInt hj] at h
  exact ⟨j, by omega, rfl, nI_toInt hj⟩
theorem isB_nat {j n : Nat} (hj : j < 2 ^ 31) : isB (nI j) n = decide (j < n) := by
  unfold isB
  rw [nI_toInt hj]
  by_cases h : j < n
  · simp [h]
  · simp [h]
theorem inR_isB {b : Int32} {n : Nat} (hn : n < 2 ^ 30) : inR b (nI 0) (nI n - nI 1) = isB b n := by
  apply Bool.eq_iff_iff.mpr
  rw [inR_iff, nI_toInt (by decide), pk_sub_toInt hn (by decide)]
  unfold isB
  simp
  omega
def opn (σ : Sg) (b : Nat) : Bool := decide (σ 5 b ≤ σ 0 2) && decide (σ 0 2 ≤ σ 6 b)
def upR (g f : Nat) : Nat := if g ≤ f then 1 else g - f
theorem upR_pos (g f : Nat) : 1 ≤ upR g f := by unfold upR; split <;> omega
theorem upR_le {g f : Nat} (h : 1 ≤ g) : upR g f ≤ g := by unfold upR; split <;> omega
theorem upR_99 {g f : Nat} (h : g ≤ 99) : upR g f ≤ 99 := by unfold upR; split <;> omega
theorem b2i_eq {b : Bool} {x : Int32} (h : x = if b then nI 1 else nI 0) : b2i b = x := by rw [h]; cases b <;> rfl
theorem b2i_t {b : Bool} (h : b = true) : b2i b = nI 1 := by rw [h]; rfl
theorem b2i_f {b : Bool} (h : b = false) : b2i b = nI 0 := by rw [h]; rfl
theorem nI_max {a b : Nat} (ha : a < 2 ^ 31) (hb : b < 2 ^ 31) : (if nI a < nI b then nI b else nI a) = nI (Nat.max a b) := by
  by_cases h : a < b
  · rw [if_pos ((nI_ltI ha hb).mpr h)]; congr 1; exact (Nat.max_eq_right (Nat.le_of_lt h)).symm
  · rw [if_neg (fun q => h ((nI_ltI ha hb).mp q))]; congr 1; exact (Nat.max_eq_left (by omega)).symm
theorem nI_min {a b : Nat} (ha : a < 2 ^ 31) (hb : b < 2 ^ 31) : (if nI b < nI a then nI b else nI a) = nI (Nat.min a b) := by
  by_cases h : b < a
  · rw [if_pos ((nI_ltI hb ha).mpr h)]; congr 1; exact (Nat.min_eq_right (Nat.le_of_lt h)).symm
  · rw [if_neg (fun q => h ((nI_ltI hb ha).mp q))]; congr 1; exact (Nat.min_eq_left (by omega)).symm
theorem nI_dec {a b : Nat} (h : b ≤ a) : nI a + Int32.ofInt (-(b : Int)) = nI (a - b) := by
  rw [← nI_sub h]
  show nI a + Int32.ofInt (-(b : Int)) = nI a - nI b
  rw [Int32.sub_eq_add_neg]
  congr 1
  rw [Int32.ofInt_neg]
  rfl
