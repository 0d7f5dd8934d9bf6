/-! WALKERS: plain facts -/
def sg (σ : Sg) (g : Nat → Nat) : Sg := fun a i => if a = 4 then g i else σ a i
theorem sg_id (σ : Sg) : sg σ (σ 4) = σ := by
  funext a i
  unfold sg
  split
  · rename_i h; rw [h]
  · rfl
theorem sg_su (σ : Sg) (g : Nat → Nat) (b v : Nat) : su (sg σ g) 4 b v = sg σ (setG g b v) := by
  funext a i
  unfold su sg setG
  by_cases e : a = 4
  · subst e
    by_cases q : i = b
    · simp [q]
    · simp [q]
  · simp [e]
theorem rnds_sg (σ : Sg) (g : Nat → Nat) : rnds (sg σ g) = rnds σ := rnds_cong2 rfl rfl rfl rfl rfl rfl
theorem Gs_sg (σ : Sg) (g : Nat → Nat) : Gs (sg σ g) = gsl σ g (σ 0 1) := by
  unfold Gs gsl
  rw [rnds_sg]
  congr 1
/-- gives as they may be -/
def okG (σ : Sg) (g : Nat → Nat) : Prop := (∀ b, b < 12 → g b ≤ 99) ∧ ∀ b, b < σ 0 0 → 1 ≤ g b
theorem okG_σ {σ : Sg} (h : Ok σ) : okG σ (σ 4) := ⟨fun b hb => (Ok_b h hb).2.2.2.1, fun b hb => (Ok_p h hb).2.2.1⟩
theorem Ok_sg {σ : Sg} {g : Nat → Nat} (h : Ok σ) (hg : okG σ g) : Ok (sg σ g) := by
  obtain ⟨a1, a2, a3, a4, a5, a6, a7, a8, a9⟩ := h
  refine ⟨a1, a2, a3, a4, a5, fun j hj => ?_, fun j hj => ?_, a8, a9⟩
  · obtain ⟨b1, b2, b3, b4, b5, b6, b7⟩ := a6 j hj
    exact ⟨b1, b2, b3, hg.1 j hj, b5, b6, b7⟩
  · obtain ⟨b1, b2, b3, b4⟩ := a7 j hj
    exact ⟨b1, b2, hg.2 j hj, b4⟩
theorem bitsP_mem : ∀ (r : List Nat) (b : Nat), (bitsP r).testBit b = true ↔ b ∈ r
  | [], b => by simp [bitsP]
  | x :: r, b => by
    show (2 ^ x ||| bitsP r).testBit b = true ↔ _
    rw [Nat.testBit_or, Nat.testBit_two_pow, Bool.or_eq_true, bitsP_mem r b, List.mem_cons, decide_eq_true_eq]
    constructor
    · rintro (h | h)
      · exact Or.inl h.symm
      · exact Or.inr h
    · rintro (h | h)
      · exact Or.inl h.symm
      · exact Or.inr h
/-- how much there is to lower -/
def sumG (g : Nat → Nat) : Nat → Nat
  | 0 => 0
  | n + 1 => sumG g n + (g n - 1)
theorem sumG_le {g : Nat → Nat} {m : Nat} : ∀ {n}, (∀ b, b < n → g b ≤ m + 1) → sumG g n ≤ n * m
  | 0, _ => by simp [sumG]
  | n + 1, h => by
    have h1 := sumG_le (m := m) (n := n) (fun b hb => h b (by omega))
    have h2 := h n (by omega)
    show sumG g n + (g n - 1) ≤ (n + 1) * m
    rw [Nat.add_mul]
    omega
theorem sumG_mono {g g' : Nat → Nat} : ∀ {n}, (∀ b, b < n → g' b ≤ g b) → sumG g' n ≤ sumG g n
  | 0, _ => Nat.le_refl _
  | n + 1, h => by
    have h1 := sumG_mono (n := n) (fun b hb => h b (by omega))
    have h2 := h n (by omega)
    show sumG g' n + (g' n - 1) ≤ sumG g n + (g n - 1)
    omega
theorem sumG_lt {g g' : Nat → Nat} : ∀ {n x : Nat}, (∀ b, b < n → g' b ≤ g b) → x < n → g' x < g x → 1 ≤ g' x → sumG g' n < sumG g n
  | 0, x, _, hx, _, _ => absurd hx (Nat.not_lt_zero x)
  | n + 1, x, h, hx, hl, h1 => by
    show sumG g' n + (g' n - 1) < sumG g n + (g n - 1)
    have h2 := h n (by omega)
    by_cases e : x = n
    · subst e
      have := sumG_mono (g := g) (g' := g') (n := x) (fun b hb => h b (by omega))
      omega
    · have := sumG_lt (g := g) (g' := g') (n := n) (fun b hb => h b (by omega)) (by omega) hl h1
      omega
theorem wear_le {d : Nat} {r : List Nat} {g : Nat → Nat} {b : Nat} (h1 : 1 ≤ g b) : wear d r g b ≤ g b ∧ 1 ≤ wear d r g b := by
  unfold wear
  split
  · split <;> omega
  · omega
/-- a round that gains has a board that gives more than one -/
theorem gain_two {σ : Sg} (hO : Ok σ) {g : Nat → Nat} {f : Nat} {r : List Nat} (hr : okP σ r) (h : gns σ g f r = true) : ∃ x ∈ r, 2 ≤ g x := by
  have h1 := of_decide_eq_true h
  have h2 := pLow_pos hO hr
  apply Classical.byContradiction
  intro hn
  have hx : ∀ x ∈ r, upR (g x) f ≤ 1 := fun x hx => by
    have : ¬ 2 ≤ g x := fun q => hn ⟨x, hx, q⟩
    unfold upR
    split <;> omega
  have : ∀ l : List Nat, (∀ x ∈ l, upR (g x) f ≤ 1) → pUp g f l ≤ 1 := by
    intro l
    induction l with
    | nil => intro _; exact Nat.le_refl _
    | cons a l ih =>
      intro h
      show upR (g a) f * pUp g f l ≤ 1 * 1
      exact Nat.mul_le_mul (h a List.mem_cons_self) (ih (fun x hx => h x (List.mem_cons_of_mem _ hx)))
  have := this r hx
  omega
theorem mostG_mem {σ : Sg} {g : Nat → Nat} {f : Nat} {r : List Nat} (h : mostG σ g f = some r) : r ∈ rnds σ ∧ gns σ g f r = true := by
  unfold mostG at h
  obtain ⟨j, hj, e⟩ := Option.map_eq_some_iff.mp h
  have hl := mi_lt hj
  rw [List.getD_eq_getElem?_getD, List.getElem?_eq_getElem hl] at e
  have hm : r ∈ gsl σ g f := by rw [← e]; exact List.getElem_mem hl
  exact List.mem_filter.mp hm
theorem wear_sum {σ : Sg} (hO : Ok σ) {g : Nat → Nat} (hg : okG σ g) {f : Nat} {r : List Nat} (h : mostG σ g f = some r) : sumG (wear (σ 0 3) r g) (σ 0 0) < sumG g (σ 0 0) ∧ okG σ (wear (σ 0 3) r g) := by
  obtain ⟨h1, h2⟩ := mostG_mem h
  have hok := (rnds_mem h1).2.1
  obtain ⟨x, hx, hx2⟩ := gain_two hO hok h2
  have hd := (Ok_n hO).2.2.2.1
  refine ⟨sumG_lt (x := x) (fun b hb => (wear_le (hg.2 b hb)).1) (hok x hx) ?_ (wear_le (hg.2 x (hok x hx))).2, fun b hb => ?_, fun b hb => (wear_le (hg.2 b hb)).2⟩
  · unfold wear
    rw [if_pos hx]
    split <;> omega
  · by_cases e : b < σ 0 0
    · exact Nat.le_trans (wear_le (hg.2 b e)).1 (hg.1 b hb)
    · unfold wear
      rw [if_neg (fun q => e (hok b q))]
      exact hg.1 b hb
def sp_walkers (σ : Sg) (w : Int32) : Int32 := if w = -1 then nI (wkr σ).1 else if isB w (σ 0 0) = false then -1 else nI ((wkr σ).2 (bN w))
theorem start_sum {σ : Sg} (hO : Ok σ) : sumG (σ 4) (σ 0 0) ≤ 1176 := by
  have h1 := sumG_le (g := σ 4) (m := 98) (n := σ 0 0) (fun b hb => (Ok_b hO (Nat.lt_of_lt_of_le hb hO.1)).2.2.2.1)
  have := hO.1
  omega
theorem walkN_le (σ : Sg) (f d : Nat) : ∀ (k : Nat) (g : Nat → Nat), (walkN σ f d k g).1 ≤ k
  | 0, g => Nat.le_refl _
  | k + 1, g => by
    unfold walkN
    cases mostG σ g f with
    | none => exact Nat.zero_le _
    | some r => exact Nat.succ_le_succ (walkN_le σ f d k _)
/-- more steps than there is to lower change nothing -/
theorem walkN_none {σ : Sg} {f d k : Nat} {g : Nat → Nat} (h : mostG σ g f = none) : walkN σ f d k g = (0, g) := by
  cases k with
  | zero => rfl
  | succ k => unfold walkN; rw [h]
theorem mostG_none {σ : Sg} {g : Nat → Nat} {f : Nat} : mostG σ g f = none ↔ (gsl σ g f).length = 0 := by
  unfold mostG
  rw [Option.map_eq_none_iff]
  constructor
  · intro h
    cases e : (gsl σ g f).length with
    | zero => rfl
    | succ n =>
      rw [e] at h
      obtain ⟨j, hj⟩ := mi_some (u := fun i => pUp g f ((gsl σ g f).getD i [])) (l := fun i => pLow σ ((gsl σ g f).getD i [])) (n := n)
      rw [hj] at h
      cases h
  · intro h
    rw [h]
    rfl
