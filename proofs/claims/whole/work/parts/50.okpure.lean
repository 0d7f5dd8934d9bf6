/-! EVERY CALL LEAVES THE STATE WITHIN ITS BOUNDS -/
theorem Ok_4 {σ : Sg} {j v : Nat} (h : Ok σ) (hv : 1 ≤ v ∧ v ≤ 99) : Ok (su σ 4 j v) := by
  obtain ⟨a1, a2, a3, a4, a5, a6, a7, a8, a9⟩ := h
  refine ⟨a1, a2, a3, a4, a5, fun k hk => ?_, fun k hk => ?_, a8, a9⟩
  · obtain ⟨b1, b2, b3, b4, b5, b6, b7⟩ := a6 k hk
    refine ⟨b1, b2, b3, ?_, b5, b6, b7⟩
    show (if 4 = 4 ∧ k = j then v else σ 4 k) ≤ 99
    split <;> omega
  · obtain ⟨b1, b2, b3, b4⟩ := a7 k hk
    refine ⟨b1, b2, ?_, b4⟩
    show 1 ≤ (if 4 = 4 ∧ k = j then v else σ 4 k)
    split <;> omega
theorem Ok_7 {σ : Sg} {j v : Nat} (h : Ok σ) (hv : 1 ≤ v ∧ v ≤ 1000000) : Ok (su σ 7 j v) := by
  obtain ⟨a1, a2, a3, a4, a5, a6, a7, a8, a9⟩ := h
  refine ⟨a1, a2, a3, a4, a5, fun k hk => ?_, fun k hk => ?_, a8, a9⟩
  · obtain ⟨b1, b2, b3, b4, b5, b6, b7⟩ := a6 k hk
    refine ⟨b1, b2, b3, b4, b5, b6, ?_⟩
    show (if 7 = 7 ∧ k = j then v else σ 7 k) ≤ 1000000
    split <;> omega
  · obtain ⟨b1, b2, b3, b4⟩ := a7 k hk
    refine ⟨b1, b2, b3, ?_⟩
    show 1 ≤ (if 7 = 7 ∧ k = j then v else σ 7 k)
    split <;> omega
theorem Ok_5 {σ : Sg} {j v : Nat} (h : Ok σ) (hv : v ≤ 99) : Ok (su σ 5 j v) := by
  obtain ⟨a1, a2, a3, a4, a5, a6, a7, a8, a9⟩ := h
  refine ⟨a1, a2, a3, a4, a5, fun k hk => ?_, a7, a8, a9⟩
  obtain ⟨b1, b2, b3, b4, b5, b6, b7⟩ := a6 k hk
  refine ⟨b1, b2, b3, b4, ?_, b6, b7⟩
  show (if 5 = 5 ∧ k = j then v else σ 5 k) ≤ 99
  split <;> omega
theorem Ok_6 {σ : Sg} {j v : Nat} (h : Ok σ) (hv : v ≤ 99) : Ok (su σ 6 j v) := by
  obtain ⟨a1, a2, a3, a4, a5, a6, a7, a8, a9⟩ := h
  refine ⟨a1, a2, a3, a4, a5, fun k hk => ?_, a7, a8, a9⟩
  obtain ⟨b1, b2, b3, b4, b5, b6, b7⟩ := a6 k hk
  refine ⟨b1, b2, b3, b4, b5, ?_, b7⟩
  show (if 6 = 6 ∧ k = j then v else σ 6 k) ≤ 99
  split <;> omega
theorem Ok_9 {σ : Sg} {j v : Nat} (h : Ok σ) (hv : 1 ≤ v ∧ v ≤ 1000000) : Ok (su σ 9 j v) := by
  obtain ⟨a1, a2, a3, a4, a5, a6, a7, a8, a9⟩ := h
  refine ⟨a1, a2, a3, a4, a5, a6, a7, a8, fun k hk => ?_⟩
  have b := a9 k hk
  show 1 ≤ (if 9 = 9 ∧ k = j then v else σ 9 k) ∧ (if 9 = 9 ∧ k = j then v else σ 9 k) ≤ 1000000
  split <;> omega
theorem Ok_w0 {σ : Sg} (h : Ok σ) : Ok (su σ 0 4 0) := by
  obtain ⟨a1, a2, a3, a4, a5, a6, a7, a8, a9⟩ := h
  exact ⟨a1, a2, a3, a4, Nat.zero_le _, a6, a7, fun k hk => absurd hk (Nat.not_lt_zero k), a9⟩
theorem Ok_board {σ : Sg} (h : Ok σ) (f t g n : Int32) : Ok (sp_board σ f t g n).2 := by
  unfold sp_board
  by_cases h1 : isB f 8 = false ∨ isB g 8 = false ∨ f = g
  · rw [if_pos h1]; exact h
  rw [if_neg h1]
  by_cases h2 : inR t (nI 1) (nI 99) = false ∨ inR n (nI 1) (nI 99) = false
  · rw [if_pos h2]; exact h
  rw [if_neg h2]
  by_cases h3 : σ 0 0 = 12
  · rw [if_pos h3]; exact h
  rw [if_neg h3]
  have hn := Ok_n h
  have f1 : isB f 8 = true := by cases e : isB f 8; exact absurd (Or.inl e) h1; rfl
  have g1 : isB g 8 = true := by cases e : isB g 8; exact absurd (Or.inr (Or.inl e)) h1; rfl
  have t1 : inR t (nI 1) (nI 99) = true := by cases e : inR t (nI 1) (nI 99); exact absurd (Or.inl e) h2; rfl
  have n1 : inR n (nI 1) (nI 99) = true := by cases e : inR n (nI 1) (nI 99); exact absurd (Or.inr e) h2; rfl
  obtain ⟨fj, hf, rfl, -⟩ := isB_t f1
  obtain ⟨gj, hg, rfl, -⟩ := isB_t g1
  obtain ⟨tj, ht1, ht2, rfl⟩ := inR_t (by decide) (by decide) t1
  obtain ⟨nj, hn1, hn2, rfl⟩ := inR_t (by decide) (by decide) n1
  rw [bN_nI (by omega), bN_nI (by omega), bN_nI (by omega), bN_nI (by omega)]
  exact Ok_addB h (by omega) hf hg (fun q => h1 (Or.inr (Or.inr (by rw [q])))) ⟨ht1, ht2⟩ ⟨hn1, hn2⟩
theorem Ok_change {σ : Sg} (h : Ok σ) (b w v : Int32) : Ok (sp_change σ b w v).2 := by
  unfold sp_change
  by_cases h1 : isB b (σ 0 0) = false
  · rw [if_pos h1]; exact h
  rw [if_neg h1]
  by_cases h2 : inR w (nI 0) (nI 1) = false ∨ inR v (nI 1) (nI (if w = nI 0 then 99 else 1000000)) = false
  · rw [if_pos h2]; exact h
  rw [if_neg h2]
  have v1 : inR v (nI 1) (nI (if w = nI 0 then 99 else 1000000)) = true := by
    cases e : inR v (nI 1) (nI (if w = nI 0 then 99 else 1000000))
    · exact absurd (Or.inr e) h2
    · rfl
  by_cases h3 : w = nI 0
  · rw [if_pos h3] at v1 ⊢
    obtain ⟨vj, q1, q2, rfl⟩ := inR_t (by decide) (by decide) v1
    rw [bN_nI (by omega)]
    exact Ok_4 h ⟨q1, q2⟩
  · rw [if_neg h3] at v1 ⊢
    obtain ⟨vj, q1, q2, rfl⟩ := inR_t (by decide) (by decide) v1
    rw [show bN (nI vj) = vj from bN_nI (by omega)]
    exact Ok_7 h ⟨q1, q2⟩
theorem Ok_hours {σ : Sg} (h : Ok σ) (b f t : Int32) : Ok (sp_hours σ b f t).2 := by
  unfold sp_hours
  by_cases h1 : isB b (σ 0 0) = false
  · rw [if_pos h1]; exact h
  rw [if_neg h1]
  by_cases h2 : inR f (nI 0) (nI 99) = true ∧ inR t (nI 0) (nI 99) = true ∧ f.toInt ≤ t.toInt
  · rw [if_pos h2]
    obtain ⟨fj, _, q1, rfl⟩ := inR_t (by decide) (by decide) h2.1
    obtain ⟨tj, _, q2, rfl⟩ := inR_t (by decide) (by decide) h2.2.1
    refine Ok_6 (Ok_5 h ?_) ?_
    · rw [show bN (nI fj) = fj from bN_nI (by omega)]; exact q1
    · rw [show bN (nI tj) = tj from bN_nI (by omega)]; exact q2
  · rw [if_neg h2]; exact h
theorem Ok_set {σ : Sg} (h : Ok σ) (w v : Int32) : Ok (sp_set σ w v).2 := by
  unfold sp_set
  by_cases h1 : inR w (nI 0) (nI 2) = false
  · rw [if_pos h1]; exact h
  rw [if_neg h1]
  by_cases h2 : inR v (nI (if w = nI 2 then 1 else 0)) (nI (if w = nI 1 then 99 else 98)) = false
  · rw [if_pos h2]; exact h
  rw [if_neg h2]
  have w1 : inR w (nI 0) (nI 2) = true := by cases e : inR w (nI 0) (nI 2); exact absurd e h1; rfl
  have v1 : inR v (nI (if w = nI 2 then 1 else 0)) (nI (if w = nI 1 then 99 else 98)) = true := by
    cases e : inR v (nI (if w = nI 2 then 1 else 0)) (nI (if w = nI 1 then 99 else 98))
    · exact absurd e h2
    · rfl
  obtain ⟨wj, _, q1, rfl⟩ := inR_t (by decide) (by decide) w1
  obtain ⟨a1, a2, a3, a4, a5, a6, a7, a8, a9⟩ := h
  rcases (show wj = 0 ∨ wj = 1 ∨ wj = 2 by omega) with rfl | rfl | rfl
  · rw [if_neg (by decide), if_neg (by decide)] at v1
    obtain ⟨vj, _, q2, rfl⟩ := inR_t (by decide) (by decide) v1
    rw [show bN (nI 0) = 0 from bN_nI (by decide), show bN (nI vj) = vj from bN_nI (by omega)]
    exact ⟨a1, q2, a3, a4, a5, a6, a7, a8, a9⟩
  · rw [if_neg (by decide), if_pos rfl] at v1
    obtain ⟨vj, _, q2, rfl⟩ := inR_t (by decide) (by decide) v1
    rw [show bN (nI 1) = 1 from bN_nI (by decide), show bN (nI vj) = vj from bN_nI (by omega)]
    exact ⟨a1, a2, q2, a4, a5, a6, a7, a8, a9⟩
  · rw [if_pos rfl, if_neg (by decide)] at v1
    obtain ⟨vj, q3, q2, rfl⟩ := inR_t (by decide) (by decide) v1
    rw [show bN (nI 2) = 2 from bN_nI (by decide), show bN (nI vj) = vj from bN_nI (by omega)]
    exact ⟨a1, a2, a3, ⟨q3, q2⟩, a5, a6, a7, a8, a9⟩
theorem Ok_say {σ : Sg} (h : Ok σ) (v : Int32) : Ok (sp_say σ v).2 := by
  unfold sp_say
  by_cases h1 : inR v (nI 33) (nI 126) = false
  · rw [if_pos h1]; exact h
  rw [if_neg h1]
  by_cases h2 : σ 0 4 = 80
  · rw [if_pos h2]; exact h
  rw [if_neg h2]
  have v1 : inR v (nI 33) (nI 126) = true := by cases e : inR v (nI 33) (nI 126); exact absurd e h1; rfl
  obtain ⟨vj, q1, q2, rfl⟩ := inR_t (by decide) (by decide) v1
  rw [show bN (nI vj) = vj from bN_nI (by omega)]
  obtain ⟨a1, a2, a3, a4, a5, a6, a7, a8, a9⟩ := h
  refine ⟨a1, a2, a3, a4, ?_, a6, a7, fun k hk => ?_, a9⟩
  · show σ 0 4 + 1 ≤ 80; omega
  · have hk' : k < σ 0 4 + 1 := hk
    show 33 ≤ (if 8 = 8 ∧ k = σ 0 4 then vj else σ 8 k) ∧ (if 8 = 8 ∧ k = σ 0 4 then vj else σ 8 k) ≤ 126
    by_cases e : k = σ 0 4
    · rw [if_pos ⟨rfl, e⟩]; exact ⟨q1, q2⟩
    · rw [if_neg (fun z => e z.2)]; exact a8 k (by omega)
theorem Ok_worth {σ : Sg} (h : Ok σ) (c v : Int32) : Ok (sp_worth σ c v).2 := by
  unfold sp_worth
  by_cases h1 : isB c 8 = false
  · rw [if_pos h1]; exact h
  rw [if_neg h1]
  by_cases h2 : inR v (nI 1) (nI 1000000) = false
  · rw [if_pos h2]; exact h
  rw [if_neg h2]
  have v1 : inR v (nI 1) (nI 1000000) = true := by cases e : inR v (nI 1) (nI 1000000); exact absurd e h2; rfl
  obtain ⟨vj, q1, q2, rfl⟩ := inR_t (by decide) (by decide) v1
  rw [show bN (nI vj) = vj from bN_nI (by omega)]
  exact Ok_9 h ⟨q1, q2⟩
theorem Ok_hang {σ : Sg} (hO : Ok σ) : ∀ m k c τ, Ok τ → τ 0 0 + m ≤ 12 → (m = 0 ∨ (k ≤ σ 0 4 ∧ fl σ k 0 c = -6 ∧ m = 1 + cs σ k (σ 0 4 - k))) → Ok (hang σ m k τ)
  | 0, k, c, τ, h, _, _ => h
  | m + 1, k, c, τ, h, h12, hv => by
    obtain ⟨hk, hfl, hm⟩ : k ≤ σ 0 4 ∧ fl σ k 0 c = -6 ∧ m + 1 = 1 + cs σ k (σ 0 4 - k) := by
      rcases hv with hv | hv
      · omega
      · exact hv
    obtain ⟨hbo, hend⟩ := fl_ok hO hk hfl
    have hbb := pb_b hbo
    have hpb := pbP_le (σ := σ) (k := k) hk
    have hcs := board_cs hk hbo
    refine Ok_hang hO m (pbP σ k + 1) (c2 σ k) _ (Ok_addB h (by omega) hbb.1 hbb.2.1 hbb.2.2.1 hbb.2.2.2.1 hbb.2.2.2.2) (by rw [addB_0]; omega) ?_
    rcases hend with q | q
    · rw [if_pos q] at hcs
      exact Or.inl (by omega)
    · have q1 := ps_iff.mp q.1
      rw [if_neg (by omega), if_pos (by omega)] at hcs
      exact Or.inr ⟨by omega, q.2, by omega⟩
theorem Ok_read {σ : Sg} (h : Ok σ) : Ok (sp_read σ).2 := by
  unfold sp_read
  by_cases h1 : ¬ sp_fault σ = -6
  · rw [if_pos h1]; exact h
  rw [if_neg h1]
  by_cases h2 : 12 < σ 0 0 + many σ
  · rw [if_pos h2]; exact h
  rw [if_neg h2]
  exact Ok_w0 (Ok_hang h (many σ) 0 0 σ h (by omega) (Or.inr ⟨Nat.zero_le _, Classical.not_not.mp h1, rfl⟩))
theorem lg_cmp_self (x : Int64) : lg_cmp x x = 0 := by
  unfold lg_cmp
  simp
theorem law_end {L i : Nat} (hL : L < 2 ^ 30) (hi : i < 2 ^ 30) : nI L - nI 6 < nI i ↔ L < i + 6 := by
  rw [Int32.lt_iff_toInt_lt, pk_sub_toInt hL (by decide), nI_toInt (by omega)]
  omega
