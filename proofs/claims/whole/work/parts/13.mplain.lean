/-! PLAIN CALLS of the model -/
theorem sw_out {w : Int32} {n : Int} (h : w.toInt < 0 ∨ n < w.toInt) {k : Nat} (hk : (k : Int) ≤ n) (hn : k < 2 ^ 31) : ¬ w = nI k := fun q => by
  rw [q, nI_toInt hn] at h
  omega
theorem upd_at (f : Nat → Int32) (k : Nat) (x : Int32) (i : Nat) : upd f k x i = if i = k then x else f i := rfl
theorem Ms_s1 {μ : Mem} {σ : Sg} {j v : Nat} (h : Ms μ σ) : Ms (setI μ 41 j (nI v)) (su σ 1 j v) := by
  obtain ⟨h0, h1, h2, h3, h4, h5, h6, h7, h8, h9, h10, h11, h12, h13⟩ := h
  exact ⟨h0, fun i hi => by
    show upd (μ.1 41) j (nI v) i = nI (if 1 = 1 ∧ i = j then v else σ 1 i)
    rw [upd_at]
    by_cases e : i = j
    · simp [e]
    · simp [e, h1 i hi], h2, h3, h4, h5, h6, h7, h8, h9, h10, h11, h12, h13⟩
theorem Ms_s2 {μ : Mem} {σ : Sg} {j v : Nat} (h : Ms μ σ) : Ms (setI μ 42 j (nI v)) (su σ 2 j v) := by
  obtain ⟨h0, h1, h2, h3, h4, h5, h6, h7, h8, h9, h10, h11, h12, h13⟩ := h
  exact ⟨h0, h1, fun i hi => by
    show upd (μ.1 42) j (nI v) i = nI (if 2 = 2 ∧ i = j then v else σ 2 i)
    rw [upd_at]
    by_cases e : i = j
    · simp [e]
    · simp [e, h2 i hi], h3, h4, h5, h6, h7, h8, h9, h10, h11, h12, h13⟩
theorem Ms_s3 {μ : Mem} {σ : Sg} {j v : Nat} (h : Ms μ σ) : Ms (setI μ 43 j (nI v)) (su σ 3 j v) := by
  obtain ⟨h0, h1, h2, h3, h4, h5, h6, h7, h8, h9, h10, h11, h12, h13⟩ := h
  exact ⟨h0, h1, h2, fun i hi => by
    show upd (μ.1 43) j (nI v) i = nI (if 3 = 3 ∧ i = j then v else σ 3 i)
    rw [upd_at]
    by_cases e : i = j
    · simp [e]
    · simp [e, h3 i hi], h4, h5, h6, h7, h8, h9, h10, h11, h12, h13⟩
theorem Ms_s4 {μ : Mem} {σ : Sg} {j v : Nat} (h : Ms μ σ) : Ms (setI μ 44 j (nI v)) (su σ 4 j v) := by
  obtain ⟨h0, h1, h2, h3, h4, h5, h6, h7, h8, h9, h10, h11, h12, h13⟩ := h
  exact ⟨h0, h1, h2, h3, fun i hi => by
    show upd (μ.1 44) j (nI v) i = nI (if 4 = 4 ∧ i = j then v else σ 4 i)
    rw [upd_at]
    by_cases e : i = j
    · simp [e]
    · simp [e, h4 i hi], h5, h6, h7, h8, h9, h10, h11, h12, h13⟩
theorem Ms_s5 {μ : Mem} {σ : Sg} {j v : Nat} (h : Ms μ σ) : Ms (setI μ 45 j (nI v)) (su σ 5 j v) := by
  obtain ⟨h0, h1, h2, h3, h4, h5, h6, h7, h8, h9, h10, h11, h12, h13⟩ := h
  exact ⟨h0, h1, h2, h3, h4, fun i hi => by
    show upd (μ.1 45) j (nI v) i = nI (if 5 = 5 ∧ i = j then v else σ 5 i)
    rw [upd_at]
    by_cases e : i = j
    · simp [e]
    · simp [e, h5 i hi], h6, h7, h8, h9, h10, h11, h12, h13⟩
theorem Ms_s6 {μ : Mem} {σ : Sg} {j v : Nat} (h : Ms μ σ) : Ms (setI μ 46 j (nI v)) (su σ 6 j v) := by
  obtain ⟨h0, h1, h2, h3, h4, h5, h6, h7, h8, h9, h10, h11, h12, h13⟩ := h
  exact ⟨h0, h1, h2, h3, h4, h5, fun i hi => by
    show upd (μ.1 46) j (nI v) i = nI (if 6 = 6 ∧ i = j then v else σ 6 i)
    rw [upd_at]
    by_cases e : i = j
    · simp [e]
    · simp [e, h6 i hi], h7, h8, h9, h10, h11, h12, h13⟩
theorem Ms_s7 {μ : Mem} {σ : Sg} {j v : Nat} (h : Ms μ σ) : Ms (setI μ 47 j (nI v)) (su σ 7 j v) := by
  obtain ⟨h0, h1, h2, h3, h4, h5, h6, h7, h8, h9, h10, h11, h12, h13⟩ := h
  exact ⟨h0, h1, h2, h3, h4, h5, h6, fun i hi => by
    show upd (μ.1 47) j (nI v) i = nI (if 7 = 7 ∧ i = j then v else σ 7 i)
    rw [upd_at]
    by_cases e : i = j
    · simp [e]
    · simp [e, h7 i hi], h8, h9, h10, h11, h12, h13⟩
theorem Ms_s9 {μ : Mem} {σ : Sg} {j v : Nat} (h : Ms μ σ) : Ms (setI μ 50 j (nI v)) (su σ 9 j v) := by
  obtain ⟨h0, h1, h2, h3, h4, h5, h6, h7, h8, h9, h10, h11, h12, h13⟩ := h
  exact ⟨h0, h1, h2, h3, h4, h5, h6, h7, h8, h9, h10, h11, h12, fun i hi => by
    show upd (μ.1 50) j (nI v) i = nI (if 9 = 9 ∧ i = j then v else σ 9 i)
    rw [upd_at]
    by_cases e : i = j
    · simp [e]
    · simp [e, h13 i hi]⟩
theorem Ms_t0 {μ : Mem} {σ : Sg} {v : Nat} (h : Ms μ σ) : Ms (setI μ 48 0 (nI v)) (su σ 0 1 v) := by
  obtain ⟨h0, h1, h2, h3, h4, h5, h6, h7, h8, h9, h10, h11, h12, h13⟩ := h
  exact ⟨h0, h1, h2, h3, h4, h5, h6, h7, rfl, h9, h10, h11, h12, h13⟩
theorem Ms_t1 {μ : Mem} {σ : Sg} {v : Nat} (h : Ms μ σ) : Ms (setI μ 48 1 (nI v)) (su σ 0 2 v) := by
  obtain ⟨h0, h1, h2, h3, h4, h5, h6, h7, h8, h9, h10, h11, h12, h13⟩ := h
  exact ⟨h0, h1, h2, h3, h4, h5, h6, h7, h8, rfl, h10, h11, h12, h13⟩
theorem Ms_t2 {μ : Mem} {σ : Sg} {v : Nat} (h : Ms μ σ) : Ms (setI μ 48 2 (nI v)) (su σ 0 3 v) := by
  obtain ⟨h0, h1, h2, h3, h4, h5, h6, h7, h8, h9, h10, h11, h12, h13⟩ := h
  exact ⟨h0, h1, h2, h3, h4, h5, h6, h7, h8, h9, rfl, h11, h12, h13⟩
theorem Ms_w {μ : Mem} {σ : Sg} (h : Ms μ σ) : Ms (setI μ 40 9 (nI 0)) (su σ 0 4 0) := by
  obtain ⟨h0, h1, h2, h3, h4, h5, h6, h7, h8, h9, h10, h11, h12, h13⟩ := h
  exact ⟨h0, h1, h2, h3, h4, h5, h6, h7, h8, h9, h10, rfl, fun i hi => absurd hi (Nat.not_lt_zero i), h13⟩
theorem Ms_say {μ : Mem} {σ : Sg} {v : Nat} (h : Ms μ σ) : Ms (setI (setI μ 49 (σ 0 4) (nI v)) 40 9 (nI (σ 0 4 + 1))) (su (su σ 8 (σ 0 4) v) 0 4 (σ 0 4 + 1)) := by
  obtain ⟨h0, h1, h2, h3, h4, h5, h6, h7, h8, h9, h10, h11, h12, h13⟩ := h
  exact ⟨h0, h1, h2, h3, h4, h5, h6, h7, h8, h9, h10, rfl, fun i hi => by
    have hi' : i < σ 0 4 + 1 := hi
    show upd (μ.1 49) (σ 0 4) (nI v) i = nI (if 8 = 8 ∧ i = σ 0 4 then v else σ 8 i)
    rw [upd_at]
    by_cases e : i = σ 0 4
    · simp [e]
    · simp [e, h12 i (by omega)], h13⟩
theorem Ms_add {μ : Mem} {σ : Sg} {f t g n : Nat} (h : Ms μ σ) : Ms (setI (setI (setI (setI (setI (setI (setI (setI μ 41 (σ 0 0) (nI f)) 42 (σ 0 0) (nI t)) 43 (σ 0 0) (nI g)) 44 (σ 0 0) (nI n)) 45 (σ 0 0) (nI 0)) 46 (σ 0 0) (nI 99)) 47 (σ 0 0) (nI 1000000)) 40 0 (nI (σ 0 0 + 1))) (addB σ f t g n) := by
  obtain ⟨h0, h1, h2, h3, h4, h5, h6, h7, h8, h9, h10, h11, h12, h13⟩ := h
  exact ⟨rfl, fun i hi => by
    show upd (μ.1 41) (σ 0 0) (nI f) i = nI (if i = σ 0 0 then f else σ 1 i)
    rw [upd_at]
    by_cases e : i = σ 0 0
    · simp [e]
    · simp [e, h1 i hi], fun i hi => by
    show upd (μ.1 42) (σ 0 0) (nI t) i = nI (if i = σ 0 0 then t else σ 2 i)
    rw [upd_at]
    by_cases e : i = σ 0 0
    · simp [e]
    · simp [e, h2 i hi], fun i hi => by
    show upd (μ.1 43) (σ 0 0) (nI g) i = nI (if i = σ 0 0 then g else σ 3 i)
    rw [upd_at]
    by_cases e : i = σ 0 0
    · simp [e]
    · simp [e, h3 i hi], fun i hi => by
    show upd (μ.1 44) (σ 0 0) (nI n) i = nI (if i = σ 0 0 then n else σ 4 i)
    rw [upd_at]
    by_cases e : i = σ 0 0
    · simp [e]
    · simp [e, h4 i hi], fun i hi => by
    show upd (μ.1 45) (σ 0 0) (nI 0) i = nI (if i = σ 0 0 then 0 else σ 5 i)
    rw [upd_at]
    by_cases e : i = σ 0 0
    · simp [e]
    · simp [e, h5 i hi], fun i hi => by
    show upd (μ.1 46) (σ 0 0) (nI 99) i = nI (if i = σ 0 0 then 99 else σ 6 i)
    rw [upd_at]
    by_cases e : i = σ 0 0
    · simp [e]
    · simp [e, h6 i hi], fun i hi => by
    show upd (μ.1 47) (σ 0 0) (nI 1000000) i = nI (if i = σ 0 0 then 1000000 else σ 7 i)
    rw [upd_at]
    by_cases e : i = σ 0 0
    · simp [e]
    · simp [e, h7 i hi], h8, h9, h10, h11, fun i hi => by
    show μ.1 49 i = nI (if i = σ 0 0 then σ 8 i else σ 8 i)
    rw [show (if i = σ 0 0 then σ 8 i else σ 8 i) = σ 8 i by split <;> rfl]
    exact h12 i hi, fun i hi => by
    show μ.1 50 i = nI (if i = σ 0 0 then σ 9 i else σ 9 i)
    rw [show (if i = σ 0 0 then σ 9 i else σ 9 i) = σ 9 i by split <;> rfl]
    exact h13 i hi⟩
theorem Xs_s1 {μ : Mem} {σ : Sg} {j v : Nat} (h : Xs μ σ) : Xs (setI μ 2 j (nI v)) (su σ 1 j v) := by
  obtain ⟨h0, h1, h2, h3, h4, h5, h6, h7, h8, h9, h10, h11, h12, h13⟩ := h
  exact ⟨h0, fun i hi => by
    show upd (μ.1 2) j (nI v) i = nI (if 1 = 1 ∧ i = j then v else σ 1 i)
    rw [upd_at]
    by_cases e : i = j
    · simp [e]
    · simp [e, h1 i hi], h2, h3, h4, h5, h6, h7, h8, h9, h10, h11, h12, h13⟩
theorem Xs_s2 {μ : Mem} {σ : Sg} {j v : Nat} (h : Xs μ σ) : Xs (setI μ 3 j (nI v)) (su σ 2 j v) := by
  obtain ⟨h0, h1, h2, h3, h4, h5, h6, h7, h8, h9, h10, h11, h12, h13⟩ := h
  exact ⟨h0, h1, fun i hi => by
    show upd (μ.1 3) j (nI v) i = nI (if 2 = 2 ∧ i = j then v else σ 2 i)
    rw [upd_at]
    by_cases e : i = j
    · simp [e]
    · simp [e, h2 i hi], h3, h4, h5, h6, h7, h8, h9, h10, h11, h12, h13⟩
theorem Xs_s3 {μ : Mem} {σ : Sg} {j v : Nat} (h : Xs μ σ) : Xs (setI μ 4 j (nI v)) (su σ 3 j v) := by
  obtain ⟨h0, h1, h2, h3, h4, h5, h6, h7, h8, h9, h10, h11, h12, h13⟩ := h
  exact ⟨h0, h1, h2, fun i hi => by
    show upd (μ.1 4) j (nI v) i = nI (if 3 = 3 ∧ i = j then v else σ 3 i)
    rw [upd_at]
    by_cases e : i = j
    · simp [e]
    · simp [e, h3 i hi], h4, h5, h6, h7, h8, h9, h10, h11, h12, h13⟩
theorem Xs_s4 {μ : Mem} {σ : Sg} {j v : Nat} (h : Xs μ σ) : Xs (setI μ 5 j (nI v)) (su σ 4 j v) := by
  obtain ⟨h0, h1, h2, h3, h4, h5, h6, h7, h8, h9, h10, h11, h12, h13⟩ := h
  exact ⟨h0, h1, h2, h3, fun i hi => by
    show upd (μ.1 5) j (nI v) i = nI (if 4 = 4 ∧ i = j then v else σ 4 i)
    rw [upd_at]
    by_cases e : i = j
    · simp [e]
    · simp [e, h4 i hi], h5, h6, h7, h8, h9, h10, h11, h12, h13⟩
theorem Xs_s5 {μ : Mem} {σ : Sg} {j v : Nat} (h : Xs μ σ) : Xs (setI μ 6 j (nI v)) (su σ 5 j v) := by
  obtain ⟨h0, h1, h2, h3, h4, h5, h6, h7, h8, h9, h10, h11, h12, h13⟩ := h
  exact ⟨h0, h1, h2, h3, h4, fun i hi => by
    show upd (μ.1 6) j (nI v) i = nI (if 5 = 5 ∧ i = j then v else σ 5 i)
    rw [upd_at]
    by_cases e : i = j
    · simp [e]
    · simp [e, h5 i hi], h6, h7, h8, h9, h10, h11, h12, h13⟩
theorem Xs_s6 {μ : Mem} {σ : Sg} {j v : Nat} (h : Xs μ σ) : Xs (setI μ 7 j (nI v)) (su σ 6 j v) := by
  obtain ⟨h0, h1, h2, h3, h4, h5, h6, h7, h8, h9, h10, h11, h12, h13⟩ := h
  exact ⟨h0, h1, h2, h3, h4, h5, fun i hi => by
    show upd (μ.1 7) j (nI v) i = nI (if 6 = 6 ∧ i = j then v else σ 6 i)
    rw [upd_at]
    by_cases e : i = j
    · simp [e]
    · simp [e, h6 i hi], h7, h8, h9, h10, h11, h12, h13⟩
theorem Xs_s7 {μ : Mem} {σ : Sg} {j v : Nat} (h : Xs μ σ) : Xs (setI μ 8 j (nI v)) (su σ 7 j v) := by
  obtain ⟨h0, h1, h2, h3, h4, h5, h6, h7, h8, h9, h10, h11, h12, h13⟩ := h
  exact ⟨h0, h1, h2, h3, h4, h5, h6, fun i hi => by
    show upd (μ.1 8) j (nI v) i = nI (if 7 = 7 ∧ i = j then v else σ 7 i)
    rw [upd_at]
    by_cases e : i = j
    · simp [e]
    · simp [e, h7 i hi], h8, h9, h10, h11, h12, h13⟩
theorem Xs_s9 {μ : Mem} {σ : Sg} {j v : Nat} (h : Xs μ σ) : Xs (setI μ 39 j (nI v)) (su σ 9 j v) := by
  obtain ⟨h0, h1, h2, h3, h4, h5, h6, h7, h8, h9, h10, h11, h12, h13⟩ := h
  exact ⟨h0, h1, h2, h3, h4, h5, h6, h7, h8, h9, h10, h11, h12, fun i hi => by
    show upd (μ.1 39) j (nI v) i = nI (if 9 = 9 ∧ i = j then v else σ 9 i)
    rw [upd_at]
    by_cases e : i = j
    · simp [e]
    · simp [e, h13 i hi]⟩
theorem Xs_t0 {μ : Mem} {σ : Sg} {v : Nat} (h : Xs μ σ) : Xs (setI μ 9 0 (nI v)) (su σ 0 1 v) := by
  obtain ⟨h0, h1, h2, h3, h4, h5, h6, h7, h8, h9, h10, h11, h12, h13⟩ := h
  exact ⟨h0, h1, h2, h3, h4, h5, h6, h7, rfl, h9, h10, h11, h12, h13⟩
theorem Xs_t1 {μ : Mem} {σ : Sg} {v : Nat} (h : Xs μ σ) : Xs (setI μ 9 1 (nI v)) (su σ 0 2 v) := by
  obtain ⟨h0, h1, h2, h3, h4, h5, h6, h7, h8, h9, h10, h11, h12, h13⟩ := h
  exact ⟨h0, h1, h2, h3, h4, h5, h6, h7, h8, rfl, h10, h11, h12, h13⟩
theorem Xs_t2 {μ : Mem} {σ : Sg} {v : Nat} (h : Xs μ σ) : Xs (setI μ 9 2 (nI v)) (su σ 0 3 v) := by
  obtain ⟨h0, h1, h2, h3, h4, h5, h6, h7, h8, h9, h10, h11, h12, h13⟩ := h
  exact ⟨h0, h1, h2, h3, h4, h5, h6, h7, h8, h9, rfl, h11, h12, h13⟩
theorem Xs_w {μ : Mem} {σ : Sg} (h : Xs μ σ) : Xs (setI μ 10 1 (nI 0)) (su σ 0 4 0) := by
  obtain ⟨h0, h1, h2, h3, h4, h5, h6, h7, h8, h9, h10, h11, h12, h13⟩ := h
  exact ⟨h0, h1, h2, h3, h4, h5, h6, h7, h8, h9, h10, rfl, fun i hi => absurd hi (Nat.not_lt_zero i), h13⟩
theorem Xs_say {μ : Mem} {σ : Sg} {v : Nat} (h : Xs μ σ) : Xs (setI (setI μ 11 (σ 0 4) (nI v)) 10 1 (nI (σ 0 4 + 1))) (su (su σ 8 (σ 0 4) v) 0 4 (σ 0 4 + 1)) := by
  obtain ⟨h0, h1, h2, h3, h4, h5, h6, h7, h8, h9, h10, h11, h12, h13⟩ := h
  exact ⟨h0, h1, h2, h3, h4, h5, h6, h7, h8, h9, h10, rfl, fun i hi => by
    have hi' : i < σ 0 4 + 1 := hi
    show upd (μ.1 11) (σ 0 4) (nI v) i = nI (if 8 = 8 ∧ i = σ 0 4 then v else σ 8 i)
    rw [upd_at]
    by_cases e : i = σ 0 4
    · simp [e]
    · simp [e, h12 i (by omega)], h13⟩
theorem Xs_add {μ : Mem} {σ : Sg} {f t g n : Nat} (h : Xs μ σ) : Xs (setI (setI (setI (setI (setI (setI (setI (setI μ 2 (σ 0 0) (nI f)) 3 (σ 0 0) (nI t)) 4 (σ 0 0) (nI g)) 5 (σ 0 0) (nI n)) 6 (σ 0 0) (nI 0)) 7 (σ 0 0) (nI 99)) 8 (σ 0 0) (nI 1000000)) 1 8 (nI (σ 0 0 + 1))) (addB σ f t g n) := by
  obtain ⟨h0, h1, h2, h3, h4, h5, h6, h7, h8, h9, h10, h11, h12, h13⟩ := h
  exact ⟨rfl, fun i hi => by
    show upd (μ.1 2) (σ 0 0) (nI f) i = nI (if i = σ 0 0 then f else σ 1 i)
    rw [upd_at]
    by_cases e : i = σ 0 0
    · simp [e]
    · simp [e, h1 i hi], fun i hi => by
    show upd (μ.1 3) (σ 0 0) (nI t) i = nI (if i = σ 0 0 then t else σ 2 i)
    rw [upd_at]
    by_cases e : i = σ 0 0
    · simp [e]
    · simp [e, h2 i hi], fun i hi => by
    show upd (μ.1 4) (σ 0 0) (nI g) i = nI (if i = σ 0 0 then g else σ 3 i)
    rw [upd_at]
    by_cases e : i = σ 0 0
    · simp [e]
    · simp [e, h3 i hi], fun i hi => by
    show upd (μ.1 5) (σ 0 0) (nI n) i = nI (if i = σ 0 0 then n else σ 4 i)
    rw [upd_at]
    by_cases e : i = σ 0 0
    · simp [e]
    · simp [e, h4 i hi], fun i hi => by
    show upd (μ.1 6) (σ 0 0) (nI 0) i = nI (if i = σ 0 0 then 0 else σ 5 i)
    rw [upd_at]
    by_cases e : i = σ 0 0
    · simp [e]
    · simp [e, h5 i hi], fun i hi => by
    show upd (μ.1 7) (σ 0 0) (nI 99) i = nI (if i = σ 0 0 then 99 else σ 6 i)
    rw [upd_at]
    by_cases e : i = σ 0 0
    · simp [e]
    · simp [e, h6 i hi], fun i hi => by
    show upd (μ.1 8) (σ 0 0) (nI 1000000) i = nI (if i = σ 0 0 then 1000000 else σ 7 i)
    rw [upd_at]
    by_cases e : i = σ 0 0
    · simp [e]
    · simp [e, h7 i hi], h8, h9, h10, h11, fun i hi => by
    show μ.1 11 i = nI (if i = σ 0 0 then σ 8 i else σ 8 i)
    rw [show (if i = σ 0 0 then σ 8 i else σ 8 i) = σ 8 i by split <;> rfl]
    exact h12 i hi, fun i hi => by
    show μ.1 39 i = nI (if i = σ 0 0 then σ 9 i else σ 9 i)
    rw [show (if i = σ 0 0 then σ 9 i else σ 9 i) = σ 9 i by split <;> rfl]
    exact h13 i hi⟩
set_option maxRecDepth 20000 in
set_option maxHeartbeats 4000000 in
theorem m_add {μ : Mem} {σ : Sg} {f t g n : Nat} {Q : Option Value → Mem → Prop} (hM : Ms μ σ) (hO : Ok σ) (hn12 : σ 0 0 < 12) (h : ∀ μ', Ms μ' (addB σ f t g n) → keepX μ μ' → Q (some (.int (nI (σ 0 0)))) μ') : Sp iX7_add 0 [.ref 40, .int (nI f), .int (nI t), .int (nI g), .int (nI n)] μ Q := by
  refine Sp.of vX7_add.1 (Nat.le_of_ble_eq_true rfl) ?_
  show WP cX7_add (RX7, 5, (some .int), 0, none) 0 [(0, .ref 40), (1, .int (nI f)), (2, .int (nI t)), (3, .int (nI g)), (4, .int (nI n))] [] μ Q
  have hn := Ok_n hO
  refine r_aload_n (pc := 0) dX7_add_0 rfl ?_
  refine r_getR (pc := 1) (r := 41) dX7_add_1 fX7_7 rfl rfl ?_
  refine r_aload_n (pc := 4) dX7_add_4 rfl ?_
  refine r_getI (pc := 5) (x := (nI (σ 0 0))) dX7_add_5 fX7_81 rfl rfl (Ms_n (μ := μ) hM) ?_
  refine r_iload_n (pc := 8) dX7_add_8 rfl ?_
  refine r_iast (pc := 9) dX7_add_9 rfl rfl (by omega) ?_
  refine r_aload_n (pc := 10) dX7_add_10 rfl ?_
  refine r_getR (pc := 11) (r := 42) dX7_add_11 fX7_13 rfl rfl ?_
  refine r_aload_n (pc := 14) dX7_add_14 rfl ?_
  refine r_getI (pc := 15) (x := (nI (σ 0 0))) dX7_add_15 fX7_81 rfl rfl (Ms_n (μ := μ) hM) ?_
  refine r_iload_n (pc := 18) dX7_add_18 rfl ?_
  refine r_iast (pc := 19) dX7_add_19 rfl rfl (by omega) ?_
  refine r_aload_n (pc := 20) dX7_add_20 rfl ?_
  refine r_getR (pc := 21) (r := 43) dX7_add_21 fX7_16 rfl rfl ?_
  refine r_aload_n (pc := 24) dX7_add_24 rfl ?_
  refine r_getI (pc := 25) (x := (nI (σ 0 0))) dX7_add_25 fX7_81 rfl rfl (Ms_n (μ := μ) hM) ?_
  refine r_iload_n (pc := 28) dX7_add_28 rfl ?_
  refine r_iast (pc := 29) dX7_add_29 rfl rfl (by omega) ?_
  refine r_aload_n (pc := 30) dX7_add_30 rfl ?_
  refine r_getR (pc := 31) (r := 44) dX7_add_31 fX7_19 rfl rfl ?_
  refine r_aload_n (pc := 34) dX7_add_34 rfl ?_
  refine r_getI (pc := 35) (x := (nI (σ 0 0))) dX7_add_35 fX7_81 rfl rfl (Ms_n (μ := μ) hM) ?_
  refine r_iload (pc := 38) dX7_add_38 rfl ?_
  refine r_iast (pc := 40) dX7_add_40 rfl rfl (by omega) ?_
  refine r_aload_n (pc := 41) dX7_add_41 rfl ?_
  refine r_getR (pc := 42) (r := 45) dX7_add_42 fX7_22 rfl rfl ?_
  refine r_aload_n (pc := 45) dX7_add_45 rfl ?_
  refine r_getI (pc := 46) (x := (nI (σ 0 0))) dX7_add_46 fX7_81 rfl rfl (Ms_n (μ := μ) hM) ?_
  refine r_iconst (pc := 49) (v := (nI (0))) dX7_add_49 (by decide) ?_
  refine r_iast (pc := 50) dX7_add_50 rfl rfl (by omega) ?_
  refine r_aload_n (pc := 51) dX7_add_51 rfl ?_
  refine r_getR (pc := 52) (r := 46) dX7_add_52 fX7_25 rfl rfl ?_
  refine r_aload_n (pc := 55) dX7_add_55 rfl ?_
  refine r_getI (pc := 56) (x := (nI (σ 0 0))) dX7_add_56 fX7_81 rfl rfl (Ms_n (μ := μ) hM) ?_
  refine r_bipush (pc := 59) (v := (nI (99))) dX7_add_59 (by decide) ?_
  refine r_iast (pc := 61) dX7_add_61 rfl rfl (by omega) ?_
  refine r_aload_n (pc := 62) dX7_add_62 rfl ?_
  refine r_getR (pc := 63) (r := 47) dX7_add_63 fX7_28 rfl rfl ?_
  refine r_aload_n (pc := 66) dX7_add_66 rfl ?_
  refine r_getI (pc := 67) (x := (nI (σ 0 0))) dX7_add_67 fX7_81 rfl rfl (Ms_n (μ := μ) hM) ?_
  refine r_ldc (pc := 70) dX7_add_70 kX7_85 ?_
  refine r_eqi (y := nI 1000000) (by decide) ?_
  refine r_iast (pc := 72) dX7_add_72 rfl rfl (by omega) ?_
  refine r_aload_n (pc := 73) dX7_add_73 rfl ?_
  refine r_dup_r (pc := 74) dX7_add_74 ?_
  refine r_getI (pc := 75) (x := (nI (σ 0 0))) dX7_add_75 fX7_81 rfl rfl (Ms_n (μ := μ) hM) ?_
  refine r_iconst (pc := 78) (v := (nI (1))) dX7_add_78 (by decide) ?_
  refine rn_iadd (pc := 79) dX7_add_79 ?_
  refine r_putI (pc := 80) dX7_add_80 gX7_81 rfl rfl rfl rfl ?_
  refine r_aload_n (pc := 83) dX7_add_83 rfl ?_
  refine r_getI (pc := 84) (x := (nI (σ 0 0 + 1))) dX7_add_84 fX7_81 rfl rfl rfl ?_
  refine r_iconst (pc := 87) (v := (nI (1))) dX7_add_87 (by decide) ?_
  refine rn_isub (pc := 88) dX7_add_88 (by omega) ?_
  refine r_ireturn (pc := 89) dX7_add_89 rfl (Or.inl rfl) rfl ?_
  rw [show σ 0 0 + 1 - 1 = σ 0 0 by omega]
  exact h _ (Ms_add hM) ((keepX.I (keepX.I (keepX.I (keepX.I (keepX.I (keepX.I (keepX.I (keepX.I keepX.rf (by decide)) (by decide)) (by decide)) (by decide)) (by decide)) (by decide)) (by decide)) (by decide)))

set_option maxRecDepth 20000 in
set_option maxHeartbeats 4000000 in
theorem m_board {μ : Mem} {σ : Sg} {f t g n : Int32} {Q : Option Value → Mem → Prop} (hM : Ms μ σ) (hO : Ok σ) (h : ∀ μ', Ms μ' (sp_board σ f t g n).2 → keepX μ μ' → Q (some (.int (sp_board σ f t g n).1)) μ') : Sp iX7_board 2 [.ref 40, .int (f), .int (t), .int (g), .int (n)] μ Q := by
  refine Sp.of vX7_board.1 (Nat.le_of_ble_eq_true rfl) ?_
  show WP cX7_board (RX7, 5, (some .int), 2, none) 0 [(0, .ref 40), (1, .int (f)), (2, .int (t)), (3, .int (g)), (4, .int (n))] [] μ Q
  have hn := Ok_n hO
  refine r_iload_n (pc := 0) dX7_board_0 rfl ?_
  refine r_callS (pc := 1) (d' := 1) (As := [.int (f)]) (rest := []) dX7_board_1 sX7_isCoin mX7_86 rfl rfl (Nat.le_of_ble_eq_true rfl) (Nat.le_of_ble_eq_true rfl) ?_
  refine c_mcoin ?_
  refine rb_if_eq (pc := 4) (tgt := 19) dX7_board_4 (by decide) (fun c4 => ?_) (fun c4 => ?_)
  · refine r_iconst (pc := 19) (v := (-1)) dX7_board_19 (by decide) ?_
    refine r_ireturn (pc := 20) dX7_board_20 rfl (Or.inl rfl) rfl ?_
    have e9 : sp_board σ f t g n = ((-1), σ) := by
      simp [sp_board, c4]
    rw [e9] at h
    exact h _ hM (keepX.rf)
  · obtain ⟨fj, hfj, rfl, -⟩ := isB_t c4
    refine r_iload_n (pc := 7) dX7_board_7 rfl ?_
    refine r_callS (pc := 8) (d' := 1) (As := [.int (g)]) (rest := []) dX7_board_8 sX7_isCoin mX7_86 rfl rfl (Nat.le_of_ble_eq_true rfl) (Nat.le_of_ble_eq_true rfl) ?_
    refine c_mcoin ?_
    refine rb_if_eq (pc := 11) (tgt := 19) dX7_board_11 (by decide) (fun c11 => ?_) (fun c11 => ?_)
    · refine r_iconst (pc := 19) (v := (-1)) dX7_board_19 (by decide) ?_
      refine r_ireturn (pc := 20) dX7_board_20 rfl (Or.inl rfl) rfl ?_
      have e9 : sp_board σ (nI fj) t g n = ((-1), σ) := by
        simp [sp_board, c4, c11]
      rw [e9] at h
      exact h _ hM (keepX.rf)
    · obtain ⟨gj, hgj, rfl, -⟩ := isB_t c11
      refine r_iload_n (pc := 14) dX7_board_14 rfl ?_
      refine r_iload_n (pc := 15) dX7_board_15 rfl ?_
      refine rn_icmp_ne (pc := 16) (tgt := 21) dX7_board_16 (by decide) (by omega) (by omega) (fun c16 => ?_) (fun c16 => ?_)
      · have hne : ¬ nI fj = nI gj := fun q => c16 (nI_inj (by omega) (by omega) q)
        refine r_iload_n (pc := 21) dX7_board_21 rfl ?_
        refine r_iconst (pc := 22) (v := (nI (1))) dX7_board_22 (by decide) ?_
        refine r_bipush (pc := 23) (v := (nI (99))) dX7_board_23 (by decide) ?_
        refine r_callS (pc := 25) (d' := 0) (As := [.int (t), .int (nI 1), .int (nI 99)]) (rest := []) dX7_board_25 sX7_in mX7_77 rfl rfl (Nat.le_of_ble_eq_true rfl) (Nat.le_of_ble_eq_true rfl) ?_
        refine c_in ?_
        refine rb_if_eq (pc := 28) (tgt := 42) dX7_board_28 (by decide) (fun c28 => ?_) (fun c28 => ?_)
        · refine r_bipush (pc := 42) (v := (-2)) dX7_board_42 (by decide) ?_
          refine r_ireturn (pc := 44) dX7_board_44 rfl (Or.inl rfl) rfl ?_
          have e9 : sp_board σ (nI fj) t (nI gj) n = ((-2), σ) := by
            simp [sp_board, c4, c11, c16, c28, hne]
          rw [e9] at h
          exact h _ hM (keepX.rf)
        · obtain ⟨tj, ht1, ht2, rfl⟩ := inR_t (by decide) (by decide) c28
          refine r_iload (pc := 31) dX7_board_31 rfl ?_
          refine r_iconst (pc := 33) (v := (nI (1))) dX7_board_33 (by decide) ?_
          refine r_bipush (pc := 34) (v := (nI (99))) dX7_board_34 (by decide) ?_
          refine r_callS (pc := 36) (d' := 0) (As := [.int (n), .int (nI 1), .int (nI 99)]) (rest := []) dX7_board_36 sX7_in mX7_77 rfl rfl (Nat.le_of_ble_eq_true rfl) (Nat.le_of_ble_eq_true rfl) ?_
          refine c_in ?_
          refine rb_if_ne (pc := 39) (tgt := 45) dX7_board_39 (by decide) (fun c39 => ?_) (fun c39 => ?_)
          · obtain ⟨nj, hn1, hn2, rfl⟩ := inR_t (by decide) (by decide) c39
            refine r_aload_n (pc := 45) dX7_board_45 rfl ?_
            refine r_getI (pc := 46) (x := (nI (σ 0 0))) dX7_board_46 fX7_81 rfl rfl (Ms_n (μ := μ) hM) ?_
            refine r_bipush (pc := 49) (v := (nI (12))) dX7_board_49 (by decide) ?_
            refine rn_icmp_ne (pc := 51) (tgt := 59) dX7_board_51 (by decide) (by omega) (by omega) (fun c51 => ?_) (fun c51 => ?_)
            · refine r_aload_n (pc := 59) dX7_board_59 rfl ?_
              refine r_iload_n (pc := 60) dX7_board_60 rfl ?_
              refine r_iload_n (pc := 61) dX7_board_61 rfl ?_
              refine r_iload_n (pc := 62) dX7_board_62 rfl ?_
              refine r_iload (pc := 63) dX7_board_63 rfl ?_
              refine r_callV (pc := 65) (d' := 0) (k := 40) (As := [.int (nI fj), .int (nI tj), .int (nI gj), .int (nI nj)]) (rest := []) dX7_board_65 vX7_add mX7_90 rfl rfl rfl (Nat.le_of_ble_eq_true rfl) (Nat.le_of_ble_eq_true rfl) ?_
              have e9 : sp_board σ (nI fj) (nI tj) (nI gj) (nI nj) = (nI (σ 0 0), addB σ fj tj gj nj) := by
                simp [sp_board, c4, c11, c16, c28, c39, c51, hne, bN_nI (show fj < 2 ^ 31 by omega), bN_nI (show tj < 2 ^ 31 by omega), bN_nI (show gj < 2 ^ 31 by omega), bN_nI (show nj < 2 ^ 31 by omega)]
              rw [e9] at h
              refine m_add hM hO (by omega) (fun μ1 hM1 hk1 => ?_)
              refine r_ireturn (pc := 68) dX7_board_68 rfl (Or.inl rfl) rfl ?_
              exact h μ1 hM1 hk1
            · refine r_bipush (pc := 54) (v := (-4)) dX7_board_54 (by decide) ?_
              refine r_goto (pc := 56) (tgt := 68) dX7_board_56 (by decide) ?_
              refine r_ireturn (pc := 68) dX7_board_68 rfl (Or.inl rfl) rfl ?_
              have e9 : sp_board σ (nI fj) (nI tj) (nI gj) (nI nj) = ((-4), σ) := by
                simp [sp_board, c4, c11, c16, c28, c39, c51, hne]
              rw [e9] at h
              exact h _ hM (keepX.rf)
          · refine r_bipush (pc := 42) (v := (-2)) dX7_board_42 (by decide) ?_
            refine r_ireturn (pc := 44) dX7_board_44 rfl (Or.inl rfl) rfl ?_
            have e9 : sp_board σ (nI fj) (nI tj) (nI gj) n = ((-2), σ) := by
              simp [sp_board, c4, c11, c16, c28, c39, hne]
            rw [e9] at h
            exact h _ hM (keepX.rf)
      · refine r_iconst (pc := 19) (v := (-1)) dX7_board_19 (by decide) ?_
        refine r_ireturn (pc := 20) dX7_board_20 rfl (Or.inl rfl) rfl ?_
        have e9 : sp_board σ (nI fj) t (nI gj) n = ((-1), σ) := by
          simp [sp_board, c4, c11, c16]
        rw [e9] at h
        exact h _ hM (keepX.rf)

set_option maxRecDepth 20000 in
set_option maxHeartbeats 4000000 in
theorem m_of {μ : Mem} {σ : Sg} {b w : Int32} {Q : Option Value → Mem → Prop} (hM : Ms μ σ) (hO : Ok σ) (h : ∀ μ', Ms μ' σ → keepX μ μ' → Q (some (.int (sp_of σ b w))) μ') : Sp iX7_of 2 [.ref 40, .int (b), .int (w)] μ Q := by
  refine Sp.of vX7_of.1 (Nat.le_of_ble_eq_true rfl) ?_
  show WP cX7_of (RX7, 3, (some .int), 2, none) 0 [(0, .ref 40), (1, .int (b)), (2, .int (w))] [] μ Q
  have hn := Ok_n hO
  refine r_aload_n (pc := 0) dX7_of_0 rfl ?_
  refine r_iload_n (pc := 1) dX7_of_1 rfl ?_
  refine r_callV (pc := 2) (d' := 1) (k := 40) (As := [.int (b)]) (rest := []) dX7_of_2 vX7_isBoard mX7_94 rfl rfl rfl (Nat.le_of_ble_eq_true rfl) (Nat.le_of_ble_eq_true rfl) ?_
  refine c_mboard hM hO ?_
  refine rb_if_ne (pc := 5) (tgt := 10) dX7_of_5 (by decide) (fun c5 => ?_) (fun c5 => ?_)
  · obtain ⟨bj, hbj, rfl, -⟩ := isB_t c5
    refine r_iload_n (pc := 10) dX7_of_10 rfl ?_
    by_cases c11 : (w).toInt < 0 ∨ 8 < (w).toInt
    · refine r_tableOut (pc := 11) (tgt := 129) dX7_of_11 c11 (by decide) ?_
      refine r_bipush (pc := 129) (v := (-2)) dX7_of_129 (by decide) ?_
      refine r_ireturn (pc := 131) dX7_of_131 rfl (Or.inl rfl) rfl ?_
      rw [show sp_of σ (nI bj) w = -2 by rw [sp_of, if_neg (by simp [c5]), if_neg (sw_out c11 (by decide) (by decide) : ¬ w = nI 0), if_neg (sw_out c11 (by decide) (by decide) : ¬ w = nI 1), if_neg (sw_out c11 (by decide) (by decide) : ¬ w = nI 2), if_neg (sw_out c11 (by decide) (by decide) : ¬ w = nI 3), if_neg (sw_out c11 (by decide) (by decide) : ¬ w = nI 4), if_neg (sw_out c11 (by decide) (by decide) : ¬ w = nI 5), if_neg (sw_out c11 (by decide) (by decide) : ¬ w = nI 6), if_neg (sw_out c11 (by decide) (by decide) : ¬ w = nI 7), if_neg (sw_out c11 (by decide) (by decide) : ¬ w = nI 8)]] at h
      exact h _ hM keepX.rf
    · obtain ⟨j1, hj2, e3⟩ := sw_cases (by decide) c11
      rcases (show j1 = 0 ∨ j1 = 1 ∨ j1 = 2 ∨ j1 = 3 ∨ j1 = 4 ∨ j1 = 5 ∨ j1 = 6 ∨ j1 = 7 ∨ j1 = 8 by omega) with rfl | rfl | rfl | rfl | rfl | rfl | rfl | rfl | rfl
      · rw [e3]
        refine r_tableIn (pc := 11) (tgt := 60) (off := 49) dX7_of_11 (by decide) (by decide) (by decide) (by decide) ?_
        refine r_aload_n (pc := 60) dX7_of_60 rfl ?_
        refine r_getR (pc := 61) (r := 41) dX7_of_61 fX7_7 rfl rfl ?_
        refine r_iload_n (pc := 64) dX7_of_64 rfl ?_
        refine r_iald (pc := 65) (x := (nI (σ 1 (bj)))) dX7_of_65 rfl rfl (by omega) (Ms_1 (μ := μ) hM (by omega)) ?_
        have b4 := Ok_b hO (j := bj) (by omega)
        refine r_ireturn (pc := 66) dX7_of_66 rfl (Or.inl rfl) rfl ?_
        rw [show sp_of σ (nI bj) w = (nI (σ 1 (bj))) by rw [e3]; simp (decide := true) [sp_of, c5, bN_nI (show bj < 2 ^ 31 by omega)]] at h
        exact h _ hM keepX.rf
      · rw [e3]
        refine r_tableIn (pc := 11) (tgt := 67) (off := 56) dX7_of_11 (by decide) (by decide) (by decide) (by decide) ?_
        refine r_aload_n (pc := 67) dX7_of_67 rfl ?_
        refine r_getR (pc := 68) (r := 42) dX7_of_68 fX7_13 rfl rfl ?_
        refine r_iload_n (pc := 71) dX7_of_71 rfl ?_
        refine r_iald (pc := 72) (x := (nI (σ 2 (bj)))) dX7_of_72 rfl rfl (by omega) (Ms_2 (μ := μ) hM (by omega)) ?_
        have b5 := Ok_b hO (j := bj) (by omega)
        refine r_ireturn (pc := 73) dX7_of_73 rfl (Or.inl rfl) rfl ?_
        rw [show sp_of σ (nI bj) w = (nI (σ 2 (bj))) by rw [e3]; simp (decide := true) [sp_of, c5, bN_nI (show bj < 2 ^ 31 by omega)]] at h
        exact h _ hM keepX.rf
      · rw [e3]
        refine r_tableIn (pc := 11) (tgt := 74) (off := 63) dX7_of_11 (by decide) (by decide) (by decide) (by decide) ?_
        refine r_aload_n (pc := 74) dX7_of_74 rfl ?_
        refine r_getR (pc := 75) (r := 43) dX7_of_75 fX7_16 rfl rfl ?_
        refine r_iload_n (pc := 78) dX7_of_78 rfl ?_
        refine r_iald (pc := 79) (x := (nI (σ 3 (bj)))) dX7_of_79 rfl rfl (by omega) (Ms_3 (μ := μ) hM (by omega)) ?_
        have b6 := Ok_b hO (j := bj) (by omega)
        refine r_ireturn (pc := 80) dX7_of_80 rfl (Or.inl rfl) rfl ?_
        rw [show sp_of σ (nI bj) w = (nI (σ 3 (bj))) by rw [e3]; simp (decide := true) [sp_of, c5, bN_nI (show bj < 2 ^ 31 by omega)]] at h
        exact h _ hM keepX.rf
      · rw [e3]
        refine r_tableIn (pc := 11) (tgt := 81) (off := 70) dX7_of_11 (by decide) (by decide) (by decide) (by decide) ?_
        refine r_aload_n (pc := 81) dX7_of_81 rfl ?_
        refine r_getR (pc := 82) (r := 44) dX7_of_82 fX7_19 rfl rfl ?_
        refine r_iload_n (pc := 85) dX7_of_85 rfl ?_
        refine r_iald (pc := 86) (x := (nI (σ 4 (bj)))) dX7_of_86 rfl rfl (by omega) (Ms_4 (μ := μ) hM (by omega)) ?_
        have b7 := Ok_b hO (j := bj) (by omega)
        refine r_ireturn (pc := 87) dX7_of_87 rfl (Or.inl rfl) rfl ?_
        rw [show sp_of σ (nI bj) w = (nI (σ 4 (bj))) by rw [e3]; simp (decide := true) [sp_of, c5, bN_nI (show bj < 2 ^ 31 by omega)]] at h
        exact h _ hM keepX.rf
      · rw [e3]
        refine r_tableIn (pc := 11) (tgt := 88) (off := 77) dX7_of_11 (by decide) (by decide) (by decide) (by decide) ?_
        refine r_aload_n (pc := 88) dX7_of_88 rfl ?_
        refine r_getR (pc := 89) (r := 45) dX7_of_89 fX7_22 rfl rfl ?_
        refine r_iload_n (pc := 92) dX7_of_92 rfl ?_
        refine r_iald (pc := 93) (x := (nI (σ 5 (bj)))) dX7_of_93 rfl rfl (by omega) (Ms_5 (μ := μ) hM (by omega)) ?_
        have b8 := Ok_b hO (j := bj) (by omega)
        refine r_ireturn (pc := 94) dX7_of_94 rfl (Or.inl rfl) rfl ?_
        rw [show sp_of σ (nI bj) w = (nI (σ 5 (bj))) by rw [e3]; simp (decide := true) [sp_of, c5, bN_nI (show bj < 2 ^ 31 by omega)]] at h
        exact h _ hM keepX.rf
      · rw [e3]
        refine r_tableIn (pc := 11) (tgt := 95) (off := 84) dX7_of_11 (by decide) (by decide) (by decide) (by decide) ?_
        refine r_aload_n (pc := 95) dX7_of_95 rfl ?_
        refine r_getR (pc := 96) (r := 46) dX7_of_96 fX7_25 rfl rfl ?_
        refine r_iload_n (pc := 99) dX7_of_99 rfl ?_
        refine r_iald (pc := 100) (x := (nI (σ 6 (bj)))) dX7_of_100 rfl rfl (by omega) (Ms_6 (μ := μ) hM (by omega)) ?_
        have b9 := Ok_b hO (j := bj) (by omega)
        refine r_ireturn (pc := 101) dX7_of_101 rfl (Or.inl rfl) rfl ?_
        rw [show sp_of σ (nI bj) w = (nI (σ 6 (bj))) by rw [e3]; simp (decide := true) [sp_of, c5, bN_nI (show bj < 2 ^ 31 by omega)]] at h
        exact h _ hM keepX.rf
      · rw [e3]
        refine r_tableIn (pc := 11) (tgt := 102) (off := 91) dX7_of_11 (by decide) (by decide) (by decide) (by decide) ?_
        refine r_aload_n (pc := 102) dX7_of_102 rfl ?_
        refine r_getR (pc := 103) (r := 47) dX7_of_103 fX7_28 rfl rfl ?_
        refine r_iload_n (pc := 106) dX7_of_106 rfl ?_
        refine r_iald (pc := 107) (x := (nI (σ 7 (bj)))) dX7_of_107 rfl rfl (by omega) (Ms_7 (μ := μ) hM (by omega)) ?_
        have b10 := Ok_b hO (j := bj) (by omega)
        refine r_ireturn (pc := 108) dX7_of_108 rfl (Or.inl rfl) rfl ?_
        rw [show sp_of σ (nI bj) w = (nI (σ 7 (bj))) by rw [e3]; simp (decide := true) [sp_of, c5, bN_nI (show bj < 2 ^ 31 by omega)]] at h
        exact h _ hM keepX.rf
      · rw [e3]
        refine r_tableIn (pc := 11) (tgt := 109) (off := 98) dX7_of_11 (by decide) (by decide) (by decide) (by decide) ?_
        refine r_aload_n (pc := 109) dX7_of_109 rfl ?_
        refine r_iload_n (pc := 110) dX7_of_110 rfl ?_
        refine r_callV (pc := 111) (d' := 1) (k := 40) (As := [.int (nI bj)]) (rest := []) dX7_of_111 vX7_isOpen mX7_97 rfl rfl rfl (Nat.le_of_ble_eq_true rfl) (Nat.le_of_ble_eq_true rfl) ?_
        refine c_mopen (μ := μ) hM hO (by omega) ?_
        refine rb_if_eq (pc := 114) (tgt := 121) dX7_of_114 (by decide) (fun c114 => ?_) (fun c114 => ?_)
        · refine r_iconst (pc := 121) (v := (nI (0))) dX7_of_121 (by decide) ?_
          refine r_ireturn (pc := 122) dX7_of_122 rfl (Or.inl rfl) rfl ?_
          rw [show sp_of σ (nI bj) w = (nI (0)) by rw [e3]; simp (decide := true) [sp_of, c5, bN_nI (show bj < 2 ^ 31 by omega), c114, b2i]] at h
          exact h _ hM keepX.rf
        · refine r_iconst (pc := 117) (v := (nI (1))) dX7_of_117 (by decide) ?_
          refine r_goto (pc := 118) (tgt := 122) dX7_of_118 (by decide) ?_
          refine r_ireturn (pc := 122) dX7_of_122 rfl (Or.inl rfl) rfl ?_
          rw [show sp_of σ (nI bj) w = (nI (1)) by rw [e3]; simp (decide := true) [sp_of, c5, bN_nI (show bj < 2 ^ 31 by omega), c114, b2i]] at h
          exact h _ hM keepX.rf
      · rw [e3]
        refine r_tableIn (pc := 11) (tgt := 123) (off := 112) dX7_of_11 (by decide) (by decide) (by decide) (by decide) ?_
        refine r_aload_n (pc := 123) dX7_of_123 rfl ?_
        refine r_iload_n (pc := 124) dX7_of_124 rfl ?_
        refine r_callV (pc := 125) (d' := 0) (k := 40) (As := [.int (nI bj)]) (rest := []) dX7_of_125 vX7_upper mX7_100 rfl rfl rfl (Nat.le_of_ble_eq_true rfl) (Nat.le_of_ble_eq_true rfl) ?_
        refine c_mupper (μ := μ) hM hO (by omega) ?_
        refine r_ireturn (pc := 128) dX7_of_128 rfl (Or.inl rfl) rfl ?_
        rw [show sp_of σ (nI bj) w = (nI (upR (σ 4 (bj)) (σ 0 1))) by rw [e3]; simp (decide := true) [sp_of, c5, bN_nI (show bj < 2 ^ 31 by omega)]] at h
        exact h _ hM keepX.rf
  · refine r_iconst (pc := 8) (v := (-1)) dX7_of_8 (by decide) ?_
    refine r_ireturn (pc := 9) dX7_of_9 rfl (Or.inl rfl) rfl ?_
    rw [show sp_of σ b w = -1 by simp [sp_of, c5]] at h
    exact h _ hM keepX.rf

set_option maxRecDepth 20000 in
set_option maxHeartbeats 4000000 in
theorem c_mhour {μ : Mem} {v : Int32} {Q : Option Value → Mem → Prop} (h : Q (some (.int (b2i (inR v (nI 0) (nI 99))))) μ) : Sp iX7_isHour 1 [.int (v)] μ Q := by
  refine Sp.of sX7_isHour.1 (Nat.le_of_ble_eq_true rfl) ?_
  show WP cX7_isHour (RX7, 1, (some .boolean), 1, none) 0 [(0, .int (v))] [] μ Q
  refine r_iload_n (pc := 0) dX7_isHour_0 rfl ?_
  refine r_iconst (pc := 1) (v := (nI (0))) dX7_isHour_1 (by decide) ?_
  refine r_bipush (pc := 2) (v := (nI (99))) dX7_isHour_2 (by decide) ?_
  refine r_callS (pc := 4) (d' := 0) (As := [.int (v), .int (nI 0), .int (nI 99)]) (rest := []) dX7_isHour_4 sX7_in mX7_77 rfl rfl (Nat.le_of_ble_eq_true rfl) (Nat.le_of_ble_eq_true rfl) ?_
  refine c_in ?_
  refine r_ireturn (pc := 7) dX7_isHour_7 rfl (Or.inr rfl) (b2i_nar _) ?_
  exact h

set_option maxRecDepth 20000 in
set_option maxHeartbeats 4000000 in
theorem m_wipe {μ : Mem} {σ : Sg} {Q : Option Value → Mem → Prop} (hM : Ms μ σ) (hO : Ok σ) (h : ∀ μ', Ms μ' (sp_wipe σ).2 → keepX μ μ' → Q (some (.int (sp_wipe σ).1)) μ') : Sp iX7_wipe 0 [.ref 40] μ Q := by
  refine Sp.of vX7_wipe.1 (Nat.le_of_ble_eq_true rfl) ?_
  show WP cX7_wipe (RX7, 2, (some .int), 0, none) 0 [(0, .ref 40)] [] μ Q
  have hn := Ok_n hO
  refine r_aload_n (pc := 0) dX7_wipe_0 rfl ?_
  refine r_getI (pc := 1) (x := (nI (σ 0 4))) dX7_wipe_1 fX7_107 rfl rfl (Ms_sn (μ := μ) hM) ?_
  refine r_istore_n (pc := 4) (ls' := [(0, .ref 40), (1, .int (nI (σ 0 4)))]) dX7_wipe_4 (Nat.le_of_ble_eq_true rfl) rfl ?_
  refine r_aload_n (pc := 5) dX7_wipe_5 rfl ?_
  refine r_iconst (pc := 6) (v := (nI (0))) dX7_wipe_6 (by decide) ?_
  refine r_putI (pc := 7) dX7_wipe_7 gX7_107 rfl rfl rfl rfl ?_
  refine r_iload_n (pc := 10) dX7_wipe_10 rfl ?_
  refine r_ireturn (pc := 11) dX7_wipe_11 rfl (Or.inl rfl) rfl ?_
  exact h _ (Ms_w hM) ((keepX.I keepX.rf (by decide)))

set_option maxRecDepth 20000 in
set_option maxHeartbeats 4000000 in
theorem m_worth {μ : Mem} {σ : Sg} {c v : Int32} {Q : Option Value → Mem → Prop} (hM : Ms μ σ) (hO : Ok σ) (h : ∀ μ', Ms μ' (sp_worth σ c v).2 → keepX μ μ' → Q (some (.int (sp_worth σ c v).1)) μ') : Sp iX7_worth 2 [.ref 40, .int (c), .int (v)] μ Q := by
  refine Sp.of vX7_worth.1 (Nat.le_of_ble_eq_true rfl) ?_
  show WP cX7_worth (RX7, 4, (some .int), 2, none) 0 [(0, .ref 40), (1, .int (c)), (2, .int (v))] [] μ Q
  have hn := Ok_n hO
  refine r_iload_n (pc := 0) dX7_worth_0 rfl ?_
  refine r_callS (pc := 1) (d' := 1) (As := [.int (c)]) (rest := []) dX7_worth_1 sX7_isCoin mX7_86 rfl rfl (Nat.le_of_ble_eq_true rfl) (Nat.le_of_ble_eq_true rfl) ?_
  refine c_mcoin ?_
  refine rb_if_ne (pc := 4) (tgt := 9) dX7_worth_4 (by decide) (fun c4 => ?_) (fun c4 => ?_)
  · obtain ⟨cj, hcj, rfl, -⟩ := isB_t c4
    refine r_iload_n (pc := 9) dX7_worth_9 rfl ?_
    refine r_iconst (pc := 10) (v := (nI (1))) dX7_worth_10 (by decide) ?_
    refine r_ldc (pc := 11) dX7_worth_11 kX7_85 ?_
    refine r_eqi (y := nI 1000000) (by decide) ?_
    refine r_callS (pc := 13) (d' := 0) (As := [.int (v), .int (nI 1), .int (nI 1000000)]) (rest := []) dX7_worth_13 sX7_in mX7_77 rfl rfl (Nat.le_of_ble_eq_true rfl) (Nat.le_of_ble_eq_true rfl) ?_
    refine c_in ?_
    refine rb_if_ne (pc := 16) (tgt := 22) dX7_worth_16 (by decide) (fun c16 => ?_) (fun c16 => ?_)
    · obtain ⟨vj, hv1, hv2, rfl⟩ := inR_t (by decide) (by decide) c16
      refine r_aload_n (pc := 22) dX7_worth_22 rfl ?_
      refine r_getR (pc := 23) (r := 50) dX7_worth_23 fX7_37 rfl rfl ?_
      refine r_iload_n (pc := 26) dX7_worth_26 rfl ?_
      refine r_iald (pc := 27) (x := (nI (σ 9 (cj)))) dX7_worth_27 rfl rfl (by omega) (Ms_9 (μ := μ) hM (by omega)) ?_
      have b1 := Ok_w hO (j := cj) (by omega)
      refine r_istore_n (pc := 28) (ls' := [(0, .ref 40), (1, .int (nI cj)), (2, .int (nI vj)), (3, .int (nI (σ 9 (cj))))]) dX7_worth_28 (Nat.le_of_ble_eq_true rfl) rfl ?_
      refine r_aload_n (pc := 29) dX7_worth_29 rfl ?_
      refine r_getR (pc := 30) (r := 50) dX7_worth_30 fX7_37 rfl rfl ?_
      refine r_iload_n (pc := 33) dX7_worth_33 rfl ?_
      refine r_iload_n (pc := 34) dX7_worth_34 rfl ?_
      refine r_iast (pc := 35) dX7_worth_35 rfl rfl (by omega) ?_
      refine r_iload_n (pc := 36) dX7_worth_36 rfl ?_
      refine r_ireturn (pc := 37) dX7_worth_37 rfl (Or.inl rfl) rfl ?_
      have e9 : sp_worth σ (nI cj) (nI vj) = ((nI (σ 9 (cj))), su σ 9 cj vj) := by
        simp [sp_worth, c4, c16, bN_nI (show cj < 2 ^ 31 by omega), bN_nI (show vj < 2 ^ 31 by omega)]
      rw [e9] at h
      exact h _ (Ms_s9 hM) ((keepX.I keepX.rf (by decide)))
    · refine r_bipush (pc := 19) (v := (-2)) dX7_worth_19 (by decide) ?_
      refine r_ireturn (pc := 21) dX7_worth_21 rfl (Or.inl rfl) rfl ?_
      have e9 : sp_worth σ (nI cj) v = ((-2), σ) := by
        simp [sp_worth, c4, c16]
      rw [e9] at h
      exact h _ hM (keepX.rf)
  · refine r_iconst (pc := 7) (v := (-1)) dX7_worth_7 (by decide) ?_
    refine r_ireturn (pc := 8) dX7_worth_8 rfl (Or.inl rfl) rfl ?_
    have e9 : sp_worth σ c v = ((-1), σ) := by
      simp [sp_worth, c4]
    rw [e9] at h
    exact h _ hM (keepX.rf)

set_option maxRecDepth 20000 in
set_option maxHeartbeats 4000000 in
theorem m_say {μ : Mem} {σ : Sg} {v : Int32} {Q : Option Value → Mem → Prop} (hM : Ms μ σ) (hO : Ok σ) (h : ∀ μ', Ms μ' (sp_say σ v).2 → keepX μ μ' → Q (some (.int (sp_say σ v).1)) μ') : Sp iX7_say 1 [.ref 40, .int (v)] μ Q := by
  refine Sp.of vX7_say.1 (Nat.le_of_ble_eq_true rfl) ?_
  show WP cX7_say (RX7, 2, (some .int), 1, none) 0 [(0, .ref 40), (1, .int (v))] [] μ Q
  have hn := Ok_n hO
  refine r_iload_n (pc := 0) dX7_say_0 rfl ?_
  refine r_bipush (pc := 1) (v := (nI (33))) dX7_say_1 (by decide) ?_
  refine r_bipush (pc := 3) (v := (nI (126))) dX7_say_3 (by decide) ?_
  refine r_callS (pc := 5) (d' := 0) (As := [.int (v), .int (nI 33), .int (nI 126)]) (rest := []) dX7_say_5 sX7_in mX7_77 rfl rfl (Nat.le_of_ble_eq_true rfl) (Nat.le_of_ble_eq_true rfl) ?_
  refine c_in ?_
  refine rb_if_ne (pc := 8) (tgt := 14) dX7_say_8 (by decide) (fun c8 => ?_) (fun c8 => ?_)
  · obtain ⟨vj, hv1, hv2, rfl⟩ := inR_t (by decide) (by decide) c8
    refine r_aload_n (pc := 14) dX7_say_14 rfl ?_
    refine r_getI (pc := 15) (x := (nI (σ 0 4))) dX7_say_15 fX7_107 rfl rfl (Ms_sn (μ := μ) hM) ?_
    refine r_bipush (pc := 18) (v := (nI (80))) dX7_say_18 (by decide) ?_
    refine rn_icmp_ne (pc := 20) (tgt := 26) dX7_say_20 (by decide) (by omega) (by omega) (fun c20 => ?_) (fun c20 => ?_)
    · refine r_aload_n (pc := 26) dX7_say_26 rfl ?_
      refine r_getR (pc := 27) (r := 49) dX7_say_27 fX7_34 rfl rfl ?_
      refine r_aload_n (pc := 30) dX7_say_30 rfl ?_
      refine r_getI (pc := 31) (x := (nI (σ 0 4))) dX7_say_31 fX7_107 rfl rfl (Ms_sn (μ := μ) hM) ?_
      refine r_iload_n (pc := 34) dX7_say_34 rfl ?_
      refine r_iast (pc := 35) dX7_say_35 rfl rfl (by omega) ?_
      refine r_aload_n (pc := 36) dX7_say_36 rfl ?_
      refine r_dup_r (pc := 37) dX7_say_37 ?_
      refine r_getI (pc := 38) (x := (nI (σ 0 4))) dX7_say_38 fX7_107 rfl rfl (Ms_sn (μ := μ) hM) ?_
      refine r_iconst (pc := 41) (v := (nI (1))) dX7_say_41 (by decide) ?_
      refine rn_iadd (pc := 42) dX7_say_42 ?_
      refine r_putI (pc := 43) dX7_say_43 gX7_107 rfl rfl rfl rfl ?_
      refine r_aload_n (pc := 46) dX7_say_46 rfl ?_
      refine r_getI (pc := 47) (x := (nI (σ 0 4 + 1))) dX7_say_47 fX7_107 rfl rfl rfl ?_
      refine r_ireturn (pc := 50) dX7_say_50 rfl (Or.inl rfl) rfl ?_
      have e9 : sp_say σ (nI vj) = ((nI (σ 0 4 + 1)), su (su σ 8 (σ 0 4) vj) 0 4 (σ 0 4 + 1)) := by
        simp [sp_say, c8, c20, bN_nI (show vj < 2 ^ 31 by omega)]
      rw [e9] at h
      exact h _ (Ms_say hM) ((keepX.I (keepX.I keepX.rf (by decide)) (by decide)))
    · refine r_bipush (pc := 23) (v := (-4)) dX7_say_23 (by decide) ?_
      refine r_ireturn (pc := 25) dX7_say_25 rfl (Or.inl rfl) rfl ?_
      have e9 : sp_say σ (nI vj) = ((-4), σ) := by
        simp [sp_say, c8, c20]
      rw [e9] at h
      exact h _ hM (keepX.rf)
  · refine r_bipush (pc := 11) (v := (-2)) dX7_say_11 (by decide) ?_
    refine r_ireturn (pc := 13) dX7_say_13 rfl (Or.inl rfl) rfl ?_
    have e9 : sp_say σ v = ((-2), σ) := by
      simp [sp_say, c8]
    rw [e9] at h
    exact h _ hM (keepX.rf)

set_option maxRecDepth 20000 in
set_option maxHeartbeats 4000000 in
theorem m_change {μ : Mem} {σ : Sg} {b w v : Int32} {Q : Option Value → Mem → Prop} (hM : Ms μ σ) (hO : Ok σ) (h : ∀ μ', Ms μ' (sp_change σ b w v).2 → keepX μ μ' → Q (some (.int (sp_change σ b w v).1)) μ') : Sp iX7_change 2 [.ref 40, .int (b), .int (w), .int (v)] μ Q := by
  refine Sp.of vX7_change.1 (Nat.le_of_ble_eq_true rfl) ?_
  show WP cX7_change (RX7, 5, (some .int), 2, none) 0 [(0, .ref 40), (1, .int (b)), (2, .int (w)), (3, .int (v))] [] μ Q
  have hn := Ok_n hO
  refine r_aload_n (pc := 0) dX7_change_0 rfl ?_
  refine r_iload_n (pc := 1) dX7_change_1 rfl ?_
  refine r_callV (pc := 2) (d' := 1) (k := 40) (As := [.int (b)]) (rest := []) dX7_change_2 vX7_isBoard mX7_94 rfl rfl rfl (Nat.le_of_ble_eq_true rfl) (Nat.le_of_ble_eq_true rfl) ?_
  refine c_mboard hM hO ?_
  refine rb_if_ne (pc := 5) (tgt := 10) dX7_change_5 (by decide) (fun c5 => ?_) (fun c5 => ?_)
  · obtain ⟨bj, hbj, rfl, -⟩ := isB_t c5
    refine r_iload_n (pc := 10) dX7_change_10 rfl ?_
    refine r_iconst (pc := 11) (v := (nI (0))) dX7_change_11 (by decide) ?_
    refine r_iconst (pc := 12) (v := (nI (1))) dX7_change_12 (by decide) ?_
    refine r_callS (pc := 13) (d' := 0) (As := [.int (w), .int (nI 0), .int (nI 1)]) (rest := []) dX7_change_13 sX7_in mX7_77 rfl rfl (Nat.le_of_ble_eq_true rfl) (Nat.le_of_ble_eq_true rfl) ?_
    refine c_in ?_
    refine rb_if_eq (pc := 16) (tgt := 38) dX7_change_16 (by decide) (fun c16 => ?_) (fun c16 => ?_)
    · refine r_bipush (pc := 38) (v := (-2)) dX7_change_38 (by decide) ?_
      refine r_ireturn (pc := 40) dX7_change_40 rfl (Or.inl rfl) rfl ?_
      have e9 : sp_change σ (nI bj) w v = ((-2), σ) := by
        simp (decide := true) [sp_change, c5, c16]
      rw [e9] at h
      exact h _ hM (keepX.rf)
    · obtain ⟨wj, hw1, hw2, rfl⟩ := inR_t (by decide) (by decide) c16
      rcases (show wj = 0 ∨ wj = 1 by omega) with rfl | rfl
      · refine r_iload_n (pc := 19) dX7_change_19 rfl ?_
        refine r_iconst (pc := 20) (v := (nI (1))) dX7_change_20 (by decide) ?_
        refine r_iload_n (pc := 21) dX7_change_21 rfl ?_
        refine rn_if_ne (pc := 22) (tgt := 30) dX7_change_22 (by decide) (by decide) (fun q => absurd q (by decide)) (fun _ => ?_)
        refine r_bipush (pc := 25) (v := (nI (99))) dX7_change_25 (by decide) ?_
        refine r_goto (pc := 27) (tgt := 32) dX7_change_27 (by decide) ?_
        refine r_callS (pc := 32) (d' := 0) (As := [.int (v), .int (nI 1), .int (nI 99)]) (rest := []) dX7_change_32 sX7_in mX7_77 rfl rfl (Nat.le_of_ble_eq_true rfl) (Nat.le_of_ble_eq_true rfl) ?_
        refine c_in ?_
        refine rb_if_ne (pc := 35) (tgt := 41) dX7_change_35 (by decide) (fun c35 => ?_) (fun c35 => ?_)
        · obtain ⟨vj, hv1, hv2, rfl⟩ := inR_t (by decide) (by decide) c35
          refine r_iload_n (pc := 41) dX7_change_41 rfl ?_
          refine rn_if_ne (pc := 42) (tgt := 54) dX7_change_42 (by decide) (by decide) (fun q => absurd q (by decide)) (fun _ => ?_)
          refine r_aload_n (pc := 45) dX7_change_45 rfl ?_
          refine r_getR (pc := 46) (r := 44) dX7_change_46 fX7_19 rfl rfl ?_
          refine r_iload_n (pc := 49) dX7_change_49 rfl ?_
          refine r_iald (pc := 50) (x := (nI (σ 4 (bj)))) dX7_change_50 rfl rfl (by omega) (Ms_4 (μ := μ) hM (by omega)) ?_
          have b1 := Ok_b hO (j := bj) (by omega)
          refine r_goto (pc := 51) (tgt := 60) dX7_change_51 (by decide) ?_
          refine r_istore (pc := 60) (ls' := [(0, .ref 40), (1, .int (nI bj)), (2, .int (nI 0)), (3, .int (nI vj)), (4, .int (nI (σ 4 (bj))))]) dX7_change_60 (Nat.le_of_ble_eq_true rfl) rfl ?_
          refine r_iload_n (pc := 62) dX7_change_62 rfl ?_
          refine rn_if_ne (pc := 63) (tgt := 76) dX7_change_63 (by decide) (by decide) (fun q => absurd q (by decide)) (fun _ => ?_)
          refine r_aload_n (pc := 66) dX7_change_66 rfl ?_
          refine r_getR (pc := 67) (r := 44) dX7_change_67 fX7_19 rfl rfl ?_
          refine r_iload_n (pc := 70) dX7_change_70 rfl ?_
          refine r_iload_n (pc := 71) dX7_change_71 rfl ?_
          refine r_iast (pc := 72) dX7_change_72 rfl rfl (by omega) ?_
          refine r_goto (pc := 73) (tgt := 83) dX7_change_73 (by decide) ?_
          refine r_iload (pc := 83) dX7_change_83 rfl ?_
          refine r_ireturn (pc := 85) dX7_change_85 rfl (Or.inl rfl) rfl ?_
          have e9 : sp_change σ (nI bj) (nI (0)) (nI vj) = ((nI (σ 4 (bj))), su σ 4 bj vj) := by
            simp (decide := true) [sp_change, c5, c16, c35, bN_nI (show bj < 2 ^ 31 by omega), bN_nI (show vj < 2 ^ 31 by omega)]
          rw [e9] at h
          exact h _ (Ms_s4 hM) ((keepX.I keepX.rf (by decide)))
        · refine r_bipush (pc := 38) (v := (-2)) dX7_change_38 (by decide) ?_
          refine r_ireturn (pc := 40) dX7_change_40 rfl (Or.inl rfl) rfl ?_
          have e9 : sp_change σ (nI bj) (nI (0)) v = ((-2), σ) := by
            simp (decide := true) [sp_change, c5, c16, c35]
          rw [e9] at h
          exact h _ hM (keepX.rf)
      · refine r_iload_n (pc := 19) dX7_change_19 rfl ?_
        refine r_iconst (pc := 20) (v := (nI (1))) dX7_change_20 (by decide) ?_
        refine r_iload_n (pc := 21) dX7_change_21 rfl ?_
        refine rn_if_ne (pc := 22) (tgt := 30) dX7_change_22 (by decide) (by decide) (fun _ => ?_) (fun q => absurd q (by decide))
        refine r_ldc (pc := 30) dX7_change_30 kX7_85 ?_
        refine r_eqi (y := nI 1000000) (by decide) ?_
        refine r_callS (pc := 32) (d' := 0) (As := [.int (v), .int (nI 1), .int (nI 1000000)]) (rest := []) dX7_change_32 sX7_in mX7_77 rfl rfl (Nat.le_of_ble_eq_true rfl) (Nat.le_of_ble_eq_true rfl) ?_
        refine c_in ?_
        refine rb_if_ne (pc := 35) (tgt := 41) dX7_change_35 (by decide) (fun c35 => ?_) (fun c35 => ?_)
        · obtain ⟨vj, hv1, hv2, rfl⟩ := inR_t (by decide) (by decide) c35
          refine r_iload_n (pc := 41) dX7_change_41 rfl ?_
          refine rn_if_ne (pc := 42) (tgt := 54) dX7_change_42 (by decide) (by decide) (fun _ => ?_) (fun q => absurd q (by decide))
          refine r_aload_n (pc := 54) dX7_change_54 rfl ?_
          refine r_getR (pc := 55) (r := 47) dX7_change_55 fX7_28 rfl rfl ?_
          refine r_iload_n (pc := 58) dX7_change_58 rfl ?_
          refine r_iald (pc := 59) (x := (nI (σ 7 (bj)))) dX7_change_59 rfl rfl (by omega) (Ms_7 (μ := μ) hM (by omega)) ?_
          have b2 := Ok_b hO (j := bj) (by omega)
          refine r_istore (pc := 60) (ls' := [(0, .ref 40), (1, .int (nI bj)), (2, .int (nI 1)), (3, .int (nI vj)), (4, .int (nI (σ 7 (bj))))]) dX7_change_60 (Nat.le_of_ble_eq_true rfl) rfl ?_
          refine r_iload_n (pc := 62) dX7_change_62 rfl ?_
          refine rn_if_ne (pc := 63) (tgt := 76) dX7_change_63 (by decide) (by decide) (fun _ => ?_) (fun q => absurd q (by decide))
          refine r_aload_n (pc := 76) dX7_change_76 rfl ?_
          refine r_getR (pc := 77) (r := 47) dX7_change_77 fX7_28 rfl rfl ?_
          refine r_iload_n (pc := 80) dX7_change_80 rfl ?_
          refine r_iload_n (pc := 81) dX7_change_81 rfl ?_
          refine r_iast (pc := 82) dX7_change_82 rfl rfl (by omega) ?_
          refine r_iload (pc := 83) dX7_change_83 rfl ?_
          refine r_ireturn (pc := 85) dX7_change_85 rfl (Or.inl rfl) rfl ?_
          have e9 : sp_change σ (nI bj) (nI (1)) (nI vj) = ((nI (σ 7 (bj))), su σ 7 bj vj) := by
            simp (decide := true) [sp_change, c5, c16, c35, bN_nI (show bj < 2 ^ 31 by omega), bN_nI (show vj < 2 ^ 31 by omega)]
          rw [e9] at h
          exact h _ (Ms_s7 hM) ((keepX.I keepX.rf (by decide)))
        · refine r_bipush (pc := 38) (v := (-2)) dX7_change_38 (by decide) ?_
          refine r_ireturn (pc := 40) dX7_change_40 rfl (Or.inl rfl) rfl ?_
          have e9 : sp_change σ (nI bj) (nI (1)) v = ((-2), σ) := by
            simp (decide := true) [sp_change, c5, c16, c35]
          rw [e9] at h
          exact h _ hM (keepX.rf)
  · refine r_iconst (pc := 8) (v := (-1)) dX7_change_8 (by decide) ?_
    refine r_ireturn (pc := 9) dX7_change_9 rfl (Or.inl rfl) rfl ?_
    have e9 : sp_change σ b w v = ((-1), σ) := by
      simp (decide := true) [sp_change, c5]
    rw [e9] at h
    exact h _ hM (keepX.rf)

set_option maxRecDepth 20000 in
set_option maxHeartbeats 4000000 in
theorem m_hours {μ : Mem} {σ : Sg} {b f t : Int32} {Q : Option Value → Mem → Prop} (hM : Ms μ σ) (hO : Ok σ) (h : ∀ μ', Ms μ' (sp_hours σ b f t).2 → keepX μ μ' → Q (some (.int (sp_hours σ b f t).1)) μ') : Sp iX7_hours 2 [.ref 40, .int (b), .int (f), .int (t)] μ Q := by
  refine Sp.of vX7_hours.1 (Nat.le_of_ble_eq_true rfl) ?_
  show WP cX7_hours (RX7, 4, (some .int), 2, none) 0 [(0, .ref 40), (1, .int (b)), (2, .int (f)), (3, .int (t))] [] μ Q
  have hn := Ok_n hO
  refine r_aload_n (pc := 0) dX7_hours_0 rfl ?_
  refine r_iload_n (pc := 1) dX7_hours_1 rfl ?_
  refine r_callV (pc := 2) (d' := 1) (k := 40) (As := [.int (b)]) (rest := []) dX7_hours_2 vX7_isBoard mX7_94 rfl rfl rfl (Nat.le_of_ble_eq_true rfl) (Nat.le_of_ble_eq_true rfl) ?_
  refine c_mboard hM hO ?_
  refine rb_if_ne (pc := 5) (tgt := 10) dX7_hours_5 (by decide) (fun c5 => ?_) (fun c5 => ?_)
  · obtain ⟨bj, hbj, rfl, -⟩ := isB_t c5
    refine r_iload_n (pc := 10) dX7_hours_10 rfl ?_
    refine r_callS (pc := 11) (d' := 1) (As := [.int (f)]) (rest := []) dX7_hours_11 sX7_isHour mX7_104 rfl rfl (Nat.le_of_ble_eq_true rfl) (Nat.le_of_ble_eq_true rfl) ?_
    refine c_mhour ?_
    refine rb_if_eq (pc := 14) (tgt := 29) dX7_hours_14 (by decide) (fun c14 => ?_) (fun c14 => ?_)
    · refine r_bipush (pc := 29) (v := (-2)) dX7_hours_29 (by decide) ?_
      refine r_ireturn (pc := 31) dX7_hours_31 rfl (Or.inl rfl) rfl ?_
      have e9 : sp_hours σ (nI bj) f t = ((-2), σ) := by
        simp [sp_hours, c5, c14]
      rw [e9] at h
      exact h _ hM (keepX.rf)
    · obtain ⟨fj, hf1, hf2, rfl⟩ := inR_t (by decide) (by decide) c14
      refine r_iload_n (pc := 17) dX7_hours_17 rfl ?_
      refine r_callS (pc := 18) (d' := 1) (As := [.int (t)]) (rest := []) dX7_hours_18 sX7_isHour mX7_104 rfl rfl (Nat.le_of_ble_eq_true rfl) (Nat.le_of_ble_eq_true rfl) ?_
      refine c_mhour ?_
      refine rb_if_eq (pc := 21) (tgt := 29) dX7_hours_21 (by decide) (fun c21 => ?_) (fun c21 => ?_)
      · refine r_bipush (pc := 29) (v := (-2)) dX7_hours_29 (by decide) ?_
        refine r_ireturn (pc := 31) dX7_hours_31 rfl (Or.inl rfl) rfl ?_
        have e9 : sp_hours σ (nI bj) (nI fj) t = ((-2), σ) := by
          simp [sp_hours, c5, c14, c21]
        rw [e9] at h
        exact h _ hM (keepX.rf)
      · obtain ⟨tj, ht1, ht2, rfl⟩ := inR_t (by decide) (by decide) c21
        refine r_iload_n (pc := 24) dX7_hours_24 rfl ?_
        refine r_iload_n (pc := 25) dX7_hours_25 rfl ?_
        refine rn_icmp_le (pc := 26) (tgt := 32) dX7_hours_26 (by decide) (by omega) (by omega) (fun c26 => ?_) (fun c26 => ?_)
        · refine r_aload_n (pc := 32) dX7_hours_32 rfl ?_
          refine r_getR (pc := 33) (r := 45) dX7_hours_33 fX7_22 rfl rfl ?_
          refine r_iload_n (pc := 36) dX7_hours_36 rfl ?_
          refine r_iload_n (pc := 37) dX7_hours_37 rfl ?_
          refine r_iast (pc := 38) dX7_hours_38 rfl rfl (by omega) ?_
          refine r_aload_n (pc := 39) dX7_hours_39 rfl ?_
          refine r_getR (pc := 40) (r := 46) dX7_hours_40 fX7_25 rfl rfl ?_
          refine r_iload_n (pc := 43) dX7_hours_43 rfl ?_
          refine r_iload_n (pc := 44) dX7_hours_44 rfl ?_
          refine r_iast (pc := 45) dX7_hours_45 rfl rfl (by omega) ?_
          refine r_iconst (pc := 46) (v := (nI (1))) dX7_hours_46 (by decide) ?_
          refine r_ireturn (pc := 47) dX7_hours_47 rfl (Or.inl rfl) rfl ?_
          have e9 : sp_hours σ (nI bj) (nI fj) (nI tj) = ((nI (1)), su (su σ 5 bj fj) 6 bj tj) := by
            simp [sp_hours, c5, c14, c21, c26, nI_toInt (show fj < 2 ^ 31 by omega), nI_toInt (show tj < 2 ^ 31 by omega), bN_nI (show bj < 2 ^ 31 by omega), bN_nI (show fj < 2 ^ 31 by omega), bN_nI (show tj < 2 ^ 31 by omega)]
            try rfl
          rw [e9] at h
          exact h _ (Ms_s6 (Ms_s5 hM)) ((keepX.I (keepX.I keepX.rf (by decide)) (by decide)))
        · refine r_bipush (pc := 29) (v := (-2)) dX7_hours_29 (by decide) ?_
          refine r_ireturn (pc := 31) dX7_hours_31 rfl (Or.inl rfl) rfl ?_
          have e9 : sp_hours σ (nI bj) (nI fj) (nI tj) = ((-2), σ) := by
            simp [sp_hours, c5, c14, c21, c26, nI_toInt (show fj < 2 ^ 31 by omega), nI_toInt (show tj < 2 ^ 31 by omega)]
            try omega
          rw [e9] at h
          exact h _ hM (keepX.rf)
  · refine r_iconst (pc := 8) (v := (-1)) dX7_hours_8 (by decide) ?_
    refine r_ireturn (pc := 9) dX7_hours_9 rfl (Or.inl rfl) rfl ?_
    have e9 : sp_hours σ b f t = ((-1), σ) := by
      simp [sp_hours, c5]
    rw [e9] at h
    exact h _ hM (keepX.rf)

set_option maxRecDepth 20000 in
set_option maxHeartbeats 4000000 in
theorem m_set {μ : Mem} {σ : Sg} {w v : Int32} {Q : Option Value → Mem → Prop} (hM : Ms μ σ) (hO : Ok σ) (h : ∀ μ', Ms μ' (sp_set σ w v).2 → keepX μ μ' → Q (some (.int (sp_set σ w v).1)) μ') : Sp iX7_set 1 [.ref 40, .int (w), .int (v)] μ Q := by
  refine Sp.of vX7_set.1 (Nat.le_of_ble_eq_true rfl) ?_
  show WP cX7_set (RX7, 4, (some .int), 1, none) 0 [(0, .ref 40), (1, .int (w)), (2, .int (v))] [] μ Q
  have hn := Ok_n hO
  refine r_iload_n (pc := 0) dX7_set_0 rfl ?_
  refine r_iconst (pc := 1) (v := (nI (0))) dX7_set_1 (by decide) ?_
  refine r_iconst (pc := 2) (v := (nI (2))) dX7_set_2 (by decide) ?_
  refine r_callS (pc := 3) (d' := 0) (As := [.int (w), .int (nI 0), .int (nI 2)]) (rest := []) dX7_set_3 sX7_in mX7_77 rfl rfl (Nat.le_of_ble_eq_true rfl) (Nat.le_of_ble_eq_true rfl) ?_
  refine c_in ?_
  refine rb_if_ne (pc := 6) (tgt := 12) dX7_set_6 (by decide) (fun c6 => ?_) (fun c6 => ?_)
  · obtain ⟨wj, hw1, hw2, rfl⟩ := inR_t (by decide) (by decide) c6
    rcases (show wj = 0 ∨ wj = 1 ∨ wj = 2 by omega) with rfl | rfl | rfl
    · refine r_iload_n (pc := 12) dX7_set_12 rfl ?_
      refine r_iload_n (pc := 13) dX7_set_13 rfl ?_
      refine r_iconst (pc := 14) (v := (nI (2))) dX7_set_14 (by decide) ?_
      refine rn_icmp_ne (pc := 15) (tgt := 22) dX7_set_15 (by decide) (by decide) (by decide) (fun _ => ?_) (fun q => absurd q (by decide))
      refine r_iconst (pc := 22) (v := (nI (0))) dX7_set_22 (by decide) ?_
      refine r_iload_n (pc := 23) dX7_set_23 rfl ?_
      refine r_iconst (pc := 24) (v := (nI (1))) dX7_set_24 (by decide) ?_
      refine rn_icmp_ne (pc := 25) (tgt := 33) dX7_set_25 (by decide) (by decide) (by decide) (fun _ => ?_) (fun q => absurd q (by decide))
      refine r_bipush (pc := 33) (v := (nI (98))) dX7_set_33 (by decide) ?_
      refine r_callS (pc := 35) (d' := 0) (As := [.int (v), .int (nI 0), .int (nI 98)]) (rest := []) dX7_set_35 sX7_in mX7_77 rfl rfl (Nat.le_of_ble_eq_true rfl) (Nat.le_of_ble_eq_true rfl) ?_
      refine c_in ?_
      refine rb_if_ne (pc := 38) (tgt := 44) dX7_set_38 (by decide) (fun c38 => ?_) (fun c38 => ?_)
      · obtain ⟨vj, hv1, hv2, rfl⟩ := inR_t (by decide) (by decide) c38
        refine r_aload_n (pc := 44) dX7_set_44 rfl ?_
        refine r_getR (pc := 45) (r := 48) dX7_set_45 fX7_31 rfl rfl ?_
        refine r_iload_n (pc := 48) dX7_set_48 rfl ?_
        refine r_iald (pc := 49) (x := (nI (σ 0 1))) dX7_set_49 rfl rfl (by omega) (Ms_fee (μ := μ) hM) ?_
        refine r_istore_n (pc := 50) (ls' := [(0, .ref 40), (1, .int (nI 0)), (2, .int (nI vj)), (3, .int (nI (σ 0 1)))]) dX7_set_50 (Nat.le_of_ble_eq_true rfl) rfl ?_
        refine r_aload_n (pc := 51) dX7_set_51 rfl ?_
        refine r_getR (pc := 52) (r := 48) dX7_set_52 fX7_31 rfl rfl ?_
        refine r_iload_n (pc := 55) dX7_set_55 rfl ?_
        refine r_iload_n (pc := 56) dX7_set_56 rfl ?_
        refine r_iast (pc := 57) dX7_set_57 rfl rfl (by omega) ?_
        refine r_iload_n (pc := 58) dX7_set_58 rfl ?_
        refine r_ireturn (pc := 59) dX7_set_59 rfl (Or.inl rfl) rfl ?_
        have e9 : sp_set σ (nI (0)) (nI vj) = ((nI (σ 0 1)), su σ 0 1 vj) := by
          simp (decide := true) [sp_set, c6, c38, bN_nI (show 0 < 2 ^ 31 by decide), bN_nI (show vj < 2 ^ 31 by omega)]
        rw [e9] at h
        exact h _ (Ms_t0 hM) ((keepX.I keepX.rf (by decide)))
      · refine r_bipush (pc := 41) (v := (-2)) dX7_set_41 (by decide) ?_
        refine r_ireturn (pc := 43) dX7_set_43 rfl (Or.inl rfl) rfl ?_
        have e9 : sp_set σ (nI (0)) v = ((-2), σ) := by
          simp (decide := true) [sp_set, c6, c38]
        rw [e9] at h
        exact h _ hM (keepX.rf)
    · refine r_iload_n (pc := 12) dX7_set_12 rfl ?_
      refine r_iload_n (pc := 13) dX7_set_13 rfl ?_
      refine r_iconst (pc := 14) (v := (nI (2))) dX7_set_14 (by decide) ?_
      refine rn_icmp_ne (pc := 15) (tgt := 22) dX7_set_15 (by decide) (by decide) (by decide) (fun _ => ?_) (fun q => absurd q (by decide))
      refine r_iconst (pc := 22) (v := (nI (0))) dX7_set_22 (by decide) ?_
      refine r_iload_n (pc := 23) dX7_set_23 rfl ?_
      refine r_iconst (pc := 24) (v := (nI (1))) dX7_set_24 (by decide) ?_
      refine rn_icmp_ne (pc := 25) (tgt := 33) dX7_set_25 (by decide) (by decide) (by decide) (fun q => absurd q (by decide)) (fun _ => ?_)
      refine r_bipush (pc := 28) (v := (nI (99))) dX7_set_28 (by decide) ?_
      refine r_goto (pc := 30) (tgt := 35) dX7_set_30 (by decide) ?_
      refine r_callS (pc := 35) (d' := 0) (As := [.int (v), .int (nI 0), .int (nI 99)]) (rest := []) dX7_set_35 sX7_in mX7_77 rfl rfl (Nat.le_of_ble_eq_true rfl) (Nat.le_of_ble_eq_true rfl) ?_
      refine c_in ?_
      refine rb_if_ne (pc := 38) (tgt := 44) dX7_set_38 (by decide) (fun c38 => ?_) (fun c38 => ?_)
      · obtain ⟨vj, hv1, hv2, rfl⟩ := inR_t (by decide) (by decide) c38
        refine r_aload_n (pc := 44) dX7_set_44 rfl ?_
        refine r_getR (pc := 45) (r := 48) dX7_set_45 fX7_31 rfl rfl ?_
        refine r_iload_n (pc := 48) dX7_set_48 rfl ?_
        refine r_iald (pc := 49) (x := (nI (σ 0 2))) dX7_set_49 rfl rfl (by omega) (Ms_now (μ := μ) hM) ?_
        refine r_istore_n (pc := 50) (ls' := [(0, .ref 40), (1, .int (nI 1)), (2, .int (nI vj)), (3, .int (nI (σ 0 2)))]) dX7_set_50 (Nat.le_of_ble_eq_true rfl) rfl ?_
        refine r_aload_n (pc := 51) dX7_set_51 rfl ?_
        refine r_getR (pc := 52) (r := 48) dX7_set_52 fX7_31 rfl rfl ?_
        refine r_iload_n (pc := 55) dX7_set_55 rfl ?_
        refine r_iload_n (pc := 56) dX7_set_56 rfl ?_
        refine r_iast (pc := 57) dX7_set_57 rfl rfl (by omega) ?_
        refine r_iload_n (pc := 58) dX7_set_58 rfl ?_
        refine r_ireturn (pc := 59) dX7_set_59 rfl (Or.inl rfl) rfl ?_
        have e9 : sp_set σ (nI (1)) (nI vj) = ((nI (σ 0 2)), su σ 0 2 vj) := by
          simp (decide := true) [sp_set, c6, c38, bN_nI (show 1 < 2 ^ 31 by decide), bN_nI (show vj < 2 ^ 31 by omega)]
        rw [e9] at h
        exact h _ (Ms_t1 hM) ((keepX.I keepX.rf (by decide)))
      · refine r_bipush (pc := 41) (v := (-2)) dX7_set_41 (by decide) ?_
        refine r_ireturn (pc := 43) dX7_set_43 rfl (Or.inl rfl) rfl ?_
        have e9 : sp_set σ (nI (1)) v = ((-2), σ) := by
          simp (decide := true) [sp_set, c6, c38]
        rw [e9] at h
        exact h _ hM (keepX.rf)
    · refine r_iload_n (pc := 12) dX7_set_12 rfl ?_
      refine r_iload_n (pc := 13) dX7_set_13 rfl ?_
      refine r_iconst (pc := 14) (v := (nI (2))) dX7_set_14 (by decide) ?_
      refine rn_icmp_ne (pc := 15) (tgt := 22) dX7_set_15 (by decide) (by decide) (by decide) (fun q => absurd q (by decide)) (fun _ => ?_)
      refine r_iconst (pc := 18) (v := (nI (1))) dX7_set_18 (by decide) ?_
      refine r_goto (pc := 19) (tgt := 23) dX7_set_19 (by decide) ?_
      refine r_iload_n (pc := 23) dX7_set_23 rfl ?_
      refine r_iconst (pc := 24) (v := (nI (1))) dX7_set_24 (by decide) ?_
      refine rn_icmp_ne (pc := 25) (tgt := 33) dX7_set_25 (by decide) (by decide) (by decide) (fun _ => ?_) (fun q => absurd q (by decide))
      refine r_bipush (pc := 33) (v := (nI (98))) dX7_set_33 (by decide) ?_
      refine r_callS (pc := 35) (d' := 0) (As := [.int (v), .int (nI 1), .int (nI 98)]) (rest := []) dX7_set_35 sX7_in mX7_77 rfl rfl (Nat.le_of_ble_eq_true rfl) (Nat.le_of_ble_eq_true rfl) ?_
      refine c_in ?_
      refine rb_if_ne (pc := 38) (tgt := 44) dX7_set_38 (by decide) (fun c38 => ?_) (fun c38 => ?_)
      · obtain ⟨vj, hv1, hv2, rfl⟩ := inR_t (by decide) (by decide) c38
        refine r_aload_n (pc := 44) dX7_set_44 rfl ?_
        refine r_getR (pc := 45) (r := 48) dX7_set_45 fX7_31 rfl rfl ?_
        refine r_iload_n (pc := 48) dX7_set_48 rfl ?_
        refine r_iald (pc := 49) (x := (nI (σ 0 3))) dX7_set_49 rfl rfl (by omega) (Ms_drop (μ := μ) hM) ?_
        refine r_istore_n (pc := 50) (ls' := [(0, .ref 40), (1, .int (nI 2)), (2, .int (nI vj)), (3, .int (nI (σ 0 3)))]) dX7_set_50 (Nat.le_of_ble_eq_true rfl) rfl ?_
        refine r_aload_n (pc := 51) dX7_set_51 rfl ?_
        refine r_getR (pc := 52) (r := 48) dX7_set_52 fX7_31 rfl rfl ?_
        refine r_iload_n (pc := 55) dX7_set_55 rfl ?_
        refine r_iload_n (pc := 56) dX7_set_56 rfl ?_
        refine r_iast (pc := 57) dX7_set_57 rfl rfl (by omega) ?_
        refine r_iload_n (pc := 58) dX7_set_58 rfl ?_
        refine r_ireturn (pc := 59) dX7_set_59 rfl (Or.inl rfl) rfl ?_
        have e9 : sp_set σ (nI (2)) (nI vj) = ((nI (σ 0 3)), su σ 0 3 vj) := by
          simp (decide := true) [sp_set, c6, c38, bN_nI (show 2 < 2 ^ 31 by decide), bN_nI (show vj < 2 ^ 31 by omega)]
        rw [e9] at h
        exact h _ (Ms_t2 hM) ((keepX.I keepX.rf (by decide)))
      · refine r_bipush (pc := 41) (v := (-2)) dX7_set_41 (by decide) ?_
        refine r_ireturn (pc := 43) dX7_set_43 rfl (Or.inl rfl) rfl ?_
        have e9 : sp_set σ (nI (2)) v = ((-2), σ) := by
          simp (decide := true) [sp_set, c6, c38]
        rw [e9] at h
        exact h _ hM (keepX.rf)
  · refine r_bipush (pc := 9) (v := (-2)) dX7_set_9 (by decide) ?_
    refine r_ireturn (pc := 11) dX7_set_11 rfl (Or.inl rfl) rfl ?_
    have e9 : sp_set σ w v = ((-2), σ) := by
      simp (decide := true) [sp_set, c6]
    rw [e9] at h
    exact h _ hM (keepX.rf)

set_option maxRecDepth 20000 in
set_option maxHeartbeats 4000000 in
theorem m_told_l {μ : Mem} {σ : Sg} {w : Int32} {Q : Option Value → Mem → Prop} (hM : Ms μ σ) (hO : Ok σ) (h : ∀ μ', Ms μ' σ → keepX μ μ' → Q (some (.int (sp_told σ w))) μ') : ∀ (k : Nat) (b : Nat), b + k = σ 0 0 → WP cX7_told (RX7, 4, (some .int), 2, none) 4 [(0, .ref 40), (1, .int (w)), (2, .int (nI (obits σ b))), (3, .int (nI b))] [] μ Q := by
  intro k
  induction k using Nat.strongRecOn with
  | _ k ih =>
    intro b hb
    have hn := Ok_n hO
    refine r_iload_n (pc := 4) dX7_told_4 rfl ?_
    refine r_aload_n (pc := 5) dX7_told_5 rfl ?_
    refine r_getI (pc := 6) (x := (nI (σ 0 0))) dX7_told_6 fX7_81 rfl rfl (Ms_n (μ := μ) hM) ?_
    refine rn_icmp_ge (pc := 9) (tgt := 36) dX7_told_9 (by decide) (by omega) (by omega) (fun c9 => ?_) (fun c9 => ?_)
    · obtain rfl : b = σ 0 0 := by omega
      refine r_iload_n (pc := 36) dX7_told_36 rfl ?_
      refine r_if_ne (pc := 37) (tgt := 47) dX7_told_37 (by decide) (fun c37 => ?_) (fun c37 => ?_)
      · refine r_iload_n (pc := 47) dX7_told_47 rfl ?_
        refine r_iconst (pc := 48) (v := (nI (1))) dX7_told_48 (by decide) ?_
        refine r_icmp_ne (pc := 49) (tgt := 59) dX7_told_49 (by decide) (fun c49 => ?_) (fun c49 => ?_)
        · refine r_iload_n (pc := 59) dX7_told_59 rfl ?_
          refine r_iconst (pc := 60) (v := (nI (2))) dX7_told_60 (by decide) ?_
          refine r_icmp_ne (pc := 61) (tgt := 68) dX7_told_61 (by decide) (fun c61 => ?_) (fun c61 => ?_)
          · refine r_iload_n (pc := 68) dX7_told_68 rfl ?_
            refine r_iconst (pc := 69) (v := (nI (3))) dX7_told_69 (by decide) ?_
            refine r_iconst (pc := 70) (v := (nI (5))) dX7_told_70 (by decide) ?_
            refine r_callS (pc := 71) (d' := 0) (As := [.int (w), .int (nI 3), .int (nI 5)]) (rest := []) dX7_told_71 sX7_in mX7_77 rfl rfl (Nat.le_of_ble_eq_true rfl) (Nat.le_of_ble_eq_true rfl) ?_
            refine c_in ?_
            refine rb_if_eq (pc := 74) (tgt := 88) dX7_told_74 (by decide) (fun c74 => ?_) (fun c74 => ?_)
            · refine r_bipush (pc := 88) (v := (-2)) dX7_told_88 (by decide) ?_
              refine r_ireturn (pc := 90) dX7_told_90 rfl (Or.inl rfl) rfl ?_
              have e9 : sp_told σ w = -2 := by
                have q3 : ∀ j : Nat, 3 ≤ j → j ≤ 5 → ¬ w = nI j := fun j h1 h2 q => by rw [q, inR_nat (by omega) (by decide) (by decide)] at c74; simp at c74; omega
                simp only [sp_told]
                rw [if_neg (by rw [nI_0]; exact c37), if_neg c49, if_neg c61, if_neg (q3 3 (by decide) (by decide)), if_neg (q3 4 (by decide) (by decide)), if_neg (q3 5 (by decide) (by decide))]
              rw [e9] at h
              exact h _ hM keepX.rf
            · obtain ⟨wj, hw1, hw2, rfl⟩ := inR_t (by decide) (by decide) c74
              rcases (show wj = 3 ∨ wj = 4 ∨ wj = 5 by omega) with rfl | rfl | rfl
              · refine r_aload_n (pc := 77) dX7_told_77 rfl ?_
                refine r_getR (pc := 78) (r := 48) dX7_told_78 fX7_31 rfl rfl ?_
                refine r_iload_n (pc := 81) dX7_told_81 rfl ?_
                refine r_iconst (pc := 82) (v := (nI (3))) dX7_told_82 (by decide) ?_
                refine rn_isub (pc := 83) dX7_told_83 (by omega) ?_
                refine r_iald (pc := 84) (x := (nI (σ 0 1))) dX7_told_84 rfl rfl (by omega) (Ms_fee (μ := μ) hM) ?_
                refine r_goto (pc := 85) (tgt := 90) dX7_told_85 (by decide) ?_
                refine r_ireturn (pc := 90) dX7_told_90 rfl (Or.inl rfl) rfl ?_
                have e9 : sp_told σ (nI 3) = (nI (σ 0 1)) := by simp (decide := true) [sp_told]
                rw [e9] at h
                exact h _ hM keepX.rf
              · refine r_aload_n (pc := 77) dX7_told_77 rfl ?_
                refine r_getR (pc := 78) (r := 48) dX7_told_78 fX7_31 rfl rfl ?_
                refine r_iload_n (pc := 81) dX7_told_81 rfl ?_
                refine r_iconst (pc := 82) (v := (nI (3))) dX7_told_82 (by decide) ?_
                refine rn_isub (pc := 83) dX7_told_83 (by omega) ?_
                refine r_iald (pc := 84) (x := (nI (σ 0 2))) dX7_told_84 rfl rfl (by omega) (Ms_now (μ := μ) hM) ?_
                refine r_goto (pc := 85) (tgt := 90) dX7_told_85 (by decide) ?_
                refine r_ireturn (pc := 90) dX7_told_90 rfl (Or.inl rfl) rfl ?_
                have e9 : sp_told σ (nI 4) = (nI (σ 0 2)) := by simp (decide := true) [sp_told]
                rw [e9] at h
                exact h _ hM keepX.rf
              · refine r_aload_n (pc := 77) dX7_told_77 rfl ?_
                refine r_getR (pc := 78) (r := 48) dX7_told_78 fX7_31 rfl rfl ?_
                refine r_iload_n (pc := 81) dX7_told_81 rfl ?_
                refine r_iconst (pc := 82) (v := (nI (3))) dX7_told_82 (by decide) ?_
                refine rn_isub (pc := 83) dX7_told_83 (by omega) ?_
                refine r_iald (pc := 84) (x := (nI (σ 0 3))) dX7_told_84 rfl rfl (by omega) (Ms_drop (μ := μ) hM) ?_
                refine r_goto (pc := 85) (tgt := 90) dX7_told_85 (by decide) ?_
                refine r_ireturn (pc := 90) dX7_told_90 rfl (Or.inl rfl) rfl ?_
                have e9 : sp_told σ (nI 5) = (nI (σ 0 3)) := by simp (decide := true) [sp_told]
                rw [e9] at h
                exact h _ hM keepX.rf
          · refine r_iload_n (pc := 64) dX7_told_64 rfl ?_
            refine r_goto (pc := 65) (tgt := 90) dX7_told_65 (by decide) ?_
            refine r_ireturn (pc := 90) dX7_told_90 rfl (Or.inl rfl) rfl ?_
            have e9 : sp_told σ w = (nI (obits σ (σ 0 0))) := by simp (decide := true) [sp_told, nI_0, c37, c49, c61]
            rw [e9] at h
            exact h _ hM keepX.rf
        · refine r_aload_n (pc := 52) dX7_told_52 rfl ?_
          refine r_getI (pc := 53) (x := (nI (σ 0 4))) dX7_told_53 fX7_107 rfl rfl (Ms_sn (μ := μ) hM) ?_
          refine r_goto (pc := 56) (tgt := 90) dX7_told_56 (by decide) ?_
          refine r_ireturn (pc := 90) dX7_told_90 rfl (Or.inl rfl) rfl ?_
          have e9 : sp_told σ w = (nI (σ 0 4)) := by simp (decide := true) [sp_told, nI_0, c37, c49]
          rw [e9] at h
          exact h _ hM keepX.rf
      · refine r_aload_n (pc := 40) dX7_told_40 rfl ?_
        refine r_getI (pc := 41) (x := (nI (σ 0 0))) dX7_told_41 fX7_81 rfl rfl (Ms_n (μ := μ) hM) ?_
        refine r_goto (pc := 44) (tgt := 90) dX7_told_44 (by decide) ?_
        refine r_ireturn (pc := 90) dX7_told_90 rfl (Or.inl rfl) rfl ?_
        have e9 : sp_told σ w = (nI (σ 0 0)) := by simp (decide := true) [sp_told, nI_0, c37]
        rw [e9] at h
        exact h _ hM keepX.rf
    · refine r_iload_n (pc := 12) dX7_told_12 rfl ?_
      refine r_aload_n (pc := 13) dX7_told_13 rfl ?_
      refine r_iload_n (pc := 14) dX7_told_14 rfl ?_
      refine r_callV (pc := 15) (d' := 1) (k := 40) (As := [.int (nI b)]) (rest := [.int (nI (obits σ b))]) dX7_told_15 vX7_isOpen mX7_97 rfl rfl rfl (Nat.le_of_ble_eq_true rfl) (Nat.le_of_ble_eq_true rfl) ?_
      refine c_mopen (μ := μ) hM hO (by omega) ?_
      refine rb_if_eq (pc := 18) (tgt := 27) dX7_told_18 (by decide) (fun c18 => ?_) (fun c18 => ?_)
      · refine r_iconst (pc := 27) (v := (nI (0))) dX7_told_27 (by decide) ?_
        refine r_ior (pc := 28) dX7_told_28 ?_
        refine r_eqi (nI_or _ _) ?_
        refine r_istore_n (pc := 29) (ls' := [(0, .ref 40), (1, .int (w)), (2, .int (nI ((obits σ b) ||| (0)))), (3, .int (nI b))]) dX7_told_29 (Nat.le_of_ble_eq_true rfl) rfl ?_
        refine rn_iinc (pc := 30) (b := 1) (ls' := [(0, .ref 40), (1, .int (w)), (2, .int (nI ((obits σ b) ||| (0)))), (3, .int (nI (b + 1)))]) dX7_told_30 rfl (by decide) (Nat.le_of_ble_eq_true rfl) rfl ?_
        refine r_goto (pc := 33) (tgt := 4) dX7_told_33 (by decide) ?_
        have e1 : (obits σ b) ||| (0) = obits σ (b + 1) := by simp [obits, c18]
        rw [e1]
        exact ih (k - 1) (by omega) (b + 1) (by omega)
      · refine r_iconst (pc := 21) (v := (nI (1))) dX7_told_21 (by decide) ?_
        refine r_iload_n (pc := 22) dX7_told_22 rfl ?_
        refine r_ishl (pc := 23) dX7_told_23 ?_
        refine r_eqi (shl1 (by omega)) ?_
        refine r_goto (pc := 24) (tgt := 28) dX7_told_24 (by decide) ?_
        refine r_ior (pc := 28) dX7_told_28 ?_
        refine r_eqi (nI_or _ _) ?_
        refine r_istore_n (pc := 29) (ls' := [(0, .ref 40), (1, .int (w)), (2, .int (nI ((obits σ b) ||| (2 ^ b)))), (3, .int (nI b))]) dX7_told_29 (Nat.le_of_ble_eq_true rfl) rfl ?_
        refine rn_iinc (pc := 30) (b := 1) (ls' := [(0, .ref 40), (1, .int (w)), (2, .int (nI ((obits σ b) ||| (2 ^ b)))), (3, .int (nI (b + 1)))]) dX7_told_30 rfl (by decide) (Nat.le_of_ble_eq_true rfl) rfl ?_
        refine r_goto (pc := 33) (tgt := 4) dX7_told_33 (by decide) ?_
        have e1 : (obits σ b) ||| (2 ^ b) = obits σ (b + 1) := by simp [obits, c18]
        rw [e1]
        exact ih (k - 1) (by omega) (b + 1) (by omega)

set_option maxRecDepth 20000 in
set_option maxHeartbeats 4000000 in
theorem m_told {μ : Mem} {σ : Sg} {w : Int32} {Q : Option Value → Mem → Prop} (hM : Ms μ σ) (hO : Ok σ) (h : ∀ μ', Ms μ' σ → keepX μ μ' → Q (some (.int (sp_told σ w))) μ') : Sp iX7_told 2 [.ref 40, .int (w)] μ Q := by
  refine Sp.of vX7_told.1 (Nat.le_of_ble_eq_true rfl) ?_
  show WP cX7_told (RX7, 4, (some .int), 2, none) 0 [(0, .ref 40), (1, .int (w))] [] μ Q
  have hn := Ok_n hO
  refine r_iconst (pc := 0) (v := (nI (0))) dX7_told_0 (by decide) ?_
  refine r_istore_n (pc := 1) (ls' := [(0, .ref 40), (1, .int (w)), (2, .int (nI 0))]) dX7_told_1 (Nat.le_of_ble_eq_true rfl) rfl ?_
  refine r_iconst (pc := 2) (v := (nI (0))) dX7_told_2 (by decide) ?_
  refine r_istore_n (pc := 3) (ls' := [(0, .ref 40), (1, .int (w)), (2, .int (nI 0)), (3, .int (nI 0))]) dX7_told_3 (Nat.le_of_ble_eq_true rfl) rfl ?_
  exact m_told_l hM hO h (σ 0 0) 0 (by omega)
