/-! THE CLASS: read -/
theorem am_b {σ : Sg} {k : Nat} {nt : Option Nat} (h : pcO σ k nt = true) : 1 ≤ am σ k ∧ am σ k ≤ 99 := by
  have a := ps_iff.mp (pcO_iff.mp h).1
  unfold am
  by_cases q : ps σ (k + 1) 48 57 = true
  · have b := ps_iff.mp q
    rw [if_pos q]
    omega
  · rw [if_neg q]
    omega
theorem pb_b {σ : Sg} {k : Nat} (h : pbO σ k = true) : c1 σ k - 97 < 8 ∧ c2 σ k - 97 < 8 ∧ ¬ c1 σ k - 97 = c2 σ k - 97 ∧ (1 ≤ am σ k ∧ am σ k ≤ 99) ∧ (1 ≤ am σ (k3 σ k) ∧ am σ (k3 σ k) ≤ 99) := by
  obtain ⟨a, b, d⟩ := pbO_iff.mp h
  have a1 := (ps_iff.mp (pcO_iff.mp a).2.1).2
  have d1 := pcO_iff.mp d
  have d2 := (ps_iff.mp d1.2.1).2
  have e1 : 97 ≤ c1 σ k ∧ c1 σ k ≤ 104 := a1
  have e2 : 97 ≤ c2 σ k ∧ c2 σ k ≤ 104 := d2
  have e3 : ¬ c1 σ k = c2 σ k := fun q => d1.2.2 (by show some (c1 σ k) = some (c2 σ k); rw [q])
  exact ⟨by omega, by omega, by omega, am_b a, am_b d⟩
theorem addB_8 (τ : Sg) (f t g n : Nat) : (addB τ f t g n) 8 = τ 8 := by
  funext i
  show (if 8 = 0 then _ else if i = τ 0 0 then _ else τ 8 i) = τ 8 i
  rw [if_neg (by decide)]
  split <;> rfl
theorem addB_4 (τ : Sg) (f t g n : Nat) : (addB τ f t g n) 0 4 = τ 0 4 := rfl
theorem addB_0 (τ : Sg) (f t g n : Nat) : (addB τ f t g n) 0 0 = τ 0 0 + 1 := rfl
theorem Ok_addB {τ : Sg} {f t g n : Nat} (h : Ok τ) (h12 : τ 0 0 < 12) (hf : f < 8) (hg : g < 8) (hfg : ¬ f = g) (ht : 1 ≤ t ∧ t ≤ 99) (hn : 1 ≤ n ∧ n ≤ 99) : Ok (addB τ f t g n) := by
  obtain ⟨a1, a2, a3, a4, a5, a6, a7, a8, a9⟩ := h
  refine ⟨?_, a2, a3, a4, a5, fun j hj => ?_, fun j hj => ?_, fun j hj => ?_, fun j hj => ?_⟩
  · show τ 0 0 + 1 ≤ 12; omega
  · have b := a6 j hj
    by_cases e : j = τ 0 0
    · subst e
      simp [addB]
      omega
    · simp [addB, e]
      exact b
  · have hj' : j < τ 0 0 + 1 := hj
    by_cases e : j = τ 0 0
    · subst e
      simp [addB]
      omega
    · have b := a7 j (by omega)
      simp [addB, e]
      exact b
  · rw [addB_8]; exact a8 j hj
  · have : (addB τ f t g n) 9 j = τ 9 j := by
      show (if 9 = 0 then _ else if j = τ 0 0 then _ else τ 9 j) = τ 9 j
      rw [if_neg (by decide)]
      split <;> rfl
    rw [this]; exact a9 j hj
theorem hang_0 (σ : Sg) : ∀ m k τ, (hang σ m k τ) 0 0 = τ 0 0 + m
  | 0, k, τ => rfl
  | m + 1, k, τ => by
    show (hang σ m _ (addB τ _ _ _ _)) 0 0 = _
    rw [hang_0 σ m, addB_0]
    omega

set_option maxRecDepth 20000 in
set_option maxHeartbeats 4000000 in
theorem x_cb_l {μ : Mem} {σ : Sg} {Q : Option Value → Mem → Prop} (hS : SgM μ σ) (hO : Ok σ) (h : Q (some (.int (nI (many σ)))) μ) : ∀ (k : Nat) (i : Nat), i + k = σ 0 4 → WP cX3_countBoards (RX3, 3, (some .int), 0, none) 4 [(0, .ref 10), (1, .int (nI (1 + cs σ 0 i))), (2, .int (nI i))] [] μ Q := by
  intro k
  induction k using Nat.strongRecOn with
  | _ k ih =>
    intro i hik
    have hn := Ok_n hO
    have hcl := cs_le σ i 0
    refine r_iload_n (pc := 4) dX3_countBoards_4 rfl ?_
    refine r_aload_n (pc := 5) dX3_countBoards_5 rfl ?_
    refine r_getI (pc := 6) (x := (nI (σ 0 4))) dX3_countBoards_6 fX3_15 rfl rfl hS.1 ?_
    refine rn_icmp_ge (pc := 9) (tgt := 32) dX3_countBoards_9 (by decide) (by omega) (by omega) (fun c9 => ?_) (fun c9 => ?_)
    · obtain rfl : i = σ 0 4 := by omega
      refine r_iload_n (pc := 32) dX3_countBoards_32 rfl ?_
      refine r_ireturn (pc := 33) dX3_countBoards_33 rfl (Or.inl rfl) rfl ?_
      exact h
    · refine r_aload_n (pc := 12) dX3_countBoards_12 rfl ?_
      refine r_getR (pc := 13) (r := 11) dX3_countBoards_13 fX3_9 rfl rfl ?_
      refine r_iload_n (pc := 16) dX3_countBoards_16 rfl ?_
      refine r_cald (pc := 17) (x := (nI (σ 8 (i)))) dX3_countBoards_17 rfl rfl (by omega) (hS.2 _ (by omega)) ?_
      have b1 := Ok_s hO (j := i) (by omega)
      refine r_bipush (pc := 18) (v := (nI (59))) dX3_countBoards_18 (by decide) ?_
      refine rn_icmp_ne (pc := 20) (tgt := 26) dX3_countBoards_20 (by decide) (by omega) (by omega) (fun c20 => ?_) (fun c20 => ?_)
      · refine rn_iinc (pc := 26) (b := 1) (ls' := [(0, .ref 10), (1, .int (nI (1 + cs σ 0 i))), (2, .int (nI (i + 1)))]) dX3_countBoards_26 rfl (by decide) (Nat.le_of_ble_eq_true rfl) rfl ?_
        refine r_goto (pc := 29) (tgt := 4) dX3_countBoards_29 (by decide) ?_
        have e9 : cs σ 0 (i + 1) = cs σ 0 i := by rw [cs_app, show cs σ (0 + i) 1 = 0 by show (if σ 8 (0 + i) = 59 then 1 else 0) + 0 = 0; rw [Nat.zero_add, if_neg c20]]; exact Nat.add_zero _
        have h9 := ih (k - 1) (by omega) (i + 1) (by omega)
        rw [e9] at h9
        exact h9
      · refine rn_iinc (pc := 23) (b := 1) (ls' := [(0, .ref 10), (1, .int (nI (1 + cs σ 0 i + 1))), (2, .int (nI i))]) dX3_countBoards_23 rfl (by decide) (Nat.le_of_ble_eq_true rfl) rfl ?_
        refine rn_iinc (pc := 26) (b := 1) (ls' := [(0, .ref 10), (1, .int (nI (1 + cs σ 0 i + 1))), (2, .int (nI (i + 1)))]) dX3_countBoards_26 rfl (by decide) (Nat.le_of_ble_eq_true rfl) rfl ?_
        refine r_goto (pc := 29) (tgt := 4) dX3_countBoards_29 (by decide) ?_
        have e9 : cs σ 0 (i + 1) = cs σ 0 i + 1 := by rw [cs_app, show cs σ (0 + i) 1 = 1 by show (if σ 8 (0 + i) = 59 then 1 else 0) + 0 = 1; rw [Nat.zero_add, if_pos c20]]
        have h9 := ih (k - 1) (by omega) (i + 1) (by omega)
        rw [e9] at h9
        exact h9

set_option maxRecDepth 20000 in
set_option maxHeartbeats 4000000 in
theorem x_cb {μ : Mem} {σ : Sg} {Q : Option Value → Mem → Prop} (hS : SgM μ σ) (hO : Ok σ) (h : Q (some (.int (nI (many σ)))) μ) : Sp iX3_countBoards 0 [.ref 10] μ Q := by
  refine Sp.of vX3_countBoards.1 (Nat.le_of_ble_eq_true rfl) ?_
  show WP cX3_countBoards (RX3, 3, (some .int), 0, none) 0 [(0, .ref 10)] [] μ Q
  refine r_iconst (pc := 0) (v := (nI (1))) dX3_countBoards_0 (by decide) ?_
  refine r_istore_n (pc := 1) (ls' := [(0, .ref 10), (1, .int (nI 1))]) dX3_countBoards_1 (Nat.le_of_ble_eq_true rfl) rfl ?_
  refine r_iconst (pc := 2) (v := (nI (0))) dX3_countBoards_2 (by decide) ?_
  refine r_istore_n (pc := 3) (ls' := [(0, .ref 10), (1, .int (nI 1)), (2, .int (nI 0))]) dX3_countBoards_3 (Nat.le_of_ble_eq_true rfl) rfl ?_
  exact x_cb_l hS hO h (σ 0 4) 0 (by omega)

set_option maxRecDepth 20000 in
set_option maxHeartbeats 4000000 in
theorem x_hu_l {μ : Mem} {σ : Sg} {mm : Nat} {Q : Option Value → Mem → Prop} (hO : Ok σ) (hmm : mm ≤ 12) : ∀ (m1 : Nat) (n k c : Nat) (τ : Sg) (μ1 : Mem), n + m1 = mm → Xs μ1 τ → Ok τ → SgM μ1 σ → (∀ a, 12 ≤ a → μ1.1 a = μ.1 a ∧ μ1.2 a = μ.2 a) → τ 0 0 + m1 ≤ 12 → (m1 = 0 ∨ (k ≤ σ 0 4 ∧ fl σ k 0 c = -6 ∧ m1 = 1 + cs σ k (σ 0 4 - k) ∧ μ1.1 10 2 = nI k)) → (∀ μ', Xs μ' (hang σ m1 k τ) → (∀ a, 12 ≤ a → μ'.1 a = μ.1 a ∧ μ'.2 a = μ.2 a) → Q none μ') → WP cX3_hangUp (RX3, 4, none, 3, none) 7 [(0, .ref 10), (1, .ref 1), (2, .int (nI mm)), (3, .int (nI n))] [] μ1 Q := by
  intro m1
  induction m1 using Nat.strongRecOn with
  | _ m1 ih =>
    intro n k c τ μ1 hnm hX1 hOt hS1 hr1 h12 hv h
    have hn := Ok_n hO
    refine r_iload_n (pc := 7) dX3_hangUp_7 rfl ?_
    refine r_iload_n (pc := 8) dX3_hangUp_8 rfl ?_
    refine rn_icmp_ge (pc := 9) (tgt := 54) dX3_hangUp_9 (by decide) (by omega) (by omega) (fun c9 => ?_) (fun c9 => ?_)
    · obtain rfl : m1 = 0 := by omega
      refine r_return (pc := 54) dX3_hangUp_54 rfl ?_
      exact h μ1 hX1 hr1
    · obtain ⟨m, rfl⟩ : ∃ m, m1 = m + 1 := ⟨m1 - 1, by omega⟩
      obtain ⟨hk, hfl, hm, hpl⟩ : k ≤ σ 0 4 ∧ fl σ k 0 c = -6 ∧ m + 1 = 1 + cs σ k (σ 0 4 - k) ∧ μ1.1 10 2 = nI k := by
        rcases hv with hv | hv
        · omega
        · exact hv
      refine r_aload_n (pc := 12) dX3_hangUp_12 rfl ?_
      refine r_callV (pc := 13) (d' := 2) (k := 10) (As := []) (rest := []) dX3_hangUp_13 vX3_passBoard mX3_34 rfl rfl rfl (Nat.le_of_ble_eq_true rfl) (Nat.le_of_ble_eq_true rfl) ?_
      refine x_pb (k := k) hS1 hO hpl hk (fun μ2 f2 p2 a2 => ?_)
      have hpb := pbP_le (σ := σ) (k := k) hk
      obtain ⟨hbo, hend⟩ := fl_ok hO hk hfl
      have hbb := pb_b hbo
      refine rb_if_eq (pc := 16) (tgt := 54) dX3_hangUp_16 (by decide) (fun c16 => ?_) (fun c16 => ?_)
      · rw [hbo] at c16
        exact absurd c16 (by decide)
      · refine r_aload_n (pc := 19) dX3_hangUp_19 rfl ?_
        refine r_aload_n (pc := 20) dX3_hangUp_20 rfl ?_
        refine r_getI (pc := 21) (x := (nI (c1 σ k - 97))) dX3_hangUp_21 fX3_31 rfl rfl ((a2 c16).2.1) ?_
        refine r_aload_n (pc := 24) dX3_hangUp_24 rfl ?_
        refine r_getI (pc := 25) (x := (nI (am σ k))) dX3_hangUp_25 fX3_28 rfl rfl ((a2 c16).1) ?_
        refine r_aload_n (pc := 28) dX3_hangUp_28 rfl ?_
        refine r_getI (pc := 29) (x := (nI (c2 σ k - 97))) dX3_hangUp_29 fX3_25 rfl rfl ((a2 c16).2.2.1) ?_
        refine r_aload_n (pc := 32) dX3_hangUp_32 rfl ?_
        refine r_getI (pc := 33) (x := (nI (am σ (k3 σ k)))) dX3_hangUp_33 fX3_22 rfl rfl ((a2 c16).2.2.2) ?_
        refine r_callV (pc := 36) (d' := 0) (k := 1) (As := [.int (nI (c1 σ k - 97)), .int (nI (am σ k)), .int (nI (c2 σ k - 97)), .int (nI (am σ (k3 σ k)))]) (rest := []) dX3_hangUp_36 vX0_add mX3_42 rfl rfl rfl (Nat.le_of_ble_eq_true rfl) (Nat.le_of_ble_eq_true rfl) ?_
        refine x_badd (Xs_frP f2 hX1) hOt (by omega) (fun μ3 hX3 hk3 h10 => ?_)
        have hS3 : SgM μ3 σ := ⟨by rw [(h10 10 (by decide)).1]; exact (SgM_frP f2 hS1).1, fun j hj => by rw [(h10 11 (by decide)).1]; exact (SgM_frP f2 hS1).2 j hj⟩
        refine r_aload_n (pc := 39) dX3_hangUp_39 rfl ?_
        refine r_bipush (pc := 40) (v := (nI (59))) dX3_hangUp_40 (by decide) ?_
        refine r_bipush (pc := 42) (v := (nI (59))) dX3_hangUp_42 (by decide) ?_
        refine r_callV (pc := 44) (d' := 0) (k := 10) (As := [.int (nI 59), .int (nI 59)]) (rest := []) dX3_hangUp_44 vX3_passOneOf mX3_38 rfl rfl rfl (Nat.le_of_ble_eq_true rfl) (Nat.le_of_ble_eq_true rfl) ?_
        refine x_po (k := pbP σ k) (lo := 59) (hi := 59) hS3 hO (((by rw [(h10 10 (by decide)).1]; exact p2))) (by omega) (by decide) (by decide) (fun μp2 e1 => ?_)
        refine r_pop_i (pc := 47) dX3_hangUp_47 ?_
        refine rn_iinc (pc := 48) (b := 1) (ls' := [(0, .ref 10), (1, .ref 1), (2, .int (nI mm)), (3, .int (nI (n + 1)))]) dX3_hangUp_48 rfl (by decide) (Nat.le_of_ble_eq_true rfl) rfl ?_
        refine r_goto (pc := 51) (tgt := 7) dX3_hangUp_51 (by decide) ?_
        have hr3 : ∀ a, 12 ≤ a → μ3.1 a = μ.1 a ∧ μ3.2 a = μ.2 a := fun a ha => ⟨by rw [(h10 a (by omega)).1, f2.1 a (by omega)]; exact (hr1 a ha).1, by rw [(h10 a (by omega)).2, f2.2.2]; exact (hr1 a ha).2⟩
        have hO3 := Ok_addB hOt (by omega) hbb.1 hbb.2.1 hbb.2.2.1 hbb.2.2.2.1 hbb.2.2.2.2
        rcases hend with hend | ⟨hps, hfl2⟩
        · have hcs : m = 0 := by
            have := board_cs hk hbo
            rw [if_pos hend] at this
            omega
          rw [if_neg (fun z => by have := ps_iff.mp z; omega)] at e1
          rw [e1]
          refine ih m (by omega) (n + 1) (pbP σ k + 1) 0 _ μ3 (by omega) hX3 hO3 hS3 hr3 (by rw [addB_0]; omega) (Or.inl hcs) h
        · have hcs : m = 1 + cs σ (pbP σ k + 1) (σ 0 4 - (pbP σ k + 1)) := by
            have h7 := ps_iff.mp hps
            have := board_cs hk hbo
            rw [if_neg (by omega), if_pos (by omega)] at this
            omega
          rw [if_pos hps] at e1
          rw [e1]
          have h7 := ps_iff.mp hps
          refine ih m (by omega) (n + 1) (pbP σ k + 1) (c2 σ k) _ _ (by omega) (Xs_frP (frP.s (by decide) frP.rf) hX3) hO3 (SgM_10 (by decide) hS3) (fun a ha => ⟨(if_neg (by omega)).trans (hr3 a ha).1, (hr3 a ha).2⟩) (by rw [addB_0]; omega) (Or.inr ⟨by omega, hfl2, hcs, by rw [setI_at, if_pos ⟨rfl, rfl⟩]⟩) h

set_option maxRecDepth 20000 in
set_option maxHeartbeats 4000000 in
theorem x_hu {μ : Mem} {σ : Sg} {Q : Option Value → Mem → Prop} (hX : Xs μ σ) (hO : Ok σ) (hf : sp_fault σ = -6) (h12 : σ 0 0 + many σ ≤ 12) (h : ∀ μ', Xs μ' (hang σ (many σ) 0 σ) → (∀ a, 12 ≤ a → μ'.1 a = μ.1 a ∧ μ'.2 a = μ.2 a) → Q none μ') : Sp iX3_hangUp 3 [.ref 10, .ref 1, .int (nI (many σ))] μ Q := by
  refine Sp.of vX3_hangUp.1 (Nat.le_of_ble_eq_true rfl) ?_
  show WP cX3_hangUp (RX3, 4, none, 3, none) 0 [(0, .ref 10), (1, .ref 1), (2, .int (nI (many σ)))] [] μ Q
  refine r_aload_n (pc := 0) dX3_hangUp_0 rfl ?_
  refine r_iconst (pc := 1) (v := (nI (0))) dX3_hangUp_1 (by decide) ?_
  refine r_putI (pc := 2) dX3_hangUp_2 gX3_19 rfl rfl rfl rfl ?_
  refine r_iconst (pc := 5) (v := (nI (0))) dX3_hangUp_5 (by decide) ?_
  refine r_istore_n (pc := 6) (ls' := [(0, .ref 10), (1, .ref 1), (2, .int (nI (many σ))), (3, .int (nI 0))]) dX3_hangUp_6 (Nat.le_of_ble_eq_true rfl) rfl ?_
  exact x_hu_l (μ := μ) hO (by omega) (many σ) 0 0 0 σ _ (by omega) (Xs_frP (frP.s (by decide) frP.rf) hX) hO (SgM_10 (by decide) (Xs_SgM hX)) (fun a ha => ⟨if_neg (by omega), rfl⟩) h12 (Or.inr ⟨by omega, hf, rfl, by rw [setI_at, if_pos ⟨rfl, rfl⟩]⟩) h

set_option maxRecDepth 20000 in
set_option maxHeartbeats 4000000 in
theorem x_read {μ : Mem} {σ : Sg} {Q : Option Value → Mem → Prop} (hI : XI μ σ) (hO : Ok σ) (h : ∀ μ', XI μ' (sp_read σ).2 → keepM μ μ' → Q (some (.int (sp_read σ).1)) μ') : Sp iX6_read 4 [.ref 0] μ Q := by
  refine Sp.of vX6_read.1 (Nat.le_of_ble_eq_true rfl) ?_
  show WP cX6_read (RX6, 2, (some .int), 4, none) 0 [(0, .ref 0)] [] μ Q
  have hn := Ok_n hO
  refine r_aload_n (pc := 0) dX6_read_0 rfl ?_
  refine r_getR (pc := 1) (r := 10) dX6_read_1 fX6_19 rfl rfl ?_
  refine r_callV (pc := 4) (d' := 3) (k := 10) (As := []) (rest := []) dX6_read_4 vX3_faultPlace mX6_119 rfl rfl rfl (Nat.le_of_ble_eq_true rfl) (Nat.le_of_ble_eq_true rfl) ?_
  refine x_fp (Xs_SgM hI.1) hO (fun μ1 hf1 => ?_)
  refine r_bipush (pc := 7) (v := (-6)) dX6_read_7 (by decide) ?_
  refine r_icmp_eq (pc := 9) (tgt := 15) dX6_read_9 (by decide) (fun c9 => ?_) (fun c9 => ?_)
  · refine r_aload_n (pc := 15) dX6_read_15 rfl ?_
    refine r_getR (pc := 16) (r := 10) dX6_read_16 fX6_19 rfl rfl ?_
    refine r_callV (pc := 19) (d' := 0) (k := 10) (As := []) (rest := []) dX6_read_19 vX3_countBoards mX6_123 rfl rfl rfl (Nat.le_of_ble_eq_true rfl) (Nat.le_of_ble_eq_true rfl) ?_
    refine x_cb (SgM_frP hf1 (Xs_SgM hI.1)) hO ?_
    have hcl := cs_le σ (σ 0 4) 0
    have hmy : many σ = 1 + cs σ 0 (σ 0 4) := rfl
    refine r_istore_n (pc := 22) (ls' := [(0, .ref 0), (1, .int (nI (many σ)))]) dX6_read_22 (Nat.le_of_ble_eq_true rfl) rfl ?_
    refine r_aload_n (pc := 23) dX6_read_23 rfl ?_
    refine r_getR (pc := 24) (r := 1) dX6_read_24 fX6_12 rfl rfl ?_
    refine r_getI (pc := 27) (x := (nI (σ 0 0))) dX6_read_27 fX6_63 rfl rfl (Xs_n (Xs_frP hf1 hI.1)) ?_
    refine r_iload_n (pc := 30) dX6_read_30 rfl ?_
    refine rn_iadd (pc := 31) dX6_read_31 ?_
    refine r_bipush (pc := 32) (v := (nI (12))) dX6_read_32 (by decide) ?_
    refine rn_icmp_le (pc := 34) (tgt := 40) dX6_read_34 (by decide) (by omega) (by omega) (fun c34 => ?_) (fun c34 => ?_)
    · refine r_aload_n (pc := 40) dX6_read_40 rfl ?_
      refine r_callV (pc := 41) (d' := 0) (k := 0) (As := []) (rest := []) dX6_read_41 vX6_forget mX6_67 rfl rfl rfl (Nat.le_of_ble_eq_true rfl) (Nat.le_of_ble_eq_true rfl) ?_
      refine x_forget ?_
      obtain ⟨μ2, e2⟩ : ∃ μ2, μ2 = setI (setI μ1 12 7 (nI 0)) 37 2 (nI 0) := ⟨_, rfl⟩
      rw [← e2]
      have hX1 := Xs_frP hf1 hI.1
      have hX2 : Xs μ2 σ := by rw [e2]; exact hX1
      refine r_aload_n (pc := 44) dX6_read_44 rfl ?_
      refine r_getR (pc := 45) (r := 10) dX6_read_45 fX6_19 rfl rfl ?_
      refine r_aload_n (pc := 48) dX6_read_48 rfl ?_
      refine r_getR (pc := 49) (r := 1) dX6_read_49 fX6_12 rfl rfl ?_
      refine r_iload_n (pc := 52) dX6_read_52 rfl ?_
      refine r_callV (pc := 53) (d' := 3) (k := 10) (As := [.ref 1, .int (nI (many σ))]) (rest := []) dX6_read_53 vX3_hangUp mX6_126 rfl rfl rfl (Nat.le_of_ble_eq_true rfl) (Nat.le_of_ble_eq_true rfl) ?_
      refine x_hu hX2 hO c9 (by omega) (fun μ3 hX3 hr3 => ?_)
      refine r_aload_n (pc := 56) dX6_read_56 rfl ?_
      refine r_getR (pc := 57) (r := 10) dX6_read_57 fX6_19 rfl rfl ?_
      refine r_iconst (pc := 60) (v := (nI (0))) dX6_read_60 (by decide) ?_
      refine r_putI (pc := 61) dX6_read_61 gX6_115 rfl rfl rfl rfl ?_
      refine r_aload_n (pc := 64) dX6_read_64 rfl ?_
      refine r_getR (pc := 65) (r := 1) dX6_read_65 fX6_12 rfl rfl ?_
      refine r_getI (pc := 68) (x := (nI (hang σ (many σ) 0 σ 0 0))) dX6_read_68 fX6_63 rfl rfl (show μ3.1 1 8 = _ from Xs_n hX3) ?_
      refine r_ireturn (pc := 71) dX6_read_71 rfl (Or.inl rfl) rfl ?_
      have e9 : sp_read σ = (nI ((hang σ (many σ) 0 σ) 0 0), su (hang σ (many σ) 0 σ) 0 4 0) := by unfold sp_read; rw [if_neg (fun z => z c9), if_neg (by omega)]
      rw [e9] at h
      refine h _ ⟨Xs_w hX3, Xc_none ?_ ?_⟩ (keepM.I (fun a ha => ⟨?_, ?_⟩) (by decide))
      · show μ3.1 12 7 = _; rw [(hr3 12 (by decide)).1, e2]; rfl
      · show μ3.1 37 2 = _; rw [(hr3 37 (by decide)).1, e2]; rfl
      · rw [(hr3 a (by omega)).1, e2]; exact (if_neg (by omega)).trans ((if_neg (by omega)).trans (hf1.keep a ha).1)
      · rw [(hr3 a (by omega)).2, e2]; exact (hf1.keep a ha).2
    · refine r_bipush (pc := 37) (v := (-4)) dX6_read_37 (by decide) ?_
      refine r_ireturn (pc := 39) dX6_read_39 rfl (Or.inl rfl) rfl ?_
      have e9 : sp_read σ = (-4, σ) := by unfold sp_read; rw [if_neg (fun z => z c9), if_pos (by omega)]
      rw [e9] at h
      exact h _ (XI_frP hf1 hI) hf1.keep
  · refine r_bipush (pc := 12) (v := (-5)) dX6_read_12 (by decide) ?_
    refine r_ireturn (pc := 14) dX6_read_14 rfl (Or.inl rfl) rfl ?_
    have e9 : sp_read σ = (-5, σ) := if_pos c9
    rw [e9] at h
    exact h _ (XI_frP hf1 hI) hf1.keep
