/-! THE MODEL'S CALLS ON ROUNDS -/
theorem oI_none {o : Option Nat} (hb : ∀ j, o = some j → j < 2 ^ 31) (h : oI o < 0) : o = none := by
  cases o with
  | none => rfl
  | some j => exact absurd h (nI_pos (hb j rfl))
theorem oI_some {o : Option Nat} (h : ¬ oI o < 0) : ∃ j, o = some j := by
  cases o with
  | none => exact absurd (by decide) h
  | some j => exact ⟨j, rfl⟩
theorem cnt_bit (x k : Nat) : cnt x.testBit (k + 1) = cnt x.testBit k + x / 2 ^ k % 2 := by
  show cnt x.testBit k + (if x.testBit k = true then 1 else 0) = _
  by_cases e : x.testBit k = true
  · rw [if_pos e, tb_iff.mpr e]
  · rw [if_neg e, tb_0.mpr (by simpa using e)]
theorem hits_f {s : Nat → Nat} {x : Nat} {k : Nat} (h : hits s x k = false) : ∀ m, hits s x (k + m) = false
  | 0 => h
  | m + 1 => by
    show (hits s x (k + m) && _) = false
    rw [hits_f h m]
    rfl
theorem su_su (σ : Sg) (a j v w : Nat) : su (su σ a j v) a j w = su σ a j w := by
  funext b i
  unfold su
  by_cases e : b = a ∧ i = j
  · rw [if_pos e, if_pos e]
  · rw [if_neg e, if_neg e, if_neg e]
theorem su_id (σ : Sg) (a j : Nat) : su σ a j (σ a j) = σ := by
  funext b i
  unfold su
  by_cases e : b = a ∧ i = j
  · rw [if_pos e, e.1, e.2]
  · rw [if_neg e]
theorem Ok_g {σ : Sg} {b v : Nat} (h : Ok σ) (h1 : 1 ≤ v) (h2 : v ≤ 99) : Ok (su σ 4 b v) := by
  obtain ⟨a1, a2, a3, a4, a5, a6, a7, a8, a9⟩ := h
  refine ⟨a1, a2, a3, a4, a5, fun j hj => ?_, fun j hj => ?_, a8, a9⟩
  · obtain ⟨b1, b2, b3, b4, b5, b6, b7⟩ := a6 j hj
    refine ⟨b1, b2, b3, ?_, b5, b6, b7⟩
    show (if 4 = 4 ∧ j = b then v else σ 4 j) ≤ 99
    split <;> omega
  · obtain ⟨b1, b2, b3, b4⟩ := a7 j hj
    refine ⟨b1, b2, ?_, b4⟩
    show 1 ≤ (if 4 = 4 ∧ j = b then v else σ 4 j)
    split <;> omega
theorem Ok_f {σ : Sg} {v : Nat} (h : Ok σ) (h2 : v ≤ 98) : Ok (su σ 0 1 v) := by
  obtain ⟨a1, a2, a3, a4, a5, a6, a7, a8, a9⟩ := h
  exact ⟨a1, h2, a3, a4, a5, a6, a7, a8, a9⟩
theorem any_len {σ σ' : Sg} {g : Nat → Nat} {f : Nat} (hr : rnds σ' = rnds σ) (h2 : σ' 2 = σ 2) (h4 : σ' 4 = g) (h1 : σ' 0 1 = f) : (0 < (Gs σ').length ↔ anyG σ g f = true) := by
  have e : gnF σ' = gns σ g f := by
    funext r
    unfold gnF gns pLow
    rw [h4, h1, h2]
  unfold Gs anyG
  rw [hr, e]
  constructor
  · intro h
    obtain ⟨r, hr⟩ := List.exists_mem_of_length_pos h
    obtain ⟨h1, h2⟩ := List.mem_filter.mp hr
    exact List.any_eq_true.mpr ⟨r, h1, h2⟩
  · intro h
    obtain ⟨r, h1, h2⟩ := List.any_eq_true.mp h
    exact List.length_pos_of_mem (List.mem_filter.mpr ⟨h1, h2⟩)
theorem any_mv (σ : Sg) (b v : Nat) : (0 < (Gs (su σ 4 b v)).length ↔ anyG σ (setG (σ 4) b v) (σ 0 1) = true) := any_len (rnds_cong2 rfl rfl rfl rfl rfl rfl) rfl (by funext i; simp [su, setG]) rfl
theorem any_fee (σ : Sg) (f : Nat) : (0 < (Gs (su σ 0 1 f)).length ↔ anyG σ (σ 4) f = true) := any_len (rnds_cong2 rfl rfl rfl rfl rfl rfl) rfl rfl rfl

set_option maxRecDepth 20000 in
set_option maxHeartbeats 4000000 in
theorem m_rounds {μ : Mem} {σ : Sg} {w : Int32} {Q : Option Value → Mem → Prop} (hM : Ms μ σ) (hO : Ok σ) (h : ∀ μ', Ms μ' σ → keepX μ μ' → Q (some (.int (sp_rounds σ w))) μ') : Sp iX7_rounds 3 [.ref 40, .int (w)] μ Q := by
  refine Sp.of vX7_rounds.1 (Nat.le_of_ble_eq_true rfl) ?_
  show WP cX7_rounds (RX7, 2, (some .int), 3, none) 0 [(0, .ref 40), (1, .int (w))] [] μ Q
  have hn := Ok_n hO
  refine r_iload_n (pc := 0) dX7_rounds_0 rfl ?_
  refine r_iconst (pc := 1) (v := (nI (0))) dX7_rounds_1 (by decide) ?_
  refine r_iconst (pc := 2) (v := (nI (1))) dX7_rounds_2 (by decide) ?_
  refine r_callS (pc := 3) (d' := 0) (As := [.int (w), .int (nI 0), .int (nI 1)]) (rest := []) dX7_rounds_3 sX7_in mX7_77 rfl rfl (Nat.le_of_ble_eq_true rfl) (Nat.le_of_ble_eq_true rfl) ?_
  refine c_in ?_
  refine rb_if_ne (pc := 6) (tgt := 12) dX7_rounds_6 (by decide) (fun c6 => ?_) (fun c6 => ?_)
  · obtain ⟨wj, hw1, hw2, rfl⟩ := inR_t (by decide) (by decide) c6
    rcases (show wj = 0 ∨ wj = 1 by omega) with rfl | rfl
    · refine r_aload_n (pc := 12) dX7_rounds_12 rfl ?_
      refine r_iconst (pc := 13) (v := (nI (0))) dX7_rounds_13 (by decide) ?_
      refine r_callV (pc := 14) (d' := 2) (k := 40) (As := [.int (nI 0)]) (rest := []) dX7_rounds_14 vX7_layRounds mX7_124 rfl rfl rfl (Nat.le_of_ble_eq_true rfl) (Nat.le_of_ble_eq_true rfl) ?_
      refine m_lay (μ := μ) hM hO (fun μ1 hG1 hf1 => ?_)
      have hM1 := hf1.Ms hM
      have hk1 := hf1.keep
      have hGl := Gs_len hO
      have hRl := rnds_le hO
      refine r_iload_n (pc := 17) dX7_rounds_17 rfl ?_
      refine rn_if_ne (pc := 18) (tgt := 28) dX7_rounds_18 (by decide) (by decide) (fun q => absurd q (by decide)) (fun _ => ?_)
      refine r_aload_n (pc := 21) dX7_rounds_21 rfl ?_
      refine r_getI (pc := 22) (x := (nI ((rnds σ).length))) dX7_rounds_22 fX7_114 rfl rfl hG1.1 ?_
      refine r_goto (pc := 25) (tgt := 32) dX7_rounds_25 (by decide) ?_
      refine r_ireturn (pc := 32) dX7_rounds_32 rfl (Or.inl rfl) rfl ?_
      have e9 : sp_rounds σ (nI (0)) = (nI ((rnds σ).length)) := by simp (decide := true) [sp_rounds]
      rw [e9] at h
      exact h _ hM1 hk1
    · refine r_aload_n (pc := 12) dX7_rounds_12 rfl ?_
      refine r_iconst (pc := 13) (v := (nI (0))) dX7_rounds_13 (by decide) ?_
      refine r_callV (pc := 14) (d' := 2) (k := 40) (As := [.int (nI 0)]) (rest := []) dX7_rounds_14 vX7_layRounds mX7_124 rfl rfl rfl (Nat.le_of_ble_eq_true rfl) (Nat.le_of_ble_eq_true rfl) ?_
      refine m_lay (μ := μ) hM hO (fun μ1 hG1 hf1 => ?_)
      have hM1 := hf1.Ms hM
      have hk1 := hf1.keep
      have hGl := Gs_len hO
      have hRl := rnds_le hO
      refine r_iload_n (pc := 17) dX7_rounds_17 rfl ?_
      refine rn_if_ne (pc := 18) (tgt := 28) dX7_rounds_18 (by decide) (by decide) (fun _ => ?_) (fun q => absurd q (by decide))
      refine r_aload_n (pc := 28) dX7_rounds_28 rfl ?_
      refine r_getI (pc := 29) (x := (nI ((Gs σ).length))) dX7_rounds_29 fX7_117 rfl rfl hG1.2.1 ?_
      refine r_ireturn (pc := 32) dX7_rounds_32 rfl (Or.inl rfl) rfl ?_
      have e9 : sp_rounds σ (nI (1)) = (nI ((Gs σ).length)) := by simp (decide := true) [sp_rounds]
      rw [e9] at h
      exact h _ hM1 hk1
  · refine r_bipush (pc := 9) (v := (-2)) dX7_rounds_9 (by decide) ?_
    refine r_ireturn (pc := 11) dX7_rounds_11 rfl (Or.inl rfl) rfl ?_
    have e9 : sp_rounds σ w = -2 := by simp [sp_rounds, c6]
    rw [e9] at h
    exact h _ hM keepX.rf

set_option maxRecDepth 20000 in
set_option maxHeartbeats 4000000 in
theorem m_round {μ : Mem} {σ : Sg} {n i : Int32} {Q : Option Value → Mem → Prop} (hM : Ms μ σ) (hO : Ok σ) (h : ∀ μ', Ms μ' σ → keepX μ μ' → Q (some (.int (sp_round σ n i))) μ') : Sp iX7_round 3 [.ref 40, .int (n), .int (i)] μ Q := by
  refine Sp.of vX7_round.1 (Nat.le_of_ble_eq_true rfl) ?_
  show WP cX7_round (RX7, 3, (some .int), 3, none) 0 [(0, .ref 40), (1, .int (n)), (2, .int (i))] [] μ Q
  have hn := Ok_n hO
  refine r_aload_n (pc := 0) dX7_round_0 rfl ?_
  refine r_iconst (pc := 1) (v := (nI (0))) dX7_round_1 (by decide) ?_
  refine r_callV (pc := 2) (d' := 2) (k := 40) (As := [.int (nI 0)]) (rest := []) dX7_round_2 vX7_layRounds mX7_124 rfl rfl rfl (Nat.le_of_ble_eq_true rfl) (Nat.le_of_ble_eq_true rfl) ?_
  refine m_lay (μ := μ) hM hO (fun μ1 hG1 hf1 => ?_)
  have hM1 := hf1.Ms hM
  have hk1 := hf1.keep
  have hGl := Gs_len hO
  have hRl := rnds_le hO
  refine r_iload_n (pc := 5) dX7_round_5 rfl ?_
  refine r_iconst (pc := 6) (v := (nI (0))) dX7_round_6 (by decide) ?_
  refine r_aload_n (pc := 7) dX7_round_7 rfl ?_
  refine r_getI (pc := 8) (x := (nI ((Gs σ).length))) dX7_round_8 fX7_117 rfl rfl hG1.2.1 ?_
  refine r_iconst (pc := 11) (v := (nI (1))) dX7_round_11 (by decide) ?_
  refine r_isub (pc := 12) dX7_round_12 ?_
  refine r_callS (pc := 13) (d' := 0) (As := [.int (n), .int (nI 0), .int ((nI ((Gs σ).length)) - (nI (1)))]) (rest := []) dX7_round_13 sX7_in mX7_77 rfl rfl (Nat.le_of_ble_eq_true rfl) (Nat.le_of_ble_eq_true rfl) ?_
  refine c_in ?_
  refine rb_if_ne (pc := 16) (tgt := 21) dX7_round_16 (by decide) (fun c16 => ?_) (fun c16 => ?_)
  · rw [inR_isB (by omega)] at c16
    obtain ⟨nj, hnj, rfl, -⟩ := isB_t c16
    refine r_iload_n (pc := 21) dX7_round_21 rfl ?_
    refine r_iconst (pc := 22) (v := (-1)) dX7_round_22 (by decide) ?_
    refine r_icmp_ne (pc := 23) (tgt := 35) dX7_round_23 (by decide) (fun c23 => ?_) (fun c23 => ?_)
    · refine r_iload_n (pc := 35) dX7_round_35 rfl ?_
      refine r_iconst (pc := 36) (v := (nI (0))) dX7_round_36 (by decide) ?_
      refine r_aload_n (pc := 37) dX7_round_37 rfl ?_
      refine r_getR (pc := 38) (r := 51) dX7_round_38 fX7_40 rfl rfl ?_
      refine r_iload_n (pc := 41) dX7_round_41 rfl ?_
      refine r_iald (pc := 42) (x := (nI ((gi σ (nj)).length))) dX7_round_42 rfl rfl (by omega) (GA_i hG1 (by omega)).1 ?_
      have b1 := gi_b hO (i := nj) (by omega)
      refine r_iconst (pc := 43) (v := (nI (1))) dX7_round_43 (by decide) ?_
      refine r_isub (pc := 44) dX7_round_44 ?_
      refine r_callS (pc := 45) (d' := 0) (As := [.int (i), .int (nI 0), .int ((nI ((gi σ (nj)).length)) - (nI (1)))]) (rest := []) dX7_round_45 sX7_in mX7_77 rfl rfl (Nat.le_of_ble_eq_true rfl) (Nat.le_of_ble_eq_true rfl) ?_
      refine c_in ?_
      refine rb_if_eq (pc := 48) (tgt := 65) dX7_round_48 (by decide) (fun c48 => ?_) (fun c48 => ?_)
      · rw [inR_isB (by omega)] at c48
        refine r_bipush (pc := 65) (v := (-6)) dX7_round_65 (by decide) ?_
        refine r_ireturn (pc := 67) dX7_round_67 rfl (Or.inl rfl) rfl ?_
        have e9 : sp_round σ (nI nj) i = (-6) := by simp [sp_round, c16, c23, c48, bN_nI (show nj < 2 ^ 31 by omega)]
        rw [e9] at h
        exact h _ hM1 hk1
      · rw [inR_isB (by omega)] at c48
        obtain ⟨ij, hij, rfl, -⟩ := isB_t c48
        refine r_aload_n (pc := 51) dX7_round_51 rfl ?_
        refine r_getR (pc := 52) (r := 53) dX7_round_52 fX7_46 rfl rfl ?_
        refine r_bipush (pc := 55) (v := (nI (8))) dX7_round_55 (by decide) ?_
        refine r_iload_n (pc := 57) dX7_round_57 rfl ?_
        refine rn_imul (pc := 58) dX7_round_58 ?_
        refine r_iload_n (pc := 59) dX7_round_59 rfl ?_
        refine rn_iadd (pc := 60) dX7_round_60 ?_
        refine r_iald (pc := 61) (x := (nI ((gi σ nj).getD ij 0))) dX7_round_61 rfl rfl (by omega) ((GA_i hG1 hnj).2.2.1 ij _ (by rw [List.getD_eq_getElem?_getD, List.getElem?_eq_getElem hij]; rfl)) ?_
        refine r_goto (pc := 62) (tgt := 67) dX7_round_62 (by decide) ?_
        refine r_ireturn (pc := 67) dX7_round_67 rfl (Or.inl rfl) rfl ?_
        have e9 : sp_round σ (nI nj) (nI ij) = (nI ((gi σ nj).getD ij 0)) := by simp [sp_round, c16, c23, c48, bN_nI (show nj < 2 ^ 31 by omega), bN_nI (show ij < 2 ^ 31 by omega)]
        rw [e9] at h
        exact h _ hM1 hk1
    · refine r_aload_n (pc := 26) dX7_round_26 rfl ?_
      refine r_getR (pc := 27) (r := 51) dX7_round_27 fX7_40 rfl rfl ?_
      refine r_iload_n (pc := 30) dX7_round_30 rfl ?_
      refine r_iald (pc := 31) (x := (nI ((gi σ (nj)).length))) dX7_round_31 rfl rfl (by omega) (GA_i hG1 (by omega)).1 ?_
      have b2 := gi_b hO (i := nj) (by omega)
      refine r_goto (pc := 32) (tgt := 67) dX7_round_32 (by decide) ?_
      refine r_ireturn (pc := 67) dX7_round_67 rfl (Or.inl rfl) rfl ?_
      subst c23
      have e9 : sp_round σ (nI nj) (-1) = (nI ((gi σ (nj)).length)) := by simp [sp_round, c16, bN_nI (show nj < 2 ^ 31 by omega)]
      rw [e9] at h
      exact h _ hM1 hk1
  · rw [inR_isB (by omega)] at c16
    refine r_iconst (pc := 19) (v := (-1)) dX7_round_19 (by decide) ?_
    refine r_ireturn (pc := 20) dX7_round_20 rfl (Or.inl rfl) rfl ?_
    have e9 : sp_round σ n i = (-1) := by simp [sp_round, c16]
    rw [e9] at h
    exact h _ hM1 hk1

set_option maxRecDepth 20000 in
set_option maxHeartbeats 4000000 in
theorem m_product {μ : Mem} {σ : Sg} {n part : Int32} {Q : Option Value → Mem → Prop} (hM : Ms μ σ) (hO : Ok σ) (h : ∀ μ', Ms μ' σ → keepX μ μ' → Q (some (.long (sp_product σ n part))) μ') : Sp iX7_product 3 [.ref 40, .int (n), .int (part)] μ Q := by
  refine Sp.of vX7_product.1 (Nat.le_of_ble_eq_true rfl) ?_
  show WP cX7_product (RX7, 3, (some .long), 3, none) 0 [(0, .ref 40), (1, .int (n)), (2, .int (part))] [] μ Q
  have hn := Ok_n hO
  refine r_aload_n (pc := 0) dX7_product_0 rfl ?_
  refine r_iconst (pc := 1) (v := (nI (0))) dX7_product_1 (by decide) ?_
  refine r_callV (pc := 2) (d' := 2) (k := 40) (As := [.int (nI 0)]) (rest := []) dX7_product_2 vX7_layRounds mX7_124 rfl rfl rfl (Nat.le_of_ble_eq_true rfl) (Nat.le_of_ble_eq_true rfl) ?_
  refine m_lay (μ := μ) hM hO (fun μ1 hG1 hf1 => ?_)
  have hM1 := hf1.Ms hM
  have hk1 := hf1.keep
  have hGl := Gs_len hO
  have hRl := rnds_le hO
  refine r_iload_n (pc := 5) dX7_product_5 rfl ?_
  refine r_iconst (pc := 6) (v := (nI (0))) dX7_product_6 (by decide) ?_
  refine r_aload_n (pc := 7) dX7_product_7 rfl ?_
  refine r_getI (pc := 8) (x := (nI ((Gs σ).length))) dX7_product_8 fX7_117 rfl rfl hG1.2.1 ?_
  refine r_iconst (pc := 11) (v := (nI (1))) dX7_product_11 (by decide) ?_
  refine r_isub (pc := 12) dX7_product_12 ?_
  refine r_callS (pc := 13) (d' := 0) (As := [.int (n), .int (nI 0), .int ((nI ((Gs σ).length)) - (nI (1)))]) (rest := []) dX7_product_13 sX7_in mX7_77 rfl rfl (Nat.le_of_ble_eq_true rfl) (Nat.le_of_ble_eq_true rfl) ?_
  refine c_in ?_
  refine rb_if_ne (pc := 16) (tgt := 23) dX7_product_16 (by decide) (fun c16 => ?_) (fun c16 => ?_)
  · rw [inR_isB (by omega)] at c16
    obtain ⟨nj, hnj, rfl, -⟩ := isB_t c16
    refine r_iload_n (pc := 23) dX7_product_23 rfl ?_
    refine r_iconst (pc := 24) (v := (nI (0))) dX7_product_24 (by decide) ?_
    refine r_iconst (pc := 25) (v := (nI (1))) dX7_product_25 (by decide) ?_
    refine r_callS (pc := 26) (d' := 0) (As := [.int (part), .int (nI 0), .int (nI 1)]) (rest := []) dX7_product_26 sX7_in mX7_77 rfl rfl (Nat.le_of_ble_eq_true rfl) (Nat.le_of_ble_eq_true rfl) ?_
    refine c_in ?_
    refine rb_if_eq (pc := 29) (tgt := 51) dX7_product_29 (by decide) (fun c29 => ?_) (fun c29 => ?_)
    · refine r_ldc2 (pc := 51) dX7_product_51 kX7_133 ?_
      refine r_lreturn (pc := 54) dX7_product_54 rfl ?_
      have e9 : sp_product σ (nI nj) part = (-1000000000000000002) := by simp [sp_product, c16, c29, bN_nI (show nj < 2 ^ 31 by omega)]
      rw [e9] at h
      exact h _ hM1 hk1
    · obtain ⟨pj, hp1, hp2, rfl⟩ := inR_t (by decide) (by decide) c29
      refine r_aload_n (pc := 32) dX7_product_32 rfl ?_
      refine r_getR (pc := 33) (r := 54) dX7_product_33 fX7_49 rfl rfl ?_
      refine r_iload_n (pc := 36) dX7_product_36 rfl ?_
      refine r_lald (pc := 37) (x := (lN (gU σ (nj)))) dX7_product_37 rfl rfl (by omega) (GA_i hG1 (by omega)).2.2.2.1 ?_
      have b1 := gi_b hO (i := nj) (by omega)
      refine r_aload_n (pc := 38) dX7_product_38 rfl ?_
      refine r_getR (pc := 39) (r := 55) dX7_product_39 fX7_53 rfl rfl ?_
      refine r_iload_n (pc := 42) dX7_product_42 rfl ?_
      refine r_lald (pc := 43) (x := (lN (gL σ (nj)))) dX7_product_43 rfl rfl (by omega) (GA_i hG1 (by omega)).2.2.2.2 ?_
      refine r_iload_n (pc := 44) dX7_product_44 rfl ?_
      refine r_callS (pc := 45) (d' := 0) (As := [.long (lN (gU σ (nj))), .long (lN (gL σ (nj))), .int (nI pj)]) (rest := []) dX7_product_45 sX7_term mX7_129 rfl rfl (Nat.le_of_ble_eq_true rfl) (Nat.le_of_ble_eq_true rfl) ?_
      refine c_term (by omega) (by omega) (by omega) (by omega) ?_
      refine r_goto (pc := 48) (tgt := 54) dX7_product_48 (by decide) ?_
      refine r_lreturn (pc := 54) dX7_product_54 rfl ?_
      have e9 : sp_product σ (nI nj) (nI pj) = (lN (lowT (gU σ (nj)) (gL σ (nj)) (pj))) := by simp [sp_product, c16, c29, bN_nI (show nj < 2 ^ 31 by omega), bN_nI (show pj < 2 ^ 31 by omega)]
      rw [e9] at h
      exact h _ hM1 hk1
  · rw [inR_isB (by omega)] at c16
    refine r_ldc2 (pc := 19) dX7_product_19 kX7_127 ?_
    refine r_lreturn (pc := 22) dX7_product_22 rfl ?_
    have e9 : sp_product σ n part = (-1000000000000000001) := by simp [sp_product, c16]
    rw [e9] at h
    exact h _ hM1 hk1

set_option maxRecDepth 20000 in
set_option maxHeartbeats 4000000 in
theorem m_some {μ : Mem} {σ : Sg} {Q : Option Value → Mem → Prop} (hM : Ms μ σ) (hO : Ok σ) (h : ∀ μ', Ms μ' σ → keepX μ μ' → GA μ' σ (rnds σ) → Q (some (.int (b2i (decide (0 < (Gs σ).length))))) μ') : Sp iX7_someGains 3 [.ref 40] μ Q := by
  refine Sp.of vX7_someGains.1 (Nat.le_of_ble_eq_true rfl) ?_
  show WP cX7_someGains (RX7, 1, (some .boolean), 3, none) 0 [(0, .ref 40)] [] μ Q
  have hn := Ok_n hO
  refine r_aload_n (pc := 0) dX7_someGains_0 rfl ?_
  refine r_iconst (pc := 1) (v := (nI (0))) dX7_someGains_1 (by decide) ?_
  refine r_callV (pc := 2) (d' := 2) (k := 40) (As := [.int (nI 0)]) (rest := []) dX7_someGains_2 vX7_layRounds mX7_124 rfl rfl rfl (Nat.le_of_ble_eq_true rfl) (Nat.le_of_ble_eq_true rfl) ?_
  refine m_lay (μ := μ) hM hO (fun μ1 hG1 hf1 => ?_)
  have hM1 := hf1.Ms hM
  have hk1 := hf1.keep
  have hGl := Gs_len hO
  have hRl := rnds_le hO
  refine r_aload_n (pc := 5) dX7_someGains_5 rfl ?_
  refine r_getI (pc := 6) (x := (nI ((Gs σ).length))) dX7_someGains_6 fX7_117 rfl rfl hG1.2.1 ?_
  refine rn_if_le (pc := 9) (tgt := 16) dX7_someGains_9 (by decide) (by omega) (fun c9 => ?_) (fun c9 => ?_)
  · refine r_iconst (pc := 16) (v := (nI (0))) dX7_someGains_16 (by decide) ?_
    refine r_ireturn (pc := 17) dX7_someGains_17 rfl (Or.inr rfl) rfl ?_
    refine (congrArg (fun z => Q (some (.int z)) μ1) (?_ : b2i (decide (0 < (Gs σ).length)) = (nI (0)))).mp (h _ hM1 hk1 hG1)
    exact b2i_f (decide_eq_false (by omega))
  · refine r_iconst (pc := 12) (v := (nI (1))) dX7_someGains_12 (by decide) ?_
    refine r_goto (pc := 13) (tgt := 17) dX7_someGains_13 (by decide) ?_
    refine r_ireturn (pc := 17) dX7_someGains_17 rfl (Or.inr rfl) rfl ?_
    refine (congrArg (fun z => Q (some (.int z)) μ1) (?_ : b2i (decide (0 < (Gs σ).length)) = (nI (1)))).mp (h _ hM1 hk1 hG1)
    exact b2i_t (decide_eq_true (by omega))

set_option maxRecDepth 20000 in
set_option maxHeartbeats 4000000 in
theorem m_most_l {μ : Mem} {σ : Sg} {Q : Option Value → Mem → Prop} (hO : Ok σ) (hG : GA μ σ (rnds σ)) (h : Q (some (.int (oI (mi (gU σ) (gL σ) (Gs σ).length)))) μ) : ∀ (k : Nat) (n : Nat) (o : Option Nat), n + k = (Gs σ).length → mi (gU σ) (gL σ) n = o → WP cX7_mostOf (RX7, 3, (some .int), 1, none) 5 [(0, .ref 40), (1, .int (oI o)), (2, .int (nI n))] [] μ Q := by
  intro k
  induction k using Nat.strongRecOn with
  | _ k ih =>
    intro n o hnk ho
    have hn := Ok_n hO
    have hGl := Gs_len hO
    refine r_iload_n (pc := 5) dX7_mostOf_5 rfl ?_
    refine r_aload_n (pc := 6) dX7_mostOf_6 rfl ?_
    refine r_getI (pc := 7) (x := (nI ((Gs σ).length))) dX7_mostOf_7 fX7_117 rfl rfl hG.2.1 ?_
    refine rn_icmp_ge (pc := 10) (tgt := 59) dX7_mostOf_10 (by decide) (by omega) (by omega) (fun c10 => ?_) (fun c10 => ?_)
    · refine r_iload_n (pc := 59) dX7_mostOf_59 rfl ?_
      refine r_ireturn (pc := 60) dX7_mostOf_60 rfl (Or.inl rfl) rfl ?_
      obtain rfl : n = (Gs σ).length := by omega
      rw [ho] at h
      exact h
    · refine r_iload_n (pc := 13) dX7_mostOf_13 rfl ?_
      refine r_if_lt (pc := 14) (tgt := 47) dX7_mostOf_14 (by decide) (fun c14 => ?_) (fun c14 => ?_)
      · obtain rfl : o = none := oI_none (fun j hj => by have := mi_lt (ho.trans hj); omega) c14
        refine r_iload_n (pc := 47) dX7_mostOf_47 rfl ?_
        refine r_goto (pc := 48) (tgt := 52) dX7_mostOf_48 (by decide) ?_
        refine r_istore_n (pc := 52) (ls' := [(0, .ref 40), (1, .int (nI n)), (2, .int (nI n))]) dX7_mostOf_52 (Nat.le_of_ble_eq_true rfl) rfl ?_
        refine rn_iinc (pc := 53) (b := 1) (ls' := [(0, .ref 40), (1, .int (nI n)), (2, .int (nI (n + 1)))]) dX7_mostOf_53 rfl (by decide) (Nat.le_of_ble_eq_true rfl) rfl ?_
        refine r_goto (pc := 56) (tgt := 5) dX7_mostOf_56 (by decide) ?_
        exact ih (k - 1) (by omega) (n + 1) (some n) (by omega) (by rw [mi, ho])
      · obtain ⟨j, rfl⟩ := oI_some c14
        have hj := mi_lt ho
        refine r_aload_n (pc := 17) dX7_mostOf_17 rfl ?_
        refine r_getR (pc := 18) (r := 54) dX7_mostOf_18 fX7_49 rfl rfl ?_
        refine r_iload_n (pc := 21) dX7_mostOf_21 rfl ?_
        refine r_lald (pc := 22) (x := (lN (gU σ (n)))) dX7_mostOf_22 rfl rfl (by omega) (GA_i hG (by omega)).2.2.2.1 ?_
        have b1 := gi_b hO (i := n) (by omega)
        refine r_aload_n (pc := 23) dX7_mostOf_23 rfl ?_
        refine r_getR (pc := 24) (r := 55) dX7_mostOf_24 fX7_53 rfl rfl ?_
        refine r_iload_n (pc := 27) dX7_mostOf_27 rfl ?_
        refine r_lald (pc := 28) (x := (lN (gL σ (n)))) dX7_mostOf_28 rfl rfl (by omega) (GA_i hG (by omega)).2.2.2.2 ?_
        refine r_aload_n (pc := 29) dX7_mostOf_29 rfl ?_
        refine r_getR (pc := 30) (r := 54) dX7_mostOf_30 fX7_49 rfl rfl ?_
        refine r_iload_n (pc := 33) dX7_mostOf_33 rfl ?_
        refine r_lald (pc := 34) (x := (lN (gU σ (j)))) dX7_mostOf_34 rfl rfl (by omega) (GA_i hG (by omega)).2.2.2.1 ?_
        have b2 := gi_b hO (i := j) (by omega)
        refine r_aload_n (pc := 35) dX7_mostOf_35 rfl ?_
        refine r_getR (pc := 36) (r := 55) dX7_mostOf_36 fX7_53 rfl rfl ?_
        refine r_iload_n (pc := 39) dX7_mostOf_39 rfl ?_
        refine r_lald (pc := 40) (x := (lN (gL σ (j)))) dX7_mostOf_40 rfl rfl (by omega) (GA_i hG (by omega)).2.2.2.2 ?_
        refine r_callS (pc := 41) (d' := 0) (As := [.long (lN (gU σ (n))), .long (lN (gL σ (n))), .long (lN (gU σ (j))), .long (lN (gL σ (j)))]) (rest := []) dX7_mostOf_41 sX7_held mX7_135 rfl rfl (Nat.le_of_ble_eq_true rfl) (Nat.le_of_ble_eq_true rfl) ?_
        refine c_held (by omega) (by omega) (by omega) (by omega) (by omega) (by omega) ?_
        refine rc_if_le (pc := 44) (tgt := 51) dX7_mostOf_44 (by decide) (fun c44 => ?_) (fun c44 => ?_)
        · refine r_iload_n (pc := 51) dX7_mostOf_51 rfl ?_
          refine r_istore_n (pc := 52) (ls' := [(0, .ref 40), (1, .int (nI j)), (2, .int (nI n))]) dX7_mostOf_52 (Nat.le_of_ble_eq_true rfl) rfl ?_
          refine rn_iinc (pc := 53) (b := 1) (ls' := [(0, .ref 40), (1, .int (nI j)), (2, .int (nI (n + 1)))]) dX7_mostOf_53 rfl (by decide) (Nat.le_of_ble_eq_true rfl) rfl ?_
          refine r_goto (pc := 56) (tgt := 5) dX7_mostOf_56 (by decide) ?_
          exact ih (k - 1) (by omega) (n + 1) (some j) (by omega) (by rw [mi, ho]; exact if_neg (fun q => absurd (of_decide_eq_true q) (Nat.not_lt.mpr c44)))
        · refine r_iload_n (pc := 47) dX7_mostOf_47 rfl ?_
          refine r_goto (pc := 48) (tgt := 52) dX7_mostOf_48 (by decide) ?_
          refine r_istore_n (pc := 52) (ls' := [(0, .ref 40), (1, .int (nI n)), (2, .int (nI n))]) dX7_mostOf_52 (Nat.le_of_ble_eq_true rfl) rfl ?_
          refine rn_iinc (pc := 53) (b := 1) (ls' := [(0, .ref 40), (1, .int (nI n)), (2, .int (nI (n + 1)))]) dX7_mostOf_53 rfl (by decide) (Nat.le_of_ble_eq_true rfl) rfl ?_
          refine r_goto (pc := 56) (tgt := 5) dX7_mostOf_56 (by decide) ?_
          exact ih (k - 1) (by omega) (n + 1) (some n) (by omega) (by rw [mi, ho]; exact if_pos (decide_eq_true c44))

set_option maxRecDepth 20000 in
set_option maxHeartbeats 4000000 in
theorem m_most {μ : Mem} {σ : Sg} {Q : Option Value → Mem → Prop} (hO : Ok σ) (hG : GA μ σ (rnds σ)) (h : Q (some (.int (oI (mi (gU σ) (gL σ) (Gs σ).length)))) μ) : Sp iX7_mostOf 1 [.ref 40] μ Q := by
  refine Sp.of vX7_mostOf.1 (Nat.le_of_ble_eq_true rfl) ?_
  show WP cX7_mostOf (RX7, 3, (some .int), 1, none) 0 [(0, .ref 40)] [] μ Q
  have hn := Ok_n hO
  refine r_bipush (pc := 0) (v := (-6)) dX7_mostOf_0 (by decide) ?_
  refine r_istore_n (pc := 2) (ls' := [(0, .ref 40), (1, .int ((-6)))]) dX7_mostOf_2 (Nat.le_of_ble_eq_true rfl) rfl ?_
  refine r_iconst (pc := 3) (v := (nI (0))) dX7_mostOf_3 (by decide) ?_
  refine r_istore_n (pc := 4) (ls' := [(0, .ref 40), (1, .int ((-6))), (2, .int (nI 0))]) dX7_mostOf_4 (Nat.le_of_ble_eq_true rfl) rfl ?_
  exact m_most_l hO hG h (Gs σ).length 0 none (by omega) rfl

set_option maxRecDepth 20000 in
set_option maxHeartbeats 4000000 in
theorem m_best_l {μ1 : Mem} {σ : Sg} {wj : Nat} {Q : Option Value → Mem → Prop} (hO : Ok σ) (hG1 : GA μ1 σ (rnds σ)) (hw : wj ≤ 1) (h : Q (some (.int (if wj = 0 then oI (mi (gU σ) (gL σ) (Gs σ).length) else oI (si (fun i => (gi σ i).length) (Gs σ).length)))) μ1) : ∀ (k : Nat) (n : Nat) (o : Option Nat), n + k = (Gs σ).length → si (fun i => (gi σ i).length) n = o → WP cX7_best (RX7, 4, (some .int), 3, none) 22 [(0, .ref 40), (1, .int (nI wj)), (2, .int (oI o)), (3, .int (nI n))] [] μ1 Q := by
  intro k
  induction k using Nat.strongRecOn with
  | _ k ih =>
    intro n o hnk ho
    have hn := Ok_n hO
    have hGl := Gs_len hO
    refine r_iload_n (pc := 22) dX7_best_22 rfl ?_
    refine r_aload_n (pc := 23) dX7_best_23 rfl ?_
    refine r_getI (pc := 24) (x := (nI ((Gs σ).length))) dX7_best_24 fX7_117 rfl rfl hG1.2.1 ?_
    refine rn_icmp_ge (pc := 27) (tgt := 61) dX7_best_27 (by decide) (by omega) (by omega) (fun c27 => ?_) (fun c27 => ?_)
    · obtain rfl : n = (Gs σ).length := by omega
      refine r_iload_n (pc := 61) dX7_best_61 rfl ?_
      refine rn_if_ne (pc := 62) (tgt := 72) dX7_best_62 (by decide) (by omega) (fun c62 => ?_) (fun c62 => ?_)
      · refine r_iload_n (pc := 72) dX7_best_72 rfl ?_
        refine r_ireturn (pc := 73) dX7_best_73 rfl (Or.inl rfl) rfl ?_
        refine (congrArg (fun z => Q (some (.int z)) μ1) (?_ : (if wj = 0 then oI (mi (gU σ) (gL σ) (Gs σ).length) else oI (si (fun i => (gi σ i).length) (Gs σ).length)) = oI o)).mp h
        rw [if_neg c62, ho]
      · refine r_aload_n (pc := 65) dX7_best_65 rfl ?_
        refine r_callV (pc := 66) (d' := 1) (k := 40) (As := []) (rest := []) dX7_best_66 vX7_mostOf mX7_139 rfl rfl rfl (Nat.le_of_ble_eq_true rfl) (Nat.le_of_ble_eq_true rfl) ?_
        refine m_most hO hG1 ?_
        refine r_goto (pc := 69) (tgt := 73) dX7_best_69 (by decide) ?_
        refine r_ireturn (pc := 73) dX7_best_73 rfl (Or.inl rfl) rfl ?_
        refine (congrArg (fun z => Q (some (.int z)) μ1) (?_ : (if wj = 0 then oI (mi (gU σ) (gL σ) (Gs σ).length) else oI (si (fun i => (gi σ i).length) (Gs σ).length)) = oI (mi (gU σ) (gL σ) (Gs σ).length))).mp h
        exact if_pos c62
    · refine r_iload_n (pc := 30) dX7_best_30 rfl ?_
      refine r_if_lt (pc := 31) (tgt := 49) dX7_best_31 (by decide) (fun c31 => ?_) (fun c31 => ?_)
      · obtain rfl : o = none := oI_none (fun j hj => by have := si_lt (ho.trans hj); omega) c31
        refine r_iload_n (pc := 49) dX7_best_49 rfl ?_
        refine r_goto (pc := 50) (tgt := 54) dX7_best_50 (by decide) ?_
        refine r_istore_n (pc := 54) (ls' := [(0, .ref 40), (1, .int (nI wj)), (2, .int (nI n)), (3, .int (nI n))]) dX7_best_54 (Nat.le_of_ble_eq_true rfl) rfl ?_
        refine rn_iinc (pc := 55) (b := 1) (ls' := [(0, .ref 40), (1, .int (nI wj)), (2, .int (nI n)), (3, .int (nI (n + 1)))]) dX7_best_55 rfl (by decide) (Nat.le_of_ble_eq_true rfl) rfl ?_
        refine r_goto (pc := 58) (tgt := 22) dX7_best_58 (by decide) ?_
        exact ih (k - 1) (by omega) (n + 1) (some n) (by omega) (by rw [si, ho])
      · obtain ⟨j, rfl⟩ := oI_some c31
        have hj := si_lt ho
        refine r_aload_n (pc := 34) dX7_best_34 rfl ?_
        refine r_getR (pc := 35) (r := 51) dX7_best_35 fX7_40 rfl rfl ?_
        refine r_iload_n (pc := 38) dX7_best_38 rfl ?_
        refine r_iald (pc := 39) (x := (nI ((gi σ (n)).length))) dX7_best_39 rfl rfl (by omega) (GA_i hG1 (by omega)).1 ?_
        have b1 := gi_b hO (i := n) (by omega)
        refine r_aload_n (pc := 40) dX7_best_40 rfl ?_
        refine r_getR (pc := 41) (r := 51) dX7_best_41 fX7_40 rfl rfl ?_
        refine r_iload_n (pc := 44) dX7_best_44 rfl ?_
        refine r_iald (pc := 45) (x := (nI ((gi σ (j)).length))) dX7_best_45 rfl rfl (by omega) (GA_i hG1 (by omega)).1 ?_
        have b2 := gi_b hO (i := j) (by omega)
        refine rn_icmp_ge (pc := 46) (tgt := 53) dX7_best_46 (by decide) (by omega) (by omega) (fun c46 => ?_) (fun c46 => ?_)
        · refine r_iload_n (pc := 53) dX7_best_53 rfl ?_
          refine r_istore_n (pc := 54) (ls' := [(0, .ref 40), (1, .int (nI wj)), (2, .int (nI j)), (3, .int (nI n))]) dX7_best_54 (Nat.le_of_ble_eq_true rfl) rfl ?_
          refine rn_iinc (pc := 55) (b := 1) (ls' := [(0, .ref 40), (1, .int (nI wj)), (2, .int (nI j)), (3, .int (nI (n + 1)))]) dX7_best_55 rfl (by decide) (Nat.le_of_ble_eq_true rfl) rfl ?_
          refine r_goto (pc := 58) (tgt := 22) dX7_best_58 (by decide) ?_
          exact ih (k - 1) (by omega) (n + 1) (some j) (by omega) (by rw [si, ho]; exact if_neg (Nat.not_lt.mpr c46))
        · refine r_iload_n (pc := 49) dX7_best_49 rfl ?_
          refine r_goto (pc := 50) (tgt := 54) dX7_best_50 (by decide) ?_
          refine r_istore_n (pc := 54) (ls' := [(0, .ref 40), (1, .int (nI wj)), (2, .int (nI n)), (3, .int (nI n))]) dX7_best_54 (Nat.le_of_ble_eq_true rfl) rfl ?_
          refine rn_iinc (pc := 55) (b := 1) (ls' := [(0, .ref 40), (1, .int (nI wj)), (2, .int (nI n)), (3, .int (nI (n + 1)))]) dX7_best_55 rfl (by decide) (Nat.le_of_ble_eq_true rfl) rfl ?_
          refine r_goto (pc := 58) (tgt := 22) dX7_best_58 (by decide) ?_
          exact ih (k - 1) (by omega) (n + 1) (some n) (by omega) (by rw [si, ho]; exact if_pos c46)

set_option maxRecDepth 20000 in
set_option maxHeartbeats 4000000 in
theorem m_best {μ : Mem} {σ : Sg} {w : Int32} {Q : Option Value → Mem → Prop} (hM : Ms μ σ) (hO : Ok σ) (h : ∀ μ', Ms μ' σ → keepX μ μ' → Q (some (.int (sp_best σ w))) μ') : Sp iX7_best 3 [.ref 40, .int (w)] μ Q := by
  refine Sp.of vX7_best.1 (Nat.le_of_ble_eq_true rfl) ?_
  show WP cX7_best (RX7, 4, (some .int), 3, none) 0 [(0, .ref 40), (1, .int (w))] [] μ Q
  have hn := Ok_n hO
  refine r_iload_n (pc := 0) dX7_best_0 rfl ?_
  refine r_iconst (pc := 1) (v := (nI (0))) dX7_best_1 (by decide) ?_
  refine r_iconst (pc := 2) (v := (nI (1))) dX7_best_2 (by decide) ?_
  refine r_callS (pc := 3) (d' := 0) (As := [.int (w), .int (nI 0), .int (nI 1)]) (rest := []) dX7_best_3 sX7_in mX7_77 rfl rfl (Nat.le_of_ble_eq_true rfl) (Nat.le_of_ble_eq_true rfl) ?_
  refine c_in ?_
  refine rb_if_ne (pc := 6) (tgt := 12) dX7_best_6 (by decide) (fun c6 => ?_) (fun c6 => ?_)
  · obtain ⟨wj, hw1, hw2, rfl⟩ := inR_t (by decide) (by decide) c6
    refine r_aload_n (pc := 12) dX7_best_12 rfl ?_
    refine r_iconst (pc := 13) (v := (nI (0))) dX7_best_13 (by decide) ?_
    refine r_callV (pc := 14) (d' := 2) (k := 40) (As := [.int (nI 0)]) (rest := []) dX7_best_14 vX7_layRounds mX7_124 rfl rfl rfl (Nat.le_of_ble_eq_true rfl) (Nat.le_of_ble_eq_true rfl) ?_
    refine m_lay (μ := μ) hM hO (fun μ1 hG1 hf1 => ?_)
    have hM1 := hf1.Ms hM
    have hk1 := hf1.keep
    have hGl := Gs_len hO
    have hRl := rnds_le hO
    refine r_bipush (pc := 17) (v := (-6)) dX7_best_17 (by decide) ?_
    refine r_istore_n (pc := 19) (ls' := [(0, .ref 40), (1, .int (nI wj)), (2, .int ((-6)))]) dX7_best_19 (Nat.le_of_ble_eq_true rfl) rfl ?_
    refine r_iconst (pc := 20) (v := (nI (0))) dX7_best_20 (by decide) ?_
    refine r_istore_n (pc := 21) (ls' := [(0, .ref 40), (1, .int (nI wj)), (2, .int ((-6))), (3, .int (nI 0))]) dX7_best_21 (Nat.le_of_ble_eq_true rfl) rfl ?_
    refine m_best_l hO hG1 hw2 ?_ (Gs σ).length 0 none (by omega) rfl
    have e9 : sp_best σ (nI wj) = (if wj = 0 then oI (mi (gU σ) (gL σ) (Gs σ).length) else oI (si (fun i => (gi σ i).length) (Gs σ).length)) := by
      rcases (show wj = 0 ∨ wj = 1 by omega) with rfl | rfl <;> simp (decide := true) [sp_best]
    rw [← e9]
    exact h _ hM1 hk1
  · refine r_bipush (pc := 9) (v := (-2)) dX7_best_9 (by decide) ?_
    refine r_ireturn (pc := 11) dX7_best_11 rfl (Or.inl rfl) rfl ?_
    have e9 : sp_best σ w = -2 := by simp [sp_best, c6]
    rw [e9] at h
    exact h _ hM keepX.rf

set_option maxRecDepth 20000 in
set_option maxHeartbeats 4000000 in
theorem m_thr_l {μ1 : Mem} {σ : Sg} {bj : Nat} {Q : Option Value → Mem → Prop} (hO : Ok σ) (hG1 : GA μ1 σ (rnds σ)) (hb : bj < 12) (h : Q (some (.int (nI (thrN (gB σ) bj (Gs σ).length)))) μ1) : ∀ (k : Nat) (n : Nat), n + k = (Gs σ).length → WP cX7_through (RX7, 4, (some .int), 3, none) 19 [(0, .ref 40), (1, .int (nI bj)), (2, .int (nI (thrN (gB σ) bj n))), (3, .int (nI n))] [] μ1 Q := by
  intro k
  induction k using Nat.strongRecOn with
  | _ k ih =>
    intro n hnk
    have hn := Ok_n hO
    have hGl := Gs_len hO
    refine r_iload_n (pc := 19) dX7_through_19 rfl ?_
    refine r_aload_n (pc := 20) dX7_through_20 rfl ?_
    refine r_getI (pc := 21) (x := (nI ((Gs σ).length))) dX7_through_21 fX7_117 rfl rfl hG1.2.1 ?_
    refine rn_icmp_ge (pc := 24) (tgt := 46) dX7_through_24 (by decide) (by omega) (by omega) (fun c24 => ?_) (fun c24 => ?_)
    · obtain rfl : n = (Gs σ).length := by omega
      refine r_iload_n (pc := 46) dX7_through_46 rfl ?_
      refine r_ireturn (pc := 47) dX7_through_47 rfl (Or.inl rfl) rfl ?_
      exact h
    · refine r_iload_n (pc := 27) dX7_through_27 rfl ?_
      refine r_aload_n (pc := 28) dX7_through_28 rfl ?_
      refine r_getR (pc := 29) (r := 52) dX7_through_29 fX7_43 rfl rfl ?_
      refine r_iload_n (pc := 32) dX7_through_32 rfl ?_
      refine r_iald (pc := 33) (x := (nI (gB σ (n)))) dX7_through_33 rfl rfl (by omega) (GA_i hG1 (by omega)).2.1 ?_
      have b1 := gi_b hO (i := n) (by omega)
      refine r_iload_n (pc := 34) dX7_through_34 rfl ?_
      refine r_ishr (pc := 35) dX7_through_35 ?_
      refine r_eqi (shrN (by omega) (by omega)) ?_
      refine r_iconst (pc := 36) (v := (nI (1))) dX7_through_36 (by decide) ?_
      refine r_iand (pc := 37) dX7_through_37 ?_
      refine r_eqi (and1 (Nat.lt_of_le_of_lt (Nat.div_le_self _ _) (by omega))) ?_
      refine rn_iadd (pc := 38) dX7_through_38 ?_
      refine r_istore_n (pc := 39) (ls' := [(0, .ref 40), (1, .int (nI bj)), (2, .int (nI ((thrN (gB σ) bj n) + (((gB σ (n)) / 2 ^ (bj)) % 2)))), (3, .int (nI n))]) dX7_through_39 (Nat.le_of_ble_eq_true rfl) rfl ?_
      refine rn_iinc (pc := 40) (b := 1) (ls' := [(0, .ref 40), (1, .int (nI bj)), (2, .int (nI ((thrN (gB σ) bj n) + (((gB σ (n)) / 2 ^ (bj)) % 2)))), (3, .int (nI (n + 1)))]) dX7_through_40 rfl (by decide) (Nat.le_of_ble_eq_true rfl) rfl ?_
      refine r_goto (pc := 43) (tgt := 19) dX7_through_43 (by decide) ?_
      exact ih (k - 1) (by omega) (n + 1) (by omega)

set_option maxRecDepth 20000 in
set_option maxHeartbeats 4000000 in
theorem m_through {μ : Mem} {σ : Sg} {b : Int32} {Q : Option Value → Mem → Prop} (hM : Ms μ σ) (hO : Ok σ) (h : ∀ μ', Ms μ' σ → keepX μ μ' → Q (some (.int (sp_through σ b))) μ') : Sp iX7_through 3 [.ref 40, .int (b)] μ Q := by
  refine Sp.of vX7_through.1 (Nat.le_of_ble_eq_true rfl) ?_
  show WP cX7_through (RX7, 4, (some .int), 3, none) 0 [(0, .ref 40), (1, .int (b))] [] μ Q
  have hn := Ok_n hO
  refine r_aload_n (pc := 0) dX7_through_0 rfl ?_
  refine r_iload_n (pc := 1) dX7_through_1 rfl ?_
  refine r_callV (pc := 2) (d' := 1) (k := 40) (As := [.int (b)]) (rest := []) dX7_through_2 vX7_isBoard mX7_94 rfl rfl rfl (Nat.le_of_ble_eq_true rfl) (Nat.le_of_ble_eq_true rfl) ?_
  refine c_mboard hM hO ?_
  refine rb_if_ne (pc := 5) (tgt := 10) dX7_through_5 (by decide) (fun c5 => ?_) (fun c5 => ?_)
  · obtain ⟨bj, hbj, rfl, -⟩ := isB_t c5
    refine r_aload_n (pc := 10) dX7_through_10 rfl ?_
    refine r_iconst (pc := 11) (v := (nI (0))) dX7_through_11 (by decide) ?_
    refine r_callV (pc := 12) (d' := 2) (k := 40) (As := [.int (nI 0)]) (rest := []) dX7_through_12 vX7_layRounds mX7_124 rfl rfl rfl (Nat.le_of_ble_eq_true rfl) (Nat.le_of_ble_eq_true rfl) ?_
    refine m_lay (μ := μ) hM hO (fun μ1 hG1 hf1 => ?_)
    have hM1 := hf1.Ms hM
    have hk1 := hf1.keep
    have hGl := Gs_len hO
    have hRl := rnds_le hO
    refine r_iconst (pc := 15) (v := (nI (0))) dX7_through_15 (by decide) ?_
    refine r_istore_n (pc := 16) (ls' := [(0, .ref 40), (1, .int (nI bj)), (2, .int (nI 0))]) dX7_through_16 (Nat.le_of_ble_eq_true rfl) rfl ?_
    refine r_iconst (pc := 17) (v := (nI (0))) dX7_through_17 (by decide) ?_
    refine r_istore_n (pc := 18) (ls' := [(0, .ref 40), (1, .int (nI bj)), (2, .int (nI 0)), (3, .int (nI 0))]) dX7_through_18 (Nat.le_of_ble_eq_true rfl) rfl ?_
    have e9 : sp_through σ (nI bj) = nI (thrN (gB σ) bj (Gs σ).length) := by simp [sp_through, c5, bN_nI (show bj < 2 ^ 31 by omega)]
    rw [e9] at h
    exact m_thr_l hO hG1 (by omega) (h _ hM1 hk1) (Gs σ).length 0 (by omega)
  · refine r_iconst (pc := 8) (v := (-1)) dX7_through_8 (by decide) ?_
    refine r_ireturn (pc := 9) dX7_through_9 rfl (Or.inl rfl) rfl ?_
    have e9 : sp_through σ b = -1 := by simp [sp_through, c5]
    rw [e9] at h
    exact h _ hM keepX.rf

set_option maxRecDepth 20000 in
set_option maxHeartbeats 4000000 in
theorem m_bla_l {μ1 : Mem} {σ : Sg} {Q : Option Value → Mem → Prop} (hO : Ok σ) (hG1 : GA μ1 σ (rnds σ)) (h : Q (some (.int (sp_blamed σ))) μ1) : ∀ (k : Nat) (n y : Nat), n + k = (Gs σ).length → y = (if (Gs σ).length = 0 then 0 else blN (gB σ) n) → WP cX7_blamed (RX7, 3, (some .int), 3, none) 25 [(0, .ref 40), (1, .int (nI y)), (2, .int (nI n))] [] μ1 Q := by
  intro k
  induction k using Nat.strongRecOn with
  | _ k ih =>
    intro n y hnk hy
    have hn := Ok_n hO
    have hGl := Gs_len hO
    refine r_iload_n (pc := 25) dX7_blamed_25 rfl ?_
    refine r_aload_n (pc := 26) dX7_blamed_26 rfl ?_
    refine r_getI (pc := 27) (x := (nI ((Gs σ).length))) dX7_blamed_27 fX7_117 rfl rfl hG1.2.1 ?_
    refine rn_icmp_ge (pc := 30) (tgt := 48) dX7_blamed_30 (by decide) (by omega) (by omega) (fun c30 => ?_) (fun c30 => ?_)
    · refine r_iload_n (pc := 48) dX7_blamed_48 rfl ?_
      refine r_ireturn (pc := 49) dX7_blamed_49 rfl (Or.inl rfl) rfl ?_
      obtain rfl : n = (Gs σ).length := by omega
      refine (congrArg (fun z => Q (some (.int z)) μ1) (?_ : sp_blamed σ = nI y)).mp h
      unfold sp_blamed
      rw [hy]
      split
      · rfl
      · rfl
    · refine r_iload_n (pc := 33) dX7_blamed_33 rfl ?_
      refine r_aload_n (pc := 34) dX7_blamed_34 rfl ?_
      refine r_getR (pc := 35) (r := 52) dX7_blamed_35 fX7_43 rfl rfl ?_
      refine r_iload_n (pc := 38) dX7_blamed_38 rfl ?_
      refine r_iald (pc := 39) (x := (nI (gB σ (n)))) dX7_blamed_39 rfl rfl (by omega) (GA_i hG1 (by omega)).2.1 ?_
      have b1 := gi_b hO (i := n) (by omega)
      refine r_iand (pc := 40) dX7_blamed_40 ?_
      refine r_eqi (nI_and _ _) ?_
      refine r_istore_n (pc := 41) (ls' := [(0, .ref 40), (1, .int (nI ((y) &&& (gB σ (n))))), (2, .int (nI n))]) dX7_blamed_41 (Nat.le_of_ble_eq_true rfl) rfl ?_
      refine rn_iinc (pc := 42) (b := 1) (ls' := [(0, .ref 40), (1, .int (nI ((y) &&& (gB σ (n))))), (2, .int (nI (n + 1)))]) dX7_blamed_42 rfl (by decide) (Nat.le_of_ble_eq_true rfl) rfl ?_
      refine r_goto (pc := 45) (tgt := 25) dX7_blamed_45 (by decide) ?_
      exact ih (k - 1) (by omega) (n + 1) _ (by omega) (by rw [hy]; rw [if_neg (by omega), if_neg (by omega)]; rfl)

set_option maxRecDepth 20000 in
set_option maxHeartbeats 4000000 in
theorem m_blamed {μ : Mem} {σ : Sg} {Q : Option Value → Mem → Prop} (hM : Ms μ σ) (hO : Ok σ) (h : ∀ μ', Ms μ' σ → keepX μ μ' → Q (some (.int (sp_blamed σ))) μ') : Sp iX7_blamed 3 [.ref 40] μ Q := by
  refine Sp.of vX7_blamed.1 (Nat.le_of_ble_eq_true rfl) ?_
  show WP cX7_blamed (RX7, 3, (some .int), 3, none) 0 [(0, .ref 40)] [] μ Q
  have hn := Ok_n hO
  refine r_aload_n (pc := 0) dX7_blamed_0 rfl ?_
  refine r_iconst (pc := 1) (v := (nI (0))) dX7_blamed_1 (by decide) ?_
  refine r_callV (pc := 2) (d' := 2) (k := 40) (As := [.int (nI 0)]) (rest := []) dX7_blamed_2 vX7_layRounds mX7_124 rfl rfl rfl (Nat.le_of_ble_eq_true rfl) (Nat.le_of_ble_eq_true rfl) ?_
  refine m_lay (μ := μ) hM hO (fun μ1 hG1 hf1 => ?_)
  have hM1 := hf1.Ms hM
  have hk1 := hf1.keep
  have hGl := Gs_len hO
  have hRl := rnds_le hO
  refine r_aload_n (pc := 5) dX7_blamed_5 rfl ?_
  refine r_getI (pc := 6) (x := (nI ((Gs σ).length))) dX7_blamed_6 fX7_117 rfl rfl hG1.2.1 ?_
  refine rn_if_ne (pc := 9) (tgt := 16) dX7_blamed_9 (by decide) (by omega) (fun c9 => ?_) (fun c9 => ?_)
  · refine r_aload_n (pc := 16) dX7_blamed_16 rfl ?_
    refine r_getR (pc := 17) (r := 52) dX7_blamed_17 fX7_43 rfl rfl ?_
    refine r_iconst (pc := 20) (v := (nI (0))) dX7_blamed_20 (by decide) ?_
    refine r_iald (pc := 21) (x := (nI (gB σ (0)))) dX7_blamed_21 rfl rfl (by omega) (GA_i hG1 (by omega)).2.1 ?_
    have b1 := gi_b hO (i := 0) (by omega)
    refine r_istore_n (pc := 22) (ls' := [(0, .ref 40), (1, .int (nI (gB σ (0))))]) dX7_blamed_22 (Nat.le_of_ble_eq_true rfl) rfl ?_
    refine r_iconst (pc := 23) (v := (nI (0))) dX7_blamed_23 (by decide) ?_
    refine r_istore_n (pc := 24) (ls' := [(0, .ref 40), (1, .int (nI (gB σ (0)))), (2, .int (nI 0))]) dX7_blamed_24 (Nat.le_of_ble_eq_true rfl) rfl ?_
    exact m_bla_l hO hG1 (h _ hM1 hk1) (Gs σ).length 0 (gB σ 0) (by omega) (by rw [if_neg c9]; rfl)
  · refine r_iconst (pc := 12) (v := (nI (0))) dX7_blamed_12 (by decide) ?_
    refine r_goto (pc := 13) (tgt := 22) dX7_blamed_13 (by decide) ?_
    refine r_istore_n (pc := 22) (ls' := [(0, .ref 40), (1, .int (nI 0))]) dX7_blamed_22 (Nat.le_of_ble_eq_true rfl) rfl ?_
    refine r_iconst (pc := 23) (v := (nI (0))) dX7_blamed_23 (by decide) ?_
    refine r_istore_n (pc := 24) (ls' := [(0, .ref 40), (1, .int (nI 0)), (2, .int (nI 0))]) dX7_blamed_24 (Nat.le_of_ble_eq_true rfl) rfl ?_
    exact m_bla_l hO hG1 (h _ hM1 hk1) (Gs σ).length 0 0 (by omega) (by rw [if_pos c9])

set_option maxRecDepth 20000 in
set_option maxHeartbeats 4000000 in
theorem c_bits_l {μ : Mem} {x : Nat} {Q : Option Value → Mem → Prop} (hx : x < 2 ^ 31) (h : Q (some (.int (nI (pc12 x)))) μ) : ∀ (k : Nat) (n : Nat), n + k = 12 → WP cX7_bits (RX7, 3, (some .int), 0, none) 4 [(0, .int (nI x)), (1, .int (nI (cnt x.testBit n))), (2, .int (nI n))] [] μ Q := by
  intro k
  induction k using Nat.strongRecOn with
  | _ k ih =>
    intro n hnk
    refine r_iload_n (pc := 4) dX7_bits_4 rfl ?_
    refine r_bipush (pc := 5) (v := (nI (12))) dX7_bits_5 (by decide) ?_
    refine rn_icmp_ge (pc := 7) (tgt := 24) dX7_bits_7 (by decide) (by omega) (by omega) (fun c7 => ?_) (fun c7 => ?_)
    · obtain rfl : n = 12 := by omega
      refine r_iload_n (pc := 24) dX7_bits_24 rfl ?_
      refine r_ireturn (pc := 25) dX7_bits_25 rfl (Or.inl rfl) rfl ?_
      exact h
    · refine r_iload_n (pc := 10) dX7_bits_10 rfl ?_
      refine r_iload_n (pc := 11) dX7_bits_11 rfl ?_
      refine r_iload_n (pc := 12) dX7_bits_12 rfl ?_
      refine r_ishr (pc := 13) dX7_bits_13 ?_
      refine r_eqi (shrN (by omega) (by omega)) ?_
      refine r_iconst (pc := 14) (v := (nI (1))) dX7_bits_14 (by decide) ?_
      refine r_iand (pc := 15) dX7_bits_15 ?_
      refine r_eqi (and1 (Nat.lt_of_le_of_lt (Nat.div_le_self _ _) (by omega))) ?_
      refine rn_iadd (pc := 16) dX7_bits_16 ?_
      refine r_istore_n (pc := 17) (ls' := [(0, .int (nI x)), (1, .int (nI ((cnt x.testBit n) + (((x) / 2 ^ (n)) % 2)))), (2, .int (nI n))]) dX7_bits_17 (Nat.le_of_ble_eq_true rfl) rfl ?_
      refine rn_iinc (pc := 18) (b := 1) (ls' := [(0, .int (nI x)), (1, .int (nI ((cnt x.testBit n) + (((x) / 2 ^ (n)) % 2)))), (2, .int (nI (n + 1)))]) dX7_bits_18 rfl (by decide) (Nat.le_of_ble_eq_true rfl) rfl ?_
      refine r_goto (pc := 21) (tgt := 4) dX7_bits_21 (by decide) ?_
      rw [show (cnt x.testBit n) + (((x) / 2 ^ (n)) % 2) = cnt x.testBit (n + 1) from (cnt_bit x n).symm]
      exact ih (k - 1) (by omega) (n + 1) (by omega)

set_option maxRecDepth 20000 in
set_option maxHeartbeats 4000000 in
theorem c_bits {μ : Mem} {x : Nat} {Q : Option Value → Mem → Prop} (hx : x < 2 ^ 31) (h : Q (some (.int (nI (pc12 x)))) μ) : Sp iX7_bits 0 [.int (nI x)] μ Q := by
  refine Sp.of sX7_bits.1 (Nat.le_of_ble_eq_true rfl) ?_
  show WP cX7_bits (RX7, 3, (some .int), 0, none) 0 [(0, .int (nI x))] [] μ Q
  refine r_iconst (pc := 0) (v := (nI (0))) dX7_bits_0 (by decide) ?_
  refine r_istore_n (pc := 1) (ls' := [(0, .int (nI x)), (1, .int (nI 0))]) dX7_bits_1 (Nat.le_of_ble_eq_true rfl) rfl ?_
  refine r_iconst (pc := 2) (v := (nI (0))) dX7_bits_2 (by decide) ?_
  refine r_istore_n (pc := 3) (ls' := [(0, .int (nI x)), (1, .int (nI 0)), (2, .int (nI 0))]) dX7_bits_3 (Nat.le_of_ble_eq_true rfl) rfl ?_
  exact c_bits_l hx h 12 0 (by omega)
