/-! THE CLASS'S CALLS ON ROUNDS -/
set_option maxRecDepth 20000 in
set_option maxHeartbeats 4000000 in
theorem x_rounds {μ : Mem} {σ : Sg} {w : Int32} {Q : Option Value → Mem → Prop} (hI : XI μ σ) (hO : Ok σ) (h : ∀ μ', XI μ' σ → keepM μ μ' → Q (some (.int (sp_rounds σ w))) μ') : Sp iX6_rounds 14 [.ref 0, .int (w)] μ Q := by
  refine Sp.of vX6_rounds.1 (Nat.le_of_ble_eq_true rfl) ?_
  show WP cX6_rounds (RX6, 2, (some .int), 14, none) 0 [(0, .ref 0), (1, .int (w))] [] μ Q
  have hn := Ok_n hO
  refine r_iload_n (pc := 0) dX6_rounds_0 rfl ?_
  refine r_iconst (pc := 1) (v := (nI (0))) dX6_rounds_1 (by decide) ?_
  refine r_iconst (pc := 2) (v := (nI (1))) dX6_rounds_2 (by decide) ?_
  refine r_callS (pc := 3) (d' := 0) (As := [.int (w), .int (nI 0), .int (nI 1)]) (rest := []) dX6_rounds_3 sX6_isWithin mX6_59 rfl rfl (Nat.le_of_ble_eq_true rfl) (Nat.le_of_ble_eq_true rfl) ?_
  refine c_within ?_
  refine rb_if_ne (pc := 6) (tgt := 12) dX6_rounds_6 (by decide) (fun c6 => ?_) (fun c6 => ?_)
  · obtain ⟨wj, hw1, hw2, rfl⟩ := inR_t (by decide) (by decide) c6
    rcases (show wj = 0 ∨ wj = 1 by omega) with rfl | rfl
    · refine r_aload_n (pc := 12) dX6_rounds_12 rfl ?_
      refine r_callV (pc := 13) (d' := 13) (k := 0) (As := []) (rest := []) dX6_rounds_13 vX6_lookAround mX6_130 rfl rfl rfl (Nat.le_of_ble_eq_true rfl) (Nat.le_of_ble_eq_true rfl) ?_
      refine x_look hI hO (fun μ1 hF1 hk1 => ?_)
      have hX1 := hF1.1.1
      have hGl := Gs_len hO
      have hRl := rnds_le hO
      refine r_iload_n (pc := 16) dX6_rounds_16 rfl ?_
      refine rn_if_ne (pc := 17) (tgt := 30) dX6_rounds_17 (by decide) (by decide) (fun q => absurd q (by decide)) (fun _ => ?_)
      refine r_aload_n (pc := 20) dX6_rounds_20 rfl ?_
      refine r_getR (pc := 21) (r := 12) dX6_rounds_21 fX6_26 rfl rfl ?_
      refine r_getI (pc := 24) (x := (nI ((rnds σ).length))) dX6_rounds_24 fX6_133 rfl rfl hF1.2.1 ?_
      refine r_goto (pc := 27) (tgt := 37) dX6_rounds_27 (by decide) ?_
      refine r_ireturn (pc := 37) dX6_rounds_37 rfl (Or.inl rfl) rfl ?_
      have e9 : sp_rounds σ (nI (0)) = (nI ((rnds σ).length)) := by simp (decide := true) [sp_rounds]
      rw [e9] at h
      exact h _ hF1.1 hk1
    · refine r_aload_n (pc := 12) dX6_rounds_12 rfl ?_
      refine r_callV (pc := 13) (d' := 13) (k := 0) (As := []) (rest := []) dX6_rounds_13 vX6_lookAround mX6_130 rfl rfl rfl (Nat.le_of_ble_eq_true rfl) (Nat.le_of_ble_eq_true rfl) ?_
      refine x_look hI hO (fun μ1 hF1 hk1 => ?_)
      have hX1 := hF1.1.1
      have hGl := Gs_len hO
      have hRl := rnds_le hO
      refine r_iload_n (pc := 16) dX6_rounds_16 rfl ?_
      refine rn_if_ne (pc := 17) (tgt := 30) dX6_rounds_17 (by decide) (by decide) (fun _ => ?_) (fun q => absurd q (by decide))
      refine r_aload_n (pc := 30) dX6_rounds_30 rfl ?_
      refine r_getR (pc := 31) (r := 12) dX6_rounds_31 fX6_26 rfl rfl ?_
      refine r_getI (pc := 34) (x := (nI ((Gs σ).length))) dX6_rounds_34 fX6_134 rfl rfl (FO_n hF1.2) ?_
      refine r_ireturn (pc := 37) dX6_rounds_37 rfl (Or.inl rfl) rfl ?_
      have e9 : sp_rounds σ (nI (1)) = (nI ((Gs σ).length)) := by simp (decide := true) [sp_rounds]
      rw [e9] at h
      exact h _ hF1.1 hk1
  · refine r_bipush (pc := 9) (v := (-2)) dX6_rounds_9 (by decide) ?_
    refine r_ireturn (pc := 11) dX6_rounds_11 rfl (Or.inl rfl) rfl ?_
    have e9 : sp_rounds σ w = -2 := by simp [sp_rounds, c6]
    rw [e9] at h
    exact h _ hI keepM.rf

set_option maxRecDepth 20000 in
set_option maxHeartbeats 4000000 in
theorem x_hasg {μ1 : Mem} {σ : Sg} {n : Int32} {Q : Option Value → Mem → Prop} (hF1 : XF μ1 σ) (hO : Ok σ) (h : Q (some (.int (b2i (isB n (Gs σ).length)))) μ1) : Sp iX2_hasGainer 0 [.ref 12, .int (n)] μ1 Q := by
  refine Sp.of vX2_hasGainer.1 (Nat.le_of_ble_eq_true rfl) ?_
  show WP cX2_hasGainer (RX2, 2, (some .boolean), 0, none) 0 [(0, .ref 12), (1, .int (n))] [] μ1 Q
  have hGl := Gs_len hO
  refine r_iload_n (pc := 0) dX2_hasGainer_0 rfl ?_
  refine r_if_lt (pc := 1) (tgt := 16) dX2_hasGainer_1 (by decide) (fun c1 => ?_) (fun c1 => ?_)
  · refine r_iconst (pc := 16) (v := (nI (0))) dX2_hasGainer_16 (by decide) ?_
    refine r_ireturn (pc := 17) dX2_hasGainer_17 rfl (Or.inr rfl) rfl ?_
    refine (congrArg (fun z => Q (some (.int z)) μ1) (?_ : b2i (isB n (Gs σ).length) = (nI (0)))).mp h
    simp [Int32.lt_iff_toInt_lt, Int32.le_iff_toInt_le, nI_toInt (show (Gs σ).length < 2 ^ 31 by omega)] at c1
    exact b2i_f (by unfold isB; simp; omega)
  · refine r_iload_n (pc := 4) dX2_hasGainer_4 rfl ?_
    refine r_aload_n (pc := 5) dX2_hasGainer_5 rfl ?_
    refine r_getI (pc := 6) (x := (nI ((Gs σ).length))) dX2_hasGainer_6 fX2_32 rfl rfl (FO_n hF1.2) ?_
    refine r_icmp_ge (pc := 9) (tgt := 16) dX2_hasGainer_9 (by decide) (fun c9 => ?_) (fun c9 => ?_)
    · refine r_iconst (pc := 16) (v := (nI (0))) dX2_hasGainer_16 (by decide) ?_
      refine r_ireturn (pc := 17) dX2_hasGainer_17 rfl (Or.inr rfl) rfl ?_
      refine (congrArg (fun z => Q (some (.int z)) μ1) (?_ : b2i (isB n (Gs σ).length) = (nI (0)))).mp h
      simp [Int32.lt_iff_toInt_lt, Int32.le_iff_toInt_le, nI_toInt (show (Gs σ).length < 2 ^ 31 by omega)] at c1 c9
      exact b2i_f (by unfold isB; simp; omega)
    · refine r_iconst (pc := 12) (v := (nI (1))) dX2_hasGainer_12 (by decide) ?_
      refine r_goto (pc := 13) (tgt := 17) dX2_hasGainer_13 (by decide) ?_
      refine r_ireturn (pc := 17) dX2_hasGainer_17 rfl (Or.inr rfl) rfl ?_
      refine (congrArg (fun z => Q (some (.int z)) μ1) (?_ : b2i (isB n (Gs σ).length) = (nI (1)))).mp h
      simp [Int32.lt_iff_toInt_lt, Int32.le_iff_toInt_le, nI_toInt (show (Gs σ).length < 2 ^ 31 by omega)] at c1 c9
      exact b2i_t (by unfold isB; simp; omega)

set_option maxRecDepth 20000 in
set_option maxHeartbeats 4000000 in
theorem x_len {μ1 : Mem} {σ : Sg} {i : Nat} {Q : Option Value → Mem → Prop} (hF1 : XF μ1 σ) (hO : Ok σ) (hi : i < (Gs σ).length) (h : Q (some (.int (nI (gi σ i).length))) μ1) : Sp iX2_length 1 [.ref 12, .int (nI (gk σ i))] μ1 Q := by
  refine Sp.of vX2_length.1 (Nat.le_of_ble_eq_true rfl) ?_
  show WP cX2_length (RX2, 2, (some .int), 1, none) 0 [(0, .ref 12), (1, .int (nI (gk σ i)))] [] μ1 Q
  have hb := gi_b hO hi
  have hk := gk_lt hi
  have hRl := rnds_le hO
  refine r_aload_n (pc := 0) dX2_length_0 rfl ?_
  refine r_getR (pc := 1) (r := 15) dX2_length_1 fX2_18 rfl rfl ?_
  refine r_iload_n (pc := 4) dX2_length_4 rfl ?_
  refine r_iald (pc := 5) (x := (nI (gB σ i))) dX2_length_5 rfl rfl (by omega) (FO_i hF1.2 hi).2.2.2 ?_
  refine r_callS (pc := 6) (d' := 0) (As := [.int (nI (gB σ i))]) (rest := []) dX2_length_6 sJ6_bitCount_0f7a4 mX2_82 rfl rfl (Nat.le_of_ble_eq_true rfl) (Nat.le_of_ble_eq_true rfl) ?_
  refine c_bc (by omega) ?_
  have hm := rnds_mem (Gs_mem hi)
  rw [pc_len hm.2.2.2 (okP_12 hO hm.2.1)]
  refine r_ireturn (pc := 9) dX2_length_9 rfl (Or.inl rfl) rfl ?_
  exact h
