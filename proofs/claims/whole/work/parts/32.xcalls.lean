/-! THE CLASS'S CALLS ON ROUNDS -/
set_option maxRecDepth 20000 in
set_option maxHeartbeats 4000000 in
theorem x_rounds {μ : Mem} {σ : Sg} {w : Int32} {Q : Option Value → Mem → Prop} (hI : XI μ σ) (hO : Ok σ) (h : ∀ μ', XI μ' σ → keepM μ μ' → Q (some (.int (sp_rounds σ w))) μ') : Sp iX6_rounds 14 [.ref 0, .int (w)] μ Q := by
  refine Sp.of vX6_rounds.1 (Nat.le_of_ble_eq_true rfl) ?_
  show WP cX6_rounds (RX6, 2, (some .int), 14, none) 0 [(0, .ref 0), (1, .int (w))] [] μ Q
  have hn := Ok_n hO
  refine r_iload_n (pc := 0) dX6_rounds_0 rfl ?_
  refine r_iconst (pc := 1) (v := (nI (0))) dX6_rounds_1 (by decide) ?_
  refine r_iconst (pc := 2) (v := (nI (1))) dX6_rounds_2 (by decide) ?_
  refine r_callS (pc := 3) (d' := 0) (As := [.int (w), .int (nI 0), .int (nI 1)]) (rest := []) dX6_rounds_3 sX6_isWithin mX6_59 rfl rfl (Nat.le_of_ble_eq_true rfl) (Nat.le_of_ble_eq_true rfl) ?_
  refine c_within ?_
  refine rb_if_ne (pc := 6) (tgt := 12) dX6_rounds_6 (by decide) (fun c6 => ?_) (fun c6 => ?_)
  · obtain ⟨wj, hw1, hw2, rfl⟩ := inR_t (by decide) (by decide) c6
    rcases (show wj = 0 ∨ wj = 1 by omega) with rfl | rfl
    · refine r_aload_n (pc := 12) dX6_rounds_12 rfl ?_
      refine r_callV (pc := 13) (d' := 13) (k := 0) (As := []) (rest := []) dX6_rounds_13 vX6_lookAround mX6_130 rfl rfl rfl (Nat.le_of_ble_eq_true rfl) (Nat.le_of_ble_eq_true rfl) ?_
      refine x_look hI hO (fun μ1 hF1 hk1 => ?_)
      have hX1 := hF1.1.1
      have hGl := Gs_len hO
      have hRl := rnds_le hO
      refine r_iload_n (pc := 16) dX6_rounds_16 rfl ?_
      refine rn_if_ne (pc := 17) (tgt := 30) dX6_rounds_17 (by decide) (by decide) (fun q => absurd q (by decide)) (fun _ => ?_)
      refine r_aload_n (pc := 20) dX6_rounds_20 rfl ?_
      refine r_getR (pc := 21) (r := 12) dX6_rounds_21 fX6_26 rfl rfl ?_
      refine r_getI (pc := 24) (x := (nI ((rnds σ).length))) dX6_rounds_24 fX6_133 rfl rfl hF1.2.1 ?_
      refine r_goto (pc := 27) (tgt := 37) dX6_rounds_27 (by decide) ?_
      refine r_ireturn (pc := 37) dX6_rounds_37 rfl (Or.inl rfl) rfl ?_
      have e9 : sp_rounds σ (nI (0)) = (nI ((rnds σ).length)) := by simp (decide := true) [sp_rounds]
      rw [e9] at h
      exact h _ hF1.1 hk1
    · refine r_aload_n (pc := 12) dX6_rounds_12 rfl ?_
      refine r_callV (pc := 13) (d' := 13) (k := 0) (As := []) (rest := []) dX6_rounds_13 vX6_lookAround mX6_130 rfl rfl rfl (Nat.le_of_ble_eq_true rfl) (Nat.le_of_ble_eq_true rfl) ?_
      refine x_look hI hO (fun μ1 hF1 hk1 => ?_)
      have hX1 := hF1.1.1
      have hGl := Gs_len hO
      have hRl := rnds_le hO
      refine r_iload_n (pc := 16) dX6_rounds_16 rfl ?_
      refine rn_if_ne (pc := 17) (tgt := 30) dX6_rounds_17 (by decide) (by decide) (fun _ => ?_) (fun q => absurd q (by decide))
      refine r_aload_n (pc := 30) dX6_rounds_30 rfl ?_
      refine r_getR (pc := 31) (r := 12) dX6_rounds_31 fX6_26 rfl rfl ?_
      refine r_getI (pc := 34) (x := (nI ((Gs σ).length))) dX6_rounds_34 fX6_134 rfl rfl (FO_n hF1.2) ?_
      refine r_ireturn (pc := 37) dX6_rounds_37 rfl (Or.inl rfl) rfl ?_
      have e9 : sp_rounds σ (nI (1)) = (nI ((Gs σ).length)) := by simp (decide := true) [sp_rounds]
      rw [e9] at h
      exact h _ hF1.1 hk1
  · refine r_bipush (pc := 9) (v := (-2)) dX6_rounds_9 (by decide) ?_
    refine r_ireturn (pc := 11) dX6_rounds_11 rfl (Or.inl rfl) rfl ?_
    have e9 : sp_rounds σ w = -2 := by simp [sp_rounds, c6]
    rw [e9] at h
    exact h _ hI keepM.rf

set_option maxRecDepth 20000 in
set_option maxHeartbeats 4000000 in
theorem x_hasg {μ1 : Mem} {σ : Sg} {n : Int32} {Q : Option Value → Mem → Prop} (hF1 : XF μ1 σ) (hO : Ok σ) (h : Q (some (.int (b2i (isB n (Gs σ).length)))) μ1) : Sp iX2_hasGainer 0 [.ref 12, .int (n)] μ1 Q := by
  refine Sp.of vX2_hasGainer.1 (Nat.le_of_ble_eq_true rfl) ?_
  show WP cX2_hasGainer (RX2, 2, (some .boolean), 0, none) 0 [(0, .ref 12), (1, .int (n))] [] μ1 Q
  have hGl := Gs_len hO
  refine r_iload_n (pc := 0) dX2_hasGainer_0 rfl ?_
  refine r_if_lt (pc := 1) (tgt := 16) dX2_hasGainer_1 (by decide) (fun c1 => ?_) (fun c1 => ?_)
  · refine r_iconst (pc := 16) (v := (nI (0))) dX2_hasGainer_16 (by decide) ?_
    refine r_ireturn (pc := 17) dX2_hasGainer_17 rfl (Or.inr rfl) rfl ?_
    refine (congrArg (fun z => Q (some (.int z)) μ1) (?_ : b2i (isB n (Gs σ).length) = (nI (0)))).mp h
    simp [Int32.lt_iff_toInt_lt, Int32.le_iff_toInt_le, nI_toInt (show (Gs σ).length < 2 ^ 31 by omega)] at c1
    exact b2i_f (by unfold isB; simp; omega)
  · refine r_iload_n (pc := 4) dX2_hasGainer_4 rfl ?_
    refine r_aload_n (pc := 5) dX2_hasGainer_5 rfl ?_
    refine r_getI (pc := 6) (x := (nI ((Gs σ).length))) dX2_hasGainer_6 fX2_32 rfl rfl (FO_n hF1.2) ?_
    refine r_icmp_ge (pc := 9) (tgt := 16) dX2_hasGainer_9 (by decide) (fun c9 => ?_) (fun c9 => ?_)
    · refine r_iconst (pc := 16) (v := (nI (0))) dX2_hasGainer_16 (by decide) ?_
      refine r_ireturn (pc := 17) dX2_hasGainer_17 rfl (Or.inr rfl) rfl ?_
      refine (congrArg (fun z => Q (some (.int z)) μ1) (?_ : b2i (isB n (Gs σ).length) = (nI (0)))).mp h
      simp [Int32.lt_iff_toInt_lt, Int32.le_iff_toInt_le, nI_toInt (show (Gs σ).length < 2 ^ 31 by omega)] at c1 c9
      exact b2i_f (by unfold isB; simp; omega)
    · refine r_iconst (pc := 12) (v := (nI (1))) dX2_hasGainer_12 (by decide) ?_
      refine r_goto (pc := 13) (tgt := 17) dX2_hasGainer_13 (by decide) ?_
      refine r_ireturn (pc := 17) dX2_hasGainer_17 rfl (Or.inr rfl) rfl ?_
      refine (congrArg (fun z => Q (some (.int z)) μ1) (?_ : b2i (isB n (Gs σ).length) = (nI (1)))).mp h
      simp [Int32.lt_iff_toInt_lt, Int32.le_iff_toInt_le, nI_toInt (show (Gs σ).length < 2 ^ 31 by omega)] at c1 c9
      exact b2i_t (by unfold isB; simp; omega)

set_option maxRecDepth 20000 in
set_option maxHeartbeats 4000000 in
theorem x_len {μ1 : Mem} {σ : Sg} {i : Nat} {Q : Option Value → Mem → Prop} (hF1 : XF μ1 σ) (hO : Ok σ) (hi : i < (Gs σ).length) (h : Q (some (.int (nI (gi σ i).length))) μ1) : Sp iX2_length 1 [.ref 12, .int (nI (gk σ i))] μ1 Q := by
  refine Sp.of vX2_length.1 (Nat.le_of_ble_eq_true rfl) ?_
  show WP cX2_length (RX2, 2, (some .int), 1, none) 0 [(0, .ref 12), (1, .int (nI (gk σ i)))] [] μ1 Q
  have hb := gi_b hO hi
  have hk := gk_lt hi
  have hRl := rnds_le hO
  refine r_aload_n (pc := 0) dX2_length_0 rfl ?_
  refine r_getR (pc := 1) (r := 15) dX2_length_1 fX2_18 rfl rfl ?_
  refine r_iload_n (pc := 4) dX2_length_4 rfl ?_
  refine r_iald (pc := 5) (x := (nI (gB σ i))) dX2_length_5 rfl rfl (by omega) (FO_i hF1.2 hi).2.2.2 ?_
  refine r_callS (pc := 6) (d' := 0) (As := [.int (nI (gB σ i))]) (rest := []) dX2_length_6 sJ6_bitCount_0f7a4 mX2_82 rfl rfl (Nat.le_of_ble_eq_true rfl) (Nat.le_of_ble_eq_true rfl) ?_
  refine c_bc (by omega) ?_
  have hm := rnds_mem (Gs_mem hi)
  rw [pc_len hm.2.2.2 (okP_12 hO hm.2.1)]
  refine r_ireturn (pc := 9) dX2_length_9 rfl (Or.inl rfl) rfl ?_
  exact h

set_option maxRecDepth 20000 in
set_option maxHeartbeats 4000000 in
theorem x_round {μ : Mem} {σ : Sg} {n i : Int32} {Q : Option Value → Mem → Prop} (hI : XI μ σ) (hO : Ok σ) (h : ∀ μ', XI μ' σ → keepM μ μ' → Q (some (.int (sp_round σ n i))) μ') : Sp iX6_round 14 [.ref 0, .int (n), .int (i)] μ Q := by
  refine Sp.of vX6_round.1 (Nat.le_of_ble_eq_true rfl) ?_
  show WP cX6_round (RX6, 5, (some .int), 14, none) 0 [(0, .ref 0), (1, .int (n)), (2, .int (i))] [] μ Q
  have hn := Ok_n hO
  refine r_aload_n (pc := 0) dX6_round_0 rfl ?_
  refine r_callV (pc := 1) (d' := 13) (k := 0) (As := []) (rest := []) dX6_round_1 vX6_lookAround mX6_130 rfl rfl rfl (Nat.le_of_ble_eq_true rfl) (Nat.le_of_ble_eq_true rfl) ?_
  refine x_look hI hO (fun μ1 hF1 hk1 => ?_)
  have hX1 := hF1.1.1
  have hGl := Gs_len hO
  have hRl := rnds_le hO
  refine r_aload_n (pc := 4) dX6_round_4 rfl ?_
  refine r_getR (pc := 5) (r := 12) dX6_round_5 fX6_26 rfl rfl ?_
  refine r_iload_n (pc := 8) dX6_round_8 rfl ?_
  refine r_callV (pc := 9) (d' := 0) (k := 12) (As := [.int (n)]) (rest := []) dX6_round_9 vX2_hasGainer mX6_137 rfl rfl rfl (Nat.le_of_ble_eq_true rfl) (Nat.le_of_ble_eq_true rfl) ?_
  refine x_hasg hF1 hO ?_
  refine rb_if_ne (pc := 12) (tgt := 17) dX6_round_12 (by decide) (fun c12 => ?_) (fun c12 => ?_)
  · obtain ⟨nj, hnj, rfl, -⟩ := isB_t c12
    have hgib := gi_b hO hnj
    have hmm := rnds_mem (Gs_mem hnj)
    refine r_aload_n (pc := 17) dX6_round_17 rfl ?_
    refine r_getR (pc := 18) (r := 12) dX6_round_18 fX6_26 rfl rfl ?_
    refine r_getR (pc := 21) (r := 16) dX6_round_21 fX6_140 rfl rfl ?_
    refine r_iload_n (pc := 24) dX6_round_24 rfl ?_
    refine r_iald (pc := 25) (x := (nI (gk σ (nj)))) dX6_round_25 rfl rfl (by omega) (FO_i hF1.2 (by omega)).1 ?_
    have b1 := gk_lt (σ := σ) (i := nj) (by omega)
    have b2 := gi_b hO (i := nj) (by omega)
    refine r_istore_n (pc := 26) (ls' := [(0, .ref 0), (1, .int (nI nj)), (2, .int (i)), (3, .int (nI (gk σ (nj))))]) dX6_round_26 (Nat.le_of_ble_eq_true rfl) rfl ?_
    refine r_iload_n (pc := 27) dX6_round_27 rfl ?_
    refine r_iconst (pc := 28) (v := (-1)) dX6_round_28 (by decide) ?_
    refine r_icmp_ne (pc := 29) (tgt := 41) dX6_round_29 (by decide) (fun c29 => ?_) (fun c29 => ?_)
    · refine r_iload_n (pc := 41) dX6_round_41 rfl ?_
      refine r_if_lt (pc := 42) (tgt := 63) dX6_round_42 (by decide) (fun c42 => ?_) (fun c42 => ?_)
      · have hib : isB i (gi σ nj).length = false := by
          rw [Int32.lt_iff_toInt_lt] at c42
          unfold isB; simp at c42 ⊢; omega
        refine r_iconst (pc := 63) (v := (-1)) dX6_round_63 (by decide) ?_
        refine r_istore (pc := 64) (ls' := [(0, .ref 0), (1, .int (nI nj)), (2, .int (i)), (3, .int (nI (gk σ (nj)))), (4, .int ((-1)))]) dX6_round_64 (Nat.le_of_ble_eq_true rfl) rfl ?_
        refine r_iload (pc := 66) dX6_round_66 rfl ?_
        refine r_if_ge (pc := 68) (tgt := 76) dX6_round_68 (by decide) (fun c68 => ?_) (fun c68 => ?_)
        · exact absurd c68 (by decide)
        · refine r_bipush (pc := 71) (v := (-6)) dX6_round_71 (by decide) ?_
          refine r_goto (pc := 73) (tgt := 78) dX6_round_73 (by decide) ?_
          refine r_ireturn (pc := 78) dX6_round_78 rfl (Or.inl rfl) rfl ?_
          have e9 : sp_round σ (nI nj) i = (-6) := by simp [sp_round, c12, c29, hib, bN_nI (show nj < 2 ^ 31 by omega)]
          rw [e9] at h
          exact h _ hF1.1 hk1
      · refine r_iload_n (pc := 45) dX6_round_45 rfl ?_
        refine r_bipush (pc := 46) (v := (nI (8))) dX6_round_46 (by decide) ?_
        refine r_icmp_ge (pc := 48) (tgt := 63) dX6_round_48 (by decide) (fun c48 => ?_) (fun c48 => ?_)
        · have hib : isB i (gi σ nj).length = false := by
            rw [Int32.le_iff_toInt_le, nI_toInt (by decide)] at c48
            unfold isB; simp; omega
          refine r_iconst (pc := 63) (v := (-1)) dX6_round_63 (by decide) ?_
          refine r_istore (pc := 64) (ls' := [(0, .ref 0), (1, .int (nI nj)), (2, .int (i)), (3, .int (nI (gk σ (nj)))), (4, .int ((-1)))]) dX6_round_64 (Nat.le_of_ble_eq_true rfl) rfl ?_
          refine r_iload (pc := 66) dX6_round_66 rfl ?_
          refine r_if_ge (pc := 68) (tgt := 76) dX6_round_68 (by decide) (fun c68 => ?_) (fun c68 => ?_)
          · exact absurd c68 (by decide)
          · refine r_bipush (pc := 71) (v := (-6)) dX6_round_71 (by decide) ?_
            refine r_goto (pc := 73) (tgt := 78) dX6_round_73 (by decide) ?_
            refine r_ireturn (pc := 78) dX6_round_78 rfl (Or.inl rfl) rfl ?_
            have e9 : sp_round σ (nI nj) i = (-6) := by simp [sp_round, c12, c29, hib, bN_nI (show nj < 2 ^ 31 by omega)]
            rw [e9] at h
            exact h _ hF1.1 hk1
        · obtain ⟨ij, hij8, rfl, -⟩ := isB_t (b := i) (n := 8) (by
            rw [Int32.le_iff_toInt_le, nI_toInt (by decide)] at c48
            rw [Int32.lt_iff_toInt_lt] at c42
            unfold isB; simp at c42 ⊢; omega)
          rcases Nat.lt_or_ge ij (gi σ nj).length with hlt | hge
          · obtain ⟨bb, hbb⟩ : ∃ b, (gi σ nj)[ij]? = some b := ⟨(gi σ nj)[ij], List.getElem?_eq_getElem hlt⟩
            have hib : isB (nI ij) (gi σ nj).length = true := by rw [isB_nat (by omega)]; simp; omega
            have hbn := hmm.2.1 bb (List.mem_of_getElem? hbb)
            refine r_aload_n (pc := 51) dX6_round_51 rfl ?_
            refine r_getR (pc := 52) (r := 12) dX6_round_52 fX6_26 rfl rfl ?_
            refine r_iload_n (pc := 55) dX6_round_55 rfl ?_
            refine r_iload_n (pc := 56) dX6_round_56 rfl ?_
            refine r_callV (pc := 57) (d' := 0) (k := 12) (As := [.int (nI (gk σ (nj))), .int (nI ij)]) (rest := []) dX6_round_57 vX2_boardAt mX6_146 rfl rfl rfl (Nat.le_of_ble_eq_true rfl) (Nat.le_of_ble_eq_true rfl) ?_
            refine x_bat_s (b := bb) hO hmm.2.1 hmm.1.2 (by omega) hij8 (FO_i hF1.2 hnj).2.1 hbb ?_
            refine r_goto (pc := 60) (tgt := 64) dX6_round_60 (by decide) ?_
            refine r_istore (pc := 64) (ls' := [(0, .ref 0), (1, .int (nI nj)), (2, .int (nI ij)), (3, .int (nI (gk σ (nj)))), (4, .int (nI bb))]) dX6_round_64 (Nat.le_of_ble_eq_true rfl) rfl ?_
            refine r_iload (pc := 66) dX6_round_66 rfl ?_
            refine rn_if_ge (pc := 68) (tgt := 76) dX6_round_68 (by decide) (by omega) ?_
            refine r_iload (pc := 76) dX6_round_76 rfl ?_
            refine r_ireturn (pc := 78) dX6_round_78 rfl (Or.inl rfl) rfl ?_
            have e9 : sp_round σ (nI nj) (nI ij) = (nI (bb)) := by simp [sp_round, c12, c29, hib, bN_nI (show nj < 2 ^ 31 by omega), bN_nI (show ij < 2 ^ 31 by omega), hbb]
            rw [e9] at h
            exact h _ hF1.1 hk1
          · have hib : isB (nI ij) (gi σ nj).length = false := by rw [isB_nat (by omega)]; simp; omega
            refine r_aload_n (pc := 51) dX6_round_51 rfl ?_
            refine r_getR (pc := 52) (r := 12) dX6_round_52 fX6_26 rfl rfl ?_
            refine r_iload_n (pc := 55) dX6_round_55 rfl ?_
            refine r_iload_n (pc := 56) dX6_round_56 rfl ?_
            refine r_callV (pc := 57) (d' := 0) (k := 12) (As := [.int (nI (gk σ (nj))), .int (nI ij)]) (rest := []) dX6_round_57 vX2_boardAt mX6_146 rfl rfl rfl (Nat.le_of_ble_eq_true rfl) (Nat.le_of_ble_eq_true rfl) ?_
            refine x_bat_n hO hmm.2.1 hmm.1.2 (by omega) hij8 (FO_i hF1.2 hnj).2.1 (List.getElem?_eq_none hge) ?_
            refine r_goto (pc := 60) (tgt := 64) dX6_round_60 (by decide) ?_
            refine r_istore (pc := 64) (ls' := [(0, .ref 0), (1, .int (nI nj)), (2, .int (nI ij)), (3, .int (nI (gk σ (nj)))), (4, .int ((-1)))]) dX6_round_64 (Nat.le_of_ble_eq_true rfl) rfl ?_
            refine r_iload (pc := 66) dX6_round_66 rfl ?_
            refine r_if_ge (pc := 68) (tgt := 76) dX6_round_68 (by decide) (fun c68 => ?_) (fun c68 => ?_)
            · exact absurd c68 (by decide)
            · refine r_bipush (pc := 71) (v := (-6)) dX6_round_71 (by decide) ?_
              refine r_goto (pc := 73) (tgt := 78) dX6_round_73 (by decide) ?_
              refine r_ireturn (pc := 78) dX6_round_78 rfl (Or.inl rfl) rfl ?_
              have e9 : sp_round σ (nI nj) (nI ij) = (-6) := by simp [sp_round, c12, c29, hib, bN_nI (show nj < 2 ^ 31 by omega), bN_nI (show ij < 2 ^ 31 by omega)]
              rw [e9] at h
              exact h _ hF1.1 hk1
    · refine r_aload_n (pc := 32) dX6_round_32 rfl ?_
      refine r_getR (pc := 33) (r := 12) dX6_round_33 fX6_26 rfl rfl ?_
      refine r_iload_n (pc := 36) dX6_round_36 rfl ?_
      refine r_callV (pc := 37) (d' := 1) (k := 12) (As := [.int (nI (gk σ (nj)))]) (rest := []) dX6_round_37 vX2_length mX6_143 rfl rfl rfl (Nat.le_of_ble_eq_true rfl) (Nat.le_of_ble_eq_true rfl) ?_
      refine x_len hF1 hO (by omega) ?_
      refine r_ireturn (pc := 40) dX6_round_40 rfl (Or.inl rfl) rfl ?_
      subst c29
      have e9 : sp_round σ (nI nj) (-1) = (nI ((gi σ (nj)).length)) := by simp [sp_round, c12, bN_nI (show nj < 2 ^ 31 by omega)]
      rw [e9] at h
      exact h _ hF1.1 hk1
  · refine r_iconst (pc := 15) (v := (-1)) dX6_round_15 (by decide) ?_
    refine r_ireturn (pc := 16) dX6_round_16 rfl (Or.inl rfl) rfl ?_
    have e9 : sp_round σ n i = -1 := by simp [sp_round, c12]
    rw [e9] at h
    exact h _ hF1.1 hk1

set_option maxRecDepth 20000 in
set_option maxHeartbeats 4000000 in
theorem x_product {μ : Mem} {σ : Sg} {n part : Int32} {Q : Option Value → Mem → Prop} (hI : XI μ σ) (hO : Ok σ) (h : ∀ μ', XI μ' σ → keepM μ μ' → Q (some (.long (sp_product σ n part))) μ') : Sp iX6_product 14 [.ref 0, .int (n), .int (part)] μ Q := by
  refine Sp.of vX6_product.1 (Nat.le_of_ble_eq_true rfl) ?_
  show WP cX6_product (RX6, 8, (some .long), 14, none) 0 [(0, .ref 0), (1, .int (n)), (2, .int (part))] [] μ Q
  have hn := Ok_n hO
  refine r_aload_n (pc := 0) dX6_product_0 rfl ?_
  refine r_callV (pc := 1) (d' := 13) (k := 0) (As := []) (rest := []) dX6_product_1 vX6_lookAround mX6_130 rfl rfl rfl (Nat.le_of_ble_eq_true rfl) (Nat.le_of_ble_eq_true rfl) ?_
  refine x_look hI hO (fun μ1 hF1 hk1 => ?_)
  have hX1 := hF1.1.1
  have hGl := Gs_len hO
  have hRl := rnds_le hO
  refine r_aload_n (pc := 4) dX6_product_4 rfl ?_
  refine r_getR (pc := 5) (r := 12) dX6_product_5 fX6_26 rfl rfl ?_
  refine r_iload_n (pc := 8) dX6_product_8 rfl ?_
  refine r_callV (pc := 9) (d' := 0) (k := 12) (As := [.int (n)]) (rest := []) dX6_product_9 vX2_hasGainer mX6_137 rfl rfl rfl (Nat.le_of_ble_eq_true rfl) (Nat.le_of_ble_eq_true rfl) ?_
  refine x_hasg hF1 hO ?_
  refine rb_if_ne (pc := 12) (tgt := 19) dX6_product_12 (by decide) (fun c12 => ?_) (fun c12 => ?_)
  · obtain ⟨nj, hnj, rfl, -⟩ := isB_t c12
    have hgib := gi_b hO hnj
    have hmm := rnds_mem (Gs_mem hnj)
    refine r_iload_n (pc := 19) dX6_product_19 rfl ?_
    refine r_iconst (pc := 20) (v := (nI (0))) dX6_product_20 (by decide) ?_
    refine r_iconst (pc := 21) (v := (nI (1))) dX6_product_21 (by decide) ?_
    refine r_callS (pc := 22) (d' := 0) (As := [.int (part), .int (nI 0), .int (nI 1)]) (rest := []) dX6_product_22 sX6_isWithin mX6_59 rfl rfl (Nat.le_of_ble_eq_true rfl) (Nat.le_of_ble_eq_true rfl) ?_
    refine c_within ?_
    refine rb_if_ne (pc := 25) (tgt := 32) dX6_product_25 (by decide) (fun c25 => ?_) (fun c25 => ?_)
    · obtain ⟨pj, hp1, hp2, rfl⟩ := inR_t (by decide) (by decide) c25
      rcases (show pj = 0 ∨ pj = 1 by omega) with rfl | rfl
      · refine r_aload_n (pc := 32) dX6_product_32 rfl ?_
        refine r_getR (pc := 33) (r := 12) dX6_product_33 fX6_26 rfl rfl ?_
        refine r_getR (pc := 36) (r := 16) dX6_product_36 fX6_140 rfl rfl ?_
        refine r_iload_n (pc := 39) dX6_product_39 rfl ?_
        refine r_iald (pc := 40) (x := (nI (gk σ (nj)))) dX6_product_40 rfl rfl (by omega) (FO_i hF1.2 (by omega)).1 ?_
        have b1 := gk_lt (σ := σ) (i := nj) (by omega)
        have b2 := gi_b hO (i := nj) (by omega)
        refine r_istore_n (pc := 41) (ls' := [(0, .ref 0), (1, .int (nI nj)), (2, .int (nI 0)), (3, .int (nI (gk σ (nj))))]) dX6_product_41 (Nat.le_of_ble_eq_true rfl) rfl ?_
        refine r_aload_n (pc := 42) dX6_product_42 rfl ?_
        refine r_getR (pc := 43) (r := 12) dX6_product_43 fX6_26 rfl rfl ?_
        refine r_iload_n (pc := 46) dX6_product_46 rfl ?_
        refine r_aload_n (pc := 47) dX6_product_47 rfl ?_
        refine r_getR (pc := 48) (r := 1) dX6_product_48 fX6_12 rfl rfl ?_
        refine r_getR (pc := 51) (r := 5) dX6_product_51 fX6_86 rfl rfl ?_
        refine r_aload_n (pc := 54) dX6_product_54 rfl ?_
        refine r_getR (pc := 55) (r := 1) dX6_product_55 fX6_12 rfl rfl ?_
        refine r_getR (pc := 58) (r := 9) dX6_product_58 fX6_112 rfl rfl ?_
        refine r_iconst (pc := 61) (v := (nI (0))) dX6_product_61 (by decide) ?_
        refine r_iald (pc := 62) (x := (nI (σ 0 1))) dX6_product_62 rfl rfl (by omega) (Xs_fee (μ := μ1) hX1) ?_
        refine r_callV (pc := 63) (d' := 1) (k := 12) (As := [.int (nI (gk σ (nj))), .ref 5, .int (nI (σ 0 1))]) (rest := []) dX6_product_63 vX2_upper mX6_154 rfl rfl rfl (Nat.le_of_ble_eq_true rfl) (Nat.le_of_ble_eq_true rfl) ?_
        refine x_upper (gc := 5) (g := σ 4) hO hmm.2.1 hmm.1.2 (by omega) (FO_i hF1.2 hnj).2.1 rfl (fun x hx => ⟨Xs_4 hX1 (by have := hmm.2.1 x hx; omega), (Ok_b hO (j := x) (by have := hmm.2.1 x hx; omega)).2.2.2.1⟩) (by omega) ?_
        refine r_lstore (pc := 66) (ls' := [(0, .ref 0), (1, .int (nI nj)), (2, .int (nI 0)), (3, .int (nI (gk σ (nj)))), (4, .long (lN (gU σ nj)))]) dX6_product_66 (Nat.le_of_ble_eq_true rfl) rfl ?_
        refine r_aload_n (pc := 68) dX6_product_68 rfl ?_
        refine r_getR (pc := 69) (r := 12) dX6_product_69 fX6_26 rfl rfl ?_
        refine r_getR (pc := 72) (r := 14) dX6_product_72 fX6_157 rfl rfl ?_
        refine r_iload_n (pc := 75) dX6_product_75 rfl ?_
        refine r_lald (pc := 76) (x := (lN (gL σ (nj)))) dX6_product_76 rfl rfl (by omega) (FO_i hF1.2 (by omega)).2.2.1 ?_
        refine r_lstore (pc := 77) (ls' := [(0, .ref 0), (1, .int (nI nj)), (2, .int (nI 0)), (3, .int (nI (gk σ (nj)))), (4, .long (lN (gU σ nj))), (6, .long (lN (gL σ (nj))))]) dX6_product_77 (Nat.le_of_ble_eq_true rfl) rfl ?_
        refine r_iload_n (pc := 79) dX6_product_79 rfl ?_
        refine rn_if_ne (pc := 80) (tgt := 88) dX6_product_80 (by decide) (by decide) (fun q => absurd q (by decide)) (fun _ => ?_)
        refine r_lload (pc := 83) dX6_product_83 rfl ?_
        refine r_goto (pc := 85) (tgt := 90) dX6_product_85 (by decide) ?_
        refine r_lload (pc := 90) dX6_product_90 rfl ?_
        refine r_lload (pc := 92) dX6_product_92 rfl ?_
        refine r_callS (pc := 94) (d' := 0) (As := [.long (lN (gU σ nj)), .long (lN (gL σ (nj)))]) (rest := [.long (lN (gU σ nj))]) dX6_product_94 sX6_greatestDivisor mX6_161 rfl rfl (Nat.le_of_ble_eq_true rfl) (Nat.le_of_ble_eq_true rfl) ?_
        have hgp : 0 < Nat.gcd (gU σ nj) (gL σ (nj)) := Nat.gcd_pos_of_pos_right _ (by omega)
        have hgl2 : Nat.gcd (gU σ nj) (gL σ (nj)) ≤ gL σ (nj) := Nat.gcd_le_right _ (by omega)
        refine c_gcd (by omega) (by omega) ?_
        refine r_callS (pc := 97) (d' := 0) (As := [.long (lN (gU σ nj)), .long (lN (Nat.gcd (gU σ nj) (gL σ (nj))))]) (rest := []) dX6_product_97 sX6_inLowestTerms mX6_165 rfl rfl (Nat.le_of_ble_eq_true rfl) (Nat.le_of_ble_eq_true rfl) ?_
        refine c_low (by omega) (by omega) (by omega) ?_
        refine r_lreturn (pc := 100) dX6_product_100 rfl ?_
        have e9 : sp_product σ (nI nj) (nI (0)) = (lN ((gU σ nj) / (Nat.gcd (gU σ nj) (gL σ (nj))))) := by simp (decide := true) [sp_product, c12, c25, bN_nI (show nj < 2 ^ 31 by omega), lowT]
        rw [e9] at h
        exact h _ hF1.1 hk1
      · refine r_aload_n (pc := 32) dX6_product_32 rfl ?_
        refine r_getR (pc := 33) (r := 12) dX6_product_33 fX6_26 rfl rfl ?_
        refine r_getR (pc := 36) (r := 16) dX6_product_36 fX6_140 rfl rfl ?_
        refine r_iload_n (pc := 39) dX6_product_39 rfl ?_
        refine r_iald (pc := 40) (x := (nI (gk σ (nj)))) dX6_product_40 rfl rfl (by omega) (FO_i hF1.2 (by omega)).1 ?_
        have b3 := gk_lt (σ := σ) (i := nj) (by omega)
        have b4 := gi_b hO (i := nj) (by omega)
        refine r_istore_n (pc := 41) (ls' := [(0, .ref 0), (1, .int (nI nj)), (2, .int (nI 1)), (3, .int (nI (gk σ (nj))))]) dX6_product_41 (Nat.le_of_ble_eq_true rfl) rfl ?_
        refine r_aload_n (pc := 42) dX6_product_42 rfl ?_
        refine r_getR (pc := 43) (r := 12) dX6_product_43 fX6_26 rfl rfl ?_
        refine r_iload_n (pc := 46) dX6_product_46 rfl ?_
        refine r_aload_n (pc := 47) dX6_product_47 rfl ?_
        refine r_getR (pc := 48) (r := 1) dX6_product_48 fX6_12 rfl rfl ?_
        refine r_getR (pc := 51) (r := 5) dX6_product_51 fX6_86 rfl rfl ?_
        refine r_aload_n (pc := 54) dX6_product_54 rfl ?_
        refine r_getR (pc := 55) (r := 1) dX6_product_55 fX6_12 rfl rfl ?_
        refine r_getR (pc := 58) (r := 9) dX6_product_58 fX6_112 rfl rfl ?_
        refine r_iconst (pc := 61) (v := (nI (0))) dX6_product_61 (by decide) ?_
        refine r_iald (pc := 62) (x := (nI (σ 0 1))) dX6_product_62 rfl rfl (by omega) (Xs_fee (μ := μ1) hX1) ?_
        refine r_callV (pc := 63) (d' := 1) (k := 12) (As := [.int (nI (gk σ (nj))), .ref 5, .int (nI (σ 0 1))]) (rest := []) dX6_product_63 vX2_upper mX6_154 rfl rfl rfl (Nat.le_of_ble_eq_true rfl) (Nat.le_of_ble_eq_true rfl) ?_
        refine x_upper (gc := 5) (g := σ 4) hO hmm.2.1 hmm.1.2 (by omega) (FO_i hF1.2 hnj).2.1 rfl (fun x hx => ⟨Xs_4 hX1 (by have := hmm.2.1 x hx; omega), (Ok_b hO (j := x) (by have := hmm.2.1 x hx; omega)).2.2.2.1⟩) (by omega) ?_
        refine r_lstore (pc := 66) (ls' := [(0, .ref 0), (1, .int (nI nj)), (2, .int (nI 1)), (3, .int (nI (gk σ (nj)))), (4, .long (lN (gU σ nj)))]) dX6_product_66 (Nat.le_of_ble_eq_true rfl) rfl ?_
        refine r_aload_n (pc := 68) dX6_product_68 rfl ?_
        refine r_getR (pc := 69) (r := 12) dX6_product_69 fX6_26 rfl rfl ?_
        refine r_getR (pc := 72) (r := 14) dX6_product_72 fX6_157 rfl rfl ?_
        refine r_iload_n (pc := 75) dX6_product_75 rfl ?_
        refine r_lald (pc := 76) (x := (lN (gL σ (nj)))) dX6_product_76 rfl rfl (by omega) (FO_i hF1.2 (by omega)).2.2.1 ?_
        refine r_lstore (pc := 77) (ls' := [(0, .ref 0), (1, .int (nI nj)), (2, .int (nI 1)), (3, .int (nI (gk σ (nj)))), (4, .long (lN (gU σ nj))), (6, .long (lN (gL σ (nj))))]) dX6_product_77 (Nat.le_of_ble_eq_true rfl) rfl ?_
        refine r_iload_n (pc := 79) dX6_product_79 rfl ?_
        refine rn_if_ne (pc := 80) (tgt := 88) dX6_product_80 (by decide) (by decide) (fun _ => ?_) (fun q => absurd q (by decide))
        refine r_lload (pc := 88) dX6_product_88 rfl ?_
        refine r_lload (pc := 90) dX6_product_90 rfl ?_
        refine r_lload (pc := 92) dX6_product_92 rfl ?_
        refine r_callS (pc := 94) (d' := 0) (As := [.long (lN (gU σ nj)), .long (lN (gL σ (nj)))]) (rest := [.long (lN (gL σ (nj)))]) dX6_product_94 sX6_greatestDivisor mX6_161 rfl rfl (Nat.le_of_ble_eq_true rfl) (Nat.le_of_ble_eq_true rfl) ?_
        have hgp : 0 < Nat.gcd (gU σ nj) (gL σ (nj)) := Nat.gcd_pos_of_pos_right _ (by omega)
        have hgl2 : Nat.gcd (gU σ nj) (gL σ (nj)) ≤ gL σ (nj) := Nat.gcd_le_right _ (by omega)
        refine c_gcd (by omega) (by omega) ?_
        refine r_callS (pc := 97) (d' := 0) (As := [.long (lN (gL σ (nj))), .long (lN (Nat.gcd (gU σ nj) (gL σ (nj))))]) (rest := []) dX6_product_97 sX6_inLowestTerms mX6_165 rfl rfl (Nat.le_of_ble_eq_true rfl) (Nat.le_of_ble_eq_true rfl) ?_
        refine c_low (by omega) (by omega) (by omega) ?_
        refine r_lreturn (pc := 100) dX6_product_100 rfl ?_
        have e9 : sp_product σ (nI nj) (nI (1)) = (lN ((gL σ (nj)) / (Nat.gcd (gU σ nj) (gL σ (nj))))) := by simp (decide := true) [sp_product, c12, c25, bN_nI (show nj < 2 ^ 31 by omega), lowT]
        rw [e9] at h
        exact h _ hF1.1 hk1
    · refine r_ldc2 (pc := 28) dX6_product_28 kX6_152 ?_
      refine r_lreturn (pc := 31) dX6_product_31 rfl ?_
      have e9 : sp_product σ (nI nj) part = -1000000000000000002 := by simp [sp_product, c12, c25]
      rw [e9] at h
      exact h _ hF1.1 hk1
  · refine r_ldc2 (pc := 15) dX6_product_15 kX6_150 ?_
    refine r_lreturn (pc := 18) dX6_product_18 rfl ?_
    have e9 : sp_product σ n part = -1000000000000000001 := by simp [sp_product, c12]
    rw [e9] at h
    exact h _ hF1.1 hk1

set_option maxRecDepth 20000 in
set_option maxHeartbeats 4000000 in
theorem x_thr_l {μ1 : Mem} {σ : Sg} {bj : Nat} {Q : Option Value → Mem → Prop} (hF1 : XF μ1 σ) (hO : Ok σ) (hb : bj < 12) (h : Q (some (.int (nI (thrN (gB σ) bj (Gs σ).length)))) μ1) : ∀ (k : Nat) (n : Nat), n + k = (Gs σ).length → WP cX2_countThrough (RX2, 4, (some .int), 0, none) 4 [(0, .ref 12), (1, .int (nI bj)), (2, .int (nI (thrN (gB σ) bj n))), (3, .int (nI n))] [] μ1 Q := by
  intro k
  induction k using Nat.strongRecOn with
  | _ k ih =>
    intro n hnk
    have hn := Ok_n hO
    have hGl := Gs_len hO
    have hRl := rnds_le hO
    refine r_iload_n (pc := 4) dX2_countThrough_4 rfl ?_
    refine r_aload_n (pc := 5) dX2_countThrough_5 rfl ?_
    refine r_getI (pc := 6) (x := (nI ((Gs σ).length))) dX2_countThrough_6 fX2_32 rfl rfl (FO_n hF1.2) ?_
    refine rn_icmp_ge (pc := 9) (tgt := 36) dX2_countThrough_9 (by decide) (by omega) (by omega) (fun c9 => ?_) (fun c9 => ?_)
    · obtain rfl : n = (Gs σ).length := by omega
      refine r_iload_n (pc := 36) dX2_countThrough_36 rfl ?_
      refine r_ireturn (pc := 37) dX2_countThrough_37 rfl (Or.inl rfl) rfl ?_
      exact h
    · refine r_iload_n (pc := 12) dX2_countThrough_12 rfl ?_
      refine r_aload_n (pc := 13) dX2_countThrough_13 rfl ?_
      refine r_getR (pc := 14) (r := 15) dX2_countThrough_14 fX2_18 rfl rfl ?_
      refine r_aload_n (pc := 17) dX2_countThrough_17 rfl ?_
      refine r_getR (pc := 18) (r := 16) dX2_countThrough_18 fX2_22 rfl rfl ?_
      refine r_iload_n (pc := 21) dX2_countThrough_21 rfl ?_
      refine r_iald (pc := 22) (x := (nI (gk σ (n)))) dX2_countThrough_22 rfl rfl (by omega) (FO_i hF1.2 (by omega)).1 ?_
      have b1 := gk_lt (σ := σ) (i := n) (by omega)
      have b2 := gi_b hO (i := n) (by omega)
      refine r_iald (pc := 23) (x := (nI (gB σ (n)))) dX2_countThrough_23 rfl rfl (by omega) (FO_i hF1.2 (by omega)).2.2.2 ?_
      refine r_iload_n (pc := 24) dX2_countThrough_24 rfl ?_
      refine r_ishr (pc := 25) dX2_countThrough_25 ?_
      refine r_eqi (shrN (by omega) (by omega)) ?_
      refine r_iconst (pc := 26) (v := (nI (1))) dX2_countThrough_26 (by decide) ?_
      refine r_iand (pc := 27) dX2_countThrough_27 ?_
      refine r_eqi (and1 (Nat.lt_of_le_of_lt (Nat.div_le_self _ _) (by omega))) ?_
      refine rn_iadd (pc := 28) dX2_countThrough_28 ?_
      refine r_istore_n (pc := 29) (ls' := [(0, .ref 12), (1, .int (nI bj)), (2, .int (nI ((thrN (gB σ) bj n) + (((gB σ (n)) / 2 ^ (bj)) % 2)))), (3, .int (nI n))]) dX2_countThrough_29 (Nat.le_of_ble_eq_true rfl) rfl ?_
      refine rn_iinc (pc := 30) (b := 1) (ls' := [(0, .ref 12), (1, .int (nI bj)), (2, .int (nI ((thrN (gB σ) bj n) + (((gB σ (n)) / 2 ^ (bj)) % 2)))), (3, .int (nI (n + 1)))]) dX2_countThrough_30 rfl (by decide) (Nat.le_of_ble_eq_true rfl) rfl ?_
      refine r_goto (pc := 33) (tgt := 4) dX2_countThrough_33 (by decide) ?_
      exact ih (k - 1) (by omega) (n + 1) (by omega)

set_option maxRecDepth 20000 in
set_option maxHeartbeats 4000000 in
theorem x_thr {μ1 : Mem} {σ : Sg} {bj : Nat} {Q : Option Value → Mem → Prop} (hF1 : XF μ1 σ) (hO : Ok σ) (hb : bj < 12) (h : Q (some (.int (nI (thrN (gB σ) bj (Gs σ).length)))) μ1) : Sp iX2_countThrough 0 [.ref 12, .int (nI bj)] μ1 Q := by
  refine Sp.of vX2_countThrough.1 (Nat.le_of_ble_eq_true rfl) ?_
  show WP cX2_countThrough (RX2, 4, (some .int), 0, none) 0 [(0, .ref 12), (1, .int (nI bj))] [] μ1 Q
  refine r_iconst (pc := 0) (v := (nI (0))) dX2_countThrough_0 (by decide) ?_
  refine r_istore_n (pc := 1) (ls' := [(0, .ref 12), (1, .int (nI bj)), (2, .int (nI 0))]) dX2_countThrough_1 (Nat.le_of_ble_eq_true rfl) rfl ?_
  refine r_iconst (pc := 2) (v := (nI (0))) dX2_countThrough_2 (by decide) ?_
  refine r_istore_n (pc := 3) (ls' := [(0, .ref 12), (1, .int (nI bj)), (2, .int (nI 0)), (3, .int (nI 0))]) dX2_countThrough_3 (Nat.le_of_ble_eq_true rfl) rfl ?_
  exact x_thr_l hF1 hO hb h (Gs σ).length 0 (by omega)

set_option maxRecDepth 20000 in
set_option maxHeartbeats 4000000 in
theorem x_through {μ : Mem} {σ : Sg} {b : Int32} {Q : Option Value → Mem → Prop} (hI : XI μ σ) (hO : Ok σ) (h : ∀ μ', XI μ' σ → keepM μ μ' → Q (some (.int (sp_through σ b))) μ') : Sp iX6_through 14 [.ref 0, .int (b)] μ Q := by
  refine Sp.of vX6_through.1 (Nat.le_of_ble_eq_true rfl) ?_
  show WP cX6_through (RX6, 2, (some .int), 14, none) 0 [(0, .ref 0), (1, .int (b))] [] μ Q
  have hn := Ok_n hO
  have hX := hI.1
  refine r_aload_n (pc := 0) dX6_through_0 rfl ?_
  refine r_getR (pc := 1) (r := 1) dX6_through_1 fX6_12 rfl rfl ?_
  refine r_iload_n (pc := 4) dX6_through_4 rfl ?_
  refine r_callV (pc := 5) (d' := 0) (k := 1) (As := [.int (b)]) (rest := []) dX6_through_5 vX0_has mX6_74 rfl rfl rfl (Nat.le_of_ble_eq_true rfl) (Nat.le_of_ble_eq_true rfl) ?_
  refine c_has (μ := μ) hX hO ?_
  refine rb_if_ne (pc := 8) (tgt := 13) dX6_through_8 (by decide) (fun c8 => ?_) (fun c8 => ?_)
  · obtain ⟨bj, hbj, rfl, -⟩ := isB_t c8
    refine r_aload_n (pc := 13) dX6_through_13 rfl ?_
    refine r_callV (pc := 14) (d' := 13) (k := 0) (As := []) (rest := []) dX6_through_14 vX6_lookAround mX6_130 rfl rfl rfl (Nat.le_of_ble_eq_true rfl) (Nat.le_of_ble_eq_true rfl) ?_
    refine x_look hI hO (fun μ1 hF1 hk1 => ?_)
    have hX1 := hF1.1.1
    have hGl := Gs_len hO
    have hRl := rnds_le hO
    refine r_aload_n (pc := 17) dX6_through_17 rfl ?_
    refine r_getR (pc := 18) (r := 12) dX6_through_18 fX6_26 rfl rfl ?_
    refine r_iload_n (pc := 21) dX6_through_21 rfl ?_
    refine r_callV (pc := 22) (d' := 0) (k := 12) (As := [.int (nI bj)]) (rest := []) dX6_through_22 vX2_countThrough mX6_178 rfl rfl rfl (Nat.le_of_ble_eq_true rfl) (Nat.le_of_ble_eq_true rfl) ?_
    refine x_thr hF1 hO (by omega) ?_
    refine r_ireturn (pc := 25) dX6_through_25 rfl (Or.inl rfl) rfl ?_
    have e9 : sp_through σ (nI bj) = nI (thrN (gB σ) bj (Gs σ).length) := by simp [sp_through, c8, bN_nI (show bj < 2 ^ 31 by omega)]
    rw [e9] at h
    exact h _ hF1.1 hk1
  · refine r_iconst (pc := 11) (v := (-1)) dX6_through_11 (by decide) ?_
    refine r_ireturn (pc := 12) dX6_through_12 rfl (Or.inl rfl) rfl ?_
    have e9 : sp_through σ b = -1 := by simp [sp_through, c8]
    rw [e9] at h
    exact h _ hI keepM.rf

theorem m1_and (x : Nat) : (-1 : Int32) &&& nI x = nI x := by
  apply Int32.toBitVec_inj.mp
  show (-1 : Int32).toBitVec &&& BitVec.ofNat 32 x = BitVec.ofNat 32 x
  rw [show (-1 : Int32).toBitVec = BitVec.allOnes 32 by decide, BitVec.allOnes_and]

set_option maxRecDepth 20000 in
set_option maxHeartbeats 4000000 in
theorem x_com_l {μ1 : Mem} {σ : Sg} {Q : Option Value → Mem → Prop} (hF1 : XF μ1 σ) (hO : Ok σ) (h : Q (some (.int (sp_blamed σ))) μ1) : ∀ (k : Nat) (n : Nat), n + k = (Gs σ).length → 1 ≤ n → WP cX2_commonBits (RX2, 3, (some .int), 0, none) 15 [(0, .ref 12), (1, .int (nI (blN (gB σ) n))), (2, .int (nI n))] [] μ1 Q := by
  intro k
  induction k using Nat.strongRecOn with
  | _ k ih =>
    intro n hnk hn1
    have hn := Ok_n hO
    have hGl := Gs_len hO
    have hRl := rnds_le hO
    refine r_iload_n (pc := 15) dX2_commonBits_15 rfl ?_
    refine r_aload_n (pc := 16) dX2_commonBits_16 rfl ?_
    refine r_getI (pc := 17) (x := (nI ((Gs σ).length))) dX2_commonBits_17 fX2_32 rfl rfl (FO_n hF1.2) ?_
    refine rn_icmp_ge (pc := 20) (tgt := 43) dX2_commonBits_20 (by decide) (by omega) (by omega) (fun c20 => ?_) (fun c20 => ?_)
    · obtain rfl : n = (Gs σ).length := by omega
      refine r_iload_n (pc := 43) dX2_commonBits_43 rfl ?_
      refine r_ireturn (pc := 44) dX2_commonBits_44 rfl (Or.inl rfl) rfl ?_
      have e9 : sp_blamed σ = nI (blN (gB σ) (Gs σ).length) := by unfold sp_blamed; rw [if_neg (by omega)]
      rw [e9] at h
      exact h
    · refine r_iload_n (pc := 23) dX2_commonBits_23 rfl ?_
      refine r_aload_n (pc := 24) dX2_commonBits_24 rfl ?_
      refine r_getR (pc := 25) (r := 15) dX2_commonBits_25 fX2_18 rfl rfl ?_
      refine r_aload_n (pc := 28) dX2_commonBits_28 rfl ?_
      refine r_getR (pc := 29) (r := 16) dX2_commonBits_29 fX2_22 rfl rfl ?_
      refine r_iload_n (pc := 32) dX2_commonBits_32 rfl ?_
      refine r_iald (pc := 33) (x := (nI (gk σ (n)))) dX2_commonBits_33 rfl rfl (by omega) (FO_i hF1.2 (by omega)).1 ?_
      have b1 := gk_lt (σ := σ) (i := n) (by omega)
      have b2 := gi_b hO (i := n) (by omega)
      refine r_iald (pc := 34) (x := (nI (gB σ (n)))) dX2_commonBits_34 rfl rfl (by omega) (FO_i hF1.2 (by omega)).2.2.2 ?_
      refine r_iand (pc := 35) dX2_commonBits_35 ?_
      refine r_eqi (nI_and _ _) ?_
      refine r_istore_n (pc := 36) (ls' := [(0, .ref 12), (1, .int (nI ((blN (gB σ) n) &&& (gB σ (n))))), (2, .int (nI n))]) dX2_commonBits_36 (Nat.le_of_ble_eq_true rfl) rfl ?_
      refine rn_iinc (pc := 37) (b := 1) (ls' := [(0, .ref 12), (1, .int (nI ((blN (gB σ) n) &&& (gB σ (n))))), (2, .int (nI (n + 1)))]) dX2_commonBits_37 rfl (by decide) (Nat.le_of_ble_eq_true rfl) rfl ?_
      refine r_goto (pc := 40) (tgt := 15) dX2_commonBits_40 (by decide) ?_
      exact ih (k - 1) (by omega) (n + 1) (by omega) (by omega)

set_option maxRecDepth 20000 in
set_option maxHeartbeats 4000000 in
theorem x_com {μ1 : Mem} {σ : Sg} {Q : Option Value → Mem → Prop} (hF1 : XF μ1 σ) (hO : Ok σ) (h : Q (some (.int (sp_blamed σ))) μ1) : Sp iX2_commonBits 0 [.ref 12] μ1 Q := by
  refine Sp.of vX2_commonBits.1 (Nat.le_of_ble_eq_true rfl) ?_
  show WP cX2_commonBits (RX2, 3, (some .int), 0, none) 0 [(0, .ref 12)] [] μ1 Q
  have hn := Ok_n hO
  have hGl := Gs_len hO
  have hRl := rnds_le hO
  refine r_aload_n (pc := 0) dX2_commonBits_0 rfl ?_
  refine r_getI (pc := 1) (x := (nI ((Gs σ).length))) dX2_commonBits_1 fX2_32 rfl rfl (FO_n hF1.2) ?_
  refine rn_if_ne (pc := 4) (tgt := 11) dX2_commonBits_4 (by decide) (by omega) (fun c4 => ?_) (fun c4 => ?_)
  · refine r_iconst (pc := 11) (v := (-1)) dX2_commonBits_11 (by decide) ?_
    refine r_istore_n (pc := 12) (ls' := [(0, .ref 12), (1, .int ((-1)))]) dX2_commonBits_12 (Nat.le_of_ble_eq_true rfl) rfl ?_
    refine r_iconst (pc := 13) (v := (nI (0))) dX2_commonBits_13 (by decide) ?_
    refine r_istore_n (pc := 14) (ls' := [(0, .ref 12), (1, .int ((-1))), (2, .int (nI 0))]) dX2_commonBits_14 (Nat.le_of_ble_eq_true rfl) rfl ?_
    refine r_iload_n (pc := 15) dX2_commonBits_15 rfl ?_
    refine r_aload_n (pc := 16) dX2_commonBits_16 rfl ?_
    refine r_getI (pc := 17) (x := (nI ((Gs σ).length))) dX2_commonBits_17 fX2_32 rfl rfl (FO_n hF1.2) ?_
    refine rn_icmp_ge (pc := 20) (tgt := 43) dX2_commonBits_20 (by decide) (by omega) (by omega) (fun c20 => ?_) (fun c20 => ?_)
    · exact absurd c20 (by omega)
    · refine r_iload_n (pc := 23) dX2_commonBits_23 rfl ?_
      refine r_aload_n (pc := 24) dX2_commonBits_24 rfl ?_
      refine r_getR (pc := 25) (r := 15) dX2_commonBits_25 fX2_18 rfl rfl ?_
      refine r_aload_n (pc := 28) dX2_commonBits_28 rfl ?_
      refine r_getR (pc := 29) (r := 16) dX2_commonBits_29 fX2_22 rfl rfl ?_
      refine r_iload_n (pc := 32) dX2_commonBits_32 rfl ?_
      refine r_iald (pc := 33) (x := (nI (gk σ (0)))) dX2_commonBits_33 rfl rfl (by omega) (FO_i hF1.2 (by omega)).1 ?_
      have b1 := gk_lt (σ := σ) (i := 0) (by omega)
      have b2 := gi_b hO (i := 0) (by omega)
      refine r_iald (pc := 34) (x := (nI (gB σ (0)))) dX2_commonBits_34 rfl rfl (by omega) (FO_i hF1.2 (by omega)).2.2.2 ?_
      refine r_iand (pc := 35) dX2_commonBits_35 ?_
      refine r_eqi (m1_and _) ?_
      refine r_istore_n (pc := 36) (ls' := [(0, .ref 12), (1, .int (nI (gB σ (0)))), (2, .int (nI 0))]) dX2_commonBits_36 (Nat.le_of_ble_eq_true rfl) rfl ?_
      refine rn_iinc (pc := 37) (b := 1) (ls' := [(0, .ref 12), (1, .int (nI (gB σ (0)))), (2, .int (nI (0 + 1)))]) dX2_commonBits_37 rfl (by decide) (Nat.le_of_ble_eq_true rfl) rfl ?_
      refine r_goto (pc := 40) (tgt := 15) dX2_commonBits_40 (by decide) ?_
      rw [show gB σ (0) = blN (gB σ) (0 + 1) by show gB σ 0 = gB σ 0 &&& gB σ 0; rw [Nat.and_self]]
      exact x_com_l hF1 hO h ((Gs σ).length - 1) 1 (by omega) (by omega)
  · refine r_iconst (pc := 7) (v := (nI (0))) dX2_commonBits_7 (by decide) ?_
    refine r_goto (pc := 8) (tgt := 12) dX2_commonBits_8 (by decide) ?_
    refine r_istore_n (pc := 12) (ls' := [(0, .ref 12), (1, .int (nI 0))]) dX2_commonBits_12 (Nat.le_of_ble_eq_true rfl) rfl ?_
    refine r_iconst (pc := 13) (v := (nI (0))) dX2_commonBits_13 (by decide) ?_
    refine r_istore_n (pc := 14) (ls' := [(0, .ref 12), (1, .int (nI 0)), (2, .int (nI 0))]) dX2_commonBits_14 (Nat.le_of_ble_eq_true rfl) rfl ?_
    refine r_iload_n (pc := 15) dX2_commonBits_15 rfl ?_
    refine r_aload_n (pc := 16) dX2_commonBits_16 rfl ?_
    refine r_getI (pc := 17) (x := (nI ((Gs σ).length))) dX2_commonBits_17 fX2_32 rfl rfl (FO_n hF1.2) ?_
    refine rn_icmp_ge (pc := 20) (tgt := 43) dX2_commonBits_20 (by decide) (by omega) (by omega) (fun c20 => ?_) (fun c20 => ?_)
    · refine r_iload_n (pc := 43) dX2_commonBits_43 rfl ?_
      refine r_ireturn (pc := 44) dX2_commonBits_44 rfl (Or.inl rfl) rfl ?_
      have e9 : sp_blamed σ = nI 0 := by unfold sp_blamed; rw [if_pos c4]
      rw [e9] at h
      exact h
    · exact absurd c20 (by omega)

set_option maxRecDepth 20000 in
set_option maxHeartbeats 4000000 in
theorem x_blamed {μ : Mem} {σ : Sg} {Q : Option Value → Mem → Prop} (hI : XI μ σ) (hO : Ok σ) (h : ∀ μ', XI μ' σ → keepM μ μ' → Q (some (.int (sp_blamed σ))) μ') : Sp iX6_blamed 14 [.ref 0] μ Q := by
  refine Sp.of vX6_blamed.1 (Nat.le_of_ble_eq_true rfl) ?_
  show WP cX6_blamed (RX6, 1, (some .int), 14, none) 0 [(0, .ref 0)] [] μ Q
  have hn := Ok_n hO
  refine r_aload_n (pc := 0) dX6_blamed_0 rfl ?_
  refine r_callV (pc := 1) (d' := 13) (k := 0) (As := []) (rest := []) dX6_blamed_1 vX6_lookAround mX6_130 rfl rfl rfl (Nat.le_of_ble_eq_true rfl) (Nat.le_of_ble_eq_true rfl) ?_
  refine x_look hI hO (fun μ1 hF1 hk1 => ?_)
  have hX1 := hF1.1.1
  have hGl := Gs_len hO
  have hRl := rnds_le hO
  refine r_aload_n (pc := 4) dX6_blamed_4 rfl ?_
  refine r_getR (pc := 5) (r := 12) dX6_blamed_5 fX6_26 rfl rfl ?_
  refine r_callV (pc := 8) (d' := 0) (k := 12) (As := []) (rest := []) dX6_blamed_8 vX2_commonBits mX6_181 rfl rfl rfl (Nat.le_of_ble_eq_true rfl) (Nat.le_of_ble_eq_true rfl) ?_
  refine x_com hF1 hO ?_
  refine r_ireturn (pc := 11) dX6_blamed_11 rfl (Or.inl rfl) rfl ?_
  exact h _ hF1.1 hk1
