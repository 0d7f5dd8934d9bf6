set_option maxRecDepth 20000 in
set_option maxHeartbeats 4000000 in
theorem c_in {μ : Mem} {v lo hi : Int32} {Q : Option Value → Mem → Prop} (h : Q (some (.int (b2i (inR v lo hi)))) μ) : Sp iX7_in 0 [.int (v), .int (lo), .int (hi)] μ Q := by
  refine Sp.of sX7_in.1 (Nat.le_of_ble_eq_true rfl) ?_
  show WP cX7_in (RX7, 3, (some .boolean), 0, none) 0 [(0, .int (v)), (1, .int (lo)), (2, .int (hi))] [] μ Q
  refine r_iload_n (pc := 0) dX7_in_0 rfl ?_
  refine r_iload_n (pc := 1) dX7_in_1 rfl ?_
  refine r_icmp_lt (pc := 2) (tgt := 14) dX7_in_2 (by decide) (fun c2 => ?_) (fun c2 => ?_)
  · refine r_iconst (pc := 14) (v := (nI (0))) dX7_in_14 (by decide) ?_
    refine r_ireturn (pc := 15) dX7_in_15 rfl (Or.inr rfl) rfl ?_
    refine (congrArg (fun z => Q (some (.int z)) μ) (?_ : b2i (inR v lo hi) = (nI (0)))).mp h
    refine b2i_f (inR_f.mpr ?_)
    simp only [Int32.lt_iff_toInt_lt] at c2
    omega
  · refine r_iload_n (pc := 5) dX7_in_5 rfl ?_
    refine r_iload_n (pc := 6) dX7_in_6 rfl ?_
    refine r_icmp_gt (pc := 7) (tgt := 14) dX7_in_7 (by decide) (fun c7 => ?_) (fun c7 => ?_)
    · refine r_iconst (pc := 14) (v := (nI (0))) dX7_in_14 (by decide) ?_
      refine r_ireturn (pc := 15) dX7_in_15 rfl (Or.inr rfl) rfl ?_
      refine (congrArg (fun z => Q (some (.int z)) μ) (?_ : b2i (inR v lo hi) = (nI (0)))).mp h
      refine b2i_f (inR_f.mpr ?_)
      simp only [Int32.lt_iff_toInt_lt] at c2 c7
      omega
    · refine r_iconst (pc := 10) (v := (nI (1))) dX7_in_10 (by decide) ?_
      refine r_goto (pc := 11) (tgt := 15) dX7_in_11 (by decide) ?_
      refine r_ireturn (pc := 15) dX7_in_15 rfl (Or.inr rfl) rfl ?_
      refine (congrArg (fun z => Q (some (.int z)) μ) (?_ : b2i (inR v lo hi) = (nI (1)))).mp h
      refine b2i_t (inR_iff.mpr ?_)
      simp only [Int32.lt_iff_toInt_lt] at c2 c7
      omega

set_option maxRecDepth 20000 in
set_option maxHeartbeats 4000000 in
theorem c_within {μ : Mem} {v lo hi : Int32} {Q : Option Value → Mem → Prop} (h : Q (some (.int (b2i (inR v lo hi)))) μ) : Sp iX6_isWithin 0 [.int (v), .int (lo), .int (hi)] μ Q := by
  refine Sp.of sX6_isWithin.1 (Nat.le_of_ble_eq_true rfl) ?_
  show WP cX6_isWithin (RX6, 3, (some .boolean), 0, none) 0 [(0, .int (v)), (1, .int (lo)), (2, .int (hi))] [] μ Q
  refine r_iload_n (pc := 0) dX6_isWithin_0 rfl ?_
  refine r_iload_n (pc := 1) dX6_isWithin_1 rfl ?_
  refine r_icmp_lt (pc := 2) (tgt := 14) dX6_isWithin_2 (by decide) (fun c2 => ?_) (fun c2 => ?_)
  · refine r_iconst (pc := 14) (v := (nI (0))) dX6_isWithin_14 (by decide) ?_
    refine r_ireturn (pc := 15) dX6_isWithin_15 rfl (Or.inr rfl) rfl ?_
    refine (congrArg (fun z => Q (some (.int z)) μ) (?_ : b2i (inR v lo hi) = (nI (0)))).mp h
    refine b2i_f (inR_f.mpr ?_)
    simp only [Int32.lt_iff_toInt_lt] at c2
    omega
  · refine r_iload_n (pc := 5) dX6_isWithin_5 rfl ?_
    refine r_iload_n (pc := 6) dX6_isWithin_6 rfl ?_
    refine r_icmp_gt (pc := 7) (tgt := 14) dX6_isWithin_7 (by decide) (fun c7 => ?_) (fun c7 => ?_)
    · refine r_iconst (pc := 14) (v := (nI (0))) dX6_isWithin_14 (by decide) ?_
      refine r_ireturn (pc := 15) dX6_isWithin_15 rfl (Or.inr rfl) rfl ?_
      refine (congrArg (fun z => Q (some (.int z)) μ) (?_ : b2i (inR v lo hi) = (nI (0)))).mp h
      refine b2i_f (inR_f.mpr ?_)
      simp only [Int32.lt_iff_toInt_lt] at c2 c7
      omega
    · refine r_iconst (pc := 10) (v := (nI (1))) dX6_isWithin_10 (by decide) ?_
      refine r_goto (pc := 11) (tgt := 15) dX6_isWithin_11 (by decide) ?_
      refine r_ireturn (pc := 15) dX6_isWithin_15 rfl (Or.inr rfl) rfl ?_
      refine (congrArg (fun z => Q (some (.int z)) μ) (?_ : b2i (inR v lo hi) = (nI (1)))).mp h
      refine b2i_t (inR_iff.mpr ?_)
      simp only [Int32.lt_iff_toInt_lt] at c2 c7
      omega

set_option maxRecDepth 20000 in
set_option maxHeartbeats 4000000 in
theorem c_mcoin {μ : Mem} {v : Int32} {Q : Option Value → Mem → Prop} (h : Q (some (.int (b2i (isB v 8)))) μ) : Sp iX7_isCoin 1 [.int (v)] μ Q := by
  refine Sp.of sX7_isCoin.1 (Nat.le_of_ble_eq_true rfl) ?_
  show WP cX7_isCoin (RX7, 1, (some .boolean), 1, none) 0 [(0, .int (v))] [] μ Q
  refine r_iload_n (pc := 0) dX7_isCoin_0 rfl ?_
  refine r_iconst (pc := 1) (v := (nI (0))) dX7_isCoin_1 (by decide) ?_
  refine r_bipush (pc := 2) (v := (nI (7))) dX7_isCoin_2 (by decide) ?_
  refine r_callS (pc := 4) (d' := 0) (As := [.int (v), .int (nI 0), .int (nI 7)]) (rest := []) dX7_isCoin_4 sX7_in mX7_77 rfl rfl (Nat.le_of_ble_eq_true rfl) (Nat.le_of_ble_eq_true rfl) ?_
  refine c_in ?_
  refine r_ireturn (pc := 7) dX7_isCoin_7 rfl (Or.inr rfl) (b2i_nar _) ?_
  refine (congrArg (fun z => Q (some (.int (b2i z))) μ) (?_ : isB v 8 = inR v (nI 0) (nI 7))).mp h
  exact (inR_isB (n := 8) (by decide)).symm

set_option maxRecDepth 20000 in
set_option maxHeartbeats 4000000 in
theorem c_xcoin {μ : Mem} {v : Int32} {Q : Option Value → Mem → Prop} (h : Q (some (.int (b2i (isB v 8)))) μ) : Sp iX6_isCoin 0 [.int (v)] μ Q := by
  refine Sp.of sX6_isCoin.1 (Nat.le_of_ble_eq_true rfl) ?_
  show WP cX6_isCoin (RX6, 1, (some .boolean), 0, none) 0 [(0, .int (v))] [] μ Q
  refine r_iload_n (pc := 0) dX6_isCoin_0 rfl ?_
  refine r_if_lt (pc := 1) (tgt := 14) dX6_isCoin_1 (by decide) (fun c1 => ?_) (fun c1 => ?_)
  · refine r_iconst (pc := 14) (v := (nI (0))) dX6_isCoin_14 (by decide) ?_
    refine r_ireturn (pc := 15) dX6_isCoin_15 rfl (Or.inr rfl) rfl ?_
    refine (congrArg (fun z => Q (some (.int z)) μ) (?_ : b2i (isB v 8) = (nI (0)))).mp h
    simp [Int32.lt_iff_toInt_lt, Int32.le_iff_toInt_le, nI_toInt (show 8 < 2 ^ 31 by decide)] at c1
    exact b2i_f (by unfold isB; simp; omega)
  · refine r_iload_n (pc := 4) dX6_isCoin_4 rfl ?_
    refine r_bipush (pc := 5) (v := (nI (8))) dX6_isCoin_5 (by decide) ?_
    refine r_icmp_ge (pc := 7) (tgt := 14) dX6_isCoin_7 (by decide) (fun c7 => ?_) (fun c7 => ?_)
    · refine r_iconst (pc := 14) (v := (nI (0))) dX6_isCoin_14 (by decide) ?_
      refine r_ireturn (pc := 15) dX6_isCoin_15 rfl (Or.inr rfl) rfl ?_
      refine (congrArg (fun z => Q (some (.int z)) μ) (?_ : b2i (isB v 8) = (nI (0)))).mp h
      simp [Int32.lt_iff_toInt_lt, Int32.le_iff_toInt_le, nI_toInt (show 8 < 2 ^ 31 by decide)] at c1 c7
      exact b2i_f (by unfold isB; simp; omega)
    · refine r_iconst (pc := 10) (v := (nI (1))) dX6_isCoin_10 (by decide) ?_
      refine r_goto (pc := 11) (tgt := 15) dX6_isCoin_11 (by decide) ?_
      refine r_ireturn (pc := 15) dX6_isCoin_15 rfl (Or.inr rfl) rfl ?_
      refine (congrArg (fun z => Q (some (.int z)) μ) (?_ : b2i (isB v 8) = (nI (1)))).mp h
      simp [Int32.lt_iff_toInt_lt, Int32.le_iff_toInt_le, nI_toInt (show 8 < 2 ^ 31 by decide)] at c1 c7
      exact b2i_t (by unfold isB; simp; omega)

set_option maxRecDepth 20000 in
set_option maxHeartbeats 4000000 in
theorem c_mboard {μ : Mem} {σ : Sg} {b : Int32} {Q : Option Value → Mem → Prop} (hM : Ms μ σ) (hO : Ok σ) (h : Q (some (.int (b2i (isB b (σ 0 0))))) μ) : Sp iX7_isBoard 1 [.ref 40, .int (b)] μ Q := by
  refine Sp.of vX7_isBoard.1 (Nat.le_of_ble_eq_true rfl) ?_
  show WP cX7_isBoard (RX7, 2, (some .boolean), 1, none) 0 [(0, .ref 40), (1, .int (b))] [] μ Q
  have hn := Ok_n hO
  refine r_iload_n (pc := 0) dX7_isBoard_0 rfl ?_
  refine r_iconst (pc := 1) (v := (nI (0))) dX7_isBoard_1 (by decide) ?_
  refine r_aload_n (pc := 2) dX7_isBoard_2 rfl ?_
  refine r_getI (pc := 3) (x := (nI (σ 0 0))) dX7_isBoard_3 fX7_81 rfl rfl (Ms_n (μ := μ) hM) ?_
  refine r_iconst (pc := 6) (v := (nI (1))) dX7_isBoard_6 (by decide) ?_
  refine r_isub (pc := 7) dX7_isBoard_7 ?_
  refine r_callS (pc := 8) (d' := 0) (As := [.int (b), .int (nI 0), .int ((nI (σ 0 0)) - (nI (1)))]) (rest := []) dX7_isBoard_8 sX7_in mX7_77 rfl rfl (Nat.le_of_ble_eq_true rfl) (Nat.le_of_ble_eq_true rfl) ?_
  refine c_in ?_
  refine r_ireturn (pc := 11) dX7_isBoard_11 rfl (Or.inr rfl) (b2i_nar _) ?_
  refine (congrArg (fun z => Q (some (.int (b2i z))) μ) (?_ : isB b (σ 0 0) = inR b (nI 0) (nI (σ 0 0) - nI 1))).mp h
  exact (inR_isB (by omega)).symm

set_option maxRecDepth 20000 in
set_option maxHeartbeats 4000000 in
theorem c_has {μ : Mem} {σ : Sg} {b : Int32} {Q : Option Value → Mem → Prop} (hX : Xs μ σ) (hO : Ok σ) (h : Q (some (.int (b2i (isB b (σ 0 0))))) μ) : Sp iX0_has 0 [.ref 1, .int (b)] μ Q := by
  refine Sp.of vX0_has.1 (Nat.le_of_ble_eq_true rfl) ?_
  show WP cX0_has (RX0, 2, (some .boolean), 0, none) 0 [(0, .ref 1), (1, .int (b))] [] μ Q
  have hn := Ok_n hO
  refine r_iload_n (pc := 0) dX0_has_0 rfl ?_
  refine r_if_lt (pc := 1) (tgt := 16) dX0_has_1 (by decide) (fun c1 => ?_) (fun c1 => ?_)
  · refine r_iconst (pc := 16) (v := (nI (0))) dX0_has_16 (by decide) ?_
    refine r_ireturn (pc := 17) dX0_has_17 rfl (Or.inr rfl) rfl ?_
    refine (congrArg (fun z => Q (some (.int z)) μ) (?_ : b2i (isB b (σ 0 0)) = (nI (0)))).mp h
    simp [Int32.lt_iff_toInt_lt, Int32.le_iff_toInt_le, nI_toInt (show σ 0 0 < 2 ^ 31 by omega)] at c1
    exact b2i_f (by unfold isB; simp; omega)
  · refine r_iload_n (pc := 4) dX0_has_4 rfl ?_
    refine r_aload_n (pc := 5) dX0_has_5 rfl ?_
    refine r_getI (pc := 6) (x := (nI (σ 0 0))) dX0_has_6 fX0_36 rfl rfl (Xs_n (μ := μ) hX) ?_
    refine r_icmp_ge (pc := 9) (tgt := 16) dX0_has_9 (by decide) (fun c9 => ?_) (fun c9 => ?_)
    · refine r_iconst (pc := 16) (v := (nI (0))) dX0_has_16 (by decide) ?_
      refine r_ireturn (pc := 17) dX0_has_17 rfl (Or.inr rfl) rfl ?_
      refine (congrArg (fun z => Q (some (.int z)) μ) (?_ : b2i (isB b (σ 0 0)) = (nI (0)))).mp h
      simp [Int32.lt_iff_toInt_lt, Int32.le_iff_toInt_le, nI_toInt (show σ 0 0 < 2 ^ 31 by omega)] at c1 c9
      exact b2i_f (by unfold isB; simp; omega)
    · refine r_iconst (pc := 12) (v := (nI (1))) dX0_has_12 (by decide) ?_
      refine r_goto (pc := 13) (tgt := 17) dX0_has_13 (by decide) ?_
      refine r_ireturn (pc := 17) dX0_has_17 rfl (Or.inr rfl) rfl ?_
      refine (congrArg (fun z => Q (some (.int z)) μ) (?_ : b2i (isB b (σ 0 0)) = (nI (1)))).mp h
      simp [Int32.lt_iff_toInt_lt, Int32.le_iff_toInt_le, nI_toInt (show σ 0 0 < 2 ^ 31 by omega)] at c1 c9
      exact b2i_t (by unfold isB; simp; omega)

set_option maxRecDepth 20000 in
set_option maxHeartbeats 4000000 in
theorem c_mopen {μ : Mem} {σ : Sg} {b : Nat} {Q : Option Value → Mem → Prop} (hM : Ms μ σ) (hO : Ok σ) (hb : b < σ 0 0) (h : Q (some (.int (b2i (opn σ b)))) μ) : Sp iX7_isOpen 1 [.ref 40, .int (nI b)] μ Q := by
  refine Sp.of vX7_isOpen.1 (Nat.le_of_ble_eq_true rfl) ?_
  show WP cX7_isOpen (RX7, 2, (some .boolean), 1, none) 0 [(0, .ref 40), (1, .int (nI b))] [] μ Q
  have hn := Ok_n hO
  refine r_aload_n (pc := 0) dX7_isOpen_0 rfl ?_
  refine r_getR (pc := 1) (r := 48) dX7_isOpen_1 fX7_31 rfl rfl ?_
  refine r_iconst (pc := 4) (v := (nI (1))) dX7_isOpen_4 (by decide) ?_
  refine r_iald (pc := 5) (x := (nI (σ 0 2))) dX7_isOpen_5 rfl rfl (by omega) (Ms_now (μ := μ) hM) ?_
  refine r_aload_n (pc := 6) dX7_isOpen_6 rfl ?_
  refine r_getR (pc := 7) (r := 45) dX7_isOpen_7 fX7_22 rfl rfl ?_
  refine r_iload_n (pc := 10) dX7_isOpen_10 rfl ?_
  refine r_iald (pc := 11) (x := (nI (σ 5 (b)))) dX7_isOpen_11 rfl rfl (by omega) (Ms_5 (μ := μ) hM (by omega)) ?_
  have b1 := Ok_b hO (j := b) (by omega)
  refine r_aload_n (pc := 12) dX7_isOpen_12 rfl ?_
  refine r_getR (pc := 13) (r := 46) dX7_isOpen_13 fX7_25 rfl rfl ?_
  refine r_iload_n (pc := 16) dX7_isOpen_16 rfl ?_
  refine r_iald (pc := 17) (x := (nI (σ 6 (b)))) dX7_isOpen_17 rfl rfl (by omega) (Ms_6 (μ := μ) hM (by omega)) ?_
  have b2 := Ok_b hO (j := b) (by omega)
  refine r_callS (pc := 18) (d' := 0) (As := [.int (nI (σ 0 2)), .int (nI (σ 5 (b))), .int (nI (σ 6 (b)))]) (rest := []) dX7_isOpen_18 sX7_in mX7_77 rfl rfl (Nat.le_of_ble_eq_true rfl) (Nat.le_of_ble_eq_true rfl) ?_
  refine c_in ?_
  refine r_ireturn (pc := 21) dX7_isOpen_21 rfl (Or.inr rfl) (b2i_nar _) ?_
  refine (congrArg (fun z => Q (some (.int (b2i z))) μ) (?_ : opn σ b = _)).mp h
  exact (inR_nat (by omega) (by omega) (by omega)).symm

set_option maxRecDepth 20000 in
set_option maxHeartbeats 4000000 in
theorem c_xopen {μ : Mem} {σ : Sg} {b : Nat} {Q : Option Value → Mem → Prop} (hX : Xs μ σ) (hO : Ok σ) (hb : b < σ 0 0) (h : Q (some (.int (b2i (opn σ b)))) μ) : Sp iX0_isOpen 1 [.ref 1, .int (nI b)] μ Q := by
  refine Sp.of vX0_isOpen.1 (Nat.le_of_ble_eq_true rfl) ?_
  show WP cX0_isOpen (RX0, 2, (some .boolean), 1, none) 0 [(0, .ref 1), (1, .int (nI b))] [] μ Q
  have hn := Ok_n hO
  refine r_aload_n (pc := 0) dX0_isOpen_0 rfl ?_
  refine r_iload_n (pc := 1) dX0_isOpen_1 rfl ?_
  refine r_callV (pc := 2) (d' := 0) (k := 1) (As := [.int (nI b)]) (rest := []) dX0_isOpen_2 vX0_has mX0_41 rfl rfl rfl (Nat.le_of_ble_eq_true rfl) (Nat.le_of_ble_eq_true rfl) ?_
  refine c_has hX hO ?_
  refine rb_if_eq (pc := 5) (tgt := 36) dX0_isOpen_5 (by decide) (fun c5 => ?_) (fun c5 => ?_)
  · rw [isB_nat (by omega)] at c5
    simp at c5
    omega
  · refine r_aload_n (pc := 8) dX0_isOpen_8 rfl ?_
    refine r_getR (pc := 9) (r := 9) dX0_isOpen_9 fX0_33 rfl rfl ?_
    refine r_iconst (pc := 12) (v := (nI (1))) dX0_isOpen_12 (by decide) ?_
    refine r_iald (pc := 13) (x := (nI (σ 0 2))) dX0_isOpen_13 rfl rfl (by omega) (Xs_now (μ := μ) hX) ?_
    refine r_aload_n (pc := 14) dX0_isOpen_14 rfl ?_
    refine r_getR (pc := 15) (r := 6) dX0_isOpen_15 fX0_24 rfl rfl ?_
    refine r_iload_n (pc := 18) dX0_isOpen_18 rfl ?_
    refine r_iald (pc := 19) (x := (nI (σ 5 (b)))) dX0_isOpen_19 rfl rfl (by omega) (Xs_5 (μ := μ) hX (by omega)) ?_
    have b1 := Ok_b hO (j := b) (by omega)
    refine r_aload_n (pc := 20) dX0_isOpen_20 rfl ?_
    refine r_getR (pc := 21) (r := 7) dX0_isOpen_21 fX0_27 rfl rfl ?_
    refine r_iload_n (pc := 24) dX0_isOpen_24 rfl ?_
    refine r_iald (pc := 25) (x := (nI (σ 6 (b)))) dX0_isOpen_25 rfl rfl (by omega) (Xs_6 (μ := μ) hX (by omega)) ?_
    have b2 := Ok_b hO (j := b) (by omega)
    refine r_callN (pc := 26) (d' := 0) (As := [.int (nI (σ 0 2)), .int (nI (σ 5 (b))), .int (nI (σ 6 (b)))]) (rest := []) dX0_isOpen_26 sX6_isWithin nX0_45 rfl rfl (Nat.le_of_ble_eq_true rfl) (Nat.le_of_ble_eq_true rfl) ?_
    refine c_within ?_
    refine rb_if_eq (pc := 29) (tgt := 36) dX0_isOpen_29 (by decide) (fun c29 => ?_) (fun c29 => ?_)
    · refine r_iconst (pc := 36) (v := (nI (0))) dX0_isOpen_36 (by decide) ?_
      refine r_ireturn (pc := 37) dX0_isOpen_37 rfl (Or.inr rfl) rfl ?_
      refine (congrArg (fun z => Q (some (.int z)) μ) (?_ : b2i (opn σ b) = nI 0)).mp h
      refine b2i_f ?_
      rw [inR_nat (by omega) (by omega) (by omega)] at c29
      exact c29
    · refine r_iconst (pc := 32) (v := (nI (1))) dX0_isOpen_32 (by decide) ?_
      refine r_goto (pc := 33) (tgt := 37) dX0_isOpen_33 (by decide) ?_
      refine r_ireturn (pc := 37) dX0_isOpen_37 rfl (Or.inr rfl) rfl ?_
      refine (congrArg (fun z => Q (some (.int z)) μ) (?_ : b2i (opn σ b) = nI 1)).mp h
      refine b2i_t ?_
      rw [inR_nat (by omega) (by omega) (by omega)] at c29
      exact c29

theorem ups_le {g f : Nat} (hg : g < 2 ^ 30) (hf : f < 2 ^ 30) : (nI 1 : Int32) ≤ nI g - nI f ↔ f < g := by
  rw [Int32.le_iff_toInt_le, pk_sub_toInt hg hf, nI_toInt (by decide)]
  omega

set_option maxRecDepth 20000 in
set_option maxHeartbeats 4000000 in
theorem c_mupper {μ : Mem} {σ : Sg} {b : Nat} {Q : Option Value → Mem → Prop} (hM : Ms μ σ) (hO : Ok σ) (hb : b < σ 0 0) (h : Q (some (.int (nI (upR (σ 4 b) (σ 0 1))))) μ) : Sp iX7_upper 0 [.ref 40, .int (nI b)] μ Q := by
  refine Sp.of vX7_upper.1 (Nat.le_of_ble_eq_true rfl) ?_
  show WP cX7_upper (RX7, 2, (some .int), 0, none) 0 [(0, .ref 40), (1, .int (nI b))] [] μ Q
  have hn := Ok_n hO
  have hbb := Ok_b hO (j := b) (by omega)
  refine r_aload_n (pc := 0) dX7_upper_0 rfl ?_
  refine r_getR (pc := 1) (r := 44) dX7_upper_1 fX7_19 rfl rfl ?_
  refine r_iload_n (pc := 4) dX7_upper_4 rfl ?_
  refine r_iald (pc := 5) (x := (nI (σ 4 (b)))) dX7_upper_5 rfl rfl (by omega) (Ms_4 (μ := μ) hM (by omega)) ?_
  have b1 := Ok_b hO (j := b) (by omega)
  refine r_aload_n (pc := 6) dX7_upper_6 rfl ?_
  refine r_getR (pc := 7) (r := 48) dX7_upper_7 fX7_31 rfl rfl ?_
  refine r_iconst (pc := 10) (v := (nI (0))) dX7_upper_10 (by decide) ?_
  refine r_iald (pc := 11) (x := (nI (σ 0 1))) dX7_upper_11 rfl rfl (by omega) (Ms_fee (μ := μ) hM) ?_
  refine r_isub (pc := 12) dX7_upper_12 ?_
  refine r_iconst (pc := 13) (v := (nI (1))) dX7_upper_13 (by decide) ?_
  refine r_icmp_ge (pc := 14) (tgt := 21) dX7_upper_14 (by decide) (fun c14 => ?_) (fun c14 => ?_)
  · refine r_aload_n (pc := 21) dX7_upper_21 rfl ?_
    refine r_getR (pc := 22) (r := 44) dX7_upper_22 fX7_19 rfl rfl ?_
    refine r_iload_n (pc := 25) dX7_upper_25 rfl ?_
    refine r_iald (pc := 26) (x := (nI (σ 4 (b)))) dX7_upper_26 rfl rfl (by omega) (Ms_4 (μ := μ) hM (by omega)) ?_
    have b2 := Ok_b hO (j := b) (by omega)
    refine r_aload_n (pc := 27) dX7_upper_27 rfl ?_
    refine r_getR (pc := 28) (r := 48) dX7_upper_28 fX7_31 rfl rfl ?_
    refine r_iconst (pc := 31) (v := (nI (0))) dX7_upper_31 (by decide) ?_
    refine r_iald (pc := 32) (x := (nI (σ 0 1))) dX7_upper_32 rfl rfl (by omega) (Ms_fee (μ := μ) hM) ?_
    refine r_isub (pc := 33) dX7_upper_33 ?_
    refine r_ireturn (pc := 34) dX7_upper_34 rfl (Or.inl rfl) rfl ?_
    rw [show (nI 1 : Int32) ≤ nI (σ 4 b) - nI (σ 0 1) ↔ (σ 0 1) < (σ 4 b) from ups_le (by omega) (by omega)] at c14
    refine (congrArg (fun z => Q (some (.int z)) μ) (?_ : nI (upR (σ 4 b) (σ 0 1)) = nI (σ 4 b) - nI (σ 0 1))).mp h
    unfold upR
    rw [if_neg (by omega), nI_sub (by omega)]
  · refine r_iconst (pc := 17) (v := (nI (1))) dX7_upper_17 (by decide) ?_
    refine r_goto (pc := 18) (tgt := 34) dX7_upper_18 (by decide) ?_
    refine r_ireturn (pc := 34) dX7_upper_34 rfl (Or.inl rfl) rfl ?_
    rw [show (nI 1 : Int32) ≤ nI (σ 4 b) - nI (σ 0 1) ↔ (σ 0 1) < (σ 4 b) from ups_le (by omega) (by omega)] at c14
    refine (congrArg (fun z => Q (some (.int z)) μ) (?_ : nI (upR (σ 4 b) (σ 0 1)) = nI 1)).mp h
    unfold upR
    rw [if_pos (by omega)]

set_option maxRecDepth 20000 in
set_option maxHeartbeats 4000000 in
theorem c_rate {μ : Mem} {g f : Nat} {Q : Option Value → Mem → Prop} (hg : g < 1000) (hf : f < 1000) (h : Q (some (.int (nI (upR g f)))) μ) : Sp iX6_rateUpper 0 [.int (nI g), .int (nI f)] μ Q := by
  refine Sp.of sX6_rateUpper.1 (Nat.le_of_ble_eq_true rfl) ?_
  show WP cX6_rateUpper (RX6, 2, (some .int), 0, none) 0 [(0, .int (nI g)), (1, .int (nI f))] [] μ Q
  refine r_iload_n (pc := 0) dX6_rateUpper_0 rfl ?_
  refine r_iload_n (pc := 1) dX6_rateUpper_1 rfl ?_
  refine r_isub (pc := 2) dX6_rateUpper_2 ?_
  refine r_iconst (pc := 3) (v := (nI (1))) dX6_rateUpper_3 (by decide) ?_
  refine r_icmp_ge (pc := 4) (tgt := 11) dX6_rateUpper_4 (by decide) (fun c4 => ?_) (fun c4 => ?_)
  · refine r_iload_n (pc := 11) dX6_rateUpper_11 rfl ?_
    refine r_iload_n (pc := 12) dX6_rateUpper_12 rfl ?_
    refine r_isub (pc := 13) dX6_rateUpper_13 ?_
    refine r_ireturn (pc := 14) dX6_rateUpper_14 rfl (Or.inl rfl) rfl ?_
    rw [show (nI 1 : Int32) ≤ nI (g) - nI (f) ↔ (f) < (g) from ups_le (by omega) (by omega)] at c4
    refine (congrArg (fun z => Q (some (.int z)) μ) (?_ : nI (upR (g) (f)) = nI (g) - nI (f))).mp h
    unfold upR
    rw [if_neg (by omega), nI_sub (by omega)]
  · refine r_iconst (pc := 7) (v := (nI (1))) dX6_rateUpper_7 (by decide) ?_
    refine r_goto (pc := 8) (tgt := 14) dX6_rateUpper_8 (by decide) ?_
    refine r_ireturn (pc := 14) dX6_rateUpper_14 rfl (Or.inl rfl) rfl ?_
    rw [show (nI 1 : Int32) ≤ nI (g) - nI (f) ↔ (f) < (g) from ups_le (by omega) (by omega)] at c4
    refine (congrArg (fun z => Q (some (.int z)) μ) (?_ : nI (upR (g) (f)) = nI 1)).mp h
    unfold upR
    rw [if_pos (by omega)]

set_option maxRecDepth 20000 in
set_option maxHeartbeats 4000000 in
theorem c_xupper {μ : Mem} {σ : Sg} {b : Nat} {Q : Option Value → Mem → Prop} (hX : Xs μ σ) (hO : Ok σ) (hb : b < σ 0 0) (h : Q (some (.int (nI (upR (σ 4 b) (σ 0 1))))) μ) : Sp iX0_upper 1 [.ref 1, .int (nI b)] μ Q := by
  refine Sp.of vX0_upper.1 (Nat.le_of_ble_eq_true rfl) ?_
  show WP cX0_upper (RX0, 2, (some .int), 1, none) 0 [(0, .ref 1), (1, .int (nI b))] [] μ Q
  have hn := Ok_n hO
  refine r_aload_n (pc := 0) dX0_upper_0 rfl ?_
  refine r_iload_n (pc := 1) dX0_upper_1 rfl ?_
  refine r_callV (pc := 2) (d' := 0) (k := 1) (As := [.int (nI b)]) (rest := []) dX0_upper_2 vX0_has mX0_41 rfl rfl rfl (Nat.le_of_ble_eq_true rfl) (Nat.le_of_ble_eq_true rfl) ?_
  refine c_has hX hO ?_
  refine rb_if_eq (pc := 5) (tgt := 26) dX0_upper_5 (by decide) (fun c5 => ?_) (fun c5 => ?_)
  · rw [isB_nat (by omega)] at c5
    simp at c5
    omega
  · refine r_aload_n (pc := 8) dX0_upper_8 rfl ?_
    refine r_getR (pc := 9) (r := 5) dX0_upper_9 fX0_21 rfl rfl ?_
    refine r_iload_n (pc := 12) dX0_upper_12 rfl ?_
    refine r_iald (pc := 13) (x := (nI (σ 4 (b)))) dX0_upper_13 rfl rfl (by omega) (Xs_4 (μ := μ) hX (by omega)) ?_
    have b1 := Ok_b hO (j := b) (by omega)
    refine r_aload_n (pc := 14) dX0_upper_14 rfl ?_
    refine r_getR (pc := 15) (r := 9) dX0_upper_15 fX0_33 rfl rfl ?_
    refine r_iconst (pc := 18) (v := (nI (0))) dX0_upper_18 (by decide) ?_
    refine r_iald (pc := 19) (x := (nI (σ 0 1))) dX0_upper_19 rfl rfl (by omega) (Xs_fee (μ := μ) hX) ?_
    refine r_callN (pc := 20) (d' := 0) (As := [.int (nI (σ 4 (b))), .int (nI (σ 0 1))]) (rest := []) dX0_upper_20 sX6_rateUpper nX0_52 rfl rfl (Nat.le_of_ble_eq_true rfl) (Nat.le_of_ble_eq_true rfl) ?_
    refine c_rate (by omega) (by omega) ?_
    refine r_goto (pc := 23) (tgt := 27) dX0_upper_23 (by decide) ?_
    refine r_ireturn (pc := 27) dX0_upper_27 rfl (Or.inl rfl) rfl ?_
    exact h
