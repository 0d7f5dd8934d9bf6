/-! THE CLASS: gets, span, joined, parts -/
def frU (μ μ' : Mem) : Prop := (∀ k, ¬ k = 21 → μ'.1 k = μ.1 k) ∧ ∀ k, ¬ k = 19 → ¬ k = 20 → μ'.2 k = μ.2 k
theorem frU.rf {μ : Mem} : frU μ μ := ⟨fun _ _ => rfl, fun _ _ _ => rfl⟩
theorem frU.tr {μ μ' μ'' : Mem} (h : frU μ μ') (h' : frU μ' μ'') : frU μ μ'' := ⟨fun k a => (h'.1 k a).trans (h.1 k a), fun k a b => (h'.2 k a b).trans (h.2 k a b)⟩
theorem frU.keep {μ μ' : Mem} (h : frU μ μ') : keepM μ μ' := fun k hk => ⟨h.1 k (by omega), h.2 k (by omega) (by omega)⟩
theorem frU.s19 {μ μ' : Mem} {j : Nat} {v : Int64} (h : frU μ μ') : frU μ (setL μ' 19 j v) := ⟨h.1, fun k a b => (if_neg a).trans (h.2 k a b)⟩
theorem frU.s20 {μ μ' : Mem} {j : Nat} {v : Int64} (h : frU μ μ') : frU μ (setL μ' 20 j v) := ⟨h.1, fun k a b => (if_neg b).trans (h.2 k a b)⟩
theorem frU.s21 {μ μ' : Mem} {j : Nat} {v : Int32} (h : frU μ μ') : frU μ (setI μ' 21 j v) := ⟨fun k a => (if_neg a).trans (h.1 k a), h.2⟩
theorem XI_frU {μ μ' : Mem} {σ : Sg} (h : frU μ μ') (hI : XI μ σ) : XI μ' σ := by
  unfold XI Xs Xc FoundOK SentOK
  rw [h.2 13 (by decide) (by decide), h.2 14 (by decide) (by decide), h.1 1 (by decide), h.1 2 (by decide), h.1 3 (by decide), h.1 4 (by decide), h.1 5 (by decide), h.1 6 (by decide), h.1 7 (by decide), h.1 8 (by decide), h.1 9 (by decide), h.1 10 (by decide), h.1 11 (by decide), h.1 12 (by decide), h.1 15 (by decide), h.1 16 (by decide), h.1 37 (by decide), h.1 38 (by decide), h.1 39 (by decide)]
  exact hI
theorem Xs_frU {μ μ' : Mem} {σ : Sg} (h : frU μ μ') (hX : Xs μ σ) : Xs μ' σ := by
  unfold Xs
  rw [h.1 1 (by decide), h.1 2 (by decide), h.1 3 (by decide), h.1 4 (by decide), h.1 5 (by decide), h.1 6 (by decide), h.1 7 (by decide), h.1 8 (by decide), h.1 9 (by decide), h.1 10 (by decide), h.1 11 (by decide), h.1 39 (by decide)]
  exact hX
def Um (μ : Mem) (u : FrP) : Prop := ∀ j, j < 8 → μ.2 19 j = lN (u.1 j) ∧ μ.2 20 j = lN (u.2 j)
theorem updL_at (f : Nat → Int64) (k : Nat) (x : Int64) (i : Nat) : vp_updL f k x i = if i = k then x else f i := rfl
theorem bN_0 : bN (nI 0) = 0 := bN_nI (by decide)
theorem bN_1 : bN (nI 1) = 1 := bN_nI (by decide)
theorem p7 : 99 ^ 7 * 99 < 2 ^ 63 := by decide +kernel

set_option maxRecDepth 20000 in
set_option maxHeartbeats 4000000 in
theorem x_goOver {μ μ0 : Mem} {σ : Sg} {s b : Nat} {u : FrP} {Q : Option Value → Mem → Prop} (hX : Xs μ σ) (hO : Ok σ) (hs : s < 8) (hI : Inv σ s u) (hb : b < σ 0 0) (hU : Um μ u) (hf0 : frU μ0 μ) (h : ∀ μ', frU μ0 μ' → Um μ' (go1 σ u b) → Q none μ') : Sp iX5_goOver 2 [.ref 18, .ref 1, .int (nI b)] μ Q := by
  refine Sp.of vX5_goOver.1 (Nat.le_of_ble_eq_true rfl) ?_
  show WP cX5_goOver (RX5, 11, none, 2, none) 0 [(0, .ref 18), (1, .ref 1), (2, .int (nI b))] [] μ Q
  have hn := Ok_n hO
  have hbb := Ok_b hO (j := b) (by omega)
  have hbp := Ok_p hO hb
  have i1 := Inv_bd hO hs (hI _ hbb.1)
  have i2 := Inv_bd hO hs (hI _ hbb.2.2.1)
  have h99 : upR (σ 4 b) (σ 0 1) ≤ 99 := upR_99 hbb.2.2.2.1
  have hp7 := p7
  have m1 : u.1 (σ 1 b) * ub σ b ≤ 99 ^ 7 * 99 := Nat.mul_le_mul i1.1 h99
  have m2 : u.2 (σ 1 b) * σ 2 b ≤ 99 ^ 7 * 99 := Nat.mul_le_mul i1.2.2 hbb.2.1
  have m3 : 0 < u.2 (σ 1 b) * σ 2 b := Nat.mul_pos i1.2.1 hbp.2.1
  have m4 : (99 : Nat) ^ 7 < 2 ^ 63 := by decide +kernel
  refine r_aload_n (pc := 0) dX5_goOver_0 rfl ?_
  refine r_getR (pc := 1) (r := 2) dX5_goOver_1 fX5_36 rfl rfl ?_
  refine r_iload_n (pc := 4) dX5_goOver_4 rfl ?_
  refine r_iald (pc := 5) (x := (nI (σ 1 (b)))) dX5_goOver_5 rfl rfl (by omega) (Xs_1 (μ := μ) hX (by omega)) ?_
  have b1 := Ok_b hO (j := b) (by omega)
  refine r_istore_n (pc := 6) (ls' := [(0, .ref 18), (1, .ref 1), (2, .int (nI b)), (3, .int (nI (σ 1 (b))))]) dX5_goOver_6 (Nat.le_of_ble_eq_true rfl) rfl ?_
  refine r_aload_n (pc := 7) dX5_goOver_7 rfl ?_
  refine r_getR (pc := 8) (r := 4) dX5_goOver_8 fX5_39 rfl rfl ?_
  refine r_iload_n (pc := 11) dX5_goOver_11 rfl ?_
  refine r_iald (pc := 12) (x := (nI (σ 3 (b)))) dX5_goOver_12 rfl rfl (by omega) (Xs_3 (μ := μ) hX (by omega)) ?_
  have b2 := Ok_b hO (j := b) (by omega)
  refine r_istore (pc := 13) (ls' := [(0, .ref 18), (1, .ref 1), (2, .int (nI b)), (3, .int (nI (σ 1 (b)))), (4, .int (nI (σ 3 (b))))]) dX5_goOver_13 (Nat.le_of_ble_eq_true rfl) rfl ?_
  refine r_aload_n (pc := 15) dX5_goOver_15 rfl ?_
  refine r_getR (pc := 16) (r := 19) dX5_goOver_16 fX5_9 rfl rfl ?_
  refine r_iload_n (pc := 19) dX5_goOver_19 rfl ?_
  refine r_lald (pc := 20) (x := (lN (u.1 (σ 1 (b))))) dX5_goOver_20 rfl rfl (by omega) (hU _ (by omega)).1 ?_
  refine r_aload_n (pc := 21) dX5_goOver_21 rfl ?_
  refine r_iload_n (pc := 22) dX5_goOver_22 rfl ?_
  refine r_callV (pc := 23) (d' := 1) (k := 1) (As := [.int (nI b)]) (rest := [.long (lN (u.1 (σ 1 (b))))]) dX5_goOver_23 vX0_upper mX5_42 rfl rfl rfl (Nat.le_of_ble_eq_true rfl) (Nat.le_of_ble_eq_true rfl) ?_
  refine c_xupper (μ := μ) hX hO (by omega) ?_
  refine rn_i2l (pc := 26) dX5_goOver_26 (by omega) ?_
  refine rn_lmul (pc := 27) dX5_goOver_27 ?_
  refine r_lstore (pc := 28) (ls' := [(0, .ref 18), (1, .ref 1), (2, .int (nI b)), (3, .int (nI (σ 1 (b)))), (4, .int (nI (σ 3 (b)))), (5, .long (lN (u.1 (σ 1 b) * ub σ b)))]) dX5_goOver_28 (Nat.le_of_ble_eq_true rfl) rfl ?_
  refine r_aload_n (pc := 30) dX5_goOver_30 rfl ?_
  refine r_getR (pc := 31) (r := 20) dX5_goOver_31 fX5_15 rfl rfl ?_
  refine r_iload_n (pc := 34) dX5_goOver_34 rfl ?_
  refine r_lald (pc := 35) (x := (lN (u.2 (σ 1 (b))))) dX5_goOver_35 rfl rfl (by omega) (hU _ (by omega)).2 ?_
  refine r_aload_n (pc := 36) dX5_goOver_36 rfl ?_
  refine r_getR (pc := 37) (r := 3) dX5_goOver_37 fX5_45 rfl rfl ?_
  refine r_iload_n (pc := 40) dX5_goOver_40 rfl ?_
  refine r_iald (pc := 41) (x := (nI (σ 2 (b)))) dX5_goOver_41 rfl rfl (by omega) (Xs_2 (μ := μ) hX (by omega)) ?_
  have b3 := Ok_b hO (j := b) (by omega)
  refine rn_i2l (pc := 42) dX5_goOver_42 (by omega) ?_
  refine rn_lmul (pc := 43) dX5_goOver_43 ?_
  refine r_lstore (pc := 44) (ls' := [(0, .ref 18), (1, .ref 1), (2, .int (nI b)), (3, .int (nI (σ 1 (b)))), (4, .int (nI (σ 3 (b)))), (5, .long (lN (u.1 (σ 1 b) * ub σ b))), (7, .long (lN (u.2 (σ 1 b) * σ 2 b)))]) dX5_goOver_44 (Nat.le_of_ble_eq_true rfl) rfl ?_
  refine r_lload (pc := 46) dX5_goOver_46 rfl ?_
  refine r_lload (pc := 48) dX5_goOver_48 rfl ?_
  refine r_aload_n (pc := 50) dX5_goOver_50 rfl ?_
  refine r_getR (pc := 51) (r := 19) dX5_goOver_51 fX5_9 rfl rfl ?_
  refine r_iload (pc := 54) dX5_goOver_54 rfl ?_
  refine r_lald (pc := 56) (x := (lN (u.1 (σ 3 (b))))) dX5_goOver_56 rfl rfl (by omega) (hU _ (by omega)).1 ?_
  refine r_aload_n (pc := 57) dX5_goOver_57 rfl ?_
  refine r_getR (pc := 58) (r := 20) dX5_goOver_58 fX5_15 rfl rfl ?_
  refine r_iload (pc := 61) dX5_goOver_61 rfl ?_
  refine r_lald (pc := 63) (x := (lN (u.2 (σ 3 (b))))) dX5_goOver_63 rfl rfl (by omega) (hU _ (by omega)).2 ?_
  refine r_callN (pc := 64) (d' := 0) (As := [.long (lN (u.1 (σ 1 b) * ub σ b)), .long (lN (u.2 (σ 1 b) * σ 2 b)), .long (lN (u.1 (σ 3 (b)))), .long (lN (u.2 (σ 3 (b))))]) (rest := []) dX5_goOver_64 sX6_isAbove nX5_48 rfl rfl (Nat.le_of_ble_eq_true rfl) (Nat.le_of_ble_eq_true rfl) ?_
  refine c_above (by omega) (by omega) (by omega) (by omega) (by omega) (by omega) ?_
  refine rb_if_eq (pc := 67) (tgt := 107) dX5_goOver_67 (by decide) (fun c67 => ?_) (fun c67 => ?_)
  · refine r_return (pc := 107) dX5_goOver_107 rfl ?_
    have e9 : go1 σ u b = u := if_neg (by rw [show above (u.1 (σ 1 b) * ub σ b) (u.2 (σ 1 b) * σ 2 b) (u.1 (σ 3 b)) (u.2 (σ 3 b)) = false from c67]; decide)
    rw [e9] at h
    exact h _ hf0 hU
  · refine r_lload (pc := 70) dX5_goOver_70 rfl ?_
    refine r_lload (pc := 72) dX5_goOver_72 rfl ?_
    refine r_callN (pc := 74) (d' := 0) (As := [.long (lN (u.1 (σ 1 b) * ub σ b)), .long (lN (u.2 (σ 1 b) * σ 2 b))]) (rest := []) dX5_goOver_74 sX6_greatestDivisor nX5_52 rfl rfl (Nat.le_of_ble_eq_true rfl) (Nat.le_of_ble_eq_true rfl) ?_
    have hgp : 0 < Nat.gcd (u.1 (σ 1 b) * ub σ b) (u.2 (σ 1 b) * σ 2 b) := Nat.gcd_pos_of_pos_right _ (by omega)
    have hgl2 : Nat.gcd (u.1 (σ 1 b) * ub σ b) (u.2 (σ 1 b) * σ 2 b) ≤ u.2 (σ 1 b) * σ 2 b := Nat.gcd_le_right _ (by omega)
    refine c_gcd (by omega) (by omega) ?_
    refine r_lstore (pc := 77) (ls' := [(0, .ref 18), (1, .ref 1), (2, .int (nI b)), (3, .int (nI (σ 1 (b)))), (4, .int (nI (σ 3 (b)))), (5, .long (lN (u.1 (σ 1 b) * ub σ b))), (7, .long (lN (u.2 (σ 1 b) * σ 2 b))), (9, .long (lN (Nat.gcd (u.1 (σ 1 b) * ub σ b) (u.2 (σ 1 b) * σ 2 b))))]) dX5_goOver_77 (Nat.le_of_ble_eq_true rfl) rfl ?_
    refine r_aload_n (pc := 79) dX5_goOver_79 rfl ?_
    refine r_getR (pc := 80) (r := 19) dX5_goOver_80 fX5_9 rfl rfl ?_
    refine r_iload (pc := 83) dX5_goOver_83 rfl ?_
    refine r_lload (pc := 85) dX5_goOver_85 rfl ?_
    refine r_lload (pc := 87) dX5_goOver_87 rfl ?_
    refine r_callN (pc := 89) (d' := 0) (As := [.long (lN (u.1 (σ 1 b) * ub σ b)), .long (lN (Nat.gcd (u.1 (σ 1 b) * ub σ b) (u.2 (σ 1 b) * σ 2 b)))]) (rest := [.int (nI (σ 3 (b))), .ref 19]) dX5_goOver_89 sX6_inLowestTerms nX5_56 rfl rfl (Nat.le_of_ble_eq_true rfl) (Nat.le_of_ble_eq_true rfl) ?_
    refine c_low (by omega) (by omega) (by omega) ?_
    refine r_last (pc := 92) dX5_goOver_92 rfl rfl (by omega) ?_
    refine r_aload_n (pc := 93) dX5_goOver_93 rfl ?_
    refine r_getR (pc := 94) (r := 20) dX5_goOver_94 fX5_15 rfl rfl ?_
    refine r_iload (pc := 97) dX5_goOver_97 rfl ?_
    refine r_lload (pc := 99) dX5_goOver_99 rfl ?_
    refine r_lload (pc := 101) dX5_goOver_101 rfl ?_
    refine r_callN (pc := 103) (d' := 0) (As := [.long (lN (u.2 (σ 1 b) * σ 2 b)), .long (lN (Nat.gcd (u.1 (σ 1 b) * ub σ b) (u.2 (σ 1 b) * σ 2 b)))]) (rest := [.int (nI (σ 3 (b))), .ref 20]) dX5_goOver_103 sX6_inLowestTerms nX5_56 rfl rfl (Nat.le_of_ble_eq_true rfl) (Nat.le_of_ble_eq_true rfl) ?_
    refine c_low (by omega) (by omega) (by omega) ?_
    refine r_last (pc := 106) dX5_goOver_106 rfl rfl (by omega) ?_
    refine r_return (pc := 107) dX5_goOver_107 rfl ?_
    have e9 : go1 σ u b = _ := if_pos c67
    refine h _ hf0.s19.s20 (fun j hj => ?_)
    rw [e9]
    show vp_updL (μ.2 19) (σ 3 b) _ j = _ ∧ vp_updL (μ.2 20) (σ 3 b) _ j = _
    rw [updL_at, updL_at]
    dsimp only
    by_cases e : j = σ 3 b
    · subst e; rw [if_pos rfl, if_pos rfl, updN_s, updN_s]; exact ⟨rfl, rfl⟩
    · rw [if_neg e, if_neg e, updN_o e, updN_o e]; exact hU j hj

set_option maxRecDepth 20000 in
set_option maxHeartbeats 4000000 in
theorem x_sp_i {μ : Mem} {σ : Sg} {s : Nat} {n : Nat} {u : FrP} {Q : Option Value → Mem → Prop} (hX : Xs μ σ) (hO : Ok σ) (hG : (Gs σ).length = 0) (hs : s < 8) (hI : Inv σ s u) (K : ∀ μ2, frU μ μ2 → Um μ2 (goP σ u (σ 0 0)) → WP cX5_spread (RX5, 5, none, 3, none) 79 [(0, .ref 18), (1, .ref 1), (2, .int (nI s)), (3, .int (nI n))] [] μ2 Q) : ∀ (k : Nat) (b : Nat) (μ1 : Mem), b + k = σ 0 0 → frU μ μ1 → Um μ1 (goP σ u b) → WP cX5_spread (RX5, 5, none, 3, none) 48 [(0, .ref 18), (1, .ref 1), (2, .int (nI s)), (3, .int (nI n)), (4, .int (nI b))] [] μ1 Q := by
  intro k
  induction k using Nat.strongRecOn with
  | _ k ih =>
    intro b μ1 hb hf1 hU1
    have hn := Ok_n hO
    refine r_iload (pc := 48) dX5_spread_48 rfl ?_
    refine r_aload_n (pc := 50) dX5_spread_50 rfl ?_
    refine r_getI (pc := 51) (x := (nI (σ 0 0))) dX5_spread_51 fX5_22 rfl rfl (Xs_n (μ := μ1) (Xs_frU hf1 hX)) ?_
    refine rn_icmp_ge (pc := 54) (tgt := 79) dX5_spread_54 (by decide) (by omega) (by omega) (fun c54 => ?_) (fun c54 => ?_)
    · obtain rfl : b = σ 0 0 := by omega
      refine r_pick (ls' := [(0, .ref 18), (1, .ref 1), (2, .int (nI s)), (3, .int (nI n))]) [0, 1, 2, 3] rfl ?_
      exact K μ1 hf1 hU1
    · refine r_aload_n (pc := 57) dX5_spread_57 rfl ?_
      refine r_iload (pc := 58) dX5_spread_58 rfl ?_
      refine r_callV (pc := 60) (d' := 1) (k := 1) (As := [.int (nI b)]) (rest := []) dX5_spread_60 vX0_isOpen mX5_28 rfl rfl rfl (Nat.le_of_ble_eq_true rfl) (Nat.le_of_ble_eq_true rfl) ?_
      refine c_xopen (μ := μ1) (Xs_frU hf1 hX) hO (by omega) ?_
      refine rb_if_eq (pc := 63) (tgt := 73) dX5_spread_63 (by decide) (fun c63 => ?_) (fun c63 => ?_)
      · refine rn_iinc (pc := 73) (b := 1) (ls' := [(0, .ref 18), (1, .ref 1), (2, .int (nI s)), (3, .int (nI n)), (4, .int (nI (b + 1)))]) dX5_spread_73 rfl (by decide) (Nat.le_of_ble_eq_true rfl) rfl ?_
        refine r_goto (pc := 76) (tgt := 48) dX5_spread_76 (by decide) ?_
        exact ih (k - 1) (by omega) (b + 1) μ1 (by omega) hf1 (by rw [goP, if_neg (by rw [c63]; decide)]; exact hU1)
      · refine r_aload_n (pc := 66) dX5_spread_66 rfl ?_
        refine r_aload_n (pc := 67) dX5_spread_67 rfl ?_
        refine r_iload (pc := 68) dX5_spread_68 rfl ?_
        refine r_callV (pc := 70) (d' := 2) (k := 18) (As := [.ref 1, .int (nI b)]) (rest := []) dX5_spread_70 vX5_goOver mX5_32 rfl rfl rfl (Nat.le_of_ble_eq_true rfl) (Nat.le_of_ble_eq_true rfl) ?_
        refine x_goOver (Xs_frU hf1 hX) hO hs (goP_inv hO hG hs hI b (by omega)) (by omega) hU1 hf1 (fun μ3 hf3 hU3 => ?_)
        refine rn_iinc (pc := 73) (b := 1) (ls' := [(0, .ref 18), (1, .ref 1), (2, .int (nI s)), (3, .int (nI n)), (4, .int (nI (b + 1)))]) dX5_spread_73 rfl (by decide) (Nat.le_of_ble_eq_true rfl) rfl ?_
        refine r_goto (pc := 76) (tgt := 48) dX5_spread_76 (by decide) ?_
        exact ih (k - 1) (by omega) (b + 1) μ3 (by omega) hf3 (by rw [goP, if_pos c63]; exact hU3)

set_option maxRecDepth 20000 in
set_option maxHeartbeats 4000000 in
theorem x_sp_o {μ : Mem} {σ : Sg} {s : Nat} {Q : Option Value → Mem → Prop} (hX : Xs μ σ) (hO : Ok σ) (hG : (Gs σ).length = 0) (hs : s < 8) (h : ∀ μ', frU μ μ' → Um μ' (goK σ (go0 s) 7) → Q none μ') : ∀ (k : Nat) (n : Nat) (μ1 : Mem), n + k = 7 → frU μ μ1 → Um μ1 (goK σ (go0 s) n) → WP cX5_spread (RX5, 5, none, 3, none) 39 [(0, .ref 18), (1, .ref 1), (2, .int (nI s)), (3, .int (nI (n + 1)))] [] μ1 Q := by
  intro k
  induction k using Nat.strongRecOn with
  | _ k ih =>
    intro n μ1 hnk hf1 hU1
    have hn := Ok_n hO
    refine r_iload_n (pc := 39) dX5_spread_39 rfl ?_
    refine r_bipush (pc := 40) (v := (nI (8))) dX5_spread_40 (by decide) ?_
    refine rn_icmp_ge (pc := 42) (tgt := 85) dX5_spread_42 (by decide) (by omega) (by omega) (fun c42 => ?_) (fun c42 => ?_)
    · obtain rfl : n = 7 := by omega
      refine r_return (pc := 85) dX5_spread_85 rfl ?_
      exact h _ hf1 hU1
    · refine r_iconst (pc := 45) (v := (nI (0))) dX5_spread_45 (by decide) ?_
      refine r_istore (pc := 46) (ls' := [(0, .ref 18), (1, .ref 1), (2, .int (nI s)), (3, .int (nI (n + 1))), (4, .int (nI 0))]) dX5_spread_46 (Nat.le_of_ble_eq_true rfl) rfl ?_
      refine x_sp_i hX hO hG hs (goK_inv hO hG hs n) (fun μ2 hf2 hU2 => ?_) (σ 0 0) 0 μ1 (by omega) hf1 hU1
      refine rn_iinc (pc := 79) (b := 1) (ls' := [(0, .ref 18), (1, .ref 1), (2, .int (nI s)), (3, .int (nI (n + 1 + 1)))]) dX5_spread_79 rfl (by decide) (Nat.le_of_ble_eq_true rfl) rfl ?_
      refine r_goto (pc := 82) (tgt := 39) dX5_spread_82 (by decide) ?_
      exact ih (k - 1) (by omega) (n + 1) μ2 (by omega) hf2 hU2

set_option maxRecDepth 20000 in
set_option maxHeartbeats 4000000 in
theorem x_sp_z {μ : Mem} {σ : Sg} {s : Nat} {Q : Option Value → Mem → Prop} (hX : Xs μ σ) (hO : Ok σ) (hG : (Gs σ).length = 0) (hs : s < 8) (h : ∀ μ', frU μ μ' → Um μ' (goK σ (go0 s) 7) → Q none μ') : ∀ (k : Nat) (x : Nat) (μ1 : Mem), x + k = 8 → frU μ μ1 → (∀ j, j < x → μ1.2 19 j = lN ((go0 s).1 j) ∧ μ1.2 20 j = lN ((go0 s).2 j)) → WP cX5_spread (RX5, 5, none, 3, none) 2 [(0, .ref 18), (1, .ref 1), (2, .int (nI s)), (3, .int (nI x))] [] μ1 Q := by
  intro k
  induction k using Nat.strongRecOn with
  | _ k ih =>
    intro x μ1 hxk hf1 hU1
    refine r_iload_n (pc := 2) dX5_spread_2 rfl ?_
    refine r_bipush (pc := 3) (v := (nI (8))) dX5_spread_3 (by decide) ?_
    refine rn_icmp_ge (pc := 5) (tgt := 37) dX5_spread_5 (by decide) (by omega) (by omega) (fun c5 => ?_) (fun c5 => ?_)
    · refine r_iconst (pc := 37) (v := (nI (1))) dX5_spread_37 (by decide) ?_
      refine r_istore_n (pc := 38) (ls' := [(0, .ref 18), (1, .ref 1), (2, .int (nI s)), (3, .int (nI 1))]) dX5_spread_38 (Nat.le_of_ble_eq_true rfl) rfl ?_
      skip
      exact x_sp_o hX hO hG hs h 7 0 μ1 (by omega) hf1 (fun j hj => hU1 j (by omega))
    · refine r_aload_n (pc := 8) dX5_spread_8 rfl ?_
      refine r_getR (pc := 9) (r := 19) dX5_spread_9 fX5_9 rfl rfl ?_
      refine r_iload_n (pc := 12) dX5_spread_12 rfl ?_
      refine r_iload_n (pc := 13) dX5_spread_13 rfl ?_
      refine r_iload_n (pc := 14) dX5_spread_14 rfl ?_
      refine rn_icmp_ne (pc := 15) (tgt := 22) dX5_spread_15 (by decide) (by omega) (by omega) (fun c15 => ?_) (fun c15 => ?_)
      · refine r_lconst (pc := 22) (v := lN 0) dX5_spread_22 rfl ?_
        refine r_last (pc := 23) dX5_spread_23 rfl rfl (by omega) ?_
        refine r_aload_n (pc := 24) dX5_spread_24 rfl ?_
        refine r_getR (pc := 25) (r := 20) dX5_spread_25 fX5_15 rfl rfl ?_
        refine r_iload_n (pc := 28) dX5_spread_28 rfl ?_
        refine r_lconst (pc := 29) (v := lN 1) dX5_spread_29 rfl ?_
        refine r_last (pc := 30) dX5_spread_30 rfl rfl (by omega) ?_
        refine rn_iinc (pc := 31) (b := 1) (ls' := [(0, .ref 18), (1, .ref 1), (2, .int (nI s)), (3, .int (nI (x + 1)))]) dX5_spread_31 rfl (by decide) (Nat.le_of_ble_eq_true rfl) rfl ?_
        refine r_goto (pc := 34) (tgt := 2) dX5_spread_34 (by decide) ?_
        refine ih (k - 1) (by omega) (x + 1) _ (by omega) hf1.s19.s20 (fun j hj => ?_)
        show vp_updL (μ1.2 19) x _ j = _ ∧ vp_updL (μ1.2 20) x _ j = _
        rw [updL_at, updL_at]
        by_cases e : j = x
        · subst e; rw [if_pos rfl, if_pos rfl]; unfold go0; dsimp only; rw [if_neg c15]; exact ⟨rfl, rfl⟩
        · rw [if_neg e, if_neg e]; exact hU1 j (by omega)
      · refine r_lconst (pc := 18) (v := lN 1) dX5_spread_18 rfl ?_
        refine r_goto (pc := 19) (tgt := 23) dX5_spread_19 (by decide) ?_
        refine r_last (pc := 23) dX5_spread_23 rfl rfl (by omega) ?_
        refine r_aload_n (pc := 24) dX5_spread_24 rfl ?_
        refine r_getR (pc := 25) (r := 20) dX5_spread_25 fX5_15 rfl rfl ?_
        refine r_iload_n (pc := 28) dX5_spread_28 rfl ?_
        refine r_lconst (pc := 29) (v := lN 1) dX5_spread_29 rfl ?_
        refine r_last (pc := 30) dX5_spread_30 rfl rfl (by omega) ?_
        refine rn_iinc (pc := 31) (b := 1) (ls' := [(0, .ref 18), (1, .ref 1), (2, .int (nI s)), (3, .int (nI (x + 1)))]) dX5_spread_31 rfl (by decide) (Nat.le_of_ble_eq_true rfl) rfl ?_
        refine r_goto (pc := 34) (tgt := 2) dX5_spread_34 (by decide) ?_
        refine ih (k - 1) (by omega) (x + 1) _ (by omega) hf1.s19.s20 (fun j hj => ?_)
        show vp_updL (μ1.2 19) x _ j = _ ∧ vp_updL (μ1.2 20) x _ j = _
        rw [updL_at, updL_at]
        by_cases e : j = x
        · subst e; rw [if_pos rfl, if_pos rfl]; unfold go0; dsimp only; rw [if_pos c15]; exact ⟨rfl, rfl⟩
        · rw [if_neg e, if_neg e]; exact hU1 j (by omega)

set_option maxRecDepth 20000 in
set_option maxHeartbeats 4000000 in
theorem x_spread {μ : Mem} {σ : Sg} {s : Nat} {Q : Option Value → Mem → Prop} (hX : Xs μ σ) (hO : Ok σ) (hG : (Gs σ).length = 0) (hs : s < 8) (h : ∀ μ', frU μ μ' → Um μ' (goK σ (go0 s) 7) → Q none μ') : Sp iX5_spread 3 [.ref 18, .ref 1, .int (nI s)] μ Q := by
  refine Sp.of vX5_spread.1 (Nat.le_of_ble_eq_true rfl) ?_
  show WP cX5_spread (RX5, 5, none, 3, none) 0 [(0, .ref 18), (1, .ref 1), (2, .int (nI s))] [] μ Q
  refine r_iconst (pc := 0) (v := (nI (0))) dX5_spread_0 (by decide) ?_
  refine r_istore_n (pc := 1) (ls' := [(0, .ref 18), (1, .ref 1), (2, .int (nI s)), (3, .int (nI 0))]) dX5_spread_1 (Nat.le_of_ble_eq_true rfl) rfl ?_
  exact x_sp_z hX hO hG hs h 8 0 μ (by omega) frU.rf (fun j hj => absurd hj (Nat.not_lt_zero j))

def rf (σ : Sg) (c o e p : Int32) : Int32 := if isB c 8 = false ∨ isB o 8 = false then -1 else if inR e (nI 0) (nI 1) = false ∨ inR p (nI 0) (nI 1) = false then -2 else if stG σ = true then -3 else 0
theorem rf_0 {σ : Sg} {c o e p : Int32} (h : rf σ c o e p = 0) : isB c 8 = true ∧ isB o 8 = true ∧ inR e (nI 0) (nI 1) = true ∧ inR p (nI 0) (nI 1) = true ∧ stG σ = false := by
  unfold rf at h
  split at h
  · exact absurd h (by decide)
  · rename_i h1
    split at h
    · exact absurd h (by decide)
    · rename_i h2
      split at h
      · exact absurd h (by decide)
      · rename_i h3
        simp at h1 h2 h3
        exact ⟨h1.1, h1.2, h2.1, h2.2, h3⟩
theorem gets_rf (σ : Sg) (f t p : Int32) (h : ¬ rf σ f t (nI 0) p = 0) : sp_gets σ f t p = -1000000000000000000 + (rf σ f t (nI 0) p).toInt64 := by
  unfold rf at h ⊢
  unfold sp_gets
  have h0 : inR (nI 0) (nI 0) (nI 1) = true := by decide
  by_cases h1 : isB f 8 = false ∨ isB t 8 = false
  · rw [if_pos h1, if_pos h1]; decide
  · rw [if_neg h1, if_neg h1] at *
    by_cases h2 : inR p (nI 0) (nI 1) = false
    · rw [if_pos h2, if_pos (Or.inr h2)]; decide
    · have h2' : ¬ (inR (nI 0) (nI 0) (nI 1) = false ∨ inR p (nI 0) (nI 1) = false) := by rw [h0]; simp; simpa using h2
      rw [if_neg h2, if_neg h2'] at *
      by_cases h3 : stG σ = true
      · rw [if_pos h3, if_pos h3]; decide
      · rw [if_neg h3] at h; exact absurd rfl h
theorem span_rf (σ : Sg) (f t e p : Int32) (h : ¬ rf σ f t e p = 0) : sp_span σ f t e p = -1000000000000000000 + (rf σ f t e p).toInt64 := by
  unfold rf at h ⊢
  unfold sp_span
  by_cases h1 : isB f 8 = false ∨ isB t 8 = false
  · rw [if_pos h1, if_pos h1]; decide
  · rw [if_neg h1, if_neg h1] at *
    by_cases h2 : inR e (nI 0) (nI 1) = false ∨ inR p (nI 0) (nI 1) = false
    · rw [if_pos h2, if_pos h2]; decide
    · rw [if_neg h2, if_neg h2] at *
      by_cases h3 : stG σ = true
      · rw [if_pos h3, if_pos h3]; decide
      · rw [if_neg h3] at h; exact absurd rfl h
theorem stG_0 {σ : Sg} (h : stG σ = false) : (Gs σ).length = 0 := by
  have := of_decide_eq_false h
  omega

set_option maxRecDepth 20000 in
set_option maxHeartbeats 4000000 in
theorem x_refuse {μ : Mem} {σ : Sg} {c o e p : Int32} {Q : Option Value → Mem → Prop} (hI : XI μ σ) (hO : Ok σ) (h : ∀ μ', XI μ' σ → keepM μ μ' → Q (some (.int (rf σ c o e p))) μ') : Sp iX6_refuseFraction 14 [.ref 0, .int (c), .int (o), .int (e), .int (p)] μ Q := by
  refine Sp.of vX6_refuseFraction.1 (Nat.le_of_ble_eq_true rfl) ?_
  show WP cX6_refuseFraction (RX6, 5, (some .int), 14, none) 0 [(0, .ref 0), (1, .int (c)), (2, .int (o)), (3, .int (e)), (4, .int (p))] [] μ Q
  have hn := Ok_n hO
  refine r_iload_n (pc := 0) dX6_refuseFraction_0 rfl ?_
  refine r_callS (pc := 1) (d' := 0) (As := [.int (c)]) (rest := []) dX6_refuseFraction_1 sX6_isCoin mX6_55 rfl rfl (Nat.le_of_ble_eq_true rfl) (Nat.le_of_ble_eq_true rfl) ?_
  refine c_xcoin ?_
  refine rb_if_eq (pc := 4) (tgt := 14) dX6_refuseFraction_4 (by decide) (fun c4 => ?_) (fun c4 => ?_)
  · refine r_iconst (pc := 14) (v := (-1)) dX6_refuseFraction_14 (by decide) ?_
    refine r_ireturn (pc := 15) dX6_refuseFraction_15 rfl (Or.inl rfl) rfl ?_
    have e9 : rf σ c o e p = (-1) := by simp (decide := true) [rf, c4]
    rw [e9] at h
    exact h _ hI keepM.rf
  · refine r_iload_n (pc := 7) dX6_refuseFraction_7 rfl ?_
    refine r_callS (pc := 8) (d' := 0) (As := [.int (o)]) (rest := []) dX6_refuseFraction_8 sX6_isCoin mX6_55 rfl rfl (Nat.le_of_ble_eq_true rfl) (Nat.le_of_ble_eq_true rfl) ?_
    refine c_xcoin ?_
    refine rb_if_ne (pc := 11) (tgt := 16) dX6_refuseFraction_11 (by decide) (fun c11 => ?_) (fun c11 => ?_)
    · refine r_iload_n (pc := 16) dX6_refuseFraction_16 rfl ?_
      refine r_iconst (pc := 17) (v := (nI (0))) dX6_refuseFraction_17 (by decide) ?_
      refine r_iconst (pc := 18) (v := (nI (1))) dX6_refuseFraction_18 (by decide) ?_
      refine r_callS (pc := 19) (d' := 0) (As := [.int (e), .int (nI 0), .int (nI 1)]) (rest := []) dX6_refuseFraction_19 sX6_isWithin mX6_59 rfl rfl (Nat.le_of_ble_eq_true rfl) (Nat.le_of_ble_eq_true rfl) ?_
      refine c_within ?_
      refine rb_if_eq (pc := 22) (tgt := 35) dX6_refuseFraction_22 (by decide) (fun c22 => ?_) (fun c22 => ?_)
      · refine r_bipush (pc := 35) (v := (-2)) dX6_refuseFraction_35 (by decide) ?_
        refine r_ireturn (pc := 37) dX6_refuseFraction_37 rfl (Or.inl rfl) rfl ?_
        have e9 : rf σ c o e p = (-2) := by simp (decide := true) [rf, c4, c11, c22]
        rw [e9] at h
        exact h _ hI keepM.rf
      · refine r_iload (pc := 25) dX6_refuseFraction_25 rfl ?_
        refine r_iconst (pc := 27) (v := (nI (0))) dX6_refuseFraction_27 (by decide) ?_
        refine r_iconst (pc := 28) (v := (nI (1))) dX6_refuseFraction_28 (by decide) ?_
        refine r_callS (pc := 29) (d' := 0) (As := [.int (p), .int (nI 0), .int (nI 1)]) (rest := []) dX6_refuseFraction_29 sX6_isWithin mX6_59 rfl rfl (Nat.le_of_ble_eq_true rfl) (Nat.le_of_ble_eq_true rfl) ?_
        refine c_within ?_
        refine rb_if_ne (pc := 32) (tgt := 38) dX6_refuseFraction_32 (by decide) (fun c32 => ?_) (fun c32 => ?_)
        · refine r_aload_n (pc := 38) dX6_refuseFraction_38 rfl ?_
          refine r_callV (pc := 39) (d' := 13) (k := 0) (As := []) (rest := []) dX6_refuseFraction_39 vX6_lookAround mX6_130 rfl rfl rfl (Nat.le_of_ble_eq_true rfl) (Nat.le_of_ble_eq_true rfl) ?_
          refine x_look hI hO (fun μ1 hF1 hk1 => ?_)
          have hX1 := hF1.1.1
          have hGl := Gs_len hO
          have hRl := rnds_le hO
          refine r_aload_n (pc := 42) dX6_refuseFraction_42 rfl ?_
          refine r_getR (pc := 43) (r := 12) dX6_refuseFraction_43 fX6_26 rfl rfl ?_
          refine r_getI (pc := 46) (x := (nI ((Gs σ).length))) dX6_refuseFraction_46 fX6_134 rfl rfl (FO_n hF1.2) ?_
          refine rn_if_le (pc := 49) (tgt := 57) dX6_refuseFraction_49 (by decide) (by omega) (fun c49 => ?_) (fun c49 => ?_)
          · refine r_iconst (pc := 57) (v := (nI (0))) dX6_refuseFraction_57 (by decide) ?_
            refine r_ireturn (pc := 58) dX6_refuseFraction_58 rfl (Or.inl rfl) rfl ?_
            have hst : stG σ = false := decide_eq_false (by omega)
            have e9 : rf σ c o e p = (nI (0)) := by simp (decide := true) [rf, c4, c11, c22, c32, hst]
            rw [e9] at h
            exact h _ hF1.1 hk1
          · refine r_bipush (pc := 52) (v := (-3)) dX6_refuseFraction_52 (by decide) ?_
            refine r_goto (pc := 54) (tgt := 58) dX6_refuseFraction_54 (by decide) ?_
            refine r_ireturn (pc := 58) dX6_refuseFraction_58 rfl (Or.inl rfl) rfl ?_
            have hst : stG σ = true := decide_eq_true (by omega)
            have e9 : rf σ c o e p = (-3) := by simp (decide := true) [rf, c4, c11, c22, c32, hst]
            rw [e9] at h
            exact h _ hF1.1 hk1
        · refine r_bipush (pc := 35) (v := (-2)) dX6_refuseFraction_35 (by decide) ?_
          refine r_ireturn (pc := 37) dX6_refuseFraction_37 rfl (Or.inl rfl) rfl ?_
          have e9 : rf σ c o e p = (-2) := by simp (decide := true) [rf, c4, c11, c22, c32]
          rw [e9] at h
          exact h _ hI keepM.rf
    · refine r_iconst (pc := 14) (v := (-1)) dX6_refuseFraction_14 (by decide) ?_
      refine r_ireturn (pc := 15) dX6_refuseFraction_15 rfl (Or.inl rfl) rfl ?_
      have e9 : rf σ c o e p = (-1) := by simp (decide := true) [rf, c4, c11]
      rw [e9] at h
      exact h _ hI keepM.rf

set_option maxRecDepth 20000 in
set_option maxHeartbeats 4000000 in
theorem x_pbw0 {μ : Mem} {σ : Sg} {fj tj : Nat} {Q : Option Value → Mem → Prop} (hI : XI μ σ) (hO : Ok σ) (hG : (Gs σ).length = 0) (hfj : fj < 8) (htj : tj < 8) (h : ∀ μ', XI μ' σ → keepM μ μ' → Q (some (.long (lN (lowT (mget σ fj tj).1 (mget σ fj tj).2 0)))) μ') : Sp iX6_partOfBestWay 4 [.ref 0, .int (nI fj), .int (nI tj), .int (nI 0)] μ Q := by
  refine Sp.of vX6_partOfBestWay.1 (Nat.le_of_ble_eq_true rfl) ?_
  show WP cX6_partOfBestWay (RX6, 4, (some .long), 4, none) 0 [(0, .ref 0), (1, .int (nI fj)), (2, .int (nI tj)), (3, .int (nI 0))] [] μ Q
  have hn := Ok_n hO
  have hge := gets_eq hO hG hfj htj
  refine r_iload_n (pc := 0) dX6_partOfBestWay_0 rfl ?_
  refine r_callS (pc := 1) (d' := 0) (As := [.int (nI fj)]) (rest := []) dX6_partOfBestWay_1 sX6_isCoin mX6_55 rfl rfl (Nat.le_of_ble_eq_true rfl) (Nat.le_of_ble_eq_true rfl) ?_
  refine c_xcoin ?_
  refine rb_if_eq (pc := 4) (tgt := 14) dX6_partOfBestWay_4 (by decide) (fun c4 => ?_) (fun c4 => ?_)
  · rw [isB_nat (show fj < 2 ^ 31 by omega), decide_eq_true hfj] at c4
    exact absurd c4 (by decide)
  · refine r_iload_n (pc := 7) dX6_partOfBestWay_7 rfl ?_
    refine r_callS (pc := 8) (d' := 0) (As := [.int (nI tj)]) (rest := []) dX6_partOfBestWay_8 sX6_isCoin mX6_55 rfl rfl (Nat.le_of_ble_eq_true rfl) (Nat.le_of_ble_eq_true rfl) ?_
    refine c_xcoin ?_
    refine rb_if_ne (pc := 11) (tgt := 16) dX6_partOfBestWay_11 (by decide) (fun c11 => ?_) (fun c11 => ?_)
    · refine r_aload_n (pc := 16) dX6_partOfBestWay_16 rfl ?_
      refine r_getR (pc := 17) (r := 18) dX6_partOfBestWay_17 fX6_33 rfl rfl ?_
      refine r_aload_n (pc := 20) dX6_partOfBestWay_20 rfl ?_
      refine r_getR (pc := 21) (r := 1) dX6_partOfBestWay_21 fX6_12 rfl rfl ?_
      refine r_iload_n (pc := 24) dX6_partOfBestWay_24 rfl ?_
      refine r_callV (pc := 25) (d' := 3) (k := 18) (As := [.ref 1, .int (nI fj)]) (rest := []) dX6_partOfBestWay_25 vX5_spread mX6_255 rfl rfl rfl (Nat.le_of_ble_eq_true rfl) (Nat.le_of_ble_eq_true rfl) ?_
      refine x_spread hI.1 hO hG hfj (fun μ2 hf2 hU2 => ?_)
      refine r_iload_n (pc := 28) dX6_partOfBestWay_28 rfl ?_
      refine rn_if_ne (pc := 29) (tgt := 44) dX6_partOfBestWay_29 (by decide) (by decide) (fun q => absurd q (by decide)) (fun _ => ?_)
      refine r_aload_n (pc := 32) dX6_partOfBestWay_32 rfl ?_
      refine r_getR (pc := 33) (r := 18) dX6_partOfBestWay_33 fX6_33 rfl rfl ?_
      refine r_getR (pc := 36) (r := 19) dX6_partOfBestWay_36 fX6_258 rfl rfl ?_
      refine r_iload_n (pc := 39) dX6_partOfBestWay_39 rfl ?_
      refine r_lald (pc := 40) (x := (lN ((goK σ (go0 fj) 7).1 tj))) dX6_partOfBestWay_40 rfl rfl (by omega) (hU2 tj htj).1 ?_
      refine r_goto (pc := 41) (tgt := 53) dX6_partOfBestWay_41 (by decide) ?_
      refine r_lreturn (pc := 53) dX6_partOfBestWay_53 rfl ?_
      rw [← hge.1] at h
      exact h _ (XI_frU hf2 hI) hf2.keep
    · rw [isB_nat (show tj < 2 ^ 31 by omega), decide_eq_true htj] at c11
      exact absurd c11 (by decide)

set_option maxRecDepth 20000 in
set_option maxHeartbeats 4000000 in
theorem x_pbw1 {μ : Mem} {σ : Sg} {fj tj : Nat} {Q : Option Value → Mem → Prop} (hI : XI μ σ) (hO : Ok σ) (hG : (Gs σ).length = 0) (hfj : fj < 8) (htj : tj < 8) (h : ∀ μ', XI μ' σ → keepM μ μ' → Q (some (.long (lN (lowT (mget σ fj tj).1 (mget σ fj tj).2 1)))) μ') : Sp iX6_partOfBestWay 4 [.ref 0, .int (nI fj), .int (nI tj), .int (nI 1)] μ Q := by
  refine Sp.of vX6_partOfBestWay.1 (Nat.le_of_ble_eq_true rfl) ?_
  show WP cX6_partOfBestWay (RX6, 4, (some .long), 4, none) 0 [(0, .ref 0), (1, .int (nI fj)), (2, .int (nI tj)), (3, .int (nI 1))] [] μ Q
  have hn := Ok_n hO
  have hge := gets_eq hO hG hfj htj
  refine r_iload_n (pc := 0) dX6_partOfBestWay_0 rfl ?_
  refine r_callS (pc := 1) (d' := 0) (As := [.int (nI fj)]) (rest := []) dX6_partOfBestWay_1 sX6_isCoin mX6_55 rfl rfl (Nat.le_of_ble_eq_true rfl) (Nat.le_of_ble_eq_true rfl) ?_
  refine c_xcoin ?_
  refine rb_if_eq (pc := 4) (tgt := 14) dX6_partOfBestWay_4 (by decide) (fun c4 => ?_) (fun c4 => ?_)
  · rw [isB_nat (show fj < 2 ^ 31 by omega), decide_eq_true hfj] at c4
    exact absurd c4 (by decide)
  · refine r_iload_n (pc := 7) dX6_partOfBestWay_7 rfl ?_
    refine r_callS (pc := 8) (d' := 0) (As := [.int (nI tj)]) (rest := []) dX6_partOfBestWay_8 sX6_isCoin mX6_55 rfl rfl (Nat.le_of_ble_eq_true rfl) (Nat.le_of_ble_eq_true rfl) ?_
    refine c_xcoin ?_
    refine rb_if_ne (pc := 11) (tgt := 16) dX6_partOfBestWay_11 (by decide) (fun c11 => ?_) (fun c11 => ?_)
    · refine r_aload_n (pc := 16) dX6_partOfBestWay_16 rfl ?_
      refine r_getR (pc := 17) (r := 18) dX6_partOfBestWay_17 fX6_33 rfl rfl ?_
      refine r_aload_n (pc := 20) dX6_partOfBestWay_20 rfl ?_
      refine r_getR (pc := 21) (r := 1) dX6_partOfBestWay_21 fX6_12 rfl rfl ?_
      refine r_iload_n (pc := 24) dX6_partOfBestWay_24 rfl ?_
      refine r_callV (pc := 25) (d' := 3) (k := 18) (As := [.ref 1, .int (nI fj)]) (rest := []) dX6_partOfBestWay_25 vX5_spread mX6_255 rfl rfl rfl (Nat.le_of_ble_eq_true rfl) (Nat.le_of_ble_eq_true rfl) ?_
      refine x_spread hI.1 hO hG hfj (fun μ2 hf2 hU2 => ?_)
      refine r_iload_n (pc := 28) dX6_partOfBestWay_28 rfl ?_
      refine rn_if_ne (pc := 29) (tgt := 44) dX6_partOfBestWay_29 (by decide) (by decide) (fun _ => ?_) (fun q => absurd q (by decide))
      refine r_aload_n (pc := 44) dX6_partOfBestWay_44 rfl ?_
      refine r_getR (pc := 45) (r := 18) dX6_partOfBestWay_45 fX6_33 rfl rfl ?_
      refine r_getR (pc := 48) (r := 20) dX6_partOfBestWay_48 fX6_260 rfl rfl ?_
      refine r_iload_n (pc := 51) dX6_partOfBestWay_51 rfl ?_
      refine r_lald (pc := 52) (x := (lN ((goK σ (go0 fj) 7).2 tj))) dX6_partOfBestWay_52 rfl rfl (by omega) (hU2 tj htj).2 ?_
      refine r_lreturn (pc := 53) dX6_partOfBestWay_53 rfl ?_
      rw [← hge.2] at h
      exact h _ (XI_frU hf2 hI) hf2.keep
    · rw [isB_nat (show tj < 2 ^ 31 by omega), decide_eq_true htj] at c11
      exact absurd c11 (by decide)

set_option maxRecDepth 20000 in
set_option maxHeartbeats 4000000 in
theorem x_gets {μ : Mem} {σ : Sg} {f t p : Int32} {Q : Option Value → Mem → Prop} (hI : XI μ σ) (hO : Ok σ) (h : ∀ μ', XI μ' σ → keepM μ μ' → Q (some (.long (sp_gets σ f t p))) μ') : Sp iX6_gets 15 [.ref 0, .int (f), .int (t), .int (p)] μ Q := by
  refine Sp.of vX6_gets.1 (Nat.le_of_ble_eq_true rfl) ?_
  show WP cX6_gets (RX6, 5, (some .long), 15, none) 0 [(0, .ref 0), (1, .int (f)), (2, .int (t)), (3, .int (p))] [] μ Q
  have hn := Ok_n hO
  refine r_aload_n (pc := 0) dX6_gets_0 rfl ?_
  refine r_iload_n (pc := 1) dX6_gets_1 rfl ?_
  refine r_iload_n (pc := 2) dX6_gets_2 rfl ?_
  refine r_iconst (pc := 3) (v := (nI (0))) dX6_gets_3 (by decide) ?_
  refine r_iload_n (pc := 4) dX6_gets_4 rfl ?_
  refine r_callV (pc := 5) (d' := 14) (k := 0) (As := [.int (f), .int (t), .int (nI 0), .int (p)]) (rest := []) dX6_gets_5 vX6_refuseFraction mX6_198 rfl rfl rfl (Nat.le_of_ble_eq_true rfl) (Nat.le_of_ble_eq_true rfl) ?_
  refine x_refuse hI hO (fun μ1 hI1 hk1 => ?_)
  refine r_istore (pc := 8) (ls' := [(0, .ref 0), (1, .int (f)), (2, .int (t)), (3, .int (p)), (4, .int (rf σ f t (nI (0)) p))]) dX6_gets_8 (Nat.le_of_ble_eq_true rfl) rfl ?_
  refine r_iload (pc := 10) dX6_gets_10 rfl ?_
  refine r_if_eq (pc := 12) (tgt := 23) dX6_gets_12 (by decide) (fun c12 => ?_) (fun c12 => ?_)
  · obtain ⟨z1, z2, -, z4, z5⟩ := rf_0 c12
    obtain ⟨fj, hfj, rfl, -⟩ := isB_t z1
    obtain ⟨tj, htj, rfl, -⟩ := isB_t z2
    obtain ⟨pj, hp1, hp2, rfl⟩ := inR_t (by decide) (by decide) z4
    have hG := stG_0 z5
    rcases (show pj = 0 ∨ pj = 1 by omega) with rfl | rfl
    · refine r_aload_n (pc := 23) dX6_gets_23 rfl ?_
      refine r_iload_n (pc := 24) dX6_gets_24 rfl ?_
      refine r_iload_n (pc := 25) dX6_gets_25 rfl ?_
      refine r_iload_n (pc := 26) dX6_gets_26 rfl ?_
      refine r_callV (pc := 27) (d' := 4) (k := 0) (As := [.int (nI fj), .int (nI tj), .int (nI 0)]) (rest := []) dX6_gets_27 vX6_partOfBestWay mX6_204 rfl rfl rfl (Nat.le_of_ble_eq_true rfl) (Nat.le_of_ble_eq_true rfl) ?_
      refine x_pbw0 hI1 hO hG (by omega) (by omega) (fun μ2 hI2 hk2 => ?_)
      have hl2 : lowT (mget σ fj tj).1 (mget σ fj tj).2 0 < 2 ^ 63 := by
        have q1 := Nat.div_le_self (mget σ fj tj).1 (Nat.gcd (mget σ fj tj).1 (mget σ fj tj).2)
        have q2 := Nat.div_le_self (mget σ fj tj).2 (Nat.gcd (mget σ fj tj).1 (mget σ fj tj).2)
        have q3 := mget_ok hO fj tj
        unfold lowT
        split <;> omega
      refine r_lreturn (pc := 30) dX6_gets_30 rfl ?_
      have e9 : sp_gets σ (nI fj) (nI tj) (nI 0) = (lN (lowT (mget σ fj tj).1 (mget σ fj tj).2 0)) := by
        simp (decide := true) [sp_gets, bN_0, bN_1, z1, z2, z5, bN_nI (show fj < 2 ^ 31 by omega), bN_nI (show tj < 2 ^ 31 by omega)]
      rw [e9] at h
      exact h _ hI2 (hk1.tr hk2)
    · refine r_aload_n (pc := 23) dX6_gets_23 rfl ?_
      refine r_iload_n (pc := 24) dX6_gets_24 rfl ?_
      refine r_iload_n (pc := 25) dX6_gets_25 rfl ?_
      refine r_iload_n (pc := 26) dX6_gets_26 rfl ?_
      refine r_callV (pc := 27) (d' := 4) (k := 0) (As := [.int (nI fj), .int (nI tj), .int (nI 1)]) (rest := []) dX6_gets_27 vX6_partOfBestWay mX6_204 rfl rfl rfl (Nat.le_of_ble_eq_true rfl) (Nat.le_of_ble_eq_true rfl) ?_
      refine x_pbw1 hI1 hO hG (by omega) (by omega) (fun μ2 hI2 hk2 => ?_)
      have hl2 : lowT (mget σ fj tj).1 (mget σ fj tj).2 1 < 2 ^ 63 := by
        have q1 := Nat.div_le_self (mget σ fj tj).1 (Nat.gcd (mget σ fj tj).1 (mget σ fj tj).2)
        have q2 := Nat.div_le_self (mget σ fj tj).2 (Nat.gcd (mget σ fj tj).1 (mget σ fj tj).2)
        have q3 := mget_ok hO fj tj
        unfold lowT
        split <;> omega
      refine r_lreturn (pc := 30) dX6_gets_30 rfl ?_
      have e9 : sp_gets σ (nI fj) (nI tj) (nI 1) = (lN (lowT (mget σ fj tj).1 (mget σ fj tj).2 1)) := by
        simp (decide := true) [sp_gets, bN_0, bN_1, z1, z2, z5, bN_nI (show fj < 2 ^ 31 by omega), bN_nI (show tj < 2 ^ 31 by omega)]
      rw [e9] at h
      exact h _ hI2 (hk1.tr hk2)
  · refine r_ldc2 (pc := 15) dX6_gets_15 kX6_202 ?_
    refine r_iload (pc := 18) dX6_gets_18 rfl ?_
    refine r_i2l (pc := 20) dX6_gets_20 rfl ?_
    refine r_ladd (pc := 21) dX6_gets_21 ?_
    refine r_lreturn (pc := 22) dX6_gets_22 rfl ?_
    rw [gets_rf σ f t p c12] at h
    exact h _ hI1 hk1

theorem low_0 {a b : Nat} (hb : 1 ≤ b) : lowT a b 0 = 0 ↔ a = 0 := by
  unfold lowT
  rw [if_pos rfl]
  obtain ⟨h1, _, h3, _⟩ := low_mul (a := a) (b := b) hb
  constructor
  · intro h; rw [h, Nat.zero_mul] at h1; exact h1
  · intro h; rw [h]; exact Nat.zero_div _
theorem low_sw (a b : Nat) : lowT b a 0 = lowT a b 1 ∧ lowT b a 1 = lowT a b 0 := by
  unfold lowT
  rw [if_pos rfl, if_pos rfl, if_neg (by decide), if_neg (by decide), Nat.gcd_comm]
  exact ⟨rfl, rfl⟩

set_option maxRecDepth 20000 in
set_option maxHeartbeats 4000000 in
theorem x_span {μ : Mem} {σ : Sg} {c o e p : Int32} {Q : Option Value → Mem → Prop} (hI : XI μ σ) (hO : Ok σ) (h : ∀ μ', XI μ' σ → keepM μ μ' → Q (some (.long (sp_span σ c o e p))) μ') : Sp iX6_span 15 [.ref 0, .int (c), .int (o), .int (e), .int (p)] μ Q := by
  refine Sp.of vX6_span.1 (Nat.le_of_ble_eq_true rfl) ?_
  show WP cX6_span (RX6, 7, (some .long), 15, none) 0 [(0, .ref 0), (1, .int (c)), (2, .int (o)), (3, .int (e)), (4, .int (p))] [] μ Q
  have hn := Ok_n hO
  refine r_aload_n (pc := 0) dX6_span_0 rfl ?_
  refine r_iload_n (pc := 1) dX6_span_1 rfl ?_
  refine r_iload_n (pc := 2) dX6_span_2 rfl ?_
  refine r_iload_n (pc := 3) dX6_span_3 rfl ?_
  refine r_iload (pc := 4) dX6_span_4 rfl ?_
  refine r_callV (pc := 6) (d' := 14) (k := 0) (As := [.int (c), .int (o), .int (e), .int (p)]) (rest := []) dX6_span_6 vX6_refuseFraction mX6_198 rfl rfl rfl (Nat.le_of_ble_eq_true rfl) (Nat.le_of_ble_eq_true rfl) ?_
  refine x_refuse hI hO (fun μ1 hI1 hk1 => ?_)
  refine r_istore (pc := 9) (ls' := [(0, .ref 0), (1, .int (c)), (2, .int (o)), (3, .int (e)), (4, .int (p)), (5, .int (rf σ c o e p))]) dX6_span_9 (Nat.le_of_ble_eq_true rfl) rfl ?_
  refine r_iload (pc := 11) dX6_span_11 rfl ?_
  refine r_if_eq (pc := 13) (tgt := 24) dX6_span_13 (by decide) (fun c13 => ?_) (fun c13 => ?_)
  · obtain ⟨z1, z2, z3, z4, z5⟩ := rf_0 c13
    obtain ⟨cj, hcj, rfl, -⟩ := isB_t z1
    obtain ⟨oj, hoj, rfl, -⟩ := isB_t z2
    obtain ⟨ej, he1, he2, rfl⟩ := inR_t (by decide) (by decide) z3
    obtain ⟨pj, hp1, hp2, rfl⟩ := inR_t (by decide) (by decide) z4
    have hmo := mget_ok hO oj cj
    have hG := stG_0 z5
    have hbc := bN_nI (show cj < 2 ^ 31 by omega)
    have hbo := bN_nI (show oj < 2 ^ 31 by omega)
    rcases (show (ej = 0 ∧ pj = 0) ∨ (ej = 0 ∧ pj = 1) ∨ (ej = 1 ∧ pj = 0) ∨ (ej = 1 ∧ pj = 1) by omega) with ⟨rfl, rfl⟩ | ⟨rfl, rfl⟩ | ⟨rfl, rfl⟩ | ⟨rfl, rfl⟩
    · rw [c13]
      refine r_iload_n (pc := 24) dX6_span_24 rfl ?_
      refine rn_if_ne (pc := 25) (tgt := 37) dX6_span_25 (by decide) (by decide) (fun q => absurd q (by decide)) (fun _ => ?_)
      refine r_aload_n (pc := 28) dX6_span_28 rfl ?_
      refine r_iload_n (pc := 29) dX6_span_29 rfl ?_
      refine r_iload_n (pc := 30) dX6_span_30 rfl ?_
      refine r_iload (pc := 31) dX6_span_31 rfl ?_
      refine r_callV (pc := 33) (d' := 4) (k := 0) (As := [.int (nI cj), .int (nI oj), .int (nI 0)]) (rest := []) dX6_span_33 vX6_partOfBestWay mX6_204 rfl rfl rfl (Nat.le_of_ble_eq_true rfl) (Nat.le_of_ble_eq_true rfl) ?_
      refine x_pbw0 hI1 hO hG (by omega) (by omega) (fun μ2 hI2 hk2 => ?_)
      have hl2 : lowT (mget σ cj oj).1 (mget σ cj oj).2 0 < 2 ^ 63 := by
        have q1 := Nat.div_le_self (mget σ cj oj).1 (Nat.gcd (mget σ cj oj).1 (mget σ cj oj).2)
        have q2 := Nat.div_le_self (mget σ cj oj).2 (Nat.gcd (mget σ cj oj).1 (mget σ cj oj).2)
        have q3 := mget_ok hO cj oj
        unfold lowT
        split <;> omega
      refine r_lreturn (pc := 36) dX6_span_36 rfl ?_
      have e9 : sp_span σ (nI cj) (nI oj) (nI 0) (nI 0) = (lN (lowT (mget σ cj oj).1 (mget σ cj oj).2 0)) := by simp (decide := true) [sp_span, bN_0, bN_1, z1, z2, z3, z4, z5, hbc, hbo]
      rw [e9] at h
      exact h _ hI2 (hk1.tr hk2)
    · rw [c13]
      refine r_iload_n (pc := 24) dX6_span_24 rfl ?_
      refine rn_if_ne (pc := 25) (tgt := 37) dX6_span_25 (by decide) (by decide) (fun q => absurd q (by decide)) (fun _ => ?_)
      refine r_aload_n (pc := 28) dX6_span_28 rfl ?_
      refine r_iload_n (pc := 29) dX6_span_29 rfl ?_
      refine r_iload_n (pc := 30) dX6_span_30 rfl ?_
      refine r_iload (pc := 31) dX6_span_31 rfl ?_
      refine r_callV (pc := 33) (d' := 4) (k := 0) (As := [.int (nI cj), .int (nI oj), .int (nI 1)]) (rest := []) dX6_span_33 vX6_partOfBestWay mX6_204 rfl rfl rfl (Nat.le_of_ble_eq_true rfl) (Nat.le_of_ble_eq_true rfl) ?_
      refine x_pbw1 hI1 hO hG (by omega) (by omega) (fun μ2 hI2 hk2 => ?_)
      have hl2 : lowT (mget σ cj oj).1 (mget σ cj oj).2 1 < 2 ^ 63 := by
        have q1 := Nat.div_le_self (mget σ cj oj).1 (Nat.gcd (mget σ cj oj).1 (mget σ cj oj).2)
        have q2 := Nat.div_le_self (mget σ cj oj).2 (Nat.gcd (mget σ cj oj).1 (mget σ cj oj).2)
        have q3 := mget_ok hO cj oj
        unfold lowT
        split <;> omega
      refine r_lreturn (pc := 36) dX6_span_36 rfl ?_
      have e9 : sp_span σ (nI cj) (nI oj) (nI 0) (nI 1) = (lN (lowT (mget σ cj oj).1 (mget σ cj oj).2 1)) := by simp (decide := true) [sp_span, bN_0, bN_1, z1, z2, z3, z4, z5, hbc, hbo]
      rw [e9] at h
      exact h _ hI2 (hk1.tr hk2)
    · rw [c13]
      refine r_iload_n (pc := 24) dX6_span_24 rfl ?_
      refine rn_if_ne (pc := 25) (tgt := 37) dX6_span_25 (by decide) (by decide) (fun _ => ?_) (fun q => absurd q (by decide))
      refine r_aload_n (pc := 37) dX6_span_37 rfl ?_
      refine r_iload_n (pc := 38) dX6_span_38 rfl ?_
      refine r_iload_n (pc := 39) dX6_span_39 rfl ?_
      refine r_iconst (pc := 40) (v := (nI (0))) dX6_span_40 (by decide) ?_
      refine r_callV (pc := 41) (d' := 4) (k := 0) (As := [.int (nI oj), .int (nI cj), .int (nI 0)]) (rest := []) dX6_span_41 vX6_partOfBestWay mX6_204 rfl rfl rfl (Nat.le_of_ble_eq_true rfl) (Nat.le_of_ble_eq_true rfl) ?_
      refine x_pbw0 hI1 hO hG (by omega) (by omega) (fun μ2 hI2 hk2 => ?_)
      have hl2 : lowT (mget σ oj cj).1 (mget σ oj cj).2 0 < 2 ^ 63 := by
        have q1 := Nat.div_le_self (mget σ oj cj).1 (Nat.gcd (mget σ oj cj).1 (mget σ oj cj).2)
        have q2 := Nat.div_le_self (mget σ oj cj).2 (Nat.gcd (mget σ oj cj).1 (mget σ oj cj).2)
        have q3 := mget_ok hO oj cj
        unfold lowT
        split <;> omega
      refine r_lconst (pc := 44) (v := lN 0) dX6_span_44 rfl ?_
      refine rn_lcmp (pc := 45) dX6_span_45 (by omega) (by omega) ?_
      refine rc_if_ne (pc := 46) (tgt := 53) dX6_span_46 (by decide) (fun c46 => ?_) (fun c46 => ?_)
      · refine r_iconst (pc := 53) (v := (nI (0))) dX6_span_53 (by decide) ?_
        refine r_istore (pc := 54) (ls' := [(0, .ref 0), (1, .int (nI cj)), (2, .int (nI oj)), (3, .int (nI 1)), (4, .int (nI 0)), (5, .int (0)), (6, .int (nI 0))]) dX6_span_54 (Nat.le_of_ble_eq_true rfl) rfl ?_
        refine r_iload (pc := 56) dX6_span_56 rfl ?_
        refine rn_if_eq (pc := 58) (tgt := 67) dX6_span_58 (by decide) (by decide) (fun _ => ?_) (fun q => absurd q (by decide))
        refine r_aload_n (pc := 67) dX6_span_67 rfl ?_
        refine r_iload_n (pc := 68) dX6_span_68 rfl ?_
        refine r_iload_n (pc := 69) dX6_span_69 rfl ?_
        refine r_iconst (pc := 70) (v := (nI (1))) dX6_span_70 (by decide) ?_
        refine r_iload (pc := 71) dX6_span_71 rfl ?_
        refine rn_isub (pc := 73) dX6_span_73 (by omega) ?_
        refine r_callV (pc := 74) (d' := 4) (k := 0) (As := [.int (nI oj), .int (nI cj), .int (nI (1 - (0)))]) (rest := []) dX6_span_74 vX6_partOfBestWay mX6_204 rfl rfl rfl (Nat.le_of_ble_eq_true rfl) (Nat.le_of_ble_eq_true rfl) ?_
        refine x_pbw1 hI2 hO hG (by omega) (by omega) (fun μ3 hI3 hk3 => ?_)
        have hl3 : lowT (mget σ oj cj).1 (mget σ oj cj).2 1 < 2 ^ 63 := by
          have q1 := Nat.div_le_self (mget σ oj cj).1 (Nat.gcd (mget σ oj cj).1 (mget σ oj cj).2)
          have q2 := Nat.div_le_self (mget σ oj cj).2 (Nat.gcd (mget σ oj cj).1 (mget σ oj cj).2)
          have q3 := mget_ok hO oj cj
          unfold lowT
          split <;> omega
        refine r_lreturn (pc := 77) dX6_span_77 rfl ?_
        have e9 : sp_span σ (nI cj) (nI oj) (nI 1) (nI 0) = (lN (lowT (mget σ oj cj).1 (mget σ oj cj).2 1)) := by simp (decide := true) [sp_span, bN_0, bN_1, z1, z2, z3, z4, z5, hbc, hbo, show ¬ (mget σ oj cj).1 = 0 from fun q => c46 ((low_0 hmo.2.1).mpr q), low_sw (mget σ oj cj).1 (mget σ oj cj).2]
        rw [e9] at h
        exact h _ hI3 ((hk1.tr hk2).tr hk3)
      · refine r_iconst (pc := 49) (v := (nI (1))) dX6_span_49 (by decide) ?_
        refine r_goto (pc := 50) (tgt := 54) dX6_span_50 (by decide) ?_
        refine r_istore (pc := 54) (ls' := [(0, .ref 0), (1, .int (nI cj)), (2, .int (nI oj)), (3, .int (nI 1)), (4, .int (nI 0)), (5, .int (0)), (6, .int (nI 1))]) dX6_span_54 (Nat.le_of_ble_eq_true rfl) rfl ?_
        refine r_iload (pc := 56) dX6_span_56 rfl ?_
        refine rn_if_eq (pc := 58) (tgt := 67) dX6_span_58 (by decide) (by decide) (fun q => absurd q (by decide)) (fun _ => ?_)
        refine r_iload (pc := 61) dX6_span_61 rfl ?_
        refine rn_i2l (pc := 63) dX6_span_63 (by omega) ?_
        refine r_goto (pc := 64) (tgt := 77) dX6_span_64 (by decide) ?_
        refine r_lreturn (pc := 77) dX6_span_77 rfl ?_
        have e9 : sp_span σ (nI cj) (nI oj) (nI 1) (nI 0) = (lN (0)) := by simp (decide := true) [sp_span, bN_0, bN_1, z1, z2, z3, z4, z5, hbc, hbo, show (mget σ oj cj).1 = 0 from (low_0 hmo.2.1).mp c46]
        rw [e9] at h
        exact h _ hI2 (hk1.tr hk2)
    · rw [c13]
      refine r_iload_n (pc := 24) dX6_span_24 rfl ?_
      refine rn_if_ne (pc := 25) (tgt := 37) dX6_span_25 (by decide) (by decide) (fun _ => ?_) (fun q => absurd q (by decide))
      refine r_aload_n (pc := 37) dX6_span_37 rfl ?_
      refine r_iload_n (pc := 38) dX6_span_38 rfl ?_
      refine r_iload_n (pc := 39) dX6_span_39 rfl ?_
      refine r_iconst (pc := 40) (v := (nI (0))) dX6_span_40 (by decide) ?_
      refine r_callV (pc := 41) (d' := 4) (k := 0) (As := [.int (nI oj), .int (nI cj), .int (nI 0)]) (rest := []) dX6_span_41 vX6_partOfBestWay mX6_204 rfl rfl rfl (Nat.le_of_ble_eq_true rfl) (Nat.le_of_ble_eq_true rfl) ?_
      refine x_pbw0 hI1 hO hG (by omega) (by omega) (fun μ2 hI2 hk2 => ?_)
      have hl2 : lowT (mget σ oj cj).1 (mget σ oj cj).2 0 < 2 ^ 63 := by
        have q1 := Nat.div_le_self (mget σ oj cj).1 (Nat.gcd (mget σ oj cj).1 (mget σ oj cj).2)
        have q2 := Nat.div_le_self (mget σ oj cj).2 (Nat.gcd (mget σ oj cj).1 (mget σ oj cj).2)
        have q3 := mget_ok hO oj cj
        unfold lowT
        split <;> omega
      refine r_lconst (pc := 44) (v := lN 0) dX6_span_44 rfl ?_
      refine rn_lcmp (pc := 45) dX6_span_45 (by omega) (by omega) ?_
      refine rc_if_ne (pc := 46) (tgt := 53) dX6_span_46 (by decide) (fun c46 => ?_) (fun c46 => ?_)
      · refine r_iconst (pc := 53) (v := (nI (0))) dX6_span_53 (by decide) ?_
        refine r_istore (pc := 54) (ls' := [(0, .ref 0), (1, .int (nI cj)), (2, .int (nI oj)), (3, .int (nI 1)), (4, .int (nI 1)), (5, .int (0)), (6, .int (nI 0))]) dX6_span_54 (Nat.le_of_ble_eq_true rfl) rfl ?_
        refine r_iload (pc := 56) dX6_span_56 rfl ?_
        refine rn_if_eq (pc := 58) (tgt := 67) dX6_span_58 (by decide) (by decide) (fun _ => ?_) (fun q => absurd q (by decide))
        refine r_aload_n (pc := 67) dX6_span_67 rfl ?_
        refine r_iload_n (pc := 68) dX6_span_68 rfl ?_
        refine r_iload_n (pc := 69) dX6_span_69 rfl ?_
        refine r_iconst (pc := 70) (v := (nI (1))) dX6_span_70 (by decide) ?_
        refine r_iload (pc := 71) dX6_span_71 rfl ?_
        refine rn_isub (pc := 73) dX6_span_73 (by omega) ?_
        refine r_callV (pc := 74) (d' := 4) (k := 0) (As := [.int (nI oj), .int (nI cj), .int (nI (1 - (1)))]) (rest := []) dX6_span_74 vX6_partOfBestWay mX6_204 rfl rfl rfl (Nat.le_of_ble_eq_true rfl) (Nat.le_of_ble_eq_true rfl) ?_
        refine x_pbw0 hI2 hO hG (by omega) (by omega) (fun μ3 hI3 hk3 => ?_)
        have hl3 : lowT (mget σ oj cj).1 (mget σ oj cj).2 0 < 2 ^ 63 := by
          have q1 := Nat.div_le_self (mget σ oj cj).1 (Nat.gcd (mget σ oj cj).1 (mget σ oj cj).2)
          have q2 := Nat.div_le_self (mget σ oj cj).2 (Nat.gcd (mget σ oj cj).1 (mget σ oj cj).2)
          have q3 := mget_ok hO oj cj
          unfold lowT
          split <;> omega
        refine r_lreturn (pc := 77) dX6_span_77 rfl ?_
        have e9 : sp_span σ (nI cj) (nI oj) (nI 1) (nI 1) = (lN (lowT (mget σ oj cj).1 (mget σ oj cj).2 0)) := by simp (decide := true) [sp_span, bN_0, bN_1, z1, z2, z3, z4, z5, hbc, hbo, show ¬ (mget σ oj cj).1 = 0 from fun q => c46 ((low_0 hmo.2.1).mpr q), low_sw (mget σ oj cj).1 (mget σ oj cj).2]
        rw [e9] at h
        exact h _ hI3 ((hk1.tr hk2).tr hk3)
      · refine r_iconst (pc := 49) (v := (nI (1))) dX6_span_49 (by decide) ?_
        refine r_goto (pc := 50) (tgt := 54) dX6_span_50 (by decide) ?_
        refine r_istore (pc := 54) (ls' := [(0, .ref 0), (1, .int (nI cj)), (2, .int (nI oj)), (3, .int (nI 1)), (4, .int (nI 1)), (5, .int (0)), (6, .int (nI 1))]) dX6_span_54 (Nat.le_of_ble_eq_true rfl) rfl ?_
        refine r_iload (pc := 56) dX6_span_56 rfl ?_
        refine rn_if_eq (pc := 58) (tgt := 67) dX6_span_58 (by decide) (by decide) (fun q => absurd q (by decide)) (fun _ => ?_)
        refine r_iload (pc := 61) dX6_span_61 rfl ?_
        refine rn_i2l (pc := 63) dX6_span_63 (by omega) ?_
        refine r_goto (pc := 64) (tgt := 77) dX6_span_64 (by decide) ?_
        refine r_lreturn (pc := 77) dX6_span_77 rfl ?_
        have e9 : sp_span σ (nI cj) (nI oj) (nI 1) (nI 1) = (lN (1)) := by simp (decide := true) [sp_span, bN_0, bN_1, z1, z2, z3, z4, z5, hbc, hbo, show (mget σ oj cj).1 = 0 from (low_0 hmo.2.1).mp c46]
        rw [e9] at h
        exact h _ hI2 (hk1.tr hk2)
  · refine r_ldc2 (pc := 16) dX6_span_16 kX6_202 ?_
    refine r_iload (pc := 19) dX6_span_19 rfl ?_
    refine r_i2l (pc := 21) dX6_span_21 rfl ?_
    refine r_ladd (pc := 22) dX6_span_22 ?_
    refine r_lreturn (pc := 23) dX6_span_23 rfl ?_
    rw [span_rf σ c o e p c13] at h
    exact h _ hI1 hk1
