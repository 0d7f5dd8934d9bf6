/-! THE CLASS: joined, parts -/
def Rm (μ : Mem) (R : Nat → Nat) : Prop := ∀ j, j < 8 → μ.1 21 j = nI (R j)

set_option maxRecDepth 20000 in
set_option maxHeartbeats 4000000 in
theorem x_ro_i {μ : Mem} {σ : Sg} {n : Nat} {R : Nat → Nat} {Q : Option Value → Mem → Prop} (hX : Xs μ σ) (hO : Ok σ) (K : ∀ μ2, frU μ μ2 → Rm μ2 (roP σ R (σ 0 0)) → WP cX5_reachOut (RX5, 4, none, 2, none) 80 [(0, .ref 18), (1, .ref 1), (2, .int (nI n))] [] μ2 Q) : ∀ (k : Nat) (b : Nat) (μ1 : Mem), b + k = σ 0 0 → frU μ μ1 → Rm μ1 (roP σ R b) → WP cX5_reachOut (RX5, 4, none, 2, none) 33 [(0, .ref 18), (1, .ref 1), (2, .int (nI n)), (3, .int (nI b))] [] μ1 Q := by
  intro k
  induction k using Nat.strongRecOn with
  | _ k ih =>
    intro b μ1 hb hf1 hU1
    have hn := Ok_n hO
    refine r_iload_n (pc := 33) dX5_reachOut_33 rfl ?_
    refine r_aload_n (pc := 34) dX5_reachOut_34 rfl ?_
    refine r_getI (pc := 35) (x := (nI (σ 0 0))) dX5_reachOut_35 fX5_22 rfl rfl (Xs_n (μ := μ1) (Xs_frU hf1 hX)) ?_
    refine rn_icmp_ge (pc := 38) (tgt := 80) dX5_reachOut_38 (by decide) (by omega) (by omega) (fun c38 => ?_) (fun c38 => ?_)
    · obtain rfl : b = σ 0 0 := by omega
      refine r_pick (ls' := [(0, .ref 18), (1, .ref 1), (2, .int (nI n))]) [0, 1, 2] rfl ?_
      exact K μ1 hf1 hU1
    · have hbb := Ok_b hO (j := b) (by omega)
      refine r_aload_n (pc := 41) dX5_reachOut_41 rfl ?_
      refine r_iload_n (pc := 42) dX5_reachOut_42 rfl ?_
      refine r_callV (pc := 43) (d' := 1) (k := 1) (As := [.int (nI b)]) (rest := []) dX5_reachOut_43 vX0_isOpen mX5_28 rfl rfl rfl (Nat.le_of_ble_eq_true rfl) (Nat.le_of_ble_eq_true rfl) ?_
      refine c_xopen (μ := μ1) (Xs_frU hf1 hX) hO (by omega) ?_
      refine rb_if_eq (pc := 46) (tgt := 74) dX5_reachOut_46 (by decide) (fun c46 => ?_) (fun c46 => ?_)
      · refine rn_iinc (pc := 74) (b := 1) (ls' := [(0, .ref 18), (1, .ref 1), (2, .int (nI n)), (3, .int (nI (b + 1)))]) dX5_reachOut_74 rfl (by decide) (Nat.le_of_ble_eq_true rfl) rfl ?_
        refine r_goto (pc := 77) (tgt := 33) dX5_reachOut_77 (by decide) ?_
        refine ih (k - 1) (by omega) (b + 1) μ1 (by omega) hf1 ?_
        have e9 : roP σ R (b + 1) = roP σ R b := by show ro1 σ (roP σ R b) b = _; unfold ro1; rw [if_neg (by rw [c46]; decide)]
        rw [e9]; exact hU1
      · refine r_aload_n (pc := 49) dX5_reachOut_49 rfl ?_
        refine r_getR (pc := 50) (r := 21) dX5_reachOut_50 fX5_18 rfl rfl ?_
        refine r_aload_n (pc := 53) dX5_reachOut_53 rfl ?_
        refine r_getR (pc := 54) (r := 2) dX5_reachOut_54 fX5_36 rfl rfl ?_
        refine r_iload_n (pc := 57) dX5_reachOut_57 rfl ?_
        refine r_iald (pc := 58) (x := (nI (σ 1 (b)))) dX5_reachOut_58 rfl rfl (by omega) (Xs_1 (μ := μ1) (Xs_frU hf1 hX) (by omega)) ?_
        have b1 := Ok_b hO (j := b) (by omega)
        refine r_dup2_ir (pc := 59) dX5_reachOut_59 ?_
        refine r_iald (pc := 60) (x := (nI (roP σ R b (σ 1 (b))))) dX5_reachOut_60 rfl rfl (by omega) (hU1 _ (by omega)) ?_
        refine r_aload_n (pc := 61) dX5_reachOut_61 rfl ?_
        refine r_getR (pc := 62) (r := 21) dX5_reachOut_62 fX5_18 rfl rfl ?_
        refine r_aload_n (pc := 65) dX5_reachOut_65 rfl ?_
        refine r_getR (pc := 66) (r := 4) dX5_reachOut_66 fX5_39 rfl rfl ?_
        refine r_iload_n (pc := 69) dX5_reachOut_69 rfl ?_
        refine r_iald (pc := 70) (x := (nI (σ 3 (b)))) dX5_reachOut_70 rfl rfl (by omega) (Xs_3 (μ := μ1) (Xs_frU hf1 hX) (by omega)) ?_
        have b2 := Ok_b hO (j := b) (by omega)
        refine r_iald (pc := 71) (x := (nI (roP σ R b (σ 3 (b))))) dX5_reachOut_71 rfl rfl (by omega) (hU1 _ (by omega)) ?_
        refine r_ior (pc := 72) dX5_reachOut_72 ?_
        refine r_eqi (nI_or _ _) ?_
        refine r_iast (pc := 73) dX5_reachOut_73 rfl rfl (by omega) ?_
        refine rn_iinc (pc := 74) (b := 1) (ls' := [(0, .ref 18), (1, .ref 1), (2, .int (nI n)), (3, .int (nI (b + 1)))]) dX5_reachOut_74 rfl (by decide) (Nat.le_of_ble_eq_true rfl) rfl ?_
        refine r_goto (pc := 77) (tgt := 33) dX5_reachOut_77 (by decide) ?_
        refine ih (k - 1) (by omega) (b + 1) _ (by omega) hf1.s21 (fun j hj => ?_)
        have e9 : roP σ R (b + 1) = updN (roP σ R b) (σ 1 b) (roP σ R b (σ 1 b) ||| roP σ R b (σ 3 b)) := by show ro1 σ (roP σ R b) b = _; unfold ro1; rw [if_pos c46]
        rw [e9]
        show upd (μ1.1 21) (σ 1 b) _ j = _
        rw [upd_at]
        by_cases e : j = σ 1 b
        · subst e; rw [if_pos rfl, updN_s]
        · rw [if_neg e, updN_o e]; exact hU1 j hj

set_option maxRecDepth 20000 in
set_option maxHeartbeats 4000000 in
theorem x_ro_o {μ : Mem} {σ : Sg} {Q : Option Value → Mem → Prop} (hX : Xs μ σ) (hO : Ok σ) (h : ∀ μ', frU μ μ' → Rm μ' (fun c => rc σ c 8) → Q none μ') : ∀ (k : Nat) (n : Nat) (μ1 : Mem), n + k = 7 → frU μ μ1 → Rm μ1 (roK σ n) → WP cX5_reachOut (RX5, 4, none, 2, none) 25 [(0, .ref 18), (1, .ref 1), (2, .int (nI (n + 1)))] [] μ1 Q := by
  intro k
  induction k using Nat.strongRecOn with
  | _ k ih =>
    intro n μ1 hnk hf1 hU1
    have hn := Ok_n hO
    refine r_iload_n (pc := 25) dX5_reachOut_25 rfl ?_
    refine r_bipush (pc := 26) (v := (nI (8))) dX5_reachOut_26 (by decide) ?_
    refine rn_icmp_ge (pc := 28) (tgt := 86) dX5_reachOut_28 (by decide) (by omega) (by omega) (fun c28 => ?_) (fun c28 => ?_)
    · obtain rfl : n = 7 := by omega
      refine r_return (pc := 86) dX5_reachOut_86 rfl ?_
      exact h _ hf1 (fun j hj => by rw [hU1 j hj, reach_eq hO hj])
    · refine r_iconst (pc := 31) (v := (nI (0))) dX5_reachOut_31 (by decide) ?_
      refine r_istore_n (pc := 32) (ls' := [(0, .ref 18), (1, .ref 1), (2, .int (nI (n + 1))), (3, .int (nI 0))]) dX5_reachOut_32 (Nat.le_of_ble_eq_true rfl) rfl ?_
      refine x_ro_i (R := roK σ n) hX hO (fun μ2 hf2 hU2 => ?_) (σ 0 0) 0 μ1 (by omega) hf1 hU1
      refine rn_iinc (pc := 80) (b := 1) (ls' := [(0, .ref 18), (1, .ref 1), (2, .int (nI (n + 1 + 1)))]) dX5_reachOut_80 rfl (by decide) (Nat.le_of_ble_eq_true rfl) rfl ?_
      refine r_goto (pc := 83) (tgt := 25) dX5_reachOut_83 (by decide) ?_
      exact ih (k - 1) (by omega) (n + 1) μ2 (by omega) hf2 hU2

set_option maxRecDepth 20000 in
set_option maxHeartbeats 4000000 in
theorem x_ro_z {μ : Mem} {σ : Sg} {Q : Option Value → Mem → Prop} (hX : Xs μ σ) (hO : Ok σ) (h : ∀ μ', frU μ μ' → Rm μ' (fun c => rc σ c 8) → Q none μ') : ∀ (k : Nat) (x : Nat) (μ1 : Mem), x + k = 8 → frU μ μ1 → (∀ j, j < x → μ1.1 21 j = nI (2 ^ j)) → WP cX5_reachOut (RX5, 4, none, 2, none) 2 [(0, .ref 18), (1, .ref 1), (2, .int (nI x))] [] μ1 Q := by
  intro k
  induction k using Nat.strongRecOn with
  | _ k ih =>
    intro x μ1 hxk hf1 hU1
    refine r_iload_n (pc := 2) dX5_reachOut_2 rfl ?_
    refine r_bipush (pc := 3) (v := (nI (8))) dX5_reachOut_3 (by decide) ?_
    refine rn_icmp_ge (pc := 5) (tgt := 23) dX5_reachOut_5 (by decide) (by omega) (by omega) (fun c5 => ?_) (fun c5 => ?_)
    · refine r_iconst (pc := 23) (v := (nI (1))) dX5_reachOut_23 (by decide) ?_
      refine r_istore_n (pc := 24) (ls' := [(0, .ref 18), (1, .ref 1), (2, .int (nI 1))]) dX5_reachOut_24 (Nat.le_of_ble_eq_true rfl) rfl ?_
      exact x_ro_o hX hO h 7 0 μ1 (by omega) hf1 (fun j hj => hU1 j (by omega))
    · refine r_aload_n (pc := 8) dX5_reachOut_8 rfl ?_
      refine r_getR (pc := 9) (r := 21) dX5_reachOut_9 fX5_18 rfl rfl ?_
      refine r_iload_n (pc := 12) dX5_reachOut_12 rfl ?_
      refine r_iconst (pc := 13) (v := (nI (1))) dX5_reachOut_13 (by decide) ?_
      refine r_iload_n (pc := 14) dX5_reachOut_14 rfl ?_
      refine r_ishl (pc := 15) dX5_reachOut_15 ?_
      refine r_eqi (shl1 (by omega)) ?_
      refine r_iast (pc := 16) dX5_reachOut_16 rfl rfl (by omega) ?_
      refine rn_iinc (pc := 17) (b := 1) (ls' := [(0, .ref 18), (1, .ref 1), (2, .int (nI (x + 1)))]) dX5_reachOut_17 rfl (by decide) (Nat.le_of_ble_eq_true rfl) rfl ?_
      refine r_goto (pc := 20) (tgt := 2) dX5_reachOut_20 (by decide) ?_
      refine ih (k - 1) (by omega) (x + 1) _ (by omega) hf1.s21 (fun j hj => ?_)
      show upd (μ1.1 21) x _ j = _
      rw [upd_at]
      by_cases e : j = x
      · subst e; rw [if_pos rfl]
      · rw [if_neg e]; exact hU1 j (by omega)

set_option maxRecDepth 20000 in
set_option maxHeartbeats 4000000 in
theorem x_reach {μ : Mem} {σ : Sg} {Q : Option Value → Mem → Prop} (hX : Xs μ σ) (hO : Ok σ) (h : ∀ μ', frU μ μ' → Rm μ' (fun c => rc σ c 8) → Q none μ') : Sp iX5_reachOut 2 [.ref 18, .ref 1] μ Q := by
  refine Sp.of vX5_reachOut.1 (Nat.le_of_ble_eq_true rfl) ?_
  show WP cX5_reachOut (RX5, 4, none, 2, none) 0 [(0, .ref 18), (1, .ref 1)] [] μ Q
  refine r_iconst (pc := 0) (v := (nI (0))) dX5_reachOut_0 (by decide) ?_
  refine r_istore_n (pc := 1) (ls' := [(0, .ref 18), (1, .ref 1), (2, .int (nI 0))]) dX5_reachOut_1 (Nat.le_of_ble_eq_true rfl) rfl ?_
  exact x_ro_z hX hO h 8 0 μ (by omega) frU.rf (fun j hj => absurd hj (Nat.not_lt_zero j))

set_option maxRecDepth 20000 in
set_option maxHeartbeats 4000000 in
theorem x_jb_l {μ : Mem} {σ : Sg} {c : Nat} {Q : Option Value → Mem → Prop} (hO : Ok σ) (hR : Rm μ (fun c => rc σ c 8)) (hc : c < 8) (h : Q (some (.int (nI (jn σ c 8)))) μ) : ∀ (k : Nat) (n : Nat), n + k = 8 → WP cX5_joinedBits (RX5, 4, (some .int), 0, none) 4 [(0, .ref 18), (1, .int (nI c)), (2, .int (nI (jn σ c n))), (3, .int (nI n))] [] μ Q := by
  intro k
  induction k using Nat.strongRecOn with
  | _ k ih =>
    intro n hr
    refine r_iload_n (pc := 4) dX5_joinedBits_4 rfl ?_
    refine r_bipush (pc := 5) (v := (nI (8))) dX5_joinedBits_5 (by decide) ?_
    refine rn_icmp_ge (pc := 7) (tgt := 50) dX5_joinedBits_7 (by decide) (by omega) (by omega) (fun c7 => ?_) (fun c7 => ?_)
    · obtain rfl : n = 8 := by omega
      refine r_iload_n (pc := 50) dX5_joinedBits_50 rfl ?_
      refine r_ireturn (pc := 51) dX5_joinedBits_51 rfl (Or.inl rfl) rfl ?_
      exact h
    · refine r_aload_n (pc := 10) dX5_joinedBits_10 rfl ?_
      refine r_getR (pc := 11) (r := 21) dX5_joinedBits_11 fX5_18 rfl rfl ?_
      refine r_iload_n (pc := 14) dX5_joinedBits_14 rfl ?_
      refine r_iald (pc := 15) (x := (nI (rc σ (c) 8))) dX5_joinedBits_15 rfl rfl (by omega) (hR _ (by omega)) ?_
      have hr1 := rc_lt hO (c := c) (by omega) 8
      refine r_iload_n (pc := 16) dX5_joinedBits_16 rfl ?_
      refine r_ishr (pc := 17) dX5_joinedBits_17 ?_
      refine r_eqi (shrN (by omega) (by omega)) ?_
      refine r_iconst (pc := 18) (v := (nI (1))) dX5_joinedBits_18 (by decide) ?_
      refine r_iand (pc := 19) dX5_joinedBits_19 ?_
      refine r_eqi (and1 (Nat.lt_of_le_of_lt (Nat.div_le_self _ _) (by omega))) ?_
      refine r_iconst (pc := 20) (v := (nI (1))) dX5_joinedBits_20 (by decide) ?_
      refine rn_icmp_ne (pc := 21) (tgt := 44) dX5_joinedBits_21 (by decide) (by omega) (by omega) (fun c21 => ?_) (fun c21 => ?_)
      · refine rn_iinc (pc := 44) (b := 1) (ls' := [(0, .ref 18), (1, .int (nI c)), (2, .int (nI (jn σ c n))), (3, .int (nI (n + 1)))]) dX5_joinedBits_44 rfl (by decide) (Nat.le_of_ble_eq_true rfl) rfl ?_
        refine r_goto (pc := 47) (tgt := 4) dX5_joinedBits_47 (by decide) ?_
        rw [show jn σ c n = jn σ c (n + 1) by rw [jn, if_neg (fun q => c21 (tb_iff.mpr q.1)), Nat.or_zero]]
        exact ih (k - 1) (by omega) (n + 1) (by omega)
      · refine r_aload_n (pc := 24) dX5_joinedBits_24 rfl ?_
        refine r_getR (pc := 25) (r := 21) dX5_joinedBits_25 fX5_18 rfl rfl ?_
        refine r_iload_n (pc := 28) dX5_joinedBits_28 rfl ?_
        refine r_iald (pc := 29) (x := (nI (rc σ (n) 8))) dX5_joinedBits_29 rfl rfl (by omega) (hR _ (by omega)) ?_
        have hr2 := rc_lt hO (c := n) (by omega) 8
        refine r_iload_n (pc := 30) dX5_joinedBits_30 rfl ?_
        refine r_ishr (pc := 31) dX5_joinedBits_31 ?_
        refine r_eqi (shrN (by omega) (by omega)) ?_
        refine r_iconst (pc := 32) (v := (nI (1))) dX5_joinedBits_32 (by decide) ?_
        refine r_iand (pc := 33) dX5_joinedBits_33 ?_
        refine r_eqi (and1 (Nat.lt_of_le_of_lt (Nat.div_le_self _ _) (by omega))) ?_
        refine r_iconst (pc := 34) (v := (nI (1))) dX5_joinedBits_34 (by decide) ?_
        refine rn_icmp_ne (pc := 35) (tgt := 44) dX5_joinedBits_35 (by decide) (by omega) (by omega) (fun c35 => ?_) (fun c35 => ?_)
        · refine rn_iinc (pc := 44) (b := 1) (ls' := [(0, .ref 18), (1, .int (nI c)), (2, .int (nI (jn σ c n))), (3, .int (nI (n + 1)))]) dX5_joinedBits_44 rfl (by decide) (Nat.le_of_ble_eq_true rfl) rfl ?_
          refine r_goto (pc := 47) (tgt := 4) dX5_joinedBits_47 (by decide) ?_
          rw [show jn σ c n = jn σ c (n + 1) by rw [jn, if_neg (fun q => c35 (tb_iff.mpr q.2)), Nat.or_zero]]
          exact ih (k - 1) (by omega) (n + 1) (by omega)
        · refine r_iload_n (pc := 38) dX5_joinedBits_38 rfl ?_
          refine r_iconst (pc := 39) (v := (nI (1))) dX5_joinedBits_39 (by decide) ?_
          refine r_iload_n (pc := 40) dX5_joinedBits_40 rfl ?_
          refine r_ishl (pc := 41) dX5_joinedBits_41 ?_
          refine r_eqi (shl1 (by omega)) ?_
          refine r_ior (pc := 42) dX5_joinedBits_42 ?_
          refine r_eqi (nI_or _ _) ?_
          refine r_istore_n (pc := 43) (ls' := [(0, .ref 18), (1, .int (nI c)), (2, .int (nI ((jn σ c n) ||| (2 ^ n)))), (3, .int (nI n))]) dX5_joinedBits_43 (Nat.le_of_ble_eq_true rfl) rfl ?_
          refine rn_iinc (pc := 44) (b := 1) (ls' := [(0, .ref 18), (1, .int (nI c)), (2, .int (nI ((jn σ c n) ||| (2 ^ n)))), (3, .int (nI (n + 1)))]) dX5_joinedBits_44 rfl (by decide) (Nat.le_of_ble_eq_true rfl) rfl ?_
          refine r_goto (pc := 47) (tgt := 4) dX5_joinedBits_47 (by decide) ?_
          rw [show (jn σ c n) ||| (2 ^ n) = jn σ c (n + 1) by rw [jn, if_pos ⟨tb_iff.mp c21, tb_iff.mp c35⟩]]
          exact ih (k - 1) (by omega) (n + 1) (by omega)

set_option maxRecDepth 20000 in
set_option maxHeartbeats 4000000 in
theorem x_jb {μ : Mem} {σ : Sg} {c : Nat} {Q : Option Value → Mem → Prop} (hO : Ok σ) (hR : Rm μ (fun c => rc σ c 8)) (hc : c < 8) (h : Q (some (.int (nI (jn σ c 8)))) μ) : Sp iX5_joinedBits 0 [.ref 18, .int (nI c)] μ Q := by
  refine Sp.of vX5_joinedBits.1 (Nat.le_of_ble_eq_true rfl) ?_
  show WP cX5_joinedBits (RX5, 4, (some .int), 0, none) 0 [(0, .ref 18), (1, .int (nI c))] [] μ Q
  refine r_iconst (pc := 0) (v := (nI (0))) dX5_joinedBits_0 (by decide) ?_
  refine r_istore_n (pc := 1) (ls' := [(0, .ref 18), (1, .int (nI c)), (2, .int (nI 0))]) dX5_joinedBits_1 (Nat.le_of_ble_eq_true rfl) rfl ?_
  refine r_iconst (pc := 2) (v := (nI (0))) dX5_joinedBits_2 (by decide) ?_
  refine r_istore_n (pc := 3) (ls' := [(0, .ref 18), (1, .int (nI c)), (2, .int (nI 0)), (3, .int (nI 0))]) dX5_joinedBits_3 (Nat.le_of_ble_eq_true rfl) rfl ?_
  exact x_jb_l hO hR hc h 8 0 (by omega)

set_option maxRecDepth 20000 in
set_option maxHeartbeats 4000000 in
theorem c_lob {μ : Mem} {x : Nat} {Q : Option Value → Mem → Prop} (h : Q (some (.int (nI x &&& (-(nI x))))) μ) : Sp iJ6_lowestOneBit_0f7a4 0 [.int (nI x)] μ Q := by
  refine Sp.of sJ6_lowestOneBit_0f7a4.1 (Nat.le_of_ble_eq_true rfl) ?_
  show WP cJ6_lowestOneBit_0f7a4 (RJ6, 1, (some .int), 0, none) 0 [(0, .int (nI x))] [] μ Q
  refine r_iload_n (pc := 0) dJ6_lowestOneBit_0f7a4_0 rfl ?_
  refine r_iload_n (pc := 1) dJ6_lowestOneBit_0f7a4_1 rfl ?_
  refine r_ineg (pc := 2) dJ6_lowestOneBit_0f7a4_2 ?_
  refine r_iand (pc := 3) dJ6_lowestOneBit_0f7a4_3 ?_
  refine r_ireturn (pc := 4) dJ6_lowestOneBit_0f7a4_4 rfl (Or.inl rfl) rfl ?_
  exact h

set_option maxRecDepth 20000 in
set_option maxHeartbeats 4000000 in
theorem x_cs_l {μ : Mem} {σ : Sg} {Q : Option Value → Mem → Prop} (hO : Ok σ) (hR : Rm μ (fun c => rc σ c 8)) (h : Q (some (.int (nI (ptn σ 8)))) μ) : ∀ (k : Nat) (c : Nat), c + k = 8 → WP cX5_countSets (RX5, 3, (some .int), 1, none) 4 [(0, .ref 18), (1, .int (nI (ptn σ c))), (2, .int (nI c))] [] μ Q := by
  intro k
  induction k using Nat.strongRecOn with
  | _ k ih =>
    intro c hr
    refine r_iload_n (pc := 4) dX5_countSets_4 rfl ?_
    refine r_bipush (pc := 5) (v := (nI (8))) dX5_countSets_5 (by decide) ?_
    refine rn_icmp_ge (pc := 7) (tgt := 33) dX5_countSets_7 (by decide) (by omega) (by omega) (fun c7 => ?_) (fun c7 => ?_)
    · obtain rfl : c = 8 := by omega
      refine r_iload_n (pc := 33) dX5_countSets_33 rfl ?_
      refine r_ireturn (pc := 34) dX5_countSets_34 rfl (Or.inl rfl) rfl ?_
      exact h
    · refine r_aload_n (pc := 10) dX5_countSets_10 rfl ?_
      refine r_iload_n (pc := 11) dX5_countSets_11 rfl ?_
      refine r_callV (pc := 12) (d' := 0) (k := 18) (As := [.int (nI c)]) (rest := []) dX5_countSets_12 vX5_joinedBits mX5_59 rfl rfl rfl (Nat.le_of_ble_eq_true rfl) (Nat.le_of_ble_eq_true rfl) ?_
      refine x_jb hO hR (by omega) ?_
      have hjl := jn_lt σ (c) 8
      refine r_callS (pc := 15) (d' := 0) (As := [.int (nI (jn σ (c) 8))]) (rest := []) dX5_countSets_15 sJ6_lowestOneBit_0f7a4 mX5_62 rfl rfl (Nat.le_of_ble_eq_true rfl) (Nat.le_of_ble_eq_true rfl) ?_
      refine c_lob ?_
      refine r_iconst (pc := 18) (v := (nI (1))) dX5_countSets_18 (by decide) ?_
      refine r_iload_n (pc := 19) dX5_countSets_19 rfl ?_
      refine r_ishl (pc := 20) dX5_countSets_20 ?_
      refine r_eqi (shl1 (by omega)) ?_
      refine r_icmp_ne (pc := 21) (tgt := 27) dX5_countSets_21 (by decide) (fun c21 => ?_) (fun c21 => ?_)
      · refine rn_iinc (pc := 27) (b := 1) (ls' := [(0, .ref 18), (1, .int (nI (ptn σ c))), (2, .int (nI (c + 1)))]) dX5_countSets_27 rfl (by decide) (Nat.le_of_ble_eq_true rfl) rfl ?_
        refine r_goto (pc := 30) (tgt := 4) dX5_countSets_30 (by decide) ?_
        have hlo := lob_ok (jn σ c 8) (by omega) c (by omega)
        rw [part_eq σ (show c < 8 by omega)] at hlo
        rw [decide_eq_false c21] at hlo
        have e9 : ptn σ (c + 1) = ptn σ c := by
          have h1 : (pts σ c).testBit c = true := by simpa using hlo.symm
          show ptn σ c + (1 - pts σ c / 2 ^ c % 2) = _
          rw [tb_iff.mpr h1]
          rfl
        rw [← e9]
        exact ih (k - 1) (by omega) (c + 1) (by omega)
      · refine rn_iinc (pc := 24) (b := 1) (ls' := [(0, .ref 18), (1, .int (nI (ptn σ c + 1))), (2, .int (nI c))]) dX5_countSets_24 rfl (by decide) (Nat.le_of_ble_eq_true rfl) rfl ?_
        refine rn_iinc (pc := 27) (b := 1) (ls' := [(0, .ref 18), (1, .int (nI (ptn σ c + 1))), (2, .int (nI (c + 1)))]) dX5_countSets_27 rfl (by decide) (Nat.le_of_ble_eq_true rfl) rfl ?_
        refine r_goto (pc := 30) (tgt := 4) dX5_countSets_30 (by decide) ?_
        have hlo := lob_ok (jn σ c 8) (by omega) c (by omega)
        rw [part_eq σ (show c < 8 by omega)] at hlo
        rw [decide_eq_true c21] at hlo
        have e9 : ptn σ (c + 1) = ptn σ c + 1 := by
          have h1 : (pts σ c).testBit c = false := by simpa using hlo.symm
          show ptn σ c + (1 - pts σ c / 2 ^ c % 2) = _
          rw [tb_0.mpr h1]
        rw [← e9]
        exact ih (k - 1) (by omega) (c + 1) (by omega)

set_option maxRecDepth 20000 in
set_option maxHeartbeats 4000000 in
theorem x_cs {μ : Mem} {σ : Sg} {Q : Option Value → Mem → Prop} (hO : Ok σ) (hR : Rm μ (fun c => rc σ c 8)) (h : Q (some (.int (nI (ptn σ 8)))) μ) : Sp iX5_countSets 1 [.ref 18] μ Q := by
  refine Sp.of vX5_countSets.1 (Nat.le_of_ble_eq_true rfl) ?_
  show WP cX5_countSets (RX5, 3, (some .int), 1, none) 0 [(0, .ref 18)] [] μ Q
  refine r_iconst (pc := 0) (v := (nI (0))) dX5_countSets_0 (by decide) ?_
  refine r_istore_n (pc := 1) (ls' := [(0, .ref 18), (1, .int (nI 0))]) dX5_countSets_1 (Nat.le_of_ble_eq_true rfl) rfl ?_
  refine r_iconst (pc := 2) (v := (nI (0))) dX5_countSets_2 (by decide) ?_
  refine r_istore_n (pc := 3) (ls' := [(0, .ref 18), (1, .int (nI 0)), (2, .int (nI 0))]) dX5_countSets_3 (Nat.le_of_ble_eq_true rfl) rfl ?_
  exact x_cs_l hO hR h 8 0 (by omega)

set_option maxRecDepth 20000 in
set_option maxHeartbeats 4000000 in
theorem x_joined {μ : Mem} {σ : Sg} {c : Int32} {Q : Option Value → Mem → Prop} (hI : XI μ σ) (hO : Ok σ) (h : ∀ μ', XI μ' σ → keepM μ μ' → Q (some (.int (sp_joined σ c))) μ') : Sp iX6_joined 14 [.ref 0, .int (c)] μ Q := by
  refine Sp.of vX6_joined.1 (Nat.le_of_ble_eq_true rfl) ?_
  show WP cX6_joined (RX6, 2, (some .int), 14, none) 0 [(0, .ref 0), (1, .int (c))] [] μ Q
  have hn := Ok_n hO
  refine r_iload_n (pc := 0) dX6_joined_0 rfl ?_
  refine r_callS (pc := 1) (d' := 0) (As := [.int (c)]) (rest := []) dX6_joined_1 sX6_isCoin mX6_55 rfl rfl (Nat.le_of_ble_eq_true rfl) (Nat.le_of_ble_eq_true rfl) ?_
  refine c_xcoin ?_
  refine rb_if_ne (pc := 4) (tgt := 9) dX6_joined_4 (by decide) (fun c4 => ?_) (fun c4 => ?_)
  · obtain ⟨cj, hcj, rfl, -⟩ := isB_t c4
    refine r_aload_n (pc := 9) dX6_joined_9 rfl ?_
    refine r_callV (pc := 10) (d' := 13) (k := 0) (As := []) (rest := []) dX6_joined_10 vX6_lookAround mX6_130 rfl rfl rfl (Nat.le_of_ble_eq_true rfl) (Nat.le_of_ble_eq_true rfl) ?_
    refine x_look hI hO (fun μ1 hF1 hk1 => ?_)
    have hX1 := hF1.1.1
    have hGl := Gs_len hO
    have hRl := rnds_le hO
    refine r_aload_n (pc := 13) dX6_joined_13 rfl ?_
    refine r_getR (pc := 14) (r := 12) dX6_joined_14 fX6_26 rfl rfl ?_
    refine r_getI (pc := 17) (x := (nI ((Gs σ).length))) dX6_joined_17 fX6_134 rfl rfl (FO_n hF1.2) ?_
    refine rn_if_le (pc := 20) (tgt := 26) dX6_joined_20 (by decide) (by omega) (fun c20 => ?_) (fun c20 => ?_)
    · refine r_aload_n (pc := 26) dX6_joined_26 rfl ?_
      refine r_getR (pc := 27) (r := 18) dX6_joined_27 fX6_33 rfl rfl ?_
      refine r_aload_n (pc := 30) dX6_joined_30 rfl ?_
      refine r_getR (pc := 31) (r := 1) dX6_joined_31 fX6_12 rfl rfl ?_
      refine r_callV (pc := 34) (d' := 2) (k := 18) (As := [.ref 1]) (rest := []) dX6_joined_34 vX5_reachOut mX6_208 rfl rfl rfl (Nat.le_of_ble_eq_true rfl) (Nat.le_of_ble_eq_true rfl) ?_
      refine x_reach hX1 hO (fun μ2 hf2 hR => ?_)
      refine r_aload_n (pc := 37) dX6_joined_37 rfl ?_
      refine r_getR (pc := 38) (r := 18) dX6_joined_38 fX6_33 rfl rfl ?_
      refine r_iload_n (pc := 41) dX6_joined_41 rfl ?_
      refine r_callV (pc := 42) (d' := 0) (k := 18) (As := [.int (nI cj)]) (rest := []) dX6_joined_42 vX5_joinedBits mX6_212 rfl rfl rfl (Nat.le_of_ble_eq_true rfl) (Nat.le_of_ble_eq_true rfl) ?_
      refine x_jb hO hR (by omega) ?_
      have hjl := jn_lt σ (cj) 8
      refine r_ireturn (pc := 45) dX6_joined_45 rfl (Or.inl rfl) rfl ?_
      have hst : stG σ = false := decide_eq_false (by omega)
      have e9 : sp_joined σ (nI cj) = nI (jn σ cj 8) := by simp [sp_joined, c4, hst, bN_nI (show cj < 2 ^ 31 by omega)]
      rw [e9] at h
      exact h _ (XI_frU hf2 hF1.1) (hk1.tr hf2.keep)
    · refine r_bipush (pc := 23) (v := (-3)) dX6_joined_23 (by decide) ?_
      refine r_ireturn (pc := 25) dX6_joined_25 rfl (Or.inl rfl) rfl ?_
      have hst : stG σ = true := decide_eq_true (by omega)
      have e9 : sp_joined σ (nI cj) = -3 := by simp [sp_joined, c4, hst]
      rw [e9] at h
      exact h _ hF1.1 hk1
  · refine r_iconst (pc := 7) (v := (-1)) dX6_joined_7 (by decide) ?_
    refine r_ireturn (pc := 8) dX6_joined_8 rfl (Or.inl rfl) rfl ?_
    have e9 : sp_joined σ c = -1 := by simp [sp_joined, c4]
    rw [e9] at h
    exact h _ hI keepM.rf

set_option maxRecDepth 20000 in
set_option maxHeartbeats 4000000 in
theorem x_parts {μ : Mem} {σ : Sg} {Q : Option Value → Mem → Prop} (hI : XI μ σ) (hO : Ok σ) (h : ∀ μ', XI μ' σ → keepM μ μ' → Q (some (.int (sp_parts σ))) μ') : Sp iX6_parts 14 [.ref 0] μ Q := by
  refine Sp.of vX6_parts.1 (Nat.le_of_ble_eq_true rfl) ?_
  show WP cX6_parts (RX6, 1, (some .int), 14, none) 0 [(0, .ref 0)] [] μ Q
  have hn := Ok_n hO
  refine r_aload_n (pc := 0) dX6_parts_0 rfl ?_
  refine r_callV (pc := 1) (d' := 13) (k := 0) (As := []) (rest := []) dX6_parts_1 vX6_lookAround mX6_130 rfl rfl rfl (Nat.le_of_ble_eq_true rfl) (Nat.le_of_ble_eq_true rfl) ?_
  refine x_look hI hO (fun μ1 hF1 hk1 => ?_)
  have hX1 := hF1.1.1
  have hGl := Gs_len hO
  have hRl := rnds_le hO
  refine r_aload_n (pc := 4) dX6_parts_4 rfl ?_
  refine r_getR (pc := 5) (r := 12) dX6_parts_5 fX6_26 rfl rfl ?_
  refine r_getI (pc := 8) (x := (nI ((Gs σ).length))) dX6_parts_8 fX6_134 rfl rfl (FO_n hF1.2) ?_
  refine rn_if_le (pc := 11) (tgt := 17) dX6_parts_11 (by decide) (by omega) (fun c11 => ?_) (fun c11 => ?_)
  · refine r_aload_n (pc := 17) dX6_parts_17 rfl ?_
    refine r_getR (pc := 18) (r := 18) dX6_parts_18 fX6_33 rfl rfl ?_
    refine r_aload_n (pc := 21) dX6_parts_21 rfl ?_
    refine r_getR (pc := 22) (r := 1) dX6_parts_22 fX6_12 rfl rfl ?_
    refine r_callV (pc := 25) (d' := 2) (k := 18) (As := [.ref 1]) (rest := []) dX6_parts_25 vX5_reachOut mX6_208 rfl rfl rfl (Nat.le_of_ble_eq_true rfl) (Nat.le_of_ble_eq_true rfl) ?_
    refine x_reach hX1 hO (fun μ2 hf2 hR => ?_)
    refine r_aload_n (pc := 28) dX6_parts_28 rfl ?_
    refine r_getR (pc := 29) (r := 18) dX6_parts_29 fX6_33 rfl rfl ?_
    refine r_callV (pc := 32) (d' := 1) (k := 18) (As := []) (rest := []) dX6_parts_32 vX5_countSets mX6_215 rfl rfl rfl (Nat.le_of_ble_eq_true rfl) (Nat.le_of_ble_eq_true rfl) ?_
    refine x_cs hO hR ?_
    refine r_ireturn (pc := 35) dX6_parts_35 rfl (Or.inl rfl) rfl ?_
    have hst : stG σ = false := decide_eq_false (by omega)
    have e9 : sp_parts σ = nI (ptn σ 8) := by simp [sp_parts, hst]
    rw [e9] at h
    exact h _ (XI_frU hf2 hF1.1) (hk1.tr hf2.keep)
  · refine r_bipush (pc := 14) (v := (-3)) dX6_parts_14 (by decide) ?_
    refine r_ireturn (pc := 16) dX6_parts_16 rfl (Or.inl rfl) rfl ?_
    have hst : stG σ = true := decide_eq_true (by omega)
    have e9 : sp_parts σ = -3 := by simp [sp_parts, hst]
    rw [e9] at h
    exact h _ hF1.1 hk1
