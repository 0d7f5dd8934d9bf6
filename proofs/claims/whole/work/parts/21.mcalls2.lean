/-! THE MODEL: cut, move, edge -/
theorem cu_lt {s : Nat → Nat} {n : Nat} : ∀ {x j : Nat}, cu s n x = some j → j < x
  | 0, j, h => by cases h
  | x + 1, j, h => by
    unfold cu at h
    cases e : cu s n x with
    | none =>
      rw [e] at h
      by_cases q : hits s x n = true
      · simp only [q, if_true] at h; cases h; omega
      · simp only [q] at h; cases h
    | some y =>
      rw [e] at h
      have := cu_lt e
      by_cases q : pc12 x < pc12 y ∧ hits s x n = true
      · simp only [q, and_self, if_true] at h; cases h; omega
      · simp only [q, if_false] at h; cases h; omega
theorem setG_at (g : Nat → Nat) (b v : Nat) : setG g b v b = v := if_pos rfl
theorem hits_s (s : Nat → Nat) (x n : Nat) : hits s x (n + 1) = (hits s x n && !decide (s n &&& x = 0)) := rfl

set_option maxRecDepth 20000 in
set_option maxHeartbeats 4000000 in
theorem m_cut_i {μ1 : Mem} {σ : Sg} {x : Nat} {o : Option Nat} {d0 : Bool} {Q : Option Value → Mem → Prop} (hO : Ok σ) (hG1 : GA μ1 σ (rnds σ)) (hx : x < 4096) (K : WP cX7_cut (RX7, 5, (some .int), 3, none) 81 [(0, .ref 40), (1, .int (oI o)), (2, .int (nI x)), (3, .int (b2i (d0 && hits (gB σ) x (Gs σ).length)))] [] μ1 Q) : ∀ (k : Nat) (n : Nat) (dd : Bool), n + k = (Gs σ).length → dd = (d0 && hits (gB σ) x n) → WP cX7_cut (RX7, 5, (some .int), 3, none) 44 [(0, .ref 40), (1, .int (oI o)), (2, .int (nI x)), (3, .int (b2i (dd))), (4, .int (nI n))] [] μ1 Q := by
  intro k
  induction k using Nat.strongRecOn with
  | _ k ih =>
    intro n dd hnk hd
    have hn := Ok_n hO
    have hGl := Gs_len hO
    have hand : ∀ i, gB σ i &&& x ≤ x := fun i => Nat.and_le_right
    refine r_iload (pc := 44) dX7_cut_44 rfl ?_
    refine r_aload_n (pc := 46) dX7_cut_46 rfl ?_
    refine r_getI (pc := 47) (x := (nI ((Gs σ).length))) dX7_cut_47 fX7_117 rfl rfl hG1.2.1 ?_
    refine rn_icmp_ge (pc := 50) (tgt := 81) dX7_cut_50 (by decide) (by omega) (by omega) (fun c50 => ?_) (fun c50 => ?_)
    · obtain rfl : n = (Gs σ).length := by omega
      have hfin : dd = (d0 && hits (gB σ) x (Gs σ).length) := hd
      rw [hfin]
      refine r_pick (ls' := [(0, .ref 40), (1, .int (oI o)), (2, .int (nI x)), (3, .int (b2i (d0 && hits (gB σ) x (Gs σ).length)))]) [0, 1, 2, 3] rfl ?_
      exact K
    · have hann := hand n
      refine r_iload_n (pc := 53) dX7_cut_53 rfl ?_
      refine rb_if_eq (pc := 54) (tgt := 81) dX7_cut_54 (by decide) (fun c54 => ?_) (fun c54 => ?_)
      · have hfin : dd = (d0 && hits (gB σ) x (Gs σ).length) := by
          rw [c54]; symm
          cases hd0 : d0
          · rfl
          · rw [hd0, c54] at hd
            have := hits_f (s := gB σ) (x := x) (k := n) hd.symm ((Gs σ).length - n)
            rw [show n + ((Gs σ).length - n) = (Gs σ).length by omega] at this
            rw [this]; rfl
        rw [hfin]
        refine r_pick (ls' := [(0, .ref 40), (1, .int (oI o)), (2, .int (nI x)), (3, .int (b2i (d0 && hits (gB σ) x (Gs σ).length)))]) [0, 1, 2, 3] rfl ?_
        exact K
      · refine r_aload_n (pc := 57) dX7_cut_57 rfl ?_
        refine r_getR (pc := 58) (r := 52) dX7_cut_58 fX7_43 rfl rfl ?_
        refine r_iload (pc := 61) dX7_cut_61 rfl ?_
        refine r_iald (pc := 63) (x := (nI (gB σ (n)))) dX7_cut_63 rfl rfl (by omega) (GA_i hG1 (by omega)).2.1 ?_
        have b1 := gi_b hO (i := n) (by omega)
        refine r_iload_n (pc := 64) dX7_cut_64 rfl ?_
        refine r_iand (pc := 65) dX7_cut_65 ?_
        refine r_eqi (nI_and _ _) ?_
        refine rn_if_eq (pc := 66) (tgt := 73) dX7_cut_66 (by decide) (by omega) (fun c66 => ?_) (fun c66 => ?_)
        · refine r_iconst (pc := 73) (v := (nI (0))) dX7_cut_73 (by decide) ?_
          refine r_istore_n (pc := 74) (ls' := [(0, .ref 40), (1, .int (oI o)), (2, .int (nI x)), (3, .int (nI 0)), (4, .int (nI n))]) dX7_cut_74 (Nat.le_of_ble_eq_true rfl) rfl ?_
          refine rn_iinc (pc := 75) (b := 1) (ls' := [(0, .ref 40), (1, .int (oI o)), (2, .int (nI x)), (3, .int (nI 0)), (4, .int (nI (n + 1)))]) dX7_cut_75 rfl (by decide) (Nat.le_of_ble_eq_true rfl) rfl ?_
          refine r_goto (pc := 78) (tgt := 44) dX7_cut_78 (by decide) ?_
          rw [show (nI (0)) = b2i (d0 && hits (gB σ) x (n + 1)) by rw [hits_s, ← Bool.and_assoc, ← hd, c54, Bool.true_and]; exact (b2i_f (by simp [c66])).symm]
          exact ih (k - 1) (by omega) (n + 1) _ (by omega) rfl
        · refine r_iconst (pc := 69) (v := (nI (1))) dX7_cut_69 (by decide) ?_
          refine r_goto (pc := 70) (tgt := 74) dX7_cut_70 (by decide) ?_
          refine r_istore_n (pc := 74) (ls' := [(0, .ref 40), (1, .int (oI o)), (2, .int (nI x)), (3, .int (nI 1)), (4, .int (nI n))]) dX7_cut_74 (Nat.le_of_ble_eq_true rfl) rfl ?_
          refine rn_iinc (pc := 75) (b := 1) (ls' := [(0, .ref 40), (1, .int (oI o)), (2, .int (nI x)), (3, .int (nI 1)), (4, .int (nI (n + 1)))]) dX7_cut_75 rfl (by decide) (Nat.le_of_ble_eq_true rfl) rfl ?_
          refine r_goto (pc := 78) (tgt := 44) dX7_cut_78 (by decide) ?_
          rw [show (nI (1)) = b2i (d0 && hits (gB σ) x (n + 1)) by rw [hits_s, ← Bool.and_assoc, ← hd, c54, Bool.true_and]; exact (b2i_t (by simp [c66])).symm]
          exact ih (k - 1) (by omega) (n + 1) _ (by omega) rfl

set_option maxRecDepth 20000 in
set_option maxHeartbeats 4000000 in
theorem m_cut_l {μ1 : Mem} {σ : Sg} {Q : Option Value → Mem → Prop} (hO : Ok σ) (hM1 : Ms μ1 σ) (hG1 : GA μ1 σ (rnds σ)) (h : Q (some (.int (sp_cut σ))) μ1) : ∀ (k : Nat) (x : Nat) (o : Option Nat), x + k = 2 ^ σ 0 0 → cu (gB σ) (Gs σ).length x = o → WP cX7_cut (RX7, 5, (some .int), 3, none) 10 [(0, .ref 40), (1, .int (oI o)), (2, .int (nI x))] [] μ1 Q := by
  intro k
  induction k using Nat.strongRecOn with
  | _ k ih =>
    intro x o hxk ho
    have hn := Ok_n hO
    have hGl := Gs_len hO
    have hp : 2 ^ σ 0 0 ≤ 2 ^ 12 := Nat.pow_le_pow_right (by decide) (by omega)
    have hpc : ∀ y, pc12 y ≤ 12 := fun y => cnt_le _ 12
    have hpx := hpc x
    have hpj : ∀ j, pc12 j < 2 ^ 31 := fun j => Nat.lt_of_le_of_lt (hpc j) (by decide)
    refine r_iload_n (pc := 10) dX7_cut_10 rfl ?_
    refine r_iconst (pc := 11) (v := (nI (1))) dX7_cut_11 (by decide) ?_
    refine r_aload_n (pc := 12) dX7_cut_12 rfl ?_
    refine r_getI (pc := 13) (x := (nI (σ 0 0))) dX7_cut_13 fX7_81 rfl rfl (Ms_n (μ := μ1) hM1) ?_
    refine r_ishl (pc := 16) dX7_cut_16 ?_
    refine r_eqi (shl1 (by omega)) ?_
    refine rn_icmp_ge (pc := 17) (tgt := 97) dX7_cut_17 (by decide) (by omega) (by omega) (fun c17 => ?_) (fun c17 => ?_)
    · obtain rfl : x = 2 ^ σ 0 0 := by omega
      refine r_iload_n (pc := 97) dX7_cut_97 rfl ?_
      refine r_ireturn (pc := 98) dX7_cut_98 rfl (Or.inl rfl) rfl ?_
      rw [sp_cut, ho] at h
      exact h
    · refine r_iload_n (pc := 20) dX7_cut_20 rfl ?_
      refine r_if_lt (pc := 21) (tgt := 35) dX7_cut_21 (by decide) (fun c21 => ?_) (fun c21 => ?_)
      · obtain rfl : o = none := oI_none (fun j hj => by have := cu_lt (ho.trans hj); omega) c21
        refine r_iconst (pc := 35) (v := (nI (1))) dX7_cut_35 (by decide) ?_
        refine r_goto (pc := 36) (tgt := 40) dX7_cut_36 (by decide) ?_
        refine r_istore_n (pc := 40) (ls' := [(0, .ref 40), (1, .int (oI none)), (2, .int (nI x)), (3, .int (nI 1))]) dX7_cut_40 (Nat.le_of_ble_eq_true rfl) rfl ?_
        refine r_iconst (pc := 41) (v := (nI (0))) dX7_cut_41 (by decide) ?_
        refine r_istore (pc := 42) (ls' := [(0, .ref 40), (1, .int (oI none)), (2, .int (nI x)), (3, .int (nI 1)), (4, .int (nI 0))]) dX7_cut_42 (Nat.le_of_ble_eq_true rfl) rfl ?_
        refine m_cut_i (o := none) (d0 := true) hO hG1 (by omega) ?_ (Gs σ).length 0 true (by omega) (by simp [hits])
        refine r_iload_n (pc := 81) dX7_cut_81 rfl ?_
        refine rb_if_eq (pc := 82) (tgt := 89) dX7_cut_82 (by decide) (fun c82 => ?_) (fun c82 => ?_)
        · refine r_iload_n (pc := 89) dX7_cut_89 rfl ?_
          refine r_istore_n (pc := 90) (ls' := [(0, .ref 40), (1, .int (oI none)), (2, .int (nI x)), (3, .int (b2i (true && hits (gB σ) x (Gs σ).length)))]) dX7_cut_90 (Nat.le_of_ble_eq_true rfl) rfl ?_
          refine rn_iinc (pc := 91) (b := 1) (ls' := [(0, .ref 40), (1, .int (oI none)), (2, .int (nI (x + 1))), (3, .int (b2i (true && hits (gB σ) x (Gs σ).length)))]) dX7_cut_91 rfl (by decide) (Nat.le_of_ble_eq_true rfl) rfl ?_
          refine r_goto (pc := 94) (tgt := 10) dX7_cut_94 (by decide) ?_
          refine r_pick (ls' := [(0, .ref 40), (1, .int (oI none)), (2, .int (nI (x + 1)))]) [0, 1, 2] rfl ?_
          exact ih (k - 1) (by omega) (x + 1) none (by omega) (by rw [cu, ho]; exact if_neg (by simpa using c82))
        · refine r_iload_n (pc := 85) dX7_cut_85 rfl ?_
          refine r_goto (pc := 86) (tgt := 90) dX7_cut_86 (by decide) ?_
          refine r_istore_n (pc := 90) (ls' := [(0, .ref 40), (1, .int (nI x)), (2, .int (nI x)), (3, .int (b2i (true && hits (gB σ) x (Gs σ).length)))]) dX7_cut_90 (Nat.le_of_ble_eq_true rfl) rfl ?_
          refine rn_iinc (pc := 91) (b := 1) (ls' := [(0, .ref 40), (1, .int (nI x)), (2, .int (nI (x + 1))), (3, .int (b2i (true && hits (gB σ) x (Gs σ).length)))]) dX7_cut_91 rfl (by decide) (Nat.le_of_ble_eq_true rfl) rfl ?_
          refine r_goto (pc := 94) (tgt := 10) dX7_cut_94 (by decide) ?_
          refine r_pick (ls' := [(0, .ref 40), (1, .int (nI x)), (2, .int (nI (x + 1)))]) [0, 1, 2] rfl ?_
          exact ih (k - 1) (by omega) (x + 1) (some x) (by omega) (by rw [cu, ho]; exact if_pos (by simpa using c82))
      · obtain ⟨j, rfl⟩ := oI_some c21
        have hj := cu_lt ho
        refine r_iload_n (pc := 24) dX7_cut_24 rfl ?_
        refine r_callS (pc := 25) (d' := 0) (As := [.int (nI x)]) (rest := []) dX7_cut_25 sX7_bits mX7_142 rfl rfl (Nat.le_of_ble_eq_true rfl) (Nat.le_of_ble_eq_true rfl) ?_
        refine c_bits (by omega) ?_
        refine r_iload_n (pc := 28) dX7_cut_28 rfl ?_
        refine r_callS (pc := 29) (d' := 0) (As := [.int (nI j)]) (rest := [.int (nI (pc12 (x)))]) dX7_cut_29 sX7_bits mX7_142 rfl rfl (Nat.le_of_ble_eq_true rfl) (Nat.le_of_ble_eq_true rfl) ?_
        refine c_bits (by omega) ?_
        refine rn_icmp_ge (pc := 32) (tgt := 39) dX7_cut_32 (by decide) (hpj _) (hpj _) (fun c32 => ?_) (fun c32 => ?_)
        · refine r_iconst (pc := 39) (v := (nI (0))) dX7_cut_39 (by decide) ?_
          refine r_istore_n (pc := 40) (ls' := [(0, .ref 40), (1, .int (nI j)), (2, .int (nI x)), (3, .int (nI 0))]) dX7_cut_40 (Nat.le_of_ble_eq_true rfl) rfl ?_
          refine r_iconst (pc := 41) (v := (nI (0))) dX7_cut_41 (by decide) ?_
          refine r_istore (pc := 42) (ls' := [(0, .ref 40), (1, .int (nI j)), (2, .int (nI x)), (3, .int (nI 0)), (4, .int (nI 0))]) dX7_cut_42 (Nat.le_of_ble_eq_true rfl) rfl ?_
          refine m_cut_i (o := (some j)) (d0 := false) hO hG1 (by omega) ?_ (Gs σ).length 0 false (by omega) (by simp [hits])
          refine r_iload_n (pc := 81) dX7_cut_81 rfl ?_
          refine rb_if_eq (pc := 82) (tgt := 89) dX7_cut_82 (by decide) (fun c82 => ?_) (fun c82 => ?_)
          · refine r_iload_n (pc := 89) dX7_cut_89 rfl ?_
            refine r_istore_n (pc := 90) (ls' := [(0, .ref 40), (1, .int (oI (some j))), (2, .int (nI x)), (3, .int (b2i (false && hits (gB σ) x (Gs σ).length)))]) dX7_cut_90 (Nat.le_of_ble_eq_true rfl) rfl ?_
            refine rn_iinc (pc := 91) (b := 1) (ls' := [(0, .ref 40), (1, .int (oI (some j))), (2, .int (nI (x + 1))), (3, .int (b2i (false && hits (gB σ) x (Gs σ).length)))]) dX7_cut_91 rfl (by decide) (Nat.le_of_ble_eq_true rfl) rfl ?_
            refine r_goto (pc := 94) (tgt := 10) dX7_cut_94 (by decide) ?_
            refine r_pick (ls' := [(0, .ref 40), (1, .int (oI (some j))), (2, .int (nI (x + 1)))]) [0, 1, 2] rfl ?_
            exact ih (k - 1) (by omega) (x + 1) (some j) (by omega) (by rw [cu, ho]; exact if_neg (fun q => absurd q.1 (by omega)))
          · refine r_iload_n (pc := 85) dX7_cut_85 rfl ?_
            refine r_goto (pc := 86) (tgt := 90) dX7_cut_86 (by decide) ?_
            refine r_istore_n (pc := 90) (ls' := [(0, .ref 40), (1, .int (nI x)), (2, .int (nI x)), (3, .int (b2i (false && hits (gB σ) x (Gs σ).length)))]) dX7_cut_90 (Nat.le_of_ble_eq_true rfl) rfl ?_
            refine rn_iinc (pc := 91) (b := 1) (ls' := [(0, .ref 40), (1, .int (nI x)), (2, .int (nI (x + 1))), (3, .int (b2i (false && hits (gB σ) x (Gs σ).length)))]) dX7_cut_91 rfl (by decide) (Nat.le_of_ble_eq_true rfl) rfl ?_
            refine r_goto (pc := 94) (tgt := 10) dX7_cut_94 (by decide) ?_
            exact absurd c82 (by simp)
        · refine r_iconst (pc := 35) (v := (nI (1))) dX7_cut_35 (by decide) ?_
          refine r_goto (pc := 36) (tgt := 40) dX7_cut_36 (by decide) ?_
          refine r_istore_n (pc := 40) (ls' := [(0, .ref 40), (1, .int (nI j)), (2, .int (nI x)), (3, .int (nI 1))]) dX7_cut_40 (Nat.le_of_ble_eq_true rfl) rfl ?_
          refine r_iconst (pc := 41) (v := (nI (0))) dX7_cut_41 (by decide) ?_
          refine r_istore (pc := 42) (ls' := [(0, .ref 40), (1, .int (nI j)), (2, .int (nI x)), (3, .int (nI 1)), (4, .int (nI 0))]) dX7_cut_42 (Nat.le_of_ble_eq_true rfl) rfl ?_
          refine m_cut_i (o := (some j)) (d0 := true) hO hG1 (by omega) ?_ (Gs σ).length 0 true (by omega) (by simp [hits])
          refine r_iload_n (pc := 81) dX7_cut_81 rfl ?_
          refine rb_if_eq (pc := 82) (tgt := 89) dX7_cut_82 (by decide) (fun c82 => ?_) (fun c82 => ?_)
          · refine r_iload_n (pc := 89) dX7_cut_89 rfl ?_
            refine r_istore_n (pc := 90) (ls' := [(0, .ref 40), (1, .int (oI (some j))), (2, .int (nI x)), (3, .int (b2i (true && hits (gB σ) x (Gs σ).length)))]) dX7_cut_90 (Nat.le_of_ble_eq_true rfl) rfl ?_
            refine rn_iinc (pc := 91) (b := 1) (ls' := [(0, .ref 40), (1, .int (oI (some j))), (2, .int (nI (x + 1))), (3, .int (b2i (true && hits (gB σ) x (Gs σ).length)))]) dX7_cut_91 rfl (by decide) (Nat.le_of_ble_eq_true rfl) rfl ?_
            refine r_goto (pc := 94) (tgt := 10) dX7_cut_94 (by decide) ?_
            refine r_pick (ls' := [(0, .ref 40), (1, .int (oI (some j))), (2, .int (nI (x + 1)))]) [0, 1, 2] rfl ?_
            exact ih (k - 1) (by omega) (x + 1) (some j) (by omega) (by rw [cu, ho]; exact if_neg (fun q => by simp [q.2] at c82))
          · refine r_iload_n (pc := 85) dX7_cut_85 rfl ?_
            refine r_goto (pc := 86) (tgt := 90) dX7_cut_86 (by decide) ?_
            refine r_istore_n (pc := 90) (ls' := [(0, .ref 40), (1, .int (nI x)), (2, .int (nI x)), (3, .int (b2i (true && hits (gB σ) x (Gs σ).length)))]) dX7_cut_90 (Nat.le_of_ble_eq_true rfl) rfl ?_
            refine rn_iinc (pc := 91) (b := 1) (ls' := [(0, .ref 40), (1, .int (nI x)), (2, .int (nI (x + 1))), (3, .int (b2i (true && hits (gB σ) x (Gs σ).length)))]) dX7_cut_91 rfl (by decide) (Nat.le_of_ble_eq_true rfl) rfl ?_
            refine r_goto (pc := 94) (tgt := 10) dX7_cut_94 (by decide) ?_
            refine r_pick (ls' := [(0, .ref 40), (1, .int (nI x)), (2, .int (nI (x + 1)))]) [0, 1, 2] rfl ?_
            exact ih (k - 1) (by omega) (x + 1) (some x) (by omega) (by rw [cu, ho]; exact if_pos ⟨by omega, by simpa using c82⟩)

set_option maxRecDepth 20000 in
set_option maxHeartbeats 4000000 in
theorem m_cut {μ : Mem} {σ : Sg} {Q : Option Value → Mem → Prop} (hM : Ms μ σ) (hO : Ok σ) (h : ∀ μ', Ms μ' σ → keepX μ μ' → Q (some (.int (sp_cut σ))) μ') : Sp iX7_cut 3 [.ref 40] μ Q := by
  refine Sp.of vX7_cut.1 (Nat.le_of_ble_eq_true rfl) ?_
  show WP cX7_cut (RX7, 5, (some .int), 3, none) 0 [(0, .ref 40)] [] μ Q
  have hn := Ok_n hO
  refine r_aload_n (pc := 0) dX7_cut_0 rfl ?_
  refine r_iconst (pc := 1) (v := (nI (0))) dX7_cut_1 (by decide) ?_
  refine r_callV (pc := 2) (d' := 2) (k := 40) (As := [.int (nI 0)]) (rest := []) dX7_cut_2 vX7_layRounds mX7_124 rfl rfl rfl (Nat.le_of_ble_eq_true rfl) (Nat.le_of_ble_eq_true rfl) ?_
  refine m_lay (μ := μ) hM hO (fun μ1 hG1 hf1 => ?_)
  have hM1 := hf1.Ms hM
  have hk1 := hf1.keep
  have hGl := Gs_len hO
  have hRl := rnds_le hO
  refine r_bipush (pc := 5) (v := (-6)) dX7_cut_5 (by decide) ?_
  refine r_istore_n (pc := 7) (ls' := [(0, .ref 40), (1, .int ((-6)))]) dX7_cut_7 (Nat.le_of_ble_eq_true rfl) rfl ?_
  refine r_iconst (pc := 8) (v := (nI (0))) dX7_cut_8 (by decide) ?_
  refine r_istore_n (pc := 9) (ls' := [(0, .ref 40), (1, .int ((-6))), (2, .int (nI 0))]) dX7_cut_9 (Nat.le_of_ble_eq_true rfl) rfl ?_
  exact m_cut_l hO hM1 hG1 (h _ hM1 hk1) (2 ^ σ 0 0) 0 none (by omega) rfl

set_option maxRecDepth 20000 in
set_option maxHeartbeats 4000000 in
theorem m_move_l {μ : Mem} {σ : Sg} {bj : Nat} {Q : Option Value → Mem → Prop} (hO : Ok σ) (hb : bj < σ 0 0) : ∀ (k : Nat) (y : Nat) (μ1 : Mem) (w : Nat), y + k + 1 = σ 4 bj → Ms μ1 (su σ 4 bj w) → keepX μ μ1 → (∀ μ', Ms μ' σ → keepX μ μ' → Q (some (.int (mvR σ bj k y))) μ') → WP cX7_move (RX7, 5, (some .int), 3, none) 33 [(0, .ref 40), (1, .int (nI bj)), (2, .int (nI (σ 4 bj))), (3, .int (nI y)), (4, .int (nI 1))] [] μ1 Q := by
  intro k
  induction k using Nat.strongRecOn with
  | _ k ih =>
    intro y μ1 w hy hM1 hk1 h
    have hn := Ok_n hO
    have hbb := Ok_b hO (j := bj) (by omega)
    refine r_iload (pc := 33) dX7_move_33 rfl ?_
    refine rn_if_eq (pc := 35) (tgt := 89) dX7_move_35 (by decide) (by decide) (fun q => absurd q (by decide)) (fun _ => ?_)
    refine r_aload_n (pc := 38) dX7_move_38 rfl ?_
    refine r_getR (pc := 39) (r := 44) dX7_move_39 fX7_19 rfl rfl ?_
    refine r_iload_n (pc := 42) dX7_move_42 rfl ?_
    refine r_iload_n (pc := 43) dX7_move_43 rfl ?_
    refine r_iload_n (pc := 44) dX7_move_44 rfl ?_
    refine rn_isub (pc := 45) dX7_move_45 (by omega) ?_
    refine r_iast (pc := 46) dX7_move_46 rfl rfl (by omega) ?_
    refine r_aload_n (pc := 47) dX7_move_47 rfl ?_
    refine r_iconst (pc := 48) (v := (nI (0))) dX7_move_48 (by decide) ?_
    refine r_callV (pc := 49) (d' := 2) (k := 40) (As := [.int (nI 0)]) (rest := []) dX7_move_49 vX7_layRounds mX7_124 rfl rfl rfl (Nat.le_of_ble_eq_true rfl) (Nat.le_of_ble_eq_true rfl) ?_
    have hO2 := Ok_g (b := bj) (v := σ 4 bj - y) hO (by omega) (by omega)
    have hM2 : Ms (setI μ1 44 (bj) (nI (σ 4 bj - (y)))) (su σ 4 bj (σ 4 bj - y)) := by
      have := Ms_s4 (j := bj) (v := σ 4 bj - y) hM1
      rwa [su_su] at this
    refine m_lay (μ := (setI μ1 44 (bj) (nI (σ 4 bj - (y))))) hM2 hO2 (fun μ3 hG3 hf3 => ?_)
    have hM3 := hf3.Ms hM2
    have hk3 := keepX.tr hk1 (keepX.tr (keepX.I keepX.rf (by decide)) hf3.keep)
    have hG3l := Gs_len hO2
    have hany := any_mv σ bj (σ 4 bj - y)
    refine r_aload_n (pc := 52) dX7_move_52 rfl ?_
    refine r_getI (pc := 53) (x := (nI ((Gs (su σ 4 bj (σ 4 bj - y))).length))) dX7_move_53 fX7_117 rfl rfl hG3.2.1 ?_
    refine rn_if_le (pc := 56) (tgt := 70) dX7_move_56 (by decide) (by omega) (fun c56 => ?_) (fun c56 => ?_)
    · refine r_iconst (pc := 70) (v := (nI (0))) dX7_move_70 (by decide) ?_
      refine r_istore (pc := 71) (ls' := [(0, .ref 40), (1, .int (nI bj)), (2, .int (nI (σ 4 bj))), (3, .int (nI y)), (4, .int (nI 0))]) dX7_move_71 (Nat.le_of_ble_eq_true rfl) rfl ?_
      refine r_iload_n (pc := 73) dX7_move_73 rfl ?_
      refine r_iload (pc := 74) dX7_move_74 rfl ?_
      refine rn_if_eq (pc := 76) (tgt := 83) dX7_move_76 (by decide) (by decide) (fun _ => ?_) (fun q => absurd q (by decide))
      refine r_iconst (pc := 83) (v := (nI (0))) dX7_move_83 (by decide) ?_
      refine rn_iadd (pc := 84) dX7_move_84 ?_
      refine r_istore_n (pc := 85) (ls' := [(0, .ref 40), (1, .int (nI bj)), (2, .int (nI (σ 4 bj))), (3, .int (nI y)), (4, .int (nI 0))]) dX7_move_85 (Nat.le_of_ble_eq_true rfl) rfl ?_
      refine r_goto (pc := 86) (tgt := 33) dX7_move_86 (by decide) ?_
      refine r_iload (pc := 33) dX7_move_33 rfl ?_
      refine rn_if_eq (pc := 35) (tgt := 89) dX7_move_35 (by decide) (by decide) (fun _ => ?_) (fun q => absurd q (by decide))
      refine r_aload_n (pc := 89) dX7_move_89 rfl ?_
      refine r_getR (pc := 90) (r := 44) dX7_move_90 fX7_19 rfl rfl ?_
      refine r_iload_n (pc := 93) dX7_move_93 rfl ?_
      refine r_iload_n (pc := 94) dX7_move_94 rfl ?_
      refine r_iast (pc := 95) dX7_move_95 rfl rfl (by omega) ?_
      refine r_aload_n (pc := 96) dX7_move_96 rfl ?_
      refine r_getI (pc := 97) (x := (nI ((Gs (su σ 4 bj (σ 4 bj - y))).length))) dX7_move_97 fX7_117 rfl rfl hG3.2.1 ?_
      refine rn_if_le (pc := 100) (tgt := 108) dX7_move_100 (by decide) (by omega) (fun c100 => ?_) (fun c100 => ?_)
      · refine r_iload_n (pc := 108) dX7_move_108 rfl ?_
        refine r_ireturn (pc := 109) dX7_move_109 rfl (Or.inl rfl) rfl ?_
        have hM4 : Ms (setI μ3 44 bj (nI (σ 4 bj))) σ := by
          have := Ms_s4 (j := bj) (v := σ 4 bj) hM3
          rwa [su_su, su_id] at this
        have hno : ¬ anyG σ (setG (σ 4) bj (σ 4 bj - y)) (σ 0 1) = true := fun q => absurd (hany.mpr q) (by omega)
        have e9 : mvR σ bj k y = nI y := by cases k <;> exact if_neg hno
        rw [e9] at h
        exact h _ hM4 (keepX.I hk3 (by decide))
      · refine r_bipush (pc := 103) (v := (-6)) dX7_move_103 (by decide) ?_
        refine r_goto (pc := 105) (tgt := 109) dX7_move_105 (by decide) ?_
        refine r_ireturn (pc := 109) dX7_move_109 rfl (Or.inl rfl) rfl ?_
        exact absurd c56 (by omega)
    · refine r_iload_n (pc := 59) dX7_move_59 rfl ?_
      refine r_iload_n (pc := 60) dX7_move_60 rfl ?_
      refine r_iconst (pc := 61) (v := (nI (1))) dX7_move_61 (by decide) ?_
      refine rn_isub (pc := 62) dX7_move_62 (by omega) ?_
      refine rn_icmp_ge (pc := 63) (tgt := 70) dX7_move_63 (by decide) (by omega) (by omega) (fun c63 => ?_) (fun c63 => ?_)
      · refine r_iconst (pc := 70) (v := (nI (0))) dX7_move_70 (by decide) ?_
        refine r_istore (pc := 71) (ls' := [(0, .ref 40), (1, .int (nI bj)), (2, .int (nI (σ 4 bj))), (3, .int (nI y)), (4, .int (nI 0))]) dX7_move_71 (Nat.le_of_ble_eq_true rfl) rfl ?_
        refine r_iload_n (pc := 73) dX7_move_73 rfl ?_
        refine r_iload (pc := 74) dX7_move_74 rfl ?_
        refine rn_if_eq (pc := 76) (tgt := 83) dX7_move_76 (by decide) (by decide) (fun _ => ?_) (fun q => absurd q (by decide))
        refine r_iconst (pc := 83) (v := (nI (0))) dX7_move_83 (by decide) ?_
        refine rn_iadd (pc := 84) dX7_move_84 ?_
        refine r_istore_n (pc := 85) (ls' := [(0, .ref 40), (1, .int (nI bj)), (2, .int (nI (σ 4 bj))), (3, .int (nI y)), (4, .int (nI 0))]) dX7_move_85 (Nat.le_of_ble_eq_true rfl) rfl ?_
        refine r_goto (pc := 86) (tgt := 33) dX7_move_86 (by decide) ?_
        refine r_iload (pc := 33) dX7_move_33 rfl ?_
        refine rn_if_eq (pc := 35) (tgt := 89) dX7_move_35 (by decide) (by decide) (fun _ => ?_) (fun q => absurd q (by decide))
        refine r_aload_n (pc := 89) dX7_move_89 rfl ?_
        refine r_getR (pc := 90) (r := 44) dX7_move_90 fX7_19 rfl rfl ?_
        refine r_iload_n (pc := 93) dX7_move_93 rfl ?_
        refine r_iload_n (pc := 94) dX7_move_94 rfl ?_
        refine r_iast (pc := 95) dX7_move_95 rfl rfl (by omega) ?_
        refine r_aload_n (pc := 96) dX7_move_96 rfl ?_
        refine r_getI (pc := 97) (x := (nI ((Gs (su σ 4 bj (σ 4 bj - y))).length))) dX7_move_97 fX7_117 rfl rfl hG3.2.1 ?_
        refine rn_if_le (pc := 100) (tgt := 108) dX7_move_100 (by decide) (by omega) (fun c100 => ?_) (fun c100 => ?_)
        · refine r_iload_n (pc := 108) dX7_move_108 rfl ?_
          refine r_ireturn (pc := 109) dX7_move_109 rfl (Or.inl rfl) rfl ?_
          exact absurd c100 (by omega)
        · refine r_bipush (pc := 103) (v := (-6)) dX7_move_103 (by decide) ?_
          refine r_goto (pc := 105) (tgt := 109) dX7_move_105 (by decide) ?_
          refine r_ireturn (pc := 109) dX7_move_109 rfl (Or.inl rfl) rfl ?_
          have hM4 : Ms (setI μ3 44 bj (nI (σ 4 bj))) σ := by
            have := Ms_s4 (j := bj) (v := σ 4 bj) hM3
            rwa [su_su, su_id] at this
          obtain rfl : k = 0 := by omega
          rw [mvR, if_pos (hany.mp (by omega))] at h
          exact h _ hM4 (keepX.I hk3 (by decide))
      · refine r_iconst (pc := 66) (v := (nI (1))) dX7_move_66 (by decide) ?_
        refine r_goto (pc := 67) (tgt := 71) dX7_move_67 (by decide) ?_
        refine r_istore (pc := 71) (ls' := [(0, .ref 40), (1, .int (nI bj)), (2, .int (nI (σ 4 bj))), (3, .int (nI y)), (4, .int (nI 1))]) dX7_move_71 (Nat.le_of_ble_eq_true rfl) rfl ?_
        refine r_iload_n (pc := 73) dX7_move_73 rfl ?_
        refine r_iload (pc := 74) dX7_move_74 rfl ?_
        refine rn_if_eq (pc := 76) (tgt := 83) dX7_move_76 (by decide) (by decide) (fun q => absurd q (by decide)) (fun _ => ?_)
        refine r_iconst (pc := 79) (v := (nI (1))) dX7_move_79 (by decide) ?_
        refine r_goto (pc := 80) (tgt := 84) dX7_move_80 (by decide) ?_
        refine rn_iadd (pc := 84) dX7_move_84 ?_
        refine r_istore_n (pc := 85) (ls' := [(0, .ref 40), (1, .int (nI bj)), (2, .int (nI (σ 4 bj))), (3, .int (nI (y + 1))), (4, .int (nI 1))]) dX7_move_85 (Nat.le_of_ble_eq_true rfl) rfl ?_
        refine r_goto (pc := 86) (tgt := 33) dX7_move_86 (by decide) ?_
        obtain ⟨k1, rfl⟩ : ∃ k1, k = k1 + 1 := ⟨k - 1, by omega⟩
        rw [mvR, if_pos (hany.mp (by omega))] at h
        exact ih k1 (by omega) (y + 1) μ3 (σ 4 bj - y) (by omega) hM3 hk3 h

set_option maxRecDepth 20000 in
set_option maxHeartbeats 4000000 in
theorem m_move {μ : Mem} {σ : Sg} {b : Int32} {Q : Option Value → Mem → Prop} (hM : Ms μ σ) (hO : Ok σ) (h : ∀ μ', Ms μ' σ → keepX μ μ' → Q (some (.int (sp_move σ b))) μ') : Sp iX7_move 3 [.ref 40, .int (b)] μ Q := by
  refine Sp.of vX7_move.1 (Nat.le_of_ble_eq_true rfl) ?_
  show WP cX7_move (RX7, 5, (some .int), 3, none) 0 [(0, .ref 40), (1, .int (b))] [] μ Q
  have hn := Ok_n hO
  refine r_aload_n (pc := 0) dX7_move_0 rfl ?_
  refine r_iload_n (pc := 1) dX7_move_1 rfl ?_
  refine r_callV (pc := 2) (d' := 1) (k := 40) (As := [.int (b)]) (rest := []) dX7_move_2 vX7_isBoard mX7_94 rfl rfl rfl (Nat.le_of_ble_eq_true rfl) (Nat.le_of_ble_eq_true rfl) ?_
  refine c_mboard hM hO ?_
  refine rb_if_ne (pc := 5) (tgt := 10) dX7_move_5 (by decide) (fun c5 => ?_) (fun c5 => ?_)
  · obtain ⟨bj, hbj, rfl, -⟩ := isB_t c5
    refine r_aload_n (pc := 10) dX7_move_10 rfl ?_
    refine r_iload_n (pc := 11) dX7_move_11 rfl ?_
    refine r_callV (pc := 12) (d' := 1) (k := 40) (As := [.int (nI bj)]) (rest := []) dX7_move_12 vX7_isOpen mX7_97 rfl rfl rfl (Nat.le_of_ble_eq_true rfl) (Nat.le_of_ble_eq_true rfl) ?_
    refine c_mopen (μ := μ) hM hO (by omega) ?_
    refine rb_if_ne (pc := 15) (tgt := 21) dX7_move_15 (by decide) (fun c15 => ?_) (fun c15 => ?_)
    · refine r_aload_n (pc := 21) dX7_move_21 rfl ?_
      refine r_getR (pc := 22) (r := 44) dX7_move_22 fX7_19 rfl rfl ?_
      refine r_iload_n (pc := 25) dX7_move_25 rfl ?_
      refine r_iald (pc := 26) (x := (nI (σ 4 (bj)))) dX7_move_26 rfl rfl (by omega) (Ms_4 (μ := μ) hM (by omega)) ?_
      have b1 := Ok_b hO (j := bj) (by omega)
      refine r_istore_n (pc := 27) (ls' := [(0, .ref 40), (1, .int (nI bj)), (2, .int (nI (σ 4 (bj))))]) dX7_move_27 (Nat.le_of_ble_eq_true rfl) rfl ?_
      refine r_iconst (pc := 28) (v := (nI (0))) dX7_move_28 (by decide) ?_
      refine r_istore_n (pc := 29) (ls' := [(0, .ref 40), (1, .int (nI bj)), (2, .int (nI (σ 4 (bj)))), (3, .int (nI 0))]) dX7_move_29 (Nat.le_of_ble_eq_true rfl) rfl ?_
      refine r_iconst (pc := 30) (v := (nI (1))) dX7_move_30 (by decide) ?_
      refine r_istore (pc := 31) (ls' := [(0, .ref 40), (1, .int (nI bj)), (2, .int (nI (σ 4 (bj)))), (3, .int (nI 0)), (4, .int (nI 1))]) dX7_move_31 (Nat.le_of_ble_eq_true rfl) rfl ?_
      have e9 : sp_move σ (nI bj) = mvR σ bj (σ 4 bj - 1) 0 := by simp [sp_move, c5, bN_nI (show bj < 2 ^ 31 by omega), c15]
      rw [e9] at h
      have hp := Ok_p hO hbj
      refine m_move_l hO hbj (σ 4 bj - 1) 0 μ (σ 4 bj) (by omega) (by rw [su_id]; exact hM) keepX.rf h
    · refine r_bipush (pc := 18) (v := (-3)) dX7_move_18 (by decide) ?_
      refine r_ireturn (pc := 20) dX7_move_20 rfl (Or.inl rfl) rfl ?_
      have e9 : sp_move σ (nI bj) = -3 := by simp [sp_move, c5, bN_nI (show bj < 2 ^ 31 by omega), c15]
      rw [e9] at h
      exact h _ hM keepX.rf
  · refine r_iconst (pc := 8) (v := (-1)) dX7_move_8 (by decide) ?_
    refine r_ireturn (pc := 9) dX7_move_9 rfl (Or.inl rfl) rfl ?_
    have e9 : sp_move σ b = -1 := by simp [sp_move, c5]
    rw [e9] at h
    exact h _ hM keepX.rf

set_option maxRecDepth 20000 in
set_option maxHeartbeats 4000000 in
theorem m_edge_l {μ : Mem} {σ : Sg} {Q : Option Value → Mem → Prop} (hO : Ok σ) : ∀ (k : Nat) (y : Nat) (μ1 : Mem) (w : Nat), y + k = 98 → Ms μ1 (su σ 0 1 w) → keepX μ μ1 → (∀ μ', Ms μ' σ → keepX μ μ' → Q (some (.int (egR σ k y))) μ') → WP cX7_edge (RX7, 4, (some .int), 3, none) 11 [(0, .ref 40), (1, .int (nI (σ 0 1))), (2, .int (nI y)), (3, .int (nI 1))] [] μ1 Q := by
  intro k
  induction k using Nat.strongRecOn with
  | _ k ih =>
    intro y μ1 w hy hM1 hk1 h
    have hn := Ok_n hO
    refine r_iload_n (pc := 11) dX7_edge_11 rfl ?_
    refine rn_if_eq (pc := 12) (tgt := 61) dX7_edge_12 (by decide) (by decide) (fun q => absurd q (by decide)) (fun _ => ?_)
    refine r_aload_n (pc := 15) dX7_edge_15 rfl ?_
    refine r_getR (pc := 16) (r := 48) dX7_edge_16 fX7_31 rfl rfl ?_
    refine r_iconst (pc := 19) (v := (nI (0))) dX7_edge_19 (by decide) ?_
    refine r_iload_n (pc := 20) dX7_edge_20 rfl ?_
    refine r_iast (pc := 21) dX7_edge_21 rfl rfl (by omega) ?_
    refine r_aload_n (pc := 22) dX7_edge_22 rfl ?_
    refine r_iconst (pc := 23) (v := (nI (0))) dX7_edge_23 (by decide) ?_
    refine r_callV (pc := 24) (d' := 2) (k := 40) (As := [.int (nI 0)]) (rest := []) dX7_edge_24 vX7_layRounds mX7_124 rfl rfl rfl (Nat.le_of_ble_eq_true rfl) (Nat.le_of_ble_eq_true rfl) ?_
    have hO2 := Ok_f (v := y) hO (by omega)
    have hM2 : Ms (setI μ1 48 (0) (nI (y))) (su σ 0 1 y) := by
      have := Ms_t0 (v := y) hM1
      rwa [su_su] at this
    refine m_lay (μ := (setI μ1 48 (0) (nI (y)))) hM2 hO2 (fun μ3 hG3 hf3 => ?_)
    have hM3 := hf3.Ms hM2
    have hk3 := keepX.tr hk1 (keepX.tr (keepX.I keepX.rf (by decide)) hf3.keep)
    have hG3l := Gs_len hO2
    have hany := any_fee σ y
    refine r_aload_n (pc := 27) dX7_edge_27 rfl ?_
    refine r_getI (pc := 28) (x := (nI ((Gs (su σ 0 1 y)).length))) dX7_edge_28 fX7_117 rfl rfl hG3.2.1 ?_
    refine rn_if_le (pc := 31) (tgt := 44) dX7_edge_31 (by decide) (by omega) (fun c31 => ?_) (fun c31 => ?_)
    · refine r_iconst (pc := 44) (v := (nI (0))) dX7_edge_44 (by decide) ?_
      refine r_istore_n (pc := 45) (ls' := [(0, .ref 40), (1, .int (nI (σ 0 1))), (2, .int (nI y)), (3, .int (nI 0))]) dX7_edge_45 (Nat.le_of_ble_eq_true rfl) rfl ?_
      refine r_iload_n (pc := 46) dX7_edge_46 rfl ?_
      refine r_iload_n (pc := 47) dX7_edge_47 rfl ?_
      refine rn_if_eq (pc := 48) (tgt := 55) dX7_edge_48 (by decide) (by decide) (fun _ => ?_) (fun q => absurd q (by decide))
      refine r_iconst (pc := 55) (v := (nI (0))) dX7_edge_55 (by decide) ?_
      refine rn_iadd (pc := 56) dX7_edge_56 ?_
      refine r_istore_n (pc := 57) (ls' := [(0, .ref 40), (1, .int (nI (σ 0 1))), (2, .int (nI y)), (3, .int (nI 0))]) dX7_edge_57 (Nat.le_of_ble_eq_true rfl) rfl ?_
      refine r_goto (pc := 58) (tgt := 11) dX7_edge_58 (by decide) ?_
      refine r_iload_n (pc := 11) dX7_edge_11 rfl ?_
      refine rn_if_eq (pc := 12) (tgt := 61) dX7_edge_12 (by decide) (by decide) (fun _ => ?_) (fun q => absurd q (by decide))
      refine r_aload_n (pc := 61) dX7_edge_61 rfl ?_
      refine r_getR (pc := 62) (r := 48) dX7_edge_62 fX7_31 rfl rfl ?_
      refine r_iconst (pc := 65) (v := (nI (0))) dX7_edge_65 (by decide) ?_
      refine r_iload_n (pc := 66) dX7_edge_66 rfl ?_
      refine r_iast (pc := 67) dX7_edge_67 rfl rfl (by omega) ?_
      refine r_aload_n (pc := 68) dX7_edge_68 rfl ?_
      refine r_getI (pc := 69) (x := (nI ((Gs (su σ 0 1 y)).length))) dX7_edge_69 fX7_117 rfl rfl hG3.2.1 ?_
      refine rn_if_le (pc := 72) (tgt := 80) dX7_edge_72 (by decide) (by omega) (fun c72 => ?_) (fun c72 => ?_)
      · refine r_iload_n (pc := 80) dX7_edge_80 rfl ?_
        refine r_ireturn (pc := 81) dX7_edge_81 rfl (Or.inl rfl) rfl ?_
        have hM4 : Ms (setI μ3 48 0 (nI (σ 0 1))) σ := by
          have := Ms_t0 (v := σ 0 1) hM3
          rwa [su_su, su_id] at this
        have hno : ¬ anyG σ (σ 4) y = true := fun q => absurd (hany.mpr q) (by omega)
        have e9 : egR σ k y = nI y := by cases k <;> exact if_neg hno
        rw [e9] at h
        exact h _ hM4 (keepX.I hk3 (by decide))
      · refine r_bipush (pc := 75) (v := (-6)) dX7_edge_75 (by decide) ?_
        refine r_goto (pc := 77) (tgt := 81) dX7_edge_77 (by decide) ?_
        refine r_ireturn (pc := 81) dX7_edge_81 rfl (Or.inl rfl) rfl ?_
        exact absurd c31 (by omega)
    · refine r_iload_n (pc := 34) dX7_edge_34 rfl ?_
      refine r_bipush (pc := 35) (v := (nI (98))) dX7_edge_35 (by decide) ?_
      refine rn_icmp_ge (pc := 37) (tgt := 44) dX7_edge_37 (by decide) (by omega) (by omega) (fun c37 => ?_) (fun c37 => ?_)
      · refine r_iconst (pc := 44) (v := (nI (0))) dX7_edge_44 (by decide) ?_
        refine r_istore_n (pc := 45) (ls' := [(0, .ref 40), (1, .int (nI (σ 0 1))), (2, .int (nI y)), (3, .int (nI 0))]) dX7_edge_45 (Nat.le_of_ble_eq_true rfl) rfl ?_
        refine r_iload_n (pc := 46) dX7_edge_46 rfl ?_
        refine r_iload_n (pc := 47) dX7_edge_47 rfl ?_
        refine rn_if_eq (pc := 48) (tgt := 55) dX7_edge_48 (by decide) (by decide) (fun _ => ?_) (fun q => absurd q (by decide))
        refine r_iconst (pc := 55) (v := (nI (0))) dX7_edge_55 (by decide) ?_
        refine rn_iadd (pc := 56) dX7_edge_56 ?_
        refine r_istore_n (pc := 57) (ls' := [(0, .ref 40), (1, .int (nI (σ 0 1))), (2, .int (nI y)), (3, .int (nI 0))]) dX7_edge_57 (Nat.le_of_ble_eq_true rfl) rfl ?_
        refine r_goto (pc := 58) (tgt := 11) dX7_edge_58 (by decide) ?_
        refine r_iload_n (pc := 11) dX7_edge_11 rfl ?_
        refine rn_if_eq (pc := 12) (tgt := 61) dX7_edge_12 (by decide) (by decide) (fun _ => ?_) (fun q => absurd q (by decide))
        refine r_aload_n (pc := 61) dX7_edge_61 rfl ?_
        refine r_getR (pc := 62) (r := 48) dX7_edge_62 fX7_31 rfl rfl ?_
        refine r_iconst (pc := 65) (v := (nI (0))) dX7_edge_65 (by decide) ?_
        refine r_iload_n (pc := 66) dX7_edge_66 rfl ?_
        refine r_iast (pc := 67) dX7_edge_67 rfl rfl (by omega) ?_
        refine r_aload_n (pc := 68) dX7_edge_68 rfl ?_
        refine r_getI (pc := 69) (x := (nI ((Gs (su σ 0 1 y)).length))) dX7_edge_69 fX7_117 rfl rfl hG3.2.1 ?_
        refine rn_if_le (pc := 72) (tgt := 80) dX7_edge_72 (by decide) (by omega) (fun c72 => ?_) (fun c72 => ?_)
        · refine r_iload_n (pc := 80) dX7_edge_80 rfl ?_
          refine r_ireturn (pc := 81) dX7_edge_81 rfl (Or.inl rfl) rfl ?_
          exact absurd c72 (by omega)
        · refine r_bipush (pc := 75) (v := (-6)) dX7_edge_75 (by decide) ?_
          refine r_goto (pc := 77) (tgt := 81) dX7_edge_77 (by decide) ?_
          refine r_ireturn (pc := 81) dX7_edge_81 rfl (Or.inl rfl) rfl ?_
          have hM4 : Ms (setI μ3 48 0 (nI (σ 0 1))) σ := by
            have := Ms_t0 (v := σ 0 1) hM3
            rwa [su_su, su_id] at this
          obtain rfl : k = 0 := by omega
          rw [egR, if_pos (hany.mp (by omega))] at h
          exact h _ hM4 (keepX.I hk3 (by decide))
      · refine r_iconst (pc := 40) (v := (nI (1))) dX7_edge_40 (by decide) ?_
        refine r_goto (pc := 41) (tgt := 45) dX7_edge_41 (by decide) ?_
        refine r_istore_n (pc := 45) (ls' := [(0, .ref 40), (1, .int (nI (σ 0 1))), (2, .int (nI y)), (3, .int (nI 1))]) dX7_edge_45 (Nat.le_of_ble_eq_true rfl) rfl ?_
        refine r_iload_n (pc := 46) dX7_edge_46 rfl ?_
        refine r_iload_n (pc := 47) dX7_edge_47 rfl ?_
        refine rn_if_eq (pc := 48) (tgt := 55) dX7_edge_48 (by decide) (by decide) (fun q => absurd q (by decide)) (fun _ => ?_)
        refine r_iconst (pc := 51) (v := (nI (1))) dX7_edge_51 (by decide) ?_
        refine r_goto (pc := 52) (tgt := 56) dX7_edge_52 (by decide) ?_
        refine rn_iadd (pc := 56) dX7_edge_56 ?_
        refine r_istore_n (pc := 57) (ls' := [(0, .ref 40), (1, .int (nI (σ 0 1))), (2, .int (nI (y + 1))), (3, .int (nI 1))]) dX7_edge_57 (Nat.le_of_ble_eq_true rfl) rfl ?_
        refine r_goto (pc := 58) (tgt := 11) dX7_edge_58 (by decide) ?_
        obtain ⟨k1, rfl⟩ : ∃ k1, k = k1 + 1 := ⟨k - 1, by omega⟩
        rw [egR, if_pos (hany.mp (by omega))] at h
        exact ih k1 (by omega) (y + 1) μ3 y (by omega) hM3 hk3 h

set_option maxRecDepth 20000 in
set_option maxHeartbeats 4000000 in
theorem m_edge {μ : Mem} {σ : Sg} {Q : Option Value → Mem → Prop} (hM : Ms μ σ) (hO : Ok σ) (h : ∀ μ', Ms μ' σ → keepX μ μ' → Q (some (.int (sp_edge σ))) μ') : Sp iX7_edge 3 [.ref 40] μ Q := by
  refine Sp.of vX7_edge.1 (Nat.le_of_ble_eq_true rfl) ?_
  show WP cX7_edge (RX7, 4, (some .int), 3, none) 0 [(0, .ref 40)] [] μ Q
  have hn := Ok_n hO
  refine r_aload_n (pc := 0) dX7_edge_0 rfl ?_
  refine r_getR (pc := 1) (r := 48) dX7_edge_1 fX7_31 rfl rfl ?_
  refine r_iconst (pc := 4) (v := (nI (0))) dX7_edge_4 (by decide) ?_
  refine r_iald (pc := 5) (x := (nI (σ 0 1))) dX7_edge_5 rfl rfl (by omega) (Ms_fee (μ := μ) hM) ?_
  refine r_istore_n (pc := 6) (ls' := [(0, .ref 40), (1, .int (nI (σ 0 1)))]) dX7_edge_6 (Nat.le_of_ble_eq_true rfl) rfl ?_
  refine r_iconst (pc := 7) (v := (nI (0))) dX7_edge_7 (by decide) ?_
  refine r_istore_n (pc := 8) (ls' := [(0, .ref 40), (1, .int (nI (σ 0 1))), (2, .int (nI 0))]) dX7_edge_8 (Nat.le_of_ble_eq_true rfl) rfl ?_
  refine r_iconst (pc := 9) (v := (nI (1))) dX7_edge_9 (by decide) ?_
  refine r_istore_n (pc := 10) (ls' := [(0, .ref 40), (1, .int (nI (σ 0 1))), (2, .int (nI 0)), (3, .int (nI 1))]) dX7_edge_10 (Nat.le_of_ble_eq_true rfl) rfl ?_
  exact m_edge_l hO 98 0 μ (σ 0 1) (by omega) (by rw [su_id]; exact hM) keepX.rf h
