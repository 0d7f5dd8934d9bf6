/-! THE CLASS: walk, backward -/
def sI (m : Nat) : Int32 := match m with
  | 0 => -1
  | k + 1 => nI k
theorem sI_dec (m : Nat) : nI m + Int32.ofInt (-1) = sI m := by
  cases m with
  | zero => decide
  | succ k => exact nI_dec1 k
theorem sI_neg {m : Nat} (hm : m < 2 ^ 31) (h : sI m < 0) : m = 0 := by
  cases m with
  | zero => rfl
  | succ k =>
    have h1 : nI k < 0 := h
    rw [Int32.lt_iff_toInt_lt, nI_toInt (by omega)] at h1
    simp at h1
    omega
theorem sI_pos {m : Nat} (h : ¬ sI m < 0) : ∃ k, m = k + 1 := by
  cases m with
  | zero => exact absurd (show (-1 : Int32) < 0 by decide) h
  | succ k => exact ⟨k, rfl⟩

set_option maxRecDepth 20000 in
set_option maxHeartbeats 4000000 in
theorem x_na {μ : Mem} {σ : Sg} {b v : Nat} {Q : Option Value → Mem → Prop} (hX : Xs μ σ) (hO : Ok σ) (hb0 : b < σ 0 0) (hv : v ≤ NV) (h : Q (some (.int (nI (nda σ b v)))) μ) : Sp iX1_neededAhead 2 [.ref 1, .int (nI b), .int (nI v)] μ Q := by
  refine Sp.of sX1_neededAhead.1 (Nat.le_of_ble_eq_true rfl) ?_
  show WP cX1_neededAhead (RX1, 5, (some .int), 2, none) 0 [(0, .ref 1), (1, .int (nI b)), (2, .int (nI v))] [] μ Q
  have hn := Ok_n hO
  have hv9 : v ≤ 1000000000 := hv
  have hu1 : 1 ≤ upR (σ 4 b) (σ 0 1) := upR_pos _ _
  have hu9 : upR (σ 4 b) (σ 0 1) ≤ 99 := upR_99 (Ok_b hO (j := b) (by omega)).2.2.2.1
  have hdv : v / upR (σ 4 b) (σ 0 1) ≤ v := Nat.div_le_self _ _
  have hmv : v % upR (σ 4 b) (σ 0 1) ≤ v := Nat.mod_le _ _
  have hq1 : Nat.min 1000000 (σ 7 b) ≤ 1000000 := Nat.min_le_left _ _
  have hq2 : Nat.min 1000000 (σ 7 b) / σ 2 b ≤ Nat.min 1000000 (σ 7 b) := Nat.div_le_self _ _
  refine r_aload_n (pc := 0) dX1_neededAhead_0 rfl ?_
  refine r_iload_n (pc := 1) dX1_neededAhead_1 rfl ?_
  refine r_callV (pc := 2) (d' := 1) (k := 1) (As := [.int (nI b)]) (rest := []) dX1_neededAhead_2 vX0_upper mX1_53 rfl rfl rfl (Nat.le_of_ble_eq_true rfl) (Nat.le_of_ble_eq_true rfl) ?_
  refine c_xupper (μ := μ) hX hO (by omega) ?_
  refine r_istore_n (pc := 5) (ls' := [(0, .ref 1), (1, .int (nI b)), (2, .int (nI v)), (3, .int (nI (upR (σ 4 (b)) (σ 0 1))))]) dX1_neededAhead_5 (Nat.le_of_ble_eq_true rfl) rfl ?_
  refine r_iload_n (pc := 6) dX1_neededAhead_6 rfl ?_
  refine r_ldc (pc := 7) dX1_neededAhead_7 kX1_45 ?_
  refine r_eqi (y := nI 1000000000) (by decide) ?_
  refine rn_icmp_eq (pc := 9) (tgt := 17) dX1_neededAhead_9 (by decide) (by omega) (by omega) (fun c9 => ?_) (fun c9 => ?_)
  · refine r_ldc (pc := 17) dX1_neededAhead_17 kX1_45 ?_
    refine r_eqi (y := nI 1000000000) (by decide) ?_
    refine r_ireturn (pc := 19) dX1_neededAhead_19 rfl (Or.inl rfl) rfl ?_
    have e9 : nda σ b v = 1000000000 := if_pos c9
    rw [e9] at h
    exact h
  · refine r_iload_n (pc := 12) dX1_neededAhead_12 rfl ?_
    refine r_iconst (pc := 13) (v := (nI (1))) dX1_neededAhead_13 (by decide) ?_
    refine rn_icmp_ge (pc := 14) (tgt := 20) dX1_neededAhead_14 (by decide) (by omega) (by omega) (fun c14 => ?_) (fun c14 => ?_)
    · refine r_iload_n (pc := 20) dX1_neededAhead_20 rfl ?_
      refine r_iload_n (pc := 21) dX1_neededAhead_21 rfl ?_
      refine rn_idiv (pc := 22) dX1_neededAhead_22 (by omega) (by omega) (by omega) ?_
      refine r_iload_n (pc := 23) dX1_neededAhead_23 rfl ?_
      refine r_iload_n (pc := 24) dX1_neededAhead_24 rfl ?_
      refine rn_irem (pc := 25) dX1_neededAhead_25 (by omega) (by omega) (by omega) ?_
      refine rn_if_ne (pc := 26) (tgt := 33) dX1_neededAhead_26 (by decide) (by omega) (fun c26 => ?_) (fun c26 => ?_)
      · refine r_iconst (pc := 33) (v := (nI (1))) dX1_neededAhead_33 (by decide) ?_
        refine rn_iadd (pc := 34) dX1_neededAhead_34 ?_
        refine r_istore (pc := 35) (ls' := [(0, .ref 1), (1, .int (nI b)), (2, .int (nI v)), (3, .int (nI (upR (σ 4 (b)) (σ 0 1)))), (4, .int (nI (((v) / (upR (σ 4 (b)) (σ 0 1))) + (1))))]) dX1_neededAhead_35 (Nat.le_of_ble_eq_true rfl) rfl ?_
        refine r_iload (pc := 37) dX1_neededAhead_37 rfl ?_
        refine r_aload_n (pc := 39) dX1_neededAhead_39 rfl ?_
        refine r_iload_n (pc := 40) dX1_neededAhead_40 rfl ?_
        refine r_ldc (pc := 41) dX1_neededAhead_41 kX1_57 ?_
        refine r_eqi (y := nI 1000000) (by decide) ?_
        refine r_callV (pc := 43) (d' := 1) (k := 1) (As := [.int (nI b), .int (nI 1000000)]) (rest := [.int (nI (((v) / (upR (σ 4 (b)) (σ 0 1))) + (1)))]) dX1_neededAhead_43 vX0_wholes mX1_58 rfl rfl rfl (Nat.le_of_ble_eq_true rfl) (Nat.le_of_ble_eq_true rfl) ?_
        refine x_wholes hX hO hb0 (by omega) ?_
        refine rn_icmp_le (pc := 46) (tgt := 54) dX1_neededAhead_46 (by decide) (by omega) (by omega) (fun c46 => ?_) (fun c46 => ?_)
        · refine r_iload (pc := 54) dX1_neededAhead_54 rfl ?_
          refine r_aload_n (pc := 56) dX1_neededAhead_56 rfl ?_
          refine r_getR (pc := 57) (r := 3) dX1_neededAhead_57 fX1_61 rfl rfl ?_
          refine r_iload_n (pc := 60) dX1_neededAhead_60 rfl ?_
          refine r_iald (pc := 61) (x := (nI (σ 2 (b)))) dX1_neededAhead_61 rfl rfl (by omega) (Xs_2 (μ := μ) hX (by omega)) ?_
          have b1 := Ok_b hO (j := b) (by omega)
          refine rn_imul (pc := 62) dX1_neededAhead_62 ?_
          refine r_ireturn (pc := 63) dX1_neededAhead_63 rfl (Or.inl rfl) rfl ?_
          have e9 : nda σ b v = (((v) / (upR (σ 4 (b)) (σ 0 1))) + (1)) * (σ 2 (b)) := by
            unfold nda ub
            rw [if_neg c9, if_neg c26, if_neg (by omega)]
          rw [e9] at h
          exact h
        · refine r_ldc (pc := 49) dX1_neededAhead_49 kX1_45 ?_
          refine r_eqi (y := nI 1000000000) (by decide) ?_
          refine r_goto (pc := 51) (tgt := 63) dX1_neededAhead_51 (by decide) ?_
          refine r_ireturn (pc := 63) dX1_neededAhead_63 rfl (Or.inl rfl) rfl ?_
          have e9 : nda σ b v = 1000000000 := by
            unfold nda ub
            rw [if_neg c9, if_neg c26, if_pos (by omega)]
          rw [e9] at h
          exact h
      · refine r_iconst (pc := 29) (v := (nI (0))) dX1_neededAhead_29 (by decide) ?_
        refine r_goto (pc := 30) (tgt := 34) dX1_neededAhead_30 (by decide) ?_
        refine rn_iadd (pc := 34) dX1_neededAhead_34 ?_
        refine r_istore (pc := 35) (ls' := [(0, .ref 1), (1, .int (nI b)), (2, .int (nI v)), (3, .int (nI (upR (σ 4 (b)) (σ 0 1)))), (4, .int (nI (((v) / (upR (σ 4 (b)) (σ 0 1))) + (0))))]) dX1_neededAhead_35 (Nat.le_of_ble_eq_true rfl) rfl ?_
        refine r_iload (pc := 37) dX1_neededAhead_37 rfl ?_
        refine r_aload_n (pc := 39) dX1_neededAhead_39 rfl ?_
        refine r_iload_n (pc := 40) dX1_neededAhead_40 rfl ?_
        refine r_ldc (pc := 41) dX1_neededAhead_41 kX1_57 ?_
        refine r_eqi (y := nI 1000000) (by decide) ?_
        refine r_callV (pc := 43) (d' := 1) (k := 1) (As := [.int (nI b), .int (nI 1000000)]) (rest := [.int (nI (((v) / (upR (σ 4 (b)) (σ 0 1))) + (0)))]) dX1_neededAhead_43 vX0_wholes mX1_58 rfl rfl rfl (Nat.le_of_ble_eq_true rfl) (Nat.le_of_ble_eq_true rfl) ?_
        refine x_wholes hX hO hb0 (by omega) ?_
        refine rn_icmp_le (pc := 46) (tgt := 54) dX1_neededAhead_46 (by decide) (by omega) (by omega) (fun c46 => ?_) (fun c46 => ?_)
        · refine r_iload (pc := 54) dX1_neededAhead_54 rfl ?_
          refine r_aload_n (pc := 56) dX1_neededAhead_56 rfl ?_
          refine r_getR (pc := 57) (r := 3) dX1_neededAhead_57 fX1_61 rfl rfl ?_
          refine r_iload_n (pc := 60) dX1_neededAhead_60 rfl ?_
          refine r_iald (pc := 61) (x := (nI (σ 2 (b)))) dX1_neededAhead_61 rfl rfl (by omega) (Xs_2 (μ := μ) hX (by omega)) ?_
          have b2 := Ok_b hO (j := b) (by omega)
          refine rn_imul (pc := 62) dX1_neededAhead_62 ?_
          refine r_ireturn (pc := 63) dX1_neededAhead_63 rfl (Or.inl rfl) rfl ?_
          have e9 : nda σ b v = (((v) / (upR (σ 4 (b)) (σ 0 1))) + (0)) * (σ 2 (b)) := by
            unfold nda ub
            rw [if_neg c9, if_pos c26, if_neg (by omega)]
          rw [e9] at h
          exact h
        · refine r_ldc (pc := 49) dX1_neededAhead_49 kX1_45 ?_
          refine r_eqi (y := nI 1000000000) (by decide) ?_
          refine r_goto (pc := 51) (tgt := 63) dX1_neededAhead_51 (by decide) ?_
          refine r_ireturn (pc := 63) dX1_neededAhead_63 rfl (Or.inl rfl) rfl ?_
          have e9 : nda σ b v = 1000000000 := by
            unfold nda ub
            rw [if_neg c9, if_pos c26, if_pos (by omega)]
          rw [e9] at h
          exact h
    · exact absurd c14 (by omega)

def n0 (e J M m c : Nat) : Nat := if m = J ∧ c = e then M else NV

set_option maxRecDepth 20000 in
set_option maxHeartbeats 4000000 in
theorem x_lb_c {μ : Mem} {e J M m : Nat} {Q : Option Value → Mem → Prop} (he : e < 8) (hJ : J ≤ 5) (hm : m ≤ 5) (hMx : μ.1 (24 + J) e = nI M) (K : ∀ μ2, only (31 + m) μ μ2 → NM μ2 m (n0 e J M m) → WP cX1_lookBack (RX1, 8, none, 3, none) 69 [(0, .ref 22), (1, .ref 1), (2, .int (nI e)), (3, .int (nI J)), (4, .int (nI m))] [] μ2 Q) : ∀ (k : Nat) (c : Nat) (μ1 : Mem), c + k = 8 → only (31 + m) μ μ1 → (∀ j, j < c → μ1.1 (31 + m) j = nI (n0 e J M m j)) → WP cX1_lookBack (RX1, 8, none, 3, none) 21 [(0, .ref 22), (1, .ref 1), (2, .int (nI e)), (3, .int (nI J)), (4, .int (nI m)), (5, .int (nI c))] [] μ1 Q := by
  intro k
  induction k using Nat.strongRecOn with
  | _ k ih =>
    intro c μ1 hc ho hv
    refine r_iload (pc := 21) dX1_lookBack_21 rfl ?_
    refine r_bipush (pc := 23) (v := (nI (8))) dX1_lookBack_23 (by decide) ?_
    refine rn_icmp_ge (pc := 25) (tgt := 69) dX1_lookBack_25 (by decide) (by omega) (by omega) (fun c25 => ?_) (fun c25 => ?_)
    · refine r_pick (ls' := [(0, .ref 22), (1, .ref 1), (2, .int (nI e)), (3, .int (nI J)), (4, .int (nI m))]) [0, 1, 2, 3, 4] rfl ?_
      exact K μ1 ho (fun j hj => hv j (by omega))
    · refine r_aload_n (pc := 28) dX1_lookBack_28 rfl ?_
      refine r_getR (pc := 29) (r := 30) dX1_lookBack_29 fX1_16 rfl rfl ?_
      refine r_iload (pc := 32) dX1_lookBack_32 rfl ?_
      refine r_aald (pc := 34) dX1_lookBack_34 rfl rfl (by omega) ?_
      refine r_iload (pc := 35) dX1_lookBack_35 rfl ?_
      refine r_iload (pc := 37) dX1_lookBack_37 rfl ?_
      refine r_iload_n (pc := 39) dX1_lookBack_39 rfl ?_
      refine rn_icmp_ne (pc := 40) (tgt := 60) dX1_lookBack_40 (by decide) (by omega) (by omega) (fun c40 => ?_) (fun c40 => ?_)
      · refine r_ldc (pc := 60) dX1_lookBack_60 kX1_45 ?_
        refine r_eqi (y := nI 1000000000) (by decide) ?_
        refine r_iast (pc := 62) dX1_lookBack_62 (sh31 (by omega)) rfl (by omega) ?_
        refine rn_iinc (pc := 63) (b := 1) (ls' := [(0, .ref 22), (1, .ref 1), (2, .int (nI e)), (3, .int (nI J)), (4, .int (nI m)), (5, .int (nI (c + 1)))]) dX1_lookBack_63 rfl (by decide) (Nat.le_of_ble_eq_true rfl) rfl ?_
        refine r_goto (pc := 66) (tgt := 21) dX1_lookBack_66 (by decide) ?_
        refine ih (k - 1) (by omega) (c + 1) _ (by omega) ho.s (fun j hj => ?_)
        rw [setI_at]
        by_cases q : j = c
        · subst q; rw [if_pos ⟨rfl, rfl⟩, show n0 e J M m j = _ from (if_neg (fun z => c40 z.1))]
        · rw [if_neg (fun z => q z.2)]; exact hv j (by omega)
      · refine r_iload (pc := 43) dX1_lookBack_43 rfl ?_
        refine r_iload_n (pc := 45) dX1_lookBack_45 rfl ?_
        refine rn_icmp_ne (pc := 46) (tgt := 60) dX1_lookBack_46 (by decide) (by omega) (by omega) (fun c46 => ?_) (fun c46 => ?_)
        · refine r_ldc (pc := 60) dX1_lookBack_60 kX1_45 ?_
          refine r_eqi (y := nI 1000000000) (by decide) ?_
          refine r_iast (pc := 62) dX1_lookBack_62 (sh31 (by omega)) rfl (by omega) ?_
          refine rn_iinc (pc := 63) (b := 1) (ls' := [(0, .ref 22), (1, .ref 1), (2, .int (nI e)), (3, .int (nI J)), (4, .int (nI m)), (5, .int (nI (c + 1)))]) dX1_lookBack_63 rfl (by decide) (Nat.le_of_ble_eq_true rfl) rfl ?_
          refine r_goto (pc := 66) (tgt := 21) dX1_lookBack_66 (by decide) ?_
          refine ih (k - 1) (by omega) (c + 1) _ (by omega) ho.s (fun j hj => ?_)
          rw [setI_at]
          by_cases q : j = c
          · subst q; rw [if_pos ⟨rfl, rfl⟩, show n0 e J M m j = _ from (if_neg (fun z => c46 z.2))]
          · rw [if_neg (fun z => q z.2)]; exact hv j (by omega)
        · refine r_aload_n (pc := 49) dX1_lookBack_49 rfl ?_
          refine r_getR (pc := 50) (r := 23) dX1_lookBack_50 fX1_11 rfl rfl ?_
          refine r_iload_n (pc := 53) dX1_lookBack_53 rfl ?_
          refine r_aald (pc := 54) dX1_lookBack_54 rfl rfl (by omega) ?_
          refine r_iload_n (pc := 55) dX1_lookBack_55 rfl ?_
          refine r_iald (pc := 56) (x := (nI (M))) dX1_lookBack_56 (sh24 (by omega)) rfl (by omega) (by show μ1.1 (24 + J) e = _; rw [ho.1 (24 + J) (by omega)]; exact hMx) ?_
          refine r_goto (pc := 57) (tgt := 62) dX1_lookBack_57 (by decide) ?_
          refine r_iast (pc := 62) dX1_lookBack_62 (sh31 (by omega)) rfl (by omega) ?_
          refine rn_iinc (pc := 63) (b := 1) (ls' := [(0, .ref 22), (1, .ref 1), (2, .int (nI e)), (3, .int (nI J)), (4, .int (nI m)), (5, .int (nI (c + 1)))]) dX1_lookBack_63 rfl (by decide) (Nat.le_of_ble_eq_true rfl) rfl ?_
          refine r_goto (pc := 66) (tgt := 21) dX1_lookBack_66 (by decide) ?_
          refine ih (k - 1) (by omega) (c + 1) _ (by omega) ho.s (fun j hj => ?_)
          rw [setI_at]
          by_cases q : j = c
          · subst q; rw [if_pos ⟨rfl, rfl⟩, show n0 e J M m j = _ from (if_pos ⟨c40, c46⟩)]
          · rw [if_neg (fun z => q z.2)]; exact hv j (by omega)

set_option maxRecDepth 20000 in
set_option maxHeartbeats 4000000 in
theorem x_lb_b {μ : Mem} {σ : Sg} {e J m : Nat} {g : Nat → Nat} {Q : Option Value → Mem → Prop} (hX : Xs μ σ) (hO : Ok σ) (hm : m < J) (hJ : J ≤ 5) (hgN : ∀ c, g c ≤ 1000000000) (hp : NM μ (m + 1) g) (K : ∀ μ2, only (31 + m) μ μ2 → NM μ2 m (ndP σ g (σ 0 0)) → WP cX1_lookBack (RX1, 8, none, 3, none) 161 [(0, .ref 22), (1, .ref 1), (2, .int (nI e)), (3, .int (nI J)), (4, .int (nI m))] [] μ2 Q) : ∀ (k : Nat) (b : Nat) (μ1 : Mem), b + k = σ 0 0 → only (31 + m) μ μ1 → NM μ1 m (ndP σ g b) → WP cX1_lookBack (RX1, 8, none, 3, none) 72 [(0, .ref 22), (1, .ref 1), (2, .int (nI e)), (3, .int (nI J)), (4, .int (nI m)), (5, .int (nI b))] [] μ1 Q := by
  intro k
  induction k using Nat.strongRecOn with
  | _ k ih =>
    intro b μ1 hb1 ho hv
    have hn := Ok_n hO
    have hX1 := Xs_frH (only.H ho (by omega)) hX
    refine r_iload (pc := 72) dX1_lookBack_72 rfl ?_
    refine r_iload_n (pc := 74) dX1_lookBack_74 rfl ?_
    refine rn_icmp_ge (pc := 75) (tgt := 161) dX1_lookBack_75 (by decide) (by omega) (by omega) (fun c75 => ?_) (fun c75 => ?_)
    · exact absurd c75 (by omega)
    · refine r_iload (pc := 78) dX1_lookBack_78 rfl ?_
      refine r_aload_n (pc := 80) dX1_lookBack_80 rfl ?_
      refine r_getI (pc := 81) (x := (nI (σ 0 0))) dX1_lookBack_81 fX1_19 rfl rfl (Xs_n (μ := μ1) hX1) ?_
      refine rn_icmp_ge (pc := 84) (tgt := 161) dX1_lookBack_84 (by decide) (by omega) (by omega) (fun c84 => ?_) (fun c84 => ?_)
      · obtain rfl : b = σ 0 0 := by omega
        refine r_pick (ls' := [(0, .ref 22), (1, .ref 1), (2, .int (nI e)), (3, .int (nI J)), (4, .int (nI m))]) [0, 1, 2, 3, 4] rfl ?_
        exact K μ1 ho hv
      · have hbb := Ok_b hO (j := b) (by omega)
        refine r_aload_n (pc := 87) dX1_lookBack_87 rfl ?_
        refine r_getR (pc := 88) (r := 2) dX1_lookBack_88 fX1_25 rfl rfl ?_
        refine r_iload (pc := 91) dX1_lookBack_91 rfl ?_
        refine r_iald (pc := 93) (x := (nI (σ 1 (b)))) dX1_lookBack_93 rfl rfl (by omega) (Xs_1 (μ := μ1) hX1 (by omega)) ?_
        have b1 := Ok_b hO (j := b) (by omega)
        refine r_istore (pc := 94) (ls' := [(0, .ref 22), (1, .ref 1), (2, .int (nI e)), (3, .int (nI J)), (4, .int (nI m)), (5, .int (nI b)), (6, .int (nI (σ 1 (b))))]) dX1_lookBack_94 (Nat.le_of_ble_eq_true rfl) rfl ?_
        refine r_aload_n (pc := 96) dX1_lookBack_96 rfl ?_
        refine r_iload (pc := 97) dX1_lookBack_97 rfl ?_
        refine r_callV (pc := 99) (d' := 1) (k := 1) (As := [.int (nI b)]) (rest := []) dX1_lookBack_99 vX0_isOpen mX1_32 rfl rfl rfl (Nat.le_of_ble_eq_true rfl) (Nat.le_of_ble_eq_true rfl) ?_
        refine c_xopen (μ := μ1) hX1 hO (by omega) ?_
        refine rb_if_eq (pc := 102) (tgt := 155) dX1_lookBack_102 (by decide) (fun c102 => ?_) (fun c102 => ?_)
        · refine rn_iinc (pc := 155) (b := 1) (ls' := [(0, .ref 22), (1, .ref 1), (2, .int (nI e)), (3, .int (nI J)), (4, .int (nI m)), (5, .int (nI (b + 1))), (6, .int (nI (σ 1 (b))))]) dX1_lookBack_155 rfl (by decide) (Nat.le_of_ble_eq_true rfl) rfl ?_
          refine r_goto (pc := 158) (tgt := 72) dX1_lookBack_158 (by decide) ?_
          refine r_pick (ls' := [(0, .ref 22), (1, .ref 1), (2, .int (nI e)), (3, .int (nI J)), (4, .int (nI m)), (5, .int (nI (b + 1)))]) [0, 1, 2, 3, 4, 5] rfl ?_
          refine ih (k - 1) (by omega) (b + 1) μ1 (by omega) ho (fun j hj => ?_)
          rw [hv j hj]
          have e9 : ndP σ g (b + 1) = ndP σ g b := if_neg (by rw [c102]; decide)
          rw [e9]
        · refine r_aload_n (pc := 105) dX1_lookBack_105 rfl ?_
          refine r_iload (pc := 106) dX1_lookBack_106 rfl ?_
          refine r_aload_n (pc := 108) dX1_lookBack_108 rfl ?_
          refine r_getR (pc := 109) (r := 30) dX1_lookBack_109 fX1_16 rfl rfl ?_
          refine r_iload (pc := 112) dX1_lookBack_112 rfl ?_
          refine r_iconst (pc := 114) (v := (nI (1))) dX1_lookBack_114 (by decide) ?_
          refine rn_iadd (pc := 115) dX1_lookBack_115 ?_
          refine r_aald (pc := 116) dX1_lookBack_116 rfl rfl (by omega) ?_
          refine r_aload_n (pc := 117) dX1_lookBack_117 rfl ?_
          refine r_getR (pc := 118) (r := 4) dX1_lookBack_118 fX1_29 rfl rfl ?_
          refine r_iload (pc := 121) dX1_lookBack_121 rfl ?_
          refine r_iald (pc := 123) (x := (nI (σ 3 (b)))) dX1_lookBack_123 rfl rfl (by omega) (Xs_3 (μ := μ1) hX1 (by omega)) ?_
          have b2 := Ok_b hO (j := b) (by omega)
          refine r_iald (pc := 124) (x := (nI (g (σ 3 (b))))) dX1_lookBack_124 (sh31 (by omega)) rfl (by omega) (by show μ1.1 (31 + (m + 1)) _ = _; rw [ho.1 (31 + (m + 1)) (by omega)]; exact hp _ (by omega)) ?_
          have hgl := hgN (σ 3 (b))
          refine r_callS (pc := 125) (d' := 2) (As := [.ref 1, .int (nI b), .int (nI (g (σ 3 (b))))]) (rest := []) dX1_lookBack_125 sX1_neededAhead mX1_46 rfl rfl (Nat.le_of_ble_eq_true rfl) (Nat.le_of_ble_eq_true rfl) ?_
          refine x_na hX1 hO (by omega) (by show _ ≤ 1000000000; omega) ?_
          have hna : nda σ b (g (σ 3 (b))) ≤ 1000000000 := nda_le σ hO (by omega)
          refine r_istore (pc := 128) (ls' := [(0, .ref 22), (1, .ref 1), (2, .int (nI e)), (3, .int (nI J)), (4, .int (nI m)), (5, .int (nI b)), (6, .int (nI (σ 1 (b)))), (7, .int (nI (nda σ b (g (σ 3 (b))))))]) dX1_lookBack_128 (Nat.le_of_ble_eq_true rfl) rfl ?_
          refine r_aload_n (pc := 130) dX1_lookBack_130 rfl ?_
          refine r_getR (pc := 131) (r := 30) dX1_lookBack_131 fX1_16 rfl rfl ?_
          refine r_iload (pc := 134) dX1_lookBack_134 rfl ?_
          refine r_aald (pc := 136) dX1_lookBack_136 rfl rfl (by omega) ?_
          refine r_iload (pc := 137) dX1_lookBack_137 rfl ?_
          refine r_aload_n (pc := 139) dX1_lookBack_139 rfl ?_
          refine r_getR (pc := 140) (r := 30) dX1_lookBack_140 fX1_16 rfl rfl ?_
          refine r_iload (pc := 143) dX1_lookBack_143 rfl ?_
          refine r_aald (pc := 145) dX1_lookBack_145 rfl rfl (by omega) ?_
          refine r_iload (pc := 146) dX1_lookBack_146 rfl ?_
          refine r_iald (pc := 148) (x := (nI (ndP σ g b (σ 1 (b))))) dX1_lookBack_148 (sh31 (by omega)) rfl (by omega) (hv _ (by omega)) ?_
          have hnl : ndP σ g b (σ 1 (b)) ≤ 1000000000 := ndP_le hO g b (by omega) _
          refine r_iload (pc := 149) dX1_lookBack_149 rfl ?_
          refine r_mmin (pc := 151) dX1_lookBack_151 mX1_50 (Nat.le_of_ble_eq_true rfl) (Nat.le_of_ble_eq_true rfl) ?_
          refine r_eqi (nI_min (by omega) (by omega)) ?_
          refine r_iast (pc := 154) dX1_lookBack_154 (sh31 (by omega)) rfl (by omega) ?_
          refine rn_iinc (pc := 155) (b := 1) (ls' := [(0, .ref 22), (1, .ref 1), (2, .int (nI e)), (3, .int (nI J)), (4, .int (nI m)), (5, .int (nI (b + 1))), (6, .int (nI (σ 1 (b)))), (7, .int (nI (nda σ b (g (σ 3 (b))))))]) dX1_lookBack_155 rfl (by decide) (Nat.le_of_ble_eq_true rfl) rfl ?_
          refine r_goto (pc := 158) (tgt := 72) dX1_lookBack_158 (by decide) ?_
          refine r_pick (ls' := [(0, .ref 22), (1, .ref 1), (2, .int (nI e)), (3, .int (nI J)), (4, .int (nI m)), (5, .int (nI (b + 1)))]) [0, 1, 2, 3, 4, 5] rfl ?_
          refine ih (k - 1) (by omega) (b + 1) _ (by omega) ho.s (fun j hj => ?_)
          have e9 : ndP σ g (b + 1) = updN (ndP σ g b) (σ 1 b) (Nat.min (ndP σ g b (σ 1 b)) (nda σ b (g (σ 3 b)))) := if_pos c102
          rw [e9, setI_at]
          by_cases q : j = σ 1 b
          · subst q; rw [if_pos ⟨rfl, rfl⟩, updN_s]
          · rw [if_neg (fun z => q z.2), updN_o q]; exact hv j hj

set_option maxRecDepth 20000 in
set_option maxHeartbeats 4000000 in
theorem x_lb_o {μ : Mem} {σ : Sg} {e J M : Nat} {Q : Option Value → Mem → Prop} (hX : Xs μ σ) (hO : Ok σ) (he : e < 8) (hJ : J ≤ 5) (hM : M ≤ 99000000) (hMx : μ.1 (24 + J) e = nI M) (h : ∀ μ', frH μ μ' → (∀ i, i ≤ J → NM μ' i (nd σ e M (J - i))) → Q none μ') : ∀ (k : Nat) (m1 : Nat) (μ1 : Mem), m1 = k → m1 ≤ J + 1 → frH μ μ1 → μ1.1 (24 + J) = μ.1 (24 + J) → (∀ i, m1 ≤ i → i ≤ J → NM μ1 i (nd σ e M (J - i))) → WP cX1_lookBack (RX1, 8, none, 3, none) 13 [(0, .ref 22), (1, .ref 1), (2, .int (nI e)), (3, .int (nI J)), (4, .int (sI m1))] [] μ1 Q := by
  intro k
  induction k using Nat.strongRecOn with
  | _ k ih =>
    intro m1 μ1 hmk hmJ1 hf1 hgr hv
    have hn := Ok_n hO
    refine r_iload (pc := 13) dX1_lookBack_13 rfl ?_
    refine r_if_lt (pc := 15) (tgt := 167) dX1_lookBack_15 (by decide) (fun c15 => ?_) (fun c15 => ?_)
    · obtain rfl : m1 = 0 := sI_neg (by omega) c15
      refine r_return (pc := 167) dX1_lookBack_167 rfl ?_
      exact h μ1 hf1 (fun i hi => hv i (by omega) hi)
    · obtain ⟨m, rfl⟩ := sI_pos c15
      refine r_iconst (pc := 18) (v := (nI (0))) dX1_lookBack_18 (by decide) ?_
      refine r_istore (pc := 19) (ls' := [(0, .ref 22), (1, .ref 1), (2, .int (nI e)), (3, .int (nI J)), (4, .int (nI m)), (5, .int (nI 0))]) dX1_lookBack_19 (Nat.le_of_ble_eq_true rfl) rfl ?_
      refine x_lb_c he hJ (by omega) (by rw [hgr]; exact hMx) (fun μ2 ho2 hv2 => ?_) 8 0 μ1 (by omega) only.rf (fun j hj => absurd hj (Nat.not_lt_zero j))
      have hf2 := hf1.tr (only.H ho2 (by omega))
      have hold : ∀ i, m < i → i ≤ J → NM μ2 i (nd σ e M (J - i)) := fun i hi hi2 c hc => by rw [ho2.1 (31 + i) (by omega)]; exact hv i (by omega) hi2 c hc
      have hgr2 : μ2.1 (24 + J) = μ.1 (24 + J) := by rw [ho2.1 (24 + J) (by omega)]; exact hgr
      rcases (show m = J ∨ m < J by omega) with hmJ | hmJ
      · refine r_iconst (pc := 69) (v := (nI (0))) dX1_lookBack_69 (by decide) ?_
        refine r_istore (pc := 70) (ls' := [(0, .ref 22), (1, .ref 1), (2, .int (nI e)), (3, .int (nI J)), (4, .int (nI m)), (5, .int (nI 0))]) dX1_lookBack_70 (Nat.le_of_ble_eq_true rfl) rfl ?_
        refine r_iload (pc := 72) dX1_lookBack_72 rfl ?_
        refine r_iload_n (pc := 74) dX1_lookBack_74 rfl ?_
        refine rn_icmp_ge (pc := 75) (tgt := 161) dX1_lookBack_75 (by decide) (by omega) (by omega) (fun c75 => ?_) (fun c75 => ?_)
        · refine r_iinc (pc := 161) (v := sI m) (ls' := [(0, .ref 22), (1, .ref 1), (2, .int (nI e)), (3, .int (nI J)), (4, .int (sI m)), (5, .int (nI 0))]) dX1_lookBack_161 rfl (sI_dec _) (Nat.le_of_ble_eq_true rfl) rfl ?_
          refine r_goto (pc := 164) (tgt := 13) dX1_lookBack_164 (by decide) ?_
          refine r_pick (ls' := [(0, .ref 22), (1, .ref 1), (2, .int (nI e)), (3, .int (nI J)), (4, .int (sI m))]) [0, 1, 2, 3, 4] rfl ?_
          refine ih (k - 1) (by omega) m μ2 (by omega) (by omega) hf2 hgr2 (fun i hi hi2 => ?_)
          by_cases q : i = m
          · rw [q]; intro c hc; rw [hv2 c hc]; congr 1; unfold n0; rw [show J - m = 0 by omega]; unfold nd
            by_cases z : c = e
            · rw [if_pos ⟨hmJ, z⟩, if_pos z]
            · rw [if_neg (fun y => z y.2), if_neg z]
          · exact hold i (by omega) hi2
        · exact absurd c75 (by omega)
      · refine r_iconst (pc := 69) (v := (nI (0))) dX1_lookBack_69 (by decide) ?_
        refine r_istore (pc := 70) (ls' := [(0, .ref 22), (1, .ref 1), (2, .int (nI e)), (3, .int (nI J)), (4, .int (nI m)), (5, .int (nI 0))]) dX1_lookBack_70 (Nat.le_of_ble_eq_true rfl) rfl ?_
        refine x_lb_b (g := nd σ e M (J - (m + 1))) (Xs_frH hf2 hX) hO hmJ hJ (fun c => nd_le hO (by show _ ≤ 1000000000; omega) _ c) (hold (m + 1) (by omega) (by omega)) (fun μ3 ho3 hv3 => ?_) (σ 0 0) 0 μ2 (by omega) only.rf ?_
        · refine r_iinc (pc := 161) (v := sI m) (ls' := [(0, .ref 22), (1, .ref 1), (2, .int (nI e)), (3, .int (nI J)), (4, .int (sI m))]) dX1_lookBack_161 rfl (sI_dec _) (Nat.le_of_ble_eq_true rfl) rfl ?_
          refine r_goto (pc := 164) (tgt := 13) dX1_lookBack_164 (by decide) ?_
          skip
          refine ih (k - 1) (by omega) m μ3 (by omega) (by omega) (hf2.tr (only.H ho3 (by omega))) (by rw [ho3.1 (24 + J) (by omega)]; exact hgr2) (fun i hi hi2 => ?_)
          by_cases q : i = m
          · rw [q, show J - m = (J - (m + 1)) + 1 by omega]; exact hv3
          · intro c hc; rw [ho3.1 (31 + i) (by omega)]; exact hold i (by omega) hi2 c hc
        · intro c hc; rw [hv2 c hc]; exact congrArg nI (if_neg (fun z => absurd z.1 (by omega)))

set_option maxRecDepth 20000 in
set_option maxHeartbeats 4000000 in
theorem x_lookBack {μ : Mem} {σ : Sg} {e J M : Nat} {Q : Option Value → Mem → Prop} (hX : Xs μ σ) (hO : Ok σ) (he : e < 8) (hJ : J ≤ 5) (hM : M ≤ 99000000) (hMx : μ.1 (24 + J) e = nI M) (h : ∀ μ', frH μ μ' → (∀ i, i ≤ J → NM μ' i (nd σ e M (J - i))) → Q none μ') : Sp iX1_lookBack 3 [.ref 22, .ref 1, .int (nI e), .int (nI J)] μ Q := by
  refine Sp.of vX1_lookBack.1 (Nat.le_of_ble_eq_true rfl) ?_
  show WP cX1_lookBack (RX1, 8, none, 3, none) 0 [(0, .ref 22), (1, .ref 1), (2, .int (nI e)), (3, .int (nI J))] [] μ Q
  refine r_iload_n (pc := 0) dX1_lookBack_0 rfl ?_
  refine rn_if_lt (pc := 1) (tgt := 9) dX1_lookBack_1 (by decide) (by omega) ?_
  refine r_iload_n (pc := 4) dX1_lookBack_4 rfl ?_
  refine r_iconst (pc := 5) (v := (nI (5))) dX1_lookBack_5 (by decide) ?_
  refine rn_icmp_le (pc := 6) (tgt := 10) dX1_lookBack_6 (by decide) (by omega) (by omega) (fun c6 => ?_) (fun c6 => ?_)
  · refine r_iload_n (pc := 10) dX1_lookBack_10 rfl ?_
    refine r_istore (pc := 11) (ls' := [(0, .ref 22), (1, .ref 1), (2, .int (nI e)), (3, .int (nI J)), (4, .int (nI J))]) dX1_lookBack_11 (Nat.le_of_ble_eq_true rfl) rfl ?_
    have h9 := x_lb_o hX hO he hJ hM hMx h (J + 1) (J + 1) μ rfl (by omega) frH.rf rfl (fun i hi hi2 => absurd hi (by omega))
    skip
    exact h9
  · exact absurd c6 (by omega)

set_option maxRecDepth 20000 in
set_option maxHeartbeats 4000000 in
theorem x_ftd_l {μ : Mem} {σ : Sg} {c h0 t b0 : Nat} {g : Nat → Nat} {Q : Option Value → Mem → Prop} (hX : Xs μ σ) (hO : Ok σ) (hh : h0 ≤ 99000000) (ht : t + 1 ≤ 5) (hc : c < 8) (hN : NM μ (t + 1) g) (hgN : ∀ c, g c ≤ 1000000000) (hb0 : b0 < σ 0 0) (hbc : σ 1 b0 = c) (hbo : opn σ b0 = true) (hbg : g (σ 3 b0) ≤ hb σ b0 h0) (hfi : ∀ b', b' < b0 → σ 1 b' = c → opn σ b' = true → ¬ g (σ 3 b') ≤ hb σ b' h0) (h : Q (some (.int (nI b0))) μ) : ∀ (k : Nat) (b : Nat), b + k = b0 → b ≤ b0 → WP cX1_firstThatDoes (RX1, 6, (some .int), 3, none) 3 [(0, .ref 22), (1, .ref 1), (2, .int (nI c)), (3, .int (nI h0)), (4, .int (nI t)), (5, .int (nI b))] [] μ Q := by
  intro k
  induction k using Nat.strongRecOn with
  | _ k ih =>
    intro b hk0 hbb0
    have hn := Ok_n hO
    refine r_iload (pc := 3) dX1_firstThatDoes_3 rfl ?_
    refine r_aload_n (pc := 5) dX1_firstThatDoes_5 rfl ?_
    refine r_getI (pc := 6) (x := (nI (σ 0 0))) dX1_firstThatDoes_6 fX1_19 rfl rfl (Xs_n (μ := μ) hX) ?_
    refine rn_icmp_ge (pc := 9) (tgt := 68) dX1_firstThatDoes_9 (by decide) (by omega) (by omega) (fun c9 => ?_) (fun c9 => ?_)
    · exact absurd c9 (by omega)
    · have hbb := Ok_b hO (j := b) (by omega)
      refine r_aload_n (pc := 12) dX1_firstThatDoes_12 rfl ?_
      refine r_getR (pc := 13) (r := 2) dX1_firstThatDoes_13 fX1_25 rfl rfl ?_
      refine r_iload (pc := 16) dX1_firstThatDoes_16 rfl ?_
      refine r_iald (pc := 18) (x := (nI (σ 1 (b)))) dX1_firstThatDoes_18 rfl rfl (by omega) (Xs_1 (μ := μ) hX (by omega)) ?_
      have b1 := Ok_b hO (j := b) (by omega)
      refine r_iload_n (pc := 19) dX1_firstThatDoes_19 rfl ?_
      refine rn_icmp_ne (pc := 20) (tgt := 62) dX1_firstThatDoes_20 (by decide) (by omega) (by omega) (fun c20 => ?_) (fun c20 => ?_)
      · refine rn_iinc (pc := 62) (b := 1) (ls' := [(0, .ref 22), (1, .ref 1), (2, .int (nI c)), (3, .int (nI h0)), (4, .int (nI t)), (5, .int (nI (b + 1)))]) dX1_firstThatDoes_62 rfl (by decide) (Nat.le_of_ble_eq_true rfl) rfl ?_
        refine r_goto (pc := 65) (tgt := 3) dX1_firstThatDoes_65 (by decide) ?_
        have hne : ¬ b = b0 := fun q => c20 (by rw [q]; exact hbc)
        exact ih (k - 1) (by omega) (b + 1) (by omega) (by omega)
      · refine r_aload_n (pc := 23) dX1_firstThatDoes_23 rfl ?_
        refine r_iload (pc := 24) dX1_firstThatDoes_24 rfl ?_
        refine r_callV (pc := 26) (d' := 1) (k := 1) (As := [.int (nI b)]) (rest := []) dX1_firstThatDoes_26 vX0_isOpen mX1_32 rfl rfl rfl (Nat.le_of_ble_eq_true rfl) (Nat.le_of_ble_eq_true rfl) ?_
        refine c_xopen (μ := μ) hX hO (by omega) ?_
        refine rb_if_eq (pc := 29) (tgt := 62) dX1_firstThatDoes_29 (by decide) (fun c29 => ?_) (fun c29 => ?_)
        · refine rn_iinc (pc := 62) (b := 1) (ls' := [(0, .ref 22), (1, .ref 1), (2, .int (nI c)), (3, .int (nI h0)), (4, .int (nI t)), (5, .int (nI (b + 1)))]) dX1_firstThatDoes_62 rfl (by decide) (Nat.le_of_ble_eq_true rfl) rfl ?_
          refine r_goto (pc := 65) (tgt := 3) dX1_firstThatDoes_65 (by decide) ?_
          have hne : ¬ b = b0 := fun q => by rw [q, hbo] at c29; exact absurd c29 (by decide)
          exact ih (k - 1) (by omega) (b + 1) (by omega) (by omega)
        · refine r_aload_n (pc := 32) dX1_firstThatDoes_32 rfl ?_
          refine r_iload (pc := 33) dX1_firstThatDoes_33 rfl ?_
          refine r_iload_n (pc := 35) dX1_firstThatDoes_35 rfl ?_
          refine r_callV (pc := 36) (d' := 2) (k := 1) (As := [.int (nI b), .int (nI h0)]) (rest := []) dX1_firstThatDoes_36 vX0_heapBehind mX1_36 rfl rfl rfl (Nat.le_of_ble_eq_true rfl) (Nat.le_of_ble_eq_true rfl) ?_
          refine x_hb hX hO (by omega) (by omega) ?_
          have hbx := hb_le hO (b := b) (by omega) h0
          refine r_aload_n (pc := 39) dX1_firstThatDoes_39 rfl ?_
          refine r_getR (pc := 40) (r := 30) dX1_firstThatDoes_40 fX1_16 rfl rfl ?_
          refine r_iload (pc := 43) dX1_firstThatDoes_43 rfl ?_
          refine r_iconst (pc := 45) (v := (nI (1))) dX1_firstThatDoes_45 (by decide) ?_
          refine rn_iadd (pc := 46) dX1_firstThatDoes_46 ?_
          refine r_aald (pc := 47) dX1_firstThatDoes_47 rfl rfl (by omega) ?_
          refine r_aload_n (pc := 48) dX1_firstThatDoes_48 rfl ?_
          refine r_getR (pc := 49) (r := 4) dX1_firstThatDoes_49 fX1_29 rfl rfl ?_
          refine r_iload (pc := 52) dX1_firstThatDoes_52 rfl ?_
          refine r_iald (pc := 54) (x := (nI (σ 3 (b)))) dX1_firstThatDoes_54 rfl rfl (by omega) (Xs_3 (μ := μ) hX (by omega)) ?_
          have b2 := Ok_b hO (j := b) (by omega)
          refine r_iald (pc := 55) (x := (nI (g (σ 3 (b))))) dX1_firstThatDoes_55 (sh31 (by omega)) rfl (by omega) (hN _ (by omega)) ?_
          have hgl := hgN (σ 3 (b))
          refine rn_icmp_lt (pc := 56) (tgt := 62) dX1_firstThatDoes_56 (by decide) (by omega) (by omega) (fun c56 => ?_) (fun c56 => ?_)
          · refine rn_iinc (pc := 62) (b := 1) (ls' := [(0, .ref 22), (1, .ref 1), (2, .int (nI c)), (3, .int (nI h0)), (4, .int (nI t)), (5, .int (nI (b + 1)))]) dX1_firstThatDoes_62 rfl (by decide) (Nat.le_of_ble_eq_true rfl) rfl ?_
            refine r_goto (pc := 65) (tgt := 3) dX1_firstThatDoes_65 (by decide) ?_
            have hne : ¬ b = b0 := fun q => absurd c56 (by rw [q]; omega)
            exact ih (k - 1) (by omega) (b + 1) (by omega) (by omega)
          · refine r_iload (pc := 59) dX1_firstThatDoes_59 rfl ?_
            refine r_ireturn (pc := 61) dX1_firstThatDoes_61 rfl (Or.inl rfl) rfl ?_
            have hbe : b = b0 := by
              rcases Nat.lt_or_ge b b0 with q | q
              · exact absurd (by omega) (hfi b q c20 c29)
              · omega
            rw [hbe]
            exact h

set_option maxRecDepth 20000 in
set_option maxHeartbeats 4000000 in
theorem x_ftd {μ : Mem} {σ : Sg} {c h0 t b0 : Nat} {g : Nat → Nat} {Q : Option Value → Mem → Prop} (hX : Xs μ σ) (hO : Ok σ) (hh : h0 ≤ 99000000) (ht : t + 1 ≤ 5) (hc : c < 8) (hN : NM μ (t + 1) g) (hgN : ∀ c, g c ≤ 1000000000) (hb0 : b0 < σ 0 0) (hbc : σ 1 b0 = c) (hbo : opn σ b0 = true) (hbg : g (σ 3 b0) ≤ hb σ b0 h0) (hfi : ∀ b', b' < b0 → σ 1 b' = c → opn σ b' = true → ¬ g (σ 3 b') ≤ hb σ b' h0) (h : Q (some (.int (nI b0))) μ) : Sp iX1_firstThatDoes 3 [.ref 22, .ref 1, .int (nI c), .int (nI h0), .int (nI t)] μ Q := by
  refine Sp.of vX1_firstThatDoes.1 (Nat.le_of_ble_eq_true rfl) ?_
  show WP cX1_firstThatDoes (RX1, 6, (some .int), 3, none) 0 [(0, .ref 22), (1, .ref 1), (2, .int (nI c)), (3, .int (nI h0)), (4, .int (nI t))] [] μ Q
  refine r_iconst (pc := 0) (v := (nI (0))) dX1_firstThatDoes_0 (by decide) ?_
  refine r_istore (pc := 1) (ls' := [(0, .ref 22), (1, .ref 1), (2, .int (nI c)), (3, .int (nI h0)), (4, .int (nI t)), (5, .int (nI 0))]) dX1_firstThatDoes_1 (Nat.le_of_ble_eq_true rfl) rfl ?_
  exact x_ftd_l hX hO hh ht hc hN hgN hb0 hbc hbo hbg hfi h b0 0 (by omega) (by omega)

def lI (r : List Nat) (t : Nat) : Int32 := match t with
  | 0 => -6
  | k + 1 => nI (r.getD k 0)

set_option maxRecDepth 20000 in
set_option maxHeartbeats 4000000 in
theorem x_bow_l {μ : Mem} {σ : Sg} {s hs i e M : Nat} {r : List Nat} {Q : Option Value → Mem → Prop} (hX : Xs μ σ) (hO : Ok σ) (hJ : r.length ≤ 5) (hi : i < r.length) (hM : M ≤ 99000000) (hN : ∀ j, j ≤ r.length → NM μ j (nd σ e M (r.length - j))) (h : Q (some (.int (nI (r.getD i 0)))) μ) : ∀ (k : Nat) (t c h0 : Nat), t + k = i + 1 → t ≤ i + 1 → c < 8 → h0 ≤ 99000000 → gf σ e M (r.length - t) c h0 = some (r.drop t) → WP cX1_boardOnWay (RX1, 9, (some .int), 4, none) 13 [(0, .ref 22), (1, .ref 1), (2, .int (nI s)), (3, .int (nI hs)), (4, .int (nI i)), (5, .int (nI c)), (6, .int (nI h0)), (7, .int (lI r t)), (8, .int (nI t))] [] μ Q := by
  intro k
  induction k using Nat.strongRecOn with
  | _ k ih =>
    intro t c h0 htk hti hc hh0 hgf
    have hn := Ok_n hO
    refine r_iload (pc := 13) dX1_boardOnWay_13 rfl ?_
    refine r_iload (pc := 15) dX1_boardOnWay_15 rfl ?_
    refine rn_icmp_gt (pc := 17) (tgt := 72) dX1_boardOnWay_17 (by decide) (by omega) (by omega) (fun c17 => ?_) (fun c17 => ?_)
    · obtain rfl : t = i + 1 := by omega
      refine r_iload (pc := 72) dX1_boardOnWay_72 rfl ?_
      refine r_ireturn (pc := 74) dX1_boardOnWay_74 rfl (Or.inl rfl) rfl ?_
      exact h
    · obtain ⟨d, hd⟩ : ∃ d, r.length - t = d + 1 := ⟨r.length - t - 1, by omega⟩
      rw [hd] at hgf
      obtain ⟨b, r', hr, hb0, hbc, hr', hbf⟩ := gf_some hgf
      have hbg : nd σ e M (r.length - (t + 1)) (σ 3 b) ≤ hb σ b h0 := by
        rw [show r.length - (t + 1) = d by omega]
        exact (nd_iff hO (by show _ < 1000000000; omega) d _ _ (by have := hb_le hO (b := b) (by omega) h0; show _ < 1000000000; omega)).mpr (by rw [hr']; rfl)
      have hrb : r.getD t 0 = b := by
        have h7 : (r.drop t)[0]? = some b := by rw [hr]; rfl
        rw [List.getElem?_drop, Nat.add_zero] at h7
        rw [List.getD_eq_getElem?_getD, h7]; rfl
      have hdr : r' = r.drop (t + 1) := by
        have h8 : (r.drop t).tail = r.drop (t + 1) := by rw [List.tail_drop]
        rw [← h8, hr]; rfl
      refine r_iload (pc := 20) dX1_boardOnWay_20 rfl ?_
      refine r_iconst (pc := 22) (v := (nI (5))) dX1_boardOnWay_22 (by decide) ?_
      refine rn_icmp_ge (pc := 23) (tgt := 72) dX1_boardOnWay_23 (by decide) (by omega) (by omega) (fun c23 => ?_) (fun c23 => ?_)
      · exact absurd c23 (by omega)
      · refine r_aload_n (pc := 26) dX1_boardOnWay_26 rfl ?_
        refine r_aload_n (pc := 27) dX1_boardOnWay_27 rfl ?_
        refine r_iload (pc := 28) dX1_boardOnWay_28 rfl ?_
        refine r_iload (pc := 30) dX1_boardOnWay_30 rfl ?_
        refine r_iload (pc := 32) dX1_boardOnWay_32 rfl ?_
        refine r_callV (pc := 34) (d' := 3) (k := 22) (As := [.ref 1, .int (nI c), .int (nI h0), .int (nI t)]) (rest := []) dX1_boardOnWay_34 vX1_firstThatDoes mX1_64 rfl rfl rfl (Nat.le_of_ble_eq_true rfl) (Nat.le_of_ble_eq_true rfl) ?_
        refine x_ftd (b0 := b) (g := nd σ e M (r.length - (t + 1))) hX hO (by omega) (by omega) hc (hN (t + 1) (by omega)) (fun c => nd_le hO (by show _ ≤ 1000000000; omega) _ c) hb0 hbc.1 hbc.2 hbg (fun b' q1 q2 q3 q4 => ?_) ?_
        · have h5 := hbf b' q1 q2 q3
          have h6 := (nd_iff hO (e := e) (M := M) (by show _ < 1000000000; omega) (r.length - (t + 1)) (σ 3 b') (hb σ b' h0) (by have := hb_le hO (b := b') (by omega) h0; show _ < 1000000000; omega)).mp q4
          rw [show r.length - (t + 1) = d by omega] at h6
          rw [h6] at h5
          exact absurd h5 (by decide)
        refine r_istore (pc := 37) (ls' := [(0, .ref 22), (1, .ref 1), (2, .int (nI s)), (3, .int (nI hs)), (4, .int (nI i)), (5, .int (nI c)), (6, .int (nI h0)), (7, .int (nI b)), (8, .int (nI t))]) dX1_boardOnWay_37 (Nat.le_of_ble_eq_true rfl) rfl ?_
        refine r_iload (pc := 39) dX1_boardOnWay_39 rfl ?_
        refine rn_if_ge (pc := 41) (tgt := 47) dX1_boardOnWay_41 (by decide) (by omega) ?_
        refine r_aload_n (pc := 47) dX1_boardOnWay_47 rfl ?_
        refine r_iload (pc := 48) dX1_boardOnWay_48 rfl ?_
        refine r_iload (pc := 50) dX1_boardOnWay_50 rfl ?_
        refine r_callV (pc := 52) (d' := 2) (k := 1) (As := [.int (nI b), .int (nI h0)]) (rest := []) dX1_boardOnWay_52 vX0_heapBehind mX1_36 rfl rfl rfl (Nat.le_of_ble_eq_true rfl) (Nat.le_of_ble_eq_true rfl) ?_
        refine x_hb hX hO (by omega) (by omega) ?_
        refine r_istore (pc := 55) (ls' := [(0, .ref 22), (1, .ref 1), (2, .int (nI s)), (3, .int (nI hs)), (4, .int (nI i)), (5, .int (nI c)), (6, .int (nI (hb σ b h0))), (7, .int (nI b)), (8, .int (nI t))]) dX1_boardOnWay_55 (Nat.le_of_ble_eq_true rfl) rfl ?_
        refine r_aload_n (pc := 57) dX1_boardOnWay_57 rfl ?_
        refine r_getR (pc := 58) (r := 4) dX1_boardOnWay_58 fX1_29 rfl rfl ?_
        refine r_iload (pc := 61) dX1_boardOnWay_61 rfl ?_
        refine r_iald (pc := 63) (x := (nI (σ 3 (b)))) dX1_boardOnWay_63 rfl rfl (by omega) (Xs_3 (μ := μ) hX (by omega)) ?_
        have b1 := Ok_b hO (j := b) (by omega)
        refine r_istore (pc := 64) (ls' := [(0, .ref 22), (1, .ref 1), (2, .int (nI s)), (3, .int (nI hs)), (4, .int (nI i)), (5, .int (nI (σ 3 (b)))), (6, .int (nI (hb σ b h0))), (7, .int (nI b)), (8, .int (nI t))]) dX1_boardOnWay_64 (Nat.le_of_ble_eq_true rfl) rfl ?_
        refine rn_iinc (pc := 66) (b := 1) (ls' := [(0, .ref 22), (1, .ref 1), (2, .int (nI s)), (3, .int (nI hs)), (4, .int (nI i)), (5, .int (nI (σ 3 (b)))), (6, .int (nI (hb σ b h0))), (7, .int (nI b)), (8, .int (nI (t + 1)))]) dX1_boardOnWay_66 rfl (by decide) (Nat.le_of_ble_eq_true rfl) rfl ?_
        refine r_goto (pc := 69) (tgt := 13) dX1_boardOnWay_69 (by decide) ?_
        have e9 : nI b = lI r (t + 1) := by
          show nI b = nI (r.getD t 0)
          rw [hrb]
        rw [e9]
        skip
        refine ih (k - 1) (by omega) (t + 1) (σ 3 b) (hb σ b h0) (by omega) (by omega) (Ok_b hO (j := b) (by omega)).2.2.1 (by have := hb_le hO (b := b) (by omega) h0; omega) (by rw [show r.length - (t + 1) = d by omega, hr', hdr])

set_option maxRecDepth 20000 in
set_option maxHeartbeats 4000000 in
theorem x_bow {μ : Mem} {σ : Sg} {s hs i e M : Nat} {r : List Nat} {Q : Option Value → Mem → Prop} (hX : Xs μ σ) (hO : Ok σ) (hJ : r.length ≤ 5) (hi : i < r.length) (hM : M ≤ 99000000) (hN : ∀ j, j ≤ r.length → NM μ j (nd σ e M (r.length - j))) (h : Q (some (.int (nI (r.getD i 0)))) μ) (hs8 : s < 8) (hhs : hs ≤ 99000000) (hgf : gf σ e M r.length s hs = some r) : Sp iX1_boardOnWay 4 [.ref 22, .ref 1, .int (nI s), .int (nI hs), .int (nI i)] μ Q := by
  refine Sp.of vX1_boardOnWay.1 (Nat.le_of_ble_eq_true rfl) ?_
  show WP cX1_boardOnWay (RX1, 9, (some .int), 4, none) 0 [(0, .ref 22), (1, .ref 1), (2, .int (nI s)), (3, .int (nI hs)), (4, .int (nI i))] [] μ Q
  refine r_iload_n (pc := 0) dX1_boardOnWay_0 rfl ?_
  refine r_istore (pc := 1) (ls' := [(0, .ref 22), (1, .ref 1), (2, .int (nI s)), (3, .int (nI hs)), (4, .int (nI i)), (5, .int (nI s))]) dX1_boardOnWay_1 (Nat.le_of_ble_eq_true rfl) rfl ?_
  refine r_iload_n (pc := 3) dX1_boardOnWay_3 rfl ?_
  refine r_istore (pc := 4) (ls' := [(0, .ref 22), (1, .ref 1), (2, .int (nI s)), (3, .int (nI hs)), (4, .int (nI i)), (5, .int (nI s)), (6, .int (nI hs))]) dX1_boardOnWay_4 (Nat.le_of_ble_eq_true rfl) rfl ?_
  refine r_bipush (pc := 6) (v := (-6)) dX1_boardOnWay_6 (by decide) ?_
  refine r_istore (pc := 8) (ls' := [(0, .ref 22), (1, .ref 1), (2, .int (nI s)), (3, .int (nI hs)), (4, .int (nI i)), (5, .int (nI s)), (6, .int (nI hs)), (7, .int ((-6)))]) dX1_boardOnWay_8 (Nat.le_of_ble_eq_true rfl) rfl ?_
  refine r_iconst (pc := 10) (v := (nI (0))) dX1_boardOnWay_10 (by decide) ?_
  refine r_istore (pc := 11) (ls' := [(0, .ref 22), (1, .ref 1), (2, .int (nI s)), (3, .int (nI hs)), (4, .int (nI i)), (5, .int (nI s)), (6, .int (nI hs)), (7, .int ((-6))), (8, .int (nI 0))]) dX1_boardOnWay_11 (Nat.le_of_ble_eq_true rfl) rfl ?_
  exact x_bow_l hX hO hJ hi hM hN h (i + 1) 0 s hs (by omega) (by omega) hs8 hhs hgf
