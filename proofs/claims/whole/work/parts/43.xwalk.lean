/-! THE CLASS: walk -/
theorem setI_at (μ : Mem) (k j : Nat) (v : Int32) (a i : Nat) : (setI μ k j v).1 a i = if a = k ∧ i = j then v else μ.1 a i := by
  show (if a = k then upd (μ.1 k) j v else μ.1 a) i = _
  by_cases e : a = k
  · subst e
    rw [if_pos rfl, upd_at]
    by_cases q : i = j
    · rw [if_pos q, if_pos ⟨rfl, q⟩]
    · rw [if_neg q, if_neg (fun z => q z.2)]
  · rw [if_neg e, if_neg (fun z => e z.1)]
theorem sh24 {k : Nat} (h : k ≤ 5) : SHl[24 + k]? = some (.inl (0, 8, 0)) := by
  rcases (show k = 0 ∨ k = 1 ∨ k = 2 ∨ k = 3 ∨ k = 4 ∨ k = 5 by omega) with rfl | rfl | rfl | rfl | rfl | rfl <;> rfl
theorem sh31 {k : Nat} (h : k ≤ 5) : SHl[31 + k]? = some (.inl (0, 8, 0)) := by
  rcases (show k = 0 ∨ k = 1 ∨ k = 2 ∨ k = 3 ∨ k = 4 ∨ k = 5 by omega) with rfl | rfl | rfl | rfl | rfl | rfl <;> rfl
def frH (μ μ' : Mem) : Prop := (∀ k, ¬ (24 ≤ k ∧ k ≤ 29) → ¬ (31 ≤ k ∧ k ≤ 36) → μ'.1 k = μ.1 k) ∧ μ'.2 = μ.2
theorem frH.rf {μ : Mem} : frH μ μ := ⟨fun _ _ _ => rfl, rfl⟩
theorem frH.tr {μ μ' μ'' : Mem} (h : frH μ μ') (h' : frH μ' μ'') : frH μ μ'' := ⟨fun k a b => (h'.1 k a b).trans (h.1 k a b), h'.2.trans h.2⟩
theorem only.H {μ μ' : Mem} {k0 : Nat} (h : only k0 μ μ') (hk : (24 ≤ k0 ∧ k0 ≤ 29) ∨ (31 ≤ k0 ∧ k0 ≤ 36)) : frH μ μ' := ⟨fun k a b => h.1 k (by omega), h.2⟩
theorem frH.keep {μ μ' : Mem} (h : frH μ μ') : keepM μ μ' := fun k hk => ⟨h.1 k (by omega) (by omega), by rw [h.2]⟩
theorem Xs_frH {μ μ' : Mem} {σ : Sg} (h : frH μ μ') (hX : Xs μ σ) : Xs μ' σ := by
  unfold Xs
  rw [h.1 1 (by decide) (by decide), h.1 2 (by decide) (by decide), h.1 3 (by decide) (by decide), h.1 4 (by decide) (by decide), h.1 5 (by decide) (by decide), h.1 6 (by decide) (by decide), h.1 7 (by decide) (by decide), h.1 8 (by decide) (by decide), h.1 9 (by decide) (by decide), h.1 10 (by decide) (by decide), h.1 11 (by decide) (by decide), h.1 39 (by decide) (by decide)]
  exact hX
theorem XI_frH {μ μ' : Mem} {σ : Sg} (h : frH μ μ') (hI : XI μ σ) : XI μ' σ := by
  refine ⟨Xs_frH h hI.1, ?_⟩
  have hc := hI.2
  unfold Xc FoundOK SentOK at hc ⊢
  rw [h.2, h.1 12 (by decide) (by decide), h.1 15 (by decide) (by decide), h.1 16 (by decide) (by decide), h.1 37 (by decide) (by decide), h.1 38 (by decide) (by decide)]
  exact hc
def gI (o : Option Nat) : Int32 := match o with
  | none => -1
  | some x => nI x
theorem gI_neg {o : Option Nat} (hb : ∀ x, o = some x → x < 2 ^ 31) (h : gI o < 0) : o = none := by
  cases o with
  | none => rfl
  | some x =>
    have h1 : nI x < 0 := h
    rw [Int32.lt_iff_toInt_lt, nI_toInt (hb x rfl)] at h1
    simp at h1
    omega
theorem gI_pos {o : Option Nat} (h : ¬ gI o < 0) : ∃ x, o = some x := by
  cases o with
  | none => exact absurd (show (-1 : Int32) < 0 by decide) h
  | some x => exact ⟨x, rfl⟩
theorem gI_max {o : Option Nat} {y : Nat} (hb : ∀ x, o = some x → x < 2 ^ 31) (hy : y < 2 ^ 31) : (if gI o < nI y then nI y else gI o) = gI (omax o y) := by
  cases o with
  | none =>
    have : (-1 : Int32) < nI y := by rw [Int32.lt_iff_toInt_lt, nI_toInt hy]; show (-1 : Int) < _; omega
    exact if_pos this
  | some x => exact nI_max (hb x rfl) hy
/-- the row before any board is gone over -/
def t0 (s h k c : Nat) : Option Nat := if k = 0 ∧ c = s then some h else none
def GM (μ : Mem) (k : Nat) (t : Nat → Option Nat) : Prop := ∀ c, c < 8 → μ.1 (24 + k) c = gI (t c)
def NM (μ : Mem) (k : Nat) (t : Nat → Nat) : Prop := ∀ c, c < 8 → μ.1 (31 + k) c = nI (t c)

set_option maxRecDepth 20000 in
set_option maxHeartbeats 4000000 in
theorem x_wholes {μ : Mem} {σ : Sg} {b h0 : Nat} {Q : Option Value → Mem → Prop} (hX : Xs μ σ) (hO : Ok σ) (hb0 : b < σ 0 0) (hh : h0 < 2 ^ 31) (h : Q (some (.int (nI (Nat.min h0 (σ 7 b) / σ 2 b)))) μ) : Sp iX0_wholes 1 [.ref 1, .int (nI b), .int (nI h0)] μ Q := by
  refine Sp.of vX0_wholes.1 (Nat.le_of_ble_eq_true rfl) ?_
  show WP cX0_wholes (RX0, 3, (some .int), 1, none) 0 [(0, .ref 1), (1, .int (nI b)), (2, .int (nI h0))] [] μ Q
  have hn := Ok_n hO
  have hbp := Ok_p hO hb0
  refine r_aload_n (pc := 0) dX0_wholes_0 rfl ?_
  refine r_iload_n (pc := 1) dX0_wholes_1 rfl ?_
  refine r_callV (pc := 2) (d' := 0) (k := 1) (As := [.int (nI b)]) (rest := []) dX0_wholes_2 vX0_has mX0_41 rfl rfl rfl (Nat.le_of_ble_eq_true rfl) (Nat.le_of_ble_eq_true rfl) ?_
  refine c_has (μ := μ) hX hO ?_
  refine rb_if_eq (pc := 5) (tgt := 37) dX0_wholes_5 (by decide) (fun c5 => ?_) (fun c5 => ?_)
  · exact absurd c5 (by rw [isB_nat (by omega)]; simp; omega)
  · refine r_aload_n (pc := 8) dX0_wholes_8 rfl ?_
    refine r_getR (pc := 9) (r := 3) dX0_wholes_9 fX0_15 rfl rfl ?_
    refine r_iload_n (pc := 12) dX0_wholes_12 rfl ?_
    refine r_iald (pc := 13) (x := (nI (σ 2 (b)))) dX0_wholes_13 rfl rfl (by omega) (Xs_2 (μ := μ) hX (by omega)) ?_
    have b1 := Ok_b hO (j := b) (by omega)
    refine rn_if_le (pc := 14) (tgt := 37) dX0_wholes_14 (by decide) (by omega) (fun c14 => ?_) (fun c14 => ?_)
    · exact absurd c14 (by omega)
    · have hmr : Nat.min h0 (σ 7 b) ≤ σ 7 b := Nat.min_le_right _ _
      have hmb := (Ok_b hO (j := b) (by omega)).2.2.2.2.2.2
      refine r_iload_n (pc := 17) dX0_wholes_17 rfl ?_
      refine r_aload_n (pc := 18) dX0_wholes_18 rfl ?_
      refine r_getR (pc := 19) (r := 8) dX0_wholes_19 fX0_30 rfl rfl ?_
      refine r_iload_n (pc := 22) dX0_wholes_22 rfl ?_
      refine r_iald (pc := 23) (x := (nI (σ 7 (b)))) dX0_wholes_23 rfl rfl (by omega) (Xs_7 (μ := μ) hX (by omega)) ?_
      have b2 := Ok_b hO (j := b) (by omega)
      refine r_mmin (pc := 24) dX0_wholes_24 mX0_56 (Nat.le_of_ble_eq_true rfl) (Nat.le_of_ble_eq_true rfl) ?_
      refine r_eqi (nI_min (by omega) (by omega)) ?_
      refine r_aload_n (pc := 27) dX0_wholes_27 rfl ?_
      refine r_getR (pc := 28) (r := 3) dX0_wholes_28 fX0_15 rfl rfl ?_
      refine r_iload_n (pc := 31) dX0_wholes_31 rfl ?_
      refine r_iald (pc := 32) (x := (nI (σ 2 (b)))) dX0_wholes_32 rfl rfl (by omega) (Xs_2 (μ := μ) hX (by omega)) ?_
      have b3 := Ok_b hO (j := b) (by omega)
      refine rn_idiv (pc := 33) dX0_wholes_33 (by omega) (by omega) (by omega) ?_
      refine r_goto (pc := 34) (tgt := 38) dX0_wholes_34 (by decide) ?_
      refine r_ireturn (pc := 38) dX0_wholes_38 rfl (Or.inl rfl) rfl ?_
      exact h

set_option maxRecDepth 20000 in
set_option maxHeartbeats 4000000 in
theorem x_hb {μ : Mem} {σ : Sg} {b h0 : Nat} {Q : Option Value → Mem → Prop} (hX : Xs μ σ) (hO : Ok σ) (hb0 : b < σ 0 0) (hh : h0 < 2 ^ 31) (h : Q (some (.int (nI (hb σ b h0)))) μ) : Sp iX0_heapBehind 2 [.ref 1, .int (nI b), .int (nI h0)] μ Q := by
  refine Sp.of vX0_heapBehind.1 (Nat.le_of_ble_eq_true rfl) ?_
  show WP cX0_heapBehind (RX0, 3, (some .int), 2, none) 0 [(0, .ref 1), (1, .int (nI b)), (2, .int (nI h0))] [] μ Q
  have hn := Ok_n hO
  refine r_aload_n (pc := 0) dX0_heapBehind_0 rfl ?_
  refine r_iload_n (pc := 1) dX0_heapBehind_1 rfl ?_
  refine r_iload_n (pc := 2) dX0_heapBehind_2 rfl ?_
  refine r_callV (pc := 3) (d' := 1) (k := 1) (As := [.int (nI b), .int (nI h0)]) (rest := []) dX0_heapBehind_3 vX0_wholes mX0_61 rfl rfl rfl (Nat.le_of_ble_eq_true rfl) (Nat.le_of_ble_eq_true rfl) ?_
  refine x_wholes hX hO hb0 hh ?_
  refine r_aload_n (pc := 6) dX0_heapBehind_6 rfl ?_
  refine r_iload_n (pc := 7) dX0_heapBehind_7 rfl ?_
  refine r_callV (pc := 8) (d' := 1) (k := 1) (As := [.int (nI b)]) (rest := [.int (nI (Nat.min h0 (σ 7 b) / σ 2 b))]) dX0_heapBehind_8 vX0_upper mX0_64 rfl rfl rfl (Nat.le_of_ble_eq_true rfl) (Nat.le_of_ble_eq_true rfl) ?_
  refine c_xupper (μ := μ) hX hO (by omega) ?_
  refine rn_imul (pc := 11) dX0_heapBehind_11 ?_
  refine r_eqi (y := nI (hb σ b h0)) (by rw [hb_min]) ?_
  refine r_ireturn (pc := 12) dX0_heapBehind_12 rfl (Or.inl rfl) rfl ?_
  exact h

set_option maxRecDepth 20000 in
set_option maxHeartbeats 4000000 in
theorem x_ga_c {μ : Mem} {s h0 L t : Nat} {Q : Option Value → Mem → Prop} (hs : s < 8) (ht : t ≤ 5) (K : ∀ μ2, only (24 + t) μ μ2 → GM μ2 t (t0 s h0 t) → WP cX1_goAll (RX1, 9, none, 3, none) 58 [(0, .ref 22), (1, .ref 1), (2, .int (nI s)), (3, .int (nI h0)), (4, .int (nI L)), (5, .int (nI t))] [] μ2 Q) : ∀ (k : Nat) (c : Nat) (μ1 : Mem), c + k = 8 → only (24 + t) μ μ1 → (∀ j, j < c → μ1.1 (24 + t) j = gI (t0 s h0 t j)) → WP cX1_goAll (RX1, 9, none, 3, none) 19 [(0, .ref 22), (1, .ref 1), (2, .int (nI s)), (3, .int (nI h0)), (4, .int (nI L)), (5, .int (nI t)), (6, .int (nI c))] [] μ1 Q := by
  intro k
  induction k using Nat.strongRecOn with
  | _ k ih =>
    intro c μ1 hc ho hv
    refine r_iload (pc := 19) dX1_goAll_19 rfl ?_
    refine r_bipush (pc := 21) (v := (nI (8))) dX1_goAll_21 (by decide) ?_
    refine rn_icmp_ge (pc := 23) (tgt := 58) dX1_goAll_23 (by decide) (by omega) (by omega) (fun c23 => ?_) (fun c23 => ?_)
    · refine r_pick (ls' := [(0, .ref 22), (1, .ref 1), (2, .int (nI s)), (3, .int (nI h0)), (4, .int (nI L)), (5, .int (nI t))]) [0, 1, 2, 3, 4, 5] rfl ?_
      exact K μ1 ho (fun j hj => hv j (by omega))
    · refine r_aload_n (pc := 26) dX1_goAll_26 rfl ?_
      refine r_getR (pc := 27) (r := 23) dX1_goAll_27 fX1_11 rfl rfl ?_
      refine r_iload (pc := 30) dX1_goAll_30 rfl ?_
      refine r_aald (pc := 32) dX1_goAll_32 rfl rfl (by omega) ?_
      refine r_iload (pc := 33) dX1_goAll_33 rfl ?_
      refine r_iload (pc := 35) dX1_goAll_35 rfl ?_
      refine rn_if_ne (pc := 37) (tgt := 50) dX1_goAll_37 (by decide) (by omega) (fun c37 => ?_) (fun c37 => ?_)
      · refine r_iconst (pc := 50) (v := (-1)) dX1_goAll_50 (by decide) ?_
        refine r_iast (pc := 51) dX1_goAll_51 (sh24 (by omega)) rfl (by omega) ?_
        refine rn_iinc (pc := 52) (b := 1) (ls' := [(0, .ref 22), (1, .ref 1), (2, .int (nI s)), (3, .int (nI h0)), (4, .int (nI L)), (5, .int (nI t)), (6, .int (nI (c + 1)))]) dX1_goAll_52 rfl (by decide) (Nat.le_of_ble_eq_true rfl) rfl ?_
        refine r_goto (pc := 55) (tgt := 19) dX1_goAll_55 (by decide) ?_
        refine ih (k - 1) (by omega) (c + 1) _ (by omega) ho.s (fun j hj => ?_)
        rw [setI_at]
        by_cases e : j = c
        · subst e; rw [if_pos ⟨rfl, rfl⟩, show t0 s h0 t j = _ from (if_neg (fun z => c37 z.1))]; rfl
        · rw [if_neg (fun z => e z.2)]; exact hv j (by omega)
      · refine r_iload (pc := 40) dX1_goAll_40 rfl ?_
        refine r_iload_n (pc := 42) dX1_goAll_42 rfl ?_
        refine rn_icmp_ne (pc := 43) (tgt := 50) dX1_goAll_43 (by decide) (by omega) (by omega) (fun c43 => ?_) (fun c43 => ?_)
        · refine r_iconst (pc := 50) (v := (-1)) dX1_goAll_50 (by decide) ?_
          refine r_iast (pc := 51) dX1_goAll_51 (sh24 (by omega)) rfl (by omega) ?_
          refine rn_iinc (pc := 52) (b := 1) (ls' := [(0, .ref 22), (1, .ref 1), (2, .int (nI s)), (3, .int (nI h0)), (4, .int (nI L)), (5, .int (nI t)), (6, .int (nI (c + 1)))]) dX1_goAll_52 rfl (by decide) (Nat.le_of_ble_eq_true rfl) rfl ?_
          refine r_goto (pc := 55) (tgt := 19) dX1_goAll_55 (by decide) ?_
          refine ih (k - 1) (by omega) (c + 1) _ (by omega) ho.s (fun j hj => ?_)
          rw [setI_at]
          by_cases e : j = c
          · subst e; rw [if_pos ⟨rfl, rfl⟩, show t0 s h0 t j = _ from (if_neg (fun z => c43 z.2))]; rfl
          · rw [if_neg (fun z => e z.2)]; exact hv j (by omega)
        · refine r_iload_n (pc := 46) dX1_goAll_46 rfl ?_
          refine r_goto (pc := 47) (tgt := 51) dX1_goAll_47 (by decide) ?_
          refine r_iast (pc := 51) dX1_goAll_51 (sh24 (by omega)) rfl (by omega) ?_
          refine rn_iinc (pc := 52) (b := 1) (ls' := [(0, .ref 22), (1, .ref 1), (2, .int (nI s)), (3, .int (nI h0)), (4, .int (nI L)), (5, .int (nI t)), (6, .int (nI (c + 1)))]) dX1_goAll_52 rfl (by decide) (Nat.le_of_ble_eq_true rfl) rfl ?_
          refine r_goto (pc := 55) (tgt := 19) dX1_goAll_55 (by decide) ?_
          refine ih (k - 1) (by omega) (c + 1) _ (by omega) ho.s (fun j hj => ?_)
          rw [setI_at]
          by_cases e : j = c
          · subst e; rw [if_pos ⟨rfl, rfl⟩, show t0 s h0 t j = _ from (if_pos ⟨c37, c43⟩)]; rfl
          · rw [if_neg (fun z => e z.2)]; exact hv j (by omega)

set_option maxRecDepth 20000 in
set_option maxHeartbeats 4000000 in
theorem x_ga_b {μ : Mem} {σ : Sg} {s h0 L m : Nat} {Q : Option Value → Mem → Prop} (hX : Xs μ σ) (hO : Ok σ) (hh : h0 ≤ 1000000) (hm : m + 1 ≤ 5) (hp : GM μ m (gt σ s h0 m)) (K : ∀ μ2, only (24 + (m + 1)) μ μ2 → GM μ2 (m + 1) (gt σ s h0 (m + 1)) → WP cX1_goAll (RX1, 9, none, 3, none) 154 [(0, .ref 22), (1, .ref 1), (2, .int (nI s)), (3, .int (nI h0)), (4, .int (nI L)), (5, .int (nI (m + 1)))] [] μ2 Q) : ∀ (k : Nat) (b : Nat) (μ1 : Mem), b + k = σ 0 0 → only (24 + (m + 1)) μ μ1 → GM μ1 (m + 1) (gtP σ (gt σ s h0 m) b) → WP cX1_goAll (RX1, 9, none, 3, none) 61 [(0, .ref 22), (1, .ref 1), (2, .int (nI s)), (3, .int (nI h0)), (4, .int (nI L)), (5, .int (nI (m + 1))), (6, .int (nI b))] [] μ1 Q := by
  intro k
  induction k using Nat.strongRecOn with
  | _ k ih =>
    intro b μ1 hb1 ho hv
    have hn := Ok_n hO
    have hX1 := Xs_frH (only.H ho (by omega)) hX
    refine r_iload (pc := 61) dX1_goAll_61 rfl ?_
    refine rn_if_le (pc := 63) (tgt := 154) dX1_goAll_63 (by decide) (by omega) (fun c63 => ?_) (fun c63 => ?_)
    · exact absurd c63 (by omega)
    · refine r_iload (pc := 66) dX1_goAll_66 rfl ?_
      refine r_aload_n (pc := 68) dX1_goAll_68 rfl ?_
      refine r_getI (pc := 69) (x := (nI (σ 0 0))) dX1_goAll_69 fX1_19 rfl rfl (Xs_n (μ := μ1) hX1) ?_
      refine rn_icmp_ge (pc := 72) (tgt := 154) dX1_goAll_72 (by decide) (by omega) (by omega) (fun c72 => ?_) (fun c72 => ?_)
      · obtain rfl : b = σ 0 0 := by omega
        refine r_pick (ls' := [(0, .ref 22), (1, .ref 1), (2, .int (nI s)), (3, .int (nI h0)), (4, .int (nI L)), (5, .int (nI (m + 1)))]) [0, 1, 2, 3, 4, 5] rfl ?_
        exact K μ1 ho hv
      · have hbb := Ok_b hO (j := b) (by omega)
        refine r_aload_n (pc := 75) dX1_goAll_75 rfl ?_
        refine r_getR (pc := 76) (r := 23) dX1_goAll_76 fX1_11 rfl rfl ?_
        refine r_iload (pc := 79) dX1_goAll_79 rfl ?_
        refine r_iconst (pc := 81) (v := (nI (1))) dX1_goAll_81 (by decide) ?_
        refine rn_isub (pc := 82) dX1_goAll_82 (by omega) ?_
        refine r_eqi (y := nI m) rfl ?_
        refine r_aald (pc := 83) dX1_goAll_83 rfl rfl (by omega) ?_
        refine r_aload_n (pc := 84) dX1_goAll_84 rfl ?_
        refine r_getR (pc := 85) (r := 2) dX1_goAll_85 fX1_25 rfl rfl ?_
        refine r_iload (pc := 88) dX1_goAll_88 rfl ?_
        refine r_iald (pc := 90) (x := (nI (σ 1 (b)))) dX1_goAll_90 rfl rfl (by omega) (Xs_1 (μ := μ1) hX1 (by omega)) ?_
        have b1 := Ok_b hO (j := b) (by omega)
        refine r_iald (pc := 91) (x := gI (gt σ s h0 m (σ 1 (b)))) dX1_goAll_91 (sh24 (by omega)) rfl (by omega) ((by show μ1.1 (24 + m) _ = _; rw [ho.1 (24 + m) (by omega)]; exact hp _ (by omega))) ?_
        refine r_istore (pc := 92) (ls' := [(0, .ref 22), (1, .ref 1), (2, .int (nI s)), (3, .int (nI h0)), (4, .int (nI L)), (5, .int (nI (m + 1))), (6, .int (nI b)), (7, .int (gI (gt σ s h0 m (σ 1 (b)))))]) dX1_goAll_92 (Nat.le_of_ble_eq_true rfl) rfl ?_
        refine r_aload_n (pc := 94) dX1_goAll_94 rfl ?_
        refine r_getR (pc := 95) (r := 4) dX1_goAll_95 fX1_29 rfl rfl ?_
        refine r_iload (pc := 98) dX1_goAll_98 rfl ?_
        refine r_iald (pc := 100) (x := (nI (σ 3 (b)))) dX1_goAll_100 rfl rfl (by omega) (Xs_3 (μ := μ1) hX1 (by omega)) ?_
        have b2 := Ok_b hO (j := b) (by omega)
        refine r_istore (pc := 101) (ls' := [(0, .ref 22), (1, .ref 1), (2, .int (nI s)), (3, .int (nI h0)), (4, .int (nI L)), (5, .int (nI (m + 1))), (6, .int (nI b)), (7, .int (gI (gt σ s h0 m (σ 1 (b))))), (8, .int (nI (σ 3 (b))))]) dX1_goAll_101 (Nat.le_of_ble_eq_true rfl) rfl ?_
        refine r_iload (pc := 103) dX1_goAll_103 rfl ?_
        refine r_if_lt (pc := 105) (tgt := 148) dX1_goAll_105 (by decide) (fun c105 => ?_) (fun c105 => ?_)
        · have hno : gt σ s h0 m (σ 1 b) = none := gI_neg (fun x hx => by have := gt_le hO hh hx; omega) c105
          refine rn_iinc (pc := 148) (b := 1) (ls' := [(0, .ref 22), (1, .ref 1), (2, .int (nI s)), (3, .int (nI h0)), (4, .int (nI L)), (5, .int (nI (m + 1))), (6, .int (nI (b + 1))), (7, .int (gI (gt σ s h0 m (σ 1 (b))))), (8, .int (nI (σ 3 (b))))]) dX1_goAll_148 rfl (by decide) (Nat.le_of_ble_eq_true rfl) rfl ?_
          refine r_goto (pc := 151) (tgt := 61) dX1_goAll_151 (by decide) ?_
          refine r_pick (ls' := [(0, .ref 22), (1, .ref 1), (2, .int (nI s)), (3, .int (nI h0)), (4, .int (nI L)), (5, .int (nI (m + 1))), (6, .int (nI (b + 1)))]) [0, 1, 2, 3, 4, 5, 6] rfl ?_
          refine ih (k - 1) (by omega) (b + 1) μ1 (by omega) ho (fun j hj => ?_)
          rw [hv j hj]
          have e9 : gtP σ (gt σ s h0 m) (b + 1) = gtP σ (gt σ s h0 m) b := by show gt1 σ _ _ b = _; unfold gt1; rw [hno]
          rw [e9]
        · obtain ⟨x, hx⟩ := gI_pos c105
          rw [hx]
          have hxl := gt_le hO hh hx
          have hbx := hb_le hO (b := b) (by omega) x
          refine r_aload_n (pc := 108) dX1_goAll_108 rfl ?_
          refine r_iload (pc := 109) dX1_goAll_109 rfl ?_
          refine r_callV (pc := 111) (d' := 1) (k := 1) (As := [.int (nI b)]) (rest := []) dX1_goAll_111 vX0_isOpen mX1_32 rfl rfl rfl (Nat.le_of_ble_eq_true rfl) (Nat.le_of_ble_eq_true rfl) ?_
          refine c_xopen (μ := μ1) hX1 hO (by omega) ?_
          refine rb_if_eq (pc := 114) (tgt := 148) dX1_goAll_114 (by decide) (fun c114 => ?_) (fun c114 => ?_)
          · refine rn_iinc (pc := 148) (b := 1) (ls' := [(0, .ref 22), (1, .ref 1), (2, .int (nI s)), (3, .int (nI h0)), (4, .int (nI L)), (5, .int (nI (m + 1))), (6, .int (nI (b + 1))), (7, .int (nI x)), (8, .int (nI (σ 3 (b))))]) dX1_goAll_148 rfl (by decide) (Nat.le_of_ble_eq_true rfl) rfl ?_
            refine r_goto (pc := 151) (tgt := 61) dX1_goAll_151 (by decide) ?_
            refine r_pick (ls' := [(0, .ref 22), (1, .ref 1), (2, .int (nI s)), (3, .int (nI h0)), (4, .int (nI L)), (5, .int (nI (m + 1))), (6, .int (nI (b + 1)))]) [0, 1, 2, 3, 4, 5, 6] rfl ?_
            refine ih (k - 1) (by omega) (b + 1) μ1 (by omega) ho (fun j hj => ?_)
            rw [hv j hj]
            have e9 : gtP σ (gt σ s h0 m) (b + 1) = gtP σ (gt σ s h0 m) b := by show gt1 σ _ _ b = _; unfold gt1; rw [hx]; dsimp only; rw [if_neg (by rw [c114]; decide)]
            rw [e9]
          · refine r_aload_n (pc := 117) dX1_goAll_117 rfl ?_
            refine r_getR (pc := 118) (r := 23) dX1_goAll_118 fX1_11 rfl rfl ?_
            refine r_iload (pc := 121) dX1_goAll_121 rfl ?_
            refine r_aald (pc := 123) dX1_goAll_123 rfl rfl (by omega) ?_
            refine r_iload (pc := 124) dX1_goAll_124 rfl ?_
            refine r_aload_n (pc := 126) dX1_goAll_126 rfl ?_
            refine r_getR (pc := 127) (r := 23) dX1_goAll_127 fX1_11 rfl rfl ?_
            refine r_iload (pc := 130) dX1_goAll_130 rfl ?_
            refine r_aald (pc := 132) dX1_goAll_132 rfl rfl (by omega) ?_
            refine r_iload (pc := 133) dX1_goAll_133 rfl ?_
            refine r_iald (pc := 135) (x := gI (gtP σ (gt σ s h0 m) b (σ 3 (b)))) dX1_goAll_135 (sh24 (by omega)) rfl (by omega) (hv _ (by omega)) ?_
            refine r_aload_n (pc := 136) dX1_goAll_136 rfl ?_
            refine r_iload (pc := 137) dX1_goAll_137 rfl ?_
            refine r_iload (pc := 139) dX1_goAll_139 rfl ?_
            refine r_callV (pc := 141) (d' := 2) (k := 1) (As := [.int (nI b), .int (nI x)]) (rest := [.int (gI (gtP σ (gt σ s h0 m) b (σ 3 (b)))), .int (nI (σ 3 (b))), .ref (24 + (m + 1))]) dX1_goAll_141 vX0_heapBehind mX1_36 rfl rfl rfl (Nat.le_of_ble_eq_true rfl) (Nat.le_of_ble_eq_true rfl) ?_
            refine x_hb hX1 hO (by omega) (by omega) ?_
            refine r_mmax (pc := 144) dX1_goAll_144 mX1_40 (Nat.le_of_ble_eq_true rfl) (Nat.le_of_ble_eq_true rfl) ?_
            refine r_iast (pc := 147) dX1_goAll_147 (sh24 (by omega)) rfl (by omega) ?_
            refine rn_iinc (pc := 148) (b := 1) (ls' := [(0, .ref 22), (1, .ref 1), (2, .int (nI s)), (3, .int (nI h0)), (4, .int (nI L)), (5, .int (nI (m + 1))), (6, .int (nI (b + 1))), (7, .int (nI x)), (8, .int (nI (σ 3 (b))))]) dX1_goAll_148 rfl (by decide) (Nat.le_of_ble_eq_true rfl) rfl ?_
            refine r_goto (pc := 151) (tgt := 61) dX1_goAll_151 (by decide) ?_
            refine r_pick (ls' := [(0, .ref 22), (1, .ref 1), (2, .int (nI s)), (3, .int (nI h0)), (4, .int (nI L)), (5, .int (nI (m + 1))), (6, .int (nI (b + 1)))]) [0, 1, 2, 3, 4, 5, 6] rfl ?_
            refine ih (k - 1) (by omega) (b + 1) _ (by omega) ho.s (fun j hj => ?_)
            have e9 : gtP σ (gt σ s h0 m) (b + 1) = updO (gtP σ (gt σ s h0 m) b) (σ 3 b) (omax (gtP σ (gt σ s h0 m) b (σ 3 b)) (hb σ b x)) := by show gt1 σ _ _ b = _; unfold gt1; rw [hx]; dsimp only; rw [if_pos c114]
            rw [e9, setI_at]
            unfold updO
            by_cases e : j = σ 3 b
            · subst e; rw [if_pos ⟨rfl, rfl⟩, if_pos rfl]
              exact gI_max (fun y hy => by obtain ⟨b1, y1, q1, q2, q3, q4, q5⟩ := gtP_sound _ _ _ hy; rw [q5]; have := hb_le hO (b := b1) (by omega) y1; omega) (by omega)
            · rw [if_neg (fun z => e z.2), if_neg e]; exact hv j hj

set_option maxRecDepth 20000 in
set_option maxHeartbeats 4000000 in
theorem x_ga_o {μ : Mem} {σ : Sg} {s h0 L : Nat} {Q : Option Value → Mem → Prop} (hX : Xs μ σ) (hO : Ok σ) (hs : s < 8) (hh : h0 ≤ 1000000) (hL : L ≤ 5) (h : ∀ μ', frH μ μ' → (∀ i, i ≤ L → GM μ' i (gt σ s h0 i)) → Q none μ') : ∀ (k : Nat) (t : Nat) (μ1 : Mem), t + k = L + 1 → frH μ μ1 → (∀ i, i < t → GM μ1 i (gt σ s h0 i)) → WP cX1_goAll (RX1, 9, none, 3, none) 3 [(0, .ref 22), (1, .ref 1), (2, .int (nI s)), (3, .int (nI h0)), (4, .int (nI L)), (5, .int (nI t))] [] μ1 Q := by
  intro k
  induction k using Nat.strongRecOn with
  | _ k ih =>
    intro t μ1 htk hf1 hv
    have hn := Ok_n hO
    refine r_iload (pc := 3) dX1_goAll_3 rfl ?_
    refine r_iload (pc := 5) dX1_goAll_5 rfl ?_
    refine rn_icmp_gt (pc := 7) (tgt := 160) dX1_goAll_7 (by decide) (by omega) (by omega) (fun c7 => ?_) (fun c7 => ?_)
    · refine r_return (pc := 160) dX1_goAll_160 rfl ?_
      exact h μ1 hf1 (fun i hi => hv i (by omega))
    · refine r_iload (pc := 10) dX1_goAll_10 rfl ?_
      refine r_iconst (pc := 12) (v := (nI (5))) dX1_goAll_12 (by decide) ?_
      refine rn_icmp_gt (pc := 13) (tgt := 160) dX1_goAll_13 (by decide) (by omega) (by omega) (fun c13 => ?_) (fun c13 => ?_)
      · exact absurd c13 (by omega)
      · refine r_iconst (pc := 16) (v := (nI (0))) dX1_goAll_16 (by decide) ?_
        refine r_istore (pc := 17) (ls' := [(0, .ref 22), (1, .ref 1), (2, .int (nI s)), (3, .int (nI h0)), (4, .int (nI L)), (5, .int (nI t)), (6, .int (nI 0))]) dX1_goAll_17 (Nat.le_of_ble_eq_true rfl) rfl ?_
        refine x_ga_c hs (by omega) (fun μ2 ho2 hv2 => ?_) 8 0 μ1 (by omega) only.rf (fun j hj => absurd hj (Nat.not_lt_zero j))
        have hf2 := hf1.tr (only.H ho2 (by omega))
        have hold : ∀ i, i < t → GM μ2 i (gt σ s h0 i) := fun i hi c hc => by rw [ho2.1 (24 + i) (by omega)]; exact hv i hi c hc
        rcases Nat.eq_zero_or_pos t with ht0 | ht0
        · subst ht0
          refine r_iconst (pc := 58) (v := (nI (0))) dX1_goAll_58 (by decide) ?_
          refine r_istore (pc := 59) (ls' := [(0, .ref 22), (1, .ref 1), (2, .int (nI s)), (3, .int (nI h0)), (4, .int (nI L)), (5, .int (nI 0)), (6, .int (nI 0))]) dX1_goAll_59 (Nat.le_of_ble_eq_true rfl) rfl ?_
          refine r_iload (pc := 61) dX1_goAll_61 rfl ?_
          refine rn_if_le (pc := 63) (tgt := 154) dX1_goAll_63 (by decide) (by decide) (fun _ => ?_) (fun q => absurd q (by decide))
          refine rn_iinc (pc := 154) (b := 1) (ls' := [(0, .ref 22), (1, .ref 1), (2, .int (nI s)), (3, .int (nI h0)), (4, .int (nI L)), (5, .int (nI (0 + 1))), (6, .int (nI 0))]) dX1_goAll_154 rfl (by decide) (Nat.le_of_ble_eq_true rfl) rfl ?_
          refine r_goto (pc := 157) (tgt := 3) dX1_goAll_157 (by decide) ?_
          refine r_pick (ls' := [(0, .ref 22), (1, .ref 1), (2, .int (nI s)), (3, .int (nI h0)), (4, .int (nI L)), (5, .int (nI (0 + 1)))]) [0, 1, 2, 3, 4, 5] rfl ?_
          refine ih (k - 1) (by omega) 1 μ2 (by omega) hf2 (fun i hi => ?_)
          obtain rfl : i = 0 := by omega
          intro c hc
          rw [hv2 c hc]
          congr 1
          unfold t0 gt
          by_cases e : c = s
          · rw [if_pos ⟨rfl, e⟩, if_pos e]
          · rw [if_neg (fun z => e z.2), if_neg e]
        · obtain ⟨m, rfl⟩ : ∃ m, t = m + 1 := ⟨t - 1, by omega⟩
          refine r_iconst (pc := 58) (v := (nI (0))) dX1_goAll_58 (by decide) ?_
          refine r_istore (pc := 59) (ls' := [(0, .ref 22), (1, .ref 1), (2, .int (nI s)), (3, .int (nI h0)), (4, .int (nI L)), (5, .int (nI (m + 1))), (6, .int (nI 0))]) dX1_goAll_59 (Nat.le_of_ble_eq_true rfl) rfl ?_
          refine x_ga_b (Xs_frH hf2 hX) hO hh (by omega) (hold m (by omega)) (fun μ3 ho3 hv3 => ?_) (σ 0 0) 0 μ2 (by omega) only.rf ?_
          · refine rn_iinc (pc := 154) (b := 1) (ls' := [(0, .ref 22), (1, .ref 1), (2, .int (nI s)), (3, .int (nI h0)), (4, .int (nI L)), (5, .int (nI (m + 1 + 1)))]) dX1_goAll_154 rfl (by decide) (Nat.le_of_ble_eq_true rfl) rfl ?_
            refine r_goto (pc := 157) (tgt := 3) dX1_goAll_157 (by decide) ?_
            refine ih (k - 1) (by omega) (m + 1 + 1) μ3 (by omega) (hf2.tr (only.H ho3 (by omega))) (fun i hi => ?_)
            by_cases e : i = m + 1
            · rw [e]; exact hv3
            · intro c hc; rw [ho3.1 (24 + i) (by omega)]; exact hold i (by omega) c hc
          · intro c hc; rw [hv2 c hc]; exact congrArg gI (if_neg (fun z => absurd z.1 (by omega)))

set_option maxRecDepth 20000 in
set_option maxHeartbeats 4000000 in
theorem x_goAll {μ : Mem} {σ : Sg} {s h0 L : Nat} {Q : Option Value → Mem → Prop} (hX : Xs μ σ) (hO : Ok σ) (hs : s < 8) (hh : h0 ≤ 1000000) (hL : L ≤ 5) (h : ∀ μ', frH μ μ' → (∀ i, i ≤ L → GM μ' i (gt σ s h0 i)) → Q none μ') : Sp iX1_goAll 3 [.ref 22, .ref 1, .int (nI s), .int (nI h0), .int (nI L)] μ Q := by
  refine Sp.of vX1_goAll.1 (Nat.le_of_ble_eq_true rfl) ?_
  show WP cX1_goAll (RX1, 9, none, 3, none) 0 [(0, .ref 22), (1, .ref 1), (2, .int (nI s)), (3, .int (nI h0)), (4, .int (nI L))] [] μ Q
  refine r_iconst (pc := 0) (v := (nI (0))) dX1_goAll_0 (by decide) ?_
  refine r_istore (pc := 1) (ls' := [(0, .ref 22), (1, .ref 1), (2, .int (nI s)), (3, .int (nI h0)), (4, .int (nI L)), (5, .int (nI 0))]) dX1_goAll_1 (Nat.le_of_ble_eq_true rfl) rfl ?_
  exact x_ga_o hX hO hs hh hL h (L + 1) 0 μ (by omega) frH.rf (fun i hi => absurd hi (Nat.not_lt_zero i))

def bI (o : Option (Nat × Nat)) : Int32 := match o with
  | none => -1
  | some q => nI q.1
def mI (o : Option (Nat × Nat)) : Int32 := match o with
  | none => -1
  | some q => nI q.2
theorem bs_le {f : Nat → Option Nat} {k : Nat} (hf : ∀ i x, f i = some x → x < 2 ^ 31) (h : gI (f k) ≤ mI (bsF f k)) : bsF f (k + 1) = bsF f k := by
  show (match f k with
    | none => bsF f k
    | some x => match bsF f k with
      | none => some (k, x)
      | some q => if q.2 < x then some (k, x) else some q) = _
  cases e : f k with
  | none => rfl
  | some x =>
    rw [e] at h
    cases eb : bsF f k with
    | none =>
      rw [eb] at h
      have h1 : nI x ≤ -1 := h
      rw [Int32.le_iff_toInt_le, nI_toInt (hf k x e)] at h1
      have : ((-1 : Int32)).toInt = -1 := by decide
      omega
    | some q =>
      rw [eb] at h
      have hq := ((bsF_spec f k).2 q eb).2.1
      have h1 : nI x ≤ nI q.2 := h
      have h2 := (nI_leI (hf k x e) (hf _ _ hq)).mp h1
      exact if_neg (by omega)
theorem bs_gt {f : Nat → Option Nat} {k : Nat} (hf : ∀ i x, f i = some x → x < 2 ^ 31) (h : ¬ gI (f k) ≤ mI (bsF f k)) : ∃ x, f k = some x ∧ bsF f (k + 1) = some (k, x) := by
  cases e : f k with
  | none =>
    rw [e] at h
    cases eb : bsF f k with
    | none => rw [eb] at h; exact absurd (show (-1 : Int32) ≤ -1 by decide) h
    | some q =>
      rw [eb] at h
      have hq := ((bsF_spec f k).2 q eb).2.1
      have h1 : (-1 : Int32) ≤ nI q.2 := by
        rw [Int32.le_iff_toInt_le, nI_toInt (hf _ _ hq)]
        have : ((-1 : Int32)).toInt = -1 := by decide
        omega
      exact absurd h1 h
  | some x =>
    refine ⟨x, rfl, ?_⟩
    show (match f k with
      | none => bsF f k
      | some x => match bsF f k with
        | none => some (k, x)
        | some q => if q.2 < x then some (k, x) else some q) = _
    rw [e] at h ⊢
    cases eb : bsF f k with
    | none => rfl
    | some q =>
      rw [eb] at h
      have hq := ((bsF_spec f k).2 q eb).2.1
      have h1 : ¬ nI x ≤ nI q.2 := h
      have h2 : ¬ x ≤ q.2 := fun z => h1 ((nI_leI (hf k x e) (hf _ _ hq)).mpr z)
      exact if_pos (by omega)

set_option maxRecDepth 20000 in
set_option maxHeartbeats 4000000 in
theorem x_bs_l {μ : Mem} {σ : Sg} {s h0 L e : Nat} {Q : Option Value → Mem → Prop} (hO : Ok σ) (hh : h0 ≤ 1000000) (hL : L ≤ 5) (he : e < 8) (hg : ∀ i, i ≤ L → GM μ i (gt σ s h0 i)) (h : Q (some (.int (bI (bsF (fun i => gt σ s h0 i e) (L + 1))))) μ) : ∀ (k : Nat) (t : Nat), t + k = L + 1 → WP cX1_bestSteps (RX1, 6, (some .int), 0, none) 8 [(0, .ref 22), (1, .int (nI e)), (2, .int (nI L)), (3, .int (bI (bsF (fun i => gt σ s h0 i e) t))), (4, .int (mI (bsF (fun i => gt σ s h0 i e) t))), (5, .int (nI t))] [] μ Q := by
  intro k
  induction k using Nat.strongRecOn with
  | _ k ih =>
    intro t htk
    have hfb : ∀ i x, (fun i => gt σ s h0 i e) i = some x → x < 2 ^ 31 := fun i x hx => by have := gt_le hO hh hx; omega
    refine r_iload (pc := 8) dX1_bestSteps_8 rfl ?_
    refine r_iload_n (pc := 10) dX1_bestSteps_10 rfl ?_
    refine rn_icmp_gt (pc := 11) (tgt := 54) dX1_bestSteps_11 (by decide) (by omega) (by omega) (fun c11 => ?_) (fun c11 => ?_)
    · obtain rfl : t = L + 1 := by omega
      refine r_iload_n (pc := 54) dX1_bestSteps_54 rfl ?_
      refine r_ireturn (pc := 55) dX1_bestSteps_55 rfl (Or.inl rfl) rfl ?_
      exact h
    · refine r_iload (pc := 14) dX1_bestSteps_14 rfl ?_
      refine r_iconst (pc := 16) (v := (nI (5))) dX1_bestSteps_16 (by decide) ?_
      refine rn_icmp_gt (pc := 17) (tgt := 54) dX1_bestSteps_17 (by decide) (by omega) (by omega) (fun c17 => ?_) (fun c17 => ?_)
      · exact absurd c17 (by omega)
      · refine r_aload_n (pc := 20) dX1_bestSteps_20 rfl ?_
        refine r_getR (pc := 21) (r := 23) dX1_bestSteps_21 fX1_11 rfl rfl ?_
        refine r_iload (pc := 24) dX1_bestSteps_24 rfl ?_
        refine r_aald (pc := 26) dX1_bestSteps_26 rfl rfl (by omega) ?_
        refine r_iload_n (pc := 27) dX1_bestSteps_27 rfl ?_
        refine r_iald (pc := 28) (x := gI (gt σ s h0 t e)) dX1_bestSteps_28 (sh24 (by omega)) rfl (by omega) (hg t (by omega) e he) ?_
        refine r_iload (pc := 29) dX1_bestSteps_29 rfl ?_
        refine r_icmp_le (pc := 31) (tgt := 48) dX1_bestSteps_31 (by decide) (fun c31 => ?_) (fun c31 => ?_)
        · refine rn_iinc (pc := 48) (b := 1) (ls' := [(0, .ref 22), (1, .int (nI e)), (2, .int (nI L)), (3, .int (bI (bsF (fun i => gt σ s h0 i e) t))), (4, .int (mI (bsF (fun i => gt σ s h0 i e) t))), (5, .int (nI (t + 1)))]) dX1_bestSteps_48 rfl (by decide) (Nat.le_of_ble_eq_true rfl) rfl ?_
          refine r_goto (pc := 51) (tgt := 8) dX1_bestSteps_51 (by decide) ?_
          have e9 := bs_le (f := (fun i => gt σ s h0 i e)) (k := t) hfb c31
          have h9 := ih (k - 1) (by omega) (t + 1) (by omega)
          rw [e9] at h9
          skip
          exact h9
        · refine r_aload_n (pc := 34) dX1_bestSteps_34 rfl ?_
          refine r_getR (pc := 35) (r := 23) dX1_bestSteps_35 fX1_11 rfl rfl ?_
          refine r_iload (pc := 38) dX1_bestSteps_38 rfl ?_
          refine r_aald (pc := 40) dX1_bestSteps_40 rfl rfl (by omega) ?_
          refine r_iload_n (pc := 41) dX1_bestSteps_41 rfl ?_
          refine r_iald (pc := 42) (x := gI (gt σ s h0 t e)) dX1_bestSteps_42 (sh24 (by omega)) rfl (by omega) (hg t (by omega) e he) ?_
          refine r_istore (pc := 43) (ls' := [(0, .ref 22), (1, .int (nI e)), (2, .int (nI L)), (3, .int (bI (bsF (fun i => gt σ s h0 i e) t))), (4, .int (gI (gt σ s h0 t e))), (5, .int (nI t))]) dX1_bestSteps_43 (Nat.le_of_ble_eq_true rfl) rfl ?_
          refine r_iload (pc := 45) dX1_bestSteps_45 rfl ?_
          refine r_istore_n (pc := 47) (ls' := [(0, .ref 22), (1, .int (nI e)), (2, .int (nI L)), (3, .int (nI t)), (4, .int (gI (gt σ s h0 t e))), (5, .int (nI t))]) dX1_bestSteps_47 (Nat.le_of_ble_eq_true rfl) rfl ?_
          refine rn_iinc (pc := 48) (b := 1) (ls' := [(0, .ref 22), (1, .int (nI e)), (2, .int (nI L)), (3, .int (nI t)), (4, .int (gI (gt σ s h0 t e))), (5, .int (nI (t + 1)))]) dX1_bestSteps_48 rfl (by decide) (Nat.le_of_ble_eq_true rfl) rfl ?_
          refine r_goto (pc := 51) (tgt := 8) dX1_bestSteps_51 (by decide) ?_
          obtain ⟨x, hx, e9⟩ := bs_gt (f := (fun i => gt σ s h0 i e)) (k := t) hfb c31
          have h9 := ih (k - 1) (by omega) (t + 1) (by omega)
          rw [e9] at h9
          rw [show gt σ s h0 t e = some x from hx]
          skip
          exact h9

set_option maxRecDepth 20000 in
set_option maxHeartbeats 4000000 in
theorem x_bs {μ : Mem} {σ : Sg} {s h0 L e : Nat} {Q : Option Value → Mem → Prop} (hO : Ok σ) (hh : h0 ≤ 1000000) (hL : L ≤ 5) (he : e < 8) (hg : ∀ i, i ≤ L → GM μ i (gt σ s h0 i)) (h : Q (some (.int (bI (bsF (fun i => gt σ s h0 i e) (L + 1))))) μ) : Sp iX1_bestSteps 0 [.ref 22, .int (nI e), .int (nI L)] μ Q := by
  refine Sp.of vX1_bestSteps.1 (Nat.le_of_ble_eq_true rfl) ?_
  show WP cX1_bestSteps (RX1, 6, (some .int), 0, none) 0 [(0, .ref 22), (1, .int (nI e)), (2, .int (nI L))] [] μ Q
  refine r_iconst (pc := 0) (v := (-1)) dX1_bestSteps_0 (by decide) ?_
  refine r_istore_n (pc := 1) (ls' := [(0, .ref 22), (1, .int (nI e)), (2, .int (nI L)), (3, .int ((-1)))]) dX1_bestSteps_1 (Nat.le_of_ble_eq_true rfl) rfl ?_
  refine r_iconst (pc := 2) (v := (-1)) dX1_bestSteps_2 (by decide) ?_
  refine r_istore (pc := 3) (ls' := [(0, .ref 22), (1, .int (nI e)), (2, .int (nI L)), (3, .int ((-1))), (4, .int ((-1)))]) dX1_bestSteps_3 (Nat.le_of_ble_eq_true rfl) rfl ?_
  refine r_iconst (pc := 5) (v := (nI (0))) dX1_bestSteps_5 (by decide) ?_
  refine r_istore (pc := 6) (ls' := [(0, .ref 22), (1, .int (nI e)), (2, .int (nI L)), (3, .int ((-1))), (4, .int ((-1))), (5, .int (nI 0))]) dX1_bestSteps_6 (Nat.le_of_ble_eq_true rfl) rfl ?_
  exact x_bs_l hO hh hL he hg h (L + 1) 0 (by omega)
