/-! THE CLASS: anyGains, move, edge, cut, walkers -/
theorem only.keepM {k0 : Nat} {μ μ' : Mem} (h : only k0 μ μ') (hk : k0 < 40) : keepM μ μ' := fun k hk' => ⟨h.1 k (by omega), by rw [h.2]⟩
theorem cpyI_only {μ : Mem} {k k' n : Nat} : only k' μ (cpyI μ k k' n) := ⟨fun a ha => if_neg ha, rfl⟩
theorem only.tr {k0 : Nat} {μ μ' μ'' : Mem} (h : only k0 μ μ') (h' : only k0 μ' μ'') : only k0 μ μ'' := ⟨fun k hk => (h'.1 k hk).trans (h.1 k hk), h'.2.trans h.2⟩
theorem cpyI_at {μ : Mem} {k k' n j : Nat} (h : j < n) : (cpyI μ k k' n).1 k' j = μ.1 k j := by
  simp [cpyI, va_cpy, h]
theorem Found_only {μ μ' : Mem} {σ : Sg} {k0 : Nat} (h : only k0 μ μ') (h1 : k0 < 12 ∨ 16 < k0) (hF : FoundOK μ σ) : FoundOK μ' σ := by
  unfold FoundOK
  rw [h.2, h.1 12 (by omega), h.1 15 (by omega), h.1 16 (by omega)]
  exact hF
theorem XI_17 {μ μ' : Mem} {σ : Sg} (h : only 17 μ μ') (hI : XI μ σ) : XI μ' σ := by
  unfold XI Xs Xc FoundOK SentOK
  rw [h.2, h.1 1 (by decide), h.1 2 (by decide), h.1 3 (by decide), h.1 4 (by decide), h.1 5 (by decide), h.1 6 (by decide), h.1 7 (by decide), h.1 8 (by decide), h.1 9 (by decide), h.1 10 (by decide), h.1 11 (by decide), h.1 12 (by decide), h.1 15 (by decide), h.1 16 (by decide), h.1 37 (by decide), h.1 38 (by decide), h.1 39 (by decide)]
  exact hI
theorem XF_17 {μ μ' : Mem} {σ : Sg} (h : only 17 μ μ') (hF : XF μ σ) : XF μ' σ := ⟨XI_17 h hF.1, Found_only h (by decide) hF.2⟩
theorem anyG_t {σ : Sg} {g : Nat → Nat} {f m : Nat} (hm : m < (rnds σ).length) (h : gns σ g f ((rnds σ).getD m []) = true) : anyG σ g f = true := List.any_eq_true.mpr ⟨_, rnds_in hm, h⟩
theorem anyG_f {σ : Sg} {g : Nat → Nat} {f : Nat} (h : ∀ i, i < (rnds σ).length → gns σ g f ((rnds σ).getD i []) = false) : anyG σ g f = false := by
  refine List.any_eq_false.mpr (fun x hx => ?_)
  obtain ⟨i, hi, e⟩ := List.mem_iff_getElem.mp hx
  have := h i hi
  rw [List.getD_eq_getElem?_getD, List.getElem?_eq_getElem hi] at this
  rw [← e]
  simpa using this

set_option maxRecDepth 20000 in
set_option maxHeartbeats 4000000 in
theorem x_any_l {μ : Mem} {σ : Sg} {gc f : Nat} {g : Nat → Nat} {Q : Option Value → Mem → Prop} (hO : Ok σ) (hF : FoundOK μ σ) (hg : gvs μ gc g σ) (hf : f ≤ 98) (h : Q (some (.int (b2i (anyG σ g f)))) μ) : ∀ (k : Nat) (m : Nat), m + k = (rnds σ).length → (∀ i, i < m → gns σ g f ((rnds σ).getD i []) = false) → WP cX2_anyGains (RX2, 4, (some .boolean), 3, none) 2 [(0, .ref 12), (1, .ref (gc)), (2, .int (nI f)), (3, .int (nI m))] [] μ Q := by
  intro k
  induction k using Nat.strongRecOn with
  | _ k ih =>
    intro m hm hno
    have hn := Ok_n hO
    have hRl := rnds_le hO
    refine r_iload_n (pc := 2) dX2_anyGains_2 rfl ?_
    refine r_aload_n (pc := 3) dX2_anyGains_3 rfl ?_
    refine r_getI (pc := 4) (x := (nI ((rnds σ).length))) dX2_anyGains_4 fX2_28 rfl rfl hF.1 ?_
    refine rn_icmp_ge (pc := 7) (tgt := 28) dX2_anyGains_7 (by decide) (by omega) (by omega) (fun c7 => ?_) (fun c7 => ?_)
    · rw [anyG_f (fun i hi => hno i (by omega))] at h
      refine r_iconst (pc := 28) (v := (nI (0))) dX2_anyGains_28 (by decide) ?_
      refine r_ireturn (pc := 29) dX2_anyGains_29 rfl (Or.inr rfl) rfl ?_
      exact h
    · have hmm := rnds_mem (rnds_in c7)
      have hrx := hF.2.2.1 m _ (rnds_at c7)
      refine r_aload_n (pc := 10) dX2_anyGains_10 rfl ?_
      refine r_iload_n (pc := 11) dX2_anyGains_11 rfl ?_
      refine r_aload_n (pc := 12) dX2_anyGains_12 rfl ?_
      refine r_iload_n (pc := 13) dX2_anyGains_13 rfl ?_
      refine r_callV (pc := 14) (d' := 2) (k := 12) (As := [.int (nI m), .ref (gc), .int (nI f)]) (rest := []) dX2_anyGains_14 vX2_gains mX2_51 rfl rfl rfl (Nat.le_of_ble_eq_true rfl) (Nat.le_of_ble_eq_true rfl) ?_
      refine x_gains (g := g) hO hmm.2.1 hmm.1.2 (by omega) hrx.1 hrx.2.1 hg hf ?_
      refine rb_if_eq (pc := 17) (tgt := 22) dX2_anyGains_17 (by decide) (fun c17 => ?_) (fun c17 => ?_)
      · refine rn_iinc (pc := 22) (b := 1) (ls' := [(0, .ref 12), (1, .ref (gc)), (2, .int (nI f)), (3, .int (nI (m + 1)))]) dX2_anyGains_22 rfl (by decide) (Nat.le_of_ble_eq_true rfl) rfl ?_
        refine r_goto (pc := 25) (tgt := 2) dX2_anyGains_25 (by decide) ?_
        refine ih (k - 1) (by omega) (m + 1) (by omega) (fun i hi => ?_)
        rcases Nat.lt_or_ge i m with q | q
        · exact hno i q
        · obtain rfl : i = m := by omega
          exact c17
      · refine r_iconst (pc := 20) (v := (nI (1))) dX2_anyGains_20 (by decide) ?_
        refine r_ireturn (pc := 21) dX2_anyGains_21 rfl (Or.inr rfl) rfl ?_
        rw [anyG_t c7 c17] at h
        exact h

set_option maxRecDepth 20000 in
set_option maxHeartbeats 4000000 in
theorem x_any {μ : Mem} {σ : Sg} {gc f : Nat} {g : Nat → Nat} {Q : Option Value → Mem → Prop} (hO : Ok σ) (hF : FoundOK μ σ) (hg : gvs μ gc g σ) (hf : f ≤ 98) (h : Q (some (.int (b2i (anyG σ g f)))) μ) : Sp iX2_anyGains 3 [.ref 12, .ref (gc), .int (nI f)] μ Q := by
  refine Sp.of vX2_anyGains.1 (Nat.le_of_ble_eq_true rfl) ?_
  show WP cX2_anyGains (RX2, 4, (some .boolean), 3, none) 0 [(0, .ref 12), (1, .ref (gc)), (2, .int (nI f))] [] μ Q
  refine r_iconst (pc := 0) (v := (nI (0))) dX2_anyGains_0 (by decide) ?_
  refine r_istore_n (pc := 1) (ls' := [(0, .ref 12), (1, .ref (gc)), (2, .int (nI f)), (3, .int (nI 0))]) dX2_anyGains_1 (Nat.le_of_ble_eq_true rfl) rfl ?_
  exact x_any_l hO hF hg hf h (rnds σ).length 0 (by omega) (fun i hi => absurd hi (Nat.not_lt_zero i))

def mvX (σ : Sg) (b : Nat) : Nat → Nat → Int32
  | 0, _ => -6
  | k + 1, y => if anyG σ (setG (σ 4) b (σ 4 b - y)) (σ 0 1) = true then mvX σ b k (y + 1) else nI y
theorem mvR_X (σ : Sg) (b : Nat) : ∀ k y, mvR σ b k y = mvX σ b (k + 1) y
  | 0, y => rfl
  | k + 1, y => by
    unfold mvR mvX
    rw [mvR_X σ b k (y + 1)]
def egX (σ : Sg) : Nat → Nat → Int32
  | 0, _ => -6
  | k + 1, f => if anyG σ (σ 4) f = true then egX σ k (f + 1) else nI f
theorem egR_X (σ : Sg) : ∀ k f, egR σ k f = egX σ (k + 1) f
  | 0, f => rfl
  | k + 1, f => by
    unfold egR egX
    rw [egR_X σ k (f + 1)]

set_option maxRecDepth 20000 in
set_option maxHeartbeats 4000000 in
theorem x_lm_l {μ : Mem} {σ : Sg} {b : Nat} {Q : Option Value → Mem → Prop} (hF1 : XF μ σ) (hO : Ok σ) (hb : b < σ 0 0) : ∀ (k : Nat) (y : Nat) (μ1 : Mem), y + k = σ 4 b → only 17 μ μ1 → (∀ x, x < 12 → ¬ x = b → μ1.1 17 x = nI (σ 4 x)) → (∀ μ', only 17 μ μ' → Q (some (.int (mvX σ b k y))) μ') → WP cX2_leastMove (RX2, 4, (some .int), 4, none) 28 [(0, .ref 12), (1, .ref 1), (2, .int (nI b)), (3, .int (nI y))] [] μ1 Q := by
  intro k
  induction k using Nat.strongRecOn with
  | _ k ih =>
    intro y μ1 hy ho1 h17 h
    have hn := Ok_n hO
    have hF1b := XF_17 ho1 hF1
    have hX1 := hF1b.1.1
    have hbb := Ok_b hO (j := b) (by omega)
    refine r_iload_n (pc := 28) dX2_leastMove_28 rfl ?_
    refine r_aload_n (pc := 29) dX2_leastMove_29 rfl ?_
    refine r_getR (pc := 30) (r := 5) dX2_leastMove_30 fX2_43 rfl rfl ?_
    refine r_iload_n (pc := 33) dX2_leastMove_33 rfl ?_
    refine r_iald (pc := 34) (x := (nI (σ 4 b))) dX2_leastMove_34 rfl rfl (by omega) (Xs_4 (μ := μ1) hX1 (by omega)) ?_
    refine rn_icmp_ge (pc := 35) (tgt := 77) dX2_leastMove_35 (by decide) (by omega) (by omega) (fun c35 => ?_) (fun c35 => ?_)
    · refine r_bipush (pc := 77) (v := (-6)) dX2_leastMove_77 (by decide) ?_
      refine r_ireturn (pc := 79) dX2_leastMove_79 rfl (Or.inl rfl) rfl ?_
      obtain rfl : k = 0 := by omega
      exact h μ1 ho1
    · refine r_aload_n (pc := 38) dX2_leastMove_38 rfl ?_
      refine r_getR (pc := 39) (r := 17) dX2_leastMove_39 fX2_25 rfl rfl ?_
      refine r_iload_n (pc := 42) dX2_leastMove_42 rfl ?_
      refine r_aload_n (pc := 43) dX2_leastMove_43 rfl ?_
      refine r_getR (pc := 44) (r := 5) dX2_leastMove_44 fX2_43 rfl rfl ?_
      refine r_iload_n (pc := 47) dX2_leastMove_47 rfl ?_
      refine r_iald (pc := 48) (x := (nI (σ 4 b))) dX2_leastMove_48 rfl rfl (by omega) (Xs_4 (μ := μ1) hX1 (by omega)) ?_
      refine r_iload_n (pc := 49) dX2_leastMove_49 rfl ?_
      refine rn_isub (pc := 50) dX2_leastMove_50 (by omega) ?_
      refine r_iast (pc := 51) dX2_leastMove_51 rfl rfl (by omega) ?_
      obtain ⟨μ2, e2⟩ : ∃ μ2, μ2 = (setI μ1 17 (b) (nI (σ 4 b - (y)))) := ⟨_, rfl⟩
      rw [← e2]
      have ho2 : only 17 μ1 μ2 := by rw [e2]; exact only.rf.s
      have hF2 := XF_17 ho2 hF1b
      have hX2 := hF2.1.1
      have hg2 : gvs μ2 17 (setG (σ 4) b (σ 4 b - y)) σ := ⟨rfl, fun x hx => by
        rw [e2]
        show upd (μ1.1 17) b (nI (σ 4 b - y)) x = _ ∧ _
        rw [upd_at]
        unfold setG
        have hx4 := Ok_b hO (j := x) (by omega)
        have hb4 := Ok_b hO (j := b) (by omega)
        by_cases e : x = b
        · rw [if_pos e, if_pos e]; exact ⟨rfl, by omega⟩
        · rw [if_neg e, if_neg e]; exact ⟨h17 x (by omega) e, by omega⟩⟩
      refine r_aload_n (pc := 52) dX2_leastMove_52 rfl ?_
      refine r_aload_n (pc := 53) dX2_leastMove_53 rfl ?_
      refine r_getR (pc := 54) (r := 17) dX2_leastMove_54 fX2_25 rfl rfl ?_
      refine r_aload_n (pc := 57) dX2_leastMove_57 rfl ?_
      refine r_getR (pc := 58) (r := 9) dX2_leastMove_58 fX2_48 rfl rfl ?_
      refine r_iconst (pc := 61) (v := (nI (0))) dX2_leastMove_61 (by decide) ?_
      refine r_iald (pc := 62) (x := (nI (σ 0 1))) dX2_leastMove_62 rfl rfl (by omega) (Xs_fee (μ := μ2) hX2) ?_
      refine r_callV (pc := 63) (d' := 3) (k := 12) (As := [.ref 17, .int (nI (σ 0 1))]) (rest := []) dX2_leastMove_63 vX2_anyGains mX2_111 rfl rfl rfl (Nat.le_of_ble_eq_true rfl) (Nat.le_of_ble_eq_true rfl) ?_
      refine x_any (gc := 17) (g := setG (σ 4) b (σ 4 b - y)) hO hF2.2 hg2 (by omega) ?_
      refine rb_if_ne (pc := 66) (tgt := 71) dX2_leastMove_66 (by decide) (fun c66 => ?_) (fun c66 => ?_)
      · refine rn_iinc (pc := 71) (b := 1) (ls' := [(0, .ref 12), (1, .ref 1), (2, .int (nI b)), (3, .int (nI (y + 1)))]) dX2_leastMove_71 rfl (by decide) (Nat.le_of_ble_eq_true rfl) rfl ?_
        refine r_goto (pc := 74) (tgt := 28) dX2_leastMove_74 (by decide) ?_
        obtain ⟨k1, rfl⟩ : ∃ k1, k = k1 + 1 := ⟨k - 1, by omega⟩
        rw [mvX, if_pos c66] at h
        refine ih k1 (by omega) (y + 1) μ2 (by omega) (ho1.tr ho2) (fun x hx e => ?_) h
        rw [e2]
        exact (if_neg e).trans (h17 x hx e)
      · refine r_iload_n (pc := 69) dX2_leastMove_69 rfl ?_
        refine r_ireturn (pc := 70) dX2_leastMove_70 rfl (Or.inl rfl) rfl ?_
        obtain ⟨k1, rfl⟩ : ∃ k1, k = k1 + 1 := ⟨k - 1, by omega⟩
        rw [mvX, if_neg (by rw [c66]; decide)] at h
        exact h _ (ho1.tr ho2)

set_option maxRecDepth 20000 in
set_option maxHeartbeats 4000000 in
theorem x_lm {μ : Mem} {σ : Sg} {b : Nat} {Q : Option Value → Mem → Prop} (hF1 : XF μ σ) (hO : Ok σ) (hb : b < σ 0 0) (h : ∀ μ', only 17 μ μ' → Q (some (.int (mvX σ b (σ 4 b) 0))) μ') : Sp iX2_leastMove 4 [.ref 12, .ref 1, .int (nI b)] μ Q := by
  refine Sp.of vX2_leastMove.1 (Nat.le_of_ble_eq_true rfl) ?_
  show WP cX2_leastMove (RX2, 4, (some .int), 4, none) 0 [(0, .ref 12), (1, .ref 1), (2, .int (nI b))] [] μ Q
  have hn := Ok_n hO
  refine r_aload_n (pc := 0) dX2_leastMove_0 rfl ?_
  refine r_iload_n (pc := 1) dX2_leastMove_1 rfl ?_
  refine r_callV (pc := 2) (d' := 0) (k := 1) (As := [.int (nI b)]) (rest := []) dX2_leastMove_2 vX0_has mX2_74 rfl rfl rfl (Nat.le_of_ble_eq_true rfl) (Nat.le_of_ble_eq_true rfl) ?_
  refine c_has (μ := μ) hF1.1.1 hO ?_
  refine rb_if_ne (pc := 5) (tgt := 11) dX2_leastMove_5 (by decide) (fun c5 => ?_) (fun c5 => ?_)
  · refine r_aload_n (pc := 11) dX2_leastMove_11 rfl ?_
    refine r_getR (pc := 12) (r := 5) dX2_leastMove_12 fX2_43 rfl rfl ?_
    refine r_iconst (pc := 15) (v := (nI (0))) dX2_leastMove_15 (by decide) ?_
    refine r_aload_n (pc := 16) dX2_leastMove_16 rfl ?_
    refine r_getR (pc := 17) (r := 17) dX2_leastMove_17 fX2_25 rfl rfl ?_
    refine r_iconst (pc := 20) (v := (nI (0))) dX2_leastMove_20 (by decide) ?_
    refine r_bipush (pc := 21) (v := (nI (12))) dX2_leastMove_21 (by decide) ?_
    refine r_copy (pc := 23) dX2_leastMove_23 mX2_105 natAC staAC iniAC rfl rfl rfl rfl rfl (Nat.le_of_ble_eq_true rfl) (Nat.le_of_ble_eq_true rfl) (Nat.le_of_ble_eq_true rfl) (Nat.le_of_ble_eq_true rfl) ?_
    refine r_iconst (pc := 26) (v := (nI (0))) dX2_leastMove_26 (by decide) ?_
    refine r_istore_n (pc := 27) (ls' := [(0, .ref 12), (1, .ref 1), (2, .int (nI b)), (3, .int (nI 0))]) dX2_leastMove_27 (Nat.le_of_ble_eq_true rfl) rfl ?_
    exact x_lm_l hF1 hO hb (σ 4 b) 0 _ (by omega) cpyI_only (fun x hx _ => (cpyI_at hx).trans (Xs_4 hF1.1.1 hx)) h
  · exact absurd c5 (by rw [isB_nat (by omega)]; simp; omega)

set_option maxRecDepth 20000 in
set_option maxHeartbeats 4000000 in
theorem x_move {μ : Mem} {σ : Sg} {b : Int32} {Q : Option Value → Mem → Prop} (hI : XI μ σ) (hO : Ok σ) (h : ∀ μ', XI μ' σ → keepM μ μ' → Q (some (.int (sp_move σ b))) μ') : Sp iX6_move 14 [.ref 0, .int (b)] μ Q := by
  refine Sp.of vX6_move.1 (Nat.le_of_ble_eq_true rfl) ?_
  show WP cX6_move (RX6, 2, (some .int), 14, none) 0 [(0, .ref 0), (1, .int (b))] [] μ Q
  have hn := Ok_n hO
  have hX := hI.1
  refine r_aload_n (pc := 0) dX6_move_0 rfl ?_
  refine r_getR (pc := 1) (r := 1) dX6_move_1 fX6_12 rfl rfl ?_
  refine r_iload_n (pc := 4) dX6_move_4 rfl ?_
  refine r_callV (pc := 5) (d' := 0) (k := 1) (As := [.int (b)]) (rest := []) dX6_move_5 vX0_has mX6_74 rfl rfl rfl (Nat.le_of_ble_eq_true rfl) (Nat.le_of_ble_eq_true rfl) ?_
  refine c_has (μ := μ) hX hO ?_
  refine rb_if_ne (pc := 8) (tgt := 13) dX6_move_8 (by decide) (fun c8 => ?_) (fun c8 => ?_)
  · obtain ⟨bj, hbj, rfl, -⟩ := isB_t c8
    refine r_aload_n (pc := 13) dX6_move_13 rfl ?_
    refine r_getR (pc := 14) (r := 1) dX6_move_14 fX6_12 rfl rfl ?_
    refine r_iload_n (pc := 17) dX6_move_17 rfl ?_
    refine r_callV (pc := 18) (d' := 1) (k := 1) (As := [.int (nI bj)]) (rest := []) dX6_move_18 vX0_isOpen mX6_98 rfl rfl rfl (Nat.le_of_ble_eq_true rfl) (Nat.le_of_ble_eq_true rfl) ?_
    refine c_xopen (μ := μ) hX hO (by omega) ?_
    refine rb_if_ne (pc := 21) (tgt := 27) dX6_move_21 (by decide) (fun c21 => ?_) (fun c21 => ?_)
    · refine r_aload_n (pc := 27) dX6_move_27 rfl ?_
      refine r_callV (pc := 28) (d' := 13) (k := 0) (As := []) (rest := []) dX6_move_28 vX6_lookAround mX6_130 rfl rfl rfl (Nat.le_of_ble_eq_true rfl) (Nat.le_of_ble_eq_true rfl) ?_
      refine x_look hI hO (fun μ1 hF1 hk1 => ?_)
      have hX1 := hF1.1.1
      have hGl := Gs_len hO
      have hRl := rnds_le hO
      refine r_aload_n (pc := 31) dX6_move_31 rfl ?_
      refine r_getR (pc := 32) (r := 12) dX6_move_32 fX6_26 rfl rfl ?_
      refine r_aload_n (pc := 35) dX6_move_35 rfl ?_
      refine r_getR (pc := 36) (r := 1) dX6_move_36 fX6_12 rfl rfl ?_
      refine r_iload_n (pc := 39) dX6_move_39 rfl ?_
      refine r_callV (pc := 40) (d' := 4) (k := 12) (As := [.ref 1, .int (nI bj)]) (rest := []) dX6_move_40 vX2_leastMove mX6_190 rfl rfl rfl (Nat.le_of_ble_eq_true rfl) (Nat.le_of_ble_eq_true rfl) ?_
      refine x_lm hF1 hO hbj (fun μ2 ho2 => ?_)
      refine r_ireturn (pc := 43) dX6_move_43 rfl (Or.inl rfl) rfl ?_
      have e9 : sp_move σ (nI bj) = mvX σ bj (σ 4 bj) 0 := by
        have := (Ok_p hO hbj).2.2.1
        simp [sp_move, c8, bN_nI (show bj < 2 ^ 31 by omega), c21, mvR_X, show σ 4 bj - 1 + 1 = σ 4 bj by omega]
      rw [e9] at h
      exact h _ (XI_17 ho2 hF1.1) (hk1.tr (ho2.keepM (by decide)))
    · refine r_bipush (pc := 24) (v := (-3)) dX6_move_24 (by decide) ?_
      refine r_ireturn (pc := 26) dX6_move_26 rfl (Or.inl rfl) rfl ?_
      have e9 : sp_move σ (nI bj) = -3 := by simp [sp_move, c8, bN_nI (show bj < 2 ^ 31 by omega), c21]
      rw [e9] at h
      exact h _ hI keepM.rf
  · refine r_iconst (pc := 11) (v := (-1)) dX6_move_11 (by decide) ?_
    refine r_ireturn (pc := 12) dX6_move_12 rfl (Or.inl rfl) rfl ?_
    have e9 : sp_move σ b = -1 := by simp [sp_move, c8]
    rw [e9] at h
    exact h _ hI keepM.rf

set_option maxRecDepth 20000 in
set_option maxHeartbeats 4000000 in
theorem x_edge_l {μ1 : Mem} {σ : Sg} {Q : Option Value → Mem → Prop} (hF1 : XF μ1 σ) (hO : Ok σ) : ∀ (k : Nat) (y : Nat), y + k = 99 → Q (some (.int (egX σ k y))) μ1 → WP cX6_edge (RX6, 2, (some .int), 14, none) 10 [(0, .ref 0), (1, .int (nI y))] [] μ1 Q := by
  intro k
  induction k using Nat.strongRecOn with
  | _ k ih =>
    intro y hy h
    have hn := Ok_n hO
    refine r_iload_n (pc := 10) dX6_edge_10 rfl ?_
    refine r_gets1 (pc := 11) dX6_edge_11 fsX6_109 ?_
    refine r_iconst (pc := 14) (v := (nI (0))) dX6_edge_14 (by decide) ?_
    refine r_tld1 (pc := 15) (x := nI 98) dX6_edge_15 rfl (by decide) (by decide) ?_
    refine rn_icmp_gt (pc := 16) (tgt := 45) dX6_edge_16 (by decide) (by omega) (by omega) (fun c16 => ?_) (fun c16 => ?_)
    · refine r_bipush (pc := 45) (v := (-6)) dX6_edge_45 (by decide) ?_
      refine r_ireturn (pc := 47) dX6_edge_47 rfl (Or.inl rfl) rfl ?_
      obtain rfl : k = 0 := by omega
      exact h
    · refine r_aload_n (pc := 19) dX6_edge_19 rfl ?_
      refine r_getR (pc := 20) (r := 12) dX6_edge_20 fX6_26 rfl rfl ?_
      refine r_aload_n (pc := 23) dX6_edge_23 rfl ?_
      refine r_getR (pc := 24) (r := 1) dX6_edge_24 fX6_12 rfl rfl ?_
      refine r_getR (pc := 27) (r := 5) dX6_edge_27 fX6_86 rfl rfl ?_
      refine r_iload_n (pc := 30) dX6_edge_30 rfl ?_
      refine r_callV (pc := 31) (d' := 3) (k := 12) (As := [.ref 5, .int (nI y)]) (rest := []) dX6_edge_31 vX2_anyGains mX6_194 rfl rfl rfl (Nat.le_of_ble_eq_true rfl) (Nat.le_of_ble_eq_true rfl) ?_
      refine x_any (gc := 5) (g := σ 4) hO hF1.2 ⟨rfl, fun x hx => ⟨Xs_4 hF1.1.1 (by omega), (Ok_b hO (j := x) (by omega)).2.2.2.1⟩⟩ (by omega) ?_
      refine rb_if_ne (pc := 34) (tgt := 39) dX6_edge_34 (by decide) (fun c34 => ?_) (fun c34 => ?_)
      · refine rn_iinc (pc := 39) (b := 1) (ls' := [(0, .ref 0), (1, .int (nI (y + 1)))]) dX6_edge_39 rfl (by decide) (Nat.le_of_ble_eq_true rfl) rfl ?_
        refine r_goto (pc := 42) (tgt := 10) dX6_edge_42 (by decide) ?_
        obtain ⟨k1, rfl⟩ : ∃ k1, k = k1 + 1 := ⟨k - 1, by omega⟩
        rw [egX, if_pos c34] at h
        exact ih k1 (by omega) (y + 1) (by omega) h
      · refine r_iload_n (pc := 37) dX6_edge_37 rfl ?_
        refine r_ireturn (pc := 38) dX6_edge_38 rfl (Or.inl rfl) rfl ?_
        obtain ⟨k1, rfl⟩ : ∃ k1, k = k1 + 1 := ⟨k - 1, by omega⟩
        rw [egX, if_neg (by rw [c34]; decide)] at h
        exact h

set_option maxRecDepth 20000 in
set_option maxHeartbeats 4000000 in
theorem x_edge {μ : Mem} {σ : Sg} {Q : Option Value → Mem → Prop} (hI : XI μ σ) (hO : Ok σ) (h : ∀ μ', XI μ' σ → keepM μ μ' → Q (some (.int (sp_edge σ))) μ') : Sp iX6_edge 14 [.ref 0] μ Q := by
  refine Sp.of vX6_edge.1 (Nat.le_of_ble_eq_true rfl) ?_
  show WP cX6_edge (RX6, 2, (some .int), 14, none) 0 [(0, .ref 0)] [] μ Q
  have hn := Ok_n hO
  refine r_aload_n (pc := 0) dX6_edge_0 rfl ?_
  refine r_callV (pc := 1) (d' := 13) (k := 0) (As := []) (rest := []) dX6_edge_1 vX6_lookAround mX6_130 rfl rfl rfl (Nat.le_of_ble_eq_true rfl) (Nat.le_of_ble_eq_true rfl) ?_
  refine x_look hI hO (fun μ1 hF1 hk1 => ?_)
  have hX1 := hF1.1.1
  have hGl := Gs_len hO
  have hRl := rnds_le hO
  refine r_gets0 (pc := 4) dX6_edge_4 fsX6_106 ?_
  refine r_iconst (pc := 7) (v := (nI (0))) dX6_edge_7 (by decide) ?_
  refine r_tld0 (pc := 8) (x := nI 0) dX6_edge_8 rfl (by decide) (by decide) ?_
  refine r_istore_n (pc := 9) (ls' := [(0, .ref 0), (1, .int (nI 0))]) dX6_edge_9 (Nat.le_of_ble_eq_true rfl) rfl ?_
  have e9 : sp_edge σ = egX σ 99 0 := egR_X σ 98 0
  rw [e9] at h
  exact x_edge_l hF1 hO 99 0 (by omega) (h _ hF1.1 hk1)

set_option maxRecDepth 20000 in
set_option maxHeartbeats 4000000 in
theorem x_hits_l {μ1 : Mem} {σ : Sg} {x : Nat} {Q : Option Value → Mem → Prop} (hF1 : XF μ1 σ) (hO : Ok σ) (hx : x < 4096) (h : Q (some (.int (b2i (hits (gB σ) x (Gs σ).length)))) μ1) : ∀ (k : Nat) (n : Nat), n + k = (Gs σ).length → hits (gB σ) x n = true → WP cX2_hitsAll (RX2, 3, (some .boolean), 0, none) 2 [(0, .ref 12), (1, .int (nI x)), (2, .int (nI n))] [] μ1 Q := by
  intro k
  induction k using Nat.strongRecOn with
  | _ k ih =>
    intro n hnk hh
    have hn := Ok_n hO
    have hGl := Gs_len hO
    have hRl := rnds_le hO
    refine r_iload_n (pc := 2) dX2_hitsAll_2 rfl ?_
    refine r_aload_n (pc := 3) dX2_hitsAll_3 rfl ?_
    refine r_getI (pc := 4) (x := (nI ((Gs σ).length))) dX2_hitsAll_4 fX2_32 rfl rfl (FO_n hF1.2) ?_
    refine rn_icmp_ge (pc := 7) (tgt := 34) dX2_hitsAll_7 (by decide) (by omega) (by omega) (fun c7 => ?_) (fun c7 => ?_)
    · obtain rfl : n = (Gs σ).length := by omega
      refine r_iconst (pc := 34) (v := (nI (1))) dX2_hitsAll_34 (by decide) ?_
      refine r_ireturn (pc := 35) dX2_hitsAll_35 rfl (Or.inr rfl) rfl ?_
      rw [hh] at h
      exact h
    · have hand : gB σ n &&& x ≤ x := Nat.and_le_right
      refine r_aload_n (pc := 10) dX2_hitsAll_10 rfl ?_
      refine r_getR (pc := 11) (r := 15) dX2_hitsAll_11 fX2_18 rfl rfl ?_
      refine r_aload_n (pc := 14) dX2_hitsAll_14 rfl ?_
      refine r_getR (pc := 15) (r := 16) dX2_hitsAll_15 fX2_22 rfl rfl ?_
      refine r_iload_n (pc := 18) dX2_hitsAll_18 rfl ?_
      refine r_iald (pc := 19) (x := (nI (gk σ (n)))) dX2_hitsAll_19 rfl rfl (by omega) (FO_i hF1.2 (by omega)).1 ?_
      have b1 := gk_lt (σ := σ) (i := n) (by omega)
      have b2 := gi_b hO (i := n) (by omega)
      refine r_iald (pc := 20) (x := (nI (gB σ (n)))) dX2_hitsAll_20 rfl rfl (by omega) (FO_i hF1.2 (by omega)).2.2.2 ?_
      refine r_iload_n (pc := 21) dX2_hitsAll_21 rfl ?_
      refine r_iand (pc := 22) dX2_hitsAll_22 ?_
      refine r_eqi (nI_and _ _) ?_
      refine rn_if_ne (pc := 23) (tgt := 28) dX2_hitsAll_23 (by decide) (by omega) (fun c23 => ?_) (fun c23 => ?_)
      · refine rn_iinc (pc := 28) (b := 1) (ls' := [(0, .ref 12), (1, .int (nI x)), (2, .int (nI (n + 1)))]) dX2_hitsAll_28 rfl (by decide) (Nat.le_of_ble_eq_true rfl) rfl ?_
        refine r_goto (pc := 31) (tgt := 2) dX2_hitsAll_31 (by decide) ?_
        exact ih (k - 1) (by omega) (n + 1) (by omega) (by rw [hits_s, hh]; simp [c23])
      · refine r_iconst (pc := 26) (v := (nI (0))) dX2_hitsAll_26 (by decide) ?_
        refine r_ireturn (pc := 27) dX2_hitsAll_27 rfl (Or.inr rfl) rfl ?_
        have h2 := hits_f (s := gB σ) (x := x) (k := n + 1) (by rw [hits_s, c23]; simp) ((Gs σ).length - (n + 1))
        rw [show n + 1 + ((Gs σ).length - (n + 1)) = (Gs σ).length by omega] at h2
        rw [h2] at h
        exact h

set_option maxRecDepth 20000 in
set_option maxHeartbeats 4000000 in
theorem x_hits {μ1 : Mem} {σ : Sg} {x : Nat} {Q : Option Value → Mem → Prop} (hF1 : XF μ1 σ) (hO : Ok σ) (hx : x < 4096) (h : Q (some (.int (b2i (hits (gB σ) x (Gs σ).length)))) μ1) : Sp iX2_hitsAll 0 [.ref 12, .int (nI x)] μ1 Q := by
  refine Sp.of vX2_hitsAll.1 (Nat.le_of_ble_eq_true rfl) ?_
  show WP cX2_hitsAll (RX2, 3, (some .boolean), 0, none) 0 [(0, .ref 12), (1, .int (nI x))] [] μ1 Q
  refine r_iconst (pc := 0) (v := (nI (0))) dX2_hitsAll_0 (by decide) ?_
  refine r_istore_n (pc := 1) (ls' := [(0, .ref 12), (1, .int (nI x)), (2, .int (nI 0))]) dX2_hitsAll_1 (Nat.le_of_ble_eq_true rfl) rfl ?_
  exact x_hits_l hF1 hO hx h (Gs σ).length 0 (by omega) rfl

def cf (s : Nat → Nat) (n op : Nat) : Nat → Nat
  | 0 => op
  | x + 1 => if pc12 x < pc12 (cf s n op x) ∧ hits s x n = true then x else cf s n op x
theorem cf_lt {s : Nat → Nat} {n op : Nat} : ∀ {x}, x ≤ op → cf s n op x ≤ op
  | 0, _ => Nat.le_refl _
  | x + 1, h => by
    unfold cf
    split
    · omega
    · exact cf_lt (by omega)

theorem pc12_le (x : Nat) : pc12 x ≤ 12 := cnt_le _ 12

set_option maxRecDepth 20000 in
set_option maxHeartbeats 4000000 in
theorem x_few_l {μ1 : Mem} {σ : Sg} {op : Nat} {Q : Option Value → Mem → Prop} (hF1 : XF μ1 σ) (hO : Ok σ) (hop : op < 4096) (h : Q (some (.int (nI (cf (gB σ) (Gs σ).length op op)))) μ1) : ∀ (k : Nat) (x : Nat), x + k = op → WP cX2_fewestThatHit (RX2, 4, (some .int), 1, none) 4 [(0, .ref 12), (1, .int (nI op)), (2, .int (nI (cf (gB σ) (Gs σ).length op x))), (3, .int (nI x))] [] μ1 Q := by
  intro k
  induction k using Nat.strongRecOn with
  | _ k ih =>
    intro x hnk
    have hn := Ok_n hO
    have hGl := Gs_len hO
    have hRl := rnds_le hO
    have hcl := cf_lt (s := gB σ) (n := (Gs σ).length) (op := op) (x := x) (by omega)
    have hp1 := pc12_le x
    have hp2 := pc12_le (cf (gB σ) (Gs σ).length op x)
    refine r_iload_n (pc := 4) dX2_fewestThatHit_4 rfl ?_
    refine r_iload_n (pc := 5) dX2_fewestThatHit_5 rfl ?_
    refine rn_icmp_ge (pc := 6) (tgt := 36) dX2_fewestThatHit_6 (by decide) (by omega) (by omega) (fun c6 => ?_) (fun c6 => ?_)
    · obtain rfl : x = op := by omega
      refine r_iload_n (pc := 36) dX2_fewestThatHit_36 rfl ?_
      refine r_ireturn (pc := 37) dX2_fewestThatHit_37 rfl (Or.inl rfl) rfl ?_
      exact h
    · refine r_iload_n (pc := 9) dX2_fewestThatHit_9 rfl ?_
      refine r_callS (pc := 10) (d' := 0) (As := [.int (nI x)]) (rest := []) dX2_fewestThatHit_10 sJ6_bitCount_0f7a4 mX2_82 rfl rfl (Nat.le_of_ble_eq_true rfl) (Nat.le_of_ble_eq_true rfl) ?_
      refine c_bc (by omega) ?_
      refine r_iload_n (pc := 13) dX2_fewestThatHit_13 rfl ?_
      refine r_callS (pc := 14) (d' := 0) (As := [.int (nI (cf (gB σ) (Gs σ).length op x))]) (rest := [.int (nI (pc12 (x)))]) dX2_fewestThatHit_14 sJ6_bitCount_0f7a4 mX2_82 rfl rfl (Nat.le_of_ble_eq_true rfl) (Nat.le_of_ble_eq_true rfl) ?_
      refine c_bc (by omega) ?_
      refine rn_icmp_ge (pc := 17) (tgt := 30) dX2_fewestThatHit_17 (by decide) (by omega) (by omega) (fun c17 => ?_) (fun c17 => ?_)
      · refine rn_iinc (pc := 30) (b := 1) (ls' := [(0, .ref 12), (1, .int (nI op)), (2, .int (nI (cf (gB σ) (Gs σ).length op x))), (3, .int (nI (x + 1)))]) dX2_fewestThatHit_30 rfl (by decide) (Nat.le_of_ble_eq_true rfl) rfl ?_
        refine r_goto (pc := 33) (tgt := 4) dX2_fewestThatHit_33 (by decide) ?_
        have e9 : cf (gB σ) (Gs σ).length op (x + 1) = cf (gB σ) (Gs σ).length op x := if_neg (fun q => absurd q.1 (by omega))
        have h9 := ih (k - 1) (by omega) (x + 1) (by omega)
        rw [e9] at h9
        exact h9
      · refine r_aload_n (pc := 20) dX2_fewestThatHit_20 rfl ?_
        refine r_iload_n (pc := 21) dX2_fewestThatHit_21 rfl ?_
        refine r_callV (pc := 22) (d' := 0) (k := 12) (As := [.int (nI x)]) (rest := []) dX2_fewestThatHit_22 vX2_hitsAll mX2_102 rfl rfl rfl (Nat.le_of_ble_eq_true rfl) (Nat.le_of_ble_eq_true rfl) ?_
        refine x_hits hF1 hO (by omega) ?_
        refine rb_if_eq (pc := 25) (tgt := 30) dX2_fewestThatHit_25 (by decide) (fun c25 => ?_) (fun c25 => ?_)
        · refine rn_iinc (pc := 30) (b := 1) (ls' := [(0, .ref 12), (1, .int (nI op)), (2, .int (nI (cf (gB σ) (Gs σ).length op x))), (3, .int (nI (x + 1)))]) dX2_fewestThatHit_30 rfl (by decide) (Nat.le_of_ble_eq_true rfl) rfl ?_
          refine r_goto (pc := 33) (tgt := 4) dX2_fewestThatHit_33 (by decide) ?_
          have e9 : cf (gB σ) (Gs σ).length op (x + 1) = cf (gB σ) (Gs σ).length op x := if_neg (fun q => by rw [c25] at q; exact absurd q.2 (by decide))
          have h9 := ih (k - 1) (by omega) (x + 1) (by omega)
          rw [e9] at h9
          exact h9
        · refine r_iload_n (pc := 28) dX2_fewestThatHit_28 rfl ?_
          refine r_istore_n (pc := 29) (ls' := [(0, .ref 12), (1, .int (nI op)), (2, .int (nI x)), (3, .int (nI x))]) dX2_fewestThatHit_29 (Nat.le_of_ble_eq_true rfl) rfl ?_
          refine rn_iinc (pc := 30) (b := 1) (ls' := [(0, .ref 12), (1, .int (nI op)), (2, .int (nI x)), (3, .int (nI (x + 1)))]) dX2_fewestThatHit_30 rfl (by decide) (Nat.le_of_ble_eq_true rfl) rfl ?_
          refine r_goto (pc := 33) (tgt := 4) dX2_fewestThatHit_33 (by decide) ?_
          have e9 : cf (gB σ) (Gs σ).length op (x + 1) = x := if_pos ⟨by omega, c25⟩
          have h9 := ih (k - 1) (by omega) (x + 1) (by omega)
          rw [e9] at h9
          exact h9

set_option maxRecDepth 20000 in
set_option maxHeartbeats 4000000 in
theorem x_few {μ1 : Mem} {σ : Sg} {op : Nat} {Q : Option Value → Mem → Prop} (hF1 : XF μ1 σ) (hO : Ok σ) (hop : op < 4096) (h : Q (some (.int (nI (cf (gB σ) (Gs σ).length op op)))) μ1) : Sp iX2_fewestThatHit 1 [.ref 12, .int (nI op)] μ1 Q := by
  refine Sp.of vX2_fewestThatHit.1 (Nat.le_of_ble_eq_true rfl) ?_
  show WP cX2_fewestThatHit (RX2, 4, (some .int), 1, none) 0 [(0, .ref 12), (1, .int (nI op))] [] μ1 Q
  refine r_iload_n (pc := 0) dX2_fewestThatHit_0 rfl ?_
  refine r_istore_n (pc := 1) (ls' := [(0, .ref 12), (1, .int (nI op)), (2, .int (nI op))]) dX2_fewestThatHit_1 (Nat.le_of_ble_eq_true rfl) rfl ?_
  refine r_iconst (pc := 2) (v := (nI (0))) dX2_fewestThatHit_2 (by decide) ?_
  refine r_istore_n (pc := 3) (ls' := [(0, .ref 12), (1, .int (nI op)), (2, .int (nI op)), (3, .int (nI 0))]) dX2_fewestThatHit_3 (Nat.le_of_ble_eq_true rfl) rfl ?_
  exact x_few_l hF1 hO hop h op 0 (by omega)
