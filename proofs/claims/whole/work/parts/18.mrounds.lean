/-! THE MODEL'S ROUNDS: keepRound, layRounds -/
def RM (μ : Mem) (σ : Sg) (i : Nat) (r : List Nat) : Prop := μ.1 51 i = nI r.length ∧ μ.1 52 i = nI (bitsP r) ∧ (∀ k x, r[k]? = some x → μ.1 53 (8 * i + k) = nI x) ∧ μ.2 54 i = lN (pUp (σ 4) (σ 0 1) r) ∧ μ.2 55 i = lN (pLow σ r)
abbrev gnF (σ : Sg) : List Nat → Bool := gns σ (σ 4) (σ 0 1)
def GA (μ : Mem) (σ : Sg) (acc : List (List Nat)) : Prop := μ.1 40 12 = nI acc.length ∧ μ.1 40 13 = nI (acc.filter (gnF σ)).length ∧ ∀ i r, (acc.filter (gnF σ))[i]? = some r → RM μ σ i r
/-- what keepRound, layRounds leave alone -/
def frK (μ μ' : Mem) : Prop := (∀ k, ¬ k = 40 → ¬ (51 ≤ k ∧ k ≤ 55) → μ'.1 k = μ.1 k ∧ μ'.2 k = μ.2 k) ∧ (∀ j, ¬ j = 12 → ¬ j = 13 → μ'.1 40 j = μ.1 40 j) ∧ μ'.2 40 = μ.2 40
def frL (μ μ' : Mem) : Prop := (∀ k, ¬ k = 40 → ¬ (51 ≤ k ∧ k ≤ 58) → μ'.1 k = μ.1 k ∧ μ'.2 k = μ.2 k) ∧ (∀ j, ¬ j = 12 → ¬ j = 13 → μ'.1 40 j = μ.1 40 j) ∧ μ'.2 40 = μ.2 40
theorem frL.rf {μ : Mem} : frL μ μ := ⟨fun _ _ _ => ⟨rfl, rfl⟩, fun _ _ _ => rfl, rfl⟩
theorem frL.tr {μ μ' μ'' : Mem} (h : frL μ μ') (h' : frL μ' μ'') : frL μ μ'' := ⟨fun k a b => ⟨(h'.1 k a b).1.trans (h.1 k a b).1, (h'.1 k a b).2.trans (h.1 k a b).2⟩, fun j a b => (h'.2.1 j a b).trans (h.2.1 j a b), h'.2.2.trans h.2.2⟩
theorem frK.L {μ μ' : Mem} (h : frK μ μ') : frL μ μ' := ⟨fun k a b => h.1 k a (by omega), h.2.1, h.2.2⟩
theorem frL.Ms {μ μ' : Mem} {σ : Sg} (h : frL μ μ') (hM : Ms μ σ) : Ms μ' σ := by
  obtain ⟨h0, h1, h2, h3, h4, h5, h6, h7, h8, h9, h10, h11, h12, h13⟩ := hM
  refine ⟨(h.2.1 0 (by decide) (by decide)).trans h0, ?_, ?_, ?_, ?_, ?_, ?_, ?_, ?_, ?_, ?_, (h.2.1 9 (by decide) (by decide)).trans h11, ?_, ?_⟩
  · rw [(h.1 41 (by decide) (by decide)).1]; exact h1
  · rw [(h.1 42 (by decide) (by decide)).1]; exact h2
  · rw [(h.1 43 (by decide) (by decide)).1]; exact h3
  · rw [(h.1 44 (by decide) (by decide)).1]; exact h4
  · rw [(h.1 45 (by decide) (by decide)).1]; exact h5
  · rw [(h.1 46 (by decide) (by decide)).1]; exact h6
  · rw [(h.1 47 (by decide) (by decide)).1]; exact h7
  · rw [(h.1 48 (by decide) (by decide)).1]; exact h8
  · rw [(h.1 48 (by decide) (by decide)).1]; exact h9
  · rw [(h.1 48 (by decide) (by decide)).1]; exact h10
  · rw [(h.1 49 (by decide) (by decide)).1]; exact h12
  · rw [(h.1 50 (by decide) (by decide)).1]; exact h13
theorem frL.keep {μ μ' : Mem} (h : frL μ μ') : keepX μ μ' := fun k hk => h.1 k (by omega) (by omega)
/-- the loop of keepRound -/
def KL (μ : Mem) (r : List Nat) (g i : Nat) (μ1 : Mem) : Prop := (∀ k, ¬ k = 52 → ¬ k = 53 → μ1.1 k = μ.1 k) ∧ μ1.2 = μ.2 ∧ (∀ j, ¬ j = g → μ1.1 52 j = μ.1 52 j) ∧ μ1.1 52 g = nI (bitsP (r.take i)) ∧ (∀ j, j < 8 * g → μ1.1 53 j = μ.1 53 j) ∧ (∀ j x, j < i → r[j]? = some x → μ1.1 53 (8 * g + j) = nI x)
theorem KL_s {μ μ1 : Mem} {r : List Nat} {g i x : Nat} (h : KL μ r g i μ1) (hx : r[i]? = some x) : KL μ r g (i + 1) (setI (setI μ1 53 (8 * g + i) (nI x)) 52 g (nI (bitsP (r.take i) ||| 2 ^ x))) := by
  obtain ⟨h1, h2, h3, h4, h5, h6⟩ := h
  have ht : r.take (i + 1) = r.take i ++ [x] := by
    rw [List.take_add_one, hx]
    rfl
  refine ⟨fun k a b => ?_, h2, fun j a => ?_, ?_, fun j a => ?_, fun j y a hy => ?_⟩
  · show (if k = 52 then _ else if k = 53 then _ else μ1.1 k) = _
    rw [if_neg a, if_neg b]
    exact h1 k a b
  · show upd (μ1.1 52) g _ j = _
    rw [upd_at, if_neg a]
    exact h3 j a
  · show upd (μ1.1 52) g _ g = _
    rw [upd_at, if_pos rfl, ht, bitsP_snoc]
  · show upd (μ1.1 53) (8 * g + i) _ j = _
    rw [upd_at, if_neg (by omega)]
    exact h5 j a
  · show upd (μ1.1 53) (8 * g + i) _ (8 * g + j) = _
    rw [upd_at]
    by_cases e : j = i
    · subst e
      rw [hx] at hy
      cases hy
      rw [if_pos rfl]
    · rw [if_neg (by omega)]
      exact h6 j y (by omega) hy

set_option maxRecDepth 20000 in
set_option maxHeartbeats 4000000 in
theorem m_keep_l {μ : Mem} {σ : Sg} {r : List Nat} {g U Lw : Nat} {Q : Option Value → Mem → Prop} (hO : Ok σ) (hg : μ.1 40 13 = nI g) (hg4 : g < 400) (hP : okP σ r) (hr8 : r.length ≤ 8) (hpl : ∀ i x, r[i]? = some x → μ.1 56 i = nI x) (hU : μ.2 57 r.length = lN U) (hLw : μ.2 58 r.length = lN Lw) (h : ∀ μ1, KL μ r g r.length μ1 → Q none (setI (setL (setL μ1 54 g (lN U)) 55 g (lN Lw)) 40 13 (nI (g + 1)))) : ∀ (k : Nat) (i : Nat) (μ1 : Mem), i + k = r.length → KL μ r g i μ1 → WP cX7_keepRound (RX7, 3, none, 0, none) 48 [(0, .ref 40), (1, .int (nI (r.length))), (2, .int (nI i))] [] μ1 Q := by
  intro k
  induction k using Nat.strongRecOn with
  | _ k ih =>
    intro i μ1 hi hK
    have hn := Ok_n hO
    refine r_iload_n (pc := 48) dX7_keepRound_48 rfl ?_
    refine r_iload_n (pc := 49) dX7_keepRound_49 rfl ?_
    refine rn_icmp_ge (pc := 50) (tgt := 99) dX7_keepRound_50 (by decide) (by omega) (by omega) (fun c50 => ?_) (fun c50 => ?_)
    · obtain rfl : i = r.length := by omega
      refine r_aload_n (pc := 99) dX7_keepRound_99 rfl ?_
      refine r_getR (pc := 100) (r := 54) dX7_keepRound_100 fX7_49 rfl rfl ?_
      refine r_aload_n (pc := 103) dX7_keepRound_103 rfl ?_
      refine r_getI (pc := 104) (x := (nI (g))) dX7_keepRound_104 fX7_117 rfl rfl (by show μ1.1 40 13 = _; rw [hK.1 40 (by decide) (by decide)]; exact hg) ?_
      refine r_aload_n (pc := 107) dX7_keepRound_107 rfl ?_
      refine r_getR (pc := 108) (r := 57) dX7_keepRound_108 fX7_59 rfl rfl ?_
      refine r_iload_n (pc := 111) dX7_keepRound_111 rfl ?_
      refine r_lald (pc := 112) (x := (lN (U))) dX7_keepRound_112 rfl rfl (by omega) (by show μ1.2 57 r.length = _; rw [hK.2.1]; exact hU) ?_
      refine r_last (pc := 113) dX7_keepRound_113 rfl rfl (by omega) ?_
      refine r_aload_n (pc := 114) dX7_keepRound_114 rfl ?_
      refine r_getR (pc := 115) (r := 55) dX7_keepRound_115 fX7_53 rfl rfl ?_
      refine r_aload_n (pc := 118) dX7_keepRound_118 rfl ?_
      refine r_getI (pc := 119) (x := (nI (g))) dX7_keepRound_119 fX7_117 rfl rfl (by show μ1.1 40 13 = _; rw [hK.1 40 (by decide) (by decide)]; exact hg) ?_
      refine r_aload_n (pc := 122) dX7_keepRound_122 rfl ?_
      refine r_getR (pc := 123) (r := 58) dX7_keepRound_123 fX7_62 rfl rfl ?_
      refine r_iload_n (pc := 126) dX7_keepRound_126 rfl ?_
      refine r_lald (pc := 127) (x := (lN (Lw))) dX7_keepRound_127 rfl rfl (by omega) (by show μ1.2 58 r.length = _; rw [hK.2.1]; exact hLw) ?_
      refine r_last (pc := 128) dX7_keepRound_128 rfl rfl (by omega) ?_
      refine r_aload_n (pc := 129) dX7_keepRound_129 rfl ?_
      refine r_dup_r (pc := 130) dX7_keepRound_130 ?_
      refine r_getI (pc := 131) (x := (nI (g))) dX7_keepRound_131 fX7_117 rfl rfl (by show μ1.1 40 13 = _; rw [hK.1 40 (by decide) (by decide)]; exact hg) ?_
      refine r_iconst (pc := 134) (v := (nI (1))) dX7_keepRound_134 (by decide) ?_
      refine rn_iadd (pc := 135) dX7_keepRound_135 ?_
      refine r_putI (pc := 136) dX7_keepRound_136 gX7_117 rfl rfl rfl rfl ?_
      refine r_return (pc := 139) dX7_keepRound_139 rfl ?_
      exact h μ1 hK
    · obtain ⟨x, hx⟩ : ∃ x, r[i]? = some x := ⟨r[i], List.getElem?_eq_getElem c50⟩
      have hx12 := hP x (List.mem_of_getElem? hx)
      refine r_aload_n (pc := 53) dX7_keepRound_53 rfl ?_
      refine r_getR (pc := 54) (r := 53) dX7_keepRound_54 fX7_46 rfl rfl ?_
      refine r_bipush (pc := 57) (v := (nI (8))) dX7_keepRound_57 (by decide) ?_
      refine r_aload_n (pc := 59) dX7_keepRound_59 rfl ?_
      refine r_getI (pc := 60) (x := (nI (g))) dX7_keepRound_60 fX7_117 rfl rfl (by show μ1.1 40 13 = _; rw [hK.1 40 (by decide) (by decide)]; exact hg) ?_
      refine rn_imul (pc := 63) dX7_keepRound_63 ?_
      refine r_iload_n (pc := 64) dX7_keepRound_64 rfl ?_
      refine rn_iadd (pc := 65) dX7_keepRound_65 ?_
      refine r_aload_n (pc := 66) dX7_keepRound_66 rfl ?_
      refine r_getR (pc := 67) (r := 56) dX7_keepRound_67 fX7_56 rfl rfl ?_
      refine r_iload_n (pc := 70) dX7_keepRound_70 rfl ?_
      refine r_iald (pc := 71) (x := (nI (x))) dX7_keepRound_71 rfl rfl (by omega) (by show μ1.1 56 i = _; rw [hK.1 56 (by decide) (by decide)]; exact hpl i x hx) ?_
      refine r_iast (pc := 72) dX7_keepRound_72 rfl rfl (by omega) ?_
      refine r_aload_n (pc := 73) dX7_keepRound_73 rfl ?_
      refine r_getR (pc := 74) (r := 52) dX7_keepRound_74 fX7_43 rfl rfl ?_
      refine r_aload_n (pc := 77) dX7_keepRound_77 rfl ?_
      refine r_getI (pc := 78) (x := (nI (g))) dX7_keepRound_78 fX7_117 rfl rfl (by show μ1.1 40 13 = _; rw [hK.1 40 (by decide) (by decide)]; exact hg) ?_
      refine r_dup2_ir (pc := 81) dX7_keepRound_81 ?_
      refine r_iald (pc := 82) (x := (nI (bitsP (r.take i)))) dX7_keepRound_82 rfl rfl (by omega) (by show μ1.1 52 g = _; exact hK.2.2.2.1) ?_
      refine r_iconst (pc := 83) (v := (nI (1))) dX7_keepRound_83 (by decide) ?_
      refine r_aload_n (pc := 84) dX7_keepRound_84 rfl ?_
      refine r_getR (pc := 85) (r := 56) dX7_keepRound_85 fX7_56 rfl rfl ?_
      refine r_iload_n (pc := 88) dX7_keepRound_88 rfl ?_
      refine r_iald (pc := 89) (x := (nI (x))) dX7_keepRound_89 rfl rfl (by omega) (by show μ1.1 56 i = _; rw [hK.1 56 (by decide) (by decide)]; exact hpl i x hx) ?_
      refine r_ishl (pc := 90) dX7_keepRound_90 ?_
      refine r_eqi (shl1 (by omega)) ?_
      refine r_ior (pc := 91) dX7_keepRound_91 ?_
      refine r_eqi (nI_or _ _) ?_
      refine r_iast (pc := 92) dX7_keepRound_92 rfl rfl (by omega) ?_
      refine rn_iinc (pc := 93) (b := 1) (ls' := [(0, .ref 40), (1, .int (nI (r.length))), (2, .int (nI (i + 1)))]) dX7_keepRound_93 rfl (by decide) (Nat.le_of_ble_eq_true rfl) rfl ?_
      refine r_goto (pc := 96) (tgt := 48) dX7_keepRound_96 (by decide) ?_
      exact ih (k - 1) (by omega) (i + 1) _ (by omega) (KL_s hK hx)

theorem GA_more {μ μ1 : Mem} {σ : Sg} {acc : List (List Nat)} {r : List Nat} {g : Nat} (hG : GA μ σ acc) (hge : g = (acc.filter (gnF σ)).length) (hgn : gnF σ r = true) (hok : ∀ q ∈ acc, q.length ≤ 8) (hr8 : r.length ≤ 8)
    (hK : KL (setI (setI (setI μ 40 12 (nI (acc.length + 1))) 51 g (nI r.length)) 52 g (nI 0)) r g r.length μ1) : GA (setI (setL (setL μ1 54 g (lN (pUp (σ 4) (σ 0 1) r))) 55 g (lN (pLow σ r))) 40 13 (nI (g + 1))) σ (acc ++ [r]) := by
  obtain ⟨h1, h2, h3⟩ := hG
  obtain ⟨k1, k2, k3, k4, k5, k6⟩ := hK
  have hf : (acc ++ [r]).filter (gnF σ) = acc.filter (gnF σ) ++ [r] := by
    rw [List.filter_append, List.filter_cons_of_pos hgn, List.filter_nil]
  refine ⟨?_, ?_, fun i q hq => ?_⟩
  · show upd (μ1.1 40) 13 (nI (g + 1)) 12 = _
    rw [upd_at, if_neg (by decide), k1 40 (by decide) (by decide), List.length_append]
    rfl
  · show upd (μ1.1 40) 13 (nI (g + 1)) 13 = _
    rw [upd_at, if_pos rfl, hf, List.length_append, ← hge]
    rfl
  · rw [hf] at hq
    by_cases e : i < g
    · rw [List.getElem?_append_left (by omega)] at hq
      obtain ⟨a1, a2, a3, a4, a5⟩ := h3 i q hq
      have hq8 := hok q (List.mem_filter.mp (List.mem_of_getElem? hq)).1
      refine ⟨?_, ?_, fun k x hx => ?_, ?_, ?_⟩
      · show μ1.1 51 i = _
        rw [k1 51 (by decide) (by decide)]
        show upd (μ.1 51) g _ i = _
        rw [upd_at, if_neg (by omega)]
        exact a1
      · show μ1.1 52 i = _
        rw [k3 i (by omega)]
        show upd (μ.1 52) g _ i = _
        rw [upd_at, if_neg (by omega)]
        exact a2
      · show μ1.1 53 (8 * i + k) = _
        have hk : k < q.length := (List.getElem?_eq_some_iff.mp hx).1
        rw [k5 _ (by omega)]
        exact a3 k x hx
      · show vp_updL (μ1.2 54) g _ i = _
        rw [show vp_updL (μ1.2 54) g (lN (pUp (σ 4) (σ 0 1) r)) i = μ1.2 54 i from if_neg (by omega), k2]
        exact a4
      · show vp_updL (μ1.2 55) g _ i = _
        rw [show vp_updL (μ1.2 55) g (lN (pLow σ r)) i = μ1.2 55 i from if_neg (by omega), k2]
        exact a5
    · have hl := (List.getElem?_eq_some_iff.mp hq).1
      rw [List.length_append, ← hge] at hl
      have e2 : i = g := by simp at hl; omega
      subst e2
      rw [List.getElem?_append_right (by omega), ← hge, Nat.sub_self] at hq
      cases hq
      refine ⟨?_, ?_, fun k x hx => ?_, ?_, ?_⟩
      · show μ1.1 51 i = _
        rw [k1 51 (by decide) (by decide)]
        show upd (μ.1 51) i _ i = _
        rw [upd_at, if_pos rfl]
      · show μ1.1 52 i = _
        rw [k4, List.take_length]
      · exact k6 k x (List.getElem?_eq_some_iff.mp hx).1 hx
      · exact if_pos rfl
      · exact if_pos rfl
theorem GA_skip {μ : Mem} {σ : Sg} {acc : List (List Nat)} {r : List Nat} (hG : GA μ σ acc) (hgn : gnF σ r = false) : GA (setI μ 40 12 (nI (acc.length + 1))) σ (acc ++ [r]) := by
  obtain ⟨h1, h2, h3⟩ := hG
  have hf : (acc ++ [r]).filter (gnF σ) = acc.filter (gnF σ) := by
    rw [List.filter_append, List.filter_cons_of_neg (by rw [hgn]; decide), List.filter_nil, List.append_nil]
  refine ⟨?_, ?_, fun i q hq => ?_⟩
  · show upd (μ.1 40) 12 (nI (acc.length + 1)) 12 = _
    rw [upd_at, if_pos rfl, List.length_append]
    rfl
  · show upd (μ.1 40) 12 (nI (acc.length + 1)) 13 = _
    rw [upd_at, if_neg (by decide), hf]
    exact h2
  · rw [hf] at hq
    exact h3 i q hq

set_option maxRecDepth 20000 in
set_option maxHeartbeats 4000000 in
theorem m_keep {μ : Mem} {σ : Sg} {acc : List (List Nat)} {r : List Nat} {Q : Option Value → Mem → Prop} (hM : Ms μ σ) (hO : Ok σ) (hG : GA μ σ acc) (ha : acc.length < 400) (hok : ∀ q ∈ acc, q.length ≤ 8) (hP : okP σ r) (hr8 : r.length ≤ 8) (hpl : ∀ i x, r[i]? = some x → μ.1 56 i = nI x) (hU : μ.2 57 r.length = lN (pUp (σ 4) (σ 0 1) r)) (hLw : μ.2 58 r.length = lN (pLow σ r)) (h : ∀ μ', GA μ' σ (acc ++ [r]) → frK μ μ' → Q none μ') : Sp iX7_keepRound 0 [.ref 40, .int (nI (r.length))] μ Q := by
  refine Sp.of vX7_keepRound.1 (Nat.le_of_ble_eq_true rfl) ?_
  show WP cX7_keepRound (RX7, 3, none, 0, none) 0 [(0, .ref 40), (1, .int (nI (r.length)))] [] μ Q
  have hn := Ok_n hO
  have hu := okP_up hO hP hr8
  have hl := okP_low hO hP hr8
  have hfl : (acc.filter (gnF σ)).length ≤ acc.length := List.length_filter_le _ _
  refine r_aload_n (pc := 0) dX7_keepRound_0 rfl ?_
  refine r_dup_r (pc := 1) dX7_keepRound_1 ?_
  refine r_getI (pc := 2) (x := (nI (acc.length))) dX7_keepRound_2 fX7_114 rfl rfl hG.1 ?_
  refine r_iconst (pc := 5) (v := (nI (1))) dX7_keepRound_5 (by decide) ?_
  refine rn_iadd (pc := 6) dX7_keepRound_6 ?_
  refine r_putI (pc := 7) dX7_keepRound_7 gX7_114 rfl rfl rfl rfl ?_
  refine r_aload_n (pc := 10) dX7_keepRound_10 rfl ?_
  refine r_getR (pc := 11) (r := 57) dX7_keepRound_11 fX7_59 rfl rfl ?_
  refine r_iload_n (pc := 14) dX7_keepRound_14 rfl ?_
  refine r_lald (pc := 15) (x := (lN (pUp (σ 4) (σ 0 1) r))) dX7_keepRound_15 rfl rfl (by omega) hU ?_
  refine r_aload_n (pc := 16) dX7_keepRound_16 rfl ?_
  refine r_getR (pc := 17) (r := 58) dX7_keepRound_17 fX7_62 rfl rfl ?_
  refine r_iload_n (pc := 20) dX7_keepRound_20 rfl ?_
  refine r_lald (pc := 21) (x := (lN (pLow σ r))) dX7_keepRound_21 rfl rfl (by omega) hLw ?_
  refine rn_lcmp (pc := 22) dX7_keepRound_22 (by omega) (by omega) ?_
  refine rc_if_le (pc := 23) (tgt := 139) dX7_keepRound_23 (by decide) (fun c23 => ?_) (fun c23 => ?_)
  · refine r_return (pc := 139) dX7_keepRound_139 rfl ?_
    refine h _ (GA_skip hG (by unfold gnF gns; exact decide_eq_false (by omega))) ⟨fun k a b => ⟨if_neg a, rfl⟩, fun j a b => ?_, rfl⟩
    show upd (μ.1 40) 12 _ j = _
    rw [upd_at, if_neg a]
  · refine r_aload_n (pc := 26) dX7_keepRound_26 rfl ?_
    refine r_getR (pc := 27) (r := 51) dX7_keepRound_27 fX7_40 rfl rfl ?_
    refine r_aload_n (pc := 30) dX7_keepRound_30 rfl ?_
    refine r_getI (pc := 31) (x := (nI ((acc.filter (gnF σ)).length))) dX7_keepRound_31 fX7_117 rfl rfl hG.2.1 ?_
    refine r_iload_n (pc := 34) dX7_keepRound_34 rfl ?_
    refine r_iast (pc := 35) dX7_keepRound_35 rfl rfl (by omega) ?_
    refine r_aload_n (pc := 36) dX7_keepRound_36 rfl ?_
    refine r_getR (pc := 37) (r := 52) dX7_keepRound_37 fX7_43 rfl rfl ?_
    refine r_aload_n (pc := 40) dX7_keepRound_40 rfl ?_
    refine r_getI (pc := 41) (x := (nI ((acc.filter (gnF σ)).length))) dX7_keepRound_41 fX7_117 rfl rfl hG.2.1 ?_
    refine r_iconst (pc := 44) (v := (nI (0))) dX7_keepRound_44 (by decide) ?_
    refine r_iast (pc := 45) dX7_keepRound_45 rfl rfl (by omega) ?_
    refine r_iconst (pc := 46) (v := (nI (0))) dX7_keepRound_46 (by decide) ?_
    refine r_istore_n (pc := 47) (ls' := [(0, .ref 40), (1, .int (nI (r.length))), (2, .int (nI 0))]) dX7_keepRound_47 (Nat.le_of_ble_eq_true rfl) rfl ?_
    refine m_keep_l (μ := setI (setI (setI μ 40 12 (nI (acc.length + 1))) 51 (acc.filter (gnF σ)).length (nI r.length)) 52 (acc.filter (gnF σ)).length (nI 0)) hO hG.2.1 (by omega) hP hr8 hpl hU hLw (fun μ1 hK => ?_) r.length 0 _ (by omega) ⟨fun _ _ _ => rfl, rfl, fun _ _ => rfl, ?_, fun _ _ => rfl, fun j x a => absurd a (Nat.not_lt_zero j)⟩
    · refine h _ (GA_more hG rfl (by unfold gnF gns; exact decide_eq_true (by omega)) hok hr8 hK) ⟨fun k a b => ⟨?_, ?_⟩, fun j a b => ?_, ?_⟩
      · show (if k = 40 then _ else μ1.1 k) = _
        rw [if_neg a, hK.1 k (by omega) (by omega)]
        show (if k = 52 then _ else if k = 51 then _ else if k = 40 then _ else μ.1 k) = _
        rw [if_neg (by omega), if_neg (by omega), if_neg a]
      · show (if k = 55 then _ else if k = 54 then _ else μ1.2 k) = _
        rw [if_neg (by omega), if_neg (by omega), hK.2.1]
        rfl
      · show upd (μ1.1 40) 13 _ j = _
        rw [upd_at, if_neg b, hK.1 40 (by decide) (by decide)]
        show upd (μ.1 40) 12 _ j = _
        rw [upd_at, if_neg a]
      · show μ1.2 40 = _
        rw [hK.2.1]
        rfl
    · show upd (μ.1 52) _ _ _ = _
      rw [upd_at, if_pos rfl]
      rfl

/-- the path behind us, in pile, up and low; what was found; the rest as it was -/
def NI (μ0 μ : Mem) (σ : Sg) (p : List Nat) (acc : List (List Nat)) : Prop := frL μ0 μ ∧ GA μ σ acc ∧ (∀ i x, p[i]? = some x → μ.1 56 i = nI x) ∧ (∀ i, i ≤ p.length → μ.2 57 i = lN (pUp (σ 4) (σ 0 1) (p.take i)) ∧ μ.2 58 i = lN (pLow σ (p.take i))) ∧ okP σ p ∧ (∀ q ∈ acc, q.length ≤ 8)
theorem NI_up {μ0 μ : Mem} {σ : Sg} {p : List Nat} {acc : List (List Nat)} (h : NI μ0 μ σ p acc) : μ.2 57 p.length = lN (pUp (σ 4) (σ 0 1) p) := by
  have := (h.2.2.2.1 p.length (Nat.le_refl _)).1
  rwa [List.take_length] at this
theorem NI_low {μ0 μ : Mem} {σ : Sg} {p : List Nat} {acc : List (List Nat)} (h : NI μ0 μ σ p acc) : μ.2 58 p.length = lN (pLow σ p) := by
  have := (h.2.2.2.1 p.length (Nat.le_refl _)).2
  rwa [List.take_length] at this
theorem NI_push {μ0 μ : Mem} {σ : Sg} {p : List Nat} {acc : List (List Nat)} {b : Nat} (h : NI μ0 μ σ p acc) (hb : b < σ 0 0) : NI μ0 (setL (setL (setI μ 56 p.length (nI b)) 57 (p.length + 1) (lN (pUp (σ 4) (σ 0 1) p * upR (σ 4 b) (σ 0 1)))) 58 (p.length + 1) (lN (pLow σ p * σ 2 b))) σ (p ++ [b]) acc := by
  obtain ⟨h1, h2, h3, h4, h5, h6⟩ := h
  refine ⟨frL.tr h1 ⟨fun k a c => ⟨if_neg (by omega), ?_⟩, fun j _ _ => rfl, rfl⟩, h2, fun i x hx => ?_, fun i hi => ?_, okP_snoc h5 hb, h6⟩
  · show (if k = 58 then _ else if k = 57 then _ else μ.2 k) = _
    rw [if_neg (by omega), if_neg (by omega)]
  · show upd (μ.1 56) p.length (nI b) i = _
    rw [upd_at]
    by_cases e : i = p.length
    · subst e
      rw [List.getElem?_append_right (Nat.le_refl _), Nat.sub_self] at hx
      cases hx
      rw [if_pos rfl]
    · have hl := (List.getElem?_eq_some_iff.mp hx).1
      rw [List.length_append] at hl
      simp at hl
      rw [List.getElem?_append_left (by omega)] at hx
      rw [if_neg e]
      exact h3 i x hx
  · rw [List.length_append] at hi
    show vp_updL (μ.2 57) (p.length + 1) _ i = _ ∧ vp_updL (μ.2 58) (p.length + 1) _ i = _
    by_cases e : i = p.length + 1
    · subst e
      rw [List.take_of_length_le (by simp), pUp_snoc, pLow_snoc]
      exact ⟨if_pos rfl, if_pos rfl⟩
    · have hi' : i ≤ p.length := by simp at hi; omega
      rw [List.take_append_of_le_length hi']
      exact ⟨(if_neg e).trans (h4 i hi').1, (if_neg e).trans (h4 i hi').2⟩
theorem NI_pop {μ0 μ : Mem} {σ : Sg} {p : List Nat} {acc : List (List Nat)} {b : Nat} (h : NI μ0 μ σ (p ++ [b]) acc) : NI μ0 μ σ p acc := by
  obtain ⟨h1, h2, h3, h4, h5, h6⟩ := h
  refine ⟨h1, h2, fun i x hx => h3 i x (by rw [List.getElem?_append_left (List.getElem?_eq_some_iff.mp hx).1]; exact hx), fun i hi => ?_, fun x hx => h5 x (List.mem_append_left _ hx), h6⟩
  have := h4 i (by rw [List.length_append]; omega)
  rwa [List.take_append_of_le_length hi] at this
theorem NI_keep {μ0 μ μ' : Mem} {σ : Sg} {p : List Nat} {acc acc' : List (List Nat)} (h : NI μ0 μ σ p acc) (hG : GA μ' σ acc') (hf : frK μ μ') (ha : ∀ q ∈ acc', q.length ≤ 8) : NI μ0 μ' σ p acc' := by
  obtain ⟨h1, h2, h3, h4, h5, h6⟩ := h
  refine ⟨frL.tr h1 hf.L, hG, fun i x hx => ?_, fun i hi => ?_, h5, ha⟩
  · rw [(hf.1 56 (by decide) (by decide)).1]; exact h3 i x hx
  · rw [(hf.1 57 (by decide) (by decide)).2, (hf.1 58 (by decide) (by decide)).2]; exact h4 i hi
theorem nI_dec1 (a : Nat) : nI (a + 1) + Int32.ofInt (-1) = nI a := nI_dec (a := a + 1) (b := 1) (by omega)
theorem sc_s (σ : Sg) (s f c seen : Nat) (p : List Nat) {k b : Nat} (h : b + (k + 1) = σ 0 0) : sc σ s f c seen p (k + 1) = Fb σ s f c seen p b ++ sc σ s f c seen p k := by
  show Fb σ s f c seen p (σ 0 0 - (k + 1)) ++ _ = _
  rw [show σ 0 0 - (k + 1) = b by omega]

set_option maxRecDepth 20000 in
set_option maxHeartbeats 4000000 in
theorem m_node {μ0 : Mem} {σ : Sg} {s : Nat} {Q : Option Value → Mem → Prop} (hM0 : Ms μ0 σ) (hO : Ok σ) (hs : s < 8) : ∀ (f k b c seen : Nat) (p : List Nat) (acc : List (List Nat)) (μ1 : Mem), b + k = σ 0 0 → f + p.length + 1 = 8 → c < 8 ∧ s ≤ c → seen < 2 ^ 8 → p.length + 1 ≤ cnt seen.testBit 8 → NI μ0 μ1 σ p acc → (acc ++ sc σ s f c seen p k).length ≤ 150 → (∀ μ2, NI μ0 μ2 σ p (acc ++ sc σ s f c seen p k) → WP cX7_layRounds (RX7, 11, none, 2, none) 48 [(0, .ref 40), (1, .int (nI 0)), (2, .int (nI s)), (3, .int (nI (p.length))), (4, .int (nI seen)), (5, .int (nI c)), (6, .int (nI (σ 0 0))), (7, .int (nI 1))] [] μ2 Q) → WP cX7_layRounds (RX7, 11, none, 2, none) 48 [(0, .ref 40), (1, .int (nI 0)), (2, .int (nI s)), (3, .int (nI (p.length))), (4, .int (nI seen)), (5, .int (nI c)), (6, .int (nI b)), (7, .int (nI 1))] [] μ1 Q := by
  have hn := Ok_n hO
  intro f
  induction f using Nat.strongRecOn with
  | _ f ihf =>
    intro k
    induction k with
    | zero =>
      intro b c seen p acc μ1 hbk hfp hc hse hcn hN hlen K
      obtain rfl : b = σ 0 0 := by omega
      exact K μ1 (by show NI μ0 μ1 σ p (acc ++ []); rw [List.append_nil]; exact hN)
    | succ k' ihk0 =>
      intro b c seen p acc μ1 hbk hfp hc hse hcn hN hlen K
      have ihk := fun b μ1 acc h1 h2 h3 h4 => ihk0 b c seen p acc μ1 h1 hfp hc hse hcn h2 h3 h4
      have hM1 := hN.1.Ms hM0
      have hb12 : b < 12 := by omega
      have hbb := Ok_b hO hb12
      have hup := upR_99 (f := σ 0 1) hbb.2.2.2.1
      have hal : acc.length ≤ 150 := by rw [List.length_append] at hlen; omega
      refine r_iload (pc := 48) dX7_layRounds_48 rfl ?_
      refine rn_if_eq (pc := 50) (tgt := 358) dX7_layRounds_50 (by decide) (by decide) (fun q => absurd q (by decide)) (fun _ => ?_)
      refine r_iload (pc := 53) dX7_layRounds_53 rfl ?_
      refine r_aload_n (pc := 55) dX7_layRounds_55 rfl ?_
      refine r_getI (pc := 56) (x := (nI (σ 0 0))) dX7_layRounds_56 fX7_81 rfl rfl (Ms_n (μ := μ1) hM1) ?_
      refine rn_icmp_ne (pc := 59) (tgt := 147) dX7_layRounds_59 (by decide) (by omega) (by omega) (fun c59 => ?_) (fun c59 => ?_)
      · refine r_aload_n (pc := 147) dX7_layRounds_147 rfl ?_
        refine r_getR (pc := 148) (r := 41) dX7_layRounds_148 fX7_7 rfl rfl ?_
        refine r_iload (pc := 151) dX7_layRounds_151 rfl ?_
        refine r_iald (pc := 153) (x := (nI (σ 1 (b)))) dX7_layRounds_153 rfl rfl (by omega) (Ms_1 (μ := μ1) hM1 (by omega)) ?_
        have b1 := Ok_b hO (j := b) (by omega)
        refine r_iload (pc := 154) dX7_layRounds_154 rfl ?_
        refine rn_icmp_ne (pc := 156) (tgt := 181) dX7_layRounds_156 (by decide) (by omega) (by omega) (fun c156 => ?_) (fun c156 => ?_)
        · refine r_iconst (pc := 181) (v := (nI (0))) dX7_layRounds_181 (by decide) ?_
          refine r_istore (pc := 182) (ls' := [(0, .ref 40), (1, .int (nI 0)), (2, .int (nI s)), (3, .int (nI (p.length))), (4, .int (nI seen)), (5, .int (nI c)), (6, .int (nI b)), (7, .int (nI 1)), (8, .int (nI 0))]) dX7_layRounds_182 (Nat.le_of_ble_eq_true rfl) rfl ?_
          refine r_iload (pc := 184) dX7_layRounds_184 rfl ?_
          refine rn_if_eq (pc := 186) (tgt := 204) dX7_layRounds_186 (by decide) (by decide) (fun _ => ?_) (fun q => absurd q (by decide))
          refine r_iconst (pc := 204) (v := (nI (0))) dX7_layRounds_204 (by decide) ?_
          refine r_istore (pc := 205) (ls' := [(0, .ref 40), (1, .int (nI 0)), (2, .int (nI s)), (3, .int (nI (p.length))), (4, .int (nI seen)), (5, .int (nI c)), (6, .int (nI b)), (7, .int (nI 1)), (8, .int (nI 0)), (9, .int (nI 0))]) dX7_layRounds_205 (Nat.le_of_ble_eq_true rfl) rfl ?_
          refine r_iload (pc := 207) dX7_layRounds_207 rfl ?_
          refine rn_if_eq (pc := 209) (tgt := 242) dX7_layRounds_209 (by decide) (by decide) (fun _ => ?_) (fun q => absurd q (by decide))
          refine r_iconst (pc := 242) (v := (nI (0))) dX7_layRounds_242 (by decide) ?_
          refine r_istore (pc := 243) (ls' := [(0, .ref 40), (1, .int (nI 0)), (2, .int (nI s)), (3, .int (nI (p.length))), (4, .int (nI seen)), (5, .int (nI c)), (6, .int (nI b)), (7, .int (nI 1)), (8, .int (nI 0)), (9, .int (nI 0)), (10, .int (nI 0))]) dX7_layRounds_243 (Nat.le_of_ble_eq_true rfl) rfl ?_
          refine r_iload (pc := 245) dX7_layRounds_245 rfl ?_
          refine rn_if_ne (pc := 247) (tgt := 255) dX7_layRounds_247 (by decide) (by decide) (fun q => absurd q (by decide)) (fun _ => ?_)
          refine r_iload (pc := 250) dX7_layRounds_250 rfl ?_
          refine rn_if_eq (pc := 252) (tgt := 308) dX7_layRounds_252 (by decide) (by decide) (fun _ => ?_) (fun q => absurd q (by decide))
          refine r_iload (pc := 308) dX7_layRounds_308 rfl ?_
          refine rn_if_eq (pc := 310) (tgt := 320) dX7_layRounds_310 (by decide) (by decide) (fun _ => ?_) (fun q => absurd q (by decide))
          refine r_iload (pc := 320) dX7_layRounds_320 rfl ?_
          refine rn_if_eq (pc := 322) (tgt := 352) dX7_layRounds_322 (by decide) (by decide) (fun _ => ?_) (fun q => absurd q (by decide))
          refine rn_iinc (pc := 352) (b := 1) (ls' := [(0, .ref 40), (1, .int (nI 0)), (2, .int (nI s)), (3, .int (nI (p.length))), (4, .int (nI seen)), (5, .int (nI c)), (6, .int (nI (b + 1))), (7, .int (nI 1)), (8, .int (nI 0)), (9, .int (nI 0)), (10, .int (nI 0))]) dX7_layRounds_352 rfl (by decide) (Nat.le_of_ble_eq_true rfl) rfl ?_
          refine r_goto (pc := 355) (tgt := 48) dX7_layRounds_355 (by decide) ?_
          have hF : Fb σ s f c seen p b = [] := if_neg (fun q => c156 q.1)
          refine r_pick (ls' := [(0, .ref 40), (1, .int (nI 0)), (2, .int (nI s)), (3, .int (nI (p.length))), (4, .int (nI seen)), (5, .int (nI c)), (6, .int (nI (b + 1))), (7, .int (nI 1))]) [0, 1, 2, 3, 4, 5, 6, 7] rfl ?_
          rw [sc_s σ s f c seen p (k := k') hbk] at hlen K
          rw [hF, List.nil_append] at hlen K
          exact ihk (b + 1) μ1 acc (by omega) hN hlen K
        · refine r_iload_n (pc := 159) dX7_layRounds_159 rfl ?_
          refine r_iload (pc := 160) dX7_layRounds_160 rfl ?_
          refine r_ishr (pc := 162) dX7_layRounds_162 ?_
          refine r_eqi (y := nI 0) (by rw [shrN (by decide) (by omega), Nat.zero_div]) ?_
          refine r_iconst (pc := 163) (v := (nI (1))) dX7_layRounds_163 (by decide) ?_
          refine r_iand (pc := 164) dX7_layRounds_164 ?_
          refine r_eqi (y := nI 0) (by decide) ?_
          refine rn_if_ne (pc := 165) (tgt := 181) dX7_layRounds_165 (by decide) (by decide) (fun q => absurd q (by decide)) (fun _ => ?_)
          refine r_aload_n (pc := 168) dX7_layRounds_168 rfl ?_
          refine r_iload (pc := 169) dX7_layRounds_169 rfl ?_
          refine r_callV (pc := 171) (d' := 1) (k := 40) (As := [.int (nI b)]) (rest := []) dX7_layRounds_171 vX7_isOpen mX7_97 rfl rfl rfl (Nat.le_of_ble_eq_true rfl) (Nat.le_of_ble_eq_true rfl) ?_
          refine c_mopen (μ := μ1) hM1 hO (by omega) ?_
          refine rb_if_eq (pc := 174) (tgt := 181) dX7_layRounds_174 (by decide) (fun c174 => ?_) (fun c174 => ?_)
          · refine r_iconst (pc := 181) (v := (nI (0))) dX7_layRounds_181 (by decide) ?_
            refine r_istore (pc := 182) (ls' := [(0, .ref 40), (1, .int (nI 0)), (2, .int (nI s)), (3, .int (nI (p.length))), (4, .int (nI seen)), (5, .int (nI c)), (6, .int (nI b)), (7, .int (nI 1)), (8, .int (nI 0))]) dX7_layRounds_182 (Nat.le_of_ble_eq_true rfl) rfl ?_
            refine r_iload (pc := 184) dX7_layRounds_184 rfl ?_
            refine rn_if_eq (pc := 186) (tgt := 204) dX7_layRounds_186 (by decide) (by decide) (fun _ => ?_) (fun q => absurd q (by decide))
            refine r_iconst (pc := 204) (v := (nI (0))) dX7_layRounds_204 (by decide) ?_
            refine r_istore (pc := 205) (ls' := [(0, .ref 40), (1, .int (nI 0)), (2, .int (nI s)), (3, .int (nI (p.length))), (4, .int (nI seen)), (5, .int (nI c)), (6, .int (nI b)), (7, .int (nI 1)), (8, .int (nI 0)), (9, .int (nI 0))]) dX7_layRounds_205 (Nat.le_of_ble_eq_true rfl) rfl ?_
            refine r_iload (pc := 207) dX7_layRounds_207 rfl ?_
            refine rn_if_eq (pc := 209) (tgt := 242) dX7_layRounds_209 (by decide) (by decide) (fun _ => ?_) (fun q => absurd q (by decide))
            refine r_iconst (pc := 242) (v := (nI (0))) dX7_layRounds_242 (by decide) ?_
            refine r_istore (pc := 243) (ls' := [(0, .ref 40), (1, .int (nI 0)), (2, .int (nI s)), (3, .int (nI (p.length))), (4, .int (nI seen)), (5, .int (nI c)), (6, .int (nI b)), (7, .int (nI 1)), (8, .int (nI 0)), (9, .int (nI 0)), (10, .int (nI 0))]) dX7_layRounds_243 (Nat.le_of_ble_eq_true rfl) rfl ?_
            refine r_iload (pc := 245) dX7_layRounds_245 rfl ?_
            refine rn_if_ne (pc := 247) (tgt := 255) dX7_layRounds_247 (by decide) (by decide) (fun q => absurd q (by decide)) (fun _ => ?_)
            refine r_iload (pc := 250) dX7_layRounds_250 rfl ?_
            refine rn_if_eq (pc := 252) (tgt := 308) dX7_layRounds_252 (by decide) (by decide) (fun _ => ?_) (fun q => absurd q (by decide))
            refine r_iload (pc := 308) dX7_layRounds_308 rfl ?_
            refine rn_if_eq (pc := 310) (tgt := 320) dX7_layRounds_310 (by decide) (by decide) (fun _ => ?_) (fun q => absurd q (by decide))
            refine r_iload (pc := 320) dX7_layRounds_320 rfl ?_
            refine rn_if_eq (pc := 322) (tgt := 352) dX7_layRounds_322 (by decide) (by decide) (fun _ => ?_) (fun q => absurd q (by decide))
            refine rn_iinc (pc := 352) (b := 1) (ls' := [(0, .ref 40), (1, .int (nI 0)), (2, .int (nI s)), (3, .int (nI (p.length))), (4, .int (nI seen)), (5, .int (nI c)), (6, .int (nI (b + 1))), (7, .int (nI 1)), (8, .int (nI 0)), (9, .int (nI 0)), (10, .int (nI 0))]) dX7_layRounds_352 rfl (by decide) (Nat.le_of_ble_eq_true rfl) rfl ?_
            refine r_goto (pc := 355) (tgt := 48) dX7_layRounds_355 (by decide) ?_
            have hF : Fb σ s f c seen p b = [] := if_neg (fun q => by rw [c174] at q; exact absurd q.2 (by decide))
            refine r_pick (ls' := [(0, .ref 40), (1, .int (nI 0)), (2, .int (nI s)), (3, .int (nI (p.length))), (4, .int (nI seen)), (5, .int (nI c)), (6, .int (nI (b + 1))), (7, .int (nI 1))]) [0, 1, 2, 3, 4, 5, 6, 7] rfl ?_
            rw [sc_s σ s f c seen p (k := k') hbk] at hlen K
            rw [hF, List.nil_append] at hlen K
            exact ihk (b + 1) μ1 acc (by omega) hN hlen K
          · refine r_iconst (pc := 177) (v := (nI (1))) dX7_layRounds_177 (by decide) ?_
            refine r_goto (pc := 178) (tgt := 182) dX7_layRounds_178 (by decide) ?_
            refine r_istore (pc := 182) (ls' := [(0, .ref 40), (1, .int (nI 0)), (2, .int (nI s)), (3, .int (nI (p.length))), (4, .int (nI seen)), (5, .int (nI c)), (6, .int (nI b)), (7, .int (nI 1)), (8, .int (nI 1))]) dX7_layRounds_182 (Nat.le_of_ble_eq_true rfl) rfl ?_
            refine r_iload (pc := 184) dX7_layRounds_184 rfl ?_
            refine rn_if_eq (pc := 186) (tgt := 204) dX7_layRounds_186 (by decide) (by decide) (fun q => absurd q (by decide)) (fun _ => ?_)
            refine r_aload_n (pc := 189) dX7_layRounds_189 rfl ?_
            refine r_getR (pc := 190) (r := 43) dX7_layRounds_190 fX7_16 rfl rfl ?_
            refine r_iload (pc := 193) dX7_layRounds_193 rfl ?_
            refine r_iald (pc := 195) (x := (nI (σ 3 (b)))) dX7_layRounds_195 rfl rfl (by omega) (Ms_3 (μ := μ1) hM1 (by omega)) ?_
            have b2 := Ok_b hO (j := b) (by omega)
            refine r_iload_n (pc := 196) dX7_layRounds_196 rfl ?_
            refine rn_icmp_ne (pc := 197) (tgt := 204) dX7_layRounds_197 (by decide) (by omega) (by omega) (fun c197 => ?_) (fun c197 => ?_)
            · refine r_iconst (pc := 204) (v := (nI (0))) dX7_layRounds_204 (by decide) ?_
              refine r_istore (pc := 205) (ls' := [(0, .ref 40), (1, .int (nI 0)), (2, .int (nI s)), (3, .int (nI (p.length))), (4, .int (nI seen)), (5, .int (nI c)), (6, .int (nI b)), (7, .int (nI 1)), (8, .int (nI 1)), (9, .int (nI 0))]) dX7_layRounds_205 (Nat.le_of_ble_eq_true rfl) rfl ?_
              refine r_iload (pc := 207) dX7_layRounds_207 rfl ?_
              refine rn_if_eq (pc := 209) (tgt := 242) dX7_layRounds_209 (by decide) (by decide) (fun q => absurd q (by decide)) (fun _ => ?_)
              refine r_aload_n (pc := 212) dX7_layRounds_212 rfl ?_
              refine r_getR (pc := 213) (r := 43) dX7_layRounds_213 fX7_16 rfl rfl ?_
              refine r_iload (pc := 216) dX7_layRounds_216 rfl ?_
              refine r_iald (pc := 218) (x := (nI (σ 3 (b)))) dX7_layRounds_218 rfl rfl (by omega) (Ms_3 (μ := μ1) hM1 (by omega)) ?_
              have b3 := Ok_b hO (j := b) (by omega)
              refine r_iload_n (pc := 219) dX7_layRounds_219 rfl ?_
              refine rn_icmp_le (pc := 220) (tgt := 242) dX7_layRounds_220 (by decide) (by omega) (by omega) (fun c220 => ?_) (fun c220 => ?_)
              · refine r_iconst (pc := 242) (v := (nI (0))) dX7_layRounds_242 (by decide) ?_
                refine r_istore (pc := 243) (ls' := [(0, .ref 40), (1, .int (nI 0)), (2, .int (nI s)), (3, .int (nI (p.length))), (4, .int (nI seen)), (5, .int (nI c)), (6, .int (nI b)), (7, .int (nI 1)), (8, .int (nI 1)), (9, .int (nI 0)), (10, .int (nI 0))]) dX7_layRounds_243 (Nat.le_of_ble_eq_true rfl) rfl ?_
                refine r_iload (pc := 245) dX7_layRounds_245 rfl ?_
                refine rn_if_ne (pc := 247) (tgt := 255) dX7_layRounds_247 (by decide) (by decide) (fun q => absurd q (by decide)) (fun _ => ?_)
                refine r_iload (pc := 250) dX7_layRounds_250 rfl ?_
                refine rn_if_eq (pc := 252) (tgt := 308) dX7_layRounds_252 (by decide) (by decide) (fun _ => ?_) (fun q => absurd q (by decide))
                refine r_iload (pc := 308) dX7_layRounds_308 rfl ?_
                refine rn_if_eq (pc := 310) (tgt := 320) dX7_layRounds_310 (by decide) (by decide) (fun _ => ?_) (fun q => absurd q (by decide))
                refine r_iload (pc := 320) dX7_layRounds_320 rfl ?_
                refine rn_if_eq (pc := 322) (tgt := 352) dX7_layRounds_322 (by decide) (by decide) (fun _ => ?_) (fun q => absurd q (by decide))
                refine rn_iinc (pc := 352) (b := 1) (ls' := [(0, .ref 40), (1, .int (nI 0)), (2, .int (nI s)), (3, .int (nI (p.length))), (4, .int (nI seen)), (5, .int (nI c)), (6, .int (nI (b + 1))), (7, .int (nI 1)), (8, .int (nI 1)), (9, .int (nI 0)), (10, .int (nI 0))]) dX7_layRounds_352 rfl (by decide) (Nat.le_of_ble_eq_true rfl) rfl ?_
                refine r_goto (pc := 355) (tgt := 48) dX7_layRounds_355 (by decide) ?_
                have hF : Fb σ s f c seen p b = [] := by rw [Fb, if_pos ⟨c156, c174⟩, if_neg c197, if_neg (fun q => absurd q.1 (by omega))]
                refine r_pick (ls' := [(0, .ref 40), (1, .int (nI 0)), (2, .int (nI s)), (3, .int (nI (p.length))), (4, .int (nI seen)), (5, .int (nI c)), (6, .int (nI (b + 1))), (7, .int (nI 1))]) [0, 1, 2, 3, 4, 5, 6, 7] rfl ?_
                rw [sc_s σ s f c seen p (k := k') hbk] at hlen K
                rw [hF, List.nil_append] at hlen K
                exact ihk (b + 1) μ1 acc (by omega) hN hlen K
              · refine r_iload (pc := 223) dX7_layRounds_223 rfl ?_
                refine r_aload_n (pc := 225) dX7_layRounds_225 rfl ?_
                refine r_getR (pc := 226) (r := 43) dX7_layRounds_226 fX7_16 rfl rfl ?_
                refine r_iload (pc := 229) dX7_layRounds_229 rfl ?_
                refine r_iald (pc := 231) (x := (nI (σ 3 (b)))) dX7_layRounds_231 rfl rfl (by omega) (Ms_3 (μ := μ1) hM1 (by omega)) ?_
                have b4 := Ok_b hO (j := b) (by omega)
                refine r_ishr (pc := 232) dX7_layRounds_232 ?_
                refine r_eqi (shrN (by omega) (by omega)) ?_
                refine r_iconst (pc := 233) (v := (nI (1))) dX7_layRounds_233 (by decide) ?_
                refine r_iand (pc := 234) dX7_layRounds_234 ?_
                refine r_eqi (and1 (Nat.lt_of_le_of_lt (Nat.div_le_self _ _) (by omega))) ?_
                refine rn_if_ne (pc := 235) (tgt := 242) dX7_layRounds_235 (by decide) (by omega) (fun c235 => ?_) (fun c235 => ?_)
                · refine r_iconst (pc := 242) (v := (nI (0))) dX7_layRounds_242 (by decide) ?_
                  refine r_istore (pc := 243) (ls' := [(0, .ref 40), (1, .int (nI 0)), (2, .int (nI s)), (3, .int (nI (p.length))), (4, .int (nI seen)), (5, .int (nI c)), (6, .int (nI b)), (7, .int (nI 1)), (8, .int (nI 1)), (9, .int (nI 0)), (10, .int (nI 0))]) dX7_layRounds_243 (Nat.le_of_ble_eq_true rfl) rfl ?_
                  refine r_iload (pc := 245) dX7_layRounds_245 rfl ?_
                  refine rn_if_ne (pc := 247) (tgt := 255) dX7_layRounds_247 (by decide) (by decide) (fun q => absurd q (by decide)) (fun _ => ?_)
                  refine r_iload (pc := 250) dX7_layRounds_250 rfl ?_
                  refine rn_if_eq (pc := 252) (tgt := 308) dX7_layRounds_252 (by decide) (by decide) (fun _ => ?_) (fun q => absurd q (by decide))
                  refine r_iload (pc := 308) dX7_layRounds_308 rfl ?_
                  refine rn_if_eq (pc := 310) (tgt := 320) dX7_layRounds_310 (by decide) (by decide) (fun _ => ?_) (fun q => absurd q (by decide))
                  refine r_iload (pc := 320) dX7_layRounds_320 rfl ?_
                  refine rn_if_eq (pc := 322) (tgt := 352) dX7_layRounds_322 (by decide) (by decide) (fun _ => ?_) (fun q => absurd q (by decide))
                  refine rn_iinc (pc := 352) (b := 1) (ls' := [(0, .ref 40), (1, .int (nI 0)), (2, .int (nI s)), (3, .int (nI (p.length))), (4, .int (nI seen)), (5, .int (nI c)), (6, .int (nI (b + 1))), (7, .int (nI 1)), (8, .int (nI 1)), (9, .int (nI 0)), (10, .int (nI 0))]) dX7_layRounds_352 rfl (by decide) (Nat.le_of_ble_eq_true rfl) rfl ?_
                  refine r_goto (pc := 355) (tgt := 48) dX7_layRounds_355 (by decide) ?_
                  have hF : Fb σ s f c seen p b = [] := by rw [Fb, if_pos ⟨c156, c174⟩, if_neg c197, if_neg (fun q => c235 (tb_0.mpr q.2))]
                  refine r_pick (ls' := [(0, .ref 40), (1, .int (nI 0)), (2, .int (nI s)), (3, .int (nI (p.length))), (4, .int (nI seen)), (5, .int (nI c)), (6, .int (nI (b + 1))), (7, .int (nI 1))]) [0, 1, 2, 3, 4, 5, 6, 7] rfl ?_
                  rw [sc_s σ s f c seen p (k := k') hbk] at hlen K
                  rw [hF, List.nil_append] at hlen K
                  exact ihk (b + 1) μ1 acc (by omega) hN hlen K
                · refine r_iconst (pc := 238) (v := (nI (1))) dX7_layRounds_238 (by decide) ?_
                  refine r_goto (pc := 239) (tgt := 243) dX7_layRounds_239 (by decide) ?_
                  refine r_istore (pc := 243) (ls' := [(0, .ref 40), (1, .int (nI 0)), (2, .int (nI s)), (3, .int (nI (p.length))), (4, .int (nI seen)), (5, .int (nI c)), (6, .int (nI b)), (7, .int (nI 1)), (8, .int (nI 1)), (9, .int (nI 0)), (10, .int (nI 1))]) dX7_layRounds_243 (Nat.le_of_ble_eq_true rfl) rfl ?_
                  refine r_iload (pc := 245) dX7_layRounds_245 rfl ?_
                  refine rn_if_ne (pc := 247) (tgt := 255) dX7_layRounds_247 (by decide) (by decide) (fun q => absurd q (by decide)) (fun _ => ?_)
                  refine r_iload (pc := 250) dX7_layRounds_250 rfl ?_
                  refine rn_if_eq (pc := 252) (tgt := 308) dX7_layRounds_252 (by decide) (by decide) (fun q => absurd q (by decide)) (fun _ => ?_)
                  refine r_aload_n (pc := 255) dX7_layRounds_255 rfl ?_
                  refine r_getR (pc := 256) (r := 56) dX7_layRounds_256 fX7_56 rfl rfl ?_
                  refine r_iload_n (pc := 259) dX7_layRounds_259 rfl ?_
                  refine r_iload (pc := 260) dX7_layRounds_260 rfl ?_
                  refine r_iast (pc := 262) dX7_layRounds_262 rfl rfl (by omega) ?_
                  refine r_aload_n (pc := 263) dX7_layRounds_263 rfl ?_
                  refine r_getR (pc := 264) (r := 57) dX7_layRounds_264 fX7_59 rfl rfl ?_
                  refine r_iload_n (pc := 267) dX7_layRounds_267 rfl ?_
                  refine r_iconst (pc := 268) (v := (nI (1))) dX7_layRounds_268 (by decide) ?_
                  refine rn_iadd (pc := 269) dX7_layRounds_269 ?_
                  refine r_aload_n (pc := 270) dX7_layRounds_270 rfl ?_
                  refine r_getR (pc := 271) (r := 57) dX7_layRounds_271 fX7_59 rfl rfl ?_
                  refine r_iload_n (pc := 274) dX7_layRounds_274 rfl ?_
                  refine r_lald (pc := 275) (x := (lN (pUp (σ 4) (σ 0 1) p))) dX7_layRounds_275 rfl rfl (by omega) (NI_up (μ := μ1) hN) ?_
                  refine r_aload_n (pc := 276) dX7_layRounds_276 rfl ?_
                  refine r_iload (pc := 277) dX7_layRounds_277 rfl ?_
                  refine r_callV (pc := 279) (d' := 0) (k := 40) (As := [.int (nI b)]) (rest := [.long (lN (pUp (σ 4) (σ 0 1) p)), .int (nI ((p.length) + (1))), .ref 57]) dX7_layRounds_279 vX7_upper mX7_100 rfl rfl rfl (Nat.le_of_ble_eq_true rfl) (Nat.le_of_ble_eq_true rfl) ?_
                  refine c_mupper (μ := (setI μ1 56 (p.length) (nI (b)))) hM1 hO (by omega) ?_
                  refine rn_i2l (pc := 282) dX7_layRounds_282 (by omega) ?_
                  refine rn_lmul (pc := 283) dX7_layRounds_283 ?_
                  refine r_last (pc := 284) dX7_layRounds_284 rfl rfl (by omega) ?_
                  refine r_aload_n (pc := 285) dX7_layRounds_285 rfl ?_
                  refine r_getR (pc := 286) (r := 58) dX7_layRounds_286 fX7_62 rfl rfl ?_
                  refine r_iload_n (pc := 289) dX7_layRounds_289 rfl ?_
                  refine r_iconst (pc := 290) (v := (nI (1))) dX7_layRounds_290 (by decide) ?_
                  refine rn_iadd (pc := 291) dX7_layRounds_291 ?_
                  refine r_aload_n (pc := 292) dX7_layRounds_292 rfl ?_
                  refine r_getR (pc := 293) (r := 58) dX7_layRounds_293 fX7_62 rfl rfl ?_
                  refine r_iload_n (pc := 296) dX7_layRounds_296 rfl ?_
                  refine r_lald (pc := 297) (x := (lN (pLow σ p))) dX7_layRounds_297 rfl rfl (by omega) (NI_low (μ := μ1) hN) ?_
                  refine r_aload_n (pc := 298) dX7_layRounds_298 rfl ?_
                  refine r_getR (pc := 299) (r := 42) dX7_layRounds_299 fX7_13 rfl rfl ?_
                  refine r_iload (pc := 302) dX7_layRounds_302 rfl ?_
                  refine r_iald (pc := 304) (x := (nI (σ 2 (b)))) dX7_layRounds_304 rfl rfl (by omega) (Ms_2 (μ := μ1) hM1 (by omega)) ?_
                  have b5 := Ok_b hO (j := b) (by omega)
                  refine rn_i2l (pc := 305) dX7_layRounds_305 (by omega) ?_
                  refine rn_lmul (pc := 306) dX7_layRounds_306 ?_
                  refine r_last (pc := 307) dX7_layRounds_307 rfl rfl (by omega) ?_
                  obtain ⟨μ3, hμ3⟩ : ∃ m, m = (setL (setL (setI μ1 56 (p.length) (nI (b))) 57 ((p.length) + (1)) (lN (pUp (σ 4) (σ 0 1) p * upR (σ 4 (b)) (σ 0 1)))) 58 ((p.length) + (1)) (lN (pLow σ p * σ 2 (b)))) := ⟨_, rfl⟩
                  rw [← hμ3]
                  have hN3 : NI μ0 μ3 σ (p ++ [b]) acc := by rw [hμ3]; exact NI_push (b := b) hN (by omega)
                  have hM3 := hN3.1.Ms hM0
                  refine r_iload (pc := 308) dX7_layRounds_308 rfl ?_
                  refine rn_if_eq (pc := 310) (tgt := 320) dX7_layRounds_310 (by decide) (by decide) (fun _ => ?_) (fun q => absurd q (by decide))
                  refine r_iload (pc := 320) dX7_layRounds_320 rfl ?_
                  refine rn_if_eq (pc := 322) (tgt := 352) dX7_layRounds_322 (by decide) (by decide) (fun q => absurd q (by decide)) (fun _ => ?_)
                  refine r_aload_n (pc := 325) dX7_layRounds_325 rfl ?_
                  refine r_getR (pc := 326) (r := 43) dX7_layRounds_326 fX7_16 rfl rfl ?_
                  refine r_iload (pc := 329) dX7_layRounds_329 rfl ?_
                  refine r_iald (pc := 331) (x := (nI (σ 3 (b)))) dX7_layRounds_331 rfl rfl (by omega) (Ms_3 (μ := μ3) hM3 (by omega)) ?_
                  have b6 := Ok_b hO (j := b) (by omega)
                  refine r_istore (pc := 332) (ls' := [(0, .ref 40), (1, .int (nI 0)), (2, .int (nI s)), (3, .int (nI (p.length))), (4, .int (nI seen)), (5, .int (nI (σ 3 (b)))), (6, .int (nI b)), (7, .int (nI 1)), (8, .int (nI 1)), (9, .int (nI 0)), (10, .int (nI 1))]) dX7_layRounds_332 (Nat.le_of_ble_eq_true rfl) rfl ?_
                  refine r_iload (pc := 334) dX7_layRounds_334 rfl ?_
                  refine r_iconst (pc := 336) (v := (nI (1))) dX7_layRounds_336 (by decide) ?_
                  refine r_iload (pc := 337) dX7_layRounds_337 rfl ?_
                  refine r_ishl (pc := 339) dX7_layRounds_339 ?_
                  refine r_eqi (shl1 (by omega)) ?_
                  refine r_ior (pc := 340) dX7_layRounds_340 ?_
                  refine r_eqi (nI_or _ _) ?_
                  refine r_istore (pc := 341) (ls' := [(0, .ref 40), (1, .int (nI 0)), (2, .int (nI s)), (3, .int (nI (p.length))), (4, .int (nI ((seen) ||| (2 ^ (σ 3 (b)))))), (5, .int (nI (σ 3 (b)))), (6, .int (nI b)), (7, .int (nI 1)), (8, .int (nI 1)), (9, .int (nI 0)), (10, .int (nI 1))]) dX7_layRounds_341 (Nat.le_of_ble_eq_true rfl) rfl ?_
                  refine rn_iinc (pc := 343) (b := 1) (ls' := [(0, .ref 40), (1, .int (nI 0)), (2, .int (nI s)), (3, .int (nI (p.length + 1))), (4, .int (nI ((seen) ||| (2 ^ (σ 3 (b)))))), (5, .int (nI (σ 3 (b)))), (6, .int (nI b)), (7, .int (nI 1)), (8, .int (nI 1)), (9, .int (nI 0)), (10, .int (nI 1))]) dX7_layRounds_343 rfl (by decide) (Nat.le_of_ble_eq_true rfl) rfl ?_
                  refine r_iconst (pc := 346) (v := (nI (0))) dX7_layRounds_346 (by decide) ?_
                  refine r_istore (pc := 347) (ls' := [(0, .ref 40), (1, .int (nI 0)), (2, .int (nI s)), (3, .int (nI (p.length + 1))), (4, .int (nI ((seen) ||| (2 ^ (σ 3 (b)))))), (5, .int (nI (σ 3 (b)))), (6, .int (nI 0)), (7, .int (nI 1)), (8, .int (nI 1)), (9, .int (nI 0)), (10, .int (nI 1))]) dX7_layRounds_347 (Nat.le_of_ble_eq_true rfl) rfl ?_
                  refine r_goto (pc := 349) (tgt := 355) dX7_layRounds_349 (by decide) ?_
                  refine r_goto (pc := 355) (tgt := 48) dX7_layRounds_355 (by decide) ?_
                  have hst : seen.testBit (σ 3 b) = false := tb_0.mp c235
                  have hF : Fb σ s f c seen p b = dfs σ s f (σ 3 b) (seen ||| 2 ^ σ 3 b) (p ++ [b]) := by rw [Fb, if_pos ⟨c156, c174⟩, if_neg c197, if_pos ⟨by omega, hst⟩]
                  have hroom := seen_room hcn (by omega) hst
                  obtain ⟨f1, rfl⟩ : ∃ f1, f = f1 + 1 := ⟨f - 1, by omega⟩
                  refine r_pick (ls' := [(0, .ref 40), (1, .int (nI 0)), (2, .int (nI s)), (3, .int (nI (p.length + 1))), (4, .int (nI ((seen) ||| (2 ^ (σ 3 (b)))))), (5, .int (nI (σ 3 (b)))), (6, .int (nI 0)), (7, .int (nI 1))]) [0, 1, 2, 3, 4, 5, 6, 7] rfl ?_
                  rw [show p.length + 1 = (p ++ [b]).length by simp]
                  rw [sc_s σ s (f1 + 1) c seen p (k := k') hbk] at hlen K
                  rw [hF, dfs_sc] at hlen K
                  refine ihf f1 (by omega) (σ 0 0) 0 (σ 3 b) (seen ||| 2 ^ σ 3 b) (p ++ [b]) acc _ (by omega) (by simp; omega) ⟨by omega, by omega⟩ (or_lt hse (Nat.pow_lt_pow_right (by decide) (by omega))) (by simp; exact hroom.2) hN3 (by simp at hlen ⊢; omega) (fun μ5 h5 => ?_)
                  have hN6 := NI_pop h5
                  have hM6 := h5.1.Ms hM0
                  have hpb : μ5.1 56 p.length = nI b := h5.2.2.1 p.length b (by simp)
                  rw [show (p ++ [b]).length = p.length + 1 by simp]
                  refine r_iload (pc := 48) dX7_layRounds_48 rfl ?_
                  refine rn_if_eq (pc := 50) (tgt := 358) dX7_layRounds_50 (by decide) (by decide) (fun q => absurd q (by decide)) (fun _ => ?_)
                  refine r_iload (pc := 53) dX7_layRounds_53 rfl ?_
                  refine r_aload_n (pc := 55) dX7_layRounds_55 rfl ?_
                  refine r_getI (pc := 56) (x := (nI (σ 0 0))) dX7_layRounds_56 fX7_81 rfl rfl (Ms_n (μ := μ5) hM6) ?_
                  refine rn_icmp_ne (pc := 59) (tgt := 147) dX7_layRounds_59 (by decide) (by omega) (by omega) (fun c59 => ?_) (fun c59 => ?_)
                  · exact absurd rfl c59
                  · refine r_iload_n (pc := 62) dX7_layRounds_62 rfl ?_
                    refine rn_if_le (pc := 63) (tgt := 70) dX7_layRounds_63 (by decide) (by omega) (fun c63 => ?_) (fun c63 => ?_)
                    · exact absurd c63 (by omega)
                    · refine r_iconst (pc := 66) (v := (nI (1))) dX7_layRounds_66 (by decide) ?_
                      refine r_goto (pc := 67) (tgt := 71) dX7_layRounds_67 (by decide) ?_
                      refine r_istore (pc := 71) (ls' := [(0, .ref 40), (1, .int (nI 0)), (2, .int (nI s)), (3, .int (nI (p.length + 1))), (4, .int (nI (seen ||| 2 ^ σ 3 b))), (5, .int (nI (σ 3 b))), (6, .int (nI (σ 0 0))), (7, .int (nI 1))]) dX7_layRounds_71 (Nat.le_of_ble_eq_true rfl) rfl ?_
                      refine r_iload (pc := 73) dX7_layRounds_73 rfl ?_
                      refine rn_if_eq (pc := 75) (tgt := 48) dX7_layRounds_75 (by decide) (by decide) (fun q => absurd q (by decide)) (fun _ => ?_)
                      refine r_iinc (pc := 78) (v := (nI (p.length))) (ls' := [(0, .ref 40), (1, .int (nI 0)), (2, .int (nI s)), (3, .int (nI (p.length))), (4, .int (nI (seen ||| 2 ^ σ 3 b))), (5, .int (nI (σ 3 b))), (6, .int (nI (σ 0 0))), (7, .int (nI 1))]) dX7_layRounds_78 rfl (nI_dec1 _) (Nat.le_of_ble_eq_true rfl) rfl ?_
                      refine r_aload_n (pc := 81) dX7_layRounds_81 rfl ?_
                      refine r_getR (pc := 82) (r := 56) dX7_layRounds_82 fX7_56 rfl rfl ?_
                      refine r_iload_n (pc := 85) dX7_layRounds_85 rfl ?_
                      refine r_iald (pc := 86) (x := (nI (b))) dX7_layRounds_86 rfl rfl (by omega) hpb ?_
                      refine r_iconst (pc := 87) (v := (nI (1))) dX7_layRounds_87 (by decide) ?_
                      refine rn_iadd (pc := 88) dX7_layRounds_88 ?_
                      refine r_istore (pc := 89) (ls' := [(0, .ref 40), (1, .int (nI 0)), (2, .int (nI s)), (3, .int (nI (p.length))), (4, .int (nI (seen ||| 2 ^ σ 3 b))), (5, .int (nI (σ 3 b))), (6, .int (nI (b + 1))), (7, .int (nI 1))]) dX7_layRounds_89 (Nat.le_of_ble_eq_true rfl) rfl ?_
                      refine r_aload_n (pc := 91) dX7_layRounds_91 rfl ?_
                      refine r_getR (pc := 92) (r := 41) dX7_layRounds_92 fX7_7 rfl rfl ?_
                      refine r_aload_n (pc := 95) dX7_layRounds_95 rfl ?_
                      refine r_getR (pc := 96) (r := 56) dX7_layRounds_96 fX7_56 rfl rfl ?_
                      refine r_iload_n (pc := 99) dX7_layRounds_99 rfl ?_
                      refine r_iald (pc := 100) (x := (nI (b))) dX7_layRounds_100 rfl rfl (by omega) hpb ?_
                      refine r_iald (pc := 101) (x := (nI (σ 1 (b)))) dX7_layRounds_101 rfl rfl (by omega) (Ms_1 (μ := μ5) hM6 (by omega)) ?_
                      have b1 := Ok_b hO (j := b) (by omega)
                      refine r_istore (pc := 102) (ls' := [(0, .ref 40), (1, .int (nI 0)), (2, .int (nI s)), (3, .int (nI (p.length))), (4, .int (nI (seen ||| 2 ^ σ 3 b))), (5, .int (nI (σ 1 (b)))), (6, .int (nI (b + 1))), (7, .int (nI 1))]) dX7_layRounds_102 (Nat.le_of_ble_eq_true rfl) rfl ?_
                      refine r_aload_n (pc := 104) dX7_layRounds_104 rfl ?_
                      refine r_getR (pc := 105) (r := 43) dX7_layRounds_105 fX7_16 rfl rfl ?_
                      refine r_aload_n (pc := 108) dX7_layRounds_108 rfl ?_
                      refine r_getR (pc := 109) (r := 56) dX7_layRounds_109 fX7_56 rfl rfl ?_
                      refine r_iload_n (pc := 112) dX7_layRounds_112 rfl ?_
                      refine r_iald (pc := 113) (x := (nI (b))) dX7_layRounds_113 rfl rfl (by omega) hpb ?_
                      refine r_iald (pc := 114) (x := (nI (σ 3 (b)))) dX7_layRounds_114 rfl rfl (by omega) (Ms_3 (μ := μ5) hM6 (by omega)) ?_
                      have b2 := Ok_b hO (j := b) (by omega)
                      refine r_iload_n (pc := 115) dX7_layRounds_115 rfl ?_
                      refine rn_icmp_ne (pc := 116) (tgt := 124) dX7_layRounds_116 (by decide) (by omega) (by omega) (fun c116 => ?_) (fun c116 => ?_)
                      · refine r_iload (pc := 124) dX7_layRounds_124 rfl ?_
                        refine r_iconst (pc := 126) (v := (nI (1))) dX7_layRounds_126 (by decide) ?_
                        refine r_aload_n (pc := 127) dX7_layRounds_127 rfl ?_
                        refine r_getR (pc := 128) (r := 43) dX7_layRounds_128 fX7_16 rfl rfl ?_
                        refine r_aload_n (pc := 131) dX7_layRounds_131 rfl ?_
                        refine r_getR (pc := 132) (r := 56) dX7_layRounds_132 fX7_56 rfl rfl ?_
                        refine r_iload_n (pc := 135) dX7_layRounds_135 rfl ?_
                        refine r_iald (pc := 136) (x := (nI (b))) dX7_layRounds_136 rfl rfl (by omega) hpb ?_
                        refine r_iald (pc := 137) (x := (nI (σ 3 (b)))) dX7_layRounds_137 rfl rfl (by omega) (Ms_3 (μ := μ5) hM6 (by omega)) ?_
                        have b3 := Ok_b hO (j := b) (by omega)
                        refine r_ishl (pc := 138) dX7_layRounds_138 ?_
                        refine r_eqi (shl1 (by omega)) ?_
                        refine r_iconst (pc := 139) (v := (-1)) dX7_layRounds_139 (by decide) ?_
                        refine r_ixor (pc := 140) dX7_layRounds_140 ?_
                        refine r_iand (pc := 141) dX7_layRounds_141 ?_
                        refine r_eqi (y := nI seen) (clr_bit (by omega) (by omega) hst) ?_
                        refine r_istore (pc := 142) (ls' := [(0, .ref 40), (1, .int (nI 0)), (2, .int (nI s)), (3, .int (nI (p.length))), (4, .int (nI seen)), (5, .int (nI (σ 1 (b)))), (6, .int (nI (b + 1))), (7, .int (nI 1))]) dX7_layRounds_142 (Nat.le_of_ble_eq_true rfl) rfl ?_
                        refine r_goto (pc := 144) (tgt := 48) dX7_layRounds_144 (by decide) ?_
                        rw [c156]
                        skip
                        exact ihk (b + 1) μ5 _ (by omega) hN6 (by simp at hlen ⊢; omega) (fun μ2 h2 => K μ2 (by rw [← List.append_assoc]; exact h2))
                      · exact absurd c116 c197
            · refine r_iconst (pc := 200) (v := (nI (1))) dX7_layRounds_200 (by decide) ?_
              refine r_goto (pc := 201) (tgt := 205) dX7_layRounds_201 (by decide) ?_
              refine r_istore (pc := 205) (ls' := [(0, .ref 40), (1, .int (nI 0)), (2, .int (nI s)), (3, .int (nI (p.length))), (4, .int (nI seen)), (5, .int (nI c)), (6, .int (nI b)), (7, .int (nI 1)), (8, .int (nI 1)), (9, .int (nI 1))]) dX7_layRounds_205 (Nat.le_of_ble_eq_true rfl) rfl ?_
              refine r_iload (pc := 207) dX7_layRounds_207 rfl ?_
              refine rn_if_eq (pc := 209) (tgt := 242) dX7_layRounds_209 (by decide) (by decide) (fun q => absurd q (by decide)) (fun _ => ?_)
              refine r_aload_n (pc := 212) dX7_layRounds_212 rfl ?_
              refine r_getR (pc := 213) (r := 43) dX7_layRounds_213 fX7_16 rfl rfl ?_
              refine r_iload (pc := 216) dX7_layRounds_216 rfl ?_
              refine r_iald (pc := 218) (x := (nI (σ 3 (b)))) dX7_layRounds_218 rfl rfl (by omega) (Ms_3 (μ := μ1) hM1 (by omega)) ?_
              have b7 := Ok_b hO (j := b) (by omega)
              refine r_iload_n (pc := 219) dX7_layRounds_219 rfl ?_
              refine rn_icmp_le (pc := 220) (tgt := 242) dX7_layRounds_220 (by decide) (by omega) (by omega) (fun c220 => ?_) (fun c220 => ?_)
              · refine r_iconst (pc := 242) (v := (nI (0))) dX7_layRounds_242 (by decide) ?_
                refine r_istore (pc := 243) (ls' := [(0, .ref 40), (1, .int (nI 0)), (2, .int (nI s)), (3, .int (nI (p.length))), (4, .int (nI seen)), (5, .int (nI c)), (6, .int (nI b)), (7, .int (nI 1)), (8, .int (nI 1)), (9, .int (nI 1)), (10, .int (nI 0))]) dX7_layRounds_243 (Nat.le_of_ble_eq_true rfl) rfl ?_
                refine r_iload (pc := 245) dX7_layRounds_245 rfl ?_
                refine rn_if_ne (pc := 247) (tgt := 255) dX7_layRounds_247 (by decide) (by decide) (fun _ => ?_) (fun q => absurd q (by decide))
                refine r_aload_n (pc := 255) dX7_layRounds_255 rfl ?_
                refine r_getR (pc := 256) (r := 56) dX7_layRounds_256 fX7_56 rfl rfl ?_
                refine r_iload_n (pc := 259) dX7_layRounds_259 rfl ?_
                refine r_iload (pc := 260) dX7_layRounds_260 rfl ?_
                refine r_iast (pc := 262) dX7_layRounds_262 rfl rfl (by omega) ?_
                refine r_aload_n (pc := 263) dX7_layRounds_263 rfl ?_
                refine r_getR (pc := 264) (r := 57) dX7_layRounds_264 fX7_59 rfl rfl ?_
                refine r_iload_n (pc := 267) dX7_layRounds_267 rfl ?_
                refine r_iconst (pc := 268) (v := (nI (1))) dX7_layRounds_268 (by decide) ?_
                refine rn_iadd (pc := 269) dX7_layRounds_269 ?_
                refine r_aload_n (pc := 270) dX7_layRounds_270 rfl ?_
                refine r_getR (pc := 271) (r := 57) dX7_layRounds_271 fX7_59 rfl rfl ?_
                refine r_iload_n (pc := 274) dX7_layRounds_274 rfl ?_
                refine r_lald (pc := 275) (x := (lN (pUp (σ 4) (σ 0 1) p))) dX7_layRounds_275 rfl rfl (by omega) (NI_up (μ := μ1) hN) ?_
                refine r_aload_n (pc := 276) dX7_layRounds_276 rfl ?_
                refine r_iload (pc := 277) dX7_layRounds_277 rfl ?_
                refine r_callV (pc := 279) (d' := 0) (k := 40) (As := [.int (nI b)]) (rest := [.long (lN (pUp (σ 4) (σ 0 1) p)), .int (nI ((p.length) + (1))), .ref 57]) dX7_layRounds_279 vX7_upper mX7_100 rfl rfl rfl (Nat.le_of_ble_eq_true rfl) (Nat.le_of_ble_eq_true rfl) ?_
                refine c_mupper (μ := (setI μ1 56 (p.length) (nI (b)))) hM1 hO (by omega) ?_
                refine rn_i2l (pc := 282) dX7_layRounds_282 (by omega) ?_
                refine rn_lmul (pc := 283) dX7_layRounds_283 ?_
                refine r_last (pc := 284) dX7_layRounds_284 rfl rfl (by omega) ?_
                refine r_aload_n (pc := 285) dX7_layRounds_285 rfl ?_
                refine r_getR (pc := 286) (r := 58) dX7_layRounds_286 fX7_62 rfl rfl ?_
                refine r_iload_n (pc := 289) dX7_layRounds_289 rfl ?_
                refine r_iconst (pc := 290) (v := (nI (1))) dX7_layRounds_290 (by decide) ?_
                refine rn_iadd (pc := 291) dX7_layRounds_291 ?_
                refine r_aload_n (pc := 292) dX7_layRounds_292 rfl ?_
                refine r_getR (pc := 293) (r := 58) dX7_layRounds_293 fX7_62 rfl rfl ?_
                refine r_iload_n (pc := 296) dX7_layRounds_296 rfl ?_
                refine r_lald (pc := 297) (x := (lN (pLow σ p))) dX7_layRounds_297 rfl rfl (by omega) (NI_low (μ := μ1) hN) ?_
                refine r_aload_n (pc := 298) dX7_layRounds_298 rfl ?_
                refine r_getR (pc := 299) (r := 42) dX7_layRounds_299 fX7_13 rfl rfl ?_
                refine r_iload (pc := 302) dX7_layRounds_302 rfl ?_
                refine r_iald (pc := 304) (x := (nI (σ 2 (b)))) dX7_layRounds_304 rfl rfl (by omega) (Ms_2 (μ := μ1) hM1 (by omega)) ?_
                have b8 := Ok_b hO (j := b) (by omega)
                refine rn_i2l (pc := 305) dX7_layRounds_305 (by omega) ?_
                refine rn_lmul (pc := 306) dX7_layRounds_306 ?_
                refine r_last (pc := 307) dX7_layRounds_307 rfl rfl (by omega) ?_
                obtain ⟨μ3, hμ3⟩ : ∃ m, m = (setL (setL (setI μ1 56 (p.length) (nI (b))) 57 ((p.length) + (1)) (lN (pUp (σ 4) (σ 0 1) p * upR (σ 4 (b)) (σ 0 1)))) 58 ((p.length) + (1)) (lN (pLow σ p * σ 2 (b)))) := ⟨_, rfl⟩
                rw [← hμ3]
                have hN3 : NI μ0 μ3 σ (p ++ [b]) acc := by rw [hμ3]; exact NI_push (b := b) hN (by omega)
                have hM3 := hN3.1.Ms hM0
                refine r_iload (pc := 308) dX7_layRounds_308 rfl ?_
                refine rn_if_eq (pc := 310) (tgt := 320) dX7_layRounds_310 (by decide) (by decide) (fun q => absurd q (by decide)) (fun _ => ?_)
                refine r_aload_n (pc := 313) dX7_layRounds_313 rfl ?_
                refine r_iload_n (pc := 314) dX7_layRounds_314 rfl ?_
                refine r_iconst (pc := 315) (v := (nI (1))) dX7_layRounds_315 (by decide) ?_
                refine rn_iadd (pc := 316) dX7_layRounds_316 ?_
                refine r_callV (pc := 317) (d' := 0) (k := 40) (As := [.int (nI ((p.length) + (1)))]) (rest := []) dX7_layRounds_317 vX7_keepRound mX7_120 rfl rfl rfl (Nat.le_of_ble_eq_true rfl) (Nat.le_of_ble_eq_true rfl) ?_
                rw [show p.length + 1 = (p ++ [b]).length by simp]
                refine m_keep hM3 hO hN3.2.1 (by omega) hN3.2.2.2.2.2 hN3.2.2.2.2.1 (by simp; omega) hN3.2.2.1 (NI_up hN3) (NI_low hN3) (fun μ4 hG4 hf4 => ?_)
                refine r_iload (pc := 320) dX7_layRounds_320 rfl ?_
                refine rn_if_eq (pc := 322) (tgt := 352) dX7_layRounds_322 (by decide) (by decide) (fun _ => ?_) (fun q => absurd q (by decide))
                refine rn_iinc (pc := 352) (b := 1) (ls' := [(0, .ref 40), (1, .int (nI 0)), (2, .int (nI s)), (3, .int (nI (p.length))), (4, .int (nI seen)), (5, .int (nI c)), (6, .int (nI (b + 1))), (7, .int (nI 1)), (8, .int (nI 1)), (9, .int (nI 1)), (10, .int (nI 0))]) dX7_layRounds_352 rfl (by decide) (Nat.le_of_ble_eq_true rfl) rfl ?_
                refine r_goto (pc := 355) (tgt := 48) dX7_layRounds_355 (by decide) ?_
                have hF : Fb σ s f c seen p b = [p ++ [b]] := by rw [Fb, if_pos ⟨c156, c174⟩, if_pos c197]
                refine r_pick (ls' := [(0, .ref 40), (1, .int (nI 0)), (2, .int (nI s)), (3, .int (nI (p.length))), (4, .int (nI seen)), (5, .int (nI c)), (6, .int (nI (b + 1))), (7, .int (nI 1))]) [0, 1, 2, 3, 4, 5, 6, 7] rfl ?_
                rw [sc_s σ s f c seen p (k := k') hbk] at hlen K
                rw [hF] at hlen K
                have hN4 : NI μ0 μ4 σ p (acc ++ [p ++ [b]]) := NI_keep (NI_pop hN3) hG4 hf4 (fun q hq => by
                  rcases List.mem_append.mp hq with z | z
                  · exact hN.2.2.2.2.2 q z
                  · rw [List.mem_singleton.mp z]; simp; omega)
                exact ihk (b + 1) μ4 (acc ++ [p ++ [b]]) (by omega) hN4 (by simp at hlen ⊢; omega) (fun μ2 h2 => K μ2 (by rw [← List.append_assoc]; exact h2))
              · exact absurd c220 (by omega)
      · exact absurd c59 (by omega)

def Dst (σ : Sg) (s : Nat) : List (List Nat) := dfs σ s 8 s (2 ^ s) []
theorem flat_len {α : Type} (F : Nat → List α) (m : Nat) : ∀ k, ((List.range m).flatMap F).length ≤ ((List.range (m + k)).flatMap F).length
  | 0 => Nat.le_refl _
  | k + 1 => by
    have := flat_len F m k
    rw [show m + (k + 1) = (m + k) + 1 by omega, List.range_succ, List.flatMap_append, List.length_append]
    omega
theorem flat_succ {α : Type} (F : Nat → List α) (m : Nat) : (List.range (m + 1)).flatMap F = (List.range m).flatMap F ++ F m := by
  rw [List.range_succ, List.flatMap_append]
  simp
theorem rnds_pre {σ : Sg} (hO : Ok σ) {s : Nat} (hs : s < 8) : ((List.range (s + 1)).flatMap (Dst σ)).length ≤ 150 := by
  have h1 := rnds_le hO
  have h2 := flat_len (Dst σ) (s + 1) (8 - (s + 1))
  rw [show s + 1 + (8 - (s + 1)) = 8 by omega] at h2
  exact Nat.le_trans h2 h1

set_option maxRecDepth 20000 in
set_option maxHeartbeats 4000000 in
theorem m_lay_l {μ : Mem} {σ : Sg} {Q : Option Value → Mem → Prop} (hM : Ms μ σ) (hO : Ok σ) (h : ∀ μ', GA μ' σ (rnds σ) → frL μ μ' → Q none μ') : ∀ (k s : Nat) (μ1 : Mem), s + k = 8 → NI μ μ1 σ [] ((List.range s).flatMap (Dst σ)) → WP cX7_layRounds (RX7, 11, none, 2, none) 26 [(0, .ref 40), (1, .int (nI 0)), (2, .int (nI s))] [] μ1 Q := by
  have hn := Ok_n hO
  intro k
  induction k using Nat.strongRecOn with
  | _ k ih =>
    intro s μ1 hsk hN
    refine r_iload_n (pc := 26) dX7_layRounds_26 rfl ?_
    refine r_bipush (pc := 27) (v := (nI (8))) dX7_layRounds_27 (by decide) ?_
    refine rn_icmp_ge (pc := 29) (tgt := 364) dX7_layRounds_29 (by decide) (by omega) (by omega) (fun c29 => ?_) (fun c29 => ?_)
    · obtain rfl : s = 8 := by omega
      refine r_return (pc := 364) dX7_layRounds_364 rfl ?_
      exact h μ1 hN.2.1 hN.1
    · refine r_iconst (pc := 32) (v := (nI (0))) dX7_layRounds_32 (by decide) ?_
      refine r_istore_n (pc := 33) (ls' := [(0, .ref 40), (1, .int (nI 0)), (2, .int (nI s)), (3, .int (nI 0))]) dX7_layRounds_33 (Nat.le_of_ble_eq_true rfl) rfl ?_
      refine r_iconst (pc := 34) (v := (nI (1))) dX7_layRounds_34 (by decide) ?_
      refine r_iload_n (pc := 35) dX7_layRounds_35 rfl ?_
      refine r_ishl (pc := 36) dX7_layRounds_36 ?_
      refine r_eqi (shl1 (by omega)) ?_
      refine r_istore (pc := 37) (ls' := [(0, .ref 40), (1, .int (nI 0)), (2, .int (nI s)), (3, .int (nI 0)), (4, .int (nI (2 ^ s)))]) dX7_layRounds_37 (Nat.le_of_ble_eq_true rfl) rfl ?_
      refine r_iload_n (pc := 39) dX7_layRounds_39 rfl ?_
      refine r_istore (pc := 40) (ls' := [(0, .ref 40), (1, .int (nI 0)), (2, .int (nI s)), (3, .int (nI 0)), (4, .int (nI (2 ^ s))), (5, .int (nI s))]) dX7_layRounds_40 (Nat.le_of_ble_eq_true rfl) rfl ?_
      refine r_iconst (pc := 42) (v := (nI (0))) dX7_layRounds_42 (by decide) ?_
      refine r_istore (pc := 43) (ls' := [(0, .ref 40), (1, .int (nI 0)), (2, .int (nI s)), (3, .int (nI 0)), (4, .int (nI (2 ^ s))), (5, .int (nI s)), (6, .int (nI 0))]) dX7_layRounds_43 (Nat.le_of_ble_eq_true rfl) rfl ?_
      refine r_iconst (pc := 45) (v := (nI (1))) dX7_layRounds_45 (by decide) ?_
      refine r_istore (pc := 46) (ls' := [(0, .ref 40), (1, .int (nI 0)), (2, .int (nI s)), (3, .int (nI 0)), (4, .int (nI (2 ^ s))), (5, .int (nI s)), (6, .int (nI 0)), (7, .int (nI 1))]) dX7_layRounds_46 (Nat.le_of_ble_eq_true rfl) rfl ?_
      refine m_node hM hO (by omega) 7 (σ 0 0) 0 s (2 ^ s) [] ((List.range s).flatMap (Dst σ)) μ1 (by omega) rfl ⟨by omega, Nat.le_refl _⟩ (Nat.pow_lt_pow_right (by decide) (by omega)) (seen_start (by omega)) hN ?_ (fun μ2 h2 => ?_)
      · rw [← dfs_sc, show dfs σ s (7 + 1) s (2 ^ s) [] = Dst σ s from rfl, ← flat_succ]
        exact rnds_pre hO (by omega)
      · rw [← dfs_sc, show dfs σ s (7 + 1) s (2 ^ s) [] = Dst σ s from rfl] at h2
        have hM2 := h2.1.Ms hM
        show WP cX7_layRounds (RX7, 11, none, 2, none) 48 [(0, .ref 40), (1, .int (nI 0)), (2, .int (nI s)), (3, .int (nI 0)), (4, .int (nI (2 ^ s))), (5, .int (nI s)), (6, .int (nI (σ 0 0))), (7, .int (nI 1))] [] μ2 Q
        refine r_iload (pc := 48) dX7_layRounds_48 rfl ?_
        refine rn_if_eq (pc := 50) (tgt := 358) dX7_layRounds_50 (by decide) (by decide) (fun q => absurd q (by decide)) (fun _ => ?_)
        refine r_iload (pc := 53) dX7_layRounds_53 rfl ?_
        refine r_aload_n (pc := 55) dX7_layRounds_55 rfl ?_
        refine r_getI (pc := 56) (x := (nI (σ 0 0))) dX7_layRounds_56 fX7_81 rfl rfl (Ms_n (μ := μ2) hM2) ?_
        refine rn_icmp_ne (pc := 59) (tgt := 147) dX7_layRounds_59 (by decide) (by omega) (by omega) (fun c59 => ?_) (fun c59 => ?_)
        · exact absurd rfl c59
        · refine r_iload_n (pc := 62) dX7_layRounds_62 rfl ?_
          refine rn_if_le (pc := 63) (tgt := 70) dX7_layRounds_63 (by decide) (by decide) (fun _ => ?_) (fun q => absurd q (by decide))
          refine r_iconst (pc := 70) (v := (nI (0))) dX7_layRounds_70 (by decide) ?_
          refine r_istore (pc := 71) (ls' := [(0, .ref 40), (1, .int (nI 0)), (2, .int (nI s)), (3, .int (nI 0)), (4, .int (nI (2 ^ s))), (5, .int (nI s)), (6, .int (nI (σ 0 0))), (7, .int (nI 0))]) dX7_layRounds_71 (Nat.le_of_ble_eq_true rfl) rfl ?_
          refine r_iload (pc := 73) dX7_layRounds_73 rfl ?_
          refine rn_if_eq (pc := 75) (tgt := 48) dX7_layRounds_75 (by decide) (by decide) (fun _ => ?_) (fun q => absurd q (by decide))
          refine r_iload (pc := 48) dX7_layRounds_48 rfl ?_
          refine rn_if_eq (pc := 50) (tgt := 358) dX7_layRounds_50 (by decide) (by decide) (fun _ => ?_) (fun q => absurd q (by decide))
          refine rn_iinc (pc := 358) (b := 1) (ls' := [(0, .ref 40), (1, .int (nI 0)), (2, .int (nI (s + 1))), (3, .int (nI 0)), (4, .int (nI (2 ^ s))), (5, .int (nI s)), (6, .int (nI (σ 0 0))), (7, .int (nI 0))]) dX7_layRounds_358 rfl (by decide) (Nat.le_of_ble_eq_true rfl) rfl ?_
          refine r_goto (pc := 361) (tgt := 26) dX7_layRounds_361 (by decide) ?_
          refine r_pick (ls' := [(0, .ref 40), (1, .int (nI 0)), (2, .int (nI (s + 1)))]) [0, 1, 2] rfl ?_
          exact ih (k - 1) (by omega) (s + 1) μ2 (by omega) (by rw [flat_succ]; exact h2)

set_option maxRecDepth 20000 in
set_option maxHeartbeats 4000000 in
theorem m_lay {μ : Mem} {σ : Sg} {Q : Option Value → Mem → Prop} (hM : Ms μ σ) (hO : Ok σ) (h : ∀ μ', GA μ' σ (rnds σ) → frL μ μ' → Q none μ') : Sp iX7_layRounds 2 [.ref 40, .int (nI 0)] μ Q := by
  refine Sp.of vX7_layRounds.1 (Nat.le_of_ble_eq_true rfl) ?_
  show WP cX7_layRounds (RX7, 11, none, 2, none) 0 [(0, .ref 40), (1, .int (nI 0))] [] μ Q
  have hn := Ok_n hO
  refine r_aload_n (pc := 0) dX7_layRounds_0 rfl ?_
  refine r_iconst (pc := 1) (v := (nI (0))) dX7_layRounds_1 (by decide) ?_
  refine r_putI (pc := 2) dX7_layRounds_2 gX7_114 rfl rfl rfl rfl ?_
  refine r_aload_n (pc := 5) dX7_layRounds_5 rfl ?_
  refine r_iconst (pc := 6) (v := (nI (0))) dX7_layRounds_6 (by decide) ?_
  refine r_putI (pc := 7) dX7_layRounds_7 gX7_117 rfl rfl rfl rfl ?_
  refine r_aload_n (pc := 10) dX7_layRounds_10 rfl ?_
  refine r_getR (pc := 11) (r := 57) dX7_layRounds_11 fX7_59 rfl rfl ?_
  refine r_iconst (pc := 14) (v := (nI (0))) dX7_layRounds_14 (by decide) ?_
  refine r_lconst (pc := 15) (v := lN 1) dX7_layRounds_15 rfl ?_
  refine r_last (pc := 16) dX7_layRounds_16 rfl rfl (by omega) ?_
  refine r_aload_n (pc := 17) dX7_layRounds_17 rfl ?_
  refine r_getR (pc := 18) (r := 58) dX7_layRounds_18 fX7_62 rfl rfl ?_
  refine r_iconst (pc := 21) (v := (nI (0))) dX7_layRounds_21 (by decide) ?_
  refine r_lconst (pc := 22) (v := lN 1) dX7_layRounds_22 rfl ?_
  refine r_last (pc := 23) dX7_layRounds_23 rfl rfl (by omega) ?_
  refine r_iconst (pc := 24) (v := (nI (0))) dX7_layRounds_24 (by decide) ?_
  refine r_istore_n (pc := 25) (ls' := [(0, .ref 40), (1, .int (nI 0)), (2, .int (nI 0))]) dX7_layRounds_25 (Nat.le_of_ble_eq_true rfl) rfl ?_
  refine m_lay_l hM hO h 8 0 _ (by omega) ⟨⟨fun k a b => ⟨if_neg a |>.trans (if_neg a), ?_⟩, fun j a b => ?_, rfl⟩, ⟨rfl, rfl, fun i r hr => by simp at hr⟩, fun i x hx => by simp at hx, fun i hi => ?_, fun x hx => by simp at hx, fun q hq => by simp at hq⟩
  · show (if k = 58 then _ else if k = 57 then _ else μ.2 k) = _
    rw [if_neg (by omega), if_neg (by omega)]
  · show upd (upd (μ.1 40) 12 _) 13 _ j = _
    rw [upd_at, if_neg b, upd_at, if_neg a]
  · have e : i = 0 := by simpa using hi
    subst e
    exact ⟨rfl, rfl⟩
