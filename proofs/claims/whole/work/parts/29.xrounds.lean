/-! THE CLASS: Rounds: bits, packed paths, keep, goOn, findAll -/
set_option maxRecDepth 20000 in
set_option maxHeartbeats 4000000 in
theorem c_bc0 {μ : Mem} {x : Int32} {Q : Option Value → Mem → Prop} (h : Q (some (.int (bcN x))) μ) : Sp iJ6_bitCount_0f7a4 0 [.int (x)] μ Q := by
  refine Sp.of sJ6_bitCount_0f7a4.1 (Nat.le_of_ble_eq_true rfl) ?_
  show WP cJ6_bitCount_0f7a4 (RJ6, 1, (some .int), 0, none) 0 [(0, .int (x))] [] μ Q
  refine r_iload_n (pc := 0) dJ6_bitCount_0f7a4_0 rfl ?_
  refine r_iload_n (pc := 1) dJ6_bitCount_0f7a4_1 rfl ?_
  refine r_iconst (pc := 2) (v := (nI (1))) dJ6_bitCount_0f7a4_2 (by decide) ?_
  refine r_iushr (pc := 3) dJ6_bitCount_0f7a4_3 rfl ?_
  refine r_ldcw (pc := 4) dJ6_bitCount_0f7a4_4 kJ6_265 ?_
  refine r_eqi (y := nI 1431655765) (by decide) ?_
  refine r_iand (pc := 7) dJ6_bitCount_0f7a4_7 ?_
  refine r_isub (pc := 8) dJ6_bitCount_0f7a4_8 ?_
  refine r_topi (fun a1 ea1 => ?_)
  refine r_istore_n (pc := 9) (ls' := [(0, .int (a1))]) dJ6_bitCount_0f7a4_9 (Nat.le_of_ble_eq_true rfl) rfl ?_
  refine r_iload_n (pc := 10) dJ6_bitCount_0f7a4_10 rfl ?_
  refine r_ldcw (pc := 11) dJ6_bitCount_0f7a4_11 kJ6_266 ?_
  refine r_eqi (y := nI 858993459) (by decide) ?_
  refine r_iand (pc := 14) dJ6_bitCount_0f7a4_14 ?_
  refine r_iload_n (pc := 15) dJ6_bitCount_0f7a4_15 rfl ?_
  refine r_iconst (pc := 16) (v := (nI (2))) dJ6_bitCount_0f7a4_16 (by decide) ?_
  refine r_iushr (pc := 17) dJ6_bitCount_0f7a4_17 rfl ?_
  refine r_ldcw (pc := 18) dJ6_bitCount_0f7a4_18 kJ6_266 ?_
  refine r_eqi (y := nI 858993459) (by decide) ?_
  refine r_iand (pc := 21) dJ6_bitCount_0f7a4_21 ?_
  refine r_iadd (pc := 22) dJ6_bitCount_0f7a4_22 ?_
  refine r_topi (fun a2 ea2 => ?_)
  refine r_istore_n (pc := 23) (ls' := [(0, .int (a2))]) dJ6_bitCount_0f7a4_23 (Nat.le_of_ble_eq_true rfl) rfl ?_
  refine r_iload_n (pc := 24) dJ6_bitCount_0f7a4_24 rfl ?_
  refine r_iload_n (pc := 25) dJ6_bitCount_0f7a4_25 rfl ?_
  refine r_iconst (pc := 26) (v := (nI (4))) dJ6_bitCount_0f7a4_26 (by decide) ?_
  refine r_iushr (pc := 27) dJ6_bitCount_0f7a4_27 rfl ?_
  refine r_iadd (pc := 28) dJ6_bitCount_0f7a4_28 ?_
  refine r_ldcw (pc := 29) dJ6_bitCount_0f7a4_29 kJ6_267 ?_
  refine r_eqi (y := nI 252645135) (by decide) ?_
  refine r_iand (pc := 32) dJ6_bitCount_0f7a4_32 ?_
  refine r_topi (fun a3 ea3 => ?_)
  refine r_istore_n (pc := 33) (ls' := [(0, .int (a3))]) dJ6_bitCount_0f7a4_33 (Nat.le_of_ble_eq_true rfl) rfl ?_
  refine r_iload_n (pc := 34) dJ6_bitCount_0f7a4_34 rfl ?_
  refine r_iload_n (pc := 35) dJ6_bitCount_0f7a4_35 rfl ?_
  refine r_bipush (pc := 36) (v := (nI (8))) dJ6_bitCount_0f7a4_36 (by decide) ?_
  refine r_iushr (pc := 38) dJ6_bitCount_0f7a4_38 rfl ?_
  refine r_iadd (pc := 39) dJ6_bitCount_0f7a4_39 ?_
  refine r_topi (fun a4 ea4 => ?_)
  refine r_istore_n (pc := 40) (ls' := [(0, .int (a4))]) dJ6_bitCount_0f7a4_40 (Nat.le_of_ble_eq_true rfl) rfl ?_
  refine r_iload_n (pc := 41) dJ6_bitCount_0f7a4_41 rfl ?_
  refine r_iload_n (pc := 42) dJ6_bitCount_0f7a4_42 rfl ?_
  refine r_bipush (pc := 43) (v := (nI (16))) dJ6_bitCount_0f7a4_43 (by decide) ?_
  refine r_iushr (pc := 45) dJ6_bitCount_0f7a4_45 rfl ?_
  refine r_iadd (pc := 46) dJ6_bitCount_0f7a4_46 ?_
  refine r_topi (fun a5 ea5 => ?_)
  refine r_istore_n (pc := 47) (ls' := [(0, .int (a5))]) dJ6_bitCount_0f7a4_47 (Nat.le_of_ble_eq_true rfl) rfl ?_
  refine r_iload_n (pc := 48) dJ6_bitCount_0f7a4_48 rfl ?_
  refine r_bipush (pc := 49) (v := (nI (63))) dJ6_bitCount_0f7a4_49 (by decide) ?_
  refine r_iand (pc := 51) dJ6_bitCount_0f7a4_51 ?_
  refine r_ireturn (pc := 52) dJ6_bitCount_0f7a4_52 rfl (Or.inl rfl) rfl ?_
  subst ea5
  subst ea4
  subst ea3
  subst ea2
  subst ea1
  exact h

theorem c_bc {μ : Mem} {x : Nat} {Q : Option Value → Mem → Prop} (hx : x < 4096) (h : Q (some (.int (nI (pc12 x)))) μ) : Sp iJ6_bitCount_0f7a4 0 [.int (nI x)] μ Q := c_bc0 (by rw [bcN_ok hx]; exact h)
/-- what the class keeps of rounds -/
def RX (μ : Mem) (σ : Sg) (i : Nat) (r : List Nat) : Prop := μ.2 13 i = lN (packP r) ∧ μ.2 14 i = lN (pLow σ r) ∧ μ.1 15 i = nI (bitsP r)
def RA (μ : Mem) (σ : Sg) (acc : List (List Nat)) : Prop := μ.1 12 5 = nI acc.length ∧ ∀ i r, acc[i]? = some r → RX μ σ i r
def frR (μ μ' : Mem) : Prop := (∀ k, ¬ k = 12 → ¬ k = 15 → μ'.1 k = μ.1 k) ∧ (∀ k, ¬ k = 13 → ¬ k = 14 → μ'.2 k = μ.2 k) ∧ ∀ j, ¬ j = 5 → μ'.1 12 j = μ.1 12 j
theorem frR.rf {μ : Mem} : frR μ μ := ⟨fun _ _ _ => rfl, fun _ _ _ => rfl, fun _ _ => rfl⟩
theorem frR.tr {μ μ' μ'' : Mem} (h : frR μ μ') (h' : frR μ' μ'') : frR μ μ'' := ⟨fun k a b => (h'.1 k a b).trans (h.1 k a b), fun k a b => (h'.2.1 k a b).trans (h.2.1 k a b), fun j a => (h'.2.2 j a).trans (h.2.2 j a)⟩
theorem Xs_frR {μ μ' : Mem} {σ : Sg} (h : frR μ μ') (hX : Xs μ σ) : Xs μ' σ := by
  unfold Xs
  rw [h.1 1 (by decide) (by decide), h.1 2 (by decide) (by decide), h.1 3 (by decide) (by decide), h.1 4 (by decide) (by decide), h.1 5 (by decide) (by decide), h.1 6 (by decide) (by decide), h.1 7 (by decide) (by decide), h.1 8 (by decide) (by decide), h.1 9 (by decide) (by decide), h.1 10 (by decide) (by decide), h.1 11 (by decide) (by decide), h.1 39 (by decide) (by decide)]
  exact hX
theorem frR.keep {μ μ' : Mem} (h : frR μ μ') : keepM μ μ' := fun k hk => ⟨h.1 k (by omega) (by omega), h.2.1 k (by omega) (by omega)⟩

set_option maxRecDepth 20000 in
set_option maxHeartbeats 4000000 in
theorem x_bat_s {μ : Mem} {σ : Sg} {r : List Nat} {wi i b : Nat} {Q : Option Value → Mem → Prop} (hO : Ok σ) (hP : okP σ r) (hr8 : r.length ≤ 8) (hw : wi < 150) (hi : i < 8) (hp : μ.2 13 wi = lN (packP r)) (hb : r[i]? = some b) (h : Q (some (.int (nI b))) μ) : Sp iX2_boardAt 0 [.ref 12, .int (nI wi), .int (nI i)] μ Q := by
  refine Sp.of vX2_boardAt.1 (Nat.le_of_ble_eq_true rfl) ?_
  show WP cX2_boardAt (RX2, 3, (some .int), 0, none) 0 [(0, .ref 12), (1, .int (nI wi)), (2, .int (nI i))] [] μ Q
  have h63 := pack_63 hO hP hr8
  refine r_aload_n (pc := 0) dX2_boardAt_0 rfl ?_
  refine r_getR (pc := 1) (r := 13) dX2_boardAt_1 fX2_9 rfl rfl ?_
  refine r_iload_n (pc := 4) dX2_boardAt_4 rfl ?_
  refine r_lald (pc := 5) (x := (lN (packP r))) dX2_boardAt_5 rfl rfl (by omega) hp ?_
  refine r_iconst (pc := 6) (v := (nI (4))) dX2_boardAt_6 (by decide) ?_
  refine r_iload_n (pc := 7) dX2_boardAt_7 rfl ?_
  refine rn_imul (pc := 8) dX2_boardAt_8 ?_
  refine r_lshr (pc := 9) dX2_boardAt_9 (lshrN (by omega) (by omega)) ?_
  refine r_ldc2 (pc := 10) dX2_boardAt_10 kX2_80 ?_
  refine r_land (pc := 13) dX2_boardAt_13 ?_
  refine r_eql (lN_mask _) ?_
  refine r_l2i (pc := 14) dX2_boardAt_14 (lN_i _) ?_
  refine r_eqi (y := nI (b + 1)) (by rw [p16, packP_at (okP_12 hO hP), hb]) ?_
  refine r_iconst (pc := 15) (v := (nI (1))) dX2_boardAt_15 (by decide) ?_
  refine rn_isub (pc := 16) dX2_boardAt_16 (by omega) ?_
  refine r_eqi (y := nI b) (by rw [Nat.add_sub_cancel]) ?_
  refine r_ireturn (pc := 17) dX2_boardAt_17 rfl (Or.inl rfl) rfl ?_
  exact h

set_option maxRecDepth 20000 in
set_option maxHeartbeats 4000000 in
theorem x_bat_n {μ : Mem} {σ : Sg} {r : List Nat} {wi i : Nat} {Q : Option Value → Mem → Prop} (hO : Ok σ) (hP : okP σ r) (hr8 : r.length ≤ 8) (hw : wi < 150) (hi : i < 8) (hp : μ.2 13 wi = lN (packP r)) (hb : r[i]? = none) (h : Q (some (.int (-1))) μ) : Sp iX2_boardAt 0 [.ref 12, .int (nI wi), .int (nI i)] μ Q := by
  refine Sp.of vX2_boardAt.1 (Nat.le_of_ble_eq_true rfl) ?_
  show WP cX2_boardAt (RX2, 3, (some .int), 0, none) 0 [(0, .ref 12), (1, .int (nI wi)), (2, .int (nI i))] [] μ Q
  have h63 := pack_63 hO hP hr8
  refine r_aload_n (pc := 0) dX2_boardAt_0 rfl ?_
  refine r_getR (pc := 1) (r := 13) dX2_boardAt_1 fX2_9 rfl rfl ?_
  refine r_iload_n (pc := 4) dX2_boardAt_4 rfl ?_
  refine r_lald (pc := 5) (x := (lN (packP r))) dX2_boardAt_5 rfl rfl (by omega) hp ?_
  refine r_iconst (pc := 6) (v := (nI (4))) dX2_boardAt_6 (by decide) ?_
  refine r_iload_n (pc := 7) dX2_boardAt_7 rfl ?_
  refine rn_imul (pc := 8) dX2_boardAt_8 ?_
  refine r_lshr (pc := 9) dX2_boardAt_9 (lshrN (by omega) (by omega)) ?_
  refine r_ldc2 (pc := 10) dX2_boardAt_10 kX2_80 ?_
  refine r_land (pc := 13) dX2_boardAt_13 ?_
  refine r_eql (lN_mask _) ?_
  refine r_l2i (pc := 14) dX2_boardAt_14 (lN_i _) ?_
  refine r_eqi (y := nI (0)) (by rw [p16, packP_at (okP_12 hO hP), hb]) ?_
  refine r_iconst (pc := 15) (v := (nI (1))) dX2_boardAt_15 (by decide) ?_
  refine r_isub (pc := 16) dX2_boardAt_16 ?_
  refine r_ireturn (pc := 17) dX2_boardAt_17 rfl (Or.inl rfl) rfl ?_
  exact h

def KX (μ : Mem) (σ : Sg) (r : List Nat) (n i : Nat) (μ1 : Mem) : Prop := (∀ k, ¬ k = 15 → μ1.1 k = μ.1 k) ∧ (∀ k, ¬ k = 14 → μ1.2 k = μ.2 k) ∧ (∀ j, ¬ j = n → μ1.1 15 j = μ.1 15 j ∧ μ1.2 14 j = μ.2 14 j) ∧ μ1.2 14 n = lN (pLow σ (r.take i)) ∧ μ1.1 15 n = nI (bitsP (r.take i))
theorem KX_s {μ μ1 : Mem} {σ : Sg} {r : List Nat} {n i b : Nat} (h : KX μ σ r n i μ1) (hb : r[i]? = some b) : KX μ σ r n (i + 1) (setI (setL μ1 14 n (lN (pLow σ (r.take i) * σ 2 b))) 15 n (nI (bitsP (r.take i) ||| 2 ^ b))) := by
  obtain ⟨h1, h2, h3, h4, h5⟩ := h
  have ht : r.take (i + 1) = r.take i ++ [b] := by
    rw [List.take_add_one, hb]
    rfl
  refine ⟨fun k a => (if_neg a).trans (h1 k a), fun k a => (if_neg a).trans (h2 k a), fun j a => ⟨?_, ?_⟩, ?_, ?_⟩
  · show upd (μ1.1 15) n _ j = _
    rw [upd_at, if_neg a]
    exact (h3 j a).1
  · exact (if_neg a).trans (h3 j a).2
  · rw [ht, pLow_snoc]
    exact if_pos rfl
  · rw [ht, bitsP_snoc]
    exact if_pos rfl

set_option maxRecDepth 20000 in
set_option maxHeartbeats 4000000 in
theorem x_keep_b {μ : Mem} {σ : Sg} {r : List Nat} {n : Nat} {way : Int64} {μ1 : Mem} {Q : Option Value → Mem → Prop} (hX : Xs μ σ) (hO : Ok σ) (hP : okP σ r) (hr8 : r.length ≤ 8) (hn5 : n < 150) (hcn : μ.1 12 5 = nI n) (hpa : μ.2 13 n = lN (packP r)) (h : ∀ μ1, KX μ σ r n r.length μ1 → Q none (setI μ1 12 5 (nI (n + 1)))) (hK : KX μ σ r n r.length μ1) : ∀ (k : Nat) (i : Nat), i + k = 8 → r.length ≤ i → WP cX2_keep (RX2, 6, none, 1, none) 44 [(0, .ref 12), (1, .ref 1), (2, .long (way)), (4, .int (nI i))] [] μ1 Q := by
  intro k
  induction k using Nat.strongRecOn with
  | _ k ih =>
    intro i hi hl
    have hn := Ok_n hO
    have hX1 : Xs μ1 σ := Xs_frR ⟨fun k a b => hK.1 k b, fun k a b => hK.2.1 k b, fun j _ => by rw [hK.1 12 (by decide)]⟩ hX
    refine r_iload (pc := 44) dX2_keep_44 rfl ?_
    refine r_bipush (pc := 46) (v := (nI (8))) dX2_keep_46 (by decide) ?_
    refine rn_icmp_ge (pc := 48) (tgt := 114) dX2_keep_48 (by decide) (by omega) (by omega) (fun c48 => ?_) (fun c48 => ?_)
    · refine r_aload_n (pc := 114) dX2_keep_114 rfl ?_
      refine r_dup_r (pc := 115) dX2_keep_115 ?_
      refine r_getI (pc := 116) (x := (nI (n))) dX2_keep_116 fX2_28 rfl rfl (by show μ1.1 12 5 = _; rw [hK.1 12 (by decide)]; exact hcn) ?_
      refine r_iconst (pc := 119) (v := (nI (1))) dX2_keep_119 (by decide) ?_
      refine rn_iadd (pc := 120) dX2_keep_120 ?_
      refine r_putI (pc := 121) dX2_keep_121 gX2_28 rfl rfl rfl rfl ?_
      refine r_return (pc := 124) dX2_keep_124 rfl ?_
      exact h μ1 hK
    · refine r_aload_n (pc := 51) dX2_keep_51 rfl ?_
      refine r_aload_n (pc := 52) dX2_keep_52 rfl ?_
      refine r_getI (pc := 53) (x := (nI (n))) dX2_keep_53 fX2_28 rfl rfl (by show μ1.1 12 5 = _; rw [hK.1 12 (by decide)]; exact hcn) ?_
      refine r_iload (pc := 56) dX2_keep_56 rfl ?_
      refine r_callV (pc := 58) (d' := 0) (k := 12) (As := [.int (nI n), .int (nI i)]) (rest := []) dX2_keep_58 vX2_boardAt mX2_70 rfl rfl rfl (Nat.le_of_ble_eq_true rfl) (Nat.le_of_ble_eq_true rfl) ?_
      refine x_bat_n (μ := μ1) hO hP hr8 hn5 (by omega) (by rw [hK.2.1 13 (by decide)]; exact hpa) (List.getElem?_eq_none (by omega)) ?_
      refine r_istore (pc := 61) (ls' := [(0, .ref 12), (1, .ref 1), (2, .long (way)), (4, .int (nI i)), (5, .int ((-1)))]) dX2_keep_61 (Nat.le_of_ble_eq_true rfl) rfl ?_
      refine r_aload_n (pc := 63) dX2_keep_63 rfl ?_
      refine r_iload (pc := 64) dX2_keep_64 rfl ?_
      refine r_callV (pc := 66) (d' := 0) (k := 1) (As := [.int ((-1))]) (rest := []) dX2_keep_66 vX0_has mX2_74 rfl rfl rfl (Nat.le_of_ble_eq_true rfl) (Nat.le_of_ble_eq_true rfl) ?_
      refine c_has (μ := μ1) hX1 hO ?_
      refine rb_if_eq (pc := 69) (tgt := 108) dX2_keep_69 (by decide) (fun c69 => ?_) (fun c69 => ?_)
      · refine rn_iinc (pc := 108) (b := 1) (ls' := [(0, .ref 12), (1, .ref 1), (2, .long (way)), (4, .int (nI (i + 1))), (5, .int ((-1)))]) dX2_keep_108 rfl (by decide) (Nat.le_of_ble_eq_true rfl) rfl ?_
        refine r_goto (pc := 111) (tgt := 44) dX2_keep_111 (by decide) ?_
        refine r_pick (ls' := [(0, .ref 12), (1, .ref 1), (2, .long (way)), (4, .int (nI (i + 1)))]) [0, 1, 2, 3] rfl ?_
        exact ih (k - 1) (by omega) (i + 1) (by omega) (by omega)
      · exact absurd c69 (by unfold isB; simp)

set_option maxRecDepth 20000 in
set_option maxHeartbeats 4000000 in
theorem x_keep_a {μ : Mem} {σ : Sg} {r : List Nat} {n : Nat} {way : Int64} {Q : Option Value → Mem → Prop} (hX : Xs μ σ) (hO : Ok σ) (hP : okP σ r) (hr8 : r.length ≤ 8) (hn5 : n < 150) (hcn : μ.1 12 5 = nI n) (hpa : μ.2 13 n = lN (packP r)) (h : ∀ μ1, KX μ σ r n r.length μ1 → Q none (setI μ1 12 5 (nI (n + 1)))) : ∀ (k : Nat) (i : Nat) (μ1 : Mem), i + k = r.length → KX μ σ r n i μ1 → WP cX2_keep (RX2, 6, none, 1, none) 44 [(0, .ref 12), (1, .ref 1), (2, .long (way)), (4, .int (nI i))] [] μ1 Q := by
  intro k
  induction k using Nat.strongRecOn with
  | _ k ih =>
    intro i μ1 hi hK
    have hn := Ok_n hO
    have hX1 : Xs μ1 σ := Xs_frR ⟨fun k a b => hK.1 k b, fun k a b => hK.2.1 k b, fun j _ => by rw [hK.1 12 (by decide)]⟩ hX
    rcases Nat.eq_zero_or_pos k with hk0 | hk0
    · obtain rfl : i = r.length := by omega
      exact x_keep_b hX hO hP hr8 hn5 hcn hpa h hK (8 - r.length) r.length (by omega) (Nat.le_refl _)
    obtain ⟨b, hb⟩ : ∃ b, r[i]? = some b := ⟨r[i]'(by omega), List.getElem?_eq_getElem (by omega)⟩
    have hbn := hP b (List.mem_of_getElem? hb)
    refine r_iload (pc := 44) dX2_keep_44 rfl ?_
    refine r_bipush (pc := 46) (v := (nI (8))) dX2_keep_46 (by decide) ?_
    refine rn_icmp_ge (pc := 48) (tgt := 114) dX2_keep_48 (by decide) (by omega) (by omega) (fun c48 => ?_) (fun c48 => ?_)
    · exact absurd c48 (by omega)
    · refine r_aload_n (pc := 51) dX2_keep_51 rfl ?_
      refine r_aload_n (pc := 52) dX2_keep_52 rfl ?_
      refine r_getI (pc := 53) (x := (nI (n))) dX2_keep_53 fX2_28 rfl rfl (by show μ1.1 12 5 = _; rw [hK.1 12 (by decide)]; exact hcn) ?_
      refine r_iload (pc := 56) dX2_keep_56 rfl ?_
      refine r_callV (pc := 58) (d' := 0) (k := 12) (As := [.int (nI n), .int (nI i)]) (rest := []) dX2_keep_58 vX2_boardAt mX2_70 rfl rfl rfl (Nat.le_of_ble_eq_true rfl) (Nat.le_of_ble_eq_true rfl) ?_
      refine x_bat_s (b := b) (μ := μ1) hO hP hr8 hn5 (by omega) (by rw [hK.2.1 13 (by decide)]; exact hpa) hb ?_
      refine r_istore (pc := 61) (ls' := [(0, .ref 12), (1, .ref 1), (2, .long (way)), (4, .int (nI i)), (5, .int (nI b))]) dX2_keep_61 (Nat.le_of_ble_eq_true rfl) rfl ?_
      refine r_aload_n (pc := 63) dX2_keep_63 rfl ?_
      refine r_iload (pc := 64) dX2_keep_64 rfl ?_
      refine r_callV (pc := 66) (d' := 0) (k := 1) (As := [.int (nI b)]) (rest := []) dX2_keep_66 vX0_has mX2_74 rfl rfl rfl (Nat.le_of_ble_eq_true rfl) (Nat.le_of_ble_eq_true rfl) ?_
      refine c_has (μ := μ1) hX1 hO ?_
      refine rb_if_eq (pc := 69) (tgt := 108) dX2_keep_69 (by decide) (fun c69 => ?_) (fun c69 => ?_)
      · rw [isB_nat (by omega)] at c69
        simp at c69
        omega
      · refine r_aload_n (pc := 72) dX2_keep_72 rfl ?_
        refine r_getR (pc := 73) (r := 14) dX2_keep_73 fX2_15 rfl rfl ?_
        refine r_aload_n (pc := 76) dX2_keep_76 rfl ?_
        refine r_getI (pc := 77) (x := (nI (n))) dX2_keep_77 fX2_28 rfl rfl (by show μ1.1 12 5 = _; rw [hK.1 12 (by decide)]; exact hcn) ?_
        refine r_dup2_ir (pc := 80) dX2_keep_80 ?_
        refine r_lald (pc := 81) (x := (lN (pLow σ (r.take i)))) dX2_keep_81 rfl rfl (by omega) (by show μ1.2 14 n = _; exact hK.2.2.2.1) ?_
        refine r_aload_n (pc := 82) dX2_keep_82 rfl ?_
        refine r_getR (pc := 83) (r := 3) dX2_keep_83 fX2_77 rfl rfl ?_
        refine r_iload (pc := 86) dX2_keep_86 rfl ?_
        refine r_iald (pc := 88) (x := (nI (σ 2 b))) dX2_keep_88 rfl rfl (by omega) (by show μ1.1 3 b = _; rw [hK.1 3 (by decide)]; exact Xs_2 hX (by omega)) ?_
        have hb2 := Ok_b hO (j := b) (by omega)
        refine rn_i2l (pc := 89) dX2_keep_89 (by omega) ?_
        refine rn_lmul (pc := 90) dX2_keep_90 ?_
        refine r_last (pc := 91) dX2_keep_91 rfl rfl (by omega) ?_
        refine r_aload_n (pc := 92) dX2_keep_92 rfl ?_
        refine r_getR (pc := 93) (r := 15) dX2_keep_93 fX2_18 rfl rfl ?_
        refine r_aload_n (pc := 96) dX2_keep_96 rfl ?_
        refine r_getI (pc := 97) (x := (nI (n))) dX2_keep_97 fX2_28 rfl rfl (by show μ1.1 12 5 = _; rw [hK.1 12 (by decide)]; exact hcn) ?_
        refine r_dup2_ir (pc := 100) dX2_keep_100 ?_
        refine r_iald (pc := 101) (x := (nI (bitsP (r.take i)))) dX2_keep_101 rfl rfl (by omega) (by show μ1.1 15 n = _; exact hK.2.2.2.2) ?_
        refine r_iconst (pc := 102) (v := (nI (1))) dX2_keep_102 (by decide) ?_
        refine r_iload (pc := 103) dX2_keep_103 rfl ?_
        refine r_ishl (pc := 105) dX2_keep_105 ?_
        refine r_eqi (shl1 (by omega)) ?_
        refine r_ior (pc := 106) dX2_keep_106 ?_
        refine r_eqi (nI_or _ _) ?_
        refine r_iast (pc := 107) dX2_keep_107 rfl rfl (by omega) ?_
        refine rn_iinc (pc := 108) (b := 1) (ls' := [(0, .ref 12), (1, .ref 1), (2, .long (way)), (4, .int (nI (i + 1))), (5, .int (nI b))]) dX2_keep_108 rfl (by decide) (Nat.le_of_ble_eq_true rfl) rfl ?_
        refine r_goto (pc := 111) (tgt := 44) dX2_keep_111 (by decide) ?_
        refine r_pick (ls' := [(0, .ref 12), (1, .ref 1), (2, .long (way)), (4, .int (nI (i + 1)))]) [0, 1, 2, 3] rfl ?_
        exact ih (k - 1) (by omega) (i + 1) _ (by omega) (KX_s hK hb)

theorem RA_more {μ μ1 : Mem} {σ : Sg} {acc : List (List Nat)} {r : List Nat} (hA : RA μ σ acc) (hK : KX (setI (setL (setL μ 13 acc.length (lN (packP r))) 14 acc.length (lN 1)) 15 acc.length (nI 0)) σ r acc.length r.length μ1) : RA (setI μ1 12 5 (nI (acc.length + 1))) σ (acc ++ [r]) ∧ frR μ (setI μ1 12 5 (nI (acc.length + 1))) := by
  obtain ⟨h1, h2⟩ := hA
  obtain ⟨k1, k2, k3, k4, k5⟩ := hK
  rw [List.take_length] at k4 k5
  refine ⟨⟨?_, fun i q hq => ?_⟩, fun k a b => ?_, fun k a b => ?_, fun j a => ?_⟩
  · show upd (μ1.1 12) 5 (nI (acc.length + 1)) 5 = _
    rw [upd_at, if_pos rfl, List.length_append]
    rfl
  · by_cases e : i < acc.length
    · rw [List.getElem?_append_left e] at hq
      obtain ⟨a1, a2, a3⟩ := h2 i q hq
      refine ⟨?_, ?_, ?_⟩
      · show μ1.2 13 i = _
        rw [k2 13 (by decide)]
        exact (if_neg (by omega)).trans a1
      · show μ1.2 14 i = _
        rw [(k3 i (by omega)).2]
        exact (if_neg (by omega)).trans a2
      · show μ1.1 15 i = _
        rw [(k3 i (by omega)).1]
        exact (if_neg (by omega)).trans a3
    · have hl := (List.getElem?_eq_some_iff.mp hq).1
      rw [List.length_append] at hl
      have e2 : i = acc.length := by simp at hl; omega
      subst e2
      rw [List.getElem?_append_right (Nat.le_refl _), Nat.sub_self] at hq
      cases hq
      refine ⟨?_, k4, k5⟩
      show μ1.2 13 acc.length = _
      rw [k2 13 (by decide)]
      exact if_pos rfl
  · show (if k = 12 then _ else μ1.1 k) = _
    rw [if_neg a, k1 k b]
    exact if_neg b
  · show μ1.2 k = _
    rw [k2 k b]
    exact (if_neg b).trans (if_neg a)
  · show upd (μ1.1 12) 5 _ j = _
    rw [upd_at, if_neg a, k1 12 (by decide)]
    rfl

set_option maxRecDepth 20000 in
set_option maxHeartbeats 4000000 in
theorem x_keep {μ : Mem} {σ : Sg} {acc : List (List Nat)} {r : List Nat} {Q : Option Value → Mem → Prop} (hX : Xs μ σ) (hO : Ok σ) (hA : RA μ σ acc) (ha : acc.length < 150) (hP : okP σ r) (hr8 : r.length ≤ 8) (h : ∀ μ', RA μ' σ (acc ++ [r]) → frR μ μ' → Q none μ') : Sp iX2_keep 1 [.ref 12, .ref 1, .long (lN (packP r))] μ Q := by
  refine Sp.of vX2_keep.1 (Nat.le_of_ble_eq_true rfl) ?_
  show WP cX2_keep (RX2, 6, none, 1, none) 0 [(0, .ref 12), (1, .ref 1), (2, .long (lN (packP r)))] [] μ Q
  have hn := Ok_n hO
  refine r_aload_n (pc := 0) dX2_keep_0 rfl ?_
  refine r_getI (pc := 1) (x := (nI (acc.length))) dX2_keep_1 fX2_28 rfl rfl hA.1 ?_
  refine r_sipush (pc := 4) (v := (nI (150))) dX2_keep_4 (by decide) ?_
  refine rn_icmp_lt (pc := 7) (tgt := 11) dX2_keep_7 (by decide) (by omega) (by omega) (fun c7 => ?_) (fun c7 => ?_)
  · refine r_aload_n (pc := 11) dX2_keep_11 rfl ?_
    refine r_getR (pc := 12) (r := 13) dX2_keep_12 fX2_9 rfl rfl ?_
    refine r_aload_n (pc := 15) dX2_keep_15 rfl ?_
    refine r_getI (pc := 16) (x := (nI (acc.length))) dX2_keep_16 fX2_28 rfl rfl hA.1 ?_
    refine r_lload_n (pc := 19) dX2_keep_19 rfl ?_
    refine r_last (pc := 20) dX2_keep_20 rfl rfl (by omega) ?_
    refine r_aload_n (pc := 21) dX2_keep_21 rfl ?_
    refine r_getR (pc := 22) (r := 14) dX2_keep_22 fX2_15 rfl rfl ?_
    refine r_aload_n (pc := 25) dX2_keep_25 rfl ?_
    refine r_getI (pc := 26) (x := (nI (acc.length))) dX2_keep_26 fX2_28 rfl rfl hA.1 ?_
    refine r_lconst (pc := 29) (v := lN 1) dX2_keep_29 rfl ?_
    refine r_last (pc := 30) dX2_keep_30 rfl rfl (by omega) ?_
    refine r_aload_n (pc := 31) dX2_keep_31 rfl ?_
    refine r_getR (pc := 32) (r := 15) dX2_keep_32 fX2_18 rfl rfl ?_
    refine r_aload_n (pc := 35) dX2_keep_35 rfl ?_
    refine r_getI (pc := 36) (x := (nI (acc.length))) dX2_keep_36 fX2_28 rfl rfl hA.1 ?_
    refine r_iconst (pc := 39) (v := (nI (0))) dX2_keep_39 (by decide) ?_
    refine r_iast (pc := 40) dX2_keep_40 rfl rfl (by omega) ?_
    refine r_iconst (pc := 41) (v := (nI (0))) dX2_keep_41 (by decide) ?_
    refine r_istore (pc := 42) (ls' := [(0, .ref 12), (1, .ref 1), (2, .long (lN (packP r))), (4, .int (nI 0))]) dX2_keep_42 (Nat.le_of_ble_eq_true rfl) rfl ?_
    refine x_keep_a (μ := setI (setL (setL μ 13 acc.length (lN (packP r))) 14 acc.length (lN 1)) 15 acc.length (nI 0)) hX hO hP hr8 (by omega) hA.1 (if_pos rfl) (fun μ1 hK => ?_) r.length 0 _ (by omega) ⟨fun _ _ => rfl, fun _ _ => rfl, fun _ _ => ⟨rfl, rfl⟩, if_pos rfl, if_pos rfl⟩
    obtain ⟨a1, a2⟩ := RA_more hA hK
    exact h _ a1 a2
  · exact absurd ha (by omega)
