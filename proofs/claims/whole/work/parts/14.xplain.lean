/-! PLAIN CALLS of the class; off on both sides -/
theorem c16N {q : Nat} (hq : q < 65536) : ((nI q).toUInt32 % 65536).toInt32 = nI q := by
  rw [pk_char, pk_tn (by omega), Nat.mod_eq_of_lt hq]
theorem narC {q : Nat} (hq : q < 65536) : vp_nar .char (nI q) = nI q := by
  unfold vp_nar
  rw [(pk_charN hq).1]
theorem Xs_keep0 {μ : Mem} {σ : Sg} (h : Xs μ σ) : Xs (setI (setI μ 12 7 (nI 0)) 37 2 (nI 0)) σ := h
/-- off: of a board, of all below b -/
def ov (σ : Sg) (b : Nat) : Int32 := if opn σ b = true then nI (upR (σ 4 b) (σ 0 1) * σ 9 (σ 3 b)) - nI (σ 2 b * σ 9 (σ 1 b)) else nI 0
def og (σ : Sg) : Nat → Int32
  | 0 => nI 0
  | b + 1 => if ov σ b ≤ og σ b then og σ b else ov σ b
def ow (σ : Sg) : Nat → Int32
  | 0 => -6
  | b + 1 => if ov σ b ≤ og σ b then ow σ b else nI b
def os (σ : Sg) : Nat → Nat
  | 0 => 0
  | b + 1 => os σ b ||| (if ov σ b ≤ 0 then 0 else 2 ^ b)
theorem os_lt (σ : Sg) : ∀ m, os σ m < 2 ^ m
  | 0 => Nat.one_pos
  | m + 1 => by
    unfold os
    refine or_lt (Nat.lt_of_lt_of_le (os_lt σ m) (Nat.pow_le_pow_right (by decide) (by omega))) ?_
    split
    · exact Nat.two_pow_pos _
    · exact Nat.pow_lt_pow_right (by decide) (by omega)
def sp_off (σ : Sg) (w : Int32) : Int32 := if inR w (nI 0) (nI 3) = false then -2 else if w = nI 0 then og σ (σ 0 0) else if w = nI 1 then ow σ (σ 0 0) else if w = nI 2 then (if os σ (σ 0 0) = 0 then nI 1 else nI 0) else nI (os σ (σ 0 0))

set_option maxRecDepth 20000 in
set_option maxHeartbeats 4000000 in
theorem x_forget {μ : Mem} {Q : Option Value → Mem → Prop} (h : Q none (setI (setI μ 12 7 (nI 0)) 37 2 (nI 0))) : Sp iX6_forget 0 [.ref 0] μ Q := by
  refine Sp.of vX6_forget.1 (Nat.le_of_ble_eq_true rfl) ?_
  show WP cX6_forget (RX6, 1, none, 0, none) 0 [(0, .ref 0)] [] μ Q
  refine r_aload_n (pc := 0) dX6_forget_0 rfl ?_
  refine r_getR (pc := 1) (r := 12) dX6_forget_1 fX6_26 rfl rfl ?_
  refine r_iconst (pc := 4) (v := (nI (0))) dX6_forget_4 (by decide) ?_
  refine r_putI (pc := 5) dX6_forget_5 gX6_251 rfl rfl rfl rfl ?_
  refine r_aload_n (pc := 8) dX6_forget_8 rfl ?_
  refine r_getR (pc := 9) (r := 37) dX6_forget_9 fX6_47 rfl rfl ?_
  refine r_iconst (pc := 12) (v := (nI (0))) dX6_forget_12 (by decide) ?_
  refine r_putI (pc := 13) dX6_forget_13 gX6_239 rfl rfl rfl rfl ?_
  refine r_return (pc := 16) dX6_forget_16 rfl ?_
  exact h

set_option maxRecDepth 20000 in
set_option maxHeartbeats 4000000 in
theorem x_badd {μ : Mem} {σ : Sg} {f t g n : Nat} {Q : Option Value → Mem → Prop} (hX : Xs μ σ) (hO : Ok σ) (hn12 : σ 0 0 < 12) (h : ∀ μ', Xs μ' (addB σ f t g n) → keepM μ μ' → (∀ k, 10 ≤ k → μ'.1 k = μ.1 k ∧ μ'.2 k = μ.2 k) → Q none μ') : Sp iX0_add 0 [.ref 1, .int (nI f), .int (nI t), .int (nI g), .int (nI n)] μ Q := by
  refine Sp.of vX0_add.1 (Nat.le_of_ble_eq_true rfl) ?_
  show WP cX0_add (RX0, 5, none, 0, none) 0 [(0, .ref 1), (1, .int (nI f)), (2, .int (nI t)), (3, .int (nI g)), (4, .int (nI n))] [] μ Q
  have hn := Ok_n hO
  refine r_aload_n (pc := 0) dX0_add_0 rfl ?_
  refine r_getI (pc := 1) (x := (nI (σ 0 0))) dX0_add_1 fX0_36 rfl rfl (Xs_n (μ := μ) hX) ?_
  refine r_bipush (pc := 4) (v := (nI (12))) dX0_add_4 (by decide) ?_
  refine rn_icmp_lt (pc := 6) (tgt := 10) dX0_add_6 (by decide) (by omega) (by omega) (fun c6 => ?_) (fun c6 => ?_)
  · refine r_aload_n (pc := 10) dX0_add_10 rfl ?_
    refine r_getR (pc := 11) (r := 2) dX0_add_11 fX0_9 rfl rfl ?_
    refine r_aload_n (pc := 14) dX0_add_14 rfl ?_
    refine r_getI (pc := 15) (x := (nI (σ 0 0))) dX0_add_15 fX0_36 rfl rfl (Xs_n (μ := μ) hX) ?_
    refine r_iload_n (pc := 18) dX0_add_18 rfl ?_
    refine r_iast (pc := 19) dX0_add_19 rfl rfl (by omega) ?_
    refine r_aload_n (pc := 20) dX0_add_20 rfl ?_
    refine r_getR (pc := 21) (r := 3) dX0_add_21 fX0_15 rfl rfl ?_
    refine r_aload_n (pc := 24) dX0_add_24 rfl ?_
    refine r_getI (pc := 25) (x := (nI (σ 0 0))) dX0_add_25 fX0_36 rfl rfl (Xs_n (μ := μ) hX) ?_
    refine r_iload_n (pc := 28) dX0_add_28 rfl ?_
    refine r_iast (pc := 29) dX0_add_29 rfl rfl (by omega) ?_
    refine r_aload_n (pc := 30) dX0_add_30 rfl ?_
    refine r_getR (pc := 31) (r := 4) dX0_add_31 fX0_18 rfl rfl ?_
    refine r_aload_n (pc := 34) dX0_add_34 rfl ?_
    refine r_getI (pc := 35) (x := (nI (σ 0 0))) dX0_add_35 fX0_36 rfl rfl (Xs_n (μ := μ) hX) ?_
    refine r_iload_n (pc := 38) dX0_add_38 rfl ?_
    refine r_iast (pc := 39) dX0_add_39 rfl rfl (by omega) ?_
    refine r_aload_n (pc := 40) dX0_add_40 rfl ?_
    refine r_getR (pc := 41) (r := 5) dX0_add_41 fX0_21 rfl rfl ?_
    refine r_aload_n (pc := 44) dX0_add_44 rfl ?_
    refine r_getI (pc := 45) (x := (nI (σ 0 0))) dX0_add_45 fX0_36 rfl rfl (Xs_n (μ := μ) hX) ?_
    refine r_iload (pc := 48) dX0_add_48 rfl ?_
    refine r_iast (pc := 50) dX0_add_50 rfl rfl (by omega) ?_
    refine r_aload_n (pc := 51) dX0_add_51 rfl ?_
    refine r_getR (pc := 52) (r := 6) dX0_add_52 fX0_24 rfl rfl ?_
    refine r_aload_n (pc := 55) dX0_add_55 rfl ?_
    refine r_getI (pc := 56) (x := (nI (σ 0 0))) dX0_add_56 fX0_36 rfl rfl (Xs_n (μ := μ) hX) ?_
    refine r_iconst (pc := 59) (v := (nI (0))) dX0_add_59 (by decide) ?_
    refine r_iast (pc := 60) dX0_add_60 rfl rfl (by omega) ?_
    refine r_aload_n (pc := 61) dX0_add_61 rfl ?_
    refine r_getR (pc := 62) (r := 7) dX0_add_62 fX0_27 rfl rfl ?_
    refine r_aload_n (pc := 65) dX0_add_65 rfl ?_
    refine r_getI (pc := 66) (x := (nI (σ 0 0))) dX0_add_66 fX0_36 rfl rfl (Xs_n (μ := μ) hX) ?_
    refine r_bipush (pc := 69) (v := (nI (99))) dX0_add_69 (by decide) ?_
    refine r_iast (pc := 71) dX0_add_71 rfl rfl (by omega) ?_
    refine r_aload_n (pc := 72) dX0_add_72 rfl ?_
    refine r_getR (pc := 73) (r := 8) dX0_add_73 fX0_30 rfl rfl ?_
    refine r_aload_n (pc := 76) dX0_add_76 rfl ?_
    refine r_getI (pc := 77) (x := (nI (σ 0 0))) dX0_add_77 fX0_36 rfl rfl (Xs_n (μ := μ) hX) ?_
    refine r_ldc (pc := 80) dX0_add_80 kX0_40 ?_
    refine r_eqi (y := nI 1000000) (by decide) ?_
    refine r_iast (pc := 82) dX0_add_82 rfl rfl (by omega) ?_
    refine r_aload_n (pc := 83) dX0_add_83 rfl ?_
    refine r_dup_r (pc := 84) dX0_add_84 ?_
    refine r_getI (pc := 85) (x := (nI (σ 0 0))) dX0_add_85 fX0_36 rfl rfl (Xs_n (μ := μ) hX) ?_
    refine r_iconst (pc := 88) (v := (nI (1))) dX0_add_88 (by decide) ?_
    refine rn_iadd (pc := 89) dX0_add_89 ?_
    refine r_putI (pc := 90) dX0_add_90 gX0_36 rfl rfl rfl rfl ?_
    refine r_return (pc := 93) dX0_add_93 rfl ?_
    refine h _ (Xs_add hX) ((keepM.I (keepM.I (keepM.I (keepM.I (keepM.I (keepM.I (keepM.I (keepM.I keepM.rf (by decide)) (by decide)) (by decide)) (by decide)) (by decide)) (by decide)) (by decide)) (by decide))) (fun k hk => ⟨?_, rfl⟩)
    simp only [setI]
    rw [if_neg (by omega), if_neg (by omega), if_neg (by omega), if_neg (by omega), if_neg (by omega), if_neg (by omega), if_neg (by omega), if_neg (by omega)]
  · exact absurd hn12 (by omega)

set_option maxRecDepth 20000 in
set_option maxHeartbeats 4000000 in
theorem x_board {μ : Mem} {σ : Sg} {f t g n : Int32} {Q : Option Value → Mem → Prop} (hI : XI μ σ) (hO : Ok σ) (h : ∀ μ', XI μ' (sp_board σ f t g n).2 → keepM μ μ' → Q (some (.int (sp_board σ f t g n).1)) μ') : Sp iX6_board 1 [.ref 0, .int (f), .int (t), .int (g), .int (n)] μ Q := by
  refine Sp.of vX6_board.1 (Nat.le_of_ble_eq_true rfl) ?_
  show WP cX6_board (RX6, 5, (some .int), 1, none) 0 [(0, .ref 0), (1, .int (f)), (2, .int (t)), (3, .int (g)), (4, .int (n))] [] μ Q
  have hn := Ok_n hO
  have hX := hI.1
  have hC := hI.2
  refine r_iload_n (pc := 0) dX6_board_0 rfl ?_
  refine r_callS (pc := 1) (d' := 0) (As := [.int (f)]) (rest := []) dX6_board_1 sX6_isCoin mX6_55 rfl rfl (Nat.le_of_ble_eq_true rfl) (Nat.le_of_ble_eq_true rfl) ?_
  refine c_xcoin ?_
  refine rb_if_eq (pc := 4) (tgt := 19) dX6_board_4 (by decide) (fun c4 => ?_) (fun c4 => ?_)
  · refine r_iconst (pc := 19) (v := (-1)) dX6_board_19 (by decide) ?_
    refine r_ireturn (pc := 20) dX6_board_20 rfl (Or.inl rfl) rfl ?_
    have e9 : sp_board σ f t g n = ((-1), σ) := by
      simp [sp_board, c4]
    rw [e9] at h
    exact h _ hI (keepM.rf)
  · obtain ⟨fj, hfj, rfl, -⟩ := isB_t c4
    refine r_iload_n (pc := 7) dX6_board_7 rfl ?_
    refine r_callS (pc := 8) (d' := 0) (As := [.int (g)]) (rest := []) dX6_board_8 sX6_isCoin mX6_55 rfl rfl (Nat.le_of_ble_eq_true rfl) (Nat.le_of_ble_eq_true rfl) ?_
    refine c_xcoin ?_
    refine rb_if_eq (pc := 11) (tgt := 19) dX6_board_11 (by decide) (fun c11 => ?_) (fun c11 => ?_)
    · refine r_iconst (pc := 19) (v := (-1)) dX6_board_19 (by decide) ?_
      refine r_ireturn (pc := 20) dX6_board_20 rfl (Or.inl rfl) rfl ?_
      have e9 : sp_board σ (nI fj) t g n = ((-1), σ) := by
        simp [sp_board, c4, c11]
      rw [e9] at h
      exact h _ hI (keepM.rf)
    · obtain ⟨gj, hgj, rfl, -⟩ := isB_t c11
      refine r_iload_n (pc := 14) dX6_board_14 rfl ?_
      refine r_iload_n (pc := 15) dX6_board_15 rfl ?_
      refine rn_icmp_ne (pc := 16) (tgt := 21) dX6_board_16 (by decide) (by omega) (by omega) (fun c16 => ?_) (fun c16 => ?_)
      · have hne : ¬ nI fj = nI gj := fun q => c16 (nI_inj (by omega) (by omega) q)
        refine r_iload_n (pc := 21) dX6_board_21 rfl ?_
        refine r_iconst (pc := 22) (v := (nI (1))) dX6_board_22 (by decide) ?_
        refine r_bipush (pc := 23) (v := (nI (99))) dX6_board_23 (by decide) ?_
        refine r_callS (pc := 25) (d' := 0) (As := [.int (t), .int (nI 1), .int (nI 99)]) (rest := []) dX6_board_25 sX6_isWithin mX6_59 rfl rfl (Nat.le_of_ble_eq_true rfl) (Nat.le_of_ble_eq_true rfl) ?_
        refine c_within ?_
        refine rb_if_eq (pc := 28) (tgt := 42) dX6_board_28 (by decide) (fun c28 => ?_) (fun c28 => ?_)
        · refine r_bipush (pc := 42) (v := (-2)) dX6_board_42 (by decide) ?_
          refine r_ireturn (pc := 44) dX6_board_44 rfl (Or.inl rfl) rfl ?_
          have e9 : sp_board σ (nI fj) t (nI gj) n = ((-2), σ) := by
            simp [sp_board, c4, c11, c16, c28, hne]
          rw [e9] at h
          exact h _ hI (keepM.rf)
        · obtain ⟨tj, ht1, ht2, rfl⟩ := inR_t (by decide) (by decide) c28
          refine r_iload (pc := 31) dX6_board_31 rfl ?_
          refine r_iconst (pc := 33) (v := (nI (1))) dX6_board_33 (by decide) ?_
          refine r_bipush (pc := 34) (v := (nI (99))) dX6_board_34 (by decide) ?_
          refine r_callS (pc := 36) (d' := 0) (As := [.int (n), .int (nI 1), .int (nI 99)]) (rest := []) dX6_board_36 sX6_isWithin mX6_59 rfl rfl (Nat.le_of_ble_eq_true rfl) (Nat.le_of_ble_eq_true rfl) ?_
          refine c_within ?_
          refine rb_if_ne (pc := 39) (tgt := 45) dX6_board_39 (by decide) (fun c39 => ?_) (fun c39 => ?_)
          · obtain ⟨nj, hn1, hn2, rfl⟩ := inR_t (by decide) (by decide) c39
            refine r_aload_n (pc := 45) dX6_board_45 rfl ?_
            refine r_getR (pc := 46) (r := 1) dX6_board_46 fX6_12 rfl rfl ?_
            refine r_getI (pc := 49) (x := (nI (σ 0 0))) dX6_board_49 fX6_63 rfl rfl (Xs_n (μ := μ) hX) ?_
            refine r_bipush (pc := 52) (v := (nI (12))) dX6_board_52 (by decide) ?_
            refine rn_icmp_lt (pc := 54) (tgt := 60) dX6_board_54 (by decide) (by omega) (by omega) (fun c54 => ?_) (fun c54 => ?_)
            · have h12 : ¬ σ 0 0 = 12 := by omega
              refine r_aload_n (pc := 60) dX6_board_60 rfl ?_
              refine r_callV (pc := 61) (d' := 0) (k := 0) (As := []) (rest := []) dX6_board_61 vX6_forget mX6_67 rfl rfl rfl (Nat.le_of_ble_eq_true rfl) (Nat.le_of_ble_eq_true rfl) ?_
              refine x_forget ?_
              refine r_aload_n (pc := 64) dX6_board_64 rfl ?_
              refine r_getR (pc := 65) (r := 1) dX6_board_65 fX6_12 rfl rfl ?_
              refine r_iload_n (pc := 68) dX6_board_68 rfl ?_
              refine r_iload_n (pc := 69) dX6_board_69 rfl ?_
              refine r_iload_n (pc := 70) dX6_board_70 rfl ?_
              refine r_iload (pc := 71) dX6_board_71 rfl ?_
              refine r_callV (pc := 73) (d' := 0) (k := 1) (As := [.int (nI fj), .int (nI tj), .int (nI gj), .int (nI nj)]) (rest := []) dX6_board_73 vX0_add mX6_70 rfl rfl rfl (Nat.le_of_ble_eq_true rfl) (Nat.le_of_ble_eq_true rfl) ?_
              refine x_badd (Xs_keep0 hX) hO (by omega) (fun μ1 hX1 hk1 hr1 => ?_)
              refine r_aload_n (pc := 76) dX6_board_76 rfl ?_
              refine r_getR (pc := 77) (r := 1) dX6_board_77 fX6_12 rfl rfl ?_
              refine r_getI (pc := 80) (x := (nI (σ 0 0 + 1))) dX6_board_80 fX6_63 rfl rfl (Xs_n hX1) ?_
              refine r_iconst (pc := 83) (v := (nI (1))) dX6_board_83 (by decide) ?_
              refine rn_isub (pc := 84) dX6_board_84 (by omega) ?_
              refine r_ireturn (pc := 85) dX6_board_85 rfl (Or.inl rfl) rfl ?_
              have e9 : sp_board σ (nI fj) (nI tj) (nI gj) (nI nj) = (nI (σ 0 0), addB σ fj tj gj nj) := by
                simp [sp_board, c4, c11, c16, c28, c39, c54, hne, h12, bN_nI (show fj < 2 ^ 31 by omega), bN_nI (show tj < 2 ^ 31 by omega), bN_nI (show gj < 2 ^ 31 by omega), bN_nI (show nj < 2 ^ 31 by omega)]
              rw [e9] at h
              rw [show σ 0 0 + 1 - 1 = σ 0 0 by omega]
              exact h μ1 ⟨hX1, Xc_none (by rw [(hr1 12 (by decide)).1]; rfl) (by rw [(hr1 37 (by decide)).1]; rfl)⟩ (keepM.tr (keepM.I (keepM.I keepM.rf (by decide)) (by decide)) hk1)
            · have h12 : σ 0 0 = 12 := by omega
              refine r_bipush (pc := 57) (v := (-4)) dX6_board_57 (by decide) ?_
              refine r_ireturn (pc := 59) dX6_board_59 rfl (Or.inl rfl) rfl ?_
              have e9 : sp_board σ (nI fj) (nI tj) (nI gj) (nI nj) = ((-4), σ) := by
                simp [sp_board, c4, c11, c16, c28, c39, c54, hne, h12]
              rw [e9] at h
              exact h _ hI (keepM.rf)
          · refine r_bipush (pc := 42) (v := (-2)) dX6_board_42 (by decide) ?_
            refine r_ireturn (pc := 44) dX6_board_44 rfl (Or.inl rfl) rfl ?_
            have e9 : sp_board σ (nI fj) (nI tj) (nI gj) n = ((-2), σ) := by
              simp [sp_board, c4, c11, c16, c28, c39, hne]
            rw [e9] at h
            exact h _ hI (keepM.rf)
      · refine r_iconst (pc := 19) (v := (-1)) dX6_board_19 (by decide) ?_
        refine r_ireturn (pc := 20) dX6_board_20 rfl (Or.inl rfl) rfl ?_
        have e9 : sp_board σ (nI fj) t (nI gj) n = ((-1), σ) := by
          simp [sp_board, c4, c11, c16]
        rw [e9] at h
        exact h _ hI (keepM.rf)

set_option maxRecDepth 20000 in
set_option maxHeartbeats 4000000 in
theorem x_of {μ : Mem} {σ : Sg} {b w : Int32} {Q : Option Value → Mem → Prop} (hI : XI μ σ) (hO : Ok σ) (h : ∀ μ', XI μ' σ → keepM μ μ' → Q (some (.int (sp_of σ b w))) μ') : Sp iX6_of 2 [.ref 0, .int (b), .int (w)] μ Q := by
  refine Sp.of vX6_of.1 (Nat.le_of_ble_eq_true rfl) ?_
  show WP cX6_of (RX6, 3, (some .int), 2, none) 0 [(0, .ref 0), (1, .int (b)), (2, .int (w))] [] μ Q
  have hn := Ok_n hO
  have hX := hI.1
  have hC := hI.2
  refine r_aload_n (pc := 0) dX6_of_0 rfl ?_
  refine r_getR (pc := 1) (r := 1) dX6_of_1 fX6_12 rfl rfl ?_
  refine r_iload_n (pc := 4) dX6_of_4 rfl ?_
  refine r_callV (pc := 5) (d' := 0) (k := 1) (As := [.int (b)]) (rest := []) dX6_of_5 vX0_has mX6_74 rfl rfl rfl (Nat.le_of_ble_eq_true rfl) (Nat.le_of_ble_eq_true rfl) ?_
  refine c_has (μ := μ) hX hO ?_
  refine rb_if_ne (pc := 8) (tgt := 13) dX6_of_8 (by decide) (fun c8 => ?_) (fun c8 => ?_)
  · obtain ⟨bj, hbj, rfl, -⟩ := isB_t c8
    refine r_iload_n (pc := 13) dX6_of_13 rfl ?_
    by_cases c14 : (w).toInt < 0 ∨ 8 < (w).toInt
    · refine r_tableOut (pc := 14) (tgt := 160) dX6_of_14 c14 (by decide) ?_
      refine r_bipush (pc := 160) (v := (-2)) dX6_of_160 (by decide) ?_
      refine r_ireturn (pc := 162) dX6_of_162 rfl (Or.inl rfl) rfl ?_
      rw [show sp_of σ (nI bj) w = -2 by rw [sp_of, if_neg (by simp [c8]), if_neg (sw_out c14 (by decide) (by decide) : ¬ w = nI 0), if_neg (sw_out c14 (by decide) (by decide) : ¬ w = nI 1), if_neg (sw_out c14 (by decide) (by decide) : ¬ w = nI 2), if_neg (sw_out c14 (by decide) (by decide) : ¬ w = nI 3), if_neg (sw_out c14 (by decide) (by decide) : ¬ w = nI 4), if_neg (sw_out c14 (by decide) (by decide) : ¬ w = nI 5), if_neg (sw_out c14 (by decide) (by decide) : ¬ w = nI 6), if_neg (sw_out c14 (by decide) (by decide) : ¬ w = nI 7), if_neg (sw_out c14 (by decide) (by decide) : ¬ w = nI 8)]] at h
      exact h _ hI keepM.rf
    · obtain ⟨j1, hj2, e3⟩ := sw_cases (by decide) c14
      rcases (show j1 = 0 ∨ j1 = 1 ∨ j1 = 2 ∨ j1 = 3 ∨ j1 = 4 ∨ j1 = 5 ∨ j1 = 6 ∨ j1 = 7 ∨ j1 = 8 by omega) with rfl | rfl | rfl | rfl | rfl | rfl | rfl | rfl | rfl
      · rw [e3]
        refine r_tableIn (pc := 14) (tgt := 64) (off := 50) dX6_of_14 (by decide) (by decide) (by decide) (by decide) ?_
        refine r_aload_n (pc := 64) dX6_of_64 rfl ?_
        refine r_getR (pc := 65) (r := 1) dX6_of_65 fX6_12 rfl rfl ?_
        refine r_getR (pc := 68) (r := 2) dX6_of_68 fX6_77 rfl rfl ?_
        refine r_iload_n (pc := 71) dX6_of_71 rfl ?_
        refine r_iald (pc := 72) (x := (nI (σ 1 (bj)))) dX6_of_72 rfl rfl (by omega) (Xs_1 (μ := μ) hX (by omega)) ?_
        have b4 := Ok_b hO (j := bj) (by omega)
        refine r_ireturn (pc := 73) dX6_of_73 rfl (Or.inl rfl) rfl ?_
        rw [show sp_of σ (nI bj) w = (nI (σ 1 (bj))) by rw [e3]; simp (decide := true) [sp_of, c8, bN_nI (show bj < 2 ^ 31 by omega)]] at h
        exact h _ hI keepM.rf
      · rw [e3]
        refine r_tableIn (pc := 14) (tgt := 74) (off := 60) dX6_of_14 (by decide) (by decide) (by decide) (by decide) ?_
        refine r_aload_n (pc := 74) dX6_of_74 rfl ?_
        refine r_getR (pc := 75) (r := 1) dX6_of_75 fX6_12 rfl rfl ?_
        refine r_getR (pc := 78) (r := 3) dX6_of_78 fX6_80 rfl rfl ?_
        refine r_iload_n (pc := 81) dX6_of_81 rfl ?_
        refine r_iald (pc := 82) (x := (nI (σ 2 (bj)))) dX6_of_82 rfl rfl (by omega) (Xs_2 (μ := μ) hX (by omega)) ?_
        have b5 := Ok_b hO (j := bj) (by omega)
        refine r_ireturn (pc := 83) dX6_of_83 rfl (Or.inl rfl) rfl ?_
        rw [show sp_of σ (nI bj) w = (nI (σ 2 (bj))) by rw [e3]; simp (decide := true) [sp_of, c8, bN_nI (show bj < 2 ^ 31 by omega)]] at h
        exact h _ hI keepM.rf
      · rw [e3]
        refine r_tableIn (pc := 14) (tgt := 84) (off := 70) dX6_of_14 (by decide) (by decide) (by decide) (by decide) ?_
        refine r_aload_n (pc := 84) dX6_of_84 rfl ?_
        refine r_getR (pc := 85) (r := 1) dX6_of_85 fX6_12 rfl rfl ?_
        refine r_getR (pc := 88) (r := 4) dX6_of_88 fX6_83 rfl rfl ?_
        refine r_iload_n (pc := 91) dX6_of_91 rfl ?_
        refine r_iald (pc := 92) (x := (nI (σ 3 (bj)))) dX6_of_92 rfl rfl (by omega) (Xs_3 (μ := μ) hX (by omega)) ?_
        have b6 := Ok_b hO (j := bj) (by omega)
        refine r_ireturn (pc := 93) dX6_of_93 rfl (Or.inl rfl) rfl ?_
        rw [show sp_of σ (nI bj) w = (nI (σ 3 (bj))) by rw [e3]; simp (decide := true) [sp_of, c8, bN_nI (show bj < 2 ^ 31 by omega)]] at h
        exact h _ hI keepM.rf
      · rw [e3]
        refine r_tableIn (pc := 14) (tgt := 94) (off := 80) dX6_of_14 (by decide) (by decide) (by decide) (by decide) ?_
        refine r_aload_n (pc := 94) dX6_of_94 rfl ?_
        refine r_getR (pc := 95) (r := 1) dX6_of_95 fX6_12 rfl rfl ?_
        refine r_getR (pc := 98) (r := 5) dX6_of_98 fX6_86 rfl rfl ?_
        refine r_iload_n (pc := 101) dX6_of_101 rfl ?_
        refine r_iald (pc := 102) (x := (nI (σ 4 (bj)))) dX6_of_102 rfl rfl (by omega) (Xs_4 (μ := μ) hX (by omega)) ?_
        have b7 := Ok_b hO (j := bj) (by omega)
        refine r_ireturn (pc := 103) dX6_of_103 rfl (Or.inl rfl) rfl ?_
        rw [show sp_of σ (nI bj) w = (nI (σ 4 (bj))) by rw [e3]; simp (decide := true) [sp_of, c8, bN_nI (show bj < 2 ^ 31 by omega)]] at h
        exact h _ hI keepM.rf
      · rw [e3]
        refine r_tableIn (pc := 14) (tgt := 104) (off := 90) dX6_of_14 (by decide) (by decide) (by decide) (by decide) ?_
        refine r_aload_n (pc := 104) dX6_of_104 rfl ?_
        refine r_getR (pc := 105) (r := 1) dX6_of_105 fX6_12 rfl rfl ?_
        refine r_getR (pc := 108) (r := 6) dX6_of_108 fX6_89 rfl rfl ?_
        refine r_iload_n (pc := 111) dX6_of_111 rfl ?_
        refine r_iald (pc := 112) (x := (nI (σ 5 (bj)))) dX6_of_112 rfl rfl (by omega) (Xs_5 (μ := μ) hX (by omega)) ?_
        have b8 := Ok_b hO (j := bj) (by omega)
        refine r_ireturn (pc := 113) dX6_of_113 rfl (Or.inl rfl) rfl ?_
        rw [show sp_of σ (nI bj) w = (nI (σ 5 (bj))) by rw [e3]; simp (decide := true) [sp_of, c8, bN_nI (show bj < 2 ^ 31 by omega)]] at h
        exact h _ hI keepM.rf
      · rw [e3]
        refine r_tableIn (pc := 14) (tgt := 114) (off := 100) dX6_of_14 (by decide) (by decide) (by decide) (by decide) ?_
        refine r_aload_n (pc := 114) dX6_of_114 rfl ?_
        refine r_getR (pc := 115) (r := 1) dX6_of_115 fX6_12 rfl rfl ?_
        refine r_getR (pc := 118) (r := 7) dX6_of_118 fX6_92 rfl rfl ?_
        refine r_iload_n (pc := 121) dX6_of_121 rfl ?_
        refine r_iald (pc := 122) (x := (nI (σ 6 (bj)))) dX6_of_122 rfl rfl (by omega) (Xs_6 (μ := μ) hX (by omega)) ?_
        have b9 := Ok_b hO (j := bj) (by omega)
        refine r_ireturn (pc := 123) dX6_of_123 rfl (Or.inl rfl) rfl ?_
        rw [show sp_of σ (nI bj) w = (nI (σ 6 (bj))) by rw [e3]; simp (decide := true) [sp_of, c8, bN_nI (show bj < 2 ^ 31 by omega)]] at h
        exact h _ hI keepM.rf
      · rw [e3]
        refine r_tableIn (pc := 14) (tgt := 124) (off := 110) dX6_of_14 (by decide) (by decide) (by decide) (by decide) ?_
        refine r_aload_n (pc := 124) dX6_of_124 rfl ?_
        refine r_getR (pc := 125) (r := 1) dX6_of_125 fX6_12 rfl rfl ?_
        refine r_getR (pc := 128) (r := 8) dX6_of_128 fX6_95 rfl rfl ?_
        refine r_iload_n (pc := 131) dX6_of_131 rfl ?_
        refine r_iald (pc := 132) (x := (nI (σ 7 (bj)))) dX6_of_132 rfl rfl (by omega) (Xs_7 (μ := μ) hX (by omega)) ?_
        have b10 := Ok_b hO (j := bj) (by omega)
        refine r_ireturn (pc := 133) dX6_of_133 rfl (Or.inl rfl) rfl ?_
        rw [show sp_of σ (nI bj) w = (nI (σ 7 (bj))) by rw [e3]; simp (decide := true) [sp_of, c8, bN_nI (show bj < 2 ^ 31 by omega)]] at h
        exact h _ hI keepM.rf
      · rw [e3]
        refine r_tableIn (pc := 14) (tgt := 134) (off := 120) dX6_of_14 (by decide) (by decide) (by decide) (by decide) ?_
        refine r_aload_n (pc := 134) dX6_of_134 rfl ?_
        refine r_getR (pc := 135) (r := 1) dX6_of_135 fX6_12 rfl rfl ?_
        refine r_iload_n (pc := 138) dX6_of_138 rfl ?_
        refine r_callV (pc := 139) (d' := 1) (k := 1) (As := [.int (nI bj)]) (rest := []) dX6_of_139 vX0_isOpen mX6_98 rfl rfl rfl (Nat.le_of_ble_eq_true rfl) (Nat.le_of_ble_eq_true rfl) ?_
        refine c_xopen (μ := μ) hX hO (by omega) ?_
        refine rb_if_eq (pc := 142) (tgt := 149) dX6_of_142 (by decide) (fun c142 => ?_) (fun c142 => ?_)
        · refine r_iconst (pc := 149) (v := (nI (0))) dX6_of_149 (by decide) ?_
          refine r_ireturn (pc := 150) dX6_of_150 rfl (Or.inl rfl) rfl ?_
          rw [show sp_of σ (nI bj) w = (nI (0)) by rw [e3]; simp (decide := true) [sp_of, c8, bN_nI (show bj < 2 ^ 31 by omega), c142, b2i]] at h
          exact h _ hI keepM.rf
        · refine r_iconst (pc := 145) (v := (nI (1))) dX6_of_145 (by decide) ?_
          refine r_goto (pc := 146) (tgt := 150) dX6_of_146 (by decide) ?_
          refine r_ireturn (pc := 150) dX6_of_150 rfl (Or.inl rfl) rfl ?_
          rw [show sp_of σ (nI bj) w = (nI (1)) by rw [e3]; simp (decide := true) [sp_of, c8, bN_nI (show bj < 2 ^ 31 by omega), c142, b2i]] at h
          exact h _ hI keepM.rf
      · rw [e3]
        refine r_tableIn (pc := 14) (tgt := 151) (off := 137) dX6_of_14 (by decide) (by decide) (by decide) (by decide) ?_
        refine r_aload_n (pc := 151) dX6_of_151 rfl ?_
        refine r_getR (pc := 152) (r := 1) dX6_of_152 fX6_12 rfl rfl ?_
        refine r_iload_n (pc := 155) dX6_of_155 rfl ?_
        refine r_callV (pc := 156) (d' := 1) (k := 1) (As := [.int (nI bj)]) (rest := []) dX6_of_156 vX0_upper mX6_101 rfl rfl rfl (Nat.le_of_ble_eq_true rfl) (Nat.le_of_ble_eq_true rfl) ?_
        refine c_xupper (μ := μ) hX hO (by omega) ?_
        refine r_ireturn (pc := 159) dX6_of_159 rfl (Or.inl rfl) rfl ?_
        rw [show sp_of σ (nI bj) w = (nI (upR (σ 4 (bj)) (σ 0 1))) by rw [e3]; simp (decide := true) [sp_of, c8, bN_nI (show bj < 2 ^ 31 by omega)]] at h
        exact h _ hI keepM.rf
  · refine r_iconst (pc := 11) (v := (-1)) dX6_of_11 (by decide) ?_
    refine r_ireturn (pc := 12) dX6_of_12 rfl (Or.inl rfl) rfl ?_
    rw [show sp_of σ b w = -1 by simp [sp_of, c8]] at h
    exact h _ hI keepM.rf

set_option maxRecDepth 20000 in
set_option maxHeartbeats 4000000 in
theorem x_change {μ : Mem} {σ : Sg} {b w v : Int32} {Q : Option Value → Mem → Prop} (hI : XI μ σ) (hO : Ok σ) (h : ∀ μ', XI μ' (sp_change σ b w v).2 → keepM μ μ' → Q (some (.int (sp_change σ b w v).1)) μ') : Sp iX6_change 1 [.ref 0, .int (b), .int (w), .int (v)] μ Q := by
  refine Sp.of vX6_change.1 (Nat.le_of_ble_eq_true rfl) ?_
  show WP cX6_change (RX6, 6, (some .int), 1, none) 0 [(0, .ref 0), (1, .int (b)), (2, .int (w)), (3, .int (v))] [] μ Q
  have hn := Ok_n hO
  have hX := hI.1
  have hC := hI.2
  refine r_aload_n (pc := 0) dX6_change_0 rfl ?_
  refine r_getR (pc := 1) (r := 1) dX6_change_1 fX6_12 rfl rfl ?_
  refine r_iload_n (pc := 4) dX6_change_4 rfl ?_
  refine r_callV (pc := 5) (d' := 0) (k := 1) (As := [.int (b)]) (rest := []) dX6_change_5 vX0_has mX6_74 rfl rfl rfl (Nat.le_of_ble_eq_true rfl) (Nat.le_of_ble_eq_true rfl) ?_
  refine c_has (μ := μ) hX hO ?_
  refine rb_if_ne (pc := 8) (tgt := 13) dX6_change_8 (by decide) (fun c8 => ?_) (fun c8 => ?_)
  · obtain ⟨bj, hbj, rfl, -⟩ := isB_t c8
    refine r_iload_n (pc := 13) dX6_change_13 rfl ?_
    refine r_iconst (pc := 14) (v := (nI (0))) dX6_change_14 (by decide) ?_
    refine r_iconst (pc := 15) (v := (nI (1))) dX6_change_15 (by decide) ?_
    refine r_callS (pc := 16) (d' := 0) (As := [.int (w), .int (nI 0), .int (nI 1)]) (rest := []) dX6_change_16 sX6_isWithin mX6_59 rfl rfl (Nat.le_of_ble_eq_true rfl) (Nat.le_of_ble_eq_true rfl) ?_
    refine c_within ?_
    refine rb_if_eq (pc := 19) (tgt := 41) dX6_change_19 (by decide) (fun c19 => ?_) (fun c19 => ?_)
    · refine r_bipush (pc := 41) (v := (-2)) dX6_change_41 (by decide) ?_
      refine r_ireturn (pc := 43) dX6_change_43 rfl (Or.inl rfl) rfl ?_
      have e9 : sp_change σ (nI bj) w v = ((-2), σ) := by
        simp (decide := true) [sp_change, c8, c19]
      rw [e9] at h
      exact h _ hI (keepM.rf)
    · obtain ⟨wj, hw1, hw2, rfl⟩ := inR_t (by decide) (by decide) c19
      rcases (show wj = 0 ∨ wj = 1 by omega) with rfl | rfl
      · refine r_iload_n (pc := 22) dX6_change_22 rfl ?_
        refine r_iconst (pc := 23) (v := (nI (1))) dX6_change_23 (by decide) ?_
        refine r_iload_n (pc := 24) dX6_change_24 rfl ?_
        refine rn_if_ne (pc := 25) (tgt := 33) dX6_change_25 (by decide) (by decide) (fun q => absurd q (by decide)) (fun _ => ?_)
        refine r_bipush (pc := 28) (v := (nI (99))) dX6_change_28 (by decide) ?_
        refine r_goto (pc := 30) (tgt := 35) dX6_change_30 (by decide) ?_
        refine r_callS (pc := 35) (d' := 0) (As := [.int (v), .int (nI 1), .int (nI 99)]) (rest := []) dX6_change_35 sX6_isWithin mX6_59 rfl rfl (Nat.le_of_ble_eq_true rfl) (Nat.le_of_ble_eq_true rfl) ?_
        refine c_within ?_
        refine rb_if_ne (pc := 38) (tgt := 44) dX6_change_38 (by decide) (fun c38 => ?_) (fun c38 => ?_)
        · obtain ⟨vj, hv1, hv2, rfl⟩ := inR_t (by decide) (by decide) c38
          refine r_aload_n (pc := 44) dX6_change_44 rfl ?_
          refine r_callV (pc := 45) (d' := 0) (k := 0) (As := []) (rest := []) dX6_change_45 vX6_forget mX6_67 rfl rfl rfl (Nat.le_of_ble_eq_true rfl) (Nat.le_of_ble_eq_true rfl) ?_
          refine x_forget ?_
          refine r_iload_n (pc := 48) dX6_change_48 rfl ?_
          refine rn_if_ne (pc := 49) (tgt := 62) dX6_change_49 (by decide) (by decide) (fun q => absurd q (by decide)) (fun _ => ?_)
          refine r_aload_n (pc := 52) dX6_change_52 rfl ?_
          refine r_getR (pc := 53) (r := 1) dX6_change_53 fX6_12 rfl rfl ?_
          refine r_getR (pc := 56) (r := 5) dX6_change_56 fX6_86 rfl rfl ?_
          refine r_goto (pc := 59) (tgt := 69) dX6_change_59 (by decide) ?_
          refine r_astore (pc := 69) (ls' := [(0, .ref 0), (1, .int (nI bj)), (2, .int (nI 0)), (3, .int (nI vj)), (4, .ref 5)]) dX6_change_69 (Nat.le_of_ble_eq_true rfl) rfl ?_
          refine r_aload (pc := 71) dX6_change_71 rfl ?_
          refine r_iload_n (pc := 73) dX6_change_73 rfl ?_
          refine r_iald (pc := 74) (x := (nI (σ 4 (bj)))) dX6_change_74 rfl rfl (by omega) (Xs_4 (μ := μ) hX (by omega)) ?_
          have b1 := Ok_b hO (j := bj) (by omega)
          refine r_istore (pc := 75) (ls' := [(0, .ref 0), (1, .int (nI bj)), (2, .int (nI 0)), (3, .int (nI vj)), (4, .ref 5), (5, .int (nI (σ 4 (bj))))]) dX6_change_75 (Nat.le_of_ble_eq_true rfl) rfl ?_
          refine r_aload (pc := 77) dX6_change_77 rfl ?_
          refine r_iload_n (pc := 79) dX6_change_79 rfl ?_
          refine r_iload_n (pc := 80) dX6_change_80 rfl ?_
          refine r_iast (pc := 81) dX6_change_81 rfl rfl (by omega) ?_
          refine r_iload (pc := 82) dX6_change_82 rfl ?_
          refine r_ireturn (pc := 84) dX6_change_84 rfl (Or.inl rfl) rfl ?_
          have e9 : sp_change σ (nI bj) (nI (0)) (nI vj) = ((nI (σ 4 (bj))), su σ 4 bj vj) := by
            simp (decide := true) [sp_change, c8, c19, c38, bN_nI (show bj < 2 ^ 31 by omega), bN_nI (show vj < 2 ^ 31 by omega)]
          rw [e9] at h
          exact h _ ⟨Xs_s4 (Xs_keep0 hX), Xc_none rfl rfl⟩ ((keepM.I (keepM.I (keepM.I keepM.rf (by decide)) (by decide)) (by decide)))
        · refine r_bipush (pc := 41) (v := (-2)) dX6_change_41 (by decide) ?_
          refine r_ireturn (pc := 43) dX6_change_43 rfl (Or.inl rfl) rfl ?_
          have e9 : sp_change σ (nI bj) (nI (0)) v = ((-2), σ) := by
            simp (decide := true) [sp_change, c8, c19, c38]
          rw [e9] at h
          exact h _ hI (keepM.rf)
      · refine r_iload_n (pc := 22) dX6_change_22 rfl ?_
        refine r_iconst (pc := 23) (v := (nI (1))) dX6_change_23 (by decide) ?_
        refine r_iload_n (pc := 24) dX6_change_24 rfl ?_
        refine rn_if_ne (pc := 25) (tgt := 33) dX6_change_25 (by decide) (by decide) (fun _ => ?_) (fun q => absurd q (by decide))
        refine r_ldc (pc := 33) dX6_change_33 kX6_105 ?_
        refine r_eqi (y := nI 1000000) (by decide) ?_
        refine r_callS (pc := 35) (d' := 0) (As := [.int (v), .int (nI 1), .int (nI 1000000)]) (rest := []) dX6_change_35 sX6_isWithin mX6_59 rfl rfl (Nat.le_of_ble_eq_true rfl) (Nat.le_of_ble_eq_true rfl) ?_
        refine c_within ?_
        refine rb_if_ne (pc := 38) (tgt := 44) dX6_change_38 (by decide) (fun c38 => ?_) (fun c38 => ?_)
        · obtain ⟨vj, hv1, hv2, rfl⟩ := inR_t (by decide) (by decide) c38
          refine r_aload_n (pc := 44) dX6_change_44 rfl ?_
          refine r_callV (pc := 45) (d' := 0) (k := 0) (As := []) (rest := []) dX6_change_45 vX6_forget mX6_67 rfl rfl rfl (Nat.le_of_ble_eq_true rfl) (Nat.le_of_ble_eq_true rfl) ?_
          refine x_forget ?_
          refine r_iload_n (pc := 48) dX6_change_48 rfl ?_
          refine rn_if_ne (pc := 49) (tgt := 62) dX6_change_49 (by decide) (by decide) (fun _ => ?_) (fun q => absurd q (by decide))
          refine r_aload_n (pc := 62) dX6_change_62 rfl ?_
          refine r_getR (pc := 63) (r := 1) dX6_change_63 fX6_12 rfl rfl ?_
          refine r_getR (pc := 66) (r := 8) dX6_change_66 fX6_95 rfl rfl ?_
          refine r_astore (pc := 69) (ls' := [(0, .ref 0), (1, .int (nI bj)), (2, .int (nI 1)), (3, .int (nI vj)), (4, .ref 8)]) dX6_change_69 (Nat.le_of_ble_eq_true rfl) rfl ?_
          refine r_aload (pc := 71) dX6_change_71 rfl ?_
          refine r_iload_n (pc := 73) dX6_change_73 rfl ?_
          refine r_iald (pc := 74) (x := (nI (σ 7 (bj)))) dX6_change_74 rfl rfl (by omega) (Xs_7 (μ := μ) hX (by omega)) ?_
          have b2 := Ok_b hO (j := bj) (by omega)
          refine r_istore (pc := 75) (ls' := [(0, .ref 0), (1, .int (nI bj)), (2, .int (nI 1)), (3, .int (nI vj)), (4, .ref 8), (5, .int (nI (σ 7 (bj))))]) dX6_change_75 (Nat.le_of_ble_eq_true rfl) rfl ?_
          refine r_aload (pc := 77) dX6_change_77 rfl ?_
          refine r_iload_n (pc := 79) dX6_change_79 rfl ?_
          refine r_iload_n (pc := 80) dX6_change_80 rfl ?_
          refine r_iast (pc := 81) dX6_change_81 rfl rfl (by omega) ?_
          refine r_iload (pc := 82) dX6_change_82 rfl ?_
          refine r_ireturn (pc := 84) dX6_change_84 rfl (Or.inl rfl) rfl ?_
          have e9 : sp_change σ (nI bj) (nI (1)) (nI vj) = ((nI (σ 7 (bj))), su σ 7 bj vj) := by
            simp (decide := true) [sp_change, c8, c19, c38, bN_nI (show bj < 2 ^ 31 by omega), bN_nI (show vj < 2 ^ 31 by omega)]
          rw [e9] at h
          exact h _ ⟨Xs_s7 (Xs_keep0 hX), Xc_none rfl rfl⟩ ((keepM.I (keepM.I (keepM.I keepM.rf (by decide)) (by decide)) (by decide)))
        · refine r_bipush (pc := 41) (v := (-2)) dX6_change_41 (by decide) ?_
          refine r_ireturn (pc := 43) dX6_change_43 rfl (Or.inl rfl) rfl ?_
          have e9 : sp_change σ (nI bj) (nI (1)) v = ((-2), σ) := by
            simp (decide := true) [sp_change, c8, c19, c38]
          rw [e9] at h
          exact h _ hI (keepM.rf)
  · refine r_iconst (pc := 11) (v := (-1)) dX6_change_11 (by decide) ?_
    refine r_ireturn (pc := 12) dX6_change_12 rfl (Or.inl rfl) rfl ?_
    have e9 : sp_change σ b w v = ((-1), σ) := by
      simp (decide := true) [sp_change, c8]
    rw [e9] at h
    exact h _ hI (keepM.rf)

set_option maxRecDepth 20000 in
set_option maxHeartbeats 4000000 in
theorem x_hours {μ : Mem} {σ : Sg} {b f t : Int32} {Q : Option Value → Mem → Prop} (hI : XI μ σ) (hO : Ok σ) (h : ∀ μ', XI μ' (sp_hours σ b f t).2 → keepM μ μ' → Q (some (.int (sp_hours σ b f t).1)) μ') : Sp iX6_hours 1 [.ref 0, .int (b), .int (f), .int (t)] μ Q := by
  refine Sp.of vX6_hours.1 (Nat.le_of_ble_eq_true rfl) ?_
  show WP cX6_hours (RX6, 4, (some .int), 1, none) 0 [(0, .ref 0), (1, .int (b)), (2, .int (f)), (3, .int (t))] [] μ Q
  have hn := Ok_n hO
  have hX := hI.1
  have hC := hI.2
  refine r_aload_n (pc := 0) dX6_hours_0 rfl ?_
  refine r_getR (pc := 1) (r := 1) dX6_hours_1 fX6_12 rfl rfl ?_
  refine r_iload_n (pc := 4) dX6_hours_4 rfl ?_
  refine r_callV (pc := 5) (d' := 0) (k := 1) (As := [.int (b)]) (rest := []) dX6_hours_5 vX0_has mX6_74 rfl rfl rfl (Nat.le_of_ble_eq_true rfl) (Nat.le_of_ble_eq_true rfl) ?_
  refine c_has (μ := μ) hX hO ?_
  refine rb_if_ne (pc := 8) (tgt := 13) dX6_hours_8 (by decide) (fun c8 => ?_) (fun c8 => ?_)
  · obtain ⟨bj, hbj, rfl, -⟩ := isB_t c8
    refine r_iload_n (pc := 13) dX6_hours_13 rfl ?_
    refine r_iconst (pc := 14) (v := (nI (0))) dX6_hours_14 (by decide) ?_
    refine r_bipush (pc := 15) (v := (nI (99))) dX6_hours_15 (by decide) ?_
    refine r_callS (pc := 17) (d' := 0) (As := [.int (t), .int (nI 0), .int (nI 99)]) (rest := []) dX6_hours_17 sX6_isWithin mX6_59 rfl rfl (Nat.le_of_ble_eq_true rfl) (Nat.le_of_ble_eq_true rfl) ?_
    refine c_within ?_
    refine rb_if_eq (pc := 20) (tgt := 32) dX6_hours_20 (by decide) (fun c20 => ?_) (fun c20 => ?_)
    · refine r_bipush (pc := 32) (v := (-2)) dX6_hours_32 (by decide) ?_
      refine r_ireturn (pc := 34) dX6_hours_34 rfl (Or.inl rfl) rfl ?_
      have e9 : sp_hours σ (nI bj) f t = ((-2), σ) := by
        simp [sp_hours, c8, c20]
      rw [e9] at h
      exact h _ hI (keepM.rf)
    · obtain ⟨tj, ht1, ht2, rfl⟩ := inR_t (by decide) (by decide) c20
      refine r_iload_n (pc := 23) dX6_hours_23 rfl ?_
      refine r_iconst (pc := 24) (v := (nI (0))) dX6_hours_24 (by decide) ?_
      refine r_iload_n (pc := 25) dX6_hours_25 rfl ?_
      refine r_callS (pc := 26) (d' := 0) (As := [.int (f), .int (nI 0), .int (nI tj)]) (rest := []) dX6_hours_26 sX6_isWithin mX6_59 rfl rfl (Nat.le_of_ble_eq_true rfl) (Nat.le_of_ble_eq_true rfl) ?_
      refine c_within ?_
      refine rb_if_ne (pc := 29) (tgt := 35) dX6_hours_29 (by decide) (fun c29 => ?_) (fun c29 => ?_)
      · obtain ⟨fj, hf1, hf2, rfl⟩ := inR_t (by decide) (by omega) c29
        refine r_aload_n (pc := 35) dX6_hours_35 rfl ?_
        refine r_callV (pc := 36) (d' := 0) (k := 0) (As := []) (rest := []) dX6_hours_36 vX6_forget mX6_67 rfl rfl rfl (Nat.le_of_ble_eq_true rfl) (Nat.le_of_ble_eq_true rfl) ?_
        refine x_forget ?_
        refine r_aload_n (pc := 39) dX6_hours_39 rfl ?_
        refine r_getR (pc := 40) (r := 1) dX6_hours_40 fX6_12 rfl rfl ?_
        refine r_getR (pc := 43) (r := 6) dX6_hours_43 fX6_89 rfl rfl ?_
        refine r_iload_n (pc := 46) dX6_hours_46 rfl ?_
        refine r_iload_n (pc := 47) dX6_hours_47 rfl ?_
        refine r_iast (pc := 48) dX6_hours_48 rfl rfl (by omega) ?_
        refine r_aload_n (pc := 49) dX6_hours_49 rfl ?_
        refine r_getR (pc := 50) (r := 1) dX6_hours_50 fX6_12 rfl rfl ?_
        refine r_getR (pc := 53) (r := 7) dX6_hours_53 fX6_92 rfl rfl ?_
        refine r_iload_n (pc := 56) dX6_hours_56 rfl ?_
        refine r_iload_n (pc := 57) dX6_hours_57 rfl ?_
        refine r_iast (pc := 58) dX6_hours_58 rfl rfl (by omega) ?_
        refine r_iconst (pc := 59) (v := (nI (1))) dX6_hours_59 (by decide) ?_
        refine r_ireturn (pc := 60) dX6_hours_60 rfl (Or.inl rfl) rfl ?_
        have e9 : sp_hours σ (nI bj) (nI fj) (nI tj) = ((nI (1)), su (su σ 5 bj fj) 6 bj tj) := by
          rw [sp_hours, if_neg (by simp [c8]), if_pos ⟨by rw [inR_nat (by omega) (by decide) (by decide)]; simp; omega, by rw [inR_nat (by omega) (by decide) (by decide)]; simp; omega, by rw [nI_toInt (by omega), nI_toInt (by omega)]; omega⟩, bN_nI (by omega), bN_nI (by omega), bN_nI (by omega)]
          rfl
        rw [e9] at h
        exact h _ ⟨Xs_s6 (Xs_s5 (Xs_keep0 hX)), Xc_none rfl rfl⟩ ((keepM.I (keepM.I (keepM.I (keepM.I keepM.rf (by decide)) (by decide)) (by decide)) (by decide)))
      · refine r_bipush (pc := 32) (v := (-2)) dX6_hours_32 (by decide) ?_
        refine r_ireturn (pc := 34) dX6_hours_34 rfl (Or.inl rfl) rfl ?_
        have e9 : sp_hours σ (nI bj) f (nI tj) = ((-2), σ) := by
          rw [sp_hours, if_neg (by simp [c8]), if_neg ?_]
          intro q
          obtain ⟨q1, q2, q3⟩ := q
          rw [inR_iff, nI_toInt (by decide), nI_toInt (by decide)] at q1
          rw [inR_f, nI_toInt (by decide)] at c29
          omega
        rw [e9] at h
        exact h _ hI (keepM.rf)
  · refine r_iconst (pc := 11) (v := (-1)) dX6_hours_11 (by decide) ?_
    refine r_ireturn (pc := 12) dX6_hours_12 rfl (Or.inl rfl) rfl ?_
    have e9 : sp_hours σ b f t = ((-1), σ) := by
      simp [sp_hours, c8]
    rw [e9] at h
    exact h _ hI (keepM.rf)

set_option maxRecDepth 20000 in
set_option maxHeartbeats 4000000 in
theorem x_set {μ : Mem} {σ : Sg} {w v : Int32} {Q : Option Value → Mem → Prop} (hI : XI μ σ) (hO : Ok σ) (h : ∀ μ', XI μ' (sp_set σ w v).2 → keepM μ μ' → Q (some (.int (sp_set σ w v).1)) μ') : Sp iX6_set 1 [.ref 0, .int (w), .int (v)] μ Q := by
  refine Sp.of vX6_set.1 (Nat.le_of_ble_eq_true rfl) ?_
  show WP cX6_set (RX6, 4, (some .int), 1, none) 0 [(0, .ref 0), (1, .int (w)), (2, .int (v))] [] μ Q
  have hn := Ok_n hO
  have hX := hI.1
  have hC := hI.2
  refine r_iload_n (pc := 0) dX6_set_0 rfl ?_
  refine r_iconst (pc := 1) (v := (nI (0))) dX6_set_1 (by decide) ?_
  refine r_iconst (pc := 2) (v := (nI (2))) dX6_set_2 (by decide) ?_
  refine r_callS (pc := 3) (d' := 0) (As := [.int (w), .int (nI 0), .int (nI 2)]) (rest := []) dX6_set_3 sX6_isWithin mX6_59 rfl rfl (Nat.le_of_ble_eq_true rfl) (Nat.le_of_ble_eq_true rfl) ?_
  refine c_within ?_
  refine rb_if_eq (pc := 6) (tgt := 26) dX6_set_6 (by decide) (fun c6 => ?_) (fun c6 => ?_)
  · refine r_bipush (pc := 26) (v := (-2)) dX6_set_26 (by decide) ?_
    refine r_ireturn (pc := 28) dX6_set_28 rfl (Or.inl rfl) rfl ?_
    have e9 : sp_set σ w v = ((-2), σ) := by
      simp (decide := true) [sp_set, c6]
    rw [e9] at h
    exact h _ hI (keepM.rf)
  · obtain ⟨wj, hw1, hw2, rfl⟩ := inR_t (by decide) (by decide) c6
    rcases (show wj = 0 ∨ wj = 1 ∨ wj = 2 by omega) with rfl | rfl | rfl
    · refine r_iload_n (pc := 9) dX6_set_9 rfl ?_
      refine r_gets0 (pc := 10) dX6_set_10 fsX6_106 ?_
      refine r_iload_n (pc := 13) dX6_set_13 rfl ?_
      refine r_tld0 (pc := 14) (x := nI 0) dX6_set_14 rfl (by decide) (by decide) ?_
      refine r_gets1 (pc := 15) dX6_set_15 fsX6_109 ?_
      refine r_iload_n (pc := 18) dX6_set_18 rfl ?_
      refine r_tld1 (pc := 19) (x := nI 98) dX6_set_19 rfl (by decide) (by decide) ?_
      refine r_callS (pc := 20) (d' := 0) (As := [.int (v), .int (nI 0), .int (nI 98)]) (rest := []) dX6_set_20 sX6_isWithin mX6_59 rfl rfl (Nat.le_of_ble_eq_true rfl) (Nat.le_of_ble_eq_true rfl) ?_
      refine c_within ?_
      refine rb_if_ne (pc := 23) (tgt := 29) dX6_set_23 (by decide) (fun c23 => ?_) (fun c23 => ?_)
      · obtain ⟨vj, hv1, hv2, rfl⟩ := inR_t (by decide) (by decide) c23
        refine r_aload_n (pc := 29) dX6_set_29 rfl ?_
        refine r_callV (pc := 30) (d' := 0) (k := 0) (As := []) (rest := []) dX6_set_30 vX6_forget mX6_67 rfl rfl rfl (Nat.le_of_ble_eq_true rfl) (Nat.le_of_ble_eq_true rfl) ?_
        refine x_forget ?_
        refine r_aload_n (pc := 33) dX6_set_33 rfl ?_
        refine r_getR (pc := 34) (r := 1) dX6_set_34 fX6_12 rfl rfl ?_
        refine r_getR (pc := 37) (r := 9) dX6_set_37 fX6_112 rfl rfl ?_
        refine r_iload_n (pc := 40) dX6_set_40 rfl ?_
        refine r_iald (pc := 41) (x := (nI (σ 0 1))) dX6_set_41 rfl rfl (by omega) (Xs_fee (μ := μ) hX) ?_
        refine r_istore_n (pc := 42) (ls' := [(0, .ref 0), (1, .int (nI 0)), (2, .int (nI vj)), (3, .int (nI (σ 0 1)))]) dX6_set_42 (Nat.le_of_ble_eq_true rfl) rfl ?_
        refine r_aload_n (pc := 43) dX6_set_43 rfl ?_
        refine r_getR (pc := 44) (r := 1) dX6_set_44 fX6_12 rfl rfl ?_
        refine r_getR (pc := 47) (r := 9) dX6_set_47 fX6_112 rfl rfl ?_
        refine r_iload_n (pc := 50) dX6_set_50 rfl ?_
        refine r_iload_n (pc := 51) dX6_set_51 rfl ?_
        refine r_iast (pc := 52) dX6_set_52 rfl rfl (by omega) ?_
        refine r_iload_n (pc := 53) dX6_set_53 rfl ?_
        refine r_ireturn (pc := 54) dX6_set_54 rfl (Or.inl rfl) rfl ?_
        have e9 : sp_set σ (nI (0)) (nI vj) = ((nI (σ 0 1)), su σ 0 1 vj) := by
          simp (decide := true) [sp_set, c6, c23, bN_nI (show 0 < 2 ^ 31 by decide), bN_nI (show vj < 2 ^ 31 by omega)]
        rw [e9] at h
        exact h _ ⟨Xs_t0 (Xs_keep0 hX), Xc_none rfl rfl⟩ ((keepM.I (keepM.I (keepM.I keepM.rf (by decide)) (by decide)) (by decide)))
      · refine r_bipush (pc := 26) (v := (-2)) dX6_set_26 (by decide) ?_
        refine r_ireturn (pc := 28) dX6_set_28 rfl (Or.inl rfl) rfl ?_
        have e9 : sp_set σ (nI (0)) v = ((-2), σ) := by
          simp (decide := true) [sp_set, c6, c23]
        rw [e9] at h
        exact h _ hI (keepM.rf)
    · refine r_iload_n (pc := 9) dX6_set_9 rfl ?_
      refine r_gets0 (pc := 10) dX6_set_10 fsX6_106 ?_
      refine r_iload_n (pc := 13) dX6_set_13 rfl ?_
      refine r_tld0 (pc := 14) (x := nI 0) dX6_set_14 rfl (by decide) (by decide) ?_
      refine r_gets1 (pc := 15) dX6_set_15 fsX6_109 ?_
      refine r_iload_n (pc := 18) dX6_set_18 rfl ?_
      refine r_tld1 (pc := 19) (x := nI 99) dX6_set_19 rfl (by decide) (by decide) ?_
      refine r_callS (pc := 20) (d' := 0) (As := [.int (v), .int (nI 0), .int (nI 99)]) (rest := []) dX6_set_20 sX6_isWithin mX6_59 rfl rfl (Nat.le_of_ble_eq_true rfl) (Nat.le_of_ble_eq_true rfl) ?_
      refine c_within ?_
      refine rb_if_ne (pc := 23) (tgt := 29) dX6_set_23 (by decide) (fun c23 => ?_) (fun c23 => ?_)
      · obtain ⟨vj, hv1, hv2, rfl⟩ := inR_t (by decide) (by decide) c23
        refine r_aload_n (pc := 29) dX6_set_29 rfl ?_
        refine r_callV (pc := 30) (d' := 0) (k := 0) (As := []) (rest := []) dX6_set_30 vX6_forget mX6_67 rfl rfl rfl (Nat.le_of_ble_eq_true rfl) (Nat.le_of_ble_eq_true rfl) ?_
        refine x_forget ?_
        refine r_aload_n (pc := 33) dX6_set_33 rfl ?_
        refine r_getR (pc := 34) (r := 1) dX6_set_34 fX6_12 rfl rfl ?_
        refine r_getR (pc := 37) (r := 9) dX6_set_37 fX6_112 rfl rfl ?_
        refine r_iload_n (pc := 40) dX6_set_40 rfl ?_
        refine r_iald (pc := 41) (x := (nI (σ 0 2))) dX6_set_41 rfl rfl (by omega) (Xs_now (μ := μ) hX) ?_
        refine r_istore_n (pc := 42) (ls' := [(0, .ref 0), (1, .int (nI 1)), (2, .int (nI vj)), (3, .int (nI (σ 0 2)))]) dX6_set_42 (Nat.le_of_ble_eq_true rfl) rfl ?_
        refine r_aload_n (pc := 43) dX6_set_43 rfl ?_
        refine r_getR (pc := 44) (r := 1) dX6_set_44 fX6_12 rfl rfl ?_
        refine r_getR (pc := 47) (r := 9) dX6_set_47 fX6_112 rfl rfl ?_
        refine r_iload_n (pc := 50) dX6_set_50 rfl ?_
        refine r_iload_n (pc := 51) dX6_set_51 rfl ?_
        refine r_iast (pc := 52) dX6_set_52 rfl rfl (by omega) ?_
        refine r_iload_n (pc := 53) dX6_set_53 rfl ?_
        refine r_ireturn (pc := 54) dX6_set_54 rfl (Or.inl rfl) rfl ?_
        have e9 : sp_set σ (nI (1)) (nI vj) = ((nI (σ 0 2)), su σ 0 2 vj) := by
          simp (decide := true) [sp_set, c6, c23, bN_nI (show 1 < 2 ^ 31 by decide), bN_nI (show vj < 2 ^ 31 by omega)]
        rw [e9] at h
        exact h _ ⟨Xs_t1 (Xs_keep0 hX), Xc_none rfl rfl⟩ ((keepM.I (keepM.I (keepM.I keepM.rf (by decide)) (by decide)) (by decide)))
      · refine r_bipush (pc := 26) (v := (-2)) dX6_set_26 (by decide) ?_
        refine r_ireturn (pc := 28) dX6_set_28 rfl (Or.inl rfl) rfl ?_
        have e9 : sp_set σ (nI (1)) v = ((-2), σ) := by
          simp (decide := true) [sp_set, c6, c23]
        rw [e9] at h
        exact h _ hI (keepM.rf)
    · refine r_iload_n (pc := 9) dX6_set_9 rfl ?_
      refine r_gets0 (pc := 10) dX6_set_10 fsX6_106 ?_
      refine r_iload_n (pc := 13) dX6_set_13 rfl ?_
      refine r_tld0 (pc := 14) (x := nI 1) dX6_set_14 rfl (by decide) (by decide) ?_
      refine r_gets1 (pc := 15) dX6_set_15 fsX6_109 ?_
      refine r_iload_n (pc := 18) dX6_set_18 rfl ?_
      refine r_tld1 (pc := 19) (x := nI 98) dX6_set_19 rfl (by decide) (by decide) ?_
      refine r_callS (pc := 20) (d' := 0) (As := [.int (v), .int (nI 1), .int (nI 98)]) (rest := []) dX6_set_20 sX6_isWithin mX6_59 rfl rfl (Nat.le_of_ble_eq_true rfl) (Nat.le_of_ble_eq_true rfl) ?_
      refine c_within ?_
      refine rb_if_ne (pc := 23) (tgt := 29) dX6_set_23 (by decide) (fun c23 => ?_) (fun c23 => ?_)
      · obtain ⟨vj, hv1, hv2, rfl⟩ := inR_t (by decide) (by decide) c23
        refine r_aload_n (pc := 29) dX6_set_29 rfl ?_
        refine r_callV (pc := 30) (d' := 0) (k := 0) (As := []) (rest := []) dX6_set_30 vX6_forget mX6_67 rfl rfl rfl (Nat.le_of_ble_eq_true rfl) (Nat.le_of_ble_eq_true rfl) ?_
        refine x_forget ?_
        refine r_aload_n (pc := 33) dX6_set_33 rfl ?_
        refine r_getR (pc := 34) (r := 1) dX6_set_34 fX6_12 rfl rfl ?_
        refine r_getR (pc := 37) (r := 9) dX6_set_37 fX6_112 rfl rfl ?_
        refine r_iload_n (pc := 40) dX6_set_40 rfl ?_
        refine r_iald (pc := 41) (x := (nI (σ 0 3))) dX6_set_41 rfl rfl (by omega) (Xs_drop (μ := μ) hX) ?_
        refine r_istore_n (pc := 42) (ls' := [(0, .ref 0), (1, .int (nI 2)), (2, .int (nI vj)), (3, .int (nI (σ 0 3)))]) dX6_set_42 (Nat.le_of_ble_eq_true rfl) rfl ?_
        refine r_aload_n (pc := 43) dX6_set_43 rfl ?_
        refine r_getR (pc := 44) (r := 1) dX6_set_44 fX6_12 rfl rfl ?_
        refine r_getR (pc := 47) (r := 9) dX6_set_47 fX6_112 rfl rfl ?_
        refine r_iload_n (pc := 50) dX6_set_50 rfl ?_
        refine r_iload_n (pc := 51) dX6_set_51 rfl ?_
        refine r_iast (pc := 52) dX6_set_52 rfl rfl (by omega) ?_
        refine r_iload_n (pc := 53) dX6_set_53 rfl ?_
        refine r_ireturn (pc := 54) dX6_set_54 rfl (Or.inl rfl) rfl ?_
        have e9 : sp_set σ (nI (2)) (nI vj) = ((nI (σ 0 3)), su σ 0 3 vj) := by
          simp (decide := true) [sp_set, c6, c23, bN_nI (show 2 < 2 ^ 31 by decide), bN_nI (show vj < 2 ^ 31 by omega)]
        rw [e9] at h
        exact h _ ⟨Xs_t2 (Xs_keep0 hX), Xc_none rfl rfl⟩ ((keepM.I (keepM.I (keepM.I keepM.rf (by decide)) (by decide)) (by decide)))
      · refine r_bipush (pc := 26) (v := (-2)) dX6_set_26 (by decide) ?_
        refine r_ireturn (pc := 28) dX6_set_28 rfl (Or.inl rfl) rfl ?_
        have e9 : sp_set σ (nI (2)) v = ((-2), σ) := by
          simp (decide := true) [sp_set, c6, c23]
        rw [e9] at h
        exact h _ hI (keepM.rf)

set_option maxRecDepth 20000 in
set_option maxHeartbeats 4000000 in
theorem x_sadd {μ : Mem} {σ : Sg} {v : Nat} {Q : Option Value → Mem → Prop} (hX : Xs μ σ) (hO : Ok σ) (h80 : σ 0 4 < 80) (hv : v < 65536) (h : Q none (setI (setI μ 11 (σ 0 4) (nI v)) 10 1 (nI (σ 0 4 + 1)))) : Sp iX3_add 0 [.ref 10, .int (nI v)] μ Q := by
  refine Sp.of vX3_add.1 (Nat.le_of_ble_eq_true rfl) ?_
  show WP cX3_add (RX3, 2, none, 0, none) 0 [(0, .ref 10), (1, .int (nI v))] [] μ Q
  have hn := Ok_n hO
  refine r_aload_n (pc := 0) dX3_add_0 rfl ?_
  refine r_getI (pc := 1) (x := (nI (σ 0 4))) dX3_add_1 fX3_15 rfl rfl (Xs_sn (μ := μ) hX) ?_
  refine r_bipush (pc := 4) (v := (nI (80))) dX3_add_4 (by decide) ?_
  refine rn_icmp_ge (pc := 6) (tgt := 30) dX3_add_6 (by decide) (by omega) (by omega) (fun c6 => ?_) (fun c6 => ?_)
  · exact absurd h80 (by omega)
  · refine r_aload_n (pc := 9) dX3_add_9 rfl ?_
    refine r_getR (pc := 10) (r := 11) dX3_add_10 fX3_9 rfl rfl ?_
    refine r_aload_n (pc := 13) dX3_add_13 rfl ?_
    refine r_getI (pc := 14) (x := (nI (σ 0 4))) dX3_add_14 fX3_15 rfl rfl (Xs_sn (μ := μ) hX) ?_
    refine r_iload_n (pc := 17) dX3_add_17 rfl ?_
    refine r_i2c (pc := 18) (v := nI v) dX3_add_18 (c16N (by omega)) ?_
    refine r_cast (pc := 19) dX3_add_19 rfl rfl (by omega) (narC (by omega)) ?_
    refine r_aload_n (pc := 20) dX3_add_20 rfl ?_
    refine r_dup_r (pc := 21) dX3_add_21 ?_
    refine r_getI (pc := 22) (x := (nI (σ 0 4))) dX3_add_22 fX3_15 rfl rfl (Xs_sn (μ := μ) hX) ?_
    refine r_iconst (pc := 25) (v := (nI (1))) dX3_add_25 (by decide) ?_
    refine rn_iadd (pc := 26) dX3_add_26 ?_
    refine r_putI (pc := 27) dX3_add_27 gX3_15 rfl rfl rfl rfl ?_
    refine r_return (pc := 30) dX3_add_30 rfl ?_
    exact h

set_option maxRecDepth 20000 in
set_option maxHeartbeats 4000000 in
theorem x_say {μ : Mem} {σ : Sg} {v : Int32} {Q : Option Value → Mem → Prop} (hI : XI μ σ) (hO : Ok σ) (h : ∀ μ', XI μ' (sp_say σ v).2 → keepM μ μ' → Q (some (.int (sp_say σ v).1)) μ') : Sp iX6_say 1 [.ref 0, .int (v)] μ Q := by
  refine Sp.of vX6_say.1 (Nat.le_of_ble_eq_true rfl) ?_
  show WP cX6_say (RX6, 2, (some .int), 1, none) 0 [(0, .ref 0), (1, .int (v))] [] μ Q
  have hn := Ok_n hO
  have hX := hI.1
  have hC := hI.2
  refine r_iload_n (pc := 0) dX6_say_0 rfl ?_
  refine r_bipush (pc := 1) (v := (nI (33))) dX6_say_1 (by decide) ?_
  refine r_bipush (pc := 3) (v := (nI (126))) dX6_say_3 (by decide) ?_
  refine r_callS (pc := 5) (d' := 0) (As := [.int (v), .int (nI 33), .int (nI 126)]) (rest := []) dX6_say_5 sX6_isWithin mX6_59 rfl rfl (Nat.le_of_ble_eq_true rfl) (Nat.le_of_ble_eq_true rfl) ?_
  refine c_within ?_
  refine rb_if_ne (pc := 8) (tgt := 14) dX6_say_8 (by decide) (fun c8 => ?_) (fun c8 => ?_)
  · obtain ⟨vj, hv1, hv2, rfl⟩ := inR_t (by decide) (by decide) c8
    refine r_aload_n (pc := 14) dX6_say_14 rfl ?_
    refine r_getR (pc := 15) (r := 10) dX6_say_15 fX6_19 rfl rfl ?_
    refine r_getI (pc := 18) (x := (nI (σ 0 4))) dX6_say_18 fX6_115 rfl rfl (Xs_sn (μ := μ) hX) ?_
    refine r_bipush (pc := 21) (v := (nI (80))) dX6_say_21 (by decide) ?_
    refine rn_icmp_lt (pc := 23) (tgt := 29) dX6_say_23 (by decide) (by omega) (by omega) (fun c23 => ?_) (fun c23 => ?_)
    · have h80 : ¬ σ 0 4 = 80 := by omega
      refine r_aload_n (pc := 29) dX6_say_29 rfl ?_
      refine r_getR (pc := 30) (r := 10) dX6_say_30 fX6_19 rfl rfl ?_
      refine r_iload_n (pc := 33) dX6_say_33 rfl ?_
      refine r_callV (pc := 34) (d' := 0) (k := 10) (As := [.int (nI vj)]) (rest := []) dX6_say_34 vX3_add mX6_116 rfl rfl rfl (Nat.le_of_ble_eq_true rfl) (Nat.le_of_ble_eq_true rfl) ?_
      refine x_sadd hX hO (by omega) (by omega) ?_
      refine r_aload_n (pc := 37) dX6_say_37 rfl ?_
      refine r_getR (pc := 38) (r := 10) dX6_say_38 fX6_19 rfl rfl ?_
      refine r_getI (pc := 41) (x := (nI (σ 0 4 + 1))) dX6_say_41 fX6_115 rfl rfl rfl ?_
      refine r_ireturn (pc := 44) dX6_say_44 rfl (Or.inl rfl) rfl ?_
      have e9 : sp_say σ (nI vj) = ((nI (σ 0 4 + 1)), su (su σ 8 (σ 0 4) vj) 0 4 (σ 0 4 + 1)) := by
        simp [sp_say, c8, h80, bN_nI (show vj < 2 ^ 31 by omega)]
      rw [e9] at h
      exact h _ ⟨Xs_say hX, Xc_cong (σ := σ) ⟨rfl, rfl, rfl, rfl, rfl, rfl, rfl, rfl, rfl, rfl⟩ hC⟩ ((keepM.I (keepM.I keepM.rf (by decide)) (by decide)))
    · have h80 : σ 0 4 = 80 := by omega
      refine r_bipush (pc := 26) (v := (-4)) dX6_say_26 (by decide) ?_
      refine r_ireturn (pc := 28) dX6_say_28 rfl (Or.inl rfl) rfl ?_
      have e9 : sp_say σ (nI vj) = ((-4), σ) := by
        simp [sp_say, c8, h80]
      rw [e9] at h
      exact h _ hI (keepM.rf)
  · refine r_bipush (pc := 11) (v := (-2)) dX6_say_11 (by decide) ?_
    refine r_ireturn (pc := 13) dX6_say_13 rfl (Or.inl rfl) rfl ?_
    have e9 : sp_say σ v = ((-2), σ) := by
      simp [sp_say, c8]
    rw [e9] at h
    exact h _ hI (keepM.rf)

set_option maxRecDepth 20000 in
set_option maxHeartbeats 4000000 in
theorem x_wipe {μ : Mem} {σ : Sg} {Q : Option Value → Mem → Prop} (hI : XI μ σ) (hO : Ok σ) (h : ∀ μ', XI μ' (sp_wipe σ).2 → keepM μ μ' → Q (some (.int (sp_wipe σ).1)) μ') : Sp iX6_wipe 0 [.ref 0] μ Q := by
  refine Sp.of vX6_wipe.1 (Nat.le_of_ble_eq_true rfl) ?_
  show WP cX6_wipe (RX6, 2, (some .int), 0, none) 0 [(0, .ref 0)] [] μ Q
  have hn := Ok_n hO
  have hX := hI.1
  have hC := hI.2
  refine r_aload_n (pc := 0) dX6_wipe_0 rfl ?_
  refine r_getR (pc := 1) (r := 10) dX6_wipe_1 fX6_19 rfl rfl ?_
  refine r_getI (pc := 4) (x := (nI (σ 0 4))) dX6_wipe_4 fX6_115 rfl rfl (Xs_sn (μ := μ) hX) ?_
  refine r_istore_n (pc := 7) (ls' := [(0, .ref 0), (1, .int (nI (σ 0 4)))]) dX6_wipe_7 (Nat.le_of_ble_eq_true rfl) rfl ?_
  refine r_aload_n (pc := 8) dX6_wipe_8 rfl ?_
  refine r_getR (pc := 9) (r := 10) dX6_wipe_9 fX6_19 rfl rfl ?_
  refine r_iconst (pc := 12) (v := (nI (0))) dX6_wipe_12 (by decide) ?_
  refine r_putI (pc := 13) dX6_wipe_13 gX6_115 rfl rfl rfl rfl ?_
  refine r_iload_n (pc := 16) dX6_wipe_16 rfl ?_
  refine r_ireturn (pc := 17) dX6_wipe_17 rfl (Or.inl rfl) rfl ?_
  exact h _ ⟨Xs_w hX, Xc_cong (σ := σ) ⟨rfl, rfl, rfl, rfl, rfl, rfl, rfl, rfl, rfl, rfl⟩ hC⟩ ((keepM.I keepM.rf (by decide)))

set_option maxRecDepth 20000 in
set_option maxHeartbeats 4000000 in
theorem x_worth {μ : Mem} {σ : Sg} {c v : Int32} {Q : Option Value → Mem → Prop} (hI : XI μ σ) (hO : Ok σ) (h : ∀ μ', XI μ' (sp_worth σ c v).2 → keepM μ μ' → Q (some (.int (sp_worth σ c v).1)) μ') : Sp iX6_worth 1 [.ref 0, .int (c), .int (v)] μ Q := by
  refine Sp.of vX6_worth.1 (Nat.le_of_ble_eq_true rfl) ?_
  show WP cX6_worth (RX6, 4, (some .int), 1, none) 0 [(0, .ref 0), (1, .int (c)), (2, .int (v))] [] μ Q
  have hn := Ok_n hO
  have hX := hI.1
  have hC := hI.2
  refine r_iload_n (pc := 0) dX6_worth_0 rfl ?_
  refine r_callS (pc := 1) (d' := 0) (As := [.int (c)]) (rest := []) dX6_worth_1 sX6_isCoin mX6_55 rfl rfl (Nat.le_of_ble_eq_true rfl) (Nat.le_of_ble_eq_true rfl) ?_
  refine c_xcoin ?_
  refine rb_if_ne (pc := 4) (tgt := 9) dX6_worth_4 (by decide) (fun c4 => ?_) (fun c4 => ?_)
  · obtain ⟨cj, hcj, rfl, -⟩ := isB_t c4
    refine r_iload_n (pc := 9) dX6_worth_9 rfl ?_
    refine r_iconst (pc := 10) (v := (nI (1))) dX6_worth_10 (by decide) ?_
    refine r_ldc (pc := 11) dX6_worth_11 kX6_105 ?_
    refine r_eqi (y := nI 1000000) (by decide) ?_
    refine r_callS (pc := 13) (d' := 0) (As := [.int (v), .int (nI 1), .int (nI 1000000)]) (rest := []) dX6_worth_13 sX6_isWithin mX6_59 rfl rfl (Nat.le_of_ble_eq_true rfl) (Nat.le_of_ble_eq_true rfl) ?_
    refine c_within ?_
    refine rb_if_ne (pc := 16) (tgt := 22) dX6_worth_16 (by decide) (fun c16 => ?_) (fun c16 => ?_)
    · obtain ⟨vj, hv1, hv2, rfl⟩ := inR_t (by decide) (by decide) c16
      refine r_aload_n (pc := 22) dX6_worth_22 rfl ?_
      refine r_getR (pc := 23) (r := 39) dX6_worth_23 fX6_51 rfl rfl ?_
      refine r_iload_n (pc := 26) dX6_worth_26 rfl ?_
      refine r_iald (pc := 27) (x := (nI (σ 9 (cj)))) dX6_worth_27 rfl rfl (by omega) (Xs_9 (μ := μ) hX (by omega)) ?_
      have b1 := Ok_w hO (j := cj) (by omega)
      refine r_istore_n (pc := 28) (ls' := [(0, .ref 0), (1, .int (nI cj)), (2, .int (nI vj)), (3, .int (nI (σ 9 (cj))))]) dX6_worth_28 (Nat.le_of_ble_eq_true rfl) rfl ?_
      refine r_aload_n (pc := 29) dX6_worth_29 rfl ?_
      refine r_getR (pc := 30) (r := 39) dX6_worth_30 fX6_51 rfl rfl ?_
      refine r_iload_n (pc := 33) dX6_worth_33 rfl ?_
      refine r_iload_n (pc := 34) dX6_worth_34 rfl ?_
      refine r_iast (pc := 35) dX6_worth_35 rfl rfl (by omega) ?_
      refine r_iload_n (pc := 36) dX6_worth_36 rfl ?_
      refine r_ireturn (pc := 37) dX6_worth_37 rfl (Or.inl rfl) rfl ?_
      have e9 : sp_worth σ (nI cj) (nI vj) = ((nI (σ 9 (cj))), su σ 9 cj vj) := by
        simp [sp_worth, c4, c16, bN_nI (show cj < 2 ^ 31 by omega), bN_nI (show vj < 2 ^ 31 by omega)]
      rw [e9] at h
      exact h _ ⟨Xs_s9 hX, Xc_cong (σ := σ) ⟨rfl, rfl, rfl, rfl, rfl, rfl, rfl, rfl, rfl, rfl⟩ hC⟩ ((keepM.I keepM.rf (by decide)))
    · refine r_bipush (pc := 19) (v := (-2)) dX6_worth_19 (by decide) ?_
      refine r_ireturn (pc := 21) dX6_worth_21 rfl (Or.inl rfl) rfl ?_
      have e9 : sp_worth σ (nI cj) v = ((-2), σ) := by
        simp [sp_worth, c4, c16]
      rw [e9] at h
      exact h _ hI (keepM.rf)
  · refine r_iconst (pc := 7) (v := (-1)) dX6_worth_7 (by decide) ?_
    refine r_ireturn (pc := 8) dX6_worth_8 rfl (Or.inl rfl) rfl ?_
    have e9 : sp_worth σ c v = ((-1), σ) := by
      simp [sp_worth, c4]
    rw [e9] at h
    exact h _ hI (keepM.rf)

set_option maxRecDepth 20000 in
set_option maxHeartbeats 4000000 in
theorem x_obits_l {μ : Mem} {σ : Sg} {Q : Option Value → Mem → Prop} (hX : Xs μ σ) (hO : Ok σ) (h : Q (some (.int (nI (obits σ (σ 0 0))))) μ) : ∀ (k : Nat) (b : Nat), b + k = σ 0 0 → WP cX0_openBits (RX0, 3, (some .int), 2, none) 4 [(0, .ref 1), (1, .int (nI (obits σ b))), (2, .int (nI b))] [] μ Q := by
  intro k
  induction k using Nat.strongRecOn with
  | _ k ih =>
    intro b hb
    have hn := Ok_n hO
    refine r_iload_n (pc := 4) dX0_openBits_4 rfl ?_
    refine r_aload_n (pc := 5) dX0_openBits_5 rfl ?_
    refine r_getI (pc := 6) (x := (nI (σ 0 0))) dX0_openBits_6 fX0_36 rfl rfl (Xs_n (μ := μ) hX) ?_
    refine rn_icmp_ge (pc := 9) (tgt := 32) dX0_openBits_9 (by decide) (by omega) (by omega) (fun c9 => ?_) (fun c9 => ?_)
    · obtain rfl : b = σ 0 0 := by omega
      refine r_iload_n (pc := 32) dX0_openBits_32 rfl ?_
      refine r_ireturn (pc := 33) dX0_openBits_33 rfl (Or.inl rfl) rfl ?_
      exact h
    · refine r_aload_n (pc := 12) dX0_openBits_12 rfl ?_
      refine r_iload_n (pc := 13) dX0_openBits_13 rfl ?_
      refine r_callV (pc := 14) (d' := 1) (k := 1) (As := [.int (nI b)]) (rest := []) dX0_openBits_14 vX0_isOpen mX0_49 rfl rfl rfl (Nat.le_of_ble_eq_true rfl) (Nat.le_of_ble_eq_true rfl) ?_
      refine c_xopen (μ := μ) hX hO (by omega) ?_
      refine rb_if_eq (pc := 17) (tgt := 26) dX0_openBits_17 (by decide) (fun c17 => ?_) (fun c17 => ?_)
      · refine rn_iinc (pc := 26) (b := 1) (ls' := [(0, .ref 1), (1, .int (nI (obits σ b))), (2, .int (nI (b + 1)))]) dX0_openBits_26 rfl (by decide) (Nat.le_of_ble_eq_true rfl) rfl ?_
        refine r_goto (pc := 29) (tgt := 4) dX0_openBits_29 (by decide) ?_
        have e1 : obits σ b = obits σ (b + 1) := by simp [obits, c17]
        rw [e1]
        exact ih (k - 1) (by omega) (b + 1) (by omega)
      · refine r_iload_n (pc := 20) dX0_openBits_20 rfl ?_
        refine r_iconst (pc := 21) (v := (nI (1))) dX0_openBits_21 (by decide) ?_
        refine r_iload_n (pc := 22) dX0_openBits_22 rfl ?_
        refine r_ishl (pc := 23) dX0_openBits_23 ?_
        refine r_eqi (shl1 (by omega)) ?_
        refine r_ior (pc := 24) dX0_openBits_24 ?_
        refine r_eqi (nI_or _ _) ?_
        refine r_istore_n (pc := 25) (ls' := [(0, .ref 1), (1, .int (nI ((obits σ b) ||| (2 ^ b)))), (2, .int (nI b))]) dX0_openBits_25 (Nat.le_of_ble_eq_true rfl) rfl ?_
        refine rn_iinc (pc := 26) (b := 1) (ls' := [(0, .ref 1), (1, .int (nI ((obits σ b) ||| (2 ^ b)))), (2, .int (nI (b + 1)))]) dX0_openBits_26 rfl (by decide) (Nat.le_of_ble_eq_true rfl) rfl ?_
        refine r_goto (pc := 29) (tgt := 4) dX0_openBits_29 (by decide) ?_
        have e1 : (obits σ b) ||| (2 ^ b) = obits σ (b + 1) := by simp [obits, c17]
        rw [e1]
        exact ih (k - 1) (by omega) (b + 1) (by omega)

set_option maxRecDepth 20000 in
set_option maxHeartbeats 4000000 in
theorem x_obits {μ : Mem} {σ : Sg} {Q : Option Value → Mem → Prop} (hX : Xs μ σ) (hO : Ok σ) (h : Q (some (.int (nI (obits σ (σ 0 0))))) μ) : Sp iX0_openBits 2 [.ref 1] μ Q := by
  refine Sp.of vX0_openBits.1 (Nat.le_of_ble_eq_true rfl) ?_
  show WP cX0_openBits (RX0, 3, (some .int), 2, none) 0 [(0, .ref 1)] [] μ Q
  have hn := Ok_n hO
  refine r_iconst (pc := 0) (v := (nI (0))) dX0_openBits_0 (by decide) ?_
  refine r_istore_n (pc := 1) (ls' := [(0, .ref 1), (1, .int (nI 0))]) dX0_openBits_1 (Nat.le_of_ble_eq_true rfl) rfl ?_
  refine r_iconst (pc := 2) (v := (nI (0))) dX0_openBits_2 (by decide) ?_
  refine r_istore_n (pc := 3) (ls' := [(0, .ref 1), (1, .int (nI 0)), (2, .int (nI 0))]) dX0_openBits_3 (Nat.le_of_ble_eq_true rfl) rfl ?_
  exact x_obits_l hX hO h (σ 0 0) 0 (by omega)

set_option maxRecDepth 20000 in
set_option maxHeartbeats 4000000 in
theorem x_told {μ : Mem} {σ : Sg} {w : Int32} {Q : Option Value → Mem → Prop} (hI : XI μ σ) (hO : Ok σ) (h : ∀ μ', XI μ' σ → keepM μ μ' → Q (some (.int (sp_told σ w))) μ') : Sp iX6_told 3 [.ref 0, .int (w)] μ Q := by
  refine Sp.of vX6_told.1 (Nat.le_of_ble_eq_true rfl) ?_
  show WP cX6_told (RX6, 2, (some .int), 3, none) 0 [(0, .ref 0), (1, .int (w))] [] μ Q
  have hn := Ok_n hO
  have hX := hI.1
  have hC := hI.2
  refine r_iload_n (pc := 0) dX6_told_0 rfl ?_
  by_cases c1 : (w).toInt < 0 ∨ 5 < (w).toInt
  · refine r_tableOut (pc := 1) (tgt := 94) dX6_told_1 c1 (by decide) ?_
    refine r_bipush (pc := 94) (v := (-2)) dX6_told_94 (by decide) ?_
    refine r_ireturn (pc := 96) dX6_told_96 rfl (Or.inl rfl) rfl ?_
    rw [show sp_told σ w = -2 by rw [sp_told, if_neg (sw_out c1 (by decide) (by decide) : ¬ w = nI 0), if_neg (sw_out c1 (by decide) (by decide) : ¬ w = nI 1), if_neg (sw_out c1 (by decide) (by decide) : ¬ w = nI 2), if_neg (sw_out c1 (by decide) (by decide) : ¬ w = nI 3), if_neg (sw_out c1 (by decide) (by decide) : ¬ w = nI 4), if_neg (sw_out c1 (by decide) (by decide) : ¬ w = nI 5)]] at h
    exact h _ hI keepM.rf
  · obtain ⟨j1, hj2, e3⟩ := sw_cases (by decide) c1
    rcases (show j1 = 0 ∨ j1 = 1 ∨ j1 = 2 ∨ j1 = 3 ∨ j1 = 4 ∨ j1 = 5 by omega) with rfl | rfl | rfl | rfl | rfl | rfl
    · rw [e3]
      refine r_tableIn (pc := 1) (tgt := 40) (off := 39) dX6_told_1 (by decide) (by decide) (by decide) (by decide) ?_
      refine r_aload_n (pc := 40) dX6_told_40 rfl ?_
      refine r_getR (pc := 41) (r := 1) dX6_told_41 fX6_12 rfl rfl ?_
      refine r_getI (pc := 44) (x := (nI (σ 0 0))) dX6_told_44 fX6_63 rfl rfl (Xs_n (μ := μ) hX) ?_
      refine r_ireturn (pc := 47) dX6_told_47 rfl (Or.inl rfl) rfl ?_
      rw [show sp_told σ w = (nI (σ 0 0)) by rw [e3]; simp (decide := true) [sp_told]] at h
      exact h _ hI keepM.rf
    · rw [e3]
      refine r_tableIn (pc := 1) (tgt := 48) (off := 47) dX6_told_1 (by decide) (by decide) (by decide) (by decide) ?_
      refine r_aload_n (pc := 48) dX6_told_48 rfl ?_
      refine r_getR (pc := 49) (r := 10) dX6_told_49 fX6_19 rfl rfl ?_
      refine r_getI (pc := 52) (x := (nI (σ 0 4))) dX6_told_52 fX6_115 rfl rfl (Xs_sn (μ := μ) hX) ?_
      refine r_ireturn (pc := 55) dX6_told_55 rfl (Or.inl rfl) rfl ?_
      rw [show sp_told σ w = (nI (σ 0 4)) by rw [e3]; simp (decide := true) [sp_told]] at h
      exact h _ hI keepM.rf
    · rw [e3]
      refine r_tableIn (pc := 1) (tgt := 56) (off := 55) dX6_told_1 (by decide) (by decide) (by decide) (by decide) ?_
      refine r_aload_n (pc := 56) dX6_told_56 rfl ?_
      refine r_getR (pc := 57) (r := 1) dX6_told_57 fX6_12 rfl rfl ?_
      refine r_callV (pc := 60) (d' := 2) (k := 1) (As := []) (rest := []) dX6_told_60 vX0_openBits mX6_184 rfl rfl rfl (Nat.le_of_ble_eq_true rfl) (Nat.le_of_ble_eq_true rfl) ?_
      refine x_obits hX hO ?_
      refine r_ireturn (pc := 63) dX6_told_63 rfl (Or.inl rfl) rfl ?_
      rw [show sp_told σ w = (nI (obits σ (σ 0 0))) by rw [e3]; simp (decide := true) [sp_told]] at h
      exact h _ hI keepM.rf
    · rw [e3]
      refine r_tableIn (pc := 1) (tgt := 64) (off := 63) dX6_told_1 (by decide) (by decide) (by decide) (by decide) ?_
      refine r_aload_n (pc := 64) dX6_told_64 rfl ?_
      refine r_getR (pc := 65) (r := 1) dX6_told_65 fX6_12 rfl rfl ?_
      refine r_getR (pc := 68) (r := 9) dX6_told_68 fX6_112 rfl rfl ?_
      refine r_iconst (pc := 71) (v := (nI (0))) dX6_told_71 (by decide) ?_
      refine r_iald (pc := 72) (x := (nI (σ 0 1))) dX6_told_72 rfl rfl (by omega) (Xs_fee (μ := μ) hX) ?_
      refine r_ireturn (pc := 73) dX6_told_73 rfl (Or.inl rfl) rfl ?_
      rw [show sp_told σ w = (nI (σ 0 1)) by rw [e3]; simp (decide := true) [sp_told]] at h
      exact h _ hI keepM.rf
    · rw [e3]
      refine r_tableIn (pc := 1) (tgt := 74) (off := 73) dX6_told_1 (by decide) (by decide) (by decide) (by decide) ?_
      refine r_aload_n (pc := 74) dX6_told_74 rfl ?_
      refine r_getR (pc := 75) (r := 1) dX6_told_75 fX6_12 rfl rfl ?_
      refine r_getR (pc := 78) (r := 9) dX6_told_78 fX6_112 rfl rfl ?_
      refine r_iconst (pc := 81) (v := (nI (1))) dX6_told_81 (by decide) ?_
      refine r_iald (pc := 82) (x := (nI (σ 0 2))) dX6_told_82 rfl rfl (by omega) (Xs_now (μ := μ) hX) ?_
      refine r_ireturn (pc := 83) dX6_told_83 rfl (Or.inl rfl) rfl ?_
      rw [show sp_told σ w = (nI (σ 0 2)) by rw [e3]; simp (decide := true) [sp_told]] at h
      exact h _ hI keepM.rf
    · rw [e3]
      refine r_tableIn (pc := 1) (tgt := 84) (off := 83) dX6_told_1 (by decide) (by decide) (by decide) (by decide) ?_
      refine r_aload_n (pc := 84) dX6_told_84 rfl ?_
      refine r_getR (pc := 85) (r := 1) dX6_told_85 fX6_12 rfl rfl ?_
      refine r_getR (pc := 88) (r := 9) dX6_told_88 fX6_112 rfl rfl ?_
      refine r_iconst (pc := 91) (v := (nI (2))) dX6_told_91 (by decide) ?_
      refine r_iald (pc := 92) (x := (nI (σ 0 3))) dX6_told_92 rfl rfl (by omega) (Xs_drop (μ := μ) hX) ?_
      refine r_ireturn (pc := 93) dX6_told_93 rfl (Or.inl rfl) rfl ?_
      rw [show sp_told σ w = (nI (σ 0 3)) by rw [e3]; simp (decide := true) [sp_told]] at h
      exact h _ hI keepM.rf

set_option maxRecDepth 20000 in
set_option maxHeartbeats 4000000 in
theorem x_excess {μ : Mem} {σ : Sg} {b : Nat} {Q : Option Value → Mem → Prop} (hX : Xs μ σ) (hO : Ok σ) (hb : b < σ 0 0) (h : Q (some (.int (nI (upR (σ 4 b) (σ 0 1) * σ 9 (σ 3 b)) - nI (σ 2 b * σ 9 (σ 1 b))))) μ) : Sp iX6_excess 2 [.ref 0, .int (nI b)] μ Q := by
  refine Sp.of vX6_excess.1 (Nat.le_of_ble_eq_true rfl) ?_
  show WP cX6_excess (RX6, 2, (some .int), 2, none) 0 [(0, .ref 0), (1, .int (nI b))] [] μ Q
  have hn := Ok_n hO
  refine r_aload_n (pc := 0) dX6_excess_0 rfl ?_
  refine r_getR (pc := 1) (r := 1) dX6_excess_1 fX6_12 rfl rfl ?_
  refine r_iload_n (pc := 4) dX6_excess_4 rfl ?_
  refine r_callV (pc := 5) (d' := 1) (k := 1) (As := [.int (nI b)]) (rest := []) dX6_excess_5 vX0_upper mX6_101 rfl rfl rfl (Nat.le_of_ble_eq_true rfl) (Nat.le_of_ble_eq_true rfl) ?_
  refine c_xupper (μ := μ) hX hO (by omega) ?_
  refine r_aload_n (pc := 8) dX6_excess_8 rfl ?_
  refine r_getR (pc := 9) (r := 39) dX6_excess_9 fX6_51 rfl rfl ?_
  refine r_aload_n (pc := 12) dX6_excess_12 rfl ?_
  refine r_getR (pc := 13) (r := 1) dX6_excess_13 fX6_12 rfl rfl ?_
  refine r_getR (pc := 16) (r := 4) dX6_excess_16 fX6_83 rfl rfl ?_
  refine r_iload_n (pc := 19) dX6_excess_19 rfl ?_
  refine r_iald (pc := 20) (x := (nI (σ 3 (b)))) dX6_excess_20 rfl rfl (by omega) (Xs_3 (μ := μ) hX (by omega)) ?_
  have b1 := Ok_b hO (j := b) (by omega)
  refine r_iald (pc := 21) (x := (nI (σ 9 (σ 3 (b))))) dX6_excess_21 rfl rfl (by omega) (Xs_9 (μ := μ) hX (by omega)) ?_
  have b2 := Ok_w hO (j := σ 3 (b)) (by omega)
  refine rn_imul (pc := 22) dX6_excess_22 ?_
  refine r_aload_n (pc := 23) dX6_excess_23 rfl ?_
  refine r_getR (pc := 24) (r := 1) dX6_excess_24 fX6_12 rfl rfl ?_
  refine r_getR (pc := 27) (r := 3) dX6_excess_27 fX6_80 rfl rfl ?_
  refine r_iload_n (pc := 30) dX6_excess_30 rfl ?_
  refine r_iald (pc := 31) (x := (nI (σ 2 (b)))) dX6_excess_31 rfl rfl (by omega) (Xs_2 (μ := μ) hX (by omega)) ?_
  have b3 := Ok_b hO (j := b) (by omega)
  refine r_aload_n (pc := 32) dX6_excess_32 rfl ?_
  refine r_getR (pc := 33) (r := 39) dX6_excess_33 fX6_51 rfl rfl ?_
  refine r_aload_n (pc := 36) dX6_excess_36 rfl ?_
  refine r_getR (pc := 37) (r := 1) dX6_excess_37 fX6_12 rfl rfl ?_
  refine r_getR (pc := 40) (r := 2) dX6_excess_40 fX6_77 rfl rfl ?_
  refine r_iload_n (pc := 43) dX6_excess_43 rfl ?_
  refine r_iald (pc := 44) (x := (nI (σ 1 (b)))) dX6_excess_44 rfl rfl (by omega) (Xs_1 (μ := μ) hX (by omega)) ?_
  have b4 := Ok_b hO (j := b) (by omega)
  refine r_iald (pc := 45) (x := (nI (σ 9 (σ 1 (b))))) dX6_excess_45 rfl rfl (by omega) (Xs_9 (μ := μ) hX (by omega)) ?_
  have b5 := Ok_w hO (j := σ 1 (b)) (by omega)
  refine rn_imul (pc := 46) dX6_excess_46 ?_
  refine r_isub (pc := 47) dX6_excess_47 ?_
  refine r_ireturn (pc := 48) dX6_excess_48 rfl (Or.inl rfl) rfl ?_
  exact h

set_option maxRecDepth 20000 in
set_option maxHeartbeats 4000000 in
theorem m_off_l {μ : Mem} {σ : Sg} {w : Int32} {Q : Option Value → Mem → Prop} (hM : Ms μ σ) (hO : Ok σ) (h : ∀ μ', Ms μ' σ → keepX μ μ' → Q (some (.int (sp_off σ w))) μ') : ∀ (k : Nat) (b : Nat), b + k = σ 0 0 → inR w (nI 0) (nI 3) = true → WP cX7_off (RX7, 7, (some .int), 2, none) 23 [(0, .ref 40), (1, .int (w)), (2, .int (og σ b)), (3, .int (ow σ b)), (4, .int (nI (os σ b))), (5, .int (nI b))] [] μ Q := by
  intro k
  induction k using Nat.strongRecOn with
  | _ k ih =>
    intro b hb hw
    have hn := Ok_n hO
    have hos := os_lt σ (σ 0 0)
    have hp : 2 ^ σ 0 0 ≤ 2 ^ 12 := Nat.pow_le_pow_right (by decide) (by omega)
    refine r_iload (pc := 23) dX7_off_23 rfl ?_
    refine r_aload_n (pc := 25) dX7_off_25 rfl ?_
    refine r_getI (pc := 26) (x := (nI (σ 0 0))) dX7_off_26 fX7_81 rfl rfl (Ms_n (μ := μ) hM) ?_
    refine rn_icmp_ge (pc := 29) (tgt := 137) dX7_off_29 (by decide) (by omega) (by omega) (fun c29 => ?_) (fun c29 => ?_)
    · obtain rfl : b = σ 0 0 := by omega
      refine r_iload_n (pc := 137) dX7_off_137 rfl ?_
      refine r_if_ne (pc := 138) (tgt := 145) dX7_off_138 (by decide) (fun c138 => ?_) (fun c138 => ?_)
      · refine r_iload_n (pc := 145) dX7_off_145 rfl ?_
        refine r_iconst (pc := 146) (v := (nI (1))) dX7_off_146 (by decide) ?_
        refine r_icmp_ne (pc := 147) (tgt := 154) dX7_off_147 (by decide) (fun c147 => ?_) (fun c147 => ?_)
        · refine r_iload_n (pc := 154) dX7_off_154 rfl ?_
          refine r_iconst (pc := 155) (v := (nI (2))) dX7_off_155 (by decide) ?_
          refine r_icmp_ne (pc := 156) (tgt := 172) dX7_off_156 (by decide) (fun c156 => ?_) (fun c156 => ?_)
          · refine r_iload (pc := 172) dX7_off_172 rfl ?_
            refine r_ireturn (pc := 174) dX7_off_174 rfl (Or.inl rfl) rfl ?_
            rw [← nI_0] at c138
            have e9 : sp_off σ w = (nI (os σ (σ 0 0))) := by simp (decide := true) [sp_off, hw, c138, c147, c156]
            rw [e9] at h
            exact h _ hM keepX.rf
          · refine r_iload (pc := 159) dX7_off_159 rfl ?_
            refine rn_if_ne (pc := 161) (tgt := 168) dX7_off_161 (by decide) (by omega) (fun c161 => ?_) (fun c161 => ?_)
            · refine r_iconst (pc := 168) (v := (nI (0))) dX7_off_168 (by decide) ?_
              refine r_goto (pc := 169) (tgt := 174) dX7_off_169 (by decide) ?_
              refine r_ireturn (pc := 174) dX7_off_174 rfl (Or.inl rfl) rfl ?_
              rw [← nI_0] at c138
              have e9 : sp_off σ w = (nI (0)) := by simp (decide := true) [sp_off, hw, c138, c147, c156, c161]
              rw [e9] at h
              exact h _ hM keepX.rf
            · refine r_iconst (pc := 164) (v := (nI (1))) dX7_off_164 (by decide) ?_
              refine r_goto (pc := 165) (tgt := 174) dX7_off_165 (by decide) ?_
              refine r_ireturn (pc := 174) dX7_off_174 rfl (Or.inl rfl) rfl ?_
              rw [← nI_0] at c138
              have e9 : sp_off σ w = (nI (1)) := by simp (decide := true) [sp_off, hw, c138, c147, c156, c161]
              rw [e9] at h
              exact h _ hM keepX.rf
        · refine r_iload_n (pc := 150) dX7_off_150 rfl ?_
          refine r_goto (pc := 151) (tgt := 174) dX7_off_151 (by decide) ?_
          refine r_ireturn (pc := 174) dX7_off_174 rfl (Or.inl rfl) rfl ?_
          rw [← nI_0] at c138
          have e9 : sp_off σ w = ow σ (σ 0 0) := by simp (decide := true) [sp_off, hw, c138, c147]
          rw [e9] at h
          exact h _ hM keepX.rf
      · refine r_iload_n (pc := 141) dX7_off_141 rfl ?_
        refine r_goto (pc := 142) (tgt := 174) dX7_off_142 (by decide) ?_
        refine r_ireturn (pc := 174) dX7_off_174 rfl (Or.inl rfl) rfl ?_
        rw [← nI_0] at c138
        have e9 : sp_off σ w = og σ (σ 0 0) := by simp (decide := true) [sp_off, hw, c138]
        rw [e9] at h
        exact h _ hM keepX.rf
    · refine r_aload_n (pc := 32) dX7_off_32 rfl ?_
      refine r_iload (pc := 33) dX7_off_33 rfl ?_
      refine r_callV (pc := 35) (d' := 1) (k := 40) (As := [.int (nI b)]) (rest := []) dX7_off_35 vX7_isOpen mX7_97 rfl rfl rfl (Nat.le_of_ble_eq_true rfl) (Nat.le_of_ble_eq_true rfl) ?_
      refine c_mopen (μ := μ) hM hO (by omega) ?_
      refine rb_if_eq (pc := 38) (tgt := 84) dX7_off_38 (by decide) (fun c38 => ?_) (fun c38 => ?_)
      · refine r_iconst (pc := 84) (v := (nI (0))) dX7_off_84 (by decide) ?_
        refine r_eqi (y := ov σ b) (by rw [ov, if_neg (by rw [c38]; decide)]) ?_
        refine r_istore (pc := 85) (ls' := [(0, .ref 40), (1, .int (w)), (2, .int (og σ b)), (3, .int (ow σ b)), (4, .int (nI (os σ b))), (5, .int (nI b)), (6, .int (ov σ b))]) dX7_off_85 (Nat.le_of_ble_eq_true rfl) rfl ?_
        refine r_iload (pc := 87) dX7_off_87 rfl ?_
        refine r_iload (pc := 89) dX7_off_89 rfl ?_
        refine r_if_le (pc := 91) (tgt := 101) dX7_off_91 (by decide) (fun c91 => ?_) (fun c91 => ?_)
        · refine r_iconst (pc := 101) (v := (nI (0))) dX7_off_101 (by decide) ?_
          refine r_ior (pc := 102) dX7_off_102 ?_
          refine r_eqi (nI_or _ _) ?_
          refine r_istore (pc := 103) (ls' := [(0, .ref 40), (1, .int (w)), (2, .int (og σ b)), (3, .int (ow σ b)), (4, .int (nI ((os σ b) ||| (0)))), (5, .int (nI b)), (6, .int (ov σ b))]) dX7_off_103 (Nat.le_of_ble_eq_true rfl) rfl ?_
          refine r_iload (pc := 105) dX7_off_105 rfl ?_
          refine r_iload_n (pc := 107) dX7_off_107 rfl ?_
          refine r_icmp_le (pc := 108) (tgt := 116) dX7_off_108 (by decide) (fun c108 => ?_) (fun c108 => ?_)
          · refine r_iload_n (pc := 116) dX7_off_116 rfl ?_
            refine r_istore_n (pc := 117) (ls' := [(0, .ref 40), (1, .int (w)), (2, .int (og σ b)), (3, .int (ow σ b)), (4, .int (nI ((os σ b) ||| (0)))), (5, .int (nI b)), (6, .int (ov σ b))]) dX7_off_117 (Nat.le_of_ble_eq_true rfl) rfl ?_
            refine r_iload (pc := 118) dX7_off_118 rfl ?_
            refine r_iload_n (pc := 120) dX7_off_120 rfl ?_
            refine r_icmp_le (pc := 121) (tgt := 129) dX7_off_121 (by decide) (fun c121 => ?_) (fun c121 => ?_)
            · refine r_iload_n (pc := 129) dX7_off_129 rfl ?_
              refine r_istore_n (pc := 130) (ls' := [(0, .ref 40), (1, .int (w)), (2, .int (og σ b)), (3, .int (ow σ b)), (4, .int (nI ((os σ b) ||| (0)))), (5, .int (nI b)), (6, .int (ov σ b))]) dX7_off_130 (Nat.le_of_ble_eq_true rfl) rfl ?_
              refine rn_iinc (pc := 131) (b := 1) (ls' := [(0, .ref 40), (1, .int (w)), (2, .int (og σ b)), (3, .int (ow σ b)), (4, .int (nI ((os σ b) ||| (0)))), (5, .int (nI (b + 1))), (6, .int (ov σ b))]) dX7_off_131 rfl (by decide) (Nat.le_of_ble_eq_true rfl) rfl ?_
              refine r_goto (pc := 134) (tgt := 23) dX7_off_134 (by decide) ?_
              have e2 : og σ (b + 1) = og σ b := by rw [og]; exact if_pos c108
              have e3 : ow σ (b + 1) = ow σ b := by rw [ow]; exact if_pos c108
              have e4 : os σ (b + 1) = (os σ b) ||| (0) := by rw [os, if_pos c91]
              rw [← e2, ← e3, ← e4]
              refine r_pick [0, 1, 2, 3, 4, 5] rfl ?_
              exact ih (k - 1) (by omega) (b + 1) (by omega) hw
            · refine r_iload (pc := 124) dX7_off_124 rfl ?_
              refine r_goto (pc := 126) (tgt := 130) dX7_off_126 (by decide) ?_
              refine r_istore_n (pc := 130) (ls' := [(0, .ref 40), (1, .int (w)), (2, .int (ov σ b)), (3, .int (ow σ b)), (4, .int (nI ((os σ b) ||| (0)))), (5, .int (nI b)), (6, .int (ov σ b))]) dX7_off_130 (Nat.le_of_ble_eq_true rfl) rfl ?_
              refine rn_iinc (pc := 131) (b := 1) (ls' := [(0, .ref 40), (1, .int (w)), (2, .int (ov σ b)), (3, .int (ow σ b)), (4, .int (nI ((os σ b) ||| (0)))), (5, .int (nI (b + 1))), (6, .int (ov σ b))]) dX7_off_131 rfl (by decide) (Nat.le_of_ble_eq_true rfl) rfl ?_
              refine r_goto (pc := 134) (tgt := 23) dX7_off_134 (by decide) ?_
              exact absurd c108 c121
          · refine r_iload (pc := 111) dX7_off_111 rfl ?_
            refine r_goto (pc := 113) (tgt := 117) dX7_off_113 (by decide) ?_
            refine r_istore_n (pc := 117) (ls' := [(0, .ref 40), (1, .int (w)), (2, .int (og σ b)), (3, .int (nI b)), (4, .int (nI ((os σ b) ||| (0)))), (5, .int (nI b)), (6, .int (ov σ b))]) dX7_off_117 (Nat.le_of_ble_eq_true rfl) rfl ?_
            refine r_iload (pc := 118) dX7_off_118 rfl ?_
            refine r_iload_n (pc := 120) dX7_off_120 rfl ?_
            refine r_icmp_le (pc := 121) (tgt := 129) dX7_off_121 (by decide) (fun c121 => ?_) (fun c121 => ?_)
            · refine r_iload_n (pc := 129) dX7_off_129 rfl ?_
              refine r_istore_n (pc := 130) (ls' := [(0, .ref 40), (1, .int (w)), (2, .int (og σ b)), (3, .int (nI b)), (4, .int (nI ((os σ b) ||| (0)))), (5, .int (nI b)), (6, .int (ov σ b))]) dX7_off_130 (Nat.le_of_ble_eq_true rfl) rfl ?_
              refine rn_iinc (pc := 131) (b := 1) (ls' := [(0, .ref 40), (1, .int (w)), (2, .int (og σ b)), (3, .int (nI b)), (4, .int (nI ((os σ b) ||| (0)))), (5, .int (nI (b + 1))), (6, .int (ov σ b))]) dX7_off_131 rfl (by decide) (Nat.le_of_ble_eq_true rfl) rfl ?_
              refine r_goto (pc := 134) (tgt := 23) dX7_off_134 (by decide) ?_
              exact absurd c121 c108
            · refine r_iload (pc := 124) dX7_off_124 rfl ?_
              refine r_goto (pc := 126) (tgt := 130) dX7_off_126 (by decide) ?_
              refine r_istore_n (pc := 130) (ls' := [(0, .ref 40), (1, .int (w)), (2, .int (ov σ b)), (3, .int (nI b)), (4, .int (nI ((os σ b) ||| (0)))), (5, .int (nI b)), (6, .int (ov σ b))]) dX7_off_130 (Nat.le_of_ble_eq_true rfl) rfl ?_
              refine rn_iinc (pc := 131) (b := 1) (ls' := [(0, .ref 40), (1, .int (w)), (2, .int (ov σ b)), (3, .int (nI b)), (4, .int (nI ((os σ b) ||| (0)))), (5, .int (nI (b + 1))), (6, .int (ov σ b))]) dX7_off_131 rfl (by decide) (Nat.le_of_ble_eq_true rfl) rfl ?_
              refine r_goto (pc := 134) (tgt := 23) dX7_off_134 (by decide) ?_
              have e2 : og σ (b + 1) = ov σ b := by rw [og]; exact if_neg c108
              have e3 : ow σ (b + 1) = (nI (b)) := by rw [ow]; exact if_neg c108
              have e4 : os σ (b + 1) = (os σ b) ||| (0) := by rw [os, if_pos c91]
              rw [← e2, ← e3, ← e4]
              refine r_pick [0, 1, 2, 3, 4, 5] rfl ?_
              exact ih (k - 1) (by omega) (b + 1) (by omega) hw
        · refine r_iconst (pc := 94) (v := (nI (1))) dX7_off_94 (by decide) ?_
          refine r_iload (pc := 95) dX7_off_95 rfl ?_
          refine r_ishl (pc := 97) dX7_off_97 ?_
          refine r_eqi (shl1 (by omega)) ?_
          refine r_goto (pc := 98) (tgt := 102) dX7_off_98 (by decide) ?_
          refine r_ior (pc := 102) dX7_off_102 ?_
          refine r_eqi (nI_or _ _) ?_
          refine r_istore (pc := 103) (ls' := [(0, .ref 40), (1, .int (w)), (2, .int (og σ b)), (3, .int (ow σ b)), (4, .int (nI ((os σ b) ||| (2 ^ b)))), (5, .int (nI b)), (6, .int (ov σ b))]) dX7_off_103 (Nat.le_of_ble_eq_true rfl) rfl ?_
          refine r_iload (pc := 105) dX7_off_105 rfl ?_
          refine r_iload_n (pc := 107) dX7_off_107 rfl ?_
          refine r_icmp_le (pc := 108) (tgt := 116) dX7_off_108 (by decide) (fun c108 => ?_) (fun c108 => ?_)
          · refine r_iload_n (pc := 116) dX7_off_116 rfl ?_
            refine r_istore_n (pc := 117) (ls' := [(0, .ref 40), (1, .int (w)), (2, .int (og σ b)), (3, .int (ow σ b)), (4, .int (nI ((os σ b) ||| (2 ^ b)))), (5, .int (nI b)), (6, .int (ov σ b))]) dX7_off_117 (Nat.le_of_ble_eq_true rfl) rfl ?_
            refine r_iload (pc := 118) dX7_off_118 rfl ?_
            refine r_iload_n (pc := 120) dX7_off_120 rfl ?_
            refine r_icmp_le (pc := 121) (tgt := 129) dX7_off_121 (by decide) (fun c121 => ?_) (fun c121 => ?_)
            · refine r_iload_n (pc := 129) dX7_off_129 rfl ?_
              refine r_istore_n (pc := 130) (ls' := [(0, .ref 40), (1, .int (w)), (2, .int (og σ b)), (3, .int (ow σ b)), (4, .int (nI ((os σ b) ||| (2 ^ b)))), (5, .int (nI b)), (6, .int (ov σ b))]) dX7_off_130 (Nat.le_of_ble_eq_true rfl) rfl ?_
              refine rn_iinc (pc := 131) (b := 1) (ls' := [(0, .ref 40), (1, .int (w)), (2, .int (og σ b)), (3, .int (ow σ b)), (4, .int (nI ((os σ b) ||| (2 ^ b)))), (5, .int (nI (b + 1))), (6, .int (ov σ b))]) dX7_off_131 rfl (by decide) (Nat.le_of_ble_eq_true rfl) rfl ?_
              refine r_goto (pc := 134) (tgt := 23) dX7_off_134 (by decide) ?_
              have e2 : og σ (b + 1) = og σ b := by rw [og]; exact if_pos c108
              have e3 : ow σ (b + 1) = ow σ b := by rw [ow]; exact if_pos c108
              have e4 : os σ (b + 1) = (os σ b) ||| (2 ^ b) := by rw [os, if_neg c91]
              rw [← e2, ← e3, ← e4]
              refine r_pick [0, 1, 2, 3, 4, 5] rfl ?_
              exact ih (k - 1) (by omega) (b + 1) (by omega) hw
            · refine r_iload (pc := 124) dX7_off_124 rfl ?_
              refine r_goto (pc := 126) (tgt := 130) dX7_off_126 (by decide) ?_
              refine r_istore_n (pc := 130) (ls' := [(0, .ref 40), (1, .int (w)), (2, .int (ov σ b)), (3, .int (ow σ b)), (4, .int (nI ((os σ b) ||| (2 ^ b)))), (5, .int (nI b)), (6, .int (ov σ b))]) dX7_off_130 (Nat.le_of_ble_eq_true rfl) rfl ?_
              refine rn_iinc (pc := 131) (b := 1) (ls' := [(0, .ref 40), (1, .int (w)), (2, .int (ov σ b)), (3, .int (ow σ b)), (4, .int (nI ((os σ b) ||| (2 ^ b)))), (5, .int (nI (b + 1))), (6, .int (ov σ b))]) dX7_off_131 rfl (by decide) (Nat.le_of_ble_eq_true rfl) rfl ?_
              refine r_goto (pc := 134) (tgt := 23) dX7_off_134 (by decide) ?_
              exact absurd c108 c121
          · refine r_iload (pc := 111) dX7_off_111 rfl ?_
            refine r_goto (pc := 113) (tgt := 117) dX7_off_113 (by decide) ?_
            refine r_istore_n (pc := 117) (ls' := [(0, .ref 40), (1, .int (w)), (2, .int (og σ b)), (3, .int (nI b)), (4, .int (nI ((os σ b) ||| (2 ^ b)))), (5, .int (nI b)), (6, .int (ov σ b))]) dX7_off_117 (Nat.le_of_ble_eq_true rfl) rfl ?_
            refine r_iload (pc := 118) dX7_off_118 rfl ?_
            refine r_iload_n (pc := 120) dX7_off_120 rfl ?_
            refine r_icmp_le (pc := 121) (tgt := 129) dX7_off_121 (by decide) (fun c121 => ?_) (fun c121 => ?_)
            · refine r_iload_n (pc := 129) dX7_off_129 rfl ?_
              refine r_istore_n (pc := 130) (ls' := [(0, .ref 40), (1, .int (w)), (2, .int (og σ b)), (3, .int (nI b)), (4, .int (nI ((os σ b) ||| (2 ^ b)))), (5, .int (nI b)), (6, .int (ov σ b))]) dX7_off_130 (Nat.le_of_ble_eq_true rfl) rfl ?_
              refine rn_iinc (pc := 131) (b := 1) (ls' := [(0, .ref 40), (1, .int (w)), (2, .int (og σ b)), (3, .int (nI b)), (4, .int (nI ((os σ b) ||| (2 ^ b)))), (5, .int (nI (b + 1))), (6, .int (ov σ b))]) dX7_off_131 rfl (by decide) (Nat.le_of_ble_eq_true rfl) rfl ?_
              refine r_goto (pc := 134) (tgt := 23) dX7_off_134 (by decide) ?_
              exact absurd c121 c108
            · refine r_iload (pc := 124) dX7_off_124 rfl ?_
              refine r_goto (pc := 126) (tgt := 130) dX7_off_126 (by decide) ?_
              refine r_istore_n (pc := 130) (ls' := [(0, .ref 40), (1, .int (w)), (2, .int (ov σ b)), (3, .int (nI b)), (4, .int (nI ((os σ b) ||| (2 ^ b)))), (5, .int (nI b)), (6, .int (ov σ b))]) dX7_off_130 (Nat.le_of_ble_eq_true rfl) rfl ?_
              refine rn_iinc (pc := 131) (b := 1) (ls' := [(0, .ref 40), (1, .int (w)), (2, .int (ov σ b)), (3, .int (nI b)), (4, .int (nI ((os σ b) ||| (2 ^ b)))), (5, .int (nI (b + 1))), (6, .int (ov σ b))]) dX7_off_131 rfl (by decide) (Nat.le_of_ble_eq_true rfl) rfl ?_
              refine r_goto (pc := 134) (tgt := 23) dX7_off_134 (by decide) ?_
              have e2 : og σ (b + 1) = ov σ b := by rw [og]; exact if_neg c108
              have e3 : ow σ (b + 1) = (nI (b)) := by rw [ow]; exact if_neg c108
              have e4 : os σ (b + 1) = (os σ b) ||| (2 ^ b) := by rw [os, if_neg c91]
              rw [← e2, ← e3, ← e4]
              refine r_pick [0, 1, 2, 3, 4, 5] rfl ?_
              exact ih (k - 1) (by omega) (b + 1) (by omega) hw
      · refine r_aload_n (pc := 41) dX7_off_41 rfl ?_
        refine r_iload (pc := 42) dX7_off_42 rfl ?_
        refine r_callV (pc := 44) (d' := 0) (k := 40) (As := [.int (nI b)]) (rest := []) dX7_off_44 vX7_upper mX7_100 rfl rfl rfl (Nat.le_of_ble_eq_true rfl) (Nat.le_of_ble_eq_true rfl) ?_
        refine c_mupper (μ := μ) hM hO (by omega) ?_
        refine r_aload_n (pc := 47) dX7_off_47 rfl ?_
        refine r_getR (pc := 48) (r := 50) dX7_off_48 fX7_37 rfl rfl ?_
        refine r_aload_n (pc := 51) dX7_off_51 rfl ?_
        refine r_getR (pc := 52) (r := 43) dX7_off_52 fX7_16 rfl rfl ?_
        refine r_iload (pc := 55) dX7_off_55 rfl ?_
        refine r_iald (pc := 57) (x := (nI (σ 3 (b)))) dX7_off_57 rfl rfl (by omega) (Ms_3 (μ := μ) hM (by omega)) ?_
        have b1 := Ok_b hO (j := b) (by omega)
        refine r_iald (pc := 58) (x := (nI (σ 9 (σ 3 (b))))) dX7_off_58 rfl rfl (by omega) (Ms_9 (μ := μ) hM (by omega)) ?_
        have b2 := Ok_w hO (j := σ 3 (b)) (by omega)
        refine rn_imul (pc := 59) dX7_off_59 ?_
        refine r_aload_n (pc := 60) dX7_off_60 rfl ?_
        refine r_getR (pc := 61) (r := 42) dX7_off_61 fX7_13 rfl rfl ?_
        refine r_iload (pc := 64) dX7_off_64 rfl ?_
        refine r_iald (pc := 66) (x := (nI (σ 2 (b)))) dX7_off_66 rfl rfl (by omega) (Ms_2 (μ := μ) hM (by omega)) ?_
        have b3 := Ok_b hO (j := b) (by omega)
        refine r_aload_n (pc := 67) dX7_off_67 rfl ?_
        refine r_getR (pc := 68) (r := 50) dX7_off_68 fX7_37 rfl rfl ?_
        refine r_aload_n (pc := 71) dX7_off_71 rfl ?_
        refine r_getR (pc := 72) (r := 41) dX7_off_72 fX7_7 rfl rfl ?_
        refine r_iload (pc := 75) dX7_off_75 rfl ?_
        refine r_iald (pc := 77) (x := (nI (σ 1 (b)))) dX7_off_77 rfl rfl (by omega) (Ms_1 (μ := μ) hM (by omega)) ?_
        have b4 := Ok_b hO (j := b) (by omega)
        refine r_iald (pc := 78) (x := (nI (σ 9 (σ 1 (b))))) dX7_off_78 rfl rfl (by omega) (Ms_9 (μ := μ) hM (by omega)) ?_
        have b5 := Ok_w hO (j := σ 1 (b)) (by omega)
        refine rn_imul (pc := 79) dX7_off_79 ?_
        refine r_isub (pc := 80) dX7_off_80 ?_
        refine r_goto (pc := 81) (tgt := 85) dX7_off_81 (by decide) ?_
        refine r_eqi (y := ov σ b) (by rw [ov, if_pos c38]) ?_
        refine r_istore (pc := 85) (ls' := [(0, .ref 40), (1, .int (w)), (2, .int (og σ b)), (3, .int (ow σ b)), (4, .int (nI (os σ b))), (5, .int (nI b)), (6, .int (ov σ b))]) dX7_off_85 (Nat.le_of_ble_eq_true rfl) rfl ?_
        refine r_iload (pc := 87) dX7_off_87 rfl ?_
        refine r_iload (pc := 89) dX7_off_89 rfl ?_
        refine r_if_le (pc := 91) (tgt := 101) dX7_off_91 (by decide) (fun c91 => ?_) (fun c91 => ?_)
        · refine r_iconst (pc := 101) (v := (nI (0))) dX7_off_101 (by decide) ?_
          refine r_ior (pc := 102) dX7_off_102 ?_
          refine r_eqi (nI_or _ _) ?_
          refine r_istore (pc := 103) (ls' := [(0, .ref 40), (1, .int (w)), (2, .int (og σ b)), (3, .int (ow σ b)), (4, .int (nI ((os σ b) ||| (0)))), (5, .int (nI b)), (6, .int (ov σ b))]) dX7_off_103 (Nat.le_of_ble_eq_true rfl) rfl ?_
          refine r_iload (pc := 105) dX7_off_105 rfl ?_
          refine r_iload_n (pc := 107) dX7_off_107 rfl ?_
          refine r_icmp_le (pc := 108) (tgt := 116) dX7_off_108 (by decide) (fun c108 => ?_) (fun c108 => ?_)
          · refine r_iload_n (pc := 116) dX7_off_116 rfl ?_
            refine r_istore_n (pc := 117) (ls' := [(0, .ref 40), (1, .int (w)), (2, .int (og σ b)), (3, .int (ow σ b)), (4, .int (nI ((os σ b) ||| (0)))), (5, .int (nI b)), (6, .int (ov σ b))]) dX7_off_117 (Nat.le_of_ble_eq_true rfl) rfl ?_
            refine r_iload (pc := 118) dX7_off_118 rfl ?_
            refine r_iload_n (pc := 120) dX7_off_120 rfl ?_
            refine r_icmp_le (pc := 121) (tgt := 129) dX7_off_121 (by decide) (fun c121 => ?_) (fun c121 => ?_)
            · refine r_iload_n (pc := 129) dX7_off_129 rfl ?_
              refine r_istore_n (pc := 130) (ls' := [(0, .ref 40), (1, .int (w)), (2, .int (og σ b)), (3, .int (ow σ b)), (4, .int (nI ((os σ b) ||| (0)))), (5, .int (nI b)), (6, .int (ov σ b))]) dX7_off_130 (Nat.le_of_ble_eq_true rfl) rfl ?_
              refine rn_iinc (pc := 131) (b := 1) (ls' := [(0, .ref 40), (1, .int (w)), (2, .int (og σ b)), (3, .int (ow σ b)), (4, .int (nI ((os σ b) ||| (0)))), (5, .int (nI (b + 1))), (6, .int (ov σ b))]) dX7_off_131 rfl (by decide) (Nat.le_of_ble_eq_true rfl) rfl ?_
              refine r_goto (pc := 134) (tgt := 23) dX7_off_134 (by decide) ?_
              have e2 : og σ (b + 1) = og σ b := by rw [og]; exact if_pos c108
              have e3 : ow σ (b + 1) = ow σ b := by rw [ow]; exact if_pos c108
              have e4 : os σ (b + 1) = (os σ b) ||| (0) := by rw [os, if_pos c91]
              rw [← e2, ← e3, ← e4]
              refine r_pick [0, 1, 2, 3, 4, 5] rfl ?_
              exact ih (k - 1) (by omega) (b + 1) (by omega) hw
            · refine r_iload (pc := 124) dX7_off_124 rfl ?_
              refine r_goto (pc := 126) (tgt := 130) dX7_off_126 (by decide) ?_
              refine r_istore_n (pc := 130) (ls' := [(0, .ref 40), (1, .int (w)), (2, .int (ov σ b)), (3, .int (ow σ b)), (4, .int (nI ((os σ b) ||| (0)))), (5, .int (nI b)), (6, .int (ov σ b))]) dX7_off_130 (Nat.le_of_ble_eq_true rfl) rfl ?_
              refine rn_iinc (pc := 131) (b := 1) (ls' := [(0, .ref 40), (1, .int (w)), (2, .int (ov σ b)), (3, .int (ow σ b)), (4, .int (nI ((os σ b) ||| (0)))), (5, .int (nI (b + 1))), (6, .int (ov σ b))]) dX7_off_131 rfl (by decide) (Nat.le_of_ble_eq_true rfl) rfl ?_
              refine r_goto (pc := 134) (tgt := 23) dX7_off_134 (by decide) ?_
              exact absurd c108 c121
          · refine r_iload (pc := 111) dX7_off_111 rfl ?_
            refine r_goto (pc := 113) (tgt := 117) dX7_off_113 (by decide) ?_
            refine r_istore_n (pc := 117) (ls' := [(0, .ref 40), (1, .int (w)), (2, .int (og σ b)), (3, .int (nI b)), (4, .int (nI ((os σ b) ||| (0)))), (5, .int (nI b)), (6, .int (ov σ b))]) dX7_off_117 (Nat.le_of_ble_eq_true rfl) rfl ?_
            refine r_iload (pc := 118) dX7_off_118 rfl ?_
            refine r_iload_n (pc := 120) dX7_off_120 rfl ?_
            refine r_icmp_le (pc := 121) (tgt := 129) dX7_off_121 (by decide) (fun c121 => ?_) (fun c121 => ?_)
            · refine r_iload_n (pc := 129) dX7_off_129 rfl ?_
              refine r_istore_n (pc := 130) (ls' := [(0, .ref 40), (1, .int (w)), (2, .int (og σ b)), (3, .int (nI b)), (4, .int (nI ((os σ b) ||| (0)))), (5, .int (nI b)), (6, .int (ov σ b))]) dX7_off_130 (Nat.le_of_ble_eq_true rfl) rfl ?_
              refine rn_iinc (pc := 131) (b := 1) (ls' := [(0, .ref 40), (1, .int (w)), (2, .int (og σ b)), (3, .int (nI b)), (4, .int (nI ((os σ b) ||| (0)))), (5, .int (nI (b + 1))), (6, .int (ov σ b))]) dX7_off_131 rfl (by decide) (Nat.le_of_ble_eq_true rfl) rfl ?_
              refine r_goto (pc := 134) (tgt := 23) dX7_off_134 (by decide) ?_
              exact absurd c121 c108
            · refine r_iload (pc := 124) dX7_off_124 rfl ?_
              refine r_goto (pc := 126) (tgt := 130) dX7_off_126 (by decide) ?_
              refine r_istore_n (pc := 130) (ls' := [(0, .ref 40), (1, .int (w)), (2, .int (ov σ b)), (3, .int (nI b)), (4, .int (nI ((os σ b) ||| (0)))), (5, .int (nI b)), (6, .int (ov σ b))]) dX7_off_130 (Nat.le_of_ble_eq_true rfl) rfl ?_
              refine rn_iinc (pc := 131) (b := 1) (ls' := [(0, .ref 40), (1, .int (w)), (2, .int (ov σ b)), (3, .int (nI b)), (4, .int (nI ((os σ b) ||| (0)))), (5, .int (nI (b + 1))), (6, .int (ov σ b))]) dX7_off_131 rfl (by decide) (Nat.le_of_ble_eq_true rfl) rfl ?_
              refine r_goto (pc := 134) (tgt := 23) dX7_off_134 (by decide) ?_
              have e2 : og σ (b + 1) = ov σ b := by rw [og]; exact if_neg c108
              have e3 : ow σ (b + 1) = (nI (b)) := by rw [ow]; exact if_neg c108
              have e4 : os σ (b + 1) = (os σ b) ||| (0) := by rw [os, if_pos c91]
              rw [← e2, ← e3, ← e4]
              refine r_pick [0, 1, 2, 3, 4, 5] rfl ?_
              exact ih (k - 1) (by omega) (b + 1) (by omega) hw
        · refine r_iconst (pc := 94) (v := (nI (1))) dX7_off_94 (by decide) ?_
          refine r_iload (pc := 95) dX7_off_95 rfl ?_
          refine r_ishl (pc := 97) dX7_off_97 ?_
          refine r_eqi (shl1 (by omega)) ?_
          refine r_goto (pc := 98) (tgt := 102) dX7_off_98 (by decide) ?_
          refine r_ior (pc := 102) dX7_off_102 ?_
          refine r_eqi (nI_or _ _) ?_
          refine r_istore (pc := 103) (ls' := [(0, .ref 40), (1, .int (w)), (2, .int (og σ b)), (3, .int (ow σ b)), (4, .int (nI ((os σ b) ||| (2 ^ b)))), (5, .int (nI b)), (6, .int (ov σ b))]) dX7_off_103 (Nat.le_of_ble_eq_true rfl) rfl ?_
          refine r_iload (pc := 105) dX7_off_105 rfl ?_
          refine r_iload_n (pc := 107) dX7_off_107 rfl ?_
          refine r_icmp_le (pc := 108) (tgt := 116) dX7_off_108 (by decide) (fun c108 => ?_) (fun c108 => ?_)
          · refine r_iload_n (pc := 116) dX7_off_116 rfl ?_
            refine r_istore_n (pc := 117) (ls' := [(0, .ref 40), (1, .int (w)), (2, .int (og σ b)), (3, .int (ow σ b)), (4, .int (nI ((os σ b) ||| (2 ^ b)))), (5, .int (nI b)), (6, .int (ov σ b))]) dX7_off_117 (Nat.le_of_ble_eq_true rfl) rfl ?_
            refine r_iload (pc := 118) dX7_off_118 rfl ?_
            refine r_iload_n (pc := 120) dX7_off_120 rfl ?_
            refine r_icmp_le (pc := 121) (tgt := 129) dX7_off_121 (by decide) (fun c121 => ?_) (fun c121 => ?_)
            · refine r_iload_n (pc := 129) dX7_off_129 rfl ?_
              refine r_istore_n (pc := 130) (ls' := [(0, .ref 40), (1, .int (w)), (2, .int (og σ b)), (3, .int (ow σ b)), (4, .int (nI ((os σ b) ||| (2 ^ b)))), (5, .int (nI b)), (6, .int (ov σ b))]) dX7_off_130 (Nat.le_of_ble_eq_true rfl) rfl ?_
              refine rn_iinc (pc := 131) (b := 1) (ls' := [(0, .ref 40), (1, .int (w)), (2, .int (og σ b)), (3, .int (ow σ b)), (4, .int (nI ((os σ b) ||| (2 ^ b)))), (5, .int (nI (b + 1))), (6, .int (ov σ b))]) dX7_off_131 rfl (by decide) (Nat.le_of_ble_eq_true rfl) rfl ?_
              refine r_goto (pc := 134) (tgt := 23) dX7_off_134 (by decide) ?_
              have e2 : og σ (b + 1) = og σ b := by rw [og]; exact if_pos c108
              have e3 : ow σ (b + 1) = ow σ b := by rw [ow]; exact if_pos c108
              have e4 : os σ (b + 1) = (os σ b) ||| (2 ^ b) := by rw [os, if_neg c91]
              rw [← e2, ← e3, ← e4]
              refine r_pick [0, 1, 2, 3, 4, 5] rfl ?_
              exact ih (k - 1) (by omega) (b + 1) (by omega) hw
            · refine r_iload (pc := 124) dX7_off_124 rfl ?_
              refine r_goto (pc := 126) (tgt := 130) dX7_off_126 (by decide) ?_
              refine r_istore_n (pc := 130) (ls' := [(0, .ref 40), (1, .int (w)), (2, .int (ov σ b)), (3, .int (ow σ b)), (4, .int (nI ((os σ b) ||| (2 ^ b)))), (5, .int (nI b)), (6, .int (ov σ b))]) dX7_off_130 (Nat.le_of_ble_eq_true rfl) rfl ?_
              refine rn_iinc (pc := 131) (b := 1) (ls' := [(0, .ref 40), (1, .int (w)), (2, .int (ov σ b)), (3, .int (ow σ b)), (4, .int (nI ((os σ b) ||| (2 ^ b)))), (5, .int (nI (b + 1))), (6, .int (ov σ b))]) dX7_off_131 rfl (by decide) (Nat.le_of_ble_eq_true rfl) rfl ?_
              refine r_goto (pc := 134) (tgt := 23) dX7_off_134 (by decide) ?_
              exact absurd c108 c121
          · refine r_iload (pc := 111) dX7_off_111 rfl ?_
            refine r_goto (pc := 113) (tgt := 117) dX7_off_113 (by decide) ?_
            refine r_istore_n (pc := 117) (ls' := [(0, .ref 40), (1, .int (w)), (2, .int (og σ b)), (3, .int (nI b)), (4, .int (nI ((os σ b) ||| (2 ^ b)))), (5, .int (nI b)), (6, .int (ov σ b))]) dX7_off_117 (Nat.le_of_ble_eq_true rfl) rfl ?_
            refine r_iload (pc := 118) dX7_off_118 rfl ?_
            refine r_iload_n (pc := 120) dX7_off_120 rfl ?_
            refine r_icmp_le (pc := 121) (tgt := 129) dX7_off_121 (by decide) (fun c121 => ?_) (fun c121 => ?_)
            · refine r_iload_n (pc := 129) dX7_off_129 rfl ?_
              refine r_istore_n (pc := 130) (ls' := [(0, .ref 40), (1, .int (w)), (2, .int (og σ b)), (3, .int (nI b)), (4, .int (nI ((os σ b) ||| (2 ^ b)))), (5, .int (nI b)), (6, .int (ov σ b))]) dX7_off_130 (Nat.le_of_ble_eq_true rfl) rfl ?_
              refine rn_iinc (pc := 131) (b := 1) (ls' := [(0, .ref 40), (1, .int (w)), (2, .int (og σ b)), (3, .int (nI b)), (4, .int (nI ((os σ b) ||| (2 ^ b)))), (5, .int (nI (b + 1))), (6, .int (ov σ b))]) dX7_off_131 rfl (by decide) (Nat.le_of_ble_eq_true rfl) rfl ?_
              refine r_goto (pc := 134) (tgt := 23) dX7_off_134 (by decide) ?_
              exact absurd c121 c108
            · refine r_iload (pc := 124) dX7_off_124 rfl ?_
              refine r_goto (pc := 126) (tgt := 130) dX7_off_126 (by decide) ?_
              refine r_istore_n (pc := 130) (ls' := [(0, .ref 40), (1, .int (w)), (2, .int (ov σ b)), (3, .int (nI b)), (4, .int (nI ((os σ b) ||| (2 ^ b)))), (5, .int (nI b)), (6, .int (ov σ b))]) dX7_off_130 (Nat.le_of_ble_eq_true rfl) rfl ?_
              refine rn_iinc (pc := 131) (b := 1) (ls' := [(0, .ref 40), (1, .int (w)), (2, .int (ov σ b)), (3, .int (nI b)), (4, .int (nI ((os σ b) ||| (2 ^ b)))), (5, .int (nI (b + 1))), (6, .int (ov σ b))]) dX7_off_131 rfl (by decide) (Nat.le_of_ble_eq_true rfl) rfl ?_
              refine r_goto (pc := 134) (tgt := 23) dX7_off_134 (by decide) ?_
              have e2 : og σ (b + 1) = ov σ b := by rw [og]; exact if_neg c108
              have e3 : ow σ (b + 1) = (nI (b)) := by rw [ow]; exact if_neg c108
              have e4 : os σ (b + 1) = (os σ b) ||| (2 ^ b) := by rw [os, if_neg c91]
              rw [← e2, ← e3, ← e4]
              refine r_pick [0, 1, 2, 3, 4, 5] rfl ?_
              exact ih (k - 1) (by omega) (b + 1) (by omega) hw

set_option maxRecDepth 20000 in
set_option maxHeartbeats 4000000 in
theorem m_off {μ : Mem} {σ : Sg} {w : Int32} {Q : Option Value → Mem → Prop} (hM : Ms μ σ) (hO : Ok σ) (h : ∀ μ', Ms μ' σ → keepX μ μ' → Q (some (.int (sp_off σ w))) μ') : Sp iX7_off 2 [.ref 40, .int (w)] μ Q := by
  refine Sp.of vX7_off.1 (Nat.le_of_ble_eq_true rfl) ?_
  show WP cX7_off (RX7, 7, (some .int), 2, none) 0 [(0, .ref 40), (1, .int (w))] [] μ Q
  have hn := Ok_n hO
  refine r_iload_n (pc := 0) dX7_off_0 rfl ?_
  refine r_iconst (pc := 1) (v := (nI (0))) dX7_off_1 (by decide) ?_
  refine r_iconst (pc := 2) (v := (nI (3))) dX7_off_2 (by decide) ?_
  refine r_callS (pc := 3) (d' := 0) (As := [.int (w), .int (nI 0), .int (nI 3)]) (rest := []) dX7_off_3 sX7_in mX7_77 rfl rfl (Nat.le_of_ble_eq_true rfl) (Nat.le_of_ble_eq_true rfl) ?_
  refine c_in ?_
  refine rb_if_ne (pc := 6) (tgt := 12) dX7_off_6 (by decide) (fun c6 => ?_) (fun c6 => ?_)
  · refine r_iconst (pc := 12) (v := (nI (0))) dX7_off_12 (by decide) ?_
    refine r_istore_n (pc := 13) (ls' := [(0, .ref 40), (1, .int (w)), (2, .int (nI 0))]) dX7_off_13 (Nat.le_of_ble_eq_true rfl) rfl ?_
    refine r_bipush (pc := 14) (v := (-6)) dX7_off_14 (by decide) ?_
    refine r_istore_n (pc := 16) (ls' := [(0, .ref 40), (1, .int (w)), (2, .int (nI 0)), (3, .int ((-6)))]) dX7_off_16 (Nat.le_of_ble_eq_true rfl) rfl ?_
    refine r_iconst (pc := 17) (v := (nI (0))) dX7_off_17 (by decide) ?_
    refine r_istore (pc := 18) (ls' := [(0, .ref 40), (1, .int (w)), (2, .int (nI 0)), (3, .int ((-6))), (4, .int (nI 0))]) dX7_off_18 (Nat.le_of_ble_eq_true rfl) rfl ?_
    refine r_iconst (pc := 20) (v := (nI (0))) dX7_off_20 (by decide) ?_
    refine r_istore (pc := 21) (ls' := [(0, .ref 40), (1, .int (w)), (2, .int (nI 0)), (3, .int ((-6))), (4, .int (nI 0)), (5, .int (nI 0))]) dX7_off_21 (Nat.le_of_ble_eq_true rfl) rfl ?_
    exact m_off_l hM hO h (σ 0 0) 0 (by omega) c6
  · refine r_bipush (pc := 9) (v := (-2)) dX7_off_9 (by decide) ?_
    refine r_ireturn (pc := 11) dX7_off_11 rfl (Or.inl rfl) rfl ?_
    have e9 : sp_off σ w = -2 := by simp [sp_off, c6]
    rw [e9] at h
    exact h _ hM keepX.rf

set_option maxRecDepth 20000 in
set_option maxHeartbeats 4000000 in
theorem x_off_l {μ : Mem} {σ : Sg} {w : Int32} {Q : Option Value → Mem → Prop} (hI : XI μ σ) (hO : Ok σ) (h : ∀ μ', XI μ' σ → keepM μ μ' → Q (some (.int (sp_off σ w))) μ') : ∀ (k : Nat) (b : Nat), b + k = σ 0 0 → inR w (nI 0) (nI 3) = true → WP cX6_off (RX6, 7, (some .int), 3, none) 23 [(0, .ref 0), (1, .int (w)), (2, .int (og σ b)), (3, .int (ow σ b)), (4, .int (nI (os σ b))), (5, .int (nI b))] [] μ Q := by
  intro k
  induction k using Nat.strongRecOn with
  | _ k ih =>
    intro b hb hw
    have hn := Ok_n hO
    have hX := hI.1
    have hC := hI.2
    have hos := os_lt σ (σ 0 0)
    have hp : 2 ^ σ 0 0 ≤ 2 ^ 12 := Nat.pow_le_pow_right (by decide) (by omega)
    refine r_iload (pc := 23) dX6_off_23 rfl ?_
    refine r_aload_n (pc := 25) dX6_off_25 rfl ?_
    refine r_getR (pc := 26) (r := 1) dX6_off_26 fX6_12 rfl rfl ?_
    refine r_getI (pc := 29) (x := (nI (σ 0 0))) dX6_off_29 fX6_63 rfl rfl (Xs_n (μ := μ) hX) ?_
    refine rn_icmp_ge (pc := 32) (tgt := 91) dX6_off_32 (by decide) (by omega) (by omega) (fun c32 => ?_) (fun c32 => ?_)
    · obtain rfl : b = σ 0 0 := by omega
      refine r_iload_n (pc := 91) dX6_off_91 rfl ?_
      by_cases c92 : (w).toInt < 0 ∨ 2 < (w).toInt
      · refine r_tableOut (pc := 92) (tgt := 135) dX6_off_92 c92 (by decide) ?_
        refine r_iload (pc := 135) dX6_off_135 rfl ?_
        refine r_ireturn (pc := 137) dX6_off_137 rfl (Or.inl rfl) rfl ?_
        have e9 : sp_off σ w = nI (os σ (σ 0 0)) := by rw [sp_off, if_neg (by rw [hw]; decide), if_neg (sw_out c92 (by decide) (by decide) : ¬ w = nI 0), if_neg (sw_out c92 (by decide) (by decide) : ¬ w = nI 1), if_neg (sw_out c92 (by decide) (by decide) : ¬ w = nI 2)]
        rw [e9] at h
        exact h _ hI keepM.rf
      · obtain ⟨j1, hj2, e3⟩ := sw_cases (by decide) c92
        rcases (show j1 = 0 ∨ j1 = 1 ∨ j1 = 2 by omega) with rfl | rfl | rfl
        · rw [e3]
          refine r_tableIn (pc := 92) (tgt := 120) (off := 28) dX6_off_92 (by decide) (by decide) (by decide) (by decide) ?_
          refine r_iload_n (pc := 120) dX6_off_120 rfl ?_
          refine r_ireturn (pc := 121) dX6_off_121 rfl (Or.inl rfl) rfl ?_
          have e9 : sp_off σ w = og σ (σ 0 0) := by rw [e3]; simp (decide := true) [sp_off]
          rw [e9] at h
          exact h _ hI keepM.rf
        · rw [e3]
          refine r_tableIn (pc := 92) (tgt := 122) (off := 30) dX6_off_92 (by decide) (by decide) (by decide) (by decide) ?_
          refine r_iload_n (pc := 122) dX6_off_122 rfl ?_
          refine r_ireturn (pc := 123) dX6_off_123 rfl (Or.inl rfl) rfl ?_
          have e9 : sp_off σ w = ow σ (σ 0 0) := by rw [e3]; simp (decide := true) [sp_off]
          rw [e9] at h
          exact h _ hI keepM.rf
        · rw [e3]
          refine r_tableIn (pc := 92) (tgt := 124) (off := 32) dX6_off_92 (by decide) (by decide) (by decide) (by decide) ?_
          refine r_iload (pc := 124) dX6_off_124 rfl ?_
          refine rn_if_ne (pc := 126) (tgt := 133) dX6_off_126 (by decide) (by omega) (fun c126 => ?_) (fun c126 => ?_)
          · refine r_iconst (pc := 133) (v := (nI (0))) dX6_off_133 (by decide) ?_
            refine r_ireturn (pc := 134) dX6_off_134 rfl (Or.inl rfl) rfl ?_
            have e9 : sp_off σ w = (nI (0)) := by rw [e3]; simp (decide := true) [sp_off, c126]
            rw [e9] at h
            exact h _ hI keepM.rf
          · refine r_iconst (pc := 129) (v := (nI (1))) dX6_off_129 (by decide) ?_
            refine r_goto (pc := 130) (tgt := 134) dX6_off_130 (by decide) ?_
            refine r_ireturn (pc := 134) dX6_off_134 rfl (Or.inl rfl) rfl ?_
            have e9 : sp_off σ w = (nI (1)) := by rw [e3]; simp (decide := true) [sp_off, c126]
            rw [e9] at h
            exact h _ hI keepM.rf
    · refine r_aload_n (pc := 35) dX6_off_35 rfl ?_
      refine r_getR (pc := 36) (r := 1) dX6_off_36 fX6_12 rfl rfl ?_
      refine r_iload (pc := 39) dX6_off_39 rfl ?_
      refine r_callV (pc := 41) (d' := 1) (k := 1) (As := [.int (nI b)]) (rest := []) dX6_off_41 vX0_isOpen mX6_98 rfl rfl rfl (Nat.le_of_ble_eq_true rfl) (Nat.le_of_ble_eq_true rfl) ?_
      refine c_xopen (μ := μ) hX hO (by omega) ?_
      refine rb_if_eq (pc := 44) (tgt := 56) dX6_off_44 (by decide) (fun c44 => ?_) (fun c44 => ?_)
      · refine r_iconst (pc := 56) (v := (nI (0))) dX6_off_56 (by decide) ?_
        refine r_eqi (y := ov σ b) (by rw [ov, if_neg (by rw [c44]; decide)]) ?_
        refine r_istore (pc := 57) (ls' := [(0, .ref 0), (1, .int (w)), (2, .int (og σ b)), (3, .int (ow σ b)), (4, .int (nI (os σ b))), (5, .int (nI b)), (6, .int (ov σ b))]) dX6_off_57 (Nat.le_of_ble_eq_true rfl) rfl ?_
        refine r_iload (pc := 59) dX6_off_59 rfl ?_
        refine r_if_le (pc := 61) (tgt := 73) dX6_off_61 (by decide) (fun c61 => ?_) (fun c61 => ?_)
        · refine r_iload (pc := 73) dX6_off_73 rfl ?_
          refine r_iload_n (pc := 75) dX6_off_75 rfl ?_
          refine r_icmp_le (pc := 76) (tgt := 85) dX6_off_76 (by decide) (fun c76 => ?_) (fun c76 => ?_)
          · refine rn_iinc (pc := 85) (b := 1) (ls' := [(0, .ref 0), (1, .int (w)), (2, .int (og σ b)), (3, .int (ow σ b)), (4, .int (nI (os σ b))), (5, .int (nI (b + 1))), (6, .int (ov σ b))]) dX6_off_85 rfl (by decide) (Nat.le_of_ble_eq_true rfl) rfl ?_
            refine r_goto (pc := 88) (tgt := 23) dX6_off_88 (by decide) ?_
            have e2 : og σ (b + 1) = og σ b := by rw [og]; exact if_pos c76
            have e3 : ow σ (b + 1) = ow σ b := by rw [ow]; exact if_pos c76
            have e4 : os σ (b + 1) = os σ b := by rw [os, if_pos c61]; simp
            rw [← e2, ← e3, ← e4]
            refine r_pick [0, 1, 2, 3, 4, 5] rfl ?_
            exact ih (k - 1) (by omega) (b + 1) (by omega) hw
          · refine r_iload (pc := 79) dX6_off_79 rfl ?_
            refine r_istore_n (pc := 81) (ls' := [(0, .ref 0), (1, .int (w)), (2, .int (ov σ b)), (3, .int (ow σ b)), (4, .int (nI (os σ b))), (5, .int (nI b)), (6, .int (ov σ b))]) dX6_off_81 (Nat.le_of_ble_eq_true rfl) rfl ?_
            refine r_iload (pc := 82) dX6_off_82 rfl ?_
            refine r_istore_n (pc := 84) (ls' := [(0, .ref 0), (1, .int (w)), (2, .int (ov σ b)), (3, .int (nI b)), (4, .int (nI (os σ b))), (5, .int (nI b)), (6, .int (ov σ b))]) dX6_off_84 (Nat.le_of_ble_eq_true rfl) rfl ?_
            refine rn_iinc (pc := 85) (b := 1) (ls' := [(0, .ref 0), (1, .int (w)), (2, .int (ov σ b)), (3, .int (nI b)), (4, .int (nI (os σ b))), (5, .int (nI (b + 1))), (6, .int (ov σ b))]) dX6_off_85 rfl (by decide) (Nat.le_of_ble_eq_true rfl) rfl ?_
            refine r_goto (pc := 88) (tgt := 23) dX6_off_88 (by decide) ?_
            have e2 : og σ (b + 1) = ov σ b := by rw [og]; exact if_neg c76
            have e3 : ow σ (b + 1) = (nI (b)) := by rw [ow]; exact if_neg c76
            have e4 : os σ (b + 1) = os σ b := by rw [os, if_pos c61]; simp
            rw [← e2, ← e3, ← e4]
            refine r_pick [0, 1, 2, 3, 4, 5] rfl ?_
            exact ih (k - 1) (by omega) (b + 1) (by omega) hw
        · refine r_iload (pc := 64) dX6_off_64 rfl ?_
          refine r_iconst (pc := 66) (v := (nI (1))) dX6_off_66 (by decide) ?_
          refine r_iload (pc := 67) dX6_off_67 rfl ?_
          refine r_ishl (pc := 69) dX6_off_69 ?_
          refine r_eqi (shl1 (by omega)) ?_
          refine r_ior (pc := 70) dX6_off_70 ?_
          refine r_eqi (nI_or _ _) ?_
          refine r_istore (pc := 71) (ls' := [(0, .ref 0), (1, .int (w)), (2, .int (og σ b)), (3, .int (ow σ b)), (4, .int (nI ((os σ b) ||| (2 ^ b)))), (5, .int (nI b)), (6, .int (ov σ b))]) dX6_off_71 (Nat.le_of_ble_eq_true rfl) rfl ?_
          refine r_iload (pc := 73) dX6_off_73 rfl ?_
          refine r_iload_n (pc := 75) dX6_off_75 rfl ?_
          refine r_icmp_le (pc := 76) (tgt := 85) dX6_off_76 (by decide) (fun c76 => ?_) (fun c76 => ?_)
          · refine rn_iinc (pc := 85) (b := 1) (ls' := [(0, .ref 0), (1, .int (w)), (2, .int (og σ b)), (3, .int (ow σ b)), (4, .int (nI ((os σ b) ||| (2 ^ b)))), (5, .int (nI (b + 1))), (6, .int (ov σ b))]) dX6_off_85 rfl (by decide) (Nat.le_of_ble_eq_true rfl) rfl ?_
            refine r_goto (pc := 88) (tgt := 23) dX6_off_88 (by decide) ?_
            have e2 : og σ (b + 1) = og σ b := by rw [og]; exact if_pos c76
            have e3 : ow σ (b + 1) = ow σ b := by rw [ow]; exact if_pos c76
            have e4 : os σ (b + 1) = (os σ b) ||| (2 ^ b) := by rw [os, if_neg c61]
            rw [← e2, ← e3, ← e4]
            refine r_pick [0, 1, 2, 3, 4, 5] rfl ?_
            exact ih (k - 1) (by omega) (b + 1) (by omega) hw
          · refine r_iload (pc := 79) dX6_off_79 rfl ?_
            refine r_istore_n (pc := 81) (ls' := [(0, .ref 0), (1, .int (w)), (2, .int (ov σ b)), (3, .int (ow σ b)), (4, .int (nI ((os σ b) ||| (2 ^ b)))), (5, .int (nI b)), (6, .int (ov σ b))]) dX6_off_81 (Nat.le_of_ble_eq_true rfl) rfl ?_
            refine r_iload (pc := 82) dX6_off_82 rfl ?_
            refine r_istore_n (pc := 84) (ls' := [(0, .ref 0), (1, .int (w)), (2, .int (ov σ b)), (3, .int (nI b)), (4, .int (nI ((os σ b) ||| (2 ^ b)))), (5, .int (nI b)), (6, .int (ov σ b))]) dX6_off_84 (Nat.le_of_ble_eq_true rfl) rfl ?_
            refine rn_iinc (pc := 85) (b := 1) (ls' := [(0, .ref 0), (1, .int (w)), (2, .int (ov σ b)), (3, .int (nI b)), (4, .int (nI ((os σ b) ||| (2 ^ b)))), (5, .int (nI (b + 1))), (6, .int (ov σ b))]) dX6_off_85 rfl (by decide) (Nat.le_of_ble_eq_true rfl) rfl ?_
            refine r_goto (pc := 88) (tgt := 23) dX6_off_88 (by decide) ?_
            have e2 : og σ (b + 1) = ov σ b := by rw [og]; exact if_neg c76
            have e3 : ow σ (b + 1) = (nI (b)) := by rw [ow]; exact if_neg c76
            have e4 : os σ (b + 1) = (os σ b) ||| (2 ^ b) := by rw [os, if_neg c61]
            rw [← e2, ← e3, ← e4]
            refine r_pick [0, 1, 2, 3, 4, 5] rfl ?_
            exact ih (k - 1) (by omega) (b + 1) (by omega) hw
      · refine r_aload_n (pc := 47) dX6_off_47 rfl ?_
        refine r_iload (pc := 48) dX6_off_48 rfl ?_
        refine r_callV (pc := 50) (d' := 2) (k := 0) (As := [.int (nI b)]) (rest := []) dX6_off_50 vX6_excess mX6_218 rfl rfl rfl (Nat.le_of_ble_eq_true rfl) (Nat.le_of_ble_eq_true rfl) ?_
        refine x_excess hX hO (by omega) ?_
        refine r_goto (pc := 53) (tgt := 57) dX6_off_53 (by decide) ?_
        refine r_eqi (y := ov σ b) (by rw [ov, if_pos c44]) ?_
        refine r_istore (pc := 57) (ls' := [(0, .ref 0), (1, .int (w)), (2, .int (og σ b)), (3, .int (ow σ b)), (4, .int (nI (os σ b))), (5, .int (nI b)), (6, .int (ov σ b))]) dX6_off_57 (Nat.le_of_ble_eq_true rfl) rfl ?_
        refine r_iload (pc := 59) dX6_off_59 rfl ?_
        refine r_if_le (pc := 61) (tgt := 73) dX6_off_61 (by decide) (fun c61 => ?_) (fun c61 => ?_)
        · refine r_iload (pc := 73) dX6_off_73 rfl ?_
          refine r_iload_n (pc := 75) dX6_off_75 rfl ?_
          refine r_icmp_le (pc := 76) (tgt := 85) dX6_off_76 (by decide) (fun c76 => ?_) (fun c76 => ?_)
          · refine rn_iinc (pc := 85) (b := 1) (ls' := [(0, .ref 0), (1, .int (w)), (2, .int (og σ b)), (3, .int (ow σ b)), (4, .int (nI (os σ b))), (5, .int (nI (b + 1))), (6, .int (ov σ b))]) dX6_off_85 rfl (by decide) (Nat.le_of_ble_eq_true rfl) rfl ?_
            refine r_goto (pc := 88) (tgt := 23) dX6_off_88 (by decide) ?_
            have e2 : og σ (b + 1) = og σ b := by rw [og]; exact if_pos c76
            have e3 : ow σ (b + 1) = ow σ b := by rw [ow]; exact if_pos c76
            have e4 : os σ (b + 1) = os σ b := by rw [os, if_pos c61]; simp
            rw [← e2, ← e3, ← e4]
            refine r_pick [0, 1, 2, 3, 4, 5] rfl ?_
            exact ih (k - 1) (by omega) (b + 1) (by omega) hw
          · refine r_iload (pc := 79) dX6_off_79 rfl ?_
            refine r_istore_n (pc := 81) (ls' := [(0, .ref 0), (1, .int (w)), (2, .int (ov σ b)), (3, .int (ow σ b)), (4, .int (nI (os σ b))), (5, .int (nI b)), (6, .int (ov σ b))]) dX6_off_81 (Nat.le_of_ble_eq_true rfl) rfl ?_
            refine r_iload (pc := 82) dX6_off_82 rfl ?_
            refine r_istore_n (pc := 84) (ls' := [(0, .ref 0), (1, .int (w)), (2, .int (ov σ b)), (3, .int (nI b)), (4, .int (nI (os σ b))), (5, .int (nI b)), (6, .int (ov σ b))]) dX6_off_84 (Nat.le_of_ble_eq_true rfl) rfl ?_
            refine rn_iinc (pc := 85) (b := 1) (ls' := [(0, .ref 0), (1, .int (w)), (2, .int (ov σ b)), (3, .int (nI b)), (4, .int (nI (os σ b))), (5, .int (nI (b + 1))), (6, .int (ov σ b))]) dX6_off_85 rfl (by decide) (Nat.le_of_ble_eq_true rfl) rfl ?_
            refine r_goto (pc := 88) (tgt := 23) dX6_off_88 (by decide) ?_
            have e2 : og σ (b + 1) = ov σ b := by rw [og]; exact if_neg c76
            have e3 : ow σ (b + 1) = (nI (b)) := by rw [ow]; exact if_neg c76
            have e4 : os σ (b + 1) = os σ b := by rw [os, if_pos c61]; simp
            rw [← e2, ← e3, ← e4]
            refine r_pick [0, 1, 2, 3, 4, 5] rfl ?_
            exact ih (k - 1) (by omega) (b + 1) (by omega) hw
        · refine r_iload (pc := 64) dX6_off_64 rfl ?_
          refine r_iconst (pc := 66) (v := (nI (1))) dX6_off_66 (by decide) ?_
          refine r_iload (pc := 67) dX6_off_67 rfl ?_
          refine r_ishl (pc := 69) dX6_off_69 ?_
          refine r_eqi (shl1 (by omega)) ?_
          refine r_ior (pc := 70) dX6_off_70 ?_
          refine r_eqi (nI_or _ _) ?_
          refine r_istore (pc := 71) (ls' := [(0, .ref 0), (1, .int (w)), (2, .int (og σ b)), (3, .int (ow σ b)), (4, .int (nI ((os σ b) ||| (2 ^ b)))), (5, .int (nI b)), (6, .int (ov σ b))]) dX6_off_71 (Nat.le_of_ble_eq_true rfl) rfl ?_
          refine r_iload (pc := 73) dX6_off_73 rfl ?_
          refine r_iload_n (pc := 75) dX6_off_75 rfl ?_
          refine r_icmp_le (pc := 76) (tgt := 85) dX6_off_76 (by decide) (fun c76 => ?_) (fun c76 => ?_)
          · refine rn_iinc (pc := 85) (b := 1) (ls' := [(0, .ref 0), (1, .int (w)), (2, .int (og σ b)), (3, .int (ow σ b)), (4, .int (nI ((os σ b) ||| (2 ^ b)))), (5, .int (nI (b + 1))), (6, .int (ov σ b))]) dX6_off_85 rfl (by decide) (Nat.le_of_ble_eq_true rfl) rfl ?_
            refine r_goto (pc := 88) (tgt := 23) dX6_off_88 (by decide) ?_
            have e2 : og σ (b + 1) = og σ b := by rw [og]; exact if_pos c76
            have e3 : ow σ (b + 1) = ow σ b := by rw [ow]; exact if_pos c76
            have e4 : os σ (b + 1) = (os σ b) ||| (2 ^ b) := by rw [os, if_neg c61]
            rw [← e2, ← e3, ← e4]
            refine r_pick [0, 1, 2, 3, 4, 5] rfl ?_
            exact ih (k - 1) (by omega) (b + 1) (by omega) hw
          · refine r_iload (pc := 79) dX6_off_79 rfl ?_
            refine r_istore_n (pc := 81) (ls' := [(0, .ref 0), (1, .int (w)), (2, .int (ov σ b)), (3, .int (ow σ b)), (4, .int (nI ((os σ b) ||| (2 ^ b)))), (5, .int (nI b)), (6, .int (ov σ b))]) dX6_off_81 (Nat.le_of_ble_eq_true rfl) rfl ?_
            refine r_iload (pc := 82) dX6_off_82 rfl ?_
            refine r_istore_n (pc := 84) (ls' := [(0, .ref 0), (1, .int (w)), (2, .int (ov σ b)), (3, .int (nI b)), (4, .int (nI ((os σ b) ||| (2 ^ b)))), (5, .int (nI b)), (6, .int (ov σ b))]) dX6_off_84 (Nat.le_of_ble_eq_true rfl) rfl ?_
            refine rn_iinc (pc := 85) (b := 1) (ls' := [(0, .ref 0), (1, .int (w)), (2, .int (ov σ b)), (3, .int (nI b)), (4, .int (nI ((os σ b) ||| (2 ^ b)))), (5, .int (nI (b + 1))), (6, .int (ov σ b))]) dX6_off_85 rfl (by decide) (Nat.le_of_ble_eq_true rfl) rfl ?_
            refine r_goto (pc := 88) (tgt := 23) dX6_off_88 (by decide) ?_
            have e2 : og σ (b + 1) = ov σ b := by rw [og]; exact if_neg c76
            have e3 : ow σ (b + 1) = (nI (b)) := by rw [ow]; exact if_neg c76
            have e4 : os σ (b + 1) = (os σ b) ||| (2 ^ b) := by rw [os, if_neg c61]
            rw [← e2, ← e3, ← e4]
            refine r_pick [0, 1, 2, 3, 4, 5] rfl ?_
            exact ih (k - 1) (by omega) (b + 1) (by omega) hw

set_option maxRecDepth 20000 in
set_option maxHeartbeats 4000000 in
theorem x_off {μ : Mem} {σ : Sg} {w : Int32} {Q : Option Value → Mem → Prop} (hI : XI μ σ) (hO : Ok σ) (h : ∀ μ', XI μ' σ → keepM μ μ' → Q (some (.int (sp_off σ w))) μ') : Sp iX6_off 3 [.ref 0, .int (w)] μ Q := by
  refine Sp.of vX6_off.1 (Nat.le_of_ble_eq_true rfl) ?_
  show WP cX6_off (RX6, 7, (some .int), 3, none) 0 [(0, .ref 0), (1, .int (w))] [] μ Q
  have hn := Ok_n hO
  have hX := hI.1
  have hC := hI.2
  refine r_iload_n (pc := 0) dX6_off_0 rfl ?_
  refine r_iconst (pc := 1) (v := (nI (0))) dX6_off_1 (by decide) ?_
  refine r_iconst (pc := 2) (v := (nI (3))) dX6_off_2 (by decide) ?_
  refine r_callS (pc := 3) (d' := 0) (As := [.int (w), .int (nI 0), .int (nI 3)]) (rest := []) dX6_off_3 sX6_isWithin mX6_59 rfl rfl (Nat.le_of_ble_eq_true rfl) (Nat.le_of_ble_eq_true rfl) ?_
  refine c_within ?_
  refine rb_if_ne (pc := 6) (tgt := 12) dX6_off_6 (by decide) (fun c6 => ?_) (fun c6 => ?_)
  · refine r_iconst (pc := 12) (v := (nI (0))) dX6_off_12 (by decide) ?_
    refine r_istore_n (pc := 13) (ls' := [(0, .ref 0), (1, .int (w)), (2, .int (nI 0))]) dX6_off_13 (Nat.le_of_ble_eq_true rfl) rfl ?_
    refine r_bipush (pc := 14) (v := (-6)) dX6_off_14 (by decide) ?_
    refine r_istore_n (pc := 16) (ls' := [(0, .ref 0), (1, .int (w)), (2, .int (nI 0)), (3, .int ((-6)))]) dX6_off_16 (Nat.le_of_ble_eq_true rfl) rfl ?_
    refine r_iconst (pc := 17) (v := (nI (0))) dX6_off_17 (by decide) ?_
    refine r_istore (pc := 18) (ls' := [(0, .ref 0), (1, .int (w)), (2, .int (nI 0)), (3, .int ((-6))), (4, .int (nI 0))]) dX6_off_18 (Nat.le_of_ble_eq_true rfl) rfl ?_
    refine r_iconst (pc := 20) (v := (nI (0))) dX6_off_20 (by decide) ?_
    refine r_istore (pc := 21) (ls' := [(0, .ref 0), (1, .int (w)), (2, .int (nI 0)), (3, .int ((-6))), (4, .int (nI 0)), (5, .int (nI 0))]) dX6_off_21 (Nat.le_of_ble_eq_true rfl) rfl ?_
    exact x_off_l hI hO h (σ 0 0) 0 (by omega) c6
  · refine r_bipush (pc := 9) (v := (-2)) dX6_off_9 (by decide) ?_
    refine r_ireturn (pc := 11) dX6_off_11 rfl (Or.inl rfl) rfl ?_
    have e9 : sp_off σ w = -2 := by simp [sp_off, c6]
    rw [e9] at h
    exact h _ hI keepM.rf
