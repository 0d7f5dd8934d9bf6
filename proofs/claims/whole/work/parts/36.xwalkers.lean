/-! THE CLASS: cut, walkers -/
set_option maxRecDepth 20000 in
set_option maxHeartbeats 4000000 in
theorem x_cut {μ : Mem} {σ : Sg} {Q : Option Value → Mem → Prop} (hI : XI μ σ) (hO : Ok σ) (h : ∀ μ', XI μ' σ → keepM μ μ' → Q (some (.int (sp_cut σ))) μ') : Sp iX6_cut 14 [.ref 0] μ Q := by
  refine Sp.of vX6_cut.1 (Nat.le_of_ble_eq_true rfl) ?_
  show WP cX6_cut (RX6, 1, (some .int), 14, none) 0 [(0, .ref 0)] [] μ Q
  have hn := Ok_n hO
  refine r_aload_n (pc := 0) dX6_cut_0 rfl ?_
  refine r_callV (pc := 1) (d' := 13) (k := 0) (As := []) (rest := []) dX6_cut_1 vX6_lookAround mX6_130 rfl rfl rfl (Nat.le_of_ble_eq_true rfl) (Nat.le_of_ble_eq_true rfl) ?_
  refine x_look hI hO (fun μ1 hF1 hk1 => ?_)
  have hX1 := hF1.1.1
  have hGl := Gs_len hO
  have hRl := rnds_le hO
  refine r_aload_n (pc := 4) dX6_cut_4 rfl ?_
  refine r_getR (pc := 5) (r := 12) dX6_cut_5 fX6_26 rfl rfl ?_
  refine r_aload_n (pc := 8) dX6_cut_8 rfl ?_
  refine r_getR (pc := 9) (r := 1) dX6_cut_9 fX6_12 rfl rfl ?_
  refine r_callV (pc := 12) (d' := 2) (k := 1) (As := []) (rest := [.ref 12]) dX6_cut_12 vX0_openBits mX6_184 rfl rfl rfl (Nat.le_of_ble_eq_true rfl) (Nat.le_of_ble_eq_true rfl) ?_
  refine x_obits hX1 hO ?_
  have hol : obits σ (σ 0 0) < 2 ^ 12 := Nat.lt_of_lt_of_le (obits_lt σ _) (Nat.pow_le_pow_right (by decide) hO.1)
  refine r_callV (pc := 15) (d' := 1) (k := 12) (As := [.int (nI (obits σ (σ 0 0)))]) (rest := []) dX6_cut_15 vX2_fewestThatHit mX6_187 rfl rfl rfl (Nat.le_of_ble_eq_true rfl) (Nat.le_of_ble_eq_true rfl) ?_
  refine x_few hF1 hO (by omega) ?_
  refine r_ireturn (pc := 18) dX6_cut_18 rfl (Or.inl rfl) rfl ?_
  rw [cut_eq hO] at h
  exact h _ hF1.1 hk1

theorem wear_max {g d : Nat} (hg : g < 2 ^ 30) (hd : d < 2 ^ 30) : (if nI 1 < nI g - nI d then nI g - nI d else nI 1) = nI (if g - d < 1 then 1 else g - d) := by
  by_cases h : g - d < 1
  · rw [if_pos h, if_neg]
    intro q
    rw [Int32.lt_iff_toInt_lt, nI_toInt (by decide), pk_sub_toInt hg hd] at q
    omega
  · rw [if_neg h]
    rcases Nat.lt_or_ge 1 (g - d) with q | q
    · rw [if_pos]
      · rw [nI_sub (by omega)]
      · rw [Int32.lt_iff_toInt_lt, nI_toInt (by decide), pk_sub_toInt hg hd]
        omega
    · have e : g - d = 1 := by omega
      rw [e]
      split
      · rw [nI_sub (by omega), e]
      · rfl
def frS (μ μ' : Mem) : Prop := (∀ k, ¬ k = 37 → ¬ k = 38 → μ'.1 k = μ.1 k) ∧ μ'.2 = μ.2
theorem frS.rf {μ : Mem} : frS μ μ := ⟨fun _ _ _ => rfl, rfl⟩
theorem frS.tr {μ μ' μ'' : Mem} (h : frS μ μ') (h' : frS μ' μ'') : frS μ μ'' := ⟨fun k a b => (h'.1 k a b).trans (h.1 k a b), h'.2.trans h.2⟩
theorem only.S {μ μ' : Mem} {k : Nat} (h : only k μ μ') (hk : k = 37 ∨ k = 38) : frS μ μ' := ⟨fun a h1 h2 => h.1 a (by omega), h.2⟩
theorem frS.keep {μ μ' : Mem} (h : frS μ μ') : keepM μ μ' := fun k hk => ⟨h.1 k (by omega) (by omega), by rw [h.2]⟩
theorem Xs_frS {μ μ' : Mem} {σ : Sg} (h : frS μ μ') (hX : Xs μ σ) : Xs μ' σ := by
  unfold Xs
  rw [h.1 1 (by decide) (by decide), h.1 2 (by decide) (by decide), h.1 3 (by decide) (by decide), h.1 4 (by decide) (by decide), h.1 5 (by decide) (by decide), h.1 6 (by decide) (by decide), h.1 7 (by decide) (by decide), h.1 8 (by decide) (by decide), h.1 9 (by decide) (by decide), h.1 10 (by decide) (by decide), h.1 11 (by decide) (by decide), h.1 39 (by decide) (by decide)]
  exact hX
theorem Found_frS {μ μ' : Mem} {σ : Sg} (h : frS μ μ') (hF : FoundOK μ σ) : FoundOK μ' σ := by
  unfold FoundOK
  rw [h.2, h.1 12 (by decide) (by decide), h.1 15 (by decide) (by decide), h.1 16 (by decide) (by decide)]
  exact hF
theorem kG_r {σ : Sg} {g : Nat → Nat} {f j : Nat} (h : j < (gsl σ g f).length) : kG σ g f j < (rnds σ).length ∧ (rnds σ).getD (kG σ g f j) [] = (gsl σ g f).getD j [] := by
  have hl : j < (gxl σ g f (rnds σ).length).length := by rw [gxl_len]; exact h
  have h1 : (gxl σ g f (rnds σ).length)[j]? = some (kG σ g f j) := by
    unfold kG
    rw [List.getD_eq_getElem?_getD, List.getElem?_eq_getElem hl]
    rfl
  refine ⟨gxl_lt h1, ?_⟩
  have h2 : (gsl σ g f)[j]? = some ((rnds σ).getD (kG σ g f j) []) := by
    rw [← gxl_all, List.getElem?_map, h1]
    rfl
  conv => rhs; rw [List.getD_eq_getElem?_getD, h2]
  rfl

set_option maxRecDepth 20000 in
set_option maxHeartbeats 4000000 in
theorem x_wo_l {μ : Mem} {r : List Nat} {d : Nat} {g : Nat → Nat} {Q : Option Value → Mem → Prop} (hr : ∀ x ∈ r, x < 12) (hd : d ≤ 98) (hg : ∀ b, b < 12 → g b ≤ 99) (h : ∀ μ', only 38 μ μ' → (∀ j, j < 12 → μ'.1 38 j = nI (wear d r g j)) → Q none μ') : ∀ (k : Nat) (b : Nat) (μ1 : Mem), b + k = 12 → only 38 μ μ1 → (∀ j, j < 12 → μ1.1 38 j = nI (mixG (wear d r g) g b j)) → WP cX4_wearOut (RX4, 4, none, 1, none) 2 [(0, .ref 37), (1, .int (nI (bitsP r))), (2, .int (nI d)), (3, .int (nI b))] [] μ1 Q := by
  intro k
  induction k using Nat.strongRecOn with
  | _ k ih =>
    intro b μ1 hb ho hv
    have hbl := bitsP_lt (k := 12) (p := r) hr
    refine r_iload_n (pc := 2) dX4_wearOut_2 rfl ?_
    refine r_bipush (pc := 3) (v := (nI (12))) dX4_wearOut_3 (by decide) ?_
    refine rn_icmp_ge (pc := 5) (tgt := 41) dX4_wearOut_5 (by decide) (by omega) (by omega) (fun c5 => ?_) (fun c5 => ?_)
    · refine r_return (pc := 41) dX4_wearOut_41 rfl ?_
      refine h _ ho (fun j hj => ?_)
      rw [hv j hj]
      unfold mixG
      rw [if_pos (by omega)]
    · refine r_iload_n (pc := 8) dX4_wearOut_8 rfl ?_
      refine r_iload_n (pc := 9) dX4_wearOut_9 rfl ?_
      refine r_ishr (pc := 10) dX4_wearOut_10 ?_
      refine r_eqi (shrN (by omega) (by omega)) ?_
      refine r_iconst (pc := 11) (v := (nI (1))) dX4_wearOut_11 (by decide) ?_
      refine r_iand (pc := 12) dX4_wearOut_12 ?_
      refine r_eqi (and1 (Nat.lt_of_le_of_lt (Nat.div_le_self _ _) (by omega))) ?_
      refine r_iconst (pc := 13) (v := (nI (1))) dX4_wearOut_13 (by decide) ?_
      refine rn_icmp_ne (pc := 14) (tgt := 35) dX4_wearOut_14 (by decide) (by omega) (by omega) (fun c14 => ?_) (fun c14 => ?_)
      · refine rn_iinc (pc := 35) (b := 1) (ls' := [(0, .ref 37), (1, .int (nI (bitsP r))), (2, .int (nI d)), (3, .int (nI (b + 1)))]) dX4_wearOut_35 rfl (by decide) (Nat.le_of_ble_eq_true rfl) rfl ?_
        refine r_goto (pc := 38) (tgt := 2) dX4_wearOut_38 (by decide) ?_
        refine ih (k - 1) (by omega) (b + 1) _ (by omega) ho (fun j hj => ?_)
        rw [hv j hj]
        congr 1
        unfold mixG
        by_cases e : j = b
        · subst e; rw [if_neg (by omega), if_pos (by omega)]; unfold wear; rw [if_neg (fun q => c14 (tb_iff.mpr ((bitsP_mem r j).mpr q)))]
        · by_cases q : j < b
          · rw [if_pos q, if_pos (by omega)]
          · rw [if_neg q, if_neg (by omega)]
      · refine r_aload_n (pc := 17) dX4_wearOut_17 rfl ?_
        refine r_getR (pc := 18) (r := 38) dX4_wearOut_18 fX4_9 rfl rfl ?_
        refine r_iload_n (pc := 21) dX4_wearOut_21 rfl ?_
        refine r_iconst (pc := 22) (v := (nI (1))) dX4_wearOut_22 (by decide) ?_
        refine r_aload_n (pc := 23) dX4_wearOut_23 rfl ?_
        refine r_getR (pc := 24) (r := 38) dX4_wearOut_24 fX4_9 rfl rfl ?_
        refine r_iload_n (pc := 27) dX4_wearOut_27 rfl ?_
        refine r_iald (pc := 28) (x := (nI (g b))) dX4_wearOut_28 rfl rfl (by omega) ((hv b (by omega)).trans (by simp [mixG])) ?_
        have hgb := hg b (by omega)
        refine r_iload_n (pc := 29) dX4_wearOut_29 rfl ?_
        refine r_isub (pc := 30) dX4_wearOut_30 ?_
        refine r_mmax (pc := 31) dX4_wearOut_31 mX4_48 (Nat.le_of_ble_eq_true rfl) (Nat.le_of_ble_eq_true rfl) ?_
        refine r_iast (pc := 34) dX4_wearOut_34 rfl rfl (by omega) ?_
        refine rn_iinc (pc := 35) (b := 1) (ls' := [(0, .ref 37), (1, .int (nI (bitsP r))), (2, .int (nI d)), (3, .int (nI (b + 1)))]) dX4_wearOut_35 rfl (by decide) (Nat.le_of_ble_eq_true rfl) rfl ?_
        refine r_goto (pc := 38) (tgt := 2) dX4_wearOut_38 (by decide) ?_
        refine ih (k - 1) (by omega) (b + 1) _ (by omega) ho.s (fun j hj => ?_)
        rw [wear_max (by omega) (by omega)]
        show upd (μ1.1 38) b _ j = _
        rw [upd_at]
        by_cases e : j = b
        · subst e; rw [if_pos rfl]; congr 1; unfold mixG; rw [if_pos (show j < j + 1 by omega)]; unfold wear; rw [if_pos ((bitsP_mem r j).mp (tb_iff.mp c14))]
        · rw [if_neg e, hv j hj]; congr 1; unfold mixG
          by_cases q : j < b
          · rw [if_pos q, if_pos (by omega)]
          · rw [if_neg q, if_neg (by omega)]

set_option maxRecDepth 20000 in
set_option maxHeartbeats 4000000 in
theorem x_wo {μ : Mem} {r : List Nat} {d : Nat} {g : Nat → Nat} {Q : Option Value → Mem → Prop} (hr : ∀ x ∈ r, x < 12) (hd : d ≤ 98) (hg : ∀ b, b < 12 → g b ≤ 99) (h : ∀ μ', only 38 μ μ' → (∀ j, j < 12 → μ'.1 38 j = nI (wear d r g j)) → Q none μ') (hv : ∀ j, j < 12 → μ.1 38 j = nI (g j)) : Sp iX4_wearOut 1 [.ref 37, .int (nI (bitsP r)), .int (nI d)] μ Q := by
  refine Sp.of vX4_wearOut.1 (Nat.le_of_ble_eq_true rfl) ?_
  show WP cX4_wearOut (RX4, 4, none, 1, none) 0 [(0, .ref 37), (1, .int (nI (bitsP r))), (2, .int (nI d))] [] μ Q
  refine r_iconst (pc := 0) (v := (nI (0))) dX4_wearOut_0 (by decide) ?_
  refine r_istore_n (pc := 1) (ls' := [(0, .ref 37), (1, .int (nI (bitsP r))), (2, .int (nI d)), (3, .int (nI 0))]) dX4_wearOut_1 (Nat.le_of_ble_eq_true rfl) rfl ?_
  exact x_wo_l hr hd hg h 12 0 μ (by omega) only.rf (fun j hj => by rw [mixG_0]; exact hv j hj)

set_option maxRecDepth 20000 in
set_option maxHeartbeats 4000000 in
theorem x_send_l {μ : Mem} {σ : Sg} {Q : Option Value → Mem → Prop} (hX : Xs μ σ) (hF : FoundOK μ σ) (hO : Ok σ) (h : ∀ μ', frS μ μ' → SentOK μ' σ → μ'.1 37 2 = nI 1 → Q none μ') : ∀ (k : Nat) (c : Nat) (g : Nat → Nat) (μ1 : Mem), c + k = 1176 → okG σ g → frS μ μ1 → (∀ j, j < 12 → μ1.1 38 j = nI (g j)) → μ1.1 37 1 = nI c → (c + (walkN σ (σ 0 1) (σ 0 3) k g).1 = (wkr σ).1 ∧ (walkN σ (σ 0 1) (σ 0 3) k g).2 = (wkr σ).2) → WP cX4_send (RX4, 5, none, 3, none) 22 [(0, .ref 37), (1, .ref 1), (2, .ref 12), (3, .int (nI c))] [] μ1 Q := by
  intro k
  induction k using Nat.strongRecOn with
  | _ k ih =>
    intro c g μ1 hck hg hf1 hv hw1 hc
    have hn := Ok_n hO
    have hX1 := Xs_frS hf1 hX
    have hF1 := Found_frS hf1 hF
    refine r_iload_n (pc := 22) dX4_send_22 rfl ?_
    refine r_sipush (pc := 23) (v := (nI (1176))) dX4_send_23 (by decide) ?_
    refine rn_icmp_ge (pc := 26) (tgt := 86) dX4_send_26 (by decide) (by omega) (by omega) (fun c26 => ?_) (fun c26 => ?_)
    · refine r_aload_n (pc := 86) dX4_send_86 rfl ?_
      refine r_iconst (pc := 87) (v := (nI (1))) dX4_send_87 (by decide) ?_
      refine r_putI (pc := 88) dX4_send_88 gX4_19 rfl rfl rfl rfl ?_
      refine r_return (pc := 91) dX4_send_91 rfl ?_
      obtain rfl : k = 0 := by omega
      refine h _ (hf1.tr (only.S only.rf.s (Or.inl rfl))) ⟨?_, fun j hj => ?_⟩ ?_
      · show upd (μ1.1 37) 2 (nI 1) 1 = _; rw [upd_at, if_neg (by decide), hw1, ← hc.1]; rfl
      · show μ1.1 38 j = _; rw [hv j hj, ← hc.2]; rfl
      · show upd (μ1.1 37) 2 (nI 1) 2 = _; rw [upd_at, if_pos rfl]
    · refine r_aload_n (pc := 29) dX4_send_29 rfl ?_
      refine r_aload_n (pc := 30) dX4_send_30 rfl ?_
      refine r_getR (pc := 31) (r := 38) dX4_send_31 fX4_9 rfl rfl ?_
      refine r_aload_n (pc := 34) dX4_send_34 rfl ?_
      refine r_getR (pc := 35) (r := 9) dX4_send_35 fX4_32 rfl rfl ?_
      refine r_iconst (pc := 38) (v := (nI (0))) dX4_send_38 (by decide) ?_
      refine r_iald (pc := 39) (x := (nI (σ 0 1))) dX4_send_39 rfl rfl (by omega) (Xs_fee hX1) ?_
      refine r_callV (pc := 40) (d' := 2) (k := 12) (As := [.ref 38, .int (nI (σ 0 1))]) (rest := []) dX4_send_40 vX2_greatest mX4_35 rfl rfl rfl (Nat.le_of_ble_eq_true rfl) (Nat.le_of_ble_eq_true rfl) ?_
      refine x_great (gc := 38) (g := g) hO hF1 ⟨rfl, fun x hx => ⟨hv x (by omega), hg.1 x (by omega)⟩⟩ (by omega) ?_
      refine r_istore (pc := 43) (ls' := [(0, .ref 37), (1, .ref 1), (2, .ref 12), (3, .int (nI c)), (4, .int (wG σ g (σ 0 1) (mi (uG σ g (σ 0 1)) (lG σ g (σ 0 1)) (gsl σ g (σ 0 1)).length)))]) dX4_send_43 (Nat.le_of_ble_eq_true rfl) rfl ?_
      refine r_iload (pc := 45) dX4_send_45 rfl ?_
      refine r_if_ge (pc := 47) (tgt := 53) dX4_send_47 (by decide) (fun c47 => ?_) (fun c47 => ?_)
      · obtain ⟨j, hj⟩ : ∃ j, mi (uG σ g (σ 0 1)) (lG σ g (σ 0 1)) (gsl σ g (σ 0 1)).length = some j := by
          cases hq : mi (uG σ g (σ 0 1)) (lG σ g (σ 0 1)) (gsl σ g (σ 0 1)).length with
          | none => rw [hq] at c47; exact absurd c47 (show ¬ (0 : Int32) ≤ -1 by decide)
          | some j => exact ⟨j, rfl⟩
        rw [hj]
        have hjl := mi_lt hj
        have hkr := kG_r hjl
        have hmost : mostG σ g (σ 0 1) = some ((gsl σ g (σ 0 1)).getD j []) := by
          unfold mostG
          show Option.map _ (mi (uG σ g (σ 0 1)) (lG σ g (σ 0 1)) (gsl σ g (σ 0 1)).length) = _
          rw [hj]
          rfl
        obtain ⟨ws1, ws2⟩ := wear_sum hO hg hmost
        have hmem := (rnds_mem (mostG_mem hmost).1).2.1
        obtain ⟨k1, rfl⟩ : ∃ k1, k = k1 + 1 := ⟨k - 1, by omega⟩
        unfold walkN at hc
        rw [hmost] at hc
        dsimp only at hc
        have hwl := walkN_le σ (σ 0 1) (σ 0 3) k1 (wear (σ 0 3) ((gsl σ g (σ 0 1)).getD j []) g)
        have hRl := rnds_le hO
        refine r_aload_n (pc := 53) dX4_send_53 rfl ?_
        refine r_aload_n (pc := 54) dX4_send_54 rfl ?_
        refine r_getR (pc := 55) (r := 15) dX4_send_55 fX4_41 rfl rfl ?_
        refine r_iload (pc := 58) dX4_send_58 rfl ?_
        refine r_iald (pc := 60) (x := (nI (bitsP ((gsl σ g (σ 0 1)).getD j [])))) dX4_send_60 rfl rfl (by omega) (by rw [← hkr.2]; exact (hF1.2.2.1 _ _ (rnds_at hkr.1)).2.2) ?_
        refine r_aload_n (pc := 61) dX4_send_61 rfl ?_
        refine r_getR (pc := 62) (r := 9) dX4_send_62 fX4_32 rfl rfl ?_
        refine r_iconst (pc := 65) (v := (nI (2))) dX4_send_65 (by decide) ?_
        refine r_iald (pc := 66) (x := (nI (σ 0 3))) dX4_send_66 rfl rfl (by omega) (Xs_drop hX1) ?_
        refine r_callV (pc := 67) (d' := 1) (k := 37) (As := [.int (nI (bitsP ((gsl σ g (σ 0 1)).getD j []))), .int (nI (σ 0 3))]) (rest := []) dX4_send_67 vX4_wearOut mX4_44 rfl rfl rfl (Nat.le_of_ble_eq_true rfl) (Nat.le_of_ble_eq_true rfl) ?_
        refine x_wo (g := g) (fun x hx => Nat.lt_of_lt_of_le (hmem x hx) hO.1) (by omega) hg.1 (fun μ2 ho2 hv2 => ?_) hv
        refine r_aload_n (pc := 70) dX4_send_70 rfl ?_
        refine r_dup_r (pc := 71) dX4_send_71 ?_
        refine r_getI (pc := 72) (x := (nI (c))) dX4_send_72 fX4_15 rfl rfl (by rw [ho2.1 37 (by decide)]; exact hw1) ?_
        refine r_iconst (pc := 75) (v := (nI (1))) dX4_send_75 (by decide) ?_
        refine rn_iadd (pc := 76) dX4_send_76 ?_
        refine r_putI (pc := 77) dX4_send_77 gX4_15 rfl rfl rfl rfl ?_
        refine rn_iinc (pc := 80) (b := 1) (ls' := [(0, .ref 37), (1, .ref 1), (2, .ref 12), (3, .int (nI (c + 1))), (4, .int (nI (kG σ g (σ 0 1) j)))]) dX4_send_80 rfl (by decide) (Nat.le_of_ble_eq_true rfl) rfl ?_
        refine r_goto (pc := 83) (tgt := 22) dX4_send_83 (by decide) ?_
        refine r_pick (ls' := [(0, .ref 37), (1, .ref 1), (2, .ref 12), (3, .int (nI (c + 1)))]) [0, 1, 2, 3] rfl ?_
        refine ih k1 (by omega) (c + 1) _ _ (by omega) ws2 (hf1.tr ((only.S ho2 (Or.inr rfl)).tr (only.S only.rf.s (Or.inl rfl)))) (fun j hj => ?_) ?_ ⟨by have := hc.1; show c + 1 + _ = _; omega, hc.2⟩
        · exact hv2 j hj
        · show upd (μ2.1 37) 1 (nI (c + 1)) 1 = _; rw [upd_at, if_pos rfl]
      · have hq : mi (uG σ g (σ 0 1)) (lG σ g (σ 0 1)) (gsl σ g (σ 0 1)).length = none := by
          cases hq : mi (uG σ g (σ 0 1)) (lG σ g (σ 0 1)) (gsl σ g (σ 0 1)).length with
          | none => rfl
          | some j => rw [hq] at c47; exact absurd (show (0 : Int32) ≤ nI (kG σ g (σ 0 1) j) from nI_pos' (by have := (kG_r (mi_lt hq)).1; have := rnds_le hO; omega)) c47
        have hnone : mostG σ g (σ 0 1) = none := by
          unfold mostG
          show Option.map _ (mi (uG σ g (σ 0 1)) (lG σ g (σ 0 1)) (gsl σ g (σ 0 1)).length) = _
          rw [hq]
          rfl
        rw [walkN_none hnone] at hc
        refine r_goto (pc := 50) (tgt := 86) dX4_send_50 (by decide) ?_
        refine r_aload_n (pc := 86) dX4_send_86 rfl ?_
        refine r_iconst (pc := 87) (v := (nI (1))) dX4_send_87 (by decide) ?_
        refine r_putI (pc := 88) dX4_send_88 gX4_19 rfl rfl rfl rfl ?_
        refine r_return (pc := 91) dX4_send_91 rfl ?_
        refine h _ (hf1.tr (only.S only.rf.s (Or.inl rfl))) ⟨?_, fun j hj => ?_⟩ ?_
        · show upd (μ1.1 37) 2 (nI 1) 1 = _; rw [upd_at, if_neg (by decide), hw1, ← hc.1]; rfl
        · show μ1.1 38 j = _; rw [hv j hj, ← hc.2]
        · show upd (μ1.1 37) 2 (nI 1) 2 = _; rw [upd_at, if_pos rfl]

set_option maxRecDepth 20000 in
set_option maxHeartbeats 4000000 in
theorem x_send {μ : Mem} {σ : Sg} {Q : Option Value → Mem → Prop} (hX : Xs μ σ) (hF : FoundOK μ σ) (hO : Ok σ) (h : ∀ μ', frS μ μ' → SentOK μ' σ → μ'.1 37 2 = nI 1 → Q none μ') : Sp iX4_send 3 [.ref 37, .ref 1, .ref 12] μ Q := by
  refine Sp.of vX4_send.1 (Nat.le_of_ble_eq_true rfl) ?_
  show WP cX4_send (RX4, 5, none, 3, none) 0 [(0, .ref 37), (1, .ref 1), (2, .ref 12)] [] μ Q
  refine r_aload_n (pc := 0) dX4_send_0 rfl ?_
  refine r_getR (pc := 1) (r := 5) dX4_send_1 fX4_23 rfl rfl ?_
  refine r_iconst (pc := 4) (v := (nI (0))) dX4_send_4 (by decide) ?_
  refine r_aload_n (pc := 5) dX4_send_5 rfl ?_
  refine r_getR (pc := 6) (r := 38) dX4_send_6 fX4_9 rfl rfl ?_
  refine r_iconst (pc := 9) (v := (nI (0))) dX4_send_9 (by decide) ?_
  refine r_bipush (pc := 10) (v := (nI (12))) dX4_send_10 (by decide) ?_
  refine r_copy (pc := 12) dX4_send_12 mX4_26 natAC staAC iniAC rfl rfl rfl rfl rfl (Nat.le_of_ble_eq_true rfl) (Nat.le_of_ble_eq_true rfl) (Nat.le_of_ble_eq_true rfl) (Nat.le_of_ble_eq_true rfl) ?_
  refine r_aload_n (pc := 15) dX4_send_15 rfl ?_
  refine r_iconst (pc := 16) (v := (nI (0))) dX4_send_16 (by decide) ?_
  refine r_putI (pc := 17) dX4_send_17 gX4_15 rfl rfl rfl rfl ?_
  refine r_iconst (pc := 20) (v := (nI (0))) dX4_send_20 (by decide) ?_
  refine r_istore_n (pc := 21) (ls' := [(0, .ref 37), (1, .ref 1), (2, .ref 12), (3, .int (nI 0))]) dX4_send_21 (Nat.le_of_ble_eq_true rfl) rfl ?_
  refine x_send_l hX hF hO h 1176 0 (σ 4) _ (by omega) (okG_σ hO) ((only.S cpyI_only (Or.inr rfl)).tr (only.S only.rf.s (Or.inl rfl))) (fun j hj => ?_) ?_ ⟨by show 0 + _ = _; rw [Nat.zero_add]; rfl, rfl⟩
  · show (cpyI μ 5 38 12).1 38 j = _; exact (cpyI_at hj).trans (Xs_4 hX hj)
  · show upd ((cpyI μ 5 38 12).1 37) 1 (nI 0) 1 = _; rw [upd_at, if_pos rfl]

set_option maxRecDepth 20000 in
set_option maxHeartbeats 4000000 in
theorem x_walkers {μ : Mem} {σ : Sg} {w : Int32} {Q : Option Value → Mem → Prop} (hI : XI μ σ) (hO : Ok σ) (h : ∀ μ', XI μ' σ → keepM μ μ' → Q (some (.int (sp_walkers σ w))) μ') : Sp iX6_walkers 14 [.ref 0, .int (w)] μ Q := by
  refine Sp.of vX6_walkers.1 (Nat.le_of_ble_eq_true rfl) ?_
  show WP cX6_walkers (RX6, 2, (some .int), 14, none) 0 [(0, .ref 0), (1, .int (w))] [] μ Q
  have hn := Ok_n hO
  have hX := hI.1
  refine r_iload_n (pc := 0) dX6_walkers_0 rfl ?_
  refine r_iconst (pc := 1) (v := (-1)) dX6_walkers_1 (by decide) ?_
  refine r_icmp_eq (pc := 2) (tgt := 18) dX6_walkers_2 (by decide) (fun c2 => ?_) (fun c2 => ?_)
  · refine r_aload_n (pc := 18) dX6_walkers_18 rfl ?_
    refine r_callV (pc := 19) (d' := 13) (k := 0) (As := []) (rest := []) dX6_walkers_19 vX6_lookAround mX6_130 rfl rfl rfl (Nat.le_of_ble_eq_true rfl) (Nat.le_of_ble_eq_true rfl) ?_
    refine x_look hI hO (fun μ1 hF1 hk1 => ?_)
    have hX1 := hF1.1.1
    have hGl := Gs_len hO
    have hRl := rnds_le hO
    refine r_aload_n (pc := 22) dX6_walkers_22 rfl ?_
    refine r_getR (pc := 23) (r := 37) dX6_walkers_23 fX6_47 rfl rfl ?_
    refine r_getI (pc := 26) (x := (μ1).1 37 2) dX6_walkers_26 fX6_239 rfl rfl rfl ?_
    refine r_if_ne (pc := 29) (tgt := 47) dX6_walkers_29 (by decide) (fun c29 => ?_) (fun c29 => ?_)
    · have hS : SentOK μ1 σ := by
        rcases hF1.1.2.2 with q | q
        · exact absurd q c29
        · exact q.2
      have hI2 := hF1.1
      have hk2 := hk1
      refine r_iload_n (pc := 47) dX6_walkers_47 rfl ?_
      refine r_iconst (pc := 48) (v := (-1)) dX6_walkers_48 (by decide) ?_
      refine r_icmp_ne (pc := 49) (tgt := 62) dX6_walkers_49 (by decide) (fun c49 => ?_) (fun c49 => ?_)
      · exact absurd c2 c49
      · refine r_aload_n (pc := 52) dX6_walkers_52 rfl ?_
        refine r_getR (pc := 53) (r := 37) dX6_walkers_53 fX6_47 rfl rfl ?_
        refine r_getI (pc := 56) (x := (nI ((wkr σ).1))) dX6_walkers_56 fX6_247 rfl rfl hS.1 ?_
        have hwl := walkN_le σ (σ 0 1) (σ 0 3) 1176 (σ 4)
        refine r_goto (pc := 59) (tgt := 71) dX6_walkers_59 (by decide) ?_
        refine r_ireturn (pc := 71) dX6_walkers_71 rfl (Or.inl rfl) rfl ?_
        have e9 : sp_walkers σ w = nI (wkr σ).1 := by
          unfold sp_walkers
          rw [if_pos c2]
        rw [e9] at h
        exact h _ hI2 hk2
    · refine r_aload_n (pc := 32) dX6_walkers_32 rfl ?_
      refine r_getR (pc := 33) (r := 37) dX6_walkers_33 fX6_47 rfl rfl ?_
      refine r_aload_n (pc := 36) dX6_walkers_36 rfl ?_
      refine r_getR (pc := 37) (r := 1) dX6_walkers_37 fX6_12 rfl rfl ?_
      refine r_aload_n (pc := 40) dX6_walkers_40 rfl ?_
      refine r_getR (pc := 41) (r := 12) dX6_walkers_41 fX6_26 rfl rfl ?_
      refine r_callV (pc := 44) (d' := 3) (k := 37) (As := [.ref 1, .ref 12]) (rest := []) dX6_walkers_44 vX4_send mX6_243 rfl rfl rfl (Nat.le_of_ble_eq_true rfl) (Nat.le_of_ble_eq_true rfl) ?_
      refine x_send hX1 hF1.2 hO (fun μ2 hf2 hS hkn => ?_)
      have hI2 : XI μ2 σ := ⟨Xs_frS hf2 hX1, ⟨by rw [hf2.1 12 (by decide) (by decide)]; rcases hF1.1.2.1 with q | q; exact Or.inl q; exact Or.inr ⟨q.1, Found_frS hf2 q.2⟩, Or.inr ⟨hkn, hS⟩⟩⟩
      have hk2 := hk1.tr hf2.keep
      refine r_iload_n (pc := 47) dX6_walkers_47 rfl ?_
      refine r_iconst (pc := 48) (v := (-1)) dX6_walkers_48 (by decide) ?_
      refine r_icmp_ne (pc := 49) (tgt := 62) dX6_walkers_49 (by decide) (fun c49 => ?_) (fun c49 => ?_)
      · exact absurd c2 c49
      · refine r_aload_n (pc := 52) dX6_walkers_52 rfl ?_
        refine r_getR (pc := 53) (r := 37) dX6_walkers_53 fX6_47 rfl rfl ?_
        refine r_getI (pc := 56) (x := (nI ((wkr σ).1))) dX6_walkers_56 fX6_247 rfl rfl hS.1 ?_
        have hwl := walkN_le σ (σ 0 1) (σ 0 3) 1176 (σ 4)
        refine r_goto (pc := 59) (tgt := 71) dX6_walkers_59 (by decide) ?_
        refine r_ireturn (pc := 71) dX6_walkers_71 rfl (Or.inl rfl) rfl ?_
        have e9 : sp_walkers σ w = nI (wkr σ).1 := by
          unfold sp_walkers
          rw [if_pos c2]
        rw [e9] at h
        exact h _ hI2 hk2
  · refine r_aload_n (pc := 5) dX6_walkers_5 rfl ?_
    refine r_getR (pc := 6) (r := 1) dX6_walkers_6 fX6_12 rfl rfl ?_
    refine r_iload_n (pc := 9) dX6_walkers_9 rfl ?_
    refine r_callV (pc := 10) (d' := 0) (k := 1) (As := [.int (w)]) (rest := []) dX6_walkers_10 vX0_has mX6_74 rfl rfl rfl (Nat.le_of_ble_eq_true rfl) (Nat.le_of_ble_eq_true rfl) ?_
    refine c_has (μ := μ) hX hO ?_
    refine rb_if_ne (pc := 13) (tgt := 18) dX6_walkers_13 (by decide) (fun c13 => ?_) (fun c13 => ?_)
    · refine r_aload_n (pc := 18) dX6_walkers_18 rfl ?_
      refine r_callV (pc := 19) (d' := 13) (k := 0) (As := []) (rest := []) dX6_walkers_19 vX6_lookAround mX6_130 rfl rfl rfl (Nat.le_of_ble_eq_true rfl) (Nat.le_of_ble_eq_true rfl) ?_
      refine x_look hI hO (fun μ1 hF1 hk1 => ?_)
      have hX1 := hF1.1.1
      have hGl := Gs_len hO
      have hRl := rnds_le hO
      refine r_aload_n (pc := 22) dX6_walkers_22 rfl ?_
      refine r_getR (pc := 23) (r := 37) dX6_walkers_23 fX6_47 rfl rfl ?_
      refine r_getI (pc := 26) (x := (μ1).1 37 2) dX6_walkers_26 fX6_239 rfl rfl rfl ?_
      refine r_if_ne (pc := 29) (tgt := 47) dX6_walkers_29 (by decide) (fun c29 => ?_) (fun c29 => ?_)
      · have hS : SentOK μ1 σ := by
          rcases hF1.1.2.2 with q | q
          · exact absurd q c29
          · exact q.2
        have hI2 := hF1.1
        have hk2 := hk1
        refine r_iload_n (pc := 47) dX6_walkers_47 rfl ?_
        refine r_iconst (pc := 48) (v := (-1)) dX6_walkers_48 (by decide) ?_
        refine r_icmp_ne (pc := 49) (tgt := 62) dX6_walkers_49 (by decide) (fun c49 => ?_) (fun c49 => ?_)
        · obtain ⟨wj, hwj, rfl, -⟩ := isB_t c13
          refine r_aload_n (pc := 62) dX6_walkers_62 rfl ?_
          refine r_getR (pc := 63) (r := 37) dX6_walkers_63 fX6_47 rfl rfl ?_
          refine r_getR (pc := 66) (r := 38) dX6_walkers_66 fX6_250 rfl rfl ?_
          refine r_iload_n (pc := 69) dX6_walkers_69 rfl ?_
          refine r_iald (pc := 70) (x := (nI ((wkr σ).2 wj))) dX6_walkers_70 rfl rfl (by omega) (hS.2 wj (by omega)) ?_
          refine r_ireturn (pc := 71) dX6_walkers_71 rfl (Or.inl rfl) rfl ?_
          have e9 : sp_walkers σ (nI wj) = nI ((wkr σ).2 wj) := by
            unfold sp_walkers
            rw [if_neg c2, if_neg (by rw [c13]; decide), bN_nI (by omega)]
          rw [e9] at h
          exact h _ hI2 hk2
        · exact absurd c49 c2
      · refine r_aload_n (pc := 32) dX6_walkers_32 rfl ?_
        refine r_getR (pc := 33) (r := 37) dX6_walkers_33 fX6_47 rfl rfl ?_
        refine r_aload_n (pc := 36) dX6_walkers_36 rfl ?_
        refine r_getR (pc := 37) (r := 1) dX6_walkers_37 fX6_12 rfl rfl ?_
        refine r_aload_n (pc := 40) dX6_walkers_40 rfl ?_
        refine r_getR (pc := 41) (r := 12) dX6_walkers_41 fX6_26 rfl rfl ?_
        refine r_callV (pc := 44) (d' := 3) (k := 37) (As := [.ref 1, .ref 12]) (rest := []) dX6_walkers_44 vX4_send mX6_243 rfl rfl rfl (Nat.le_of_ble_eq_true rfl) (Nat.le_of_ble_eq_true rfl) ?_
        refine x_send hX1 hF1.2 hO (fun μ2 hf2 hS hkn => ?_)
        have hI2 : XI μ2 σ := ⟨Xs_frS hf2 hX1, ⟨by rw [hf2.1 12 (by decide) (by decide)]; rcases hF1.1.2.1 with q | q; exact Or.inl q; exact Or.inr ⟨q.1, Found_frS hf2 q.2⟩, Or.inr ⟨hkn, hS⟩⟩⟩
        have hk2 := hk1.tr hf2.keep
        refine r_iload_n (pc := 47) dX6_walkers_47 rfl ?_
        refine r_iconst (pc := 48) (v := (-1)) dX6_walkers_48 (by decide) ?_
        refine r_icmp_ne (pc := 49) (tgt := 62) dX6_walkers_49 (by decide) (fun c49 => ?_) (fun c49 => ?_)
        · obtain ⟨wj, hwj, rfl, -⟩ := isB_t c13
          refine r_aload_n (pc := 62) dX6_walkers_62 rfl ?_
          refine r_getR (pc := 63) (r := 37) dX6_walkers_63 fX6_47 rfl rfl ?_
          refine r_getR (pc := 66) (r := 38) dX6_walkers_66 fX6_250 rfl rfl ?_
          refine r_iload_n (pc := 69) dX6_walkers_69 rfl ?_
          refine r_iald (pc := 70) (x := (nI ((wkr σ).2 wj))) dX6_walkers_70 rfl rfl (by omega) (hS.2 wj (by omega)) ?_
          refine r_ireturn (pc := 71) dX6_walkers_71 rfl (Or.inl rfl) rfl ?_
          have e9 : sp_walkers σ (nI wj) = nI ((wkr σ).2 wj) := by
            unfold sp_walkers
            rw [if_neg c2, if_neg (by rw [c13]; decide), bN_nI (by omega)]
          rw [e9] at h
          exact h _ hI2 hk2
        · exact absurd c49 c2
    · refine r_iconst (pc := 16) (v := (-1)) dX6_walkers_16 (by decide) ?_
      refine r_ireturn (pc := 17) dX6_walkers_17 rfl (Or.inl rfl) rfl ?_
      have e9 : sp_walkers σ w = -1 := by simp [sp_walkers, c2, c13]
      rw [e9] at h
      exact h _ hI keepM.rf
