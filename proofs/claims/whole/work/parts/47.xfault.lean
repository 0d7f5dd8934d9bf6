/-! THE CLASS: fault, read -/
def SgM (μ : Mem) (σ : Sg) : Prop := μ.1 10 1 = nI (σ 0 4) ∧ ∀ j, j < σ 0 4 → μ.1 11 j = nI (σ 8 j)
theorem Xs_SgM {μ : Mem} {σ : Sg} (h : Xs μ σ) : SgM μ σ := ⟨Xs_sn h, fun j hj => Xs_8 h hj⟩
theorem SgM_10 {μ : Mem} {σ : Sg} {j : Nat} {v : Int32} (hj : ¬ j = 1) (h : SgM μ σ) : SgM (setI μ 10 j v) σ := ⟨by rw [setI_at, if_neg (fun z => hj z.2.symm)]; exact h.1, fun i hi => by rw [setI_at, if_neg (fun z => absurd z.1 (by decide))]; exact h.2 i hi⟩
def frP (μ μ' : Mem) : Prop := (∀ a, ¬ a = 10 → μ'.1 a = μ.1 a) ∧ μ'.1 10 1 = μ.1 10 1 ∧ μ'.2 = μ.2
theorem frP.rf {μ : Mem} : frP μ μ := ⟨fun _ _ => rfl, rfl, rfl⟩
theorem frP.tr {μ μ' μ'' : Mem} (h : frP μ μ') (h' : frP μ' μ'') : frP μ μ'' := ⟨fun k a => (h'.1 k a).trans (h.1 k a), h'.2.1.trans h.2.1, h'.2.2.trans h.2.2⟩
theorem frP.s {μ μ' : Mem} {j : Nat} {v : Int32} (hj : ¬ j = 1) (h : frP μ μ') : frP μ (setI μ' 10 j v) := ⟨fun a ha => (if_neg ha).trans (h.1 a ha), by rw [setI_at, if_neg (fun z => hj z.2.symm)]; exact h.2.1, h.2.2⟩
theorem frP.keep {μ μ' : Mem} (h : frP μ μ') : keepM μ μ' := fun k hk => ⟨h.1 k (by omega), by rw [h.2.2]⟩
theorem SgM_frP {μ μ' : Mem} {σ : Sg} (h : frP μ μ') (hS : SgM μ σ) : SgM μ' σ := ⟨h.2.1.trans hS.1, fun j hj => by rw [h.1 11 (by decide)]; exact hS.2 j hj⟩
theorem Xs_frP {μ μ' : Mem} {σ : Sg} (h : frP μ μ') (hX : Xs μ σ) : Xs μ' σ := by
  unfold Xs
  rw [h.2.1, h.1 1 (by decide), h.1 2 (by decide), h.1 3 (by decide), h.1 4 (by decide), h.1 5 (by decide), h.1 6 (by decide), h.1 7 (by decide), h.1 8 (by decide), h.1 9 (by decide), h.1 11 (by decide), h.1 39 (by decide)]
  exact hX
theorem XI_frP {μ μ' : Mem} {σ : Sg} (h : frP μ μ') (hI : XI μ σ) : XI μ' σ := by
  refine ⟨Xs_frP h hI.1, ?_⟩
  have hc := hI.2
  unfold Xc FoundOK SentOK at hc ⊢
  rw [h.2.2, h.1 12 (by decide), h.1 15 (by decide), h.1 16 (by decide), h.1 37 (by decide), h.1 38 (by decide)]
  exact hc

set_option maxRecDepth 20000 in
set_option maxHeartbeats 4000000 in
theorem x_po {μ : Mem} {σ : Sg} {k : Nat} {lo hi : Nat} {Q : Option Value → Mem → Prop} (hS : SgM μ σ) (hO : Ok σ) (hpl : μ.1 10 2 = nI k) (hk : k ≤ σ 0 4) (hlo : lo < 1000) (hhi : hi < 1000) (h : ∀ μ', μ' = (if ps σ k lo hi = true then setI μ 10 2 (nI (k + 1)) else μ) → Q (some (.int (b2i (ps σ k lo hi)))) μ') : Sp iX3_passOneOf 0 [.ref 10, .int (nI lo), .int (nI hi)] μ Q := by
  refine Sp.of vX3_passOneOf.1 (Nat.le_of_ble_eq_true rfl) ?_
  show WP cX3_passOneOf (RX3, 3, (some .boolean), 0, none) 0 [(0, .ref 10), (1, .int (nI lo)), (2, .int (nI hi))] [] μ Q
  have hn := Ok_n hO
  refine r_aload_n (pc := 0) dX3_passOneOf_0 rfl ?_
  refine r_getI (pc := 1) (x := (nI (k))) dX3_passOneOf_1 fX3_19 rfl rfl (hpl) ?_
  refine rn_if_lt (pc := 4) (tgt := 44) dX3_passOneOf_4 (by decide) (by omega) ?_
  refine r_aload_n (pc := 7) dX3_passOneOf_7 rfl ?_
  refine r_getI (pc := 8) (x := (nI (k))) dX3_passOneOf_8 fX3_19 rfl rfl (hpl) ?_
  refine r_aload_n (pc := 11) dX3_passOneOf_11 rfl ?_
  refine r_getI (pc := 12) (x := (nI (σ 0 4))) dX3_passOneOf_12 fX3_15 rfl rfl hS.1 ?_
  refine rn_icmp_ge (pc := 15) (tgt := 44) dX3_passOneOf_15 (by decide) (by omega) (by omega) (fun c15 => ?_) (fun c15 => ?_)
  · refine r_iconst (pc := 44) (v := (nI (0))) dX3_passOneOf_44 (by decide) ?_
    refine r_ireturn (pc := 45) dX3_passOneOf_45 rfl (Or.inr rfl) rfl ?_
    have hps : ps σ k lo hi = false := ps_f.mpr (by omega)
    have h9 := h _ rfl
    rw [hps, if_neg (by decide)] at h9
    exact h9
  · refine r_aload_n (pc := 18) dX3_passOneOf_18 rfl ?_
    refine r_getR (pc := 19) (r := 11) dX3_passOneOf_19 fX3_9 rfl rfl ?_
    refine r_aload_n (pc := 22) dX3_passOneOf_22 rfl ?_
    refine r_getI (pc := 23) (x := (nI (k))) dX3_passOneOf_23 fX3_19 rfl rfl (hpl) ?_
    refine r_cald (pc := 26) (x := (nI (σ 8 (k)))) dX3_passOneOf_26 rfl rfl (by omega) (hS.2 _ (by omega)) ?_
    have b1 := Ok_s hO (j := k) (by omega)
    refine r_iload_n (pc := 27) dX3_passOneOf_27 rfl ?_
    refine rn_icmp_lt (pc := 28) (tgt := 44) dX3_passOneOf_28 (by decide) (by omega) (by omega) (fun c28 => ?_) (fun c28 => ?_)
    · refine r_iconst (pc := 44) (v := (nI (0))) dX3_passOneOf_44 (by decide) ?_
      refine r_ireturn (pc := 45) dX3_passOneOf_45 rfl (Or.inr rfl) rfl ?_
      have hps : ps σ k lo hi = false := ps_f.mpr (by omega)
      have h9 := h _ rfl
      rw [hps, if_neg (by decide)] at h9
      exact h9
    · refine r_aload_n (pc := 31) dX3_passOneOf_31 rfl ?_
      refine r_getR (pc := 32) (r := 11) dX3_passOneOf_32 fX3_9 rfl rfl ?_
      refine r_aload_n (pc := 35) dX3_passOneOf_35 rfl ?_
      refine r_getI (pc := 36) (x := (nI (k))) dX3_passOneOf_36 fX3_19 rfl rfl (hpl) ?_
      refine r_cald (pc := 39) (x := (nI (σ 8 (k)))) dX3_passOneOf_39 rfl rfl (by omega) (hS.2 _ (by omega)) ?_
      have b2 := Ok_s hO (j := k) (by omega)
      refine r_iload_n (pc := 40) dX3_passOneOf_40 rfl ?_
      refine rn_icmp_le (pc := 41) (tgt := 46) dX3_passOneOf_41 (by decide) (by omega) (by omega) (fun c41 => ?_) (fun c41 => ?_)
      · refine r_aload_n (pc := 46) dX3_passOneOf_46 rfl ?_
        refine r_dup_r (pc := 47) dX3_passOneOf_47 ?_
        refine r_getI (pc := 48) (x := (nI (k))) dX3_passOneOf_48 fX3_19 rfl rfl (hpl) ?_
        refine r_iconst (pc := 51) (v := (nI (1))) dX3_passOneOf_51 (by decide) ?_
        refine rn_iadd (pc := 52) dX3_passOneOf_52 ?_
        refine r_putI (pc := 53) dX3_passOneOf_53 gX3_19 rfl rfl rfl rfl ?_
        refine r_iconst (pc := 56) (v := (nI (1))) dX3_passOneOf_56 (by decide) ?_
        refine r_ireturn (pc := 57) dX3_passOneOf_57 rfl (Or.inr rfl) rfl ?_
        have hps : ps σ k lo hi = true := ps_iff.mpr ⟨by omega, by omega, by omega⟩
        have h9 := h _ rfl
        rw [hps, if_pos rfl] at h9
        exact h9
      · refine r_iconst (pc := 44) (v := (nI (0))) dX3_passOneOf_44 (by decide) ?_
        refine r_ireturn (pc := 45) dX3_passOneOf_45 rfl (Or.inr rfl) rfl ?_
        have hps : ps σ k lo hi = false := ps_f.mpr (by omega)
        have h9 := h _ rfl
        rw [hps, if_neg (by decide)] at h9
        exact h9

set_option maxRecDepth 20000 in
set_option maxHeartbeats 4000000 in
theorem x_pc {μ : Mem} {σ : Sg} {k : Nat} {nv : Int32} {nt : Option Nat} {Q : Option Value → Mem → Prop} (hS : SgM μ σ) (hO : Ok σ) (hpl : μ.1 10 2 = nI k) (hk : k ≤ σ 0 4) (hnv : ∀ s, 97 ≤ s → s ≤ 104 → (nI s - nI 97 = nv ↔ nt = some s)) (h : ∀ μ', frP μ μ' → μ'.1 10 2 = nI (pcP σ k nt) → (pcO σ k nt = true → μ'.1 10 3 = nI (am σ k) ∧ μ'.1 10 4 = nI (σ 8 (kd σ k) - 97)) → (∀ j, 5 ≤ j → μ'.1 10 j = μ.1 10 j) → Q (some (.int (b2i (pcO σ k nt)))) μ') : Sp iX3_passCoins 1 [.ref 10, .int (nv)] μ Q := by
  refine Sp.of vX3_passCoins.1 (Nat.le_of_ble_eq_true rfl) ?_
  show WP cX3_passCoins (RX3, 2, (some .boolean), 1, none) 0 [(0, .ref 10), (1, .int (nv))] [] μ Q
  have hn := Ok_n hO
  refine r_aload_n (pc := 0) dX3_passCoins_0 rfl ?_
  refine r_bipush (pc := 1) (v := (nI (49))) dX3_passCoins_1 (by decide) ?_
  refine r_bipush (pc := 3) (v := (nI (57))) dX3_passCoins_3 (by decide) ?_
  refine r_callV (pc := 5) (d' := 0) (k := 10) (As := [.int (nI 49), .int (nI 57)]) (rest := []) dX3_passCoins_5 vX3_passOneOf mX3_38 rfl rfl rfl (Nat.le_of_ble_eq_true rfl) (Nat.le_of_ble_eq_true rfl) ?_
  refine x_po (k := k) (lo := 49) (hi := 57) hS hO (hpl) (by omega) (by decide) (by decide) (fun μp2 e1 => ?_)
  refine rb_if_ne (pc := 8) (tgt := 13) dX3_passCoins_8 (by decide) (fun c8 => ?_) (fun c8 => ?_)
  · rw [if_pos c8] at e1
    rw [e1]
    have hq8 := ps_iff.mp c8
    refine r_aload_n (pc := 13) dX3_passCoins_13 rfl ?_
    refine r_aload_n (pc := 14) dX3_passCoins_14 rfl ?_
    refine r_getR (pc := 15) (r := 11) dX3_passCoins_15 fX3_9 rfl rfl ?_
    refine r_aload_n (pc := 18) dX3_passCoins_18 rfl ?_
    refine r_getI (pc := 19) (x := (nI (k + 1))) dX3_passCoins_19 fX3_19 rfl rfl (by rw [setI_at, if_pos ⟨rfl, rfl⟩]) ?_
    refine r_iconst (pc := 22) (v := (nI (1))) dX3_passCoins_22 (by decide) ?_
    refine rn_isub (pc := 23) dX3_passCoins_23 (by omega) ?_
    refine r_eqi (y := nI (k)) rfl ?_
    refine r_cald (pc := 24) (x := (nI (σ 8 (k)))) dX3_passCoins_24 rfl rfl (by omega) ((SgM_10 (by decide) hS).2 _ (by omega)) ?_
    have b3 := Ok_s hO (j := k) (by omega)
    refine r_bipush (pc := 25) (v := (nI (48))) dX3_passCoins_25 (by decide) ?_
    refine rn_isub (pc := 27) dX3_passCoins_27 (by omega) ?_
    refine r_putI (pc := 28) dX3_passCoins_28 gX3_22 rfl rfl rfl rfl ?_
    refine r_aload_n (pc := 31) dX3_passCoins_31 rfl ?_
    refine r_bipush (pc := 32) (v := (nI (48))) dX3_passCoins_32 (by decide) ?_
    refine r_bipush (pc := 34) (v := (nI (57))) dX3_passCoins_34 (by decide) ?_
    refine r_callV (pc := 36) (d' := 0) (k := 10) (As := [.int (nI 48), .int (nI 57)]) (rest := []) dX3_passCoins_36 vX3_passOneOf mX3_38 rfl rfl rfl (Nat.le_of_ble_eq_true rfl) (Nat.le_of_ble_eq_true rfl) ?_
    refine x_po (k := k + 1) (lo := 48) (hi := 57) (SgM_10 (by decide) (SgM_10 (by decide) hS)) hO (by rw [setI_at, if_neg (fun z => absurd z.2 (by decide)), setI_at, if_pos ⟨rfl, rfl⟩]) (by omega) (by decide) (by decide) (fun μp5 e4 => ?_)
    refine rb_if_eq (pc := 39) (tgt := 68) dX3_passCoins_39 (by decide) (fun c39 => ?_) (fun c39 => ?_)
    · rw [if_neg (by rw [c39]; decide)] at e4
      rw [e4]
      refine r_aload_n (pc := 68) dX3_passCoins_68 rfl ?_
      refine r_getI (pc := 69) (x := (nI (k + 1))) dX3_passCoins_69 fX3_19 rfl rfl (by rw [setI_at, if_neg (fun z => absurd z.2 (by decide)), setI_at, if_pos ⟨rfl, rfl⟩]) ?_
      refine r_aload_n (pc := 72) dX3_passCoins_72 rfl ?_
      refine r_getI (pc := 73) (x := (nI (σ 0 4))) dX3_passCoins_73 fX3_15 rfl rfl (SgM_10 (by decide) (SgM_10 (by decide) hS)).1 ?_
      refine rn_icmp_ge (pc := 76) (tgt := 97) dX3_passCoins_76 (by decide) (by omega) (by omega) (fun c76 => ?_) (fun c76 => ?_)
      · refine r_aload_n (pc := 97) dX3_passCoins_97 rfl ?_
        refine r_bipush (pc := 98) (v := (nI (97))) dX3_passCoins_98 (by decide) ?_
        refine r_bipush (pc := 100) (v := (nI (104))) dX3_passCoins_100 (by decide) ?_
        refine r_callV (pc := 102) (d' := 0) (k := 10) (As := [.int (nI 97), .int (nI 104)]) (rest := []) dX3_passCoins_102 vX3_passOneOf mX3_38 rfl rfl rfl (Nat.le_of_ble_eq_true rfl) (Nat.le_of_ble_eq_true rfl) ?_
        refine x_po (k := k + 1) (lo := 97) (hi := 104) (SgM_10 (by decide) (SgM_10 (by decide) hS)) hO (by rw [setI_at, if_neg (fun z => absurd z.2 (by decide)), setI_at, if_pos ⟨rfl, rfl⟩]) (by omega) (by decide) (by decide) (fun μp7 e6 => ?_)
        refine rb_if_ne (pc := 105) (tgt := 110) dX3_passCoins_105 (by decide) (fun c105 => ?_) (fun c105 => ?_)
        · exact absurd (ps_iff.mp c105).1 (by omega)
        · rw [if_neg (by rw [c105]; decide)] at e6
          rw [e6]
          refine r_iconst (pc := 108) (v := (nI (0))) dX3_passCoins_108 (by decide) ?_
          refine r_ireturn (pc := 109) dX3_passCoins_109 rfl (Or.inr rfl) rfl ?_
          have hkd : kd σ k = k + 1 := by unfold kd; rw [if_pos c8, if_neg (by rw [c39]; decide)]
          have hO9 : pcO σ k nt = false := by
            rw [← Bool.not_eq_true]
            exact fun z => by have z2 := (pcO_iff.mp z).2.1; rw [hkd, c105] at z2; exact absurd z2 (by decide)
          have hP9 : pcP σ k nt = k + 1 := by unfold pcP; rw [if_neg (by rw [hO9]; decide), hkd]
          have h9 := h (setI (setI μ 10 2 (nI (k + 1))) 10 3 (nI (σ 8 (k) - (48)))) (frP.s (by decide) (frP.s (by decide) frP.rf)) (by rw [hP9]; exact (by rw [setI_at, if_neg (fun z => absurd z.2 (by decide)), setI_at, if_pos ⟨rfl, rfl⟩])) (fun z => by rw [hO9] at z; exact absurd z (by decide)) (fun j hj => by rw [setI_at, if_neg (by omega), setI_at, if_neg (by omega)])
          rw [hO9] at h9
          exact h9
      · refine r_aload_n (pc := 79) dX3_passCoins_79 rfl ?_
        refine r_getR (pc := 80) (r := 11) dX3_passCoins_80 fX3_9 rfl rfl ?_
        refine r_aload_n (pc := 83) dX3_passCoins_83 rfl ?_
        refine r_getI (pc := 84) (x := (nI (k + 1))) dX3_passCoins_84 fX3_19 rfl rfl (by rw [setI_at, if_neg (fun z => absurd z.2 (by decide)), setI_at, if_pos ⟨rfl, rfl⟩]) ?_
        refine r_cald (pc := 87) (x := (nI (σ 8 (k + 1)))) dX3_passCoins_87 rfl rfl (by omega) ((SgM_10 (by decide) (SgM_10 (by decide) hS)).2 _ (by omega)) ?_
        have b8 := Ok_s hO (j := k + 1) (by omega)
        refine r_bipush (pc := 88) (v := (nI (97))) dX3_passCoins_88 (by decide) ?_
        refine r_isub (pc := 90) dX3_passCoins_90 ?_
        refine r_iload_n (pc := 91) dX3_passCoins_91 rfl ?_
        refine r_icmp_ne (pc := 92) (tgt := 97) dX3_passCoins_92 (by decide) (fun c92 => ?_) (fun c92 => ?_)
        · refine r_aload_n (pc := 97) dX3_passCoins_97 rfl ?_
          refine r_bipush (pc := 98) (v := (nI (97))) dX3_passCoins_98 (by decide) ?_
          refine r_bipush (pc := 100) (v := (nI (104))) dX3_passCoins_100 (by decide) ?_
          refine r_callV (pc := 102) (d' := 0) (k := 10) (As := [.int (nI 97), .int (nI 104)]) (rest := []) dX3_passCoins_102 vX3_passOneOf mX3_38 rfl rfl rfl (Nat.le_of_ble_eq_true rfl) (Nat.le_of_ble_eq_true rfl) ?_
          refine x_po (k := k + 1) (lo := 97) (hi := 104) (SgM_10 (by decide) (SgM_10 (by decide) hS)) hO (by rw [setI_at, if_neg (fun z => absurd z.2 (by decide)), setI_at, if_pos ⟨rfl, rfl⟩]) (by omega) (by decide) (by decide) (fun μp10 e9 => ?_)
          refine rb_if_ne (pc := 105) (tgt := 110) dX3_passCoins_105 (by decide) (fun c105 => ?_) (fun c105 => ?_)
          · rw [if_pos c105] at e9
            rw [e9]
            have hq105 := ps_iff.mp c105
            refine r_aload_n (pc := 110) dX3_passCoins_110 rfl ?_
            refine r_aload_n (pc := 111) dX3_passCoins_111 rfl ?_
            refine r_getR (pc := 112) (r := 11) dX3_passCoins_112 fX3_9 rfl rfl ?_
            refine r_aload_n (pc := 115) dX3_passCoins_115 rfl ?_
            refine r_getI (pc := 116) (x := (nI (k + 1 + 1))) dX3_passCoins_116 fX3_19 rfl rfl (by rw [setI_at, if_pos ⟨rfl, rfl⟩]) ?_
            refine r_iconst (pc := 119) (v := (nI (1))) dX3_passCoins_119 (by decide) ?_
            refine rn_isub (pc := 120) dX3_passCoins_120 (by omega) ?_
            refine r_eqi (y := nI (k + 1)) rfl ?_
            refine r_cald (pc := 121) (x := (nI (σ 8 (k + 1)))) dX3_passCoins_121 rfl rfl (by omega) ((SgM_10 (by decide) (SgM_10 (by decide) (SgM_10 (by decide) hS))).2 _ (by omega)) ?_
            have b11 := Ok_s hO (j := k + 1) (by omega)
            refine r_bipush (pc := 122) (v := (nI (97))) dX3_passCoins_122 (by decide) ?_
            refine rn_isub (pc := 124) dX3_passCoins_124 (by omega) ?_
            refine r_putI (pc := 125) dX3_passCoins_125 gX3_25 rfl rfl rfl rfl ?_
            refine r_iconst (pc := 128) (v := (nI (1))) dX3_passCoins_128 (by decide) ?_
            refine r_ireturn (pc := 129) dX3_passCoins_129 rfl (Or.inr rfl) rfl ?_
            have hkd : kd σ k = k + 1 := by unfold kd; rw [if_pos c8, if_neg (by rw [c39]; decide)]
            have hO9 : pcO σ k nt = true := pcO_iff.mpr ⟨c8, by rw [hkd]; exact c105, fun z => by rw [hkd] at z; exact c92 ((hnv _ (by omega) (by omega)).mpr z)⟩
            have hP9 : pcP σ k nt = k + 1 + 1 := by unfold pcP; rw [if_pos hO9, hkd]
            have h9 := h (setI (setI (setI (setI μ 10 2 (nI (k + 1))) 10 3 (nI (σ 8 (k) - (48)))) 10 2 (nI (k + 1 + 1))) 10 4 (nI (σ 8 (k + 1) - (97)))) (frP.s (by decide) (frP.s (by decide) (frP.s (by decide) (frP.s (by decide) frP.rf)))) (by rw [hP9]; exact (by rw [setI_at, if_neg (fun z => absurd z.2 (by decide)), setI_at, if_pos ⟨rfl, rfl⟩])) (fun _ => ⟨by rw [show am σ k = σ 8 (k) - (48) by unfold am; rw [if_neg (by rw [c39]; decide)]]; exact (by rw [setI_at, if_neg (fun z => absurd z.2 (by decide)), setI_at, if_neg (fun z => absurd z.2 (by decide)), setI_at, if_pos ⟨rfl, rfl⟩]), by rw [hkd]; exact (by rw [setI_at, if_pos ⟨rfl, rfl⟩])⟩) (fun j hj => by rw [setI_at, if_neg (by omega), setI_at, if_neg (by omega), setI_at, if_neg (by omega), setI_at, if_neg (by omega)])
            rw [hO9] at h9
            exact h9
          · rw [if_neg (by rw [c105]; decide)] at e9
            rw [e9]
            refine r_iconst (pc := 108) (v := (nI (0))) dX3_passCoins_108 (by decide) ?_
            refine r_ireturn (pc := 109) dX3_passCoins_109 rfl (Or.inr rfl) rfl ?_
            have hkd : kd σ k = k + 1 := by unfold kd; rw [if_pos c8, if_neg (by rw [c39]; decide)]
            have hO9 : pcO σ k nt = false := by
              rw [← Bool.not_eq_true]
              exact fun z => by have z2 := (pcO_iff.mp z).2.1; rw [hkd, c105] at z2; exact absurd z2 (by decide)
            have hP9 : pcP σ k nt = k + 1 := by unfold pcP; rw [if_neg (by rw [hO9]; decide), hkd]
            have h9 := h (setI (setI μ 10 2 (nI (k + 1))) 10 3 (nI (σ 8 (k) - (48)))) (frP.s (by decide) (frP.s (by decide) frP.rf)) (by rw [hP9]; exact (by rw [setI_at, if_neg (fun z => absurd z.2 (by decide)), setI_at, if_pos ⟨rfl, rfl⟩])) (fun z => by rw [hO9] at z; exact absurd z (by decide)) (fun j hj => by rw [setI_at, if_neg (by omega), setI_at, if_neg (by omega)])
            rw [hO9] at h9
            exact h9
        · refine r_iconst (pc := 95) (v := (nI (0))) dX3_passCoins_95 (by decide) ?_
          refine r_ireturn (pc := 96) dX3_passCoins_96 rfl (Or.inr rfl) rfl ?_
          have hkd : kd σ k = k + 1 := by unfold kd; rw [if_pos c8, if_neg (by rw [c39]; decide)]
          have hO9 : pcO σ k nt = false := by
            rw [← Bool.not_eq_true]
            exact fun z => by have z2 := pcO_iff.mp z; rw [hkd] at z2; have z3 := ps_iff.mp z2.2.1; exact z2.2.2 ((hnv _ z3.2.1 z3.2.2).mp c92)
          have hP9 : pcP σ k nt = k + 1 := by unfold pcP; rw [if_neg (by rw [hO9]; decide), hkd]
          have h9 := h (setI (setI μ 10 2 (nI (k + 1))) 10 3 (nI (σ 8 (k) - (48)))) (frP.s (by decide) (frP.s (by decide) frP.rf)) (by rw [hP9]; exact (by rw [setI_at, if_neg (fun z => absurd z.2 (by decide)), setI_at, if_pos ⟨rfl, rfl⟩])) (fun z => by rw [hO9] at z; exact absurd z (by decide)) (fun j hj => by rw [setI_at, if_neg (by omega), setI_at, if_neg (by omega)])
          rw [hO9] at h9
          exact h9
    · rw [if_pos c39] at e4
      rw [e4]
      have hq39 := ps_iff.mp c39
      refine r_aload_n (pc := 42) dX3_passCoins_42 rfl ?_
      refine r_bipush (pc := 43) (v := (nI (10))) dX3_passCoins_43 (by decide) ?_
      refine r_aload_n (pc := 45) dX3_passCoins_45 rfl ?_
      refine r_getI (pc := 46) (x := (nI (σ 8 (k) - (48)))) dX3_passCoins_46 fX3_22 rfl rfl (by rw [setI_at, if_neg (fun z => absurd z.2 (by decide)), setI_at, if_pos ⟨rfl, rfl⟩]) ?_
      refine rn_imul (pc := 49) dX3_passCoins_49 ?_
      refine r_aload_n (pc := 50) dX3_passCoins_50 rfl ?_
      refine r_getR (pc := 51) (r := 11) dX3_passCoins_51 fX3_9 rfl rfl ?_
      refine r_aload_n (pc := 54) dX3_passCoins_54 rfl ?_
      refine r_getI (pc := 55) (x := (nI (k + 1 + 1))) dX3_passCoins_55 fX3_19 rfl rfl (by rw [setI_at, if_pos ⟨rfl, rfl⟩]) ?_
      refine r_iconst (pc := 58) (v := (nI (1))) dX3_passCoins_58 (by decide) ?_
      refine rn_isub (pc := 59) dX3_passCoins_59 (by omega) ?_
      refine r_eqi (y := nI (k + 1)) rfl ?_
      refine r_cald (pc := 60) (x := (nI (σ 8 (k + 1)))) dX3_passCoins_60 rfl rfl (by omega) ((SgM_10 (by decide) (SgM_10 (by decide) (SgM_10 (by decide) hS))).2 _ (by omega)) ?_
      have b12 := Ok_s hO (j := k + 1) (by omega)
      refine rn_iadd (pc := 61) dX3_passCoins_61 ?_
      refine r_bipush (pc := 62) (v := (nI (48))) dX3_passCoins_62 (by decide) ?_
      refine rn_isub (pc := 64) dX3_passCoins_64 (by omega) ?_
      refine r_putI (pc := 65) dX3_passCoins_65 gX3_22 rfl rfl rfl rfl ?_
      refine r_aload_n (pc := 68) dX3_passCoins_68 rfl ?_
      refine r_getI (pc := 69) (x := (nI (k + 1 + 1))) dX3_passCoins_69 fX3_19 rfl rfl (by rw [setI_at, if_neg (fun z => absurd z.2 (by decide)), setI_at, if_pos ⟨rfl, rfl⟩]) ?_
      refine r_aload_n (pc := 72) dX3_passCoins_72 rfl ?_
      refine r_getI (pc := 73) (x := (nI (σ 0 4))) dX3_passCoins_73 fX3_15 rfl rfl (SgM_10 (by decide) (SgM_10 (by decide) (SgM_10 (by decide) (SgM_10 (by decide) hS)))).1 ?_
      refine rn_icmp_ge (pc := 76) (tgt := 97) dX3_passCoins_76 (by decide) (by omega) (by omega) (fun c76 => ?_) (fun c76 => ?_)
      · refine r_aload_n (pc := 97) dX3_passCoins_97 rfl ?_
        refine r_bipush (pc := 98) (v := (nI (97))) dX3_passCoins_98 (by decide) ?_
        refine r_bipush (pc := 100) (v := (nI (104))) dX3_passCoins_100 (by decide) ?_
        refine r_callV (pc := 102) (d' := 0) (k := 10) (As := [.int (nI 97), .int (nI 104)]) (rest := []) dX3_passCoins_102 vX3_passOneOf mX3_38 rfl rfl rfl (Nat.le_of_ble_eq_true rfl) (Nat.le_of_ble_eq_true rfl) ?_
        refine x_po (k := k + 1 + 1) (lo := 97) (hi := 104) (SgM_10 (by decide) (SgM_10 (by decide) (SgM_10 (by decide) (SgM_10 (by decide) hS)))) hO (by rw [setI_at, if_neg (fun z => absurd z.2 (by decide)), setI_at, if_pos ⟨rfl, rfl⟩]) (by omega) (by decide) (by decide) (fun μp14 e13 => ?_)
        refine rb_if_ne (pc := 105) (tgt := 110) dX3_passCoins_105 (by decide) (fun c105 => ?_) (fun c105 => ?_)
        · exact absurd (ps_iff.mp c105).1 (by omega)
        · rw [if_neg (by rw [c105]; decide)] at e13
          rw [e13]
          refine r_iconst (pc := 108) (v := (nI (0))) dX3_passCoins_108 (by decide) ?_
          refine r_ireturn (pc := 109) dX3_passCoins_109 rfl (Or.inr rfl) rfl ?_
          have hkd : kd σ k = k + 1 + 1 := by unfold kd; rw [if_pos c8, if_pos c39]
          have hO9 : pcO σ k nt = false := by
            rw [← Bool.not_eq_true]
            exact fun z => by have z2 := (pcO_iff.mp z).2.1; rw [hkd, c105] at z2; exact absurd z2 (by decide)
          have hP9 : pcP σ k nt = k + 1 + 1 := by unfold pcP; rw [if_neg (by rw [hO9]; decide), hkd]
          have h9 := h (setI (setI (setI (setI μ 10 2 (nI (k + 1))) 10 3 (nI (σ 8 (k) - (48)))) 10 2 (nI (k + 1 + 1))) 10 3 (nI (((10) * (σ 8 (k) - (48))) + (σ 8 (k + 1)) - (48)))) (frP.s (by decide) (frP.s (by decide) (frP.s (by decide) (frP.s (by decide) frP.rf)))) (by rw [hP9]; exact (by rw [setI_at, if_neg (fun z => absurd z.2 (by decide)), setI_at, if_pos ⟨rfl, rfl⟩])) (fun z => by rw [hO9] at z; exact absurd z (by decide)) (fun j hj => by rw [setI_at, if_neg (by omega), setI_at, if_neg (by omega), setI_at, if_neg (by omega), setI_at, if_neg (by omega)])
          rw [hO9] at h9
          exact h9
      · refine r_aload_n (pc := 79) dX3_passCoins_79 rfl ?_
        refine r_getR (pc := 80) (r := 11) dX3_passCoins_80 fX3_9 rfl rfl ?_
        refine r_aload_n (pc := 83) dX3_passCoins_83 rfl ?_
        refine r_getI (pc := 84) (x := (nI (k + 1 + 1))) dX3_passCoins_84 fX3_19 rfl rfl (by rw [setI_at, if_neg (fun z => absurd z.2 (by decide)), setI_at, if_pos ⟨rfl, rfl⟩]) ?_
        refine r_cald (pc := 87) (x := (nI (σ 8 (k + 1 + 1)))) dX3_passCoins_87 rfl rfl (by omega) ((SgM_10 (by decide) (SgM_10 (by decide) (SgM_10 (by decide) (SgM_10 (by decide) hS)))).2 _ (by omega)) ?_
        have b15 := Ok_s hO (j := k + 1 + 1) (by omega)
        refine r_bipush (pc := 88) (v := (nI (97))) dX3_passCoins_88 (by decide) ?_
        refine r_isub (pc := 90) dX3_passCoins_90 ?_
        refine r_iload_n (pc := 91) dX3_passCoins_91 rfl ?_
        refine r_icmp_ne (pc := 92) (tgt := 97) dX3_passCoins_92 (by decide) (fun c92 => ?_) (fun c92 => ?_)
        · refine r_aload_n (pc := 97) dX3_passCoins_97 rfl ?_
          refine r_bipush (pc := 98) (v := (nI (97))) dX3_passCoins_98 (by decide) ?_
          refine r_bipush (pc := 100) (v := (nI (104))) dX3_passCoins_100 (by decide) ?_
          refine r_callV (pc := 102) (d' := 0) (k := 10) (As := [.int (nI 97), .int (nI 104)]) (rest := []) dX3_passCoins_102 vX3_passOneOf mX3_38 rfl rfl rfl (Nat.le_of_ble_eq_true rfl) (Nat.le_of_ble_eq_true rfl) ?_
          refine x_po (k := k + 1 + 1) (lo := 97) (hi := 104) (SgM_10 (by decide) (SgM_10 (by decide) (SgM_10 (by decide) (SgM_10 (by decide) hS)))) hO (by rw [setI_at, if_neg (fun z => absurd z.2 (by decide)), setI_at, if_pos ⟨rfl, rfl⟩]) (by omega) (by decide) (by decide) (fun μp17 e16 => ?_)
          refine rb_if_ne (pc := 105) (tgt := 110) dX3_passCoins_105 (by decide) (fun c105 => ?_) (fun c105 => ?_)
          · rw [if_pos c105] at e16
            rw [e16]
            have hq105 := ps_iff.mp c105
            refine r_aload_n (pc := 110) dX3_passCoins_110 rfl ?_
            refine r_aload_n (pc := 111) dX3_passCoins_111 rfl ?_
            refine r_getR (pc := 112) (r := 11) dX3_passCoins_112 fX3_9 rfl rfl ?_
            refine r_aload_n (pc := 115) dX3_passCoins_115 rfl ?_
            refine r_getI (pc := 116) (x := (nI (k + 1 + 1 + 1))) dX3_passCoins_116 fX3_19 rfl rfl (by rw [setI_at, if_pos ⟨rfl, rfl⟩]) ?_
            refine r_iconst (pc := 119) (v := (nI (1))) dX3_passCoins_119 (by decide) ?_
            refine rn_isub (pc := 120) dX3_passCoins_120 (by omega) ?_
            refine r_eqi (y := nI (k + 1 + 1)) rfl ?_
            refine r_cald (pc := 121) (x := (nI (σ 8 (k + 1 + 1)))) dX3_passCoins_121 rfl rfl (by omega) ((SgM_10 (by decide) (SgM_10 (by decide) (SgM_10 (by decide) (SgM_10 (by decide) (SgM_10 (by decide) hS))))).2 _ (by omega)) ?_
            have b18 := Ok_s hO (j := k + 1 + 1) (by omega)
            refine r_bipush (pc := 122) (v := (nI (97))) dX3_passCoins_122 (by decide) ?_
            refine rn_isub (pc := 124) dX3_passCoins_124 (by omega) ?_
            refine r_putI (pc := 125) dX3_passCoins_125 gX3_25 rfl rfl rfl rfl ?_
            refine r_iconst (pc := 128) (v := (nI (1))) dX3_passCoins_128 (by decide) ?_
            refine r_ireturn (pc := 129) dX3_passCoins_129 rfl (Or.inr rfl) rfl ?_
            have hkd : kd σ k = k + 1 + 1 := by unfold kd; rw [if_pos c8, if_pos c39]
            have hO9 : pcO σ k nt = true := pcO_iff.mpr ⟨c8, by rw [hkd]; exact c105, fun z => by rw [hkd] at z; exact c92 ((hnv _ (by omega) (by omega)).mpr z)⟩
            have hP9 : pcP σ k nt = k + 1 + 1 + 1 := by unfold pcP; rw [if_pos hO9, hkd]
            have h9 := h (setI (setI (setI (setI (setI (setI μ 10 2 (nI (k + 1))) 10 3 (nI (σ 8 (k) - (48)))) 10 2 (nI (k + 1 + 1))) 10 3 (nI (((10) * (σ 8 (k) - (48))) + (σ 8 (k + 1)) - (48)))) 10 2 (nI (k + 1 + 1 + 1))) 10 4 (nI (σ 8 (k + 1 + 1) - (97)))) (frP.s (by decide) (frP.s (by decide) (frP.s (by decide) (frP.s (by decide) (frP.s (by decide) (frP.s (by decide) frP.rf)))))) (by rw [hP9]; exact (by rw [setI_at, if_neg (fun z => absurd z.2 (by decide)), setI_at, if_pos ⟨rfl, rfl⟩])) (fun _ => ⟨by rw [show am σ k = ((10) * (σ 8 (k) - (48))) + (σ 8 (k + 1)) - (48) by unfold am; rw [if_pos c39]]; exact (by rw [setI_at, if_neg (fun z => absurd z.2 (by decide)), setI_at, if_neg (fun z => absurd z.2 (by decide)), setI_at, if_pos ⟨rfl, rfl⟩]), by rw [hkd]; exact (by rw [setI_at, if_pos ⟨rfl, rfl⟩])⟩) (fun j hj => by rw [setI_at, if_neg (by omega), setI_at, if_neg (by omega), setI_at, if_neg (by omega), setI_at, if_neg (by omega), setI_at, if_neg (by omega), setI_at, if_neg (by omega)])
            rw [hO9] at h9
            exact h9
          · rw [if_neg (by rw [c105]; decide)] at e16
            rw [e16]
            refine r_iconst (pc := 108) (v := (nI (0))) dX3_passCoins_108 (by decide) ?_
            refine r_ireturn (pc := 109) dX3_passCoins_109 rfl (Or.inr rfl) rfl ?_
            have hkd : kd σ k = k + 1 + 1 := by unfold kd; rw [if_pos c8, if_pos c39]
            have hO9 : pcO σ k nt = false := by
              rw [← Bool.not_eq_true]
              exact fun z => by have z2 := (pcO_iff.mp z).2.1; rw [hkd, c105] at z2; exact absurd z2 (by decide)
            have hP9 : pcP σ k nt = k + 1 + 1 := by unfold pcP; rw [if_neg (by rw [hO9]; decide), hkd]
            have h9 := h (setI (setI (setI (setI μ 10 2 (nI (k + 1))) 10 3 (nI (σ 8 (k) - (48)))) 10 2 (nI (k + 1 + 1))) 10 3 (nI (((10) * (σ 8 (k) - (48))) + (σ 8 (k + 1)) - (48)))) (frP.s (by decide) (frP.s (by decide) (frP.s (by decide) (frP.s (by decide) frP.rf)))) (by rw [hP9]; exact (by rw [setI_at, if_neg (fun z => absurd z.2 (by decide)), setI_at, if_pos ⟨rfl, rfl⟩])) (fun z => by rw [hO9] at z; exact absurd z (by decide)) (fun j hj => by rw [setI_at, if_neg (by omega), setI_at, if_neg (by omega), setI_at, if_neg (by omega), setI_at, if_neg (by omega)])
            rw [hO9] at h9
            exact h9
        · refine r_iconst (pc := 95) (v := (nI (0))) dX3_passCoins_95 (by decide) ?_
          refine r_ireturn (pc := 96) dX3_passCoins_96 rfl (Or.inr rfl) rfl ?_
          have hkd : kd σ k = k + 1 + 1 := by unfold kd; rw [if_pos c8, if_pos c39]
          have hO9 : pcO σ k nt = false := by
            rw [← Bool.not_eq_true]
            exact fun z => by have z2 := pcO_iff.mp z; rw [hkd] at z2; have z3 := ps_iff.mp z2.2.1; exact z2.2.2 ((hnv _ z3.2.1 z3.2.2).mp c92)
          have hP9 : pcP σ k nt = k + 1 + 1 := by unfold pcP; rw [if_neg (by rw [hO9]; decide), hkd]
          have h9 := h (setI (setI (setI (setI μ 10 2 (nI (k + 1))) 10 3 (nI (σ 8 (k) - (48)))) 10 2 (nI (k + 1 + 1))) 10 3 (nI (((10) * (σ 8 (k) - (48))) + (σ 8 (k + 1)) - (48)))) (frP.s (by decide) (frP.s (by decide) (frP.s (by decide) (frP.s (by decide) frP.rf)))) (by rw [hP9]; exact (by rw [setI_at, if_neg (fun z => absurd z.2 (by decide)), setI_at, if_pos ⟨rfl, rfl⟩])) (fun z => by rw [hO9] at z; exact absurd z (by decide)) (fun j hj => by rw [setI_at, if_neg (by omega), setI_at, if_neg (by omega), setI_at, if_neg (by omega), setI_at, if_neg (by omega)])
          rw [hO9] at h9
          exact h9
  · rw [if_neg (by rw [c8]; decide)] at e1
    rw [e1]
    refine r_iconst (pc := 11) (v := (nI (0))) dX3_passCoins_11 (by decide) ?_
    refine r_ireturn (pc := 12) dX3_passCoins_12 rfl (Or.inr rfl) rfl ?_
    have hO9 : pcO σ k nt = false := by unfold pcO; rw [c8]; rfl
    have hP9 : pcP σ k nt = k := by unfold pcP kd; rw [if_neg (by rw [hO9]; decide), if_neg (by rw [c8]; decide)]
    have h9 := h μ frP.rf (by rw [hP9]; exact (hpl)) (fun z => by rw [hO9] at z; exact absurd z (by decide)) (fun _ _ => rfl)
    rw [hO9] at h9
    exact h9

theorem nv_none (s : Nat) (h1 : 97 ≤ s) (h2 : s ≤ 104) : nI s - nI 97 = -1 ↔ (none : Option Nat) = some s := by
  constructor
  · intro h
    rw [nI_sub h1] at h
    have h3 : (nI (s - 97)).toInt = (-1 : Int32).toInt := by rw [h]
    rw [nI_toInt (by omega)] at h3
    have : ((-1 : Int32)).toInt = -1 := by decide
    omega
  · intro h; cases h
theorem nv_some {c : Nat} (hc : 97 ≤ c ∧ c ≤ 104) (s : Nat) (h1 : 97 ≤ s) (h2 : s ≤ 104) : nI s - nI 97 = nI (c - 97) ↔ some c = some s := by
  rw [nI_sub h1]
  constructor
  · intro h
    have h3 : (nI (s - 97)).toInt = (nI (c - 97)).toInt := by rw [h]
    rw [nI_toInt (by omega), nI_toInt (by omega)] at h3
    congr 1
    omega
  · intro h
    rw [Option.some.inj h]

set_option maxRecDepth 20000 in
set_option maxHeartbeats 4000000 in
theorem x_pb {μ : Mem} {σ : Sg} {k : Nat} {Q : Option Value → Mem → Prop} (hS : SgM μ σ) (hO : Ok σ) (hpl : μ.1 10 2 = nI k) (hk : k ≤ σ 0 4) (h : ∀ μ', frP μ μ' → μ'.1 10 2 = nI (pbP σ k) → (pbO σ k = true → μ'.1 10 5 = nI (am σ k) ∧ μ'.1 10 6 = nI (c1 σ k - 97) ∧ μ'.1 10 4 = nI (c2 σ k - 97) ∧ μ'.1 10 3 = nI (am σ (k3 σ k))) → Q (some (.int (b2i (pbO σ k)))) μ') : Sp iX3_passBoard 2 [.ref 10] μ Q := by
  refine Sp.of vX3_passBoard.1 (Nat.le_of_ble_eq_true rfl) ?_
  show WP cX3_passBoard (RX3, 1, (some .boolean), 2, none) 0 [(0, .ref 10)] [] μ Q
  have hn := Ok_n hO
  refine r_aload_n (pc := 0) dX3_passBoard_0 rfl ?_
  refine r_iconst (pc := 1) (v := (-1)) dX3_passBoard_1 (by decide) ?_
  refine r_callV (pc := 2) (d' := 1) (k := 10) (As := [.int ((-1))]) (rest := []) dX3_passBoard_2 vX3_passCoins mX3_48 rfl rfl rfl (Nat.le_of_ble_eq_true rfl) (Nat.le_of_ble_eq_true rfl) ?_
  refine x_pc (k := k) hS hO (hpl) (by omega) nv_none (fun μ1 f1 p1 a1 r1 => ?_)
  refine rb_if_ne (pc := 5) (tgt := 10) dX3_passBoard_5 (by decide) (fun c5 => ?_) (fun c5 => ?_)
  · have hpl1 := pcP_le (σ := σ) (k := k) (nt := none) hk
    have hc1 : 97 ≤ c1 σ k ∧ c1 σ k ≤ 104 := (ps_iff.mp (pcO_iff.mp c5).2.1).2
    refine r_aload_n (pc := 10) dX3_passBoard_10 rfl ?_
    refine r_aload_n (pc := 11) dX3_passBoard_11 rfl ?_
    refine r_getI (pc := 12) (x := (nI (am σ k))) dX3_passBoard_12 fX3_22 rfl rfl ((a1 c5).1) ?_
    refine r_putI (pc := 15) dX3_passBoard_15 gX3_28 rfl rfl rfl rfl ?_
    refine r_aload_n (pc := 18) dX3_passBoard_18 rfl ?_
    refine r_aload_n (pc := 19) dX3_passBoard_19 rfl ?_
    refine r_getI (pc := 20) (x := (nI (c1 σ k - 97))) dX3_passBoard_20 fX3_25 rfl rfl (by rw [setI_at, if_neg (fun z => absurd z.2 (by decide))]; exact (a1 c5).2) ?_
    refine r_putI (pc := 23) dX3_passBoard_23 gX3_31 rfl rfl rfl rfl ?_
    refine r_aload_n (pc := 26) dX3_passBoard_26 rfl ?_
    refine r_bipush (pc := 27) (v := (nI (62))) dX3_passBoard_27 (by decide) ?_
    refine r_bipush (pc := 29) (v := (nI (62))) dX3_passBoard_29 (by decide) ?_
    refine r_callV (pc := 31) (d' := 0) (k := 10) (As := [.int (nI 62), .int (nI 62)]) (rest := []) dX3_passBoard_31 vX3_passOneOf mX3_38 rfl rfl rfl (Nat.le_of_ble_eq_true rfl) (Nat.le_of_ble_eq_true rfl) ?_
    refine x_po (k := pcP σ k none) (lo := 62) (hi := 62) (SgM_10 (by decide) (SgM_10 (by decide) (SgM_frP f1 hS))) hO (by rw [setI_at, if_neg (fun z => absurd z.2 (by decide)), setI_at, if_neg (fun z => absurd z.2 (by decide))]; exact p1) (by omega) (by decide) (by decide) (fun μp2 e1 => ?_)
    refine rb_if_eq (pc := 34) (tgt := 52) dX3_passBoard_34 (by decide) (fun c34 => ?_) (fun c34 => ?_)
    · rw [if_neg (by rw [c34]; decide)] at e1
      rw [e1]
      refine r_iconst (pc := 52) (v := (nI (0))) dX3_passBoard_52 (by decide) ?_
      refine r_ireturn (pc := 53) dX3_passBoard_53 rfl (Or.inr rfl) rfl ?_
      have hO9 : pbO σ k = false := by unfold pbO; rw [c34, Bool.false_and, Bool.and_false]
      have hP9 : pbP σ k = pcP σ k none := by unfold pbP; rw [if_neg (fun z => by rw [c34] at z; exact absurd z.2 (by decide))]
      have h9 := h (setI (setI μ1 10 5 (nI (am σ k))) 10 6 (nI (c1 σ k - 97))) (frP.s (by decide) (frP.s (by decide) f1)) (by rw [hP9]; exact (by rw [setI_at, if_neg (fun z => absurd z.2 (by decide)), setI_at, if_neg (fun z => absurd z.2 (by decide))]; exact p1)) (fun z => by rw [hO9] at z; exact absurd z (by decide))
      rw [hO9] at h9
      exact h9
    · rw [if_pos c34] at e1
      rw [e1]
      have hq34 := ps_iff.mp c34
      refine r_aload_n (pc := 37) dX3_passBoard_37 rfl ?_
      refine r_aload_n (pc := 38) dX3_passBoard_38 rfl ?_
      refine r_getI (pc := 39) (x := (nI (c1 σ k - 97))) dX3_passBoard_39 fX3_31 rfl rfl (by rw [setI_at, if_neg (fun z => absurd z.2 (by decide)), setI_at, if_pos ⟨rfl, rfl⟩]) ?_
      refine r_callV (pc := 42) (d' := 1) (k := 10) (As := [.int (nI (c1 σ k - 97))]) (rest := []) dX3_passBoard_42 vX3_passCoins mX3_48 rfl rfl rfl (Nat.le_of_ble_eq_true rfl) (Nat.le_of_ble_eq_true rfl) ?_
      refine x_pc (k := pcP σ k none + 1) (SgM_10 (by decide) (SgM_10 (by decide) (SgM_10 (by decide) (SgM_frP f1 hS)))) hO (by rw [setI_at, if_pos ⟨rfl, rfl⟩]) (by omega) (nv_some hc1) (fun μ2 f2 p2 a2 r2 => ?_)
      refine rb_if_eq (pc := 45) (tgt := 52) dX3_passBoard_45 (by decide) (fun c45 => ?_) (fun c45 => ?_)
      · refine r_iconst (pc := 52) (v := (nI (0))) dX3_passBoard_52 (by decide) ?_
        refine r_ireturn (pc := 53) dX3_passBoard_53 rfl (Or.inr rfl) rfl ?_
        have hP9 : pbP σ k = pcP σ (k3 σ k) (some (c1 σ k)) := by unfold pbP; rw [if_pos ⟨c5, c34⟩]
        have hO9 : pbO σ k = false := by unfold pbO; rw [show pcO σ (k3 σ k) (some (c1 σ k)) = false from c45, Bool.and_false, Bool.and_false]
        have h9 := h μ2 (frP.tr (frP.s (by decide) (frP.s (by decide) (frP.s (by decide) f1))) f2) (by rw [hP9]; exact (p2)) (fun z => by rw [hO9] at z; exact absurd z (by decide))
        rw [hO9] at h9
        exact h9
      · refine r_iconst (pc := 48) (v := (nI (1))) dX3_passBoard_48 (by decide) ?_
        refine r_goto (pc := 49) (tgt := 53) dX3_passBoard_49 (by decide) ?_
        refine r_ireturn (pc := 53) dX3_passBoard_53 rfl (Or.inr rfl) rfl ?_
        have hP9 : pbP σ k = pcP σ (k3 σ k) (some (c1 σ k)) := by unfold pbP; rw [if_pos ⟨c5, c34⟩]
        have hO9 : pbO σ k = true := pbO_iff.mpr ⟨c5, c34, c45⟩
        have h9 := h μ2 (frP.tr (frP.s (by decide) (frP.s (by decide) (frP.s (by decide) f1))) f2) (by rw [hP9]; exact (p2)) (fun _ => ⟨(r2 5 (by decide)).trans (by rw [setI_at, if_neg (fun z => absurd z.2 (by decide)), setI_at, if_neg (fun z => absurd z.2 (by decide)), setI_at, if_pos ⟨rfl, rfl⟩]), (r2 6 (by decide)).trans (by rw [setI_at, if_neg (fun z => absurd z.2 (by decide)), setI_at, if_pos ⟨rfl, rfl⟩]), (a2 c45).2, (a2 c45).1⟩)
        rw [hO9] at h9
        exact h9
  · refine r_iconst (pc := 8) (v := (nI (0))) dX3_passBoard_8 (by decide) ?_
    refine r_ireturn (pc := 9) dX3_passBoard_9 rfl (Or.inr rfl) rfl ?_
    have hO9 : pbO σ k = false := by unfold pbO; rw [c5]; rfl
    have hP9 : pbP σ k = pcP σ k none := by unfold pbP; rw [if_neg (fun z => by rw [c5] at z; exact absurd z.1 (by decide))]
    have h9 := h μ1 f1 (by rw [hP9]; exact (p1)) (fun z => by rw [hO9] at z; exact absurd z (by decide))
    rw [hO9] at h9
    exact h9

set_option maxRecDepth 20000 in
set_option maxHeartbeats 4000000 in
theorem x_fp_l {μ : Mem} {σ : Sg} {Q : Option Value → Mem → Prop} (hS : SgM μ σ) (hO : Ok σ) (h : ∀ μ', frP μ μ' → Q (some (.int (sp_fault σ))) μ') : ∀ (q : Nat) (n k c : Nat) (μ1 : Mem), q = 81 - k → frP μ μ1 → μ1.1 10 2 = nI k → k ≤ σ 0 4 → n ≤ k → fl σ k 0 c = fl σ 0 0 0 → WP cX3_faultPlace (RX3, 2, (some .int), 3, none) 7 [(0, .ref 10), (1, .int (nI n))] [] μ1 Q := by
  intro q
  induction q using Nat.strongRecOn with
  | _ q ih =>
    intro n k c μ1 hq0 hf1 hpl hk hnk hfl
    have hn := Ok_n hO
    rw [fl_board hk] at hfl
    refine r_iload_n (pc := 7) dX3_faultPlace_7 rfl ?_
    refine r_bipush (pc := 8) (v := (nI (80))) dX3_faultPlace_8 (by decide) ?_
    refine rn_icmp_gt (pc := 10) (tgt := 61) dX3_faultPlace_10 (by decide) (by omega) (by omega) (fun c10 => ?_) (fun c10 => ?_)
    · refine r_aload_n (pc := 61) dX3_faultPlace_61 rfl ?_
      refine r_getI (pc := 62) (x := (nI (k))) dX3_faultPlace_62 fX3_19 rfl rfl (hpl) ?_
      refine r_ireturn (pc := 65) dX3_faultPlace_65 rfl (Or.inl rfl) rfl ?_
      exact absurd c10 (by omega)
    · refine r_aload_n (pc := 13) dX3_faultPlace_13 rfl ?_
      refine r_callV (pc := 14) (d' := 2) (k := 10) (As := []) (rest := []) dX3_faultPlace_14 vX3_passBoard mX3_34 rfl rfl rfl (Nat.le_of_ble_eq_true rfl) (Nat.le_of_ble_eq_true rfl) ?_
      refine x_pb (k := k) (SgM_frP hf1 hS) hO (hpl) (by omega) (fun μ2 f2 p2 a2 => ?_)
      have hpb := pbP_le (σ := σ) (k := k) hk
      refine rb_if_ne (pc := 17) (tgt := 25) dX3_faultPlace_17 (by decide) (fun c17 => ?_) (fun c17 => ?_)
      · refine r_aload_n (pc := 25) dX3_faultPlace_25 rfl ?_
        refine r_getI (pc := 26) (x := (nI (pbP σ k))) dX3_faultPlace_26 fX3_19 rfl rfl (p2) ?_
        refine r_aload_n (pc := 29) dX3_faultPlace_29 rfl ?_
        refine r_getI (pc := 30) (x := (nI (σ 0 4))) dX3_faultPlace_30 fX3_15 rfl rfl (SgM_frP (hf1.tr f2) hS).1 ?_
        refine rn_icmp_ne (pc := 33) (tgt := 39) dX3_faultPlace_33 (by decide) (by omega) (by omega) (fun c33 => ?_) (fun c33 => ?_)
        · refine r_aload_n (pc := 39) dX3_faultPlace_39 rfl ?_
          refine r_bipush (pc := 40) (v := (nI (59))) dX3_faultPlace_40 (by decide) ?_
          refine r_bipush (pc := 42) (v := (nI (59))) dX3_faultPlace_42 (by decide) ?_
          refine r_callV (pc := 44) (d' := 0) (k := 10) (As := [.int (nI 59), .int (nI 59)]) (rest := []) dX3_faultPlace_44 vX3_passOneOf mX3_38 rfl rfl rfl (Nat.le_of_ble_eq_true rfl) (Nat.le_of_ble_eq_true rfl) ?_
          refine x_po (k := pbP σ k) (lo := 59) (hi := 59) (SgM_frP (hf1.tr f2) hS) hO (p2) (by omega) (by decide) (by decide) (fun μp2 e1 => ?_)
          refine rb_if_ne (pc := 47) (tgt := 55) dX3_faultPlace_47 (by decide) (fun c47 => ?_) (fun c47 => ?_)
          · rw [if_pos c47] at e1
            rw [e1]
            have hq47 := ps_iff.mp c47
            refine rn_iinc (pc := 55) (b := 1) (ls' := [(0, .ref 10), (1, .int (nI (n + 1)))]) dX3_faultPlace_55 rfl (by decide) (Nat.le_of_ble_eq_true rfl) rfl ?_
            refine r_goto (pc := 58) (tgt := 7) dX3_faultPlace_58 (by decide) ?_
            rw [if_pos c17, fl_7 hpb.2.1, if_neg c33, if_pos c47] at hfl
            have h6 := hpb.2.2 c17
            refine ih (81 - (pbP σ k + 1)) (by omega) (n + 1) (pbP σ k + 1) (c2 σ k) _ (by omega) (frP.s (by decide) (hf1.tr f2)) (by rw [setI_at, if_pos ⟨rfl, rfl⟩]) (by omega) (by omega) hfl
          · rw [if_neg (by rw [c47]; decide)] at e1
            rw [e1]
            refine r_aload_n (pc := 50) dX3_faultPlace_50 rfl ?_
            refine r_getI (pc := 51) (x := (nI (pbP σ k))) dX3_faultPlace_51 fX3_19 rfl rfl (p2) ?_
            refine r_ireturn (pc := 54) dX3_faultPlace_54 rfl (Or.inl rfl) rfl ?_
            rw [if_pos c17, fl_7 hpb.2.1, if_neg c33, if_neg (by rw [c47]; decide)] at hfl
            rw [sp_fault_fl, ← hfl] at h
            exact h _ (hf1.tr f2)
        · refine r_bipush (pc := 36) (v := (-6)) dX3_faultPlace_36 (by decide) ?_
          refine r_ireturn (pc := 38) dX3_faultPlace_38 rfl (Or.inl rfl) rfl ?_
          rw [if_pos c17, fl_7 hpb.2.1, if_pos c33] at hfl
          rw [sp_fault_fl, ← hfl] at h
          exact h _ (hf1.tr f2)
      · refine r_aload_n (pc := 20) dX3_faultPlace_20 rfl ?_
        refine r_getI (pc := 21) (x := (nI (pbP σ k))) dX3_faultPlace_21 fX3_19 rfl rfl (p2) ?_
        refine r_ireturn (pc := 24) dX3_faultPlace_24 rfl (Or.inl rfl) rfl ?_
        rw [if_neg (by rw [c17]; decide)] at hfl
        rw [sp_fault_fl, ← hfl] at h
        exact h _ (hf1.tr f2)

set_option maxRecDepth 20000 in
set_option maxHeartbeats 4000000 in
theorem x_fp {μ : Mem} {σ : Sg} {Q : Option Value → Mem → Prop} (hS : SgM μ σ) (hO : Ok σ) (h : ∀ μ', frP μ μ' → Q (some (.int (sp_fault σ))) μ') : Sp iX3_faultPlace 3 [.ref 10] μ Q := by
  refine Sp.of vX3_faultPlace.1 (Nat.le_of_ble_eq_true rfl) ?_
  show WP cX3_faultPlace (RX3, 2, (some .int), 3, none) 0 [(0, .ref 10)] [] μ Q
  refine r_aload_n (pc := 0) dX3_faultPlace_0 rfl ?_
  refine r_iconst (pc := 1) (v := (nI (0))) dX3_faultPlace_1 (by decide) ?_
  refine r_putI (pc := 2) dX3_faultPlace_2 gX3_19 rfl rfl rfl rfl ?_
  refine r_iconst (pc := 5) (v := (nI (0))) dX3_faultPlace_5 (by decide) ?_
  refine r_istore_n (pc := 6) (ls' := [(0, .ref 10), (1, .int (nI 0))]) dX3_faultPlace_6 (Nat.le_of_ble_eq_true rfl) rfl ?_
  exact x_fp_l hS hO h 81 0 0 0 _ (by omega) (frP.s (by decide) frP.rf) (by rw [setI_at, if_pos ⟨rfl, rfl⟩]) (by omega) (by omega) rfl

set_option maxRecDepth 20000 in
set_option maxHeartbeats 4000000 in
theorem x_fault {μ : Mem} {σ : Sg} {Q : Option Value → Mem → Prop} (hI : XI μ σ) (hO : Ok σ) (h : ∀ μ', XI μ' σ → keepM μ μ' → Q (some (.int (sp_fault σ))) μ') : Sp iX6_fault 4 [.ref 0] μ Q := by
  refine Sp.of vX6_fault.1 (Nat.le_of_ble_eq_true rfl) ?_
  show WP cX6_fault (RX6, 1, (some .int), 4, none) 0 [(0, .ref 0)] [] μ Q
  have hn := Ok_n hO
  refine r_aload_n (pc := 0) dX6_fault_0 rfl ?_
  refine r_getR (pc := 1) (r := 10) dX6_fault_1 fX6_19 rfl rfl ?_
  refine r_callV (pc := 4) (d' := 3) (k := 10) (As := []) (rest := []) dX6_fault_4 vX3_faultPlace mX6_119 rfl rfl rfl (Nat.le_of_ble_eq_true rfl) (Nat.le_of_ble_eq_true rfl) ?_
  refine x_fp (Xs_SgM hI.1) hO (fun μ1 hf1 => ?_)
  refine r_ireturn (pc := 7) dX6_fault_7 rfl (Or.inl rfl) rfl ?_
  exact h _ (XI_frP hf1 hI) hf1.keep
