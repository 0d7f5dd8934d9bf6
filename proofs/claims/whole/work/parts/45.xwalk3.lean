/-! THE CLASS: walk, the call -/
theorem isB_neg {i : Int32} {n : Nat} (h : i < 0) : isB i n = false := by
  rw [Int32.lt_iff_toInt_lt] at h
  have q0 : ((0 : Int32)).toInt = 0 := by decide
  unfold isB
  simp
  omega
theorem isB_ge {i : Int32} {n : Nat} (hn : n < 2 ^ 31) (h : ¬ i < nI n) : isB i n = false := by
  rw [Int32.lt_iff_toInt_lt, nI_toInt hn] at h
  unfold isB
  simp
  omega
theorem walk_base {σ : Sg} {fj hj tj nj : Nat} {i : Int32} (h1 : fj < 8) (h2 : hj ≤ 1000000) (h3 : tj < 8) (h4 : nj ≤ 5) : sp_walk σ (nI fj) (nI hj) (nI tj) (nI nj) i = if i = -1 then nI (oH σ hj (mwalk σ fj hj tj nj)) else match mwalk σ fj hj tj nj with
  | none => -6
  | some r => if i = -2 then nI r.length else if isB i r.length = false then -6 else nI (r.getD (bN i) 0) := by
  unfold sp_walk
  rw [isB_nat (by omega), isB_nat (by omega), inR_nat (by omega) (by omega) (by omega), inR_nat (by omega) (by omega) (by omega), bN_nI (by omega), bN_nI (by omega), bN_nI (by omega), bN_nI (by omega)]
  rw [if_neg (by simp; omega), if_neg (by simp; omega)]
  by_cases q : i = -1
  · rw [if_pos q, if_pos q]
  · rw [if_neg q, if_neg q]
    cases mwalk σ fj hj tj nj <;> rfl

set_option maxRecDepth 20000 in
set_option maxHeartbeats 4000000 in
theorem x_walk {μ : Mem} {σ : Sg} {f hp t n i : Int32} {Q : Option Value → Mem → Prop} (hI : XI μ σ) (hO : Ok σ) (h : ∀ μ', XI μ' σ → keepM μ μ' → Q (some (.int (sp_walk σ f hp t n i))) μ') : Sp iX6_walk 5 [.ref 0, .int (f), .int (hp), .int (t), .int (n), .int (i)] μ Q := by
  refine Sp.of vX6_walk.1 (Nat.le_of_ble_eq_true rfl) ?_
  show WP cX6_walk (RX6, 7, (some .int), 5, none) 0 [(0, .ref 0), (1, .int (f)), (2, .int (hp)), (3, .int (t)), (4, .int (n)), (5, .int (i))] [] μ Q
  have hn := Ok_n hO
  refine r_iload_n (pc := 0) dX6_walk_0 rfl ?_
  refine r_callS (pc := 1) (d' := 0) (As := [.int (f)]) (rest := []) dX6_walk_1 sX6_isCoin mX6_55 rfl rfl (Nat.le_of_ble_eq_true rfl) (Nat.le_of_ble_eq_true rfl) ?_
  refine c_xcoin ?_
  refine rb_if_eq (pc := 4) (tgt := 14) dX6_walk_4 (by decide) (fun c4 => ?_) (fun c4 => ?_)
  · refine r_iconst (pc := 14) (v := (-1)) dX6_walk_14 (by decide) ?_
    refine r_ireturn (pc := 15) dX6_walk_15 rfl (Or.inl rfl) rfl ?_
    have e9 : sp_walk σ f hp t n i = (-1) := by simp [sp_walk, c4]
    rw [e9] at h
    exact h _ hI keepM.rf
  · obtain ⟨fj, hfj, rfl, -⟩ := isB_t c4
    refine r_iload_n (pc := 7) dX6_walk_7 rfl ?_
    refine r_callS (pc := 8) (d' := 0) (As := [.int (t)]) (rest := []) dX6_walk_8 sX6_isCoin mX6_55 rfl rfl (Nat.le_of_ble_eq_true rfl) (Nat.le_of_ble_eq_true rfl) ?_
    refine c_xcoin ?_
    refine rb_if_ne (pc := 11) (tgt := 16) dX6_walk_11 (by decide) (fun c11 => ?_) (fun c11 => ?_)
    · obtain ⟨tj, htj, rfl, -⟩ := isB_t c11
      refine r_iload_n (pc := 16) dX6_walk_16 rfl ?_
      refine r_iconst (pc := 17) (v := (nI (0))) dX6_walk_17 (by decide) ?_
      refine r_ldc (pc := 18) dX6_walk_18 kX6_105 ?_
      refine r_eqi (y := nI 1000000) (by decide) ?_
      refine r_callS (pc := 20) (d' := 0) (As := [.int (hp), .int (nI 0), .int (nI 1000000)]) (rest := []) dX6_walk_20 sX6_isWithin mX6_59 rfl rfl (Nat.le_of_ble_eq_true rfl) (Nat.le_of_ble_eq_true rfl) ?_
      refine c_within ?_
      refine rb_if_eq (pc := 23) (tgt := 36) dX6_walk_23 (by decide) (fun c23 => ?_) (fun c23 => ?_)
      · refine r_bipush (pc := 36) (v := (-2)) dX6_walk_36 (by decide) ?_
        refine r_ireturn (pc := 38) dX6_walk_38 rfl (Or.inl rfl) rfl ?_
        have e9 : sp_walk σ (nI fj) hp (nI tj) n i = (-2) := by simp [sp_walk, c4, c11, c23]
        rw [e9] at h
        exact h _ hI keepM.rf
      · obtain ⟨hj, hhj0, hhj, rfl⟩ := inR_t (by decide) (by decide) c23
        refine r_iload (pc := 26) dX6_walk_26 rfl ?_
        refine r_iconst (pc := 28) (v := (nI (0))) dX6_walk_28 (by decide) ?_
        refine r_iconst (pc := 29) (v := (nI (5))) dX6_walk_29 (by decide) ?_
        refine r_callS (pc := 30) (d' := 0) (As := [.int (n), .int (nI 0), .int (nI 5)]) (rest := []) dX6_walk_30 sX6_isWithin mX6_59 rfl rfl (Nat.le_of_ble_eq_true rfl) (Nat.le_of_ble_eq_true rfl) ?_
        refine c_within ?_
        refine rb_if_ne (pc := 33) (tgt := 39) dX6_walk_33 (by decide) (fun c33 => ?_) (fun c33 => ?_)
        · obtain ⟨nj, hnj0, hnj, rfl⟩ := inR_t (by decide) (by decide) c33
          rw [walk_base hfj hhj htj hnj] at h
          rcases hmw : mwalk σ fj hj tj nj with _ | r
          · rw [hmw] at h
            refine r_aload_n (pc := 39) dX6_walk_39 rfl ?_
            refine r_getR (pc := 40) (r := 22) dX6_walk_40 fX6_40 rfl rfl ?_
            refine r_aload_n (pc := 43) dX6_walk_43 rfl ?_
            refine r_getR (pc := 44) (r := 1) dX6_walk_44 fX6_12 rfl rfl ?_
            refine r_iload_n (pc := 47) dX6_walk_47 rfl ?_
            refine r_iload_n (pc := 48) dX6_walk_48 rfl ?_
            refine r_iload (pc := 49) dX6_walk_49 rfl ?_
            refine r_callV (pc := 51) (d' := 3) (k := 22) (As := [.ref 1, .int (nI fj), .int (nI hj), .int (nI nj)]) (rest := []) dX6_walk_51 vX1_goAll mX6_221 rfl rfl rfl (Nat.le_of_ble_eq_true rfl) (Nat.le_of_ble_eq_true rfl) ?_
            refine x_goAll hI.1 hO hfj hhj hnj (fun μ1 hf1 hg1 => ?_)
            refine r_aload_n (pc := 54) dX6_walk_54 rfl ?_
            refine r_getR (pc := 55) (r := 22) dX6_walk_55 fX6_40 rfl rfl ?_
            refine r_iload_n (pc := 58) dX6_walk_58 rfl ?_
            refine r_iload (pc := 59) dX6_walk_59 rfl ?_
            refine r_callV (pc := 61) (d' := 0) (k := 22) (As := [.int (nI tj), .int (nI nj)]) (rest := []) dX6_walk_61 vX1_bestSteps mX6_225 rfl rfl rfl (Nat.le_of_ble_eq_true rfl) (Nat.le_of_ble_eq_true rfl) ?_
            refine x_bs hO hhj hnj htj hg1 ?_
            rw [(walk_best σ fj hj tj nj).1 hmw]
            refine r_istore (pc := 64) (ls' := [(0, .ref 0), (1, .int (nI fj)), (2, .int (nI hj)), (3, .int (nI tj)), (4, .int (nI nj)), (5, .int (i)), (6, .int (bI none))]) dX6_walk_64 (Nat.le_of_ble_eq_true rfl) rfl ?_
            refine r_iload (pc := 66) dX6_walk_66 rfl ?_
            refine r_iconst (pc := 68) (v := (-1)) dX6_walk_68 (by decide) ?_
            refine r_icmp_ne (pc := 69) (tgt := 94) dX6_walk_69 (by decide) (fun c69 => ?_) (fun c69 => ?_)
            · refine r_iload (pc := 94) dX6_walk_94 rfl ?_
              refine r_bipush (pc := 96) (v := (-2)) dX6_walk_96 (by decide) ?_
              refine r_icmp_ne (pc := 98) (tgt := 114) dX6_walk_98 (by decide) (fun c98 => ?_) (fun c98 => ?_)
              · refine r_iload (pc := 114) dX6_walk_114 rfl ?_
                refine r_if_lt (pc := 116) (tgt := 126) dX6_walk_116 (by decide) (fun c116 => ?_) (fun c116 => ?_)
                · refine r_bipush (pc := 126) (v := (-6)) dX6_walk_126 (by decide) ?_
                  refine r_ireturn (pc := 128) dX6_walk_128 rfl (Or.inl rfl) rfl ?_
                  rw [if_neg c69] at h
                  dsimp only at h
                  exact h _ (XI_frH hf1 hI) hf1.keep
                · refine r_iload (pc := 119) dX6_walk_119 rfl ?_
                  refine r_iload (pc := 121) dX6_walk_121 rfl ?_
                  refine r_icmp_lt (pc := 123) (tgt := 129) dX6_walk_123 (by decide) (fun c123 => ?_) (fun c123 => ?_)
                  · have c123 : i < -1 := c123
                    rw [Int32.lt_iff_toInt_lt] at c116 c123
                    have q1 : ((-1 : Int32)).toInt = -1 := by decide
                    have q0 : ((0 : Int32)).toInt = 0 := by decide
                    exact absurd c123 (by omega)
                  · refine r_bipush (pc := 126) (v := (-6)) dX6_walk_126 (by decide) ?_
                    refine r_ireturn (pc := 128) dX6_walk_128 rfl (Or.inl rfl) rfl ?_
                    rw [if_neg c69] at h
                    dsimp only at h
                    exact h _ (XI_frH hf1 hI) hf1.keep
              · refine r_iload (pc := 101) dX6_walk_101 rfl ?_
                refine r_if_ge (pc := 103) (tgt := 111) dX6_walk_103 (by decide) (fun c103 => ?_) (fun c103 => ?_)
                · exact absurd c103 (show ¬ (0 : Int32) ≤ -1 by decide)
                · refine r_bipush (pc := 106) (v := (-6)) dX6_walk_106 (by decide) ?_
                  refine r_goto (pc := 108) (tgt := 113) dX6_walk_108 (by decide) ?_
                  refine r_ireturn (pc := 113) dX6_walk_113 rfl (Or.inl rfl) rfl ?_
                  rw [if_neg c69] at h
                  dsimp only at h
                  exact h _ (XI_frH hf1 hI) hf1.keep
            · refine r_iload (pc := 72) dX6_walk_72 rfl ?_
              refine r_if_ge (pc := 74) (tgt := 81) dX6_walk_74 (by decide) (fun c74 => ?_) (fun c74 => ?_)
              · exact absurd c74 (show ¬ (0 : Int32) ≤ -1 by decide)
              · refine r_iconst (pc := 77) (v := (nI (0))) dX6_walk_77 (by decide) ?_
                refine r_goto (pc := 78) (tgt := 93) dX6_walk_78 (by decide) ?_
                refine r_ireturn (pc := 93) dX6_walk_93 rfl (Or.inl rfl) rfl ?_
                rw [if_pos c69] at h
                exact h _ (XI_frH hf1 hI) hf1.keep
          · rw [hmw] at h
            obtain ⟨g1, g2, g3⟩ := walk_gf hmw
            have hbs := (walk_best σ fj hj tj nj).2 r hmw
            have hgt := ((bsF_spec _ _).2 _ hbs).2.1
            dsimp only at hgt
            have hwl := gt_le hO hhj hgt
            refine r_aload_n (pc := 39) dX6_walk_39 rfl ?_
            refine r_getR (pc := 40) (r := 22) dX6_walk_40 fX6_40 rfl rfl ?_
            refine r_aload_n (pc := 43) dX6_walk_43 rfl ?_
            refine r_getR (pc := 44) (r := 1) dX6_walk_44 fX6_12 rfl rfl ?_
            refine r_iload_n (pc := 47) dX6_walk_47 rfl ?_
            refine r_iload_n (pc := 48) dX6_walk_48 rfl ?_
            refine r_iload (pc := 49) dX6_walk_49 rfl ?_
            refine r_callV (pc := 51) (d' := 3) (k := 22) (As := [.ref 1, .int (nI fj), .int (nI hj), .int (nI nj)]) (rest := []) dX6_walk_51 vX1_goAll mX6_221 rfl rfl rfl (Nat.le_of_ble_eq_true rfl) (Nat.le_of_ble_eq_true rfl) ?_
            refine x_goAll hI.1 hO hfj hhj hnj (fun μ1 hf1 hg1 => ?_)
            refine r_aload_n (pc := 54) dX6_walk_54 rfl ?_
            refine r_getR (pc := 55) (r := 22) dX6_walk_55 fX6_40 rfl rfl ?_
            refine r_iload_n (pc := 58) dX6_walk_58 rfl ?_
            refine r_iload (pc := 59) dX6_walk_59 rfl ?_
            refine r_callV (pc := 61) (d' := 0) (k := 22) (As := [.int (nI tj), .int (nI nj)]) (rest := []) dX6_walk_61 vX1_bestSteps mX6_225 rfl rfl rfl (Nat.le_of_ble_eq_true rfl) (Nat.le_of_ble_eq_true rfl) ?_
            refine x_bs hO hhj hnj htj hg1 ?_
            rw [hbs]
            refine r_istore (pc := 64) (ls' := [(0, .ref 0), (1, .int (nI fj)), (2, .int (nI hj)), (3, .int (nI tj)), (4, .int (nI nj)), (5, .int (i)), (6, .int (nI (r.length)))]) dX6_walk_64 (Nat.le_of_ble_eq_true rfl) rfl ?_
            refine r_iload (pc := 66) dX6_walk_66 rfl ?_
            refine r_iconst (pc := 68) (v := (-1)) dX6_walk_68 (by decide) ?_
            refine r_icmp_ne (pc := 69) (tgt := 94) dX6_walk_69 (by decide) (fun c69 => ?_) (fun c69 => ?_)
            · refine r_iload (pc := 94) dX6_walk_94 rfl ?_
              refine r_bipush (pc := 96) (v := (-2)) dX6_walk_96 (by decide) ?_
              refine r_icmp_ne (pc := 98) (tgt := 114) dX6_walk_98 (by decide) (fun c98 => ?_) (fun c98 => ?_)
              · refine r_iload (pc := 114) dX6_walk_114 rfl ?_
                refine r_if_lt (pc := 116) (tgt := 126) dX6_walk_116 (by decide) (fun c116 => ?_) (fun c116 => ?_)
                · refine r_bipush (pc := 126) (v := (-6)) dX6_walk_126 (by decide) ?_
                  refine r_ireturn (pc := 128) dX6_walk_128 rfl (Or.inl rfl) rfl ?_
                  rw [if_neg c69] at h
                  dsimp only at h
                  rw [if_neg c98] at h
                  rw [if_pos (isB_neg c116)] at h
                  exact h _ (XI_frH hf1 hI) hf1.keep
                · refine r_iload (pc := 119) dX6_walk_119 rfl ?_
                  refine r_iload (pc := 121) dX6_walk_121 rfl ?_
                  refine r_icmp_lt (pc := 123) (tgt := 129) dX6_walk_123 (by decide) (fun c123 => ?_) (fun c123 => ?_)
                  · obtain ⟨ij, hij, rfl, -⟩ := isB_t (b := i) (n := r.length) (by
                      rw [Int32.lt_iff_toInt_lt] at c116 c123
                      rw [nI_toInt (by omega)] at c123
                      have q1 : ((-1 : Int32)).toInt = -1 := by decide
                      have q0 : ((0 : Int32)).toInt = 0 := by decide
                      unfold isB; simp; omega)
                    refine r_aload_n (pc := 129) dX6_walk_129 rfl ?_
                    refine r_getR (pc := 130) (r := 22) dX6_walk_130 fX6_40 rfl rfl ?_
                    refine r_aload_n (pc := 133) dX6_walk_133 rfl ?_
                    refine r_getR (pc := 134) (r := 1) dX6_walk_134 fX6_12 rfl rfl ?_
                    refine r_iload_n (pc := 137) dX6_walk_137 rfl ?_
                    refine r_iload (pc := 138) dX6_walk_138 rfl ?_
                    refine r_callV (pc := 140) (d' := 3) (k := 22) (As := [.ref 1, .int (nI tj), .int (nI (r.length))]) (rest := []) dX6_walk_140 vX1_lookBack mX6_231 rfl rfl rfl (Nat.le_of_ble_eq_true rfl) (Nat.le_of_ble_eq_true rfl) ?_
                    refine x_lookBack (M := hw σ hj r) (Xs_frH hf1 hI.1) hO htj (by omega) hwl (by have := hg1 r.length g1 tj htj; rw [hgt] at this; exact this) (fun μ2 hf2 hN2 => ?_)
                    refine r_aload_n (pc := 143) dX6_walk_143 rfl ?_
                    refine r_getR (pc := 144) (r := 22) dX6_walk_144 fX6_40 rfl rfl ?_
                    refine r_aload_n (pc := 147) dX6_walk_147 rfl ?_
                    refine r_getR (pc := 148) (r := 1) dX6_walk_148 fX6_12 rfl rfl ?_
                    refine r_iload_n (pc := 151) dX6_walk_151 rfl ?_
                    refine r_iload_n (pc := 152) dX6_walk_152 rfl ?_
                    refine r_iload (pc := 153) dX6_walk_153 rfl ?_
                    refine r_callV (pc := 155) (d' := 4) (k := 22) (As := [.ref 1, .int (nI fj), .int (nI hj), .int (nI ij)]) (rest := []) dX6_walk_155 vX1_boardOnWay mX6_235 rfl rfl rfl (Nat.le_of_ble_eq_true rfl) (Nat.le_of_ble_eq_true rfl) ?_
                    refine x_bow (e := tj) (M := hw σ hj r) (r := r) (Xs_frH hf2 (Xs_frH hf1 hI.1)) hO (by omega) hij hwl hN2 ?_ hfj (by omega) g3
                    refine r_ireturn (pc := 158) dX6_walk_158 rfl (Or.inl rfl) rfl ?_
                    rw [if_neg c69] at h
                    dsimp only at h
                    rw [if_neg c98] at h
                    rw [if_neg (by rw [isB_nat (by omega)]; simp; omega), bN_nI (by omega)] at h
                    exact h _ (XI_frH hf2 (XI_frH hf1 hI)) (hf1.keep.tr hf2.keep)
                  · refine r_bipush (pc := 126) (v := (-6)) dX6_walk_126 (by decide) ?_
                    refine r_ireturn (pc := 128) dX6_walk_128 rfl (Or.inl rfl) rfl ?_
                    rw [if_neg c69] at h
                    dsimp only at h
                    rw [if_neg c98] at h
                    rw [if_pos (isB_ge (by omega) c123)] at h
                    exact h _ (XI_frH hf1 hI) hf1.keep
              · refine r_iload (pc := 101) dX6_walk_101 rfl ?_
                refine rn_if_ge (pc := 103) (tgt := 111) dX6_walk_103 (by decide) (by omega) ?_
                refine r_iload (pc := 111) dX6_walk_111 rfl ?_
                refine r_ireturn (pc := 113) dX6_walk_113 rfl (Or.inl rfl) rfl ?_
                rw [if_neg c69] at h
                dsimp only at h
                rw [if_pos c98] at h
                exact h _ (XI_frH hf1 hI) hf1.keep
            · refine r_iload (pc := 72) dX6_walk_72 rfl ?_
              refine rn_if_ge (pc := 74) (tgt := 81) dX6_walk_74 (by decide) (by omega) ?_
              refine r_aload_n (pc := 81) dX6_walk_81 rfl ?_
              refine r_getR (pc := 82) (r := 22) dX6_walk_82 fX6_40 rfl rfl ?_
              refine r_getR (pc := 85) (r := 23) dX6_walk_85 fX6_228 rfl rfl ?_
              refine r_iload (pc := 88) dX6_walk_88 rfl ?_
              refine r_aald (pc := 90) dX6_walk_90 rfl rfl (by omega) ?_
              refine r_iload_n (pc := 91) dX6_walk_91 rfl ?_
              refine r_iald (pc := 92) (x := (nI (hw σ hj r))) dX6_walk_92 (sh24 (by omega)) rfl (by omega) (by have := hg1 r.length g1 tj htj; rw [hgt] at this; exact this) ?_
              refine r_ireturn (pc := 93) dX6_walk_93 rfl (Or.inl rfl) rfl ?_
              rw [if_pos c69] at h
              exact h _ (XI_frH hf1 hI) hf1.keep
        · refine r_bipush (pc := 36) (v := (-2)) dX6_walk_36 (by decide) ?_
          refine r_ireturn (pc := 38) dX6_walk_38 rfl (Or.inl rfl) rfl ?_
          have e9 : sp_walk σ (nI fj) (nI hj) (nI tj) n i = (-2) := by simp [sp_walk, c4, c11, c23, c33]
          rw [e9] at h
          exact h _ hI keepM.rf
    · refine r_iconst (pc := 14) (v := (-1)) dX6_walk_14 (by decide) ?_
      refine r_ireturn (pc := 15) dX6_walk_15 rfl (Or.inl rfl) rfl ?_
      have e9 : sp_walk σ (nI fj) hp t n i = (-1) := by simp [sp_walk, c4, c11]
      rw [e9] at h
      exact h _ hI keepM.rf
