/-! THE CLASS: goOn, upper, gains, findAll -/
set_option maxRecDepth 20000 in
set_option maxHeartbeats 4000000 in
theorem x_goOn {σ : Sg} {s : Nat} (hO : Ok σ) (hs : s < 8) : ∀ (f c seen : Nat) (p : List Nat) (acc : List (List Nat)) (μ : Mem) (Q : Option Value → Mem → Prop), f + p.length = 8 → c < 8 ∧ s ≤ c → seen < 2 ^ 8 → okP σ p → Xs μ σ → RA μ σ acc → (acc ++ dfs σ s f c seen p).length ≤ 150 → (∀ μ', RA μ' σ (acc ++ dfs σ s f c seen p) → frR μ μ' → Q none μ') → Sp iX2_goOn (3 + f) [.ref 12, .ref 1, .int (nI s), .int (nI c), .int (nI seen), .long (lN (packP p)), .int (nI (p.length))] μ Q := by
  have hn := Ok_n hO
  intro f
  induction f with
  | zero =>
    intro c seen p acc μ Q hfp hc hse hp hX hA hlen h
    refine Sp.of sX2_goOn.1 (Nat.le_of_ble_eq_true rfl) ?_
    show WP cX2_goOn (RX2, 12, none, 3 + 0, none) 0 [(0, .ref 12), (1, .ref 1), (2, .int (nI s)), (3, .int (nI c)), (4, .int (nI seen)), (5, .long (lN (packP p))), (7, .int (nI (p.length)))] [] μ Q
    refine r_iload (pc := 0) dX2_goOn_0 rfl ?_
    refine r_bipush (pc := 2) (v := (nI (8))) dX2_goOn_2 (by decide) ?_
    refine rn_icmp_lt (pc := 4) (tgt := 8) dX2_goOn_4 (by decide) (by omega) (by omega) (fun c4 => ?_) (fun c4 => ?_)
    · exact absurd c4 (by omega)
    · refine r_return (pc := 7) dX2_goOn_7 rfl ?_
      exact h μ (by show RA μ σ (acc ++ []); rw [List.append_nil]; exact hA) frR.rf
  | succ f ih =>
    intro c seen p acc μ Q hfp hc hse hp hX hA hlen h
    refine Sp.of sX2_goOn.1 (Nat.le_of_ble_eq_true rfl) ?_
    show WP cX2_goOn (RX2, 12, none, 3 + (f + 1), none) 0 [(0, .ref 12), (1, .ref 1), (2, .int (nI s)), (3, .int (nI c)), (4, .int (nI seen)), (5, .long (lN (packP p))), (7, .int (nI (p.length)))] [] μ Q
    rw [dfs_sc] at hlen h
    have lp : ∀ (k b : Nat) (acc : List (List Nat)) (μ1 : Mem), b + k = σ 0 0 → Xs μ1 σ → RA μ1 σ acc → frR μ μ1 → (acc ++ sc σ s f c seen p k).length ≤ 150 → (∀ μ', RA μ' σ (acc ++ sc σ s f c seen p k) → frR μ μ' → Q none μ') → WP cX2_goOn (RX2, 12, none, 3 + (f + 1), none) 11 [(0, .ref 12), (1, .ref 1), (2, .int (nI s)), (3, .int (nI c)), (4, .int (nI seen)), (5, .long (lN (packP p))), (7, .int (nI (p.length))), (8, .int (nI b))] [] μ1 Q := by
      intro k
      induction k with
      | zero =>
        intro b acc μ1 hbk hX1 hA1 hf1 hlen h
        refine r_iload (pc := 11) dX2_goOn_11 rfl ?_
        refine r_aload_n (pc := 13) dX2_goOn_13 rfl ?_
        refine r_getI (pc := 14) (x := (nI (σ 0 0))) dX2_goOn_14 fX2_55 rfl rfl (Xs_n (μ := μ1) hX1) ?_
        refine rn_icmp_ge (pc := 17) (tgt := 126) dX2_goOn_17 (by decide) (by omega) (by omega) (fun c17 => ?_) (fun c17 => ?_)
        · refine r_return (pc := 126) dX2_goOn_126 rfl ?_
          exact h μ1 (by show RA μ1 σ (acc ++ []); rw [List.append_nil]; exact hA1) hf1
        · exact absurd c17 (by omega)
      | succ k' ihk =>
        intro b acc μ1 hbk hX1 hA1 hf1 hlen h
        have hb12 : b < 12 := by omega
        have hbb := Ok_b hO hb12
        refine r_iload (pc := 11) dX2_goOn_11 rfl ?_
        refine r_aload_n (pc := 13) dX2_goOn_13 rfl ?_
        refine r_getI (pc := 14) (x := (nI (σ 0 0))) dX2_goOn_14 fX2_55 rfl rfl (Xs_n (μ := μ1) hX1) ?_
        refine rn_icmp_ge (pc := 17) (tgt := 126) dX2_goOn_17 (by decide) (by omega) (by omega) (fun c17 => ?_) (fun c17 => ?_)
        · exact absurd c17 (by omega)
        · refine r_aload_n (pc := 20) dX2_goOn_20 rfl ?_
          refine r_getR (pc := 21) (r := 2) dX2_goOn_21 fX2_56 rfl rfl ?_
          refine r_iload (pc := 24) dX2_goOn_24 rfl ?_
          refine r_iald (pc := 26) (x := (nI (σ 1 (b)))) dX2_goOn_26 rfl rfl (by omega) (Xs_1 (μ := μ1) hX1 (by omega)) ?_
          have b1 := Ok_b hO (j := b) (by omega)
          refine r_iload_n (pc := 27) dX2_goOn_27 rfl ?_
          refine rn_icmp_ne (pc := 28) (tgt := 120) dX2_goOn_28 (by decide) (by omega) (by omega) (fun c28 => ?_) (fun c28 => ?_)
          · refine rn_iinc (pc := 120) (b := 1) (ls' := [(0, .ref 12), (1, .ref 1), (2, .int (nI s)), (3, .int (nI c)), (4, .int (nI seen)), (5, .long (lN (packP p))), (7, .int (nI (p.length))), (8, .int (nI (b + 1)))]) dX2_goOn_120 rfl (by decide) (Nat.le_of_ble_eq_true rfl) rfl ?_
            refine r_goto (pc := 123) (tgt := 11) dX2_goOn_123 (by decide) ?_
            have hF : Fb σ s f c seen p b = [] := if_neg (fun q => c28 q.1)
            rw [sc_s σ s f c seen p (k := k') hbk] at hlen h
            rw [hF, List.nil_append] at hlen h
            skip
            exact ihk (b + 1) acc μ1 (by omega) hX1 hA1 hf1 hlen h
          · refine r_aload_n (pc := 31) dX2_goOn_31 rfl ?_
            refine r_iload (pc := 32) dX2_goOn_32 rfl ?_
            refine r_callV (pc := 34) (d' := 1) (k := 1) (As := [.int (nI b)]) (rest := []) dX2_goOn_34 vX0_isOpen mX2_59 rfl rfl rfl (Nat.le_of_ble_eq_true rfl) (by show 1 + 1 ≤ 3 + (f + 1); omega) ?_
            refine c_xopen (μ := μ1) hX1 hO (by omega) ?_
            refine rb_if_ne (pc := 37) (tgt := 43) dX2_goOn_37 (by decide) (fun c37 => ?_) (fun c37 => ?_)
            · refine r_aload_n (pc := 43) dX2_goOn_43 rfl ?_
              refine r_getR (pc := 44) (r := 4) dX2_goOn_44 fX2_63 rfl rfl ?_
              refine r_iload (pc := 47) dX2_goOn_47 rfl ?_
              refine r_iald (pc := 49) (x := (nI (σ 3 (b)))) dX2_goOn_49 rfl rfl (by omega) (Xs_3 (μ := μ1) hX1 (by omega)) ?_
              have b2 := Ok_b hO (j := b) (by omega)
              refine r_istore (pc := 50) (ls' := [(0, .ref 12), (1, .ref 1), (2, .int (nI s)), (3, .int (nI c)), (4, .int (nI seen)), (5, .long (lN (packP p))), (7, .int (nI (p.length))), (8, .int (nI b)), (9, .int (nI (σ 3 (b))))]) dX2_goOn_50 (Nat.le_of_ble_eq_true rfl) rfl ?_
              refine r_lload (pc := 52) dX2_goOn_52 rfl ?_
              refine r_iload (pc := 54) dX2_goOn_54 rfl ?_
              refine rn_i2l (pc := 56) dX2_goOn_56 (by omega) ?_
              refine r_lconst (pc := 57) (v := lN 1) dX2_goOn_57 rfl ?_
              refine rn_ladd (pc := 58) dX2_goOn_58 ?_
              refine r_iconst (pc := 59) (v := (nI (4))) dX2_goOn_59 (by decide) ?_
              refine r_iload (pc := 60) dX2_goOn_60 rfl ?_
              refine rn_imul (pc := 62) dX2_goOn_62 ?_
              refine r_lshl (pc := 63) dX2_goOn_63 rfl ?_
              refine r_lor (pc := 64) dX2_goOn_64 ?_
              refine r_eql (pack_or (okP_12 hO hp) (by omega)) ?_
              refine r_lstore (pc := 65) (ls' := [(0, .ref 12), (1, .ref 1), (2, .int (nI s)), (3, .int (nI c)), (4, .int (nI seen)), (5, .long (lN (packP p))), (7, .int (nI (p.length))), (8, .int (nI b)), (9, .int (nI (σ 3 (b)))), (10, .long (lN (packP (p ++ [b]))))]) dX2_goOn_65 (Nat.le_of_ble_eq_true rfl) rfl ?_
              refine r_iload (pc := 67) dX2_goOn_67 rfl ?_
              refine r_iload_n (pc := 69) dX2_goOn_69 rfl ?_
              refine rn_icmp_ne (pc := 70) (tgt := 83) dX2_goOn_70 (by decide) (by omega) (by omega) (fun c70 => ?_) (fun c70 => ?_)
              · refine r_iload (pc := 83) dX2_goOn_83 rfl ?_
                refine r_iload_n (pc := 85) dX2_goOn_85 rfl ?_
                refine rn_icmp_le (pc := 86) (tgt := 120) dX2_goOn_86 (by decide) (by omega) (by omega) (fun c86 => ?_) (fun c86 => ?_)
                · refine rn_iinc (pc := 120) (b := 1) (ls' := [(0, .ref 12), (1, .ref 1), (2, .int (nI s)), (3, .int (nI c)), (4, .int (nI seen)), (5, .long (lN (packP p))), (7, .int (nI (p.length))), (8, .int (nI (b + 1))), (9, .int (nI (σ 3 (b)))), (10, .long (lN (packP (p ++ [b]))))]) dX2_goOn_120 rfl (by decide) (Nat.le_of_ble_eq_true rfl) rfl ?_
                  refine r_goto (pc := 123) (tgt := 11) dX2_goOn_123 (by decide) ?_
                  have hF : Fb σ s f c seen p b = [] := by rw [Fb, if_pos ⟨c28, c37⟩, if_neg c70, if_neg (fun q => absurd q.1 (by omega))]
                  rw [sc_s σ s f c seen p (k := k') hbk] at hlen h
                  rw [hF, List.nil_append] at hlen h
                  refine r_pick (ls' := [(0, .ref 12), (1, .ref 1), (2, .int (nI s)), (3, .int (nI c)), (4, .int (nI seen)), (5, .long (lN (packP p))), (7, .int (nI (p.length))), (8, .int (nI (b + 1)))]) [0, 1, 2, 3, 4, 5, 6, 7] rfl ?_
                  exact ihk (b + 1) acc μ1 (by omega) hX1 hA1 hf1 hlen h
                · refine r_iload (pc := 89) dX2_goOn_89 rfl ?_
                  refine r_iload (pc := 91) dX2_goOn_91 rfl ?_
                  refine r_ishr (pc := 93) dX2_goOn_93 ?_
                  refine r_eqi (shrN (by omega) (by omega)) ?_
                  refine r_iconst (pc := 94) (v := (nI (1))) dX2_goOn_94 (by decide) ?_
                  refine r_iand (pc := 95) dX2_goOn_95 ?_
                  refine r_eqi (and1 (Nat.lt_of_le_of_lt (Nat.div_le_self _ _) (by omega))) ?_
                  refine rn_if_ne (pc := 96) (tgt := 120) dX2_goOn_96 (by decide) (by omega) (fun c96 => ?_) (fun c96 => ?_)
                  · refine rn_iinc (pc := 120) (b := 1) (ls' := [(0, .ref 12), (1, .ref 1), (2, .int (nI s)), (3, .int (nI c)), (4, .int (nI seen)), (5, .long (lN (packP p))), (7, .int (nI (p.length))), (8, .int (nI (b + 1))), (9, .int (nI (σ 3 (b)))), (10, .long (lN (packP (p ++ [b]))))]) dX2_goOn_120 rfl (by decide) (Nat.le_of_ble_eq_true rfl) rfl ?_
                    refine r_goto (pc := 123) (tgt := 11) dX2_goOn_123 (by decide) ?_
                    have hF : Fb σ s f c seen p b = [] := by rw [Fb, if_pos ⟨c28, c37⟩, if_neg c70, if_neg (fun q => c96 (tb_0.mpr q.2))]
                    rw [sc_s σ s f c seen p (k := k') hbk] at hlen h
                    rw [hF, List.nil_append] at hlen h
                    refine r_pick (ls' := [(0, .ref 12), (1, .ref 1), (2, .int (nI s)), (3, .int (nI c)), (4, .int (nI seen)), (5, .long (lN (packP p))), (7, .int (nI (p.length))), (8, .int (nI (b + 1)))]) [0, 1, 2, 3, 4, 5, 6, 7] rfl ?_
                    exact ihk (b + 1) acc μ1 (by omega) hX1 hA1 hf1 hlen h
                  · rw [sc_s σ s f c seen p (k := k') hbk] at hlen
                    have hF : Fb σ s f c seen p b = dfs σ s f (σ 3 b) (seen ||| 2 ^ σ 3 b) (p ++ [b]) := by rw [Fb, if_pos ⟨c28, c37⟩, if_neg c70, if_pos ⟨by omega, tb_0.mp c96⟩]
                    refine r_aload_n (pc := 99) dX2_goOn_99 rfl ?_
                    refine r_aload_n (pc := 100) dX2_goOn_100 rfl ?_
                    refine r_iload_n (pc := 101) dX2_goOn_101 rfl ?_
                    refine r_iload (pc := 102) dX2_goOn_102 rfl ?_
                    refine r_iload (pc := 104) dX2_goOn_104 rfl ?_
                    refine r_iconst (pc := 106) (v := (nI (1))) dX2_goOn_106 (by decide) ?_
                    refine r_iload (pc := 107) dX2_goOn_107 rfl ?_
                    refine r_ishl (pc := 109) dX2_goOn_109 ?_
                    refine r_eqi (shl1 (by omega)) ?_
                    refine r_ior (pc := 110) dX2_goOn_110 ?_
                    refine r_eqi (nI_or _ _) ?_
                    refine r_lload (pc := 111) dX2_goOn_111 rfl ?_
                    refine r_iload (pc := 113) dX2_goOn_113 rfl ?_
                    refine r_iconst (pc := 115) (v := (nI (1))) dX2_goOn_115 (by decide) ?_
                    refine rn_iadd (pc := 116) dX2_goOn_116 ?_
                    refine r_callS (pc := 117) (d' := 3 + f) (As := [.ref 12, .ref 1, .int (nI s), .int (nI (σ 3 (b))), .int (nI ((seen) ||| (2 ^ (σ 3 (b))))), .long (lN (packP (p ++ [b]))), .int (nI ((p.length) + (1)))]) (rest := []) dX2_goOn_117 sX2_goOn mX2_39 rfl rfl (Nat.le_of_ble_eq_true rfl) (by show 3 + f + 1 ≤ 3 + (f + 1); omega) ?_
                    rw [show p.length + 1 = (p ++ [b]).length by simp]
                    refine ih (σ 3 b) (seen ||| 2 ^ σ 3 b) (p ++ [b]) acc μ1 _ (by simp; omega) ⟨by omega, by omega⟩ (or_lt hse (Nat.pow_lt_pow_right (by decide) (by omega))) (okP_snoc hp (by omega)) hX1 hA1 (by rw [hF] at hlen; simp at hlen ⊢; omega) (fun μ2 hA2 hf2 => ?_)
                    refine rn_iinc (pc := 120) (b := 1) (ls' := [(0, .ref 12), (1, .ref 1), (2, .int (nI s)), (3, .int (nI c)), (4, .int (nI seen)), (5, .long (lN (packP p))), (7, .int (nI (p.length))), (8, .int (nI (b + 1))), (9, .int (nI (σ 3 (b)))), (10, .long (lN (packP (p ++ [b]))))]) dX2_goOn_120 rfl (by decide) (Nat.le_of_ble_eq_true rfl) rfl ?_
                    refine r_goto (pc := 123) (tgt := 11) dX2_goOn_123 (by decide) ?_
                    rw [sc_s σ s f c seen p (k := k') hbk] at h
                    rw [hF] at h
                    refine r_pick (ls' := [(0, .ref 12), (1, .ref 1), (2, .int (nI s)), (3, .int (nI c)), (4, .int (nI seen)), (5, .long (lN (packP p))), (7, .int (nI (p.length))), (8, .int (nI (b + 1)))]) [0, 1, 2, 3, 4, 5, 6, 7] rfl ?_
                    refine ihk (b + 1) _ μ2 (by omega) (Xs_frR hf2 hX1) hA2 (frR.tr hf1 hf2) (by rw [hF] at hlen; simp at hlen ⊢; omega) (fun μ3 h3 h4 => h μ3 (by rw [← List.append_assoc]; exact h3) h4)
              · rw [sc_s σ s f c seen p (k := k') hbk] at hlen
                have hF : Fb σ s f c seen p b = [p ++ [b]] := by rw [Fb, if_pos ⟨c28, c37⟩, if_pos c70]
                refine r_aload_n (pc := 73) dX2_goOn_73 rfl ?_
                refine r_aload_n (pc := 74) dX2_goOn_74 rfl ?_
                refine r_lload (pc := 75) dX2_goOn_75 rfl ?_
                refine r_callV (pc := 77) (d' := 1) (k := 12) (As := [.ref 1, .long (lN (packP (p ++ [b])))]) (rest := []) dX2_goOn_77 vX2_keep mX2_66 rfl rfl rfl (Nat.le_of_ble_eq_true rfl) (by show 1 + 1 ≤ 3 + (f + 1); omega) ?_
                refine x_keep (μ := μ1) hX1 hO hA1 (by rw [hF] at hlen; simp at hlen; omega) (okP_snoc hp (by omega)) (by simp; omega) (fun μ2 hA2 hf2 => ?_)
                refine r_goto (pc := 80) (tgt := 120) dX2_goOn_80 (by decide) ?_
                refine rn_iinc (pc := 120) (b := 1) (ls' := [(0, .ref 12), (1, .ref 1), (2, .int (nI s)), (3, .int (nI c)), (4, .int (nI seen)), (5, .long (lN (packP p))), (7, .int (nI (p.length))), (8, .int (nI (b + 1))), (9, .int (nI (σ 3 (b)))), (10, .long (lN (packP (p ++ [b]))))]) dX2_goOn_120 rfl (by decide) (Nat.le_of_ble_eq_true rfl) rfl ?_
                refine r_goto (pc := 123) (tgt := 11) dX2_goOn_123 (by decide) ?_
                rw [sc_s σ s f c seen p (k := k') hbk] at h
                rw [hF] at h
                refine r_pick (ls' := [(0, .ref 12), (1, .ref 1), (2, .int (nI s)), (3, .int (nI c)), (4, .int (nI seen)), (5, .long (lN (packP p))), (7, .int (nI (p.length))), (8, .int (nI (b + 1)))]) [0, 1, 2, 3, 4, 5, 6, 7] rfl ?_
                refine ihk (b + 1) _ μ2 (by omega) (Xs_frR hf2 hX1) hA2 (frR.tr hf1 hf2) (by rw [hF] at hlen; simp at hlen ⊢; omega) (fun μ3 h3 h4 => h μ3 (by rw [← List.append_assoc]; exact h3) h4)
            · refine r_goto (pc := 40) (tgt := 120) dX2_goOn_40 (by decide) ?_
              refine rn_iinc (pc := 120) (b := 1) (ls' := [(0, .ref 12), (1, .ref 1), (2, .int (nI s)), (3, .int (nI c)), (4, .int (nI seen)), (5, .long (lN (packP p))), (7, .int (nI (p.length))), (8, .int (nI (b + 1)))]) dX2_goOn_120 rfl (by decide) (Nat.le_of_ble_eq_true rfl) rfl ?_
              refine r_goto (pc := 123) (tgt := 11) dX2_goOn_123 (by decide) ?_
              have hF : Fb σ s f c seen p b = [] := if_neg (fun q => by rw [c37] at q; exact absurd q.2 (by decide))
              rw [sc_s σ s f c seen p (k := k') hbk] at hlen h
              rw [hF, List.nil_append] at hlen h
              skip
              exact ihk (b + 1) acc μ1 (by omega) hX1 hA1 hf1 hlen h
    refine r_iload (pc := 0) dX2_goOn_0 rfl ?_
    refine r_bipush (pc := 2) (v := (nI (8))) dX2_goOn_2 (by decide) ?_
    refine rn_icmp_lt (pc := 4) (tgt := 8) dX2_goOn_4 (by decide) (by omega) (by omega) (fun c4 => ?_) (fun c4 => ?_)
    · refine r_iconst (pc := 8) (v := (nI (0))) dX2_goOn_8 (by decide) ?_
      refine r_istore (pc := 9) (ls' := [(0, .ref 12), (1, .ref 1), (2, .int (nI s)), (3, .int (nI c)), (4, .int (nI seen)), (5, .long (lN (packP p))), (7, .int (nI (p.length))), (8, .int (nI 0))]) dX2_goOn_9 (Nat.le_of_ble_eq_true rfl) rfl ?_
      exact lp (σ 0 0) 0 acc μ (by omega) hX hA frR.rf hlen h
    · exact absurd c4 (by omega)

set_option maxRecDepth 20000 in
set_option maxHeartbeats 4000000 in
theorem x_up_b {μ : Mem} {σ : Sg} {r : List Nat} {wi gc f : Nat} {g : Nat → Nat} {i : Nat} {Q : Option Value → Mem → Prop} (hO : Ok σ) (hP : okP σ r) (hr8 : r.length ≤ 8) (hw : wi < 150) (hp : μ.2 13 wi = lN (packP r)) (hgc : SHl[gc]? = some (.inl (0, 12, 0))) (hg : ∀ x ∈ r, μ.1 gc x = nI (g x) ∧ g x ≤ 99) (hf : f ≤ 98) (h : Q (some (.long (lN (pUp g f r)))) μ) (hi : r.length ≤ i) (hi8 : i ≤ 8) : WP cX2_upper (RX2, 8, (some .long), 1, none) 6 [(0, .ref 12), (1, .int (nI wi)), (2, .ref (gc)), (3, .int (nI f)), (4, .long (lN (pUp g f r))), (6, .int (nI i))] [] μ Q := by
  refine r_iload (pc := 6) dX2_upper_6 rfl ?_
  refine r_bipush (pc := 8) (v := (nI (8))) dX2_upper_8 (by decide) ?_
  refine rn_icmp_ge (pc := 10) (tgt := 57) dX2_upper_10 (by decide) (by omega) (by omega) (fun c10 => ?_) (fun c10 => ?_)
  · refine r_lload (pc := 57) dX2_upper_57 rfl ?_
    refine r_lreturn (pc := 59) dX2_upper_59 rfl ?_
    exact h
  · refine r_aload_n (pc := 13) dX2_upper_13 rfl ?_
    refine r_iload_n (pc := 14) dX2_upper_14 rfl ?_
    refine r_iload (pc := 15) dX2_upper_15 rfl ?_
    refine r_callV (pc := 17) (d' := 0) (k := 12) (As := [.int (nI wi), .int (nI i)]) (rest := []) dX2_upper_17 vX2_boardAt mX2_70 rfl rfl rfl (Nat.le_of_ble_eq_true rfl) (Nat.le_of_ble_eq_true rfl) ?_
    refine x_bat_n hO hP hr8 hw (by omega) hp (List.getElem?_eq_none (by omega)) ?_
    refine r_istore (pc := 20) (ls' := [(0, .ref 12), (1, .int (nI wi)), (2, .ref (gc)), (3, .int (nI f)), (4, .long (lN (pUp g f r))), (6, .int (nI i)), (7, .int ((-1)))]) dX2_upper_20 (Nat.le_of_ble_eq_true rfl) rfl ?_
    refine r_iload (pc := 22) dX2_upper_22 rfl ?_
    refine r_if_lt (pc := 24) (tgt := 57) dX2_upper_24 (by decide) (fun c24 => ?_) (fun c24 => ?_)
    · refine r_lload (pc := 57) dX2_upper_57 rfl ?_
      refine r_lreturn (pc := 59) dX2_upper_59 rfl ?_
      exact h
    · exact absurd (by decide) c24

set_option maxRecDepth 20000 in
set_option maxHeartbeats 4000000 in
theorem x_up_a {μ : Mem} {σ : Sg} {r : List Nat} {wi gc f : Nat} {g : Nat → Nat} {Q : Option Value → Mem → Prop} (hO : Ok σ) (hP : okP σ r) (hr8 : r.length ≤ 8) (hw : wi < 150) (hp : μ.2 13 wi = lN (packP r)) (hgc : SHl[gc]? = some (.inl (0, 12, 0))) (hg : ∀ x ∈ r, μ.1 gc x = nI (g x) ∧ g x ≤ 99) (hf : f ≤ 98) (h : Q (some (.long (lN (pUp g f r)))) μ) : ∀ (k : Nat) (i : Nat), i + k = r.length → WP cX2_upper (RX2, 8, (some .long), 1, none) 6 [(0, .ref 12), (1, .int (nI wi)), (2, .ref (gc)), (3, .int (nI f)), (4, .long (lN (pUp g f (r.take i)))), (6, .int (nI i))] [] μ Q := by
  intro k
  induction k using Nat.strongRecOn with
  | _ k ih =>
    intro i hi
    have hn := Ok_n hO
    rcases Nat.eq_zero_or_pos k with hk0 | hk0
    · obtain rfl : i = r.length := by omega
      rw [List.take_length]
      exact x_up_b hO hP hr8 hw hp hgc hg hf h (Nat.le_refl _) hr8
    obtain ⟨b, hb⟩ : ∃ b, r[i]? = some b := ⟨r[i]'(by omega), List.getElem?_eq_getElem (by omega)⟩
    have hbn := hP b (List.mem_of_getElem? hb)
    have hgb := (hg b (List.mem_of_getElem? hb)).2
    have hur := upR_99 (f := f) hgb
    have ht : r.take (i + 1) = r.take i ++ [b] := by
      rw [List.take_add_one, hb]
      rfl
    refine r_iload (pc := 6) dX2_upper_6 rfl ?_
    refine r_bipush (pc := 8) (v := (nI (8))) dX2_upper_8 (by decide) ?_
    refine rn_icmp_ge (pc := 10) (tgt := 57) dX2_upper_10 (by decide) (by omega) (by omega) (fun c10 => ?_) (fun c10 => ?_)
    · exact absurd c10 (by omega)
    · refine r_aload_n (pc := 13) dX2_upper_13 rfl ?_
      refine r_iload_n (pc := 14) dX2_upper_14 rfl ?_
      refine r_iload (pc := 15) dX2_upper_15 rfl ?_
      refine r_callV (pc := 17) (d' := 0) (k := 12) (As := [.int (nI wi), .int (nI i)]) (rest := []) dX2_upper_17 vX2_boardAt mX2_70 rfl rfl rfl (Nat.le_of_ble_eq_true rfl) (Nat.le_of_ble_eq_true rfl) ?_
      refine x_bat_s (b := b) hO hP hr8 hw (by omega) hp hb ?_
      refine r_istore (pc := 20) (ls' := [(0, .ref 12), (1, .int (nI wi)), (2, .ref (gc)), (3, .int (nI f)), (4, .long (lN (pUp g f (r.take i)))), (6, .int (nI i)), (7, .int (nI b))]) dX2_upper_20 (Nat.le_of_ble_eq_true rfl) rfl ?_
      refine r_iload (pc := 22) dX2_upper_22 rfl ?_
      refine rn_if_lt (pc := 24) (tgt := 57) dX2_upper_24 (by decide) (by omega) ?_
      refine r_iload (pc := 27) dX2_upper_27 rfl ?_
      refine r_aload_n (pc := 29) dX2_upper_29 rfl ?_
      refine r_alen (pc := 30) dX2_upper_30 hgc ?_
      refine rn_icmp_lt (pc := 31) (tgt := 37) dX2_upper_31 (by decide) (by omega) (by omega) (fun c31 => ?_) (fun c31 => ?_)
      · refine r_lload (pc := 37) dX2_upper_37 rfl ?_
        refine r_aload_n (pc := 39) dX2_upper_39 rfl ?_
        refine r_iload (pc := 40) dX2_upper_40 rfl ?_
        refine r_iald (pc := 42) (x := (nI (g b))) dX2_upper_42 hgc rfl (by omega) (hg b (List.mem_of_getElem? hb)).1 ?_
        refine r_iload_n (pc := 43) dX2_upper_43 rfl ?_
        refine r_callN (pc := 44) (d' := 0) (As := [.int (nI (g b)), .int (nI f)]) (rest := [.long (lN (pUp g f (r.take i)))]) dX2_upper_44 sX6_rateUpper nX2_88 rfl rfl (Nat.le_of_ble_eq_true rfl) (Nat.le_of_ble_eq_true rfl) ?_
        refine c_rate (by omega) (by omega) ?_
        refine rn_i2l (pc := 47) dX2_upper_47 (by omega) ?_
        refine rn_lmul (pc := 48) dX2_upper_48 ?_
        refine r_eql (y := lN (pUp g f (r.take (i + 1)))) (by rw [ht, pUp_snoc]) ?_
        refine r_lstore (pc := 49) (ls' := [(0, .ref 12), (1, .int (nI wi)), (2, .ref (gc)), (3, .int (nI f)), (4, .long (lN (pUp g f (r.take (i + 1))))), (6, .int (nI i)), (7, .int (nI b))]) dX2_upper_49 (Nat.le_of_ble_eq_true rfl) rfl ?_
        refine rn_iinc (pc := 51) (b := 1) (ls' := [(0, .ref 12), (1, .int (nI wi)), (2, .ref (gc)), (3, .int (nI f)), (4, .long (lN (pUp g f (r.take (i + 1))))), (6, .int (nI (i + 1))), (7, .int (nI b))]) dX2_upper_51 rfl (by decide) (Nat.le_of_ble_eq_true rfl) rfl ?_
        refine r_goto (pc := 54) (tgt := 6) dX2_upper_54 (by decide) ?_
        refine r_pick (ls' := [(0, .ref 12), (1, .int (nI wi)), (2, .ref (gc)), (3, .int (nI f)), (4, .long (lN (pUp g f (r.take (i + 1))))), (6, .int (nI (i + 1)))]) [0, 1, 2, 3, 4, 5] rfl ?_
        exact ih (k - 1) (by omega) (i + 1) (by omega)
      · exact absurd c31 (by omega)

set_option maxRecDepth 20000 in
set_option maxHeartbeats 4000000 in
theorem x_upper {μ : Mem} {σ : Sg} {r : List Nat} {wi gc f : Nat} {g : Nat → Nat} {Q : Option Value → Mem → Prop} (hO : Ok σ) (hP : okP σ r) (hr8 : r.length ≤ 8) (hw : wi < 150) (hp : μ.2 13 wi = lN (packP r)) (hgc : SHl[gc]? = some (.inl (0, 12, 0))) (hg : ∀ x ∈ r, μ.1 gc x = nI (g x) ∧ g x ≤ 99) (hf : f ≤ 98) (h : Q (some (.long (lN (pUp g f r)))) μ) : Sp iX2_upper 1 [.ref 12, .int (nI wi), .ref (gc), .int (nI f)] μ Q := by
  refine Sp.of vX2_upper.1 (Nat.le_of_ble_eq_true rfl) ?_
  show WP cX2_upper (RX2, 8, (some .long), 1, none) 0 [(0, .ref 12), (1, .int (nI wi)), (2, .ref (gc)), (3, .int (nI f))] [] μ Q
  refine r_lconst (pc := 0) (v := lN 1) dX2_upper_0 rfl ?_
  refine r_lstore (pc := 1) (ls' := [(0, .ref 12), (1, .int (nI wi)), (2, .ref (gc)), (3, .int (nI f)), (4, .long (lN (1)))]) dX2_upper_1 (Nat.le_of_ble_eq_true rfl) rfl ?_
  refine r_iconst (pc := 3) (v := (nI (0))) dX2_upper_3 (by decide) ?_
  refine r_istore (pc := 4) (ls' := [(0, .ref 12), (1, .int (nI wi)), (2, .ref (gc)), (3, .int (nI f)), (4, .long (lN (1))), (6, .int (nI 0))]) dX2_upper_4 (Nat.le_of_ble_eq_true rfl) rfl ?_
  exact x_up_a hO hP hr8 hw hp hgc hg hf h r.length 0 (by omega)

/-- gives in a row of twelve -/
def gvs (μ : Mem) (gc : Nat) (g : Nat → Nat) (σ : Sg) : Prop := SHl[gc]? = some (.inl (0, 12, 0)) ∧ ∀ x, x < σ 0 0 → μ.1 gc x = nI (g x) ∧ g x ≤ 99

set_option maxRecDepth 20000 in
set_option maxHeartbeats 4000000 in
theorem x_gains {μ : Mem} {σ : Sg} {r : List Nat} {wi gc f : Nat} {g : Nat → Nat} {Q : Option Value → Mem → Prop} (hO : Ok σ) (hP : okP σ r) (hr8 : r.length ≤ 8) (hw : wi < 150) (hp : μ.2 13 wi = lN (packP r)) (hl : μ.2 14 wi = lN (pLow σ r)) (hg : gvs μ gc g σ) (hf : f ≤ 98) (h : Q (some (.int (b2i (gns σ g f r)))) μ) : Sp iX2_gains 2 [.ref 12, .int (nI wi), .ref (gc), .int (nI f)] μ Q := by
  refine Sp.of vX2_gains.1 (Nat.le_of_ble_eq_true rfl) ?_
  show WP cX2_gains (RX2, 4, (some .boolean), 2, none) 0 [(0, .ref 12), (1, .int (nI wi)), (2, .ref (gc)), (3, .int (nI f))] [] μ Q
  have hn := Ok_n hO
  have hu := pUp_lt (g := g) (f := f) (r := r) (fun x hx => (hg.2 x (hP x hx)).2) hr8
  have hlo := okP_low hO hP hr8
  refine r_aload_n (pc := 0) dX2_gains_0 rfl ?_
  refine r_iload_n (pc := 1) dX2_gains_1 rfl ?_
  refine r_aload_n (pc := 2) dX2_gains_2 rfl ?_
  refine r_iload_n (pc := 3) dX2_gains_3 rfl ?_
  refine r_callV (pc := 4) (d' := 1) (k := 12) (As := [.int (nI wi), .ref (gc), .int (nI f)]) (rest := []) dX2_gains_4 vX2_upper mX2_91 rfl rfl rfl (Nat.le_of_ble_eq_true rfl) (Nat.le_of_ble_eq_true rfl) ?_
  refine x_upper hO hP hr8 hw hp hg.1 (fun x hx => hg.2 x (hP x hx)) hf ?_
  refine r_aload_n (pc := 7) dX2_gains_7 rfl ?_
  refine r_getR (pc := 8) (r := 14) dX2_gains_8 fX2_15 rfl rfl ?_
  refine r_iload_n (pc := 11) dX2_gains_11 rfl ?_
  refine r_lald (pc := 12) (x := (lN (pLow σ r))) dX2_gains_12 rfl rfl (by omega) hl ?_
  refine rn_lcmp (pc := 13) dX2_gains_13 (by omega) (by omega) ?_
  refine rc_if_le (pc := 14) (tgt := 21) dX2_gains_14 (by decide) (fun c14 => ?_) (fun c14 => ?_)
  · refine r_iconst (pc := 21) (v := (nI (0))) dX2_gains_21 (by decide) ?_
    refine r_ireturn (pc := 22) dX2_gains_22 rfl (Or.inr rfl) rfl ?_
    refine (congrArg (fun z => Q (some (.int z)) μ) (?_ : b2i (gns σ g f r) = (nI (0)))).mp h
    exact b2i_f (decide_eq_false (by omega))
  · refine r_iconst (pc := 17) (v := (nI (1))) dX2_gains_17 (by decide) ?_
    refine r_goto (pc := 18) (tgt := 22) dX2_gains_18 (by decide) ?_
    refine r_ireturn (pc := 22) dX2_gains_22 rfl (Or.inr rfl) rfl ?_
    refine (congrArg (fun z => Q (some (.int z)) μ) (?_ : b2i (gns σ g f r) = (nI (1)))).mp h
    exact b2i_t (decide_eq_true (by omega))

def gixN (σ : Sg) (m : Nat) : List Nat := (List.range m).filter (fun i => gnF σ ((rnds σ).getD i []))
theorem gixN_all (σ : Sg) : gixN σ (rnds σ).length = gix σ (σ 4) (σ 0 1) := rfl
theorem filter_one (p : Nat → Bool) (m : Nat) : [m].filter p = if p m = true then [m] else [] := by cases h : p m <;> simp [h]
theorem gixN_s (σ : Sg) (m : Nat) : gixN σ (m + 1) = gixN σ m ++ (if gnF σ ((rnds σ).getD m []) = true then [m] else []) := by
  unfold gixN
  rw [List.range_succ, List.filter_append]
  congr 1
  exact filter_one (fun i => gnF σ ((rnds σ).getD i [])) m
theorem gixN_len (σ : Sg) (m : Nat) : (gixN σ m).length ≤ m := by
  have := List.length_filter_le (fun i => gnF σ ((rnds σ).getD i [])) (List.range m)
  rw [List.length_range] at this
  exact this
def frF (μ μ' : Mem) : Prop := (∀ k, ¬ k = 12 → ¬ k = 15 → ¬ k = 16 → μ'.1 k = μ.1 k) ∧ (∀ k, ¬ k = 13 → ¬ k = 14 → μ'.2 k = μ.2 k)
theorem frF.tr {μ μ' μ'' : Mem} (h : frF μ μ') (h' : frF μ' μ'') : frF μ μ'' := ⟨fun k a b c => (h'.1 k a b c).trans (h.1 k a b c), fun k a b => (h'.2 k a b).trans (h.2 k a b)⟩
theorem frR.F {μ μ' : Mem} (h : frR μ μ') : frF μ μ' := ⟨fun k a b _ => h.1 k a b, h.2.1⟩
theorem Xs_frF {μ μ' : Mem} {σ : Sg} (h : frF μ μ') (hX : Xs μ σ) : Xs μ' σ := by
  unfold Xs
  rw [h.1 1 (by decide) (by decide) (by decide), h.1 2 (by decide) (by decide) (by decide), h.1 3 (by decide) (by decide) (by decide), h.1 4 (by decide) (by decide) (by decide), h.1 5 (by decide) (by decide) (by decide), h.1 6 (by decide) (by decide) (by decide), h.1 7 (by decide) (by decide) (by decide), h.1 8 (by decide) (by decide) (by decide), h.1 9 (by decide) (by decide) (by decide), h.1 10 (by decide) (by decide) (by decide), h.1 11 (by decide) (by decide) (by decide), h.1 39 (by decide) (by decide) (by decide)]
  exact hX
theorem frF.keep {μ μ' : Mem} (h : frF μ μ') : keepM μ μ' := fun k hk => ⟨h.1 k (by omega) (by omega) (by omega), h.2 k (by omega) (by omega)⟩
/-- the second loop of findAll -/
def FA (μ : Mem) (σ : Sg) (m : Nat) (μ1 : Mem) : Prop := frF μ μ1 ∧ RA μ1 σ (rnds σ) ∧ μ1.1 12 6 = nI (gixN σ m).length ∧ ∀ i k, (gixN σ m)[i]? = some k → μ1.1 16 i = nI k
theorem FA_s {μ μ1 : Mem} {σ : Sg} {m : Nat} (h : FA μ σ m μ1) (hg : gnF σ ((rnds σ).getD m []) = true) : FA μ σ (m + 1) (setI (setI μ1 16 (gixN σ m).length (nI m)) 12 6 (nI ((gixN σ m).length + 1))) := by
  obtain ⟨h1, h2, h3, h4⟩ := h
  have e : gixN σ (m + 1) = gixN σ m ++ [m] := by rw [gixN_s, if_pos hg]
  refine ⟨frF.tr h1 ⟨fun k a b c => (if_neg a).trans (if_neg c), fun _ _ _ => rfl⟩, ⟨?_, h2.2⟩, ?_, fun i k hk => ?_⟩
  · exact h2.1
  · rw [e, List.length_append]
    rfl
  · rw [e] at hk
    show upd (μ1.1 16) (gixN σ m).length (nI m) i = _
    rw [upd_at]
    by_cases q : i = (gixN σ m).length
    · subst q
      rw [List.getElem?_append_right (Nat.le_refl _), Nat.sub_self] at hk
      cases hk
      rw [if_pos rfl]
    · have hl := (List.getElem?_eq_some_iff.mp hk).1
      rw [List.length_append] at hl
      simp at hl
      rw [List.getElem?_append_left (by omega)] at hk
      rw [if_neg q]
      exact h4 i k hk
theorem FA_n {μ μ1 : Mem} {σ : Sg} {m : Nat} (h : FA μ σ m μ1) (hg : gnF σ ((rnds σ).getD m []) = false) : FA μ σ (m + 1) μ1 := by
  obtain ⟨h1, h2, h3, h4⟩ := h
  have e : gixN σ (m + 1) = gixN σ m := by rw [gixN_s, if_neg (by rw [hg]; decide), List.append_nil]
  exact ⟨h1, h2, by rw [e]; exact h3, by rw [e]; exact h4⟩
theorem rnds_at {σ : Sg} {m : Nat} (h : m < (rnds σ).length) : (rnds σ)[m]? = some ((rnds σ).getD m []) := by
  rw [List.getD_eq_getElem?_getD, List.getElem?_eq_getElem h]
  rfl
theorem rnds_in {σ : Sg} {m : Nat} (h : m < (rnds σ).length) : (rnds σ).getD m [] ∈ rnds σ := List.mem_of_getElem? (rnds_at h)

set_option maxRecDepth 20000 in
set_option maxHeartbeats 4000000 in
theorem x_find_g {μ : Mem} {σ : Sg} {Q : Option Value → Mem → Prop} (hX : Xs μ σ) (hO : Ok σ) (h : ∀ μ', frF μ μ' → FoundOK μ' σ → μ'.1 12 7 = nI 1 → Q none μ') : ∀ (k : Nat) (m : Nat) (μ1 : Mem), m + k = (rnds σ).length → FA μ σ m μ1 → WP cX2_findAll (RX2, 3, none, 12, none) 38 [(0, .ref 12), (1, .ref 1), (2, .int (nI m))] [] μ1 Q := by
  intro k
  induction k using Nat.strongRecOn with
  | _ k ih =>
    intro m μ1 hm hF
    have hn := Ok_n hO
    have hR := rnds_le hO
    have hX1 := Xs_frF hF.1 hX
    refine r_iload_n (pc := 38) dX2_findAll_38 rfl ?_
    refine r_aload_n (pc := 39) dX2_findAll_39 rfl ?_
    refine r_getI (pc := 40) (x := (nI ((rnds σ).length))) dX2_findAll_40 fX2_28 rfl rfl hF.2.1.1 ?_
    refine rn_icmp_ge (pc := 43) (tgt := 90) dX2_findAll_43 (by decide) (by omega) (by omega) (fun c43 => ?_) (fun c43 => ?_)
    · obtain rfl : m = (rnds σ).length := by omega
      refine r_aload_n (pc := 90) dX2_findAll_90 rfl ?_
      refine r_iconst (pc := 91) (v := (nI (1))) dX2_findAll_91 (by decide) ?_
      refine r_putI (pc := 92) dX2_findAll_92 gX2_35 rfl rfl rfl rfl ?_
      refine r_return (pc := 95) dX2_findAll_95 rfl ?_
      exact h _ (frF.tr hF.1 ⟨fun k a _ _ => if_neg a, fun _ _ _ => rfl⟩) ⟨hF.2.1.1, by have := hF.2.2.1; rw [gixN_all] at this; exact this, fun i r hr => hF.2.1.2 i r hr, by have := hF.2.2.2; rw [gixN_all] at this; exact this⟩ rfl
    · refine r_aload_n (pc := 46) dX2_findAll_46 rfl ?_
      refine r_iload_n (pc := 47) dX2_findAll_47 rfl ?_
      refine r_aload_n (pc := 48) dX2_findAll_48 rfl ?_
      refine r_getR (pc := 49) (r := 5) dX2_findAll_49 fX2_43 rfl rfl ?_
      refine r_aload_n (pc := 52) dX2_findAll_52 rfl ?_
      refine r_getR (pc := 53) (r := 9) dX2_findAll_53 fX2_48 rfl rfl ?_
      refine r_iconst (pc := 56) (v := (nI (0))) dX2_findAll_56 (by decide) ?_
      refine r_iald (pc := 57) (x := (nI (σ 0 1))) dX2_findAll_57 rfl rfl (by omega) (Xs_fee (μ := μ1) hX1) ?_
      refine r_callV (pc := 58) (d' := 2) (k := 12) (As := [.int (nI m), .ref 5, .int (nI (σ 0 1))]) (rest := []) dX2_findAll_58 vX2_gains mX2_51 rfl rfl rfl (Nat.le_of_ble_eq_true rfl) (Nat.le_of_ble_eq_true rfl) ?_
      have hmem := rnds_mem (rnds_in c43)
      have hrx := hF.2.1.2 m _ (rnds_at c43)
      refine x_gains (μ := μ1) (gc := 5) (g := σ 4) hO hmem.2.1 hmem.1.2 (by omega) hrx.1 hrx.2.1 ⟨rfl, fun x hx => ⟨Xs_4 hX1 (by omega), (Ok_b hO (j := x) (by omega)).2.2.2.1⟩⟩ (by omega) ?_
      refine rb_if_eq (pc := 61) (tgt := 84) dX2_findAll_61 (by decide) (fun c61 => ?_) (fun c61 => ?_)
      · refine rn_iinc (pc := 84) (b := 1) (ls' := [(0, .ref 12), (1, .ref 1), (2, .int (nI (m + 1)))]) dX2_findAll_84 rfl (by decide) (Nat.le_of_ble_eq_true rfl) rfl ?_
        refine r_goto (pc := 87) (tgt := 38) dX2_findAll_87 (by decide) ?_
        exact ih (k - 1) (by omega) (m + 1) μ1 (by omega) (FA_n hF c61)
      · refine r_aload_n (pc := 64) dX2_findAll_64 rfl ?_
        refine r_getR (pc := 65) (r := 16) dX2_findAll_65 fX2_22 rfl rfl ?_
        refine r_aload_n (pc := 68) dX2_findAll_68 rfl ?_
        refine r_getI (pc := 69) (x := (nI ((gixN σ m).length))) dX2_findAll_69 fX2_32 rfl rfl hF.2.2.1 ?_
        have hgl := gixN_len σ m
        refine r_iload_n (pc := 72) dX2_findAll_72 rfl ?_
        refine r_iast (pc := 73) dX2_findAll_73 rfl rfl (by omega) ?_
        refine r_aload_n (pc := 74) dX2_findAll_74 rfl ?_
        refine r_dup_r (pc := 75) dX2_findAll_75 ?_
        refine r_getI (pc := 76) (x := (nI ((gixN σ m).length))) dX2_findAll_76 fX2_32 rfl rfl hF.2.2.1 ?_
        have hgl := gixN_len σ m
        refine r_iconst (pc := 79) (v := (nI (1))) dX2_findAll_79 (by decide) ?_
        refine rn_iadd (pc := 80) dX2_findAll_80 ?_
        refine r_putI (pc := 81) dX2_findAll_81 gX2_32 rfl rfl rfl rfl ?_
        refine rn_iinc (pc := 84) (b := 1) (ls' := [(0, .ref 12), (1, .ref 1), (2, .int (nI (m + 1)))]) dX2_findAll_84 rfl (by decide) (Nat.le_of_ble_eq_true rfl) rfl ?_
        refine r_goto (pc := 87) (tgt := 38) dX2_findAll_87 (by decide) ?_
        exact ih (k - 1) (by omega) (m + 1) _ (by omega) (FA_s hF c61)

set_option maxRecDepth 20000 in
set_option maxHeartbeats 4000000 in
theorem x_find_l {μ : Mem} {σ : Sg} {Q : Option Value → Mem → Prop} (hX : Xs μ σ) (hO : Ok σ) (h : ∀ μ', frF μ μ' → FoundOK μ' σ → μ'.1 12 7 = nI 1 → Q none μ') : ∀ (k : Nat) (s : Nat) (μ1 : Mem), s + k = 8 → frF μ μ1 → RA μ1 σ ((List.range s).flatMap (Dst σ)) → WP cX2_findAll (RX2, 3, none, 12, none) 7 [(0, .ref 12), (1, .ref 1), (2, .int (nI s))] [] μ1 Q := by
  intro k
  induction k using Nat.strongRecOn with
  | _ k ih =>
    intro s μ1 hs hf1 hA1
    have hn := Ok_n hO
    refine r_iload_n (pc := 7) dX2_findAll_7 rfl ?_
    refine r_bipush (pc := 8) (v := (nI (8))) dX2_findAll_8 (by decide) ?_
    refine rn_icmp_ge (pc := 10) (tgt := 31) dX2_findAll_10 (by decide) (by omega) (by omega) (fun c10 => ?_) (fun c10 => ?_)
    · obtain rfl : s = 8 := by omega
      rw [show (List.range 8).flatMap (Dst σ) = rnds σ from rfl] at hA1
      refine r_aload_n (pc := 31) dX2_findAll_31 rfl ?_
      refine r_iconst (pc := 32) (v := (nI (0))) dX2_findAll_32 (by decide) ?_
      refine r_putI (pc := 33) dX2_findAll_33 gX2_32 rfl rfl rfl rfl ?_
      refine r_iconst (pc := 36) (v := (nI (0))) dX2_findAll_36 (by decide) ?_
      refine r_istore_n (pc := 37) (ls' := [(0, .ref 12), (1, .ref 1), (2, .int (nI 0))]) dX2_findAll_37 (Nat.le_of_ble_eq_true rfl) rfl ?_
      exact x_find_g hX hO h (rnds σ).length 0 _ (by omega) ⟨frF.tr hf1 ⟨fun k a _ _ => if_neg a, fun _ _ _ => rfl⟩, ⟨hA1.1, hA1.2⟩, rfl, fun i k hk => by simp [gixN] at hk⟩
    · refine r_aload_n (pc := 13) dX2_findAll_13 rfl ?_
      refine r_aload_n (pc := 14) dX2_findAll_14 rfl ?_
      refine r_iload_n (pc := 15) dX2_findAll_15 rfl ?_
      refine r_iload_n (pc := 16) dX2_findAll_16 rfl ?_
      refine r_iconst (pc := 17) (v := (nI (1))) dX2_findAll_17 (by decide) ?_
      refine r_iload_n (pc := 18) dX2_findAll_18 rfl ?_
      refine r_ishl (pc := 19) dX2_findAll_19 ?_
      refine r_eqi (shl1 (by omega)) ?_
      refine r_lconst (pc := 20) (v := lN 0) dX2_findAll_20 rfl ?_
      refine r_iconst (pc := 21) (v := (nI (0))) dX2_findAll_21 (by decide) ?_
      refine r_callS (pc := 22) (d' := 11) (As := [.ref 12, .ref 1, .int (nI s), .int (nI s), .int (nI (2 ^ s)), .long (lN (0)), .int (nI 0)]) (rest := []) dX2_findAll_22 sX2_goOn mX2_39 rfl rfl (Nat.le_of_ble_eq_true rfl) (Nat.le_of_ble_eq_true rfl) ?_
      refine x_goOn hO (by omega) 8 s (2 ^ s) [] ((List.range s).flatMap (Dst σ)) μ1 _ rfl ⟨by omega, Nat.le_refl _⟩ (Nat.pow_lt_pow_right (by decide) (by omega)) (fun x hx => by simp at hx) (Xs_frF hf1 hX) hA1 (by have := rnds_pre hO (s := s) (by omega); rw [flat_succ] at this; exact this) (fun μ2 hA2 hf2 => ?_)
      refine rn_iinc (pc := 25) (b := 1) (ls' := [(0, .ref 12), (1, .ref 1), (2, .int (nI (s + 1)))]) dX2_findAll_25 rfl (by decide) (Nat.le_of_ble_eq_true rfl) rfl ?_
      refine r_goto (pc := 28) (tgt := 7) dX2_findAll_28 (by decide) ?_
      exact ih (k - 1) (by omega) (s + 1) μ2 (by omega) (frF.tr hf1 hf2.F) (by rw [flat_succ]; exact hA2)

set_option maxRecDepth 20000 in
set_option maxHeartbeats 4000000 in
theorem x_find {μ : Mem} {σ : Sg} {Q : Option Value → Mem → Prop} (hX : Xs μ σ) (hO : Ok σ) (h : ∀ μ', frF μ μ' → FoundOK μ' σ → μ'.1 12 7 = nI 1 → Q none μ') : Sp iX2_findAll 12 [.ref 12, .ref 1] μ Q := by
  refine Sp.of vX2_findAll.1 (Nat.le_of_ble_eq_true rfl) ?_
  show WP cX2_findAll (RX2, 3, none, 12, none) 0 [(0, .ref 12), (1, .ref 1)] [] μ Q
  refine r_aload_n (pc := 0) dX2_findAll_0 rfl ?_
  refine r_iconst (pc := 1) (v := (nI (0))) dX2_findAll_1 (by decide) ?_
  refine r_putI (pc := 2) dX2_findAll_2 gX2_28 rfl rfl rfl rfl ?_
  refine r_iconst (pc := 5) (v := (nI (0))) dX2_findAll_5 (by decide) ?_
  refine r_istore_n (pc := 6) (ls' := [(0, .ref 12), (1, .ref 1), (2, .int (nI 0))]) dX2_findAll_6 (Nat.le_of_ble_eq_true rfl) rfl ?_
  exact x_find_l hX hO h 8 0 _ (by omega) ⟨fun k a _ _ => if_neg a, fun _ _ _ => rfl⟩ ⟨rfl, fun i r hr => by simp at hr⟩

/-- the class, with its rounds found -/
def XF (μ : Mem) (σ : Sg) : Prop := XI μ σ ∧ FoundOK μ σ

set_option maxRecDepth 20000 in
set_option maxHeartbeats 4000000 in
theorem x_look {μ : Mem} {σ : Sg} {Q : Option Value → Mem → Prop} (hI : XI μ σ) (hO : Ok σ) (h : ∀ μ', XF μ' σ → keepM μ μ' → Q none μ') : Sp iX6_lookAround 13 [.ref 0] μ Q := by
  refine Sp.of vX6_lookAround.1 (Nat.le_of_ble_eq_true rfl) ?_
  show WP cX6_lookAround (RX6, 1, none, 13, none) 0 [(0, .ref 0)] [] μ Q
  obtain ⟨kn, hkn⟩ : ∃ v, μ.1 12 7 = v := ⟨_, rfl⟩
  refine r_aload_n (pc := 0) dX6_lookAround_0 rfl ?_
  refine r_getR (pc := 1) (r := 12) dX6_lookAround_1 fX6_26 rfl rfl ?_
  refine r_getI (pc := 4) (x := kn) dX6_lookAround_4 fX6_251 rfl rfl hkn ?_
  refine r_if_ne (pc := 7) (tgt := 21) dX6_lookAround_7 (by decide) (fun c7 => ?_) (fun c7 => ?_)
  · refine r_return (pc := 21) dX6_lookAround_21 rfl ?_
    rcases hI.2.1 with hk | hk
    · rw [hkn] at hk; rw [hk] at c7; exact absurd c7 (by decide)
    · exact h μ ⟨hI, hk.2⟩ keepM.rf
  · refine r_aload_n (pc := 10) dX6_lookAround_10 rfl ?_
    refine r_getR (pc := 11) (r := 12) dX6_lookAround_11 fX6_26 rfl rfl ?_
    refine r_aload_n (pc := 14) dX6_lookAround_14 rfl ?_
    refine r_getR (pc := 15) (r := 1) dX6_lookAround_15 fX6_12 rfl rfl ?_
    refine r_callV (pc := 18) (d' := 12) (k := 12) (As := [.ref 1]) (rest := []) dX6_lookAround_18 vX2_findAll mX6_252 rfl rfl rfl (Nat.le_of_ble_eq_true rfl) (Nat.le_of_ble_eq_true rfl) ?_
    refine x_find hI.1 hO (fun μ' hf hF hk => ?_)
    refine r_return (pc := 21) dX6_lookAround_21 rfl ?_
    refine h μ' ⟨⟨Xs_frF hf hI.1, Or.inr ⟨hk, hF⟩, ?_⟩, hF⟩ hf.keep
    unfold SentOK
    rw [hf.1 37 (by decide) (by decide) (by decide), hf.1 38 (by decide) (by decide) (by decide)]
    exact hI.2.2
