/-! THE MODEL: read -/
def sameSg (τ σ : Sg) : Prop := τ 8 = σ 8 ∧ τ 0 4 = σ 0 4

set_option maxRecDepth 20000 in
set_option maxHeartbeats 4000000 in
theorem m_rd_d {μ : Mem} {σ τ : Sg} {cv : Int32} {tv fv : Int32} {a i : Nat} {Q : Option Value → Mem → Prop} (hM : Ms μ τ) (hO : Ok σ) (hτ : sameSg τ σ) (hi : i < σ 0 4) (hd : 48 ≤ σ 8 i ∧ σ 8 i ≤ 57) (ha : a ≤ 1000) (K : WP cX7_read (RX7, 7, (some .int), 2, none) 71 [(0, .ref 40), (1, .int (cv)), (2, .int (tv)), (3, .int (fv)), (4, .int (nI (10 * a + σ 8 i - 48))), (5, .int (nI (i + 1)))] [] μ Q) : WP cX7_read (RX7, 7, (some .int), 2, none) 71 [(0, .ref 40), (1, .int (cv)), (2, .int (tv)), (3, .int (fv)), (4, .int (nI a)), (5, .int (nI i))] [] μ Q := by
  have hn := Ok_n hO
  refine r_iload (pc := 71) dX7_read_71 rfl ?_
  refine r_aload_n (pc := 73) dX7_read_73 rfl ?_
  refine r_getI (pc := 74) (x := (nI (σ 0 4))) dX7_read_74 fX7_107 rfl rfl (by rw [← hτ.2]; exact Ms_sn hM) ?_
  refine rn_icmp_gt (pc := 77) (tgt := 197) dX7_read_77 (by decide) (by omega) (by omega) (fun c77 => ?_) (fun c77 => ?_)
  · exact absurd c77 (by omega)
  · refine r_iload (pc := 80) dX7_read_80 rfl ?_
    refine r_aload_n (pc := 82) dX7_read_82 rfl ?_
    refine r_getI (pc := 83) (x := (nI (σ 0 4))) dX7_read_83 fX7_107 rfl rfl (by rw [← hτ.2]; exact Ms_sn hM) ?_
    refine rn_icmp_ge (pc := 86) (tgt := 99) dX7_read_86 (by decide) (by omega) (by omega) (fun c86 => ?_) (fun c86 => ?_)
    · exact absurd c86 (by omega)
    · refine r_aload_n (pc := 89) dX7_read_89 rfl ?_
      refine r_getR (pc := 90) (r := 49) dX7_read_90 fX7_34 rfl rfl ?_
      refine r_iload (pc := 93) dX7_read_93 rfl ?_
      refine r_iald (pc := 95) (x := (nI (σ 8 (i)))) dX7_read_95 rfl rfl (by omega) (by rw [← hτ.1]; exact Ms_8 hM (by rw [hτ.2]; omega)) ?_
      have b1 := Ok_s hO (j := i) (by omega)
      refine r_goto (pc := 96) (tgt := 101) dX7_read_96 (by decide) ?_
      refine r_istore (pc := 101) (ls' := [(0, .ref 40), (1, .int (cv)), (2, .int (tv)), (3, .int (fv)), (4, .int (nI a)), (5, .int (nI i)), (6, .int (nI (σ 8 (i))))]) dX7_read_101 (Nat.le_of_ble_eq_true rfl) rfl ?_
      refine r_iload (pc := 103) dX7_read_103 rfl ?_
      refine r_bipush (pc := 105) (v := (nI (48))) dX7_read_105 (by decide) ?_
      refine r_bipush (pc := 107) (v := (nI (57))) dX7_read_107 (by decide) ?_
      refine r_callS (pc := 109) (d' := 0) (As := [.int (nI (σ 8 (i))), .int (nI 48), .int (nI 57)]) (rest := []) dX7_read_109 sX7_in mX7_77 rfl rfl (Nat.le_of_ble_eq_true rfl) (Nat.le_of_ble_eq_true rfl) ?_
      refine c_in ?_
      refine rb_if_eq (pc := 112) (tgt := 131) dX7_read_112 (by decide) (fun c112 => ?_) (fun c112 => ?_)
      · rw [inR_nat (by omega) (by decide) (by decide)] at c112
        simp at c112
        omega
      · refine r_bipush (pc := 115) (v := (nI (10))) dX7_read_115 (by decide) ?_
        refine r_iload (pc := 117) dX7_read_117 rfl ?_
        refine rn_imul (pc := 119) dX7_read_119 ?_
        refine r_iload (pc := 120) dX7_read_120 rfl ?_
        refine rn_iadd (pc := 122) dX7_read_122 ?_
        refine r_bipush (pc := 123) (v := (nI (48))) dX7_read_123 (by decide) ?_
        refine rn_isub (pc := 125) dX7_read_125 (by omega) ?_
        refine r_istore (pc := 126) (ls' := [(0, .ref 40), (1, .int (cv)), (2, .int (tv)), (3, .int (fv)), (4, .int (nI ((10 * a) + (σ 8 (i)) - (48)))), (5, .int (nI i)), (6, .int (nI (σ 8 (i))))]) dX7_read_126 (Nat.le_of_ble_eq_true rfl) rfl ?_
        refine r_goto (pc := 128) (tgt := 191) dX7_read_128 (by decide) ?_
        refine rn_iinc (pc := 191) (b := 1) (ls' := [(0, .ref 40), (1, .int (cv)), (2, .int (tv)), (3, .int (fv)), (4, .int (nI ((10 * a) + (σ 8 (i)) - (48)))), (5, .int (nI (i + 1))), (6, .int (nI (σ 8 (i))))]) dX7_read_191 rfl (by decide) (Nat.le_of_ble_eq_true rfl) rfl ?_
        refine r_goto (pc := 194) (tgt := 71) dX7_read_194 (by decide) ?_
        refine r_pick (ls' := [(0, .ref 40), (1, .int (cv)), (2, .int (tv)), (3, .int (fv)), (4, .int (nI ((10 * a) + (σ 8 (i)) - (48)))), (5, .int (nI (i + 1)))]) [0, 1, 2, 3, 4, 5] rfl ?_
        exact K

set_option maxRecDepth 20000 in
set_option maxHeartbeats 4000000 in
theorem m_rd_l {μ : Mem} {σ τ : Sg} {cv : Int32} {tv fv : Int32} {a i : Nat} {Q : Option Value → Mem → Prop} (hM : Ms μ τ) (hO : Ok σ) (hτ : sameSg τ σ) (hi : i < σ 0 4) (hd : 97 ≤ σ 8 i ∧ σ 8 i ≤ 104) (K : WP cX7_read (RX7, 7, (some .int), 2, none) 71 [(0, .ref 40), (1, .int (cv)), (2, .int (tv)), (3, .int (fv)), (4, .int (nI a)), (5, .int (nI (i + 1)))] [] μ Q) : WP cX7_read (RX7, 7, (some .int), 2, none) 71 [(0, .ref 40), (1, .int (cv)), (2, .int (tv)), (3, .int (fv)), (4, .int (nI a)), (5, .int (nI i))] [] μ Q := by
  have hn := Ok_n hO
  refine r_iload (pc := 71) dX7_read_71 rfl ?_
  refine r_aload_n (pc := 73) dX7_read_73 rfl ?_
  refine r_getI (pc := 74) (x := (nI (σ 0 4))) dX7_read_74 fX7_107 rfl rfl (by rw [← hτ.2]; exact Ms_sn hM) ?_
  refine rn_icmp_gt (pc := 77) (tgt := 197) dX7_read_77 (by decide) (by omega) (by omega) (fun c77 => ?_) (fun c77 => ?_)
  · exact absurd c77 (by omega)
  · refine r_iload (pc := 80) dX7_read_80 rfl ?_
    refine r_aload_n (pc := 82) dX7_read_82 rfl ?_
    refine r_getI (pc := 83) (x := (nI (σ 0 4))) dX7_read_83 fX7_107 rfl rfl (by rw [← hτ.2]; exact Ms_sn hM) ?_
    refine rn_icmp_ge (pc := 86) (tgt := 99) dX7_read_86 (by decide) (by omega) (by omega) (fun c86 => ?_) (fun c86 => ?_)
    · exact absurd c86 (by omega)
    · refine r_aload_n (pc := 89) dX7_read_89 rfl ?_
      refine r_getR (pc := 90) (r := 49) dX7_read_90 fX7_34 rfl rfl ?_
      refine r_iload (pc := 93) dX7_read_93 rfl ?_
      refine r_iald (pc := 95) (x := (nI (σ 8 (i)))) dX7_read_95 rfl rfl (by omega) (by rw [← hτ.1]; exact Ms_8 hM (by rw [hτ.2]; omega)) ?_
      have b1 := Ok_s hO (j := i) (by omega)
      refine r_goto (pc := 96) (tgt := 101) dX7_read_96 (by decide) ?_
      refine r_istore (pc := 101) (ls' := [(0, .ref 40), (1, .int (cv)), (2, .int (tv)), (3, .int (fv)), (4, .int (nI a)), (5, .int (nI i)), (6, .int (nI (σ 8 (i))))]) dX7_read_101 (Nat.le_of_ble_eq_true rfl) rfl ?_
      refine r_iload (pc := 103) dX7_read_103 rfl ?_
      refine r_bipush (pc := 105) (v := (nI (48))) dX7_read_105 (by decide) ?_
      refine r_bipush (pc := 107) (v := (nI (57))) dX7_read_107 (by decide) ?_
      refine r_callS (pc := 109) (d' := 0) (As := [.int (nI (σ 8 (i))), .int (nI 48), .int (nI 57)]) (rest := []) dX7_read_109 sX7_in mX7_77 rfl rfl (Nat.le_of_ble_eq_true rfl) (Nat.le_of_ble_eq_true rfl) ?_
      refine c_in ?_
      refine rb_if_eq (pc := 112) (tgt := 131) dX7_read_112 (by decide) (fun c112 => ?_) (fun c112 => ?_)
      · refine r_iload (pc := 131) dX7_read_131 rfl ?_
        refine r_bipush (pc := 133) (v := (nI (62))) dX7_read_133 (by decide) ?_
        refine rn_icmp_ne (pc := 135) (tgt := 160) dX7_read_135 (by decide) (by omega) (by omega) (fun c135 => ?_) (fun c135 => ?_)
        · refine r_iload (pc := 160) dX7_read_160 rfl ?_
          refine r_bipush (pc := 162) (v := (nI (59))) dX7_read_162 (by decide) ?_
          refine rn_icmp_ne (pc := 164) (tgt := 191) dX7_read_164 (by decide) (by omega) (by omega) (fun c164 => ?_) (fun c164 => ?_)
          · refine rn_iinc (pc := 191) (b := 1) (ls' := [(0, .ref 40), (1, .int (cv)), (2, .int (tv)), (3, .int (fv)), (4, .int (nI a)), (5, .int (nI (i + 1))), (6, .int (nI (σ 8 (i))))]) dX7_read_191 rfl (by decide) (Nat.le_of_ble_eq_true rfl) rfl ?_
            refine r_goto (pc := 194) (tgt := 71) dX7_read_194 (by decide) ?_
            refine r_pick (ls' := [(0, .ref 40), (1, .int (cv)), (2, .int (tv)), (3, .int (fv)), (4, .int (nI a)), (5, .int (nI (i + 1)))]) [0, 1, 2, 3, 4, 5] rfl ?_
            exact K
          · exact absurd c164 (by omega)
        · exact absurd c135 (by omega)
      · rw [inR_nat (by omega) (by decide) (by decide)] at c112
        simp at c112
        omega

set_option maxRecDepth 20000 in
set_option maxHeartbeats 4000000 in
theorem m_rd_g {μ : Mem} {σ τ : Sg} {cv : Int32} {tv fv : Int32} {a i : Nat} {Q : Option Value → Mem → Prop} (hM : Ms μ τ) (hO : Ok σ) (hτ : sameSg τ σ) (hi : i + 1 < σ 0 4) (hd : σ 8 (i + 1) = 62) (hc : 97 ≤ σ 8 i) (K : WP cX7_read (RX7, 7, (some .int), 2, none) 71 [(0, .ref 40), (1, .int (cv)), (2, .int (nI a)), (3, .int (nI (σ 8 i - 97))), (4, .int (nI 0)), (5, .int (nI (i + 1 + 1)))] [] μ Q) : WP cX7_read (RX7, 7, (some .int), 2, none) 71 [(0, .ref 40), (1, .int (cv)), (2, .int (tv)), (3, .int (fv)), (4, .int (nI a)), (5, .int (nI (i + 1)))] [] μ Q := by
  have hn := Ok_n hO
  refine r_iload (pc := 71) dX7_read_71 rfl ?_
  refine r_aload_n (pc := 73) dX7_read_73 rfl ?_
  refine r_getI (pc := 74) (x := (nI (σ 0 4))) dX7_read_74 fX7_107 rfl rfl (by rw [← hτ.2]; exact Ms_sn hM) ?_
  refine rn_icmp_gt (pc := 77) (tgt := 197) dX7_read_77 (by decide) (by omega) (by omega) (fun c77 => ?_) (fun c77 => ?_)
  · exact absurd c77 (by omega)
  · refine r_iload (pc := 80) dX7_read_80 rfl ?_
    refine r_aload_n (pc := 82) dX7_read_82 rfl ?_
    refine r_getI (pc := 83) (x := (nI (σ 0 4))) dX7_read_83 fX7_107 rfl rfl (by rw [← hτ.2]; exact Ms_sn hM) ?_
    refine rn_icmp_ge (pc := 86) (tgt := 99) dX7_read_86 (by decide) (by omega) (by omega) (fun c86 => ?_) (fun c86 => ?_)
    · exact absurd c86 (by omega)
    · refine r_aload_n (pc := 89) dX7_read_89 rfl ?_
      refine r_getR (pc := 90) (r := 49) dX7_read_90 fX7_34 rfl rfl ?_
      refine r_iload (pc := 93) dX7_read_93 rfl ?_
      refine r_iald (pc := 95) (x := (nI (σ 8 (i + 1)))) dX7_read_95 rfl rfl (by omega) (by rw [← hτ.1]; exact Ms_8 hM (by rw [hτ.2]; omega)) ?_
      have b1 := Ok_s hO (j := i + 1) (by omega)
      refine r_goto (pc := 96) (tgt := 101) dX7_read_96 (by decide) ?_
      refine r_istore (pc := 101) (ls' := [(0, .ref 40), (1, .int (cv)), (2, .int (tv)), (3, .int (fv)), (4, .int (nI a)), (5, .int (nI (i + 1))), (6, .int (nI (σ 8 (i + 1))))]) dX7_read_101 (Nat.le_of_ble_eq_true rfl) rfl ?_
      refine r_iload (pc := 103) dX7_read_103 rfl ?_
      refine r_bipush (pc := 105) (v := (nI (48))) dX7_read_105 (by decide) ?_
      refine r_bipush (pc := 107) (v := (nI (57))) dX7_read_107 (by decide) ?_
      refine r_callS (pc := 109) (d' := 0) (As := [.int (nI (σ 8 (i + 1))), .int (nI 48), .int (nI 57)]) (rest := []) dX7_read_109 sX7_in mX7_77 rfl rfl (Nat.le_of_ble_eq_true rfl) (Nat.le_of_ble_eq_true rfl) ?_
      refine c_in ?_
      refine rb_if_eq (pc := 112) (tgt := 131) dX7_read_112 (by decide) (fun c112 => ?_) (fun c112 => ?_)
      · refine r_iload (pc := 131) dX7_read_131 rfl ?_
        refine r_bipush (pc := 133) (v := (nI (62))) dX7_read_133 (by decide) ?_
        refine rn_icmp_ne (pc := 135) (tgt := 160) dX7_read_135 (by decide) (by omega) (by omega) (fun c135 => ?_) (fun c135 => ?_)
        · exact absurd c135 (by omega)
        · refine r_iload (pc := 138) dX7_read_138 rfl ?_
          refine r_istore_n (pc := 140) (ls' := [(0, .ref 40), (1, .int (cv)), (2, .int (nI a)), (3, .int (fv)), (4, .int (nI a)), (5, .int (nI (i + 1))), (6, .int (nI (σ 8 (i + 1))))]) dX7_read_140 (Nat.le_of_ble_eq_true rfl) rfl ?_
          refine r_aload_n (pc := 141) dX7_read_141 rfl ?_
          refine r_getR (pc := 142) (r := 49) dX7_read_142 fX7_34 rfl rfl ?_
          refine r_iload (pc := 145) dX7_read_145 rfl ?_
          refine r_iconst (pc := 147) (v := (nI (1))) dX7_read_147 (by decide) ?_
          refine rn_isub (pc := 148) dX7_read_148 (by omega) ?_
          refine r_eqi (y := nI i) rfl ?_
          refine r_iald (pc := 149) (x := (nI (σ 8 (i)))) dX7_read_149 rfl rfl (by omega) (by rw [← hτ.1]; exact Ms_8 hM (by rw [hτ.2]; omega)) ?_
          have b2 := Ok_s hO (j := i) (by omega)
          refine r_bipush (pc := 150) (v := (nI (97))) dX7_read_150 (by decide) ?_
          refine rn_isub (pc := 152) dX7_read_152 (by omega) ?_
          refine r_istore_n (pc := 153) (ls' := [(0, .ref 40), (1, .int (cv)), (2, .int (nI a)), (3, .int (nI (σ 8 (i) - (97)))), (4, .int (nI a)), (5, .int (nI (i + 1))), (6, .int (nI (σ 8 (i + 1))))]) dX7_read_153 (Nat.le_of_ble_eq_true rfl) rfl ?_
          refine r_iconst (pc := 154) (v := (nI (0))) dX7_read_154 (by decide) ?_
          refine r_istore (pc := 155) (ls' := [(0, .ref 40), (1, .int (cv)), (2, .int (nI a)), (3, .int (nI (σ 8 (i) - (97)))), (4, .int (nI 0)), (5, .int (nI (i + 1))), (6, .int (nI (σ 8 (i + 1))))]) dX7_read_155 (Nat.le_of_ble_eq_true rfl) rfl ?_
          refine r_goto (pc := 157) (tgt := 191) dX7_read_157 (by decide) ?_
          refine rn_iinc (pc := 191) (b := 1) (ls' := [(0, .ref 40), (1, .int (cv)), (2, .int (nI a)), (3, .int (nI (σ 8 (i) - (97)))), (4, .int (nI 0)), (5, .int (nI (i + 1 + 1))), (6, .int (nI (σ 8 (i + 1))))]) dX7_read_191 rfl (by decide) (Nat.le_of_ble_eq_true rfl) rfl ?_
          refine r_goto (pc := 194) (tgt := 71) dX7_read_194 (by decide) ?_
          refine r_pick (ls' := [(0, .ref 40), (1, .int (cv)), (2, .int (nI a)), (3, .int (nI (σ 8 (i) - (97)))), (4, .int (nI 0)), (5, .int (nI (i + 1 + 1)))]) [0, 1, 2, 3, 4, 5] rfl ?_
          exact K
      · rw [inR_nat (by omega) (by decide) (by decide)] at c112
        simp at c112
        omega

set_option maxRecDepth 20000 in
set_option maxHeartbeats 4000000 in
theorem m_rd_s {μ : Mem} {σ τ : Sg} {cv : Int32} {t f a i : Nat} {Q : Option Value → Mem → Prop} (hM : Ms μ τ) (hO : Ok σ) (hτ : sameSg τ σ) (hOt : Ok τ) (hi : i < σ 0 4) (hd : i + 1 = σ 0 4 ∨ σ 8 (i + 1) = 59) (hc : 97 ≤ σ 8 i) (h12 : τ 0 0 < 12) (K : ∀ μ2, Ms μ2 (addB τ f t (σ 8 i - 97) a) → keepX μ μ2 → WP cX7_read (RX7, 7, (some .int), 2, none) 71 [(0, .ref 40), (1, .int (cv)), (2, .int (nI t)), (3, .int (nI f)), (4, .int (nI 0)), (5, .int (nI (i + 1 + 1)))] [] μ2 Q) : WP cX7_read (RX7, 7, (some .int), 2, none) 71 [(0, .ref 40), (1, .int (cv)), (2, .int (nI t)), (3, .int (nI f)), (4, .int (nI a)), (5, .int (nI (i + 1)))] [] μ Q := by
  have hn := Ok_n hO
  refine r_iload (pc := 71) dX7_read_71 rfl ?_
  refine r_aload_n (pc := 73) dX7_read_73 rfl ?_
  refine r_getI (pc := 74) (x := (nI (σ 0 4))) dX7_read_74 fX7_107 rfl rfl (by rw [← hτ.2]; exact Ms_sn hM) ?_
  refine rn_icmp_gt (pc := 77) (tgt := 197) dX7_read_77 (by decide) (by omega) (by omega) (fun c77 => ?_) (fun c77 => ?_)
  · exact absurd c77 (by omega)
  · refine r_iload (pc := 80) dX7_read_80 rfl ?_
    refine r_aload_n (pc := 82) dX7_read_82 rfl ?_
    refine r_getI (pc := 83) (x := (nI (σ 0 4))) dX7_read_83 fX7_107 rfl rfl (by rw [← hτ.2]; exact Ms_sn hM) ?_
    refine rn_icmp_ge (pc := 86) (tgt := 99) dX7_read_86 (by decide) (by omega) (by omega) (fun c86 => ?_) (fun c86 => ?_)
    · refine r_bipush (pc := 99) (v := (nI (59))) dX7_read_99 (by decide) ?_
      refine r_istore (pc := 101) (ls' := [(0, .ref 40), (1, .int (cv)), (2, .int (nI t)), (3, .int (nI f)), (4, .int (nI a)), (5, .int (nI (i + 1))), (6, .int (nI 59))]) dX7_read_101 (Nat.le_of_ble_eq_true rfl) rfl ?_
      refine r_iload (pc := 103) dX7_read_103 rfl ?_
      refine r_bipush (pc := 105) (v := (nI (48))) dX7_read_105 (by decide) ?_
      refine r_bipush (pc := 107) (v := (nI (57))) dX7_read_107 (by decide) ?_
      refine r_callS (pc := 109) (d' := 0) (As := [.int (nI 59), .int (nI 48), .int (nI 57)]) (rest := []) dX7_read_109 sX7_in mX7_77 rfl rfl (Nat.le_of_ble_eq_true rfl) (Nat.le_of_ble_eq_true rfl) ?_
      refine c_in ?_
      refine rb_if_eq (pc := 112) (tgt := 131) dX7_read_112 (by decide) (fun c112 => ?_) (fun c112 => ?_)
      · refine r_iload (pc := 131) dX7_read_131 rfl ?_
        refine r_bipush (pc := 133) (v := (nI (62))) dX7_read_133 (by decide) ?_
        refine rn_icmp_ne (pc := 135) (tgt := 160) dX7_read_135 (by decide) (by decide) (by decide) (fun _ => ?_) (fun q => absurd q (by decide))
        refine r_iload (pc := 160) dX7_read_160 rfl ?_
        refine r_bipush (pc := 162) (v := (nI (59))) dX7_read_162 (by decide) ?_
        refine rn_icmp_ne (pc := 164) (tgt := 191) dX7_read_164 (by decide) (by decide) (by decide) (fun q => absurd q (by decide)) (fun _ => ?_)
        refine r_aload_n (pc := 167) dX7_read_167 rfl ?_
        refine r_iload_n (pc := 168) dX7_read_168 rfl ?_
        refine r_iload_n (pc := 169) dX7_read_169 rfl ?_
        refine r_aload_n (pc := 170) dX7_read_170 rfl ?_
        refine r_getR (pc := 171) (r := 49) dX7_read_171 fX7_34 rfl rfl ?_
        refine r_iload (pc := 174) dX7_read_174 rfl ?_
        refine r_iconst (pc := 176) (v := (nI (1))) dX7_read_176 (by decide) ?_
        refine rn_isub (pc := 177) dX7_read_177 (by omega) ?_
        refine r_eqi (y := nI i) rfl ?_
        refine r_iald (pc := 178) (x := (nI (σ 8 (i)))) dX7_read_178 rfl rfl (by omega) (by rw [← hτ.1]; exact Ms_8 hM (by rw [hτ.2]; omega)) ?_
        have b1 := Ok_s hO (j := i) (by omega)
        refine r_bipush (pc := 179) (v := (nI (97))) dX7_read_179 (by decide) ?_
        refine rn_isub (pc := 181) dX7_read_181 (by omega) ?_
        refine r_iload (pc := 182) dX7_read_182 rfl ?_
        refine r_callV (pc := 184) (d' := 0) (k := 40) (As := [.int (nI f), .int (nI t), .int (nI (σ 8 (i) - (97))), .int (nI a)]) (rest := []) dX7_read_184 vX7_add mX7_90 rfl rfl rfl (Nat.le_of_ble_eq_true rfl) (Nat.le_of_ble_eq_true rfl) ?_
        refine m_add hM hOt (by omega) (fun μ2 hM2 hk2 => ?_)
        refine r_pop_i (pc := 187) dX7_read_187 ?_
        refine r_iconst (pc := 188) (v := (nI (0))) dX7_read_188 (by decide) ?_
        refine r_istore (pc := 189) (ls' := [(0, .ref 40), (1, .int (cv)), (2, .int (nI t)), (3, .int (nI f)), (4, .int (nI 0)), (5, .int (nI (i + 1))), (6, .int (nI 59))]) dX7_read_189 (Nat.le_of_ble_eq_true rfl) rfl ?_
        refine rn_iinc (pc := 191) (b := 1) (ls' := [(0, .ref 40), (1, .int (cv)), (2, .int (nI t)), (3, .int (nI f)), (4, .int (nI 0)), (5, .int (nI (i + 1 + 1))), (6, .int (nI 59))]) dX7_read_191 rfl (by decide) (Nat.le_of_ble_eq_true rfl) rfl ?_
        refine r_goto (pc := 194) (tgt := 71) dX7_read_194 (by decide) ?_
        refine r_pick (ls' := [(0, .ref 40), (1, .int (cv)), (2, .int (nI t)), (3, .int (nI f)), (4, .int (nI 0)), (5, .int (nI (i + 1 + 1)))]) [0, 1, 2, 3, 4, 5] rfl ?_
        exact K μ2 hM2 hk2
      · exact absurd c112 (by decide)
    · refine r_aload_n (pc := 89) dX7_read_89 rfl ?_
      refine r_getR (pc := 90) (r := 49) dX7_read_90 fX7_34 rfl rfl ?_
      refine r_iload (pc := 93) dX7_read_93 rfl ?_
      refine r_iald (pc := 95) (x := (nI (σ 8 (i + 1)))) dX7_read_95 rfl rfl (by omega) (by rw [← hτ.1]; exact Ms_8 hM (by rw [hτ.2]; omega)) ?_
      have b2 := Ok_s hO (j := i + 1) (by omega)
      refine r_goto (pc := 96) (tgt := 101) dX7_read_96 (by decide) ?_
      refine r_istore (pc := 101) (ls' := [(0, .ref 40), (1, .int (cv)), (2, .int (nI t)), (3, .int (nI f)), (4, .int (nI a)), (5, .int (nI (i + 1))), (6, .int (nI (σ 8 (i + 1))))]) dX7_read_101 (Nat.le_of_ble_eq_true rfl) rfl ?_
      refine r_iload (pc := 103) dX7_read_103 rfl ?_
      refine r_bipush (pc := 105) (v := (nI (48))) dX7_read_105 (by decide) ?_
      refine r_bipush (pc := 107) (v := (nI (57))) dX7_read_107 (by decide) ?_
      refine r_callS (pc := 109) (d' := 0) (As := [.int (nI (σ 8 (i + 1))), .int (nI 48), .int (nI 57)]) (rest := []) dX7_read_109 sX7_in mX7_77 rfl rfl (Nat.le_of_ble_eq_true rfl) (Nat.le_of_ble_eq_true rfl) ?_
      refine c_in ?_
      refine rb_if_eq (pc := 112) (tgt := 131) dX7_read_112 (by decide) (fun c112 => ?_) (fun c112 => ?_)
      · refine r_iload (pc := 131) dX7_read_131 rfl ?_
        refine r_bipush (pc := 133) (v := (nI (62))) dX7_read_133 (by decide) ?_
        refine rn_icmp_ne (pc := 135) (tgt := 160) dX7_read_135 (by decide) (by omega) (by omega) (fun c135 => ?_) (fun c135 => ?_)
        · refine r_iload (pc := 160) dX7_read_160 rfl ?_
          refine r_bipush (pc := 162) (v := (nI (59))) dX7_read_162 (by decide) ?_
          refine rn_icmp_ne (pc := 164) (tgt := 191) dX7_read_164 (by decide) (by omega) (by omega) (fun c164 => ?_) (fun c164 => ?_)
          · exact absurd c164 (by omega)
          · refine r_aload_n (pc := 167) dX7_read_167 rfl ?_
            refine r_iload_n (pc := 168) dX7_read_168 rfl ?_
            refine r_iload_n (pc := 169) dX7_read_169 rfl ?_
            refine r_aload_n (pc := 170) dX7_read_170 rfl ?_
            refine r_getR (pc := 171) (r := 49) dX7_read_171 fX7_34 rfl rfl ?_
            refine r_iload (pc := 174) dX7_read_174 rfl ?_
            refine r_iconst (pc := 176) (v := (nI (1))) dX7_read_176 (by decide) ?_
            refine rn_isub (pc := 177) dX7_read_177 (by omega) ?_
            refine r_eqi (y := nI i) rfl ?_
            refine r_iald (pc := 178) (x := (nI (σ 8 (i)))) dX7_read_178 rfl rfl (by omega) (by rw [← hτ.1]; exact Ms_8 hM (by rw [hτ.2]; omega)) ?_
            have b3 := Ok_s hO (j := i) (by omega)
            refine r_bipush (pc := 179) (v := (nI (97))) dX7_read_179 (by decide) ?_
            refine rn_isub (pc := 181) dX7_read_181 (by omega) ?_
            refine r_iload (pc := 182) dX7_read_182 rfl ?_
            refine r_callV (pc := 184) (d' := 0) (k := 40) (As := [.int (nI f), .int (nI t), .int (nI (σ 8 (i) - (97))), .int (nI a)]) (rest := []) dX7_read_184 vX7_add mX7_90 rfl rfl rfl (Nat.le_of_ble_eq_true rfl) (Nat.le_of_ble_eq_true rfl) ?_
            refine m_add hM hOt (by omega) (fun μ2 hM2 hk2 => ?_)
            refine r_pop_i (pc := 187) dX7_read_187 ?_
            refine r_iconst (pc := 188) (v := (nI (0))) dX7_read_188 (by decide) ?_
            refine r_istore (pc := 189) (ls' := [(0, .ref 40), (1, .int (cv)), (2, .int (nI t)), (3, .int (nI f)), (4, .int (nI 0)), (5, .int (nI (i + 1))), (6, .int (nI (σ 8 (i + 1))))]) dX7_read_189 (Nat.le_of_ble_eq_true rfl) rfl ?_
            refine rn_iinc (pc := 191) (b := 1) (ls' := [(0, .ref 40), (1, .int (cv)), (2, .int (nI t)), (3, .int (nI f)), (4, .int (nI 0)), (5, .int (nI (i + 1 + 1))), (6, .int (nI (σ 8 (i + 1))))]) dX7_read_191 rfl (by decide) (Nat.le_of_ble_eq_true rfl) rfl ?_
            refine r_goto (pc := 194) (tgt := 71) dX7_read_194 (by decide) ?_
            refine r_pick (ls' := [(0, .ref 40), (1, .int (cv)), (2, .int (nI t)), (3, .int (nI f)), (4, .int (nI 0)), (5, .int (nI (i + 1 + 1)))]) [0, 1, 2, 3, 4, 5] rfl ?_
            exact K μ2 hM2 hk2
        · exact absurd c135 (by omega)
      · rw [inR_nat (by omega) (by decide) (by decide)] at c112
        simp at c112
        omega

/-- a number and a coin -/
theorem m_rd_c {μ : Mem} {σ τ : Sg} {cv : Int32} {tv fv : Int32} {k : Nat} {nt : Option Nat} {Q : Option Value → Mem → Prop} (hM : Ms μ τ) (hO : Ok σ) (hτ : sameSg τ σ) (hc : pcO σ k nt = true) (K : WP cX7_read (RX7, 7, (some .int), 2, none) 71 [(0, .ref 40), (1, .int (cv)), (2, .int (tv)), (3, .int (fv)), (4, .int (nI (am σ k))), (5, .int (nI (kd σ k + 1)))] [] μ Q) : WP cX7_read (RX7, 7, (some .int), 2, none) 71 [(0, .ref 40), (1, .int (cv)), (2, .int (tv)), (3, .int (fv)), (4, .int (nI 0)), (5, .int (nI k))] [] μ Q := by
  obtain ⟨a, b, _⟩ := pcO_iff.mp hc
  have a1 := ps_iff.mp a
  have b1 := ps_iff.mp b
  refine m_rd_d hM hO hτ a1.1 (by omega) (by decide) ?_
  by_cases q : ps σ (k + 1) 48 57 = true
  · have q1 := ps_iff.mp q
    have e1 : kd σ k = k + 1 + 1 := by unfold kd; rw [if_pos a, if_pos q]
    have e2 : am σ k = 10 * (10 * 0 + σ 8 k - 48) + σ 8 (k + 1) - 48 := by unfold am; rw [if_pos q]; omega
    rw [e1] at b1
    rw [e1, e2] at K
    refine m_rd_d hM hO hτ q1.1 (by omega) (by omega) ?_
    exact m_rd_l hM hO hτ b1.1 (by omega) K
  · have e1 : kd σ k = k + 1 := by unfold kd; rw [if_pos a, if_neg q]
    have e2 : am σ k = 10 * 0 + σ 8 k - 48 := by unfold am; rw [if_neg q]; omega
    rw [e1] at b1
    rw [e1, e2] at K
    exact m_rd_l hM hO hτ b1.1 (by omega) K
/-- a board and what is behind it -/
theorem m_rd_b {μ : Mem} {σ τ : Sg} {cv : Int32} {tv fv : Int32} {k : Nat} {Q : Option Value → Mem → Prop} (hM : Ms μ τ) (hO : Ok σ) (hτ : sameSg τ σ) (hOt : Ok τ) (hk : k ≤ σ 0 4) (hb : pbO σ k = true) (hend : pbP σ k = σ 0 4 ∨ σ 8 (pbP σ k) = 59) (h12 : τ 0 0 < 12) (K : ∀ μ2, Ms μ2 (addB τ (c1 σ k - 97) (am σ k) (c2 σ k - 97) (am σ (k3 σ k))) → keepX μ μ2 → WP cX7_read (RX7, 7, (some .int), 2, none) 71 [(0, .ref 40), (1, .int (cv)), (2, .int (nI (am σ k))), (3, .int (nI (c1 σ k - 97))), (4, .int (nI 0)), (5, .int (nI (pbP σ k + 1)))] [] μ2 Q) : WP cX7_read (RX7, 7, (some .int), 2, none) 71 [(0, .ref 40), (1, .int (cv)), (2, .int (tv)), (3, .int (fv)), (4, .int (nI 0)), (5, .int (nI k))] [] μ Q := by
  obtain ⟨a, b, d⟩ := pbO_iff.mp hb
  have a1 := ps_iff.mp (pcO_iff.mp a).2.1
  have d1 := ps_iff.mp (pcO_iff.mp d).2.1
  have b1 := ps_iff.mp b
  have e1 : pcP σ k none = kd σ k + 1 := by unfold pcP; rw [if_pos a]
  have e2 : pcP σ (k3 σ k) (some (c1 σ k)) = kd σ (k3 σ k) + 1 := by unfold pcP; rw [if_pos d]
  have e3 : pbP σ k = kd σ (k3 σ k) + 1 := by unfold pbP; rw [if_pos ⟨a, b⟩, e2]
  have e4 : k3 σ k = kd σ k + 1 + 1 := by unfold k3; rw [e1]
  rw [e1] at b1
  rw [e3] at hend K
  refine m_rd_c hM hO hτ a ?_
  refine m_rd_g hM hO hτ b1.1 (by omega) (by omega) ?_
  rw [← e4]
  refine m_rd_c hM hO hτ d ?_
  exact m_rd_s hM hO hτ hOt d1.1 hend (by omega) h12 K

set_option maxRecDepth 20000 in
set_option maxHeartbeats 4000000 in
theorem m_rd_e {μ : Mem} {σ τ : Sg} {cv : Int32} {tv fv : Int32} {a i : Nat} {Q : Option Value → Mem → Prop} (hM : Ms μ τ) (hO : Ok σ) (hτ : sameSg τ σ) (hi : i = σ 0 4 + 1) (h : ∀ μ', Ms μ' (su τ 0 4 0) → keepX μ μ' → Q (some (.int (nI (τ 0 0)))) μ') : WP cX7_read (RX7, 7, (some .int), 2, none) 71 [(0, .ref 40), (1, .int (cv)), (2, .int (tv)), (3, .int (fv)), (4, .int (nI a)), (5, .int (nI i))] [] μ Q := by
  have hn := Ok_n hO
  refine r_iload (pc := 71) dX7_read_71 rfl ?_
  refine r_aload_n (pc := 73) dX7_read_73 rfl ?_
  refine r_getI (pc := 74) (x := (nI (σ 0 4))) dX7_read_74 fX7_107 rfl rfl (by rw [← hτ.2]; exact Ms_sn hM) ?_
  refine rn_icmp_gt (pc := 77) (tgt := 197) dX7_read_77 (by decide) (by omega) (by omega) (fun c77 => ?_) (fun c77 => ?_)
  · refine r_aload_n (pc := 197) dX7_read_197 rfl ?_
    refine r_iconst (pc := 198) (v := (nI (0))) dX7_read_198 (by decide) ?_
    refine r_putI (pc := 199) dX7_read_199 gX7_107 rfl rfl rfl rfl ?_
    refine r_aload_n (pc := 202) dX7_read_202 rfl ?_
    refine r_getI (pc := 203) (x := (nI (τ 0 0))) dX7_read_203 fX7_81 rfl rfl (show μ.1 40 0 = _ from Ms_n hM) ?_
    refine r_ireturn (pc := 206) dX7_read_206 rfl (Or.inl rfl) rfl ?_
    exact h _ (Ms_w hM) (keepX.I keepX.rf (by decide))
  · exact absurd c77 (by omega)

theorem m_rd_l9 {μ : Mem} {σ : Sg} {cv : Int32} {Q : Option Value → Mem → Prop} (hO : Ok σ) : ∀ (m k c : Nat) (τ : Sg) (μ1 : Mem) (tv fv : Int32), Ms μ1 τ → Ok τ → sameSg τ σ → keepX μ μ1 → τ 0 0 + m ≤ 12 → ((m = 0 ∧ k = σ 0 4 + 1) ∨ (k ≤ σ 0 4 ∧ fl σ k 0 c = -6 ∧ m = 1 + cs σ k (σ 0 4 - k))) → (∀ μ', Ms μ' (su (hang σ m k τ) 0 4 0) → keepX μ μ' → Q (some (.int (nI ((hang σ m k τ) 0 0)))) μ') → WP cX7_read (RX7, 7, (some .int), 2, none) 71 [(0, .ref 40), (1, .int (cv)), (2, .int (tv)), (3, .int (fv)), (4, .int (nI 0)), (5, .int (nI k))] [] μ1 Q
  | 0, k, c, τ, μ1, tv, fv, hM, hOt, hτ, hk1, h12, hv, h => by
    have hv' : k = σ 0 4 + 1 := by
      rcases hv with hv | hv
      · exact hv.2
      · omega
    exact m_rd_e hM hO hτ hv' (fun μ' a b => h μ' a (keepX.tr hk1 b))
  | m + 1, k, c, τ, μ1, tv, fv, hM, hOt, hτ, hk1, h12, hv, h => by
    obtain ⟨hk, hfl, hm⟩ : k ≤ σ 0 4 ∧ fl σ k 0 c = -6 ∧ m + 1 = 1 + cs σ k (σ 0 4 - k) := by
      rcases hv with hv | hv
      · omega
      · exact hv
    obtain ⟨hbo, hend⟩ := fl_ok hO hk hfl
    have hbb := pb_b hbo
    have hpb := pbP_le (σ := σ) (k := k) hk
    have hcs := board_cs hk hbo
    refine m_rd_b hM hO hτ hOt hk hbo ?_ (by omega) (fun μ2 hM2 hk2 => ?_)
    · rcases hend with q | q
      · exact Or.inl q
      · exact Or.inr (by have := ps_iff.mp q.1; omega)
    · refine m_rd_l9 hO m (pbP σ k + 1) (c2 σ k) _ μ2 _ _ hM2 (Ok_addB hOt (by omega) hbb.1 hbb.2.1 hbb.2.2.1 hbb.2.2.2.1 hbb.2.2.2.2) ⟨by rw [addB_8]; exact hτ.1, hτ.2⟩ (keepX.tr hk1 hk2) (by rw [addB_0]; omega) ?_ h
      rcases hend with q | q
      · rw [if_pos q] at hcs
        exact Or.inl ⟨by omega, by omega⟩
      · have q1 := ps_iff.mp q.1
        rw [if_neg (by omega), if_pos (by omega)] at hcs
        exact Or.inr ⟨by omega, q.2, by omega⟩

set_option maxRecDepth 20000 in
set_option maxHeartbeats 4000000 in
theorem m_rd_n {μ : Mem} {σ : Sg} {Q : Option Value → Mem → Prop} (hM : Ms μ σ) (hO : Ok σ) (hf : sp_fault σ = -6) (h : ∀ μ', Ms μ' (sp_read σ).2 → keepX μ μ' → Q (some (.int (sp_read σ).1)) μ') : ∀ (k : Nat) (i : Nat), i + k = σ 0 4 → WP cX7_read (RX7, 7, (some .int), 2, none) 14 [(0, .ref 40), (1, .int (nI (1 + cs σ 0 i))), (2, .int (nI i))] [] μ Q := by
  intro k
  induction k using Nat.strongRecOn with
  | _ k ih =>
    intro i hik
    have hn := Ok_n hO
    have hcl := cs_le σ i 0
    have hmy : many σ = 1 + cs σ 0 (σ 0 4) := rfl
    have hcl2 := cs_le σ (σ 0 4) 0
    refine r_iload_n (pc := 14) dX7_read_14 rfl ?_
    refine r_aload_n (pc := 15) dX7_read_15 rfl ?_
    refine r_getI (pc := 16) (x := (nI (σ 0 4))) dX7_read_16 fX7_107 rfl rfl (Ms_sn (μ := μ) hM) ?_
    refine rn_icmp_ge (pc := 19) (tgt := 47) dX7_read_19 (by decide) (by omega) (by omega) (fun c19 => ?_) (fun c19 => ?_)
    · obtain rfl : i = σ 0 4 := by omega
      refine r_aload_n (pc := 47) dX7_read_47 rfl ?_
      refine r_getI (pc := 48) (x := (nI (σ 0 0))) dX7_read_48 fX7_81 rfl rfl (Ms_n (μ := μ) hM) ?_
      refine r_iload_n (pc := 51) dX7_read_51 rfl ?_
      refine rn_iadd (pc := 52) dX7_read_52 ?_
      refine r_bipush (pc := 53) (v := (nI (12))) dX7_read_53 (by decide) ?_
      refine rn_icmp_le (pc := 55) (tgt := 61) dX7_read_55 (by decide) (by omega) (by omega) (fun c55 => ?_) (fun c55 => ?_)
      · refine r_iconst (pc := 61) (v := (nI (0))) dX7_read_61 (by decide) ?_
        refine r_istore_n (pc := 62) (ls' := [(0, .ref 40), (1, .int (nI (1 + cs σ 0 (σ 0 4)))), (2, .int (nI 0))]) dX7_read_62 (Nat.le_of_ble_eq_true rfl) rfl ?_
        refine r_iconst (pc := 63) (v := (nI (0))) dX7_read_63 (by decide) ?_
        refine r_istore_n (pc := 64) (ls' := [(0, .ref 40), (1, .int (nI (1 + cs σ 0 (σ 0 4)))), (2, .int (nI 0)), (3, .int (nI 0))]) dX7_read_64 (Nat.le_of_ble_eq_true rfl) rfl ?_
        refine r_iconst (pc := 65) (v := (nI (0))) dX7_read_65 (by decide) ?_
        refine r_istore (pc := 66) (ls' := [(0, .ref 40), (1, .int (nI (1 + cs σ 0 (σ 0 4)))), (2, .int (nI 0)), (3, .int (nI 0)), (4, .int (nI 0))]) dX7_read_66 (Nat.le_of_ble_eq_true rfl) rfl ?_
        refine r_iconst (pc := 68) (v := (nI (0))) dX7_read_68 (by decide) ?_
        refine r_istore (pc := 69) (ls' := [(0, .ref 40), (1, .int (nI (1 + cs σ 0 (σ 0 4)))), (2, .int (nI 0)), (3, .int (nI 0)), (4, .int (nI 0)), (5, .int (nI 0))]) dX7_read_69 (Nat.le_of_ble_eq_true rfl) rfl ?_
        skip
        have e9 : sp_read σ = (nI ((hang σ (many σ) 0 σ) 0 0), su (hang σ (many σ) 0 σ) 0 4 0) := by unfold sp_read; rw [if_neg (fun z => z hf), if_neg (by omega)]
        rw [e9] at h
        exact m_rd_l9 hO (many σ) 0 0 σ μ _ _ hM hO ⟨rfl, rfl⟩ keepX.rf (by omega) (Or.inr ⟨by omega, hf, rfl⟩) h
      · refine r_bipush (pc := 58) (v := (-4)) dX7_read_58 (by decide) ?_
        refine r_ireturn (pc := 60) dX7_read_60 rfl (Or.inl rfl) rfl ?_
        have e9 : sp_read σ = (-4, σ) := by unfold sp_read; rw [if_neg (fun z => z hf), if_pos (by omega)]
        rw [e9] at h
        exact h _ hM keepX.rf
    · refine r_iload_n (pc := 22) dX7_read_22 rfl ?_
      refine r_aload_n (pc := 23) dX7_read_23 rfl ?_
      refine r_getR (pc := 24) (r := 49) dX7_read_24 fX7_34 rfl rfl ?_
      refine r_iload_n (pc := 27) dX7_read_27 rfl ?_
      refine r_iald (pc := 28) (x := (nI (σ 8 (i)))) dX7_read_28 rfl rfl (by omega) (Ms_8 (μ := μ) hM (by omega)) ?_
      have b1 := Ok_s hO (j := i) (by omega)
      refine r_bipush (pc := 29) (v := (nI (59))) dX7_read_29 (by decide) ?_
      refine rn_icmp_ne (pc := 31) (tgt := 38) dX7_read_31 (by decide) (by omega) (by omega) (fun c31 => ?_) (fun c31 => ?_)
      · refine r_iconst (pc := 38) (v := (nI (0))) dX7_read_38 (by decide) ?_
        refine rn_iadd (pc := 39) dX7_read_39 ?_
        refine r_istore_n (pc := 40) (ls' := [(0, .ref 40), (1, .int (nI (1 + cs σ 0 i))), (2, .int (nI i))]) dX7_read_40 (Nat.le_of_ble_eq_true rfl) rfl ?_
        refine rn_iinc (pc := 41) (b := 1) (ls' := [(0, .ref 40), (1, .int (nI (1 + cs σ 0 i))), (2, .int (nI (i + 1)))]) dX7_read_41 rfl (by decide) (Nat.le_of_ble_eq_true rfl) rfl ?_
        refine r_goto (pc := 44) (tgt := 14) dX7_read_44 (by decide) ?_
        have e9 : cs σ 0 (i + 1) = cs σ 0 i := by rw [cs_app, show cs σ (0 + i) 1 = 0 by show (if σ 8 (0 + i) = 59 then 1 else 0) + 0 = 0; rw [Nat.zero_add, if_neg c31]]; exact Nat.add_zero _
        have h9 := ih (k - 1) (by omega) (i + 1) (by omega)
        rw [e9] at h9
        exact h9
      · refine r_iconst (pc := 34) (v := (nI (1))) dX7_read_34 (by decide) ?_
        refine r_goto (pc := 35) (tgt := 39) dX7_read_35 (by decide) ?_
        refine rn_iadd (pc := 39) dX7_read_39 ?_
        refine r_istore_n (pc := 40) (ls' := [(0, .ref 40), (1, .int (nI (1 + cs σ 0 i + 1))), (2, .int (nI i))]) dX7_read_40 (Nat.le_of_ble_eq_true rfl) rfl ?_
        refine rn_iinc (pc := 41) (b := 1) (ls' := [(0, .ref 40), (1, .int (nI (1 + cs σ 0 i + 1))), (2, .int (nI (i + 1)))]) dX7_read_41 rfl (by decide) (Nat.le_of_ble_eq_true rfl) rfl ?_
        refine r_goto (pc := 44) (tgt := 14) dX7_read_44 (by decide) ?_
        have e9 : cs σ 0 (i + 1) = cs σ 0 i + 1 := by rw [cs_app, show cs σ (0 + i) 1 = 1 by show (if σ 8 (0 + i) = 59 then 1 else 0) + 0 = 1; rw [Nat.zero_add, if_pos c31]]
        have h9 := ih (k - 1) (by omega) (i + 1) (by omega)
        rw [e9] at h9
        exact h9

theorem fl_val {σ : Sg} : ∀ d k st c, σ 0 4 - k = d → k ≤ σ 0 4 → fl σ k st c = -6 ∨ ∃ j, j ≤ σ 0 4 ∧ fl σ k st c = nI j
  | 0, k, st, c, hd, hk => by
    rw [fl_end (by omega)]
    by_cases e : st = 7
    · rw [if_pos e]; exact Or.inl rfl
    · rw [if_neg e]; exact Or.inr ⟨k, hk, rfl⟩
  | d + 1, k, st, c, hd, hk => by
    rw [fl_step (by omega)]
    cases nx st c (σ 8 k) with
    | none => exact Or.inr ⟨k, hk, rfl⟩
    | some q => exact fl_val d (k + 1) q.1 q.2 (by omega) (by omega)
theorem fault_neg {σ : Sg} (hO : Ok σ) (h : sp_fault σ < 0) : sp_fault σ = -6 := by
  rw [sp_fault_fl] at h ⊢
  rcases fl_val (σ := σ) _ 0 0 0 rfl (Nat.zero_le _) with q | ⟨j, hj, q⟩
  · exact q
  · have hn := Ok_n hO
    rw [q, Int32.lt_iff_toInt_lt, nI_toInt (by omega)] at h
    have : ((0 : Int32)).toInt = 0 := by decide
    omega

set_option maxRecDepth 20000 in
set_option maxHeartbeats 4000000 in
theorem m_read {μ : Mem} {σ : Sg} {Q : Option Value → Mem → Prop} (hM : Ms μ σ) (hO : Ok σ) (h : ∀ μ', Ms μ' (sp_read σ).2 → keepX μ μ' → Q (some (.int (sp_read σ).1)) μ') : Sp iX7_read 2 [.ref 40] μ Q := by
  refine Sp.of vX7_read.1 (Nat.le_of_ble_eq_true rfl) ?_
  show WP cX7_read (RX7, 7, (some .int), 2, none) 0 [(0, .ref 40)] [] μ Q
  have hn := Ok_n hO
  refine r_aload_n (pc := 0) dX7_read_0 rfl ?_
  refine r_callV (pc := 1) (d' := 1) (k := 40) (As := []) (rest := []) dX7_read_1 vX7_faultOf mX7_110 rfl rfl rfl (Nat.le_of_ble_eq_true rfl) (Nat.le_of_ble_eq_true rfl) ?_
  refine m_faultOf hM hO ?_
  refine r_if_lt (pc := 4) (tgt := 10) dX7_read_4 (by decide) (fun c4 => ?_) (fun c4 => ?_)
  · refine r_iconst (pc := 10) (v := (nI (1))) dX7_read_10 (by decide) ?_
    refine r_istore_n (pc := 11) (ls' := [(0, .ref 40), (1, .int (nI 1))]) dX7_read_11 (Nat.le_of_ble_eq_true rfl) rfl ?_
    refine r_iconst (pc := 12) (v := (nI (0))) dX7_read_12 (by decide) ?_
    refine r_istore_n (pc := 13) (ls' := [(0, .ref 40), (1, .int (nI 1)), (2, .int (nI 0))]) dX7_read_13 (Nat.le_of_ble_eq_true rfl) rfl ?_
    exact m_rd_n hM hO (fault_neg hO c4) h (σ 0 4) 0 (by omega)
  · refine r_bipush (pc := 7) (v := (-5)) dX7_read_7 (by decide) ?_
    refine r_ireturn (pc := 9) dX7_read_9 rfl (Or.inl rfl) rfl ?_
    have e9 : sp_read σ = (-5, σ) := if_pos (fun z => c4 (by rw [z]; decide))
    rw [e9] at h
    exact h _ hM keepX.rf
