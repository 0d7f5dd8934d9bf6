/-! THE MODEL'S fault -/
def nx (st coin s : Nat) : Option (Nat × Nat) := if st = 3 then (if s = 62 then some (4, coin) else none) else if st = 7 then (if s = 59 then some (0, coin) else none) else if st % 4 < 2 ∧ (st % 4 = 0 → 49 ≤ s) ∧ 48 ≤ s ∧ s ≤ 57 then some (st + 1, coin) else if 0 < st % 4 ∧ 97 ≤ s ∧ s ≤ 104 ∧ (st < 4 ∨ ¬ s = coin) then (if st < 4 then some (3, s) else some (7, s)) else none
def flt (σ : Sg) : Nat → Nat → Nat → Nat → Int32
  | 0, _, st, _ => if st = 7 then -6 else nI (σ 0 4)
  | r + 1, k, st, coin => match nx st coin (σ 8 k) with
    | none => nI k
    | some q => flt σ r (k + 1) q.1 q.2
def sp_fault (σ : Sg) : Int32 := flt σ (σ 0 4) 0 0 0

set_option maxRecDepth 20000 in
set_option maxHeartbeats 4000000 in
theorem m_fault_l {μ : Mem} {σ : Sg} {Q : Option Value → Mem → Prop} (hM : Ms μ σ) (hO : Ok σ) : ∀ (k : Nat) (n st coin : Nat), n + k = σ 0 4 → st ≤ 7 → coin ≤ 126 → Q (some (.int (flt σ k n st coin))) μ → WP cX7_faultOf (RX7, 7, (some .int), 1, none) 6 [(0, .ref 40), (1, .int (nI st)), (2, .int (nI coin)), (3, .int (nI n))] [] μ Q := by
  intro k
  induction k using Nat.strongRecOn with
  | _ k ih =>
    intro n st coin hk hst hco h
    have hn := Ok_n hO
    refine r_iload_n (pc := 6) dX7_faultOf_6 rfl ?_
    refine r_aload_n (pc := 7) dX7_faultOf_7 rfl ?_
    refine r_getI (pc := 8) (x := (nI (σ 0 4))) dX7_faultOf_8 fX7_107 rfl rfl (Ms_sn (μ := μ) hM) ?_
    refine rn_icmp_ge (pc := 11) (tgt := 174) dX7_faultOf_11 (by decide) (by omega) (by omega) (fun c11 => ?_) (fun c11 => ?_)
    · refine r_iload_n (pc := 174) dX7_faultOf_174 rfl ?_
      refine r_bipush (pc := 175) (v := (nI (7))) dX7_faultOf_175 (by decide) ?_
      refine rn_icmp_ne (pc := 177) (tgt := 185) dX7_faultOf_177 (by decide) (by omega) (by omega) (fun c177 => ?_) (fun c177 => ?_)
      · refine r_aload_n (pc := 185) dX7_faultOf_185 rfl ?_
        refine r_getI (pc := 186) (x := (nI (σ 0 4))) dX7_faultOf_186 fX7_107 rfl rfl (Ms_sn (μ := μ) hM) ?_
        refine r_ireturn (pc := 189) dX7_faultOf_189 rfl (Or.inl rfl) rfl ?_
        obtain rfl : k = 0 := by omega
        rw [flt, if_neg c177] at h
        exact h
      · refine r_bipush (pc := 180) (v := (-6)) dX7_faultOf_180 (by decide) ?_
        refine r_goto (pc := 182) (tgt := 189) dX7_faultOf_182 (by decide) ?_
        refine r_ireturn (pc := 189) dX7_faultOf_189 rfl (Or.inl rfl) rfl ?_
        obtain rfl : k = 0 := by omega
        rw [flt, if_pos c177] at h
        exact h
    · refine r_aload_n (pc := 14) dX7_faultOf_14 rfl ?_
      refine r_getR (pc := 15) (r := 49) dX7_faultOf_15 fX7_34 rfl rfl ?_
      refine r_iload_n (pc := 18) dX7_faultOf_18 rfl ?_
      refine r_iald (pc := 19) (x := (nI (σ 8 (n)))) dX7_faultOf_19 rfl rfl (by omega) (Ms_8 (μ := μ) hM (by omega)) ?_
      have b1 := Ok_s hO (j := n) (by omega)
      refine r_istore (pc := 20) (ls' := [(0, .ref 40), (1, .int (nI st)), (2, .int (nI coin)), (3, .int (nI n)), (4, .int (nI (σ 8 (n))))]) dX7_faultOf_20 (Nat.le_of_ble_eq_true rfl) rfl ?_
      refine r_iload_n (pc := 22) dX7_faultOf_22 rfl ?_
      refine r_iconst (pc := 23) (v := (nI (4))) dX7_faultOf_23 (by decide) ?_
      refine rn_irem (pc := 24) dX7_faultOf_24 (by omega) (by omega) (by omega) ?_
      refine r_istore (pc := 25) (ls' := [(0, .ref 40), (1, .int (nI st)), (2, .int (nI coin)), (3, .int (nI n)), (4, .int (nI (σ 8 (n)))), (5, .int (nI ((st) % (4))))]) dX7_faultOf_25 (Nat.le_of_ble_eq_true rfl) rfl ?_
      refine r_bipush (pc := 27) (v := (-6)) dX7_faultOf_27 (by decide) ?_
      refine r_istore (pc := 29) (ls' := [(0, .ref 40), (1, .int (nI st)), (2, .int (nI coin)), (3, .int (nI n)), (4, .int (nI (σ 8 (n)))), (5, .int (nI ((st) % (4)))), (6, .int ((-6)))]) dX7_faultOf_29 (Nat.le_of_ble_eq_true rfl) rfl ?_
      refine r_iload_n (pc := 31) dX7_faultOf_31 rfl ?_
      refine r_iconst (pc := 32) (v := (nI (3))) dX7_faultOf_32 (by decide) ?_
      refine rn_icmp_ne (pc := 33) (tgt := 54) dX7_faultOf_33 (by decide) (by omega) (by omega) (fun c33 => ?_) (fun c33 => ?_)
      · refine r_iload_n (pc := 54) dX7_faultOf_54 rfl ?_
        refine r_bipush (pc := 55) (v := (nI (7))) dX7_faultOf_55 (by decide) ?_
        refine rn_icmp_ne (pc := 57) (tgt := 78) dX7_faultOf_57 (by decide) (by omega) (by omega) (fun c57 => ?_) (fun c57 => ?_)
        · refine r_iload (pc := 78) dX7_faultOf_78 rfl ?_
          refine r_iconst (pc := 80) (v := (nI (2))) dX7_faultOf_80 (by decide) ?_
          refine rn_icmp_ge (pc := 81) (tgt := 114) dX7_faultOf_81 (by decide) (by omega) (by omega) (fun c81 => ?_) (fun c81 => ?_)
          · refine r_iload (pc := 114) dX7_faultOf_114 rfl ?_
            refine rn_if_le (pc := 116) (tgt := 158) dX7_faultOf_116 (by decide) (by omega) (fun c116 => ?_) (fun c116 => ?_)
            · refine r_iload (pc := 158) dX7_faultOf_158 rfl ?_
              refine r_if_ge (pc := 160) (tgt := 165) dX7_faultOf_160 (by decide) (fun c160 => ?_) (fun c160 => ?_)
              · exact absurd c160 (by decide)
              · refine r_iload_n (pc := 163) dX7_faultOf_163 rfl ?_
                refine r_ireturn (pc := 164) dX7_faultOf_164 rfl (Or.inl rfl) rfl ?_
                obtain ⟨k1, rfl⟩ : ∃ k1, k = k1 + 1 := ⟨k - 1, by omega⟩
                have hnx : nx st coin (σ 8 n) = none := by unfold nx; (repeat' split) <;> first | rfl | (exfalso; omega)
                rw [flt, hnx] at h
                exact h
            · refine r_iload (pc := 119) dX7_faultOf_119 rfl ?_
              refine r_bipush (pc := 121) (v := (nI (97))) dX7_faultOf_121 (by decide) ?_
              refine r_bipush (pc := 123) (v := (nI (104))) dX7_faultOf_123 (by decide) ?_
              refine r_callS (pc := 125) (d' := 0) (As := [.int (nI (σ 8 (n))), .int (nI 97), .int (nI 104)]) (rest := []) dX7_faultOf_125 sX7_in mX7_77 rfl rfl (Nat.le_of_ble_eq_true rfl) (Nat.le_of_ble_eq_true rfl) ?_
              refine c_in ?_
              refine rb_if_eq (pc := 128) (tgt := 158) dX7_faultOf_128 (by decide) (fun c128 => ?_) (fun c128 => ?_)
              · rw [inR_nat (by omega) (by decide) (by decide)] at c128
                simp at c128
                refine r_iload (pc := 158) dX7_faultOf_158 rfl ?_
                refine r_if_ge (pc := 160) (tgt := 165) dX7_faultOf_160 (by decide) (fun c160 => ?_) (fun c160 => ?_)
                · exact absurd c160 (by decide)
                · refine r_iload_n (pc := 163) dX7_faultOf_163 rfl ?_
                  refine r_ireturn (pc := 164) dX7_faultOf_164 rfl (Or.inl rfl) rfl ?_
                  obtain ⟨k1, rfl⟩ : ∃ k1, k = k1 + 1 := ⟨k - 1, by omega⟩
                  have hnx : nx st coin (σ 8 n) = none := by unfold nx; (repeat' split) <;> first | rfl | (exfalso; omega)
                  rw [flt, hnx] at h
                  exact h
              · rw [inR_nat (by omega) (by decide) (by decide)] at c128
                simp at c128
                refine r_iload_n (pc := 131) dX7_faultOf_131 rfl ?_
                refine r_iconst (pc := 132) (v := (nI (4))) dX7_faultOf_132 (by decide) ?_
                refine rn_icmp_lt (pc := 133) (tgt := 142) dX7_faultOf_133 (by decide) (by omega) (by omega) (fun c133 => ?_) (fun c133 => ?_)
                · refine r_iload_n (pc := 142) dX7_faultOf_142 rfl ?_
                  refine r_iconst (pc := 143) (v := (nI (4))) dX7_faultOf_143 (by decide) ?_
                  refine rn_icmp_ge (pc := 144) (tgt := 151) dX7_faultOf_144 (by decide) (by omega) (by omega) (fun c144 => ?_) (fun c144 => ?_)
                  · refine r_bipush (pc := 151) (v := (nI (7))) dX7_faultOf_151 (by decide) ?_
                    refine r_istore (pc := 153) (ls' := [(0, .ref 40), (1, .int (nI st)), (2, .int (nI coin)), (3, .int (nI n)), (4, .int (nI (σ 8 (n)))), (5, .int (nI ((st) % (4)))), (6, .int (nI 7))]) dX7_faultOf_153 (Nat.le_of_ble_eq_true rfl) rfl ?_
                    refine r_iload (pc := 155) dX7_faultOf_155 rfl ?_
                    refine r_istore_n (pc := 157) (ls' := [(0, .ref 40), (1, .int (nI st)), (2, .int (nI (σ 8 (n)))), (3, .int (nI n)), (4, .int (nI (σ 8 (n)))), (5, .int (nI ((st) % (4)))), (6, .int (nI 7))]) dX7_faultOf_157 (Nat.le_of_ble_eq_true rfl) rfl ?_
                    refine r_iload (pc := 158) dX7_faultOf_158 rfl ?_
                    refine rn_if_ge (pc := 160) (tgt := 165) dX7_faultOf_160 (by decide) (by omega) ?_
                    refine r_iload (pc := 165) dX7_faultOf_165 rfl ?_
                    refine r_istore_n (pc := 167) (ls' := [(0, .ref 40), (1, .int (nI 7)), (2, .int (nI (σ 8 (n)))), (3, .int (nI n)), (4, .int (nI (σ 8 (n)))), (5, .int (nI ((st) % (4)))), (6, .int (nI 7))]) dX7_faultOf_167 (Nat.le_of_ble_eq_true rfl) rfl ?_
                    refine rn_iinc (pc := 168) (b := 1) (ls' := [(0, .ref 40), (1, .int (nI 7)), (2, .int (nI (σ 8 (n)))), (3, .int (nI (n + 1))), (4, .int (nI (σ 8 (n)))), (5, .int (nI ((st) % (4)))), (6, .int (nI 7))]) dX7_faultOf_168 rfl (by decide) (Nat.le_of_ble_eq_true rfl) rfl ?_
                    refine r_goto (pc := 171) (tgt := 6) dX7_faultOf_171 (by decide) ?_
                    obtain ⟨k1, rfl⟩ : ∃ k1, k = k1 + 1 := ⟨k - 1, by omega⟩
                    have hnx : nx st coin (σ 8 n) = some (7, σ 8 (n)) := by unfold nx; (repeat' split) <;> first | rfl | (exfalso; omega)
                    rw [flt, hnx] at h
                    refine r_pick (ls' := [(0, .ref 40), (1, .int (nI 7)), (2, .int (nI (σ 8 (n)))), (3, .int (nI (n + 1)))]) [0, 1, 2, 3] rfl ?_
                    exact ih k1 (by omega) (n + 1) (7) (σ 8 (n)) (by omega) (by omega) (by omega) h
                  · refine r_iconst (pc := 147) (v := (nI (3))) dX7_faultOf_147 (by decide) ?_
                    refine r_goto (pc := 148) (tgt := 153) dX7_faultOf_148 (by decide) ?_
                    refine r_istore (pc := 153) (ls' := [(0, .ref 40), (1, .int (nI st)), (2, .int (nI coin)), (3, .int (nI n)), (4, .int (nI (σ 8 (n)))), (5, .int (nI ((st) % (4)))), (6, .int (nI 3))]) dX7_faultOf_153 (Nat.le_of_ble_eq_true rfl) rfl ?_
                    refine r_iload (pc := 155) dX7_faultOf_155 rfl ?_
                    refine r_istore_n (pc := 157) (ls' := [(0, .ref 40), (1, .int (nI st)), (2, .int (nI (σ 8 (n)))), (3, .int (nI n)), (4, .int (nI (σ 8 (n)))), (5, .int (nI ((st) % (4)))), (6, .int (nI 3))]) dX7_faultOf_157 (Nat.le_of_ble_eq_true rfl) rfl ?_
                    refine r_iload (pc := 158) dX7_faultOf_158 rfl ?_
                    refine rn_if_ge (pc := 160) (tgt := 165) dX7_faultOf_160 (by decide) (by omega) ?_
                    refine r_iload (pc := 165) dX7_faultOf_165 rfl ?_
                    refine r_istore_n (pc := 167) (ls' := [(0, .ref 40), (1, .int (nI 3)), (2, .int (nI (σ 8 (n)))), (3, .int (nI n)), (4, .int (nI (σ 8 (n)))), (5, .int (nI ((st) % (4)))), (6, .int (nI 3))]) dX7_faultOf_167 (Nat.le_of_ble_eq_true rfl) rfl ?_
                    refine rn_iinc (pc := 168) (b := 1) (ls' := [(0, .ref 40), (1, .int (nI 3)), (2, .int (nI (σ 8 (n)))), (3, .int (nI (n + 1))), (4, .int (nI (σ 8 (n)))), (5, .int (nI ((st) % (4)))), (6, .int (nI 3))]) dX7_faultOf_168 rfl (by decide) (Nat.le_of_ble_eq_true rfl) rfl ?_
                    refine r_goto (pc := 171) (tgt := 6) dX7_faultOf_171 (by decide) ?_
                    obtain ⟨k1, rfl⟩ : ∃ k1, k = k1 + 1 := ⟨k - 1, by omega⟩
                    have hnx : nx st coin (σ 8 n) = some (3, σ 8 (n)) := by unfold nx; (repeat' split) <;> first | rfl | (exfalso; omega)
                    rw [flt, hnx] at h
                    refine r_pick (ls' := [(0, .ref 40), (1, .int (nI 3)), (2, .int (nI (σ 8 (n)))), (3, .int (nI (n + 1)))]) [0, 1, 2, 3] rfl ?_
                    exact ih k1 (by omega) (n + 1) (3) (σ 8 (n)) (by omega) (by omega) (by omega) h
                · refine r_iload (pc := 136) dX7_faultOf_136 rfl ?_
                  refine r_iload_n (pc := 138) dX7_faultOf_138 rfl ?_
                  refine rn_icmp_eq (pc := 139) (tgt := 158) dX7_faultOf_139 (by decide) (by omega) (by omega) (fun c139 => ?_) (fun c139 => ?_)
                  · refine r_iload (pc := 158) dX7_faultOf_158 rfl ?_
                    refine r_if_ge (pc := 160) (tgt := 165) dX7_faultOf_160 (by decide) (fun c160 => ?_) (fun c160 => ?_)
                    · exact absurd c160 (by decide)
                    · refine r_iload_n (pc := 163) dX7_faultOf_163 rfl ?_
                      refine r_ireturn (pc := 164) dX7_faultOf_164 rfl (Or.inl rfl) rfl ?_
                      obtain ⟨k1, rfl⟩ : ∃ k1, k = k1 + 1 := ⟨k - 1, by omega⟩
                      have hnx : nx st coin (σ 8 n) = none := by unfold nx; (repeat' split) <;> first | rfl | (exfalso; omega)
                      rw [flt, hnx] at h
                      exact h
                  · refine r_iload_n (pc := 142) dX7_faultOf_142 rfl ?_
                    refine r_iconst (pc := 143) (v := (nI (4))) dX7_faultOf_143 (by decide) ?_
                    refine rn_icmp_ge (pc := 144) (tgt := 151) dX7_faultOf_144 (by decide) (by omega) (by omega) (fun c144 => ?_) (fun c144 => ?_)
                    · refine r_bipush (pc := 151) (v := (nI (7))) dX7_faultOf_151 (by decide) ?_
                      refine r_istore (pc := 153) (ls' := [(0, .ref 40), (1, .int (nI st)), (2, .int (nI coin)), (3, .int (nI n)), (4, .int (nI (σ 8 (n)))), (5, .int (nI ((st) % (4)))), (6, .int (nI 7))]) dX7_faultOf_153 (Nat.le_of_ble_eq_true rfl) rfl ?_
                      refine r_iload (pc := 155) dX7_faultOf_155 rfl ?_
                      refine r_istore_n (pc := 157) (ls' := [(0, .ref 40), (1, .int (nI st)), (2, .int (nI (σ 8 (n)))), (3, .int (nI n)), (4, .int (nI (σ 8 (n)))), (5, .int (nI ((st) % (4)))), (6, .int (nI 7))]) dX7_faultOf_157 (Nat.le_of_ble_eq_true rfl) rfl ?_
                      refine r_iload (pc := 158) dX7_faultOf_158 rfl ?_
                      refine rn_if_ge (pc := 160) (tgt := 165) dX7_faultOf_160 (by decide) (by omega) ?_
                      refine r_iload (pc := 165) dX7_faultOf_165 rfl ?_
                      refine r_istore_n (pc := 167) (ls' := [(0, .ref 40), (1, .int (nI 7)), (2, .int (nI (σ 8 (n)))), (3, .int (nI n)), (4, .int (nI (σ 8 (n)))), (5, .int (nI ((st) % (4)))), (6, .int (nI 7))]) dX7_faultOf_167 (Nat.le_of_ble_eq_true rfl) rfl ?_
                      refine rn_iinc (pc := 168) (b := 1) (ls' := [(0, .ref 40), (1, .int (nI 7)), (2, .int (nI (σ 8 (n)))), (3, .int (nI (n + 1))), (4, .int (nI (σ 8 (n)))), (5, .int (nI ((st) % (4)))), (6, .int (nI 7))]) dX7_faultOf_168 rfl (by decide) (Nat.le_of_ble_eq_true rfl) rfl ?_
                      refine r_goto (pc := 171) (tgt := 6) dX7_faultOf_171 (by decide) ?_
                      obtain ⟨k1, rfl⟩ : ∃ k1, k = k1 + 1 := ⟨k - 1, by omega⟩
                      have hnx : nx st coin (σ 8 n) = some (7, σ 8 (n)) := by unfold nx; (repeat' split) <;> first | rfl | (exfalso; omega)
                      rw [flt, hnx] at h
                      refine r_pick (ls' := [(0, .ref 40), (1, .int (nI 7)), (2, .int (nI (σ 8 (n)))), (3, .int (nI (n + 1)))]) [0, 1, 2, 3] rfl ?_
                      exact ih k1 (by omega) (n + 1) (7) (σ 8 (n)) (by omega) (by omega) (by omega) h
                    · refine r_iconst (pc := 147) (v := (nI (3))) dX7_faultOf_147 (by decide) ?_
                      refine r_goto (pc := 148) (tgt := 153) dX7_faultOf_148 (by decide) ?_
                      refine r_istore (pc := 153) (ls' := [(0, .ref 40), (1, .int (nI st)), (2, .int (nI coin)), (3, .int (nI n)), (4, .int (nI (σ 8 (n)))), (5, .int (nI ((st) % (4)))), (6, .int (nI 3))]) dX7_faultOf_153 (Nat.le_of_ble_eq_true rfl) rfl ?_
                      refine r_iload (pc := 155) dX7_faultOf_155 rfl ?_
                      refine r_istore_n (pc := 157) (ls' := [(0, .ref 40), (1, .int (nI st)), (2, .int (nI (σ 8 (n)))), (3, .int (nI n)), (4, .int (nI (σ 8 (n)))), (5, .int (nI ((st) % (4)))), (6, .int (nI 3))]) dX7_faultOf_157 (Nat.le_of_ble_eq_true rfl) rfl ?_
                      refine r_iload (pc := 158) dX7_faultOf_158 rfl ?_
                      refine rn_if_ge (pc := 160) (tgt := 165) dX7_faultOf_160 (by decide) (by omega) ?_
                      refine r_iload (pc := 165) dX7_faultOf_165 rfl ?_
                      refine r_istore_n (pc := 167) (ls' := [(0, .ref 40), (1, .int (nI 3)), (2, .int (nI (σ 8 (n)))), (3, .int (nI n)), (4, .int (nI (σ 8 (n)))), (5, .int (nI ((st) % (4)))), (6, .int (nI 3))]) dX7_faultOf_167 (Nat.le_of_ble_eq_true rfl) rfl ?_
                      refine rn_iinc (pc := 168) (b := 1) (ls' := [(0, .ref 40), (1, .int (nI 3)), (2, .int (nI (σ 8 (n)))), (3, .int (nI (n + 1))), (4, .int (nI (σ 8 (n)))), (5, .int (nI ((st) % (4)))), (6, .int (nI 3))]) dX7_faultOf_168 rfl (by decide) (Nat.le_of_ble_eq_true rfl) rfl ?_
                      refine r_goto (pc := 171) (tgt := 6) dX7_faultOf_171 (by decide) ?_
                      obtain ⟨k1, rfl⟩ : ∃ k1, k = k1 + 1 := ⟨k - 1, by omega⟩
                      have hnx : nx st coin (σ 8 n) = some (3, σ 8 (n)) := by unfold nx; (repeat' split) <;> first | rfl | (exfalso; omega)
                      rw [flt, hnx] at h
                      refine r_pick (ls' := [(0, .ref 40), (1, .int (nI 3)), (2, .int (nI (σ 8 (n)))), (3, .int (nI (n + 1)))]) [0, 1, 2, 3] rfl ?_
                      exact ih k1 (by omega) (n + 1) (3) (σ 8 (n)) (by omega) (by omega) (by omega) h
          · refine r_iload (pc := 84) dX7_faultOf_84 rfl ?_
            refine r_iload (pc := 86) dX7_faultOf_86 rfl ?_
            refine rn_if_ne (pc := 88) (tgt := 96) dX7_faultOf_88 (by decide) (by omega) (fun c88 => ?_) (fun c88 => ?_)
            · refine r_bipush (pc := 96) (v := (nI (48))) dX7_faultOf_96 (by decide) ?_
              refine r_bipush (pc := 98) (v := (nI (57))) dX7_faultOf_98 (by decide) ?_
              refine r_callS (pc := 100) (d' := 0) (As := [.int (nI (σ 8 (n))), .int (nI 48), .int (nI 57)]) (rest := []) dX7_faultOf_100 sX7_in mX7_77 rfl rfl (Nat.le_of_ble_eq_true rfl) (Nat.le_of_ble_eq_true rfl) ?_
              refine c_in ?_
              refine rb_if_eq (pc := 103) (tgt := 114) dX7_faultOf_103 (by decide) (fun c103 => ?_) (fun c103 => ?_)
              · rw [inR_nat (by omega) (by decide) (by decide)] at c103
                simp at c103
                refine r_iload (pc := 114) dX7_faultOf_114 rfl ?_
                refine rn_if_le (pc := 116) (tgt := 158) dX7_faultOf_116 (by decide) (by omega) (fun c116 => ?_) (fun c116 => ?_)
                · refine r_iload (pc := 158) dX7_faultOf_158 rfl ?_
                  refine r_if_ge (pc := 160) (tgt := 165) dX7_faultOf_160 (by decide) (fun c160 => ?_) (fun c160 => ?_)
                  · exact absurd c160 (by decide)
                  · refine r_iload_n (pc := 163) dX7_faultOf_163 rfl ?_
                    refine r_ireturn (pc := 164) dX7_faultOf_164 rfl (Or.inl rfl) rfl ?_
                    obtain ⟨k1, rfl⟩ : ∃ k1, k = k1 + 1 := ⟨k - 1, by omega⟩
                    have hnx : nx st coin (σ 8 n) = none := by unfold nx; (repeat' split) <;> first | rfl | (exfalso; omega)
                    rw [flt, hnx] at h
                    exact h
                · refine r_iload (pc := 119) dX7_faultOf_119 rfl ?_
                  refine r_bipush (pc := 121) (v := (nI (97))) dX7_faultOf_121 (by decide) ?_
                  refine r_bipush (pc := 123) (v := (nI (104))) dX7_faultOf_123 (by decide) ?_
                  refine r_callS (pc := 125) (d' := 0) (As := [.int (nI (σ 8 (n))), .int (nI 97), .int (nI 104)]) (rest := []) dX7_faultOf_125 sX7_in mX7_77 rfl rfl (Nat.le_of_ble_eq_true rfl) (Nat.le_of_ble_eq_true rfl) ?_
                  refine c_in ?_
                  refine rb_if_eq (pc := 128) (tgt := 158) dX7_faultOf_128 (by decide) (fun c128 => ?_) (fun c128 => ?_)
                  · rw [inR_nat (by omega) (by decide) (by decide)] at c128
                    simp at c128
                    refine r_iload (pc := 158) dX7_faultOf_158 rfl ?_
                    refine r_if_ge (pc := 160) (tgt := 165) dX7_faultOf_160 (by decide) (fun c160 => ?_) (fun c160 => ?_)
                    · exact absurd c160 (by decide)
                    · refine r_iload_n (pc := 163) dX7_faultOf_163 rfl ?_
                      refine r_ireturn (pc := 164) dX7_faultOf_164 rfl (Or.inl rfl) rfl ?_
                      obtain ⟨k1, rfl⟩ : ∃ k1, k = k1 + 1 := ⟨k - 1, by omega⟩
                      have hnx : nx st coin (σ 8 n) = none := by unfold nx; (repeat' split) <;> first | rfl | (exfalso; omega)
                      rw [flt, hnx] at h
                      exact h
                  · rw [inR_nat (by omega) (by decide) (by decide)] at c128
                    simp at c128
                    refine r_iload_n (pc := 131) dX7_faultOf_131 rfl ?_
                    refine r_iconst (pc := 132) (v := (nI (4))) dX7_faultOf_132 (by decide) ?_
                    refine rn_icmp_lt (pc := 133) (tgt := 142) dX7_faultOf_133 (by decide) (by omega) (by omega) (fun c133 => ?_) (fun c133 => ?_)
                    · refine r_iload_n (pc := 142) dX7_faultOf_142 rfl ?_
                      refine r_iconst (pc := 143) (v := (nI (4))) dX7_faultOf_143 (by decide) ?_
                      refine rn_icmp_ge (pc := 144) (tgt := 151) dX7_faultOf_144 (by decide) (by omega) (by omega) (fun c144 => ?_) (fun c144 => ?_)
                      · refine r_bipush (pc := 151) (v := (nI (7))) dX7_faultOf_151 (by decide) ?_
                        refine r_istore (pc := 153) (ls' := [(0, .ref 40), (1, .int (nI st)), (2, .int (nI coin)), (3, .int (nI n)), (4, .int (nI (σ 8 (n)))), (5, .int (nI ((st) % (4)))), (6, .int (nI 7))]) dX7_faultOf_153 (Nat.le_of_ble_eq_true rfl) rfl ?_
                        refine r_iload (pc := 155) dX7_faultOf_155 rfl ?_
                        refine r_istore_n (pc := 157) (ls' := [(0, .ref 40), (1, .int (nI st)), (2, .int (nI (σ 8 (n)))), (3, .int (nI n)), (4, .int (nI (σ 8 (n)))), (5, .int (nI ((st) % (4)))), (6, .int (nI 7))]) dX7_faultOf_157 (Nat.le_of_ble_eq_true rfl) rfl ?_
                        refine r_iload (pc := 158) dX7_faultOf_158 rfl ?_
                        refine rn_if_ge (pc := 160) (tgt := 165) dX7_faultOf_160 (by decide) (by omega) ?_
                        refine r_iload (pc := 165) dX7_faultOf_165 rfl ?_
                        refine r_istore_n (pc := 167) (ls' := [(0, .ref 40), (1, .int (nI 7)), (2, .int (nI (σ 8 (n)))), (3, .int (nI n)), (4, .int (nI (σ 8 (n)))), (5, .int (nI ((st) % (4)))), (6, .int (nI 7))]) dX7_faultOf_167 (Nat.le_of_ble_eq_true rfl) rfl ?_
                        refine rn_iinc (pc := 168) (b := 1) (ls' := [(0, .ref 40), (1, .int (nI 7)), (2, .int (nI (σ 8 (n)))), (3, .int (nI (n + 1))), (4, .int (nI (σ 8 (n)))), (5, .int (nI ((st) % (4)))), (6, .int (nI 7))]) dX7_faultOf_168 rfl (by decide) (Nat.le_of_ble_eq_true rfl) rfl ?_
                        refine r_goto (pc := 171) (tgt := 6) dX7_faultOf_171 (by decide) ?_
                        obtain ⟨k1, rfl⟩ : ∃ k1, k = k1 + 1 := ⟨k - 1, by omega⟩
                        have hnx : nx st coin (σ 8 n) = some (7, σ 8 (n)) := by unfold nx; (repeat' split) <;> first | rfl | (exfalso; omega)
                        rw [flt, hnx] at h
                        refine r_pick (ls' := [(0, .ref 40), (1, .int (nI 7)), (2, .int (nI (σ 8 (n)))), (3, .int (nI (n + 1)))]) [0, 1, 2, 3] rfl ?_
                        exact ih k1 (by omega) (n + 1) (7) (σ 8 (n)) (by omega) (by omega) (by omega) h
                      · refine r_iconst (pc := 147) (v := (nI (3))) dX7_faultOf_147 (by decide) ?_
                        refine r_goto (pc := 148) (tgt := 153) dX7_faultOf_148 (by decide) ?_
                        refine r_istore (pc := 153) (ls' := [(0, .ref 40), (1, .int (nI st)), (2, .int (nI coin)), (3, .int (nI n)), (4, .int (nI (σ 8 (n)))), (5, .int (nI ((st) % (4)))), (6, .int (nI 3))]) dX7_faultOf_153 (Nat.le_of_ble_eq_true rfl) rfl ?_
                        refine r_iload (pc := 155) dX7_faultOf_155 rfl ?_
                        refine r_istore_n (pc := 157) (ls' := [(0, .ref 40), (1, .int (nI st)), (2, .int (nI (σ 8 (n)))), (3, .int (nI n)), (4, .int (nI (σ 8 (n)))), (5, .int (nI ((st) % (4)))), (6, .int (nI 3))]) dX7_faultOf_157 (Nat.le_of_ble_eq_true rfl) rfl ?_
                        refine r_iload (pc := 158) dX7_faultOf_158 rfl ?_
                        refine rn_if_ge (pc := 160) (tgt := 165) dX7_faultOf_160 (by decide) (by omega) ?_
                        refine r_iload (pc := 165) dX7_faultOf_165 rfl ?_
                        refine r_istore_n (pc := 167) (ls' := [(0, .ref 40), (1, .int (nI 3)), (2, .int (nI (σ 8 (n)))), (3, .int (nI n)), (4, .int (nI (σ 8 (n)))), (5, .int (nI ((st) % (4)))), (6, .int (nI 3))]) dX7_faultOf_167 (Nat.le_of_ble_eq_true rfl) rfl ?_
                        refine rn_iinc (pc := 168) (b := 1) (ls' := [(0, .ref 40), (1, .int (nI 3)), (2, .int (nI (σ 8 (n)))), (3, .int (nI (n + 1))), (4, .int (nI (σ 8 (n)))), (5, .int (nI ((st) % (4)))), (6, .int (nI 3))]) dX7_faultOf_168 rfl (by decide) (Nat.le_of_ble_eq_true rfl) rfl ?_
                        refine r_goto (pc := 171) (tgt := 6) dX7_faultOf_171 (by decide) ?_
                        obtain ⟨k1, rfl⟩ : ∃ k1, k = k1 + 1 := ⟨k - 1, by omega⟩
                        have hnx : nx st coin (σ 8 n) = some (3, σ 8 (n)) := by unfold nx; (repeat' split) <;> first | rfl | (exfalso; omega)
                        rw [flt, hnx] at h
                        refine r_pick (ls' := [(0, .ref 40), (1, .int (nI 3)), (2, .int (nI (σ 8 (n)))), (3, .int (nI (n + 1)))]) [0, 1, 2, 3] rfl ?_
                        exact ih k1 (by omega) (n + 1) (3) (σ 8 (n)) (by omega) (by omega) (by omega) h
                    · refine r_iload (pc := 136) dX7_faultOf_136 rfl ?_
                      refine r_iload_n (pc := 138) dX7_faultOf_138 rfl ?_
                      refine rn_icmp_eq (pc := 139) (tgt := 158) dX7_faultOf_139 (by decide) (by omega) (by omega) (fun c139 => ?_) (fun c139 => ?_)
                      · refine r_iload (pc := 158) dX7_faultOf_158 rfl ?_
                        refine r_if_ge (pc := 160) (tgt := 165) dX7_faultOf_160 (by decide) (fun c160 => ?_) (fun c160 => ?_)
                        · exact absurd c160 (by decide)
                        · refine r_iload_n (pc := 163) dX7_faultOf_163 rfl ?_
                          refine r_ireturn (pc := 164) dX7_faultOf_164 rfl (Or.inl rfl) rfl ?_
                          obtain ⟨k1, rfl⟩ : ∃ k1, k = k1 + 1 := ⟨k - 1, by omega⟩
                          have hnx : nx st coin (σ 8 n) = none := by unfold nx; (repeat' split) <;> first | rfl | (exfalso; omega)
                          rw [flt, hnx] at h
                          exact h
                      · refine r_iload_n (pc := 142) dX7_faultOf_142 rfl ?_
                        refine r_iconst (pc := 143) (v := (nI (4))) dX7_faultOf_143 (by decide) ?_
                        refine rn_icmp_ge (pc := 144) (tgt := 151) dX7_faultOf_144 (by decide) (by omega) (by omega) (fun c144 => ?_) (fun c144 => ?_)
                        · refine r_bipush (pc := 151) (v := (nI (7))) dX7_faultOf_151 (by decide) ?_
                          refine r_istore (pc := 153) (ls' := [(0, .ref 40), (1, .int (nI st)), (2, .int (nI coin)), (3, .int (nI n)), (4, .int (nI (σ 8 (n)))), (5, .int (nI ((st) % (4)))), (6, .int (nI 7))]) dX7_faultOf_153 (Nat.le_of_ble_eq_true rfl) rfl ?_
                          refine r_iload (pc := 155) dX7_faultOf_155 rfl ?_
                          refine r_istore_n (pc := 157) (ls' := [(0, .ref 40), (1, .int (nI st)), (2, .int (nI (σ 8 (n)))), (3, .int (nI n)), (4, .int (nI (σ 8 (n)))), (5, .int (nI ((st) % (4)))), (6, .int (nI 7))]) dX7_faultOf_157 (Nat.le_of_ble_eq_true rfl) rfl ?_
                          refine r_iload (pc := 158) dX7_faultOf_158 rfl ?_
                          refine rn_if_ge (pc := 160) (tgt := 165) dX7_faultOf_160 (by decide) (by omega) ?_
                          refine r_iload (pc := 165) dX7_faultOf_165 rfl ?_
                          refine r_istore_n (pc := 167) (ls' := [(0, .ref 40), (1, .int (nI 7)), (2, .int (nI (σ 8 (n)))), (3, .int (nI n)), (4, .int (nI (σ 8 (n)))), (5, .int (nI ((st) % (4)))), (6, .int (nI 7))]) dX7_faultOf_167 (Nat.le_of_ble_eq_true rfl) rfl ?_
                          refine rn_iinc (pc := 168) (b := 1) (ls' := [(0, .ref 40), (1, .int (nI 7)), (2, .int (nI (σ 8 (n)))), (3, .int (nI (n + 1))), (4, .int (nI (σ 8 (n)))), (5, .int (nI ((st) % (4)))), (6, .int (nI 7))]) dX7_faultOf_168 rfl (by decide) (Nat.le_of_ble_eq_true rfl) rfl ?_
                          refine r_goto (pc := 171) (tgt := 6) dX7_faultOf_171 (by decide) ?_
                          obtain ⟨k1, rfl⟩ : ∃ k1, k = k1 + 1 := ⟨k - 1, by omega⟩
                          have hnx : nx st coin (σ 8 n) = some (7, σ 8 (n)) := by unfold nx; (repeat' split) <;> first | rfl | (exfalso; omega)
                          rw [flt, hnx] at h
                          refine r_pick (ls' := [(0, .ref 40), (1, .int (nI 7)), (2, .int (nI (σ 8 (n)))), (3, .int (nI (n + 1)))]) [0, 1, 2, 3] rfl ?_
                          exact ih k1 (by omega) (n + 1) (7) (σ 8 (n)) (by omega) (by omega) (by omega) h
                        · refine r_iconst (pc := 147) (v := (nI (3))) dX7_faultOf_147 (by decide) ?_
                          refine r_goto (pc := 148) (tgt := 153) dX7_faultOf_148 (by decide) ?_
                          refine r_istore (pc := 153) (ls' := [(0, .ref 40), (1, .int (nI st)), (2, .int (nI coin)), (3, .int (nI n)), (4, .int (nI (σ 8 (n)))), (5, .int (nI ((st) % (4)))), (6, .int (nI 3))]) dX7_faultOf_153 (Nat.le_of_ble_eq_true rfl) rfl ?_
                          refine r_iload (pc := 155) dX7_faultOf_155 rfl ?_
                          refine r_istore_n (pc := 157) (ls' := [(0, .ref 40), (1, .int (nI st)), (2, .int (nI (σ 8 (n)))), (3, .int (nI n)), (4, .int (nI (σ 8 (n)))), (5, .int (nI ((st) % (4)))), (6, .int (nI 3))]) dX7_faultOf_157 (Nat.le_of_ble_eq_true rfl) rfl ?_
                          refine r_iload (pc := 158) dX7_faultOf_158 rfl ?_
                          refine rn_if_ge (pc := 160) (tgt := 165) dX7_faultOf_160 (by decide) (by omega) ?_
                          refine r_iload (pc := 165) dX7_faultOf_165 rfl ?_
                          refine r_istore_n (pc := 167) (ls' := [(0, .ref 40), (1, .int (nI 3)), (2, .int (nI (σ 8 (n)))), (3, .int (nI n)), (4, .int (nI (σ 8 (n)))), (5, .int (nI ((st) % (4)))), (6, .int (nI 3))]) dX7_faultOf_167 (Nat.le_of_ble_eq_true rfl) rfl ?_
                          refine rn_iinc (pc := 168) (b := 1) (ls' := [(0, .ref 40), (1, .int (nI 3)), (2, .int (nI (σ 8 (n)))), (3, .int (nI (n + 1))), (4, .int (nI (σ 8 (n)))), (5, .int (nI ((st) % (4)))), (6, .int (nI 3))]) dX7_faultOf_168 rfl (by decide) (Nat.le_of_ble_eq_true rfl) rfl ?_
                          refine r_goto (pc := 171) (tgt := 6) dX7_faultOf_171 (by decide) ?_
                          obtain ⟨k1, rfl⟩ : ∃ k1, k = k1 + 1 := ⟨k - 1, by omega⟩
                          have hnx : nx st coin (σ 8 n) = some (3, σ 8 (n)) := by unfold nx; (repeat' split) <;> first | rfl | (exfalso; omega)
                          rw [flt, hnx] at h
                          refine r_pick (ls' := [(0, .ref 40), (1, .int (nI 3)), (2, .int (nI (σ 8 (n)))), (3, .int (nI (n + 1)))]) [0, 1, 2, 3] rfl ?_
                          exact ih k1 (by omega) (n + 1) (3) (σ 8 (n)) (by omega) (by omega) (by omega) h
              · rw [inR_nat (by omega) (by decide) (by decide)] at c103
                simp at c103
                refine r_iload_n (pc := 106) dX7_faultOf_106 rfl ?_
                refine r_iconst (pc := 107) (v := (nI (1))) dX7_faultOf_107 (by decide) ?_
                refine rn_iadd (pc := 108) dX7_faultOf_108 ?_
                refine r_istore (pc := 109) (ls' := [(0, .ref 40), (1, .int (nI st)), (2, .int (nI coin)), (3, .int (nI n)), (4, .int (nI (σ 8 (n)))), (5, .int (nI ((st) % (4)))), (6, .int (nI (st + 1)))]) dX7_faultOf_109 (Nat.le_of_ble_eq_true rfl) rfl ?_
                refine r_goto (pc := 111) (tgt := 158) dX7_faultOf_111 (by decide) ?_
                refine r_iload (pc := 158) dX7_faultOf_158 rfl ?_
                refine rn_if_ge (pc := 160) (tgt := 165) dX7_faultOf_160 (by decide) (by omega) ?_
                refine r_iload (pc := 165) dX7_faultOf_165 rfl ?_
                refine r_istore_n (pc := 167) (ls' := [(0, .ref 40), (1, .int (nI (st + 1))), (2, .int (nI coin)), (3, .int (nI n)), (4, .int (nI (σ 8 (n)))), (5, .int (nI ((st) % (4)))), (6, .int (nI (st + 1)))]) dX7_faultOf_167 (Nat.le_of_ble_eq_true rfl) rfl ?_
                refine rn_iinc (pc := 168) (b := 1) (ls' := [(0, .ref 40), (1, .int (nI (st + 1))), (2, .int (nI coin)), (3, .int (nI (n + 1))), (4, .int (nI (σ 8 (n)))), (5, .int (nI ((st) % (4)))), (6, .int (nI (st + 1)))]) dX7_faultOf_168 rfl (by decide) (Nat.le_of_ble_eq_true rfl) rfl ?_
                refine r_goto (pc := 171) (tgt := 6) dX7_faultOf_171 (by decide) ?_
                obtain ⟨k1, rfl⟩ : ∃ k1, k = k1 + 1 := ⟨k - 1, by omega⟩
                have hnx : nx st coin (σ 8 n) = some (st + 1, coin) := by unfold nx; (repeat' split) <;> first | rfl | (exfalso; omega)
                rw [flt, hnx] at h
                refine r_pick (ls' := [(0, .ref 40), (1, .int (nI (st + 1))), (2, .int (nI coin)), (3, .int (nI (n + 1)))]) [0, 1, 2, 3] rfl ?_
                exact ih k1 (by omega) (n + 1) (st + 1) (coin) (by omega) (by omega) (by omega) h
            · refine r_bipush (pc := 91) (v := (nI (49))) dX7_faultOf_91 (by decide) ?_
              refine r_goto (pc := 93) (tgt := 98) dX7_faultOf_93 (by decide) ?_
              refine r_bipush (pc := 98) (v := (nI (57))) dX7_faultOf_98 (by decide) ?_
              refine r_callS (pc := 100) (d' := 0) (As := [.int (nI (σ 8 (n))), .int (nI 49), .int (nI 57)]) (rest := []) dX7_faultOf_100 sX7_in mX7_77 rfl rfl (Nat.le_of_ble_eq_true rfl) (Nat.le_of_ble_eq_true rfl) ?_
              refine c_in ?_
              refine rb_if_eq (pc := 103) (tgt := 114) dX7_faultOf_103 (by decide) (fun c103 => ?_) (fun c103 => ?_)
              · rw [inR_nat (by omega) (by decide) (by decide)] at c103
                simp at c103
                refine r_iload (pc := 114) dX7_faultOf_114 rfl ?_
                refine rn_if_le (pc := 116) (tgt := 158) dX7_faultOf_116 (by decide) (by omega) (fun c116 => ?_) (fun c116 => ?_)
                · refine r_iload (pc := 158) dX7_faultOf_158 rfl ?_
                  refine r_if_ge (pc := 160) (tgt := 165) dX7_faultOf_160 (by decide) (fun c160 => ?_) (fun c160 => ?_)
                  · exact absurd c160 (by decide)
                  · refine r_iload_n (pc := 163) dX7_faultOf_163 rfl ?_
                    refine r_ireturn (pc := 164) dX7_faultOf_164 rfl (Or.inl rfl) rfl ?_
                    obtain ⟨k1, rfl⟩ : ∃ k1, k = k1 + 1 := ⟨k - 1, by omega⟩
                    have hnx : nx st coin (σ 8 n) = none := by unfold nx; (repeat' split) <;> first | rfl | (exfalso; omega)
                    rw [flt, hnx] at h
                    exact h
                · refine r_iload (pc := 119) dX7_faultOf_119 rfl ?_
                  refine r_bipush (pc := 121) (v := (nI (97))) dX7_faultOf_121 (by decide) ?_
                  refine r_bipush (pc := 123) (v := (nI (104))) dX7_faultOf_123 (by decide) ?_
                  refine r_callS (pc := 125) (d' := 0) (As := [.int (nI (σ 8 (n))), .int (nI 97), .int (nI 104)]) (rest := []) dX7_faultOf_125 sX7_in mX7_77 rfl rfl (Nat.le_of_ble_eq_true rfl) (Nat.le_of_ble_eq_true rfl) ?_
                  refine c_in ?_
                  refine rb_if_eq (pc := 128) (tgt := 158) dX7_faultOf_128 (by decide) (fun c128 => ?_) (fun c128 => ?_)
                  · rw [inR_nat (by omega) (by decide) (by decide)] at c128
                    simp at c128
                    refine r_iload (pc := 158) dX7_faultOf_158 rfl ?_
                    refine r_if_ge (pc := 160) (tgt := 165) dX7_faultOf_160 (by decide) (fun c160 => ?_) (fun c160 => ?_)
                    · exact absurd c160 (by decide)
                    · refine r_iload_n (pc := 163) dX7_faultOf_163 rfl ?_
                      refine r_ireturn (pc := 164) dX7_faultOf_164 rfl (Or.inl rfl) rfl ?_
                      obtain ⟨k1, rfl⟩ : ∃ k1, k = k1 + 1 := ⟨k - 1, by omega⟩
                      have hnx : nx st coin (σ 8 n) = none := by unfold nx; (repeat' split) <;> first | rfl | (exfalso; omega)
                      rw [flt, hnx] at h
                      exact h
                  · rw [inR_nat (by omega) (by decide) (by decide)] at c128
                    simp at c128
                    refine r_iload_n (pc := 131) dX7_faultOf_131 rfl ?_
                    refine r_iconst (pc := 132) (v := (nI (4))) dX7_faultOf_132 (by decide) ?_
                    refine rn_icmp_lt (pc := 133) (tgt := 142) dX7_faultOf_133 (by decide) (by omega) (by omega) (fun c133 => ?_) (fun c133 => ?_)
                    · refine r_iload_n (pc := 142) dX7_faultOf_142 rfl ?_
                      refine r_iconst (pc := 143) (v := (nI (4))) dX7_faultOf_143 (by decide) ?_
                      refine rn_icmp_ge (pc := 144) (tgt := 151) dX7_faultOf_144 (by decide) (by omega) (by omega) (fun c144 => ?_) (fun c144 => ?_)
                      · refine r_bipush (pc := 151) (v := (nI (7))) dX7_faultOf_151 (by decide) ?_
                        refine r_istore (pc := 153) (ls' := [(0, .ref 40), (1, .int (nI st)), (2, .int (nI coin)), (3, .int (nI n)), (4, .int (nI (σ 8 (n)))), (5, .int (nI ((st) % (4)))), (6, .int (nI 7))]) dX7_faultOf_153 (Nat.le_of_ble_eq_true rfl) rfl ?_
                        refine r_iload (pc := 155) dX7_faultOf_155 rfl ?_
                        refine r_istore_n (pc := 157) (ls' := [(0, .ref 40), (1, .int (nI st)), (2, .int (nI (σ 8 (n)))), (3, .int (nI n)), (4, .int (nI (σ 8 (n)))), (5, .int (nI ((st) % (4)))), (6, .int (nI 7))]) dX7_faultOf_157 (Nat.le_of_ble_eq_true rfl) rfl ?_
                        refine r_iload (pc := 158) dX7_faultOf_158 rfl ?_
                        refine rn_if_ge (pc := 160) (tgt := 165) dX7_faultOf_160 (by decide) (by omega) ?_
                        refine r_iload (pc := 165) dX7_faultOf_165 rfl ?_
                        refine r_istore_n (pc := 167) (ls' := [(0, .ref 40), (1, .int (nI 7)), (2, .int (nI (σ 8 (n)))), (3, .int (nI n)), (4, .int (nI (σ 8 (n)))), (5, .int (nI ((st) % (4)))), (6, .int (nI 7))]) dX7_faultOf_167 (Nat.le_of_ble_eq_true rfl) rfl ?_
                        refine rn_iinc (pc := 168) (b := 1) (ls' := [(0, .ref 40), (1, .int (nI 7)), (2, .int (nI (σ 8 (n)))), (3, .int (nI (n + 1))), (4, .int (nI (σ 8 (n)))), (5, .int (nI ((st) % (4)))), (6, .int (nI 7))]) dX7_faultOf_168 rfl (by decide) (Nat.le_of_ble_eq_true rfl) rfl ?_
                        refine r_goto (pc := 171) (tgt := 6) dX7_faultOf_171 (by decide) ?_
                        obtain ⟨k1, rfl⟩ : ∃ k1, k = k1 + 1 := ⟨k - 1, by omega⟩
                        have hnx : nx st coin (σ 8 n) = some (7, σ 8 (n)) := by unfold nx; (repeat' split) <;> first | rfl | (exfalso; omega)
                        rw [flt, hnx] at h
                        refine r_pick (ls' := [(0, .ref 40), (1, .int (nI 7)), (2, .int (nI (σ 8 (n)))), (3, .int (nI (n + 1)))]) [0, 1, 2, 3] rfl ?_
                        exact ih k1 (by omega) (n + 1) (7) (σ 8 (n)) (by omega) (by omega) (by omega) h
                      · refine r_iconst (pc := 147) (v := (nI (3))) dX7_faultOf_147 (by decide) ?_
                        refine r_goto (pc := 148) (tgt := 153) dX7_faultOf_148 (by decide) ?_
                        refine r_istore (pc := 153) (ls' := [(0, .ref 40), (1, .int (nI st)), (2, .int (nI coin)), (3, .int (nI n)), (4, .int (nI (σ 8 (n)))), (5, .int (nI ((st) % (4)))), (6, .int (nI 3))]) dX7_faultOf_153 (Nat.le_of_ble_eq_true rfl) rfl ?_
                        refine r_iload (pc := 155) dX7_faultOf_155 rfl ?_
                        refine r_istore_n (pc := 157) (ls' := [(0, .ref 40), (1, .int (nI st)), (2, .int (nI (σ 8 (n)))), (3, .int (nI n)), (4, .int (nI (σ 8 (n)))), (5, .int (nI ((st) % (4)))), (6, .int (nI 3))]) dX7_faultOf_157 (Nat.le_of_ble_eq_true rfl) rfl ?_
                        refine r_iload (pc := 158) dX7_faultOf_158 rfl ?_
                        refine rn_if_ge (pc := 160) (tgt := 165) dX7_faultOf_160 (by decide) (by omega) ?_
                        refine r_iload (pc := 165) dX7_faultOf_165 rfl ?_
                        refine r_istore_n (pc := 167) (ls' := [(0, .ref 40), (1, .int (nI 3)), (2, .int (nI (σ 8 (n)))), (3, .int (nI n)), (4, .int (nI (σ 8 (n)))), (5, .int (nI ((st) % (4)))), (6, .int (nI 3))]) dX7_faultOf_167 (Nat.le_of_ble_eq_true rfl) rfl ?_
                        refine rn_iinc (pc := 168) (b := 1) (ls' := [(0, .ref 40), (1, .int (nI 3)), (2, .int (nI (σ 8 (n)))), (3, .int (nI (n + 1))), (4, .int (nI (σ 8 (n)))), (5, .int (nI ((st) % (4)))), (6, .int (nI 3))]) dX7_faultOf_168 rfl (by decide) (Nat.le_of_ble_eq_true rfl) rfl ?_
                        refine r_goto (pc := 171) (tgt := 6) dX7_faultOf_171 (by decide) ?_
                        obtain ⟨k1, rfl⟩ : ∃ k1, k = k1 + 1 := ⟨k - 1, by omega⟩
                        have hnx : nx st coin (σ 8 n) = some (3, σ 8 (n)) := by unfold nx; (repeat' split) <;> first | rfl | (exfalso; omega)
                        rw [flt, hnx] at h
                        refine r_pick (ls' := [(0, .ref 40), (1, .int (nI 3)), (2, .int (nI (σ 8 (n)))), (3, .int (nI (n + 1)))]) [0, 1, 2, 3] rfl ?_
                        exact ih k1 (by omega) (n + 1) (3) (σ 8 (n)) (by omega) (by omega) (by omega) h
                    · refine r_iload (pc := 136) dX7_faultOf_136 rfl ?_
                      refine r_iload_n (pc := 138) dX7_faultOf_138 rfl ?_
                      refine rn_icmp_eq (pc := 139) (tgt := 158) dX7_faultOf_139 (by decide) (by omega) (by omega) (fun c139 => ?_) (fun c139 => ?_)
                      · refine r_iload (pc := 158) dX7_faultOf_158 rfl ?_
                        refine r_if_ge (pc := 160) (tgt := 165) dX7_faultOf_160 (by decide) (fun c160 => ?_) (fun c160 => ?_)
                        · exact absurd c160 (by decide)
                        · refine r_iload_n (pc := 163) dX7_faultOf_163 rfl ?_
                          refine r_ireturn (pc := 164) dX7_faultOf_164 rfl (Or.inl rfl) rfl ?_
                          obtain ⟨k1, rfl⟩ : ∃ k1, k = k1 + 1 := ⟨k - 1, by omega⟩
                          have hnx : nx st coin (σ 8 n) = none := by unfold nx; (repeat' split) <;> first | rfl | (exfalso; omega)
                          rw [flt, hnx] at h
                          exact h
                      · refine r_iload_n (pc := 142) dX7_faultOf_142 rfl ?_
                        refine r_iconst (pc := 143) (v := (nI (4))) dX7_faultOf_143 (by decide) ?_
                        refine rn_icmp_ge (pc := 144) (tgt := 151) dX7_faultOf_144 (by decide) (by omega) (by omega) (fun c144 => ?_) (fun c144 => ?_)
                        · refine r_bipush (pc := 151) (v := (nI (7))) dX7_faultOf_151 (by decide) ?_
                          refine r_istore (pc := 153) (ls' := [(0, .ref 40), (1, .int (nI st)), (2, .int (nI coin)), (3, .int (nI n)), (4, .int (nI (σ 8 (n)))), (5, .int (nI ((st) % (4)))), (6, .int (nI 7))]) dX7_faultOf_153 (Nat.le_of_ble_eq_true rfl) rfl ?_
                          refine r_iload (pc := 155) dX7_faultOf_155 rfl ?_
                          refine r_istore_n (pc := 157) (ls' := [(0, .ref 40), (1, .int (nI st)), (2, .int (nI (σ 8 (n)))), (3, .int (nI n)), (4, .int (nI (σ 8 (n)))), (5, .int (nI ((st) % (4)))), (6, .int (nI 7))]) dX7_faultOf_157 (Nat.le_of_ble_eq_true rfl) rfl ?_
                          refine r_iload (pc := 158) dX7_faultOf_158 rfl ?_
                          refine rn_if_ge (pc := 160) (tgt := 165) dX7_faultOf_160 (by decide) (by omega) ?_
                          refine r_iload (pc := 165) dX7_faultOf_165 rfl ?_
                          refine r_istore_n (pc := 167) (ls' := [(0, .ref 40), (1, .int (nI 7)), (2, .int (nI (σ 8 (n)))), (3, .int (nI n)), (4, .int (nI (σ 8 (n)))), (5, .int (nI ((st) % (4)))), (6, .int (nI 7))]) dX7_faultOf_167 (Nat.le_of_ble_eq_true rfl) rfl ?_
                          refine rn_iinc (pc := 168) (b := 1) (ls' := [(0, .ref 40), (1, .int (nI 7)), (2, .int (nI (σ 8 (n)))), (3, .int (nI (n + 1))), (4, .int (nI (σ 8 (n)))), (5, .int (nI ((st) % (4)))), (6, .int (nI 7))]) dX7_faultOf_168 rfl (by decide) (Nat.le_of_ble_eq_true rfl) rfl ?_
                          refine r_goto (pc := 171) (tgt := 6) dX7_faultOf_171 (by decide) ?_
                          obtain ⟨k1, rfl⟩ : ∃ k1, k = k1 + 1 := ⟨k - 1, by omega⟩
                          have hnx : nx st coin (σ 8 n) = some (7, σ 8 (n)) := by unfold nx; (repeat' split) <;> first | rfl | (exfalso; omega)
                          rw [flt, hnx] at h
                          refine r_pick (ls' := [(0, .ref 40), (1, .int (nI 7)), (2, .int (nI (σ 8 (n)))), (3, .int (nI (n + 1)))]) [0, 1, 2, 3] rfl ?_
                          exact ih k1 (by omega) (n + 1) (7) (σ 8 (n)) (by omega) (by omega) (by omega) h
                        · refine r_iconst (pc := 147) (v := (nI (3))) dX7_faultOf_147 (by decide) ?_
                          refine r_goto (pc := 148) (tgt := 153) dX7_faultOf_148 (by decide) ?_
                          refine r_istore (pc := 153) (ls' := [(0, .ref 40), (1, .int (nI st)), (2, .int (nI coin)), (3, .int (nI n)), (4, .int (nI (σ 8 (n)))), (5, .int (nI ((st) % (4)))), (6, .int (nI 3))]) dX7_faultOf_153 (Nat.le_of_ble_eq_true rfl) rfl ?_
                          refine r_iload (pc := 155) dX7_faultOf_155 rfl ?_
                          refine r_istore_n (pc := 157) (ls' := [(0, .ref 40), (1, .int (nI st)), (2, .int (nI (σ 8 (n)))), (3, .int (nI n)), (4, .int (nI (σ 8 (n)))), (5, .int (nI ((st) % (4)))), (6, .int (nI 3))]) dX7_faultOf_157 (Nat.le_of_ble_eq_true rfl) rfl ?_
                          refine r_iload (pc := 158) dX7_faultOf_158 rfl ?_
                          refine rn_if_ge (pc := 160) (tgt := 165) dX7_faultOf_160 (by decide) (by omega) ?_
                          refine r_iload (pc := 165) dX7_faultOf_165 rfl ?_
                          refine r_istore_n (pc := 167) (ls' := [(0, .ref 40), (1, .int (nI 3)), (2, .int (nI (σ 8 (n)))), (3, .int (nI n)), (4, .int (nI (σ 8 (n)))), (5, .int (nI ((st) % (4)))), (6, .int (nI 3))]) dX7_faultOf_167 (Nat.le_of_ble_eq_true rfl) rfl ?_
                          refine rn_iinc (pc := 168) (b := 1) (ls' := [(0, .ref 40), (1, .int (nI 3)), (2, .int (nI (σ 8 (n)))), (3, .int (nI (n + 1))), (4, .int (nI (σ 8 (n)))), (5, .int (nI ((st) % (4)))), (6, .int (nI 3))]) dX7_faultOf_168 rfl (by decide) (Nat.le_of_ble_eq_true rfl) rfl ?_
                          refine r_goto (pc := 171) (tgt := 6) dX7_faultOf_171 (by decide) ?_
                          obtain ⟨k1, rfl⟩ : ∃ k1, k = k1 + 1 := ⟨k - 1, by omega⟩
                          have hnx : nx st coin (σ 8 n) = some (3, σ 8 (n)) := by unfold nx; (repeat' split) <;> first | rfl | (exfalso; omega)
                          rw [flt, hnx] at h
                          refine r_pick (ls' := [(0, .ref 40), (1, .int (nI 3)), (2, .int (nI (σ 8 (n)))), (3, .int (nI (n + 1)))]) [0, 1, 2, 3] rfl ?_
                          exact ih k1 (by omega) (n + 1) (3) (σ 8 (n)) (by omega) (by omega) (by omega) h
              · rw [inR_nat (by omega) (by decide) (by decide)] at c103
                simp at c103
                refine r_iload_n (pc := 106) dX7_faultOf_106 rfl ?_
                refine r_iconst (pc := 107) (v := (nI (1))) dX7_faultOf_107 (by decide) ?_
                refine rn_iadd (pc := 108) dX7_faultOf_108 ?_
                refine r_istore (pc := 109) (ls' := [(0, .ref 40), (1, .int (nI st)), (2, .int (nI coin)), (3, .int (nI n)), (4, .int (nI (σ 8 (n)))), (5, .int (nI ((st) % (4)))), (6, .int (nI (st + 1)))]) dX7_faultOf_109 (Nat.le_of_ble_eq_true rfl) rfl ?_
                refine r_goto (pc := 111) (tgt := 158) dX7_faultOf_111 (by decide) ?_
                refine r_iload (pc := 158) dX7_faultOf_158 rfl ?_
                refine rn_if_ge (pc := 160) (tgt := 165) dX7_faultOf_160 (by decide) (by omega) ?_
                refine r_iload (pc := 165) dX7_faultOf_165 rfl ?_
                refine r_istore_n (pc := 167) (ls' := [(0, .ref 40), (1, .int (nI (st + 1))), (2, .int (nI coin)), (3, .int (nI n)), (4, .int (nI (σ 8 (n)))), (5, .int (nI ((st) % (4)))), (6, .int (nI (st + 1)))]) dX7_faultOf_167 (Nat.le_of_ble_eq_true rfl) rfl ?_
                refine rn_iinc (pc := 168) (b := 1) (ls' := [(0, .ref 40), (1, .int (nI (st + 1))), (2, .int (nI coin)), (3, .int (nI (n + 1))), (4, .int (nI (σ 8 (n)))), (5, .int (nI ((st) % (4)))), (6, .int (nI (st + 1)))]) dX7_faultOf_168 rfl (by decide) (Nat.le_of_ble_eq_true rfl) rfl ?_
                refine r_goto (pc := 171) (tgt := 6) dX7_faultOf_171 (by decide) ?_
                obtain ⟨k1, rfl⟩ : ∃ k1, k = k1 + 1 := ⟨k - 1, by omega⟩
                have hnx : nx st coin (σ 8 n) = some (st + 1, coin) := by unfold nx; (repeat' split) <;> first | rfl | (exfalso; omega)
                rw [flt, hnx] at h
                refine r_pick (ls' := [(0, .ref 40), (1, .int (nI (st + 1))), (2, .int (nI coin)), (3, .int (nI (n + 1)))]) [0, 1, 2, 3] rfl ?_
                exact ih k1 (by omega) (n + 1) (st + 1) (coin) (by omega) (by omega) (by omega) h
        · refine r_iload (pc := 60) dX7_faultOf_60 rfl ?_
          refine r_bipush (pc := 62) (v := (nI (59))) dX7_faultOf_62 (by decide) ?_
          refine rn_icmp_ne (pc := 64) (tgt := 71) dX7_faultOf_64 (by decide) (by omega) (by omega) (fun c64 => ?_) (fun c64 => ?_)
          · refine r_bipush (pc := 71) (v := (-6)) dX7_faultOf_71 (by decide) ?_
            refine r_istore (pc := 73) (ls' := [(0, .ref 40), (1, .int (nI st)), (2, .int (nI coin)), (3, .int (nI n)), (4, .int (nI (σ 8 (n)))), (5, .int (nI ((st) % (4)))), (6, .int ((-6)))]) dX7_faultOf_73 (Nat.le_of_ble_eq_true rfl) rfl ?_
            refine r_goto (pc := 75) (tgt := 158) dX7_faultOf_75 (by decide) ?_
            refine r_iload (pc := 158) dX7_faultOf_158 rfl ?_
            refine r_if_ge (pc := 160) (tgt := 165) dX7_faultOf_160 (by decide) (fun c160 => ?_) (fun c160 => ?_)
            · exact absurd c160 (by decide)
            · refine r_iload_n (pc := 163) dX7_faultOf_163 rfl ?_
              refine r_ireturn (pc := 164) dX7_faultOf_164 rfl (Or.inl rfl) rfl ?_
              obtain ⟨k1, rfl⟩ : ∃ k1, k = k1 + 1 := ⟨k - 1, by omega⟩
              have hnx : nx st coin (σ 8 n) = none := by unfold nx; (repeat' split) <;> first | rfl | (exfalso; omega)
              rw [flt, hnx] at h
              exact h
          · refine r_iconst (pc := 67) (v := (nI (0))) dX7_faultOf_67 (by decide) ?_
            refine r_goto (pc := 68) (tgt := 73) dX7_faultOf_68 (by decide) ?_
            refine r_istore (pc := 73) (ls' := [(0, .ref 40), (1, .int (nI st)), (2, .int (nI coin)), (3, .int (nI n)), (4, .int (nI (σ 8 (n)))), (5, .int (nI ((st) % (4)))), (6, .int (nI 0))]) dX7_faultOf_73 (Nat.le_of_ble_eq_true rfl) rfl ?_
            refine r_goto (pc := 75) (tgt := 158) dX7_faultOf_75 (by decide) ?_
            refine r_iload (pc := 158) dX7_faultOf_158 rfl ?_
            refine rn_if_ge (pc := 160) (tgt := 165) dX7_faultOf_160 (by decide) (by omega) ?_
            refine r_iload (pc := 165) dX7_faultOf_165 rfl ?_
            refine r_istore_n (pc := 167) (ls' := [(0, .ref 40), (1, .int (nI 0)), (2, .int (nI coin)), (3, .int (nI n)), (4, .int (nI (σ 8 (n)))), (5, .int (nI ((st) % (4)))), (6, .int (nI 0))]) dX7_faultOf_167 (Nat.le_of_ble_eq_true rfl) rfl ?_
            refine rn_iinc (pc := 168) (b := 1) (ls' := [(0, .ref 40), (1, .int (nI 0)), (2, .int (nI coin)), (3, .int (nI (n + 1))), (4, .int (nI (σ 8 (n)))), (5, .int (nI ((st) % (4)))), (6, .int (nI 0))]) dX7_faultOf_168 rfl (by decide) (Nat.le_of_ble_eq_true rfl) rfl ?_
            refine r_goto (pc := 171) (tgt := 6) dX7_faultOf_171 (by decide) ?_
            obtain ⟨k1, rfl⟩ : ∃ k1, k = k1 + 1 := ⟨k - 1, by omega⟩
            have hnx : nx st coin (σ 8 n) = some (0, coin) := by unfold nx; (repeat' split) <;> first | rfl | (exfalso; omega)
            rw [flt, hnx] at h
            refine r_pick (ls' := [(0, .ref 40), (1, .int (nI 0)), (2, .int (nI coin)), (3, .int (nI (n + 1)))]) [0, 1, 2, 3] rfl ?_
            exact ih k1 (by omega) (n + 1) (0) (coin) (by omega) (by omega) (by omega) h
      · refine r_iload (pc := 36) dX7_faultOf_36 rfl ?_
        refine r_bipush (pc := 38) (v := (nI (62))) dX7_faultOf_38 (by decide) ?_
        refine rn_icmp_ne (pc := 40) (tgt := 47) dX7_faultOf_40 (by decide) (by omega) (by omega) (fun c40 => ?_) (fun c40 => ?_)
        · refine r_bipush (pc := 47) (v := (-6)) dX7_faultOf_47 (by decide) ?_
          refine r_istore (pc := 49) (ls' := [(0, .ref 40), (1, .int (nI st)), (2, .int (nI coin)), (3, .int (nI n)), (4, .int (nI (σ 8 (n)))), (5, .int (nI ((st) % (4)))), (6, .int ((-6)))]) dX7_faultOf_49 (Nat.le_of_ble_eq_true rfl) rfl ?_
          refine r_goto (pc := 51) (tgt := 158) dX7_faultOf_51 (by decide) ?_
          refine r_iload (pc := 158) dX7_faultOf_158 rfl ?_
          refine r_if_ge (pc := 160) (tgt := 165) dX7_faultOf_160 (by decide) (fun c160 => ?_) (fun c160 => ?_)
          · exact absurd c160 (by decide)
          · refine r_iload_n (pc := 163) dX7_faultOf_163 rfl ?_
            refine r_ireturn (pc := 164) dX7_faultOf_164 rfl (Or.inl rfl) rfl ?_
            obtain ⟨k1, rfl⟩ : ∃ k1, k = k1 + 1 := ⟨k - 1, by omega⟩
            have hnx : nx st coin (σ 8 n) = none := by unfold nx; (repeat' split) <;> first | rfl | (exfalso; omega)
            rw [flt, hnx] at h
            exact h
        · refine r_iconst (pc := 43) (v := (nI (4))) dX7_faultOf_43 (by decide) ?_
          refine r_goto (pc := 44) (tgt := 49) dX7_faultOf_44 (by decide) ?_
          refine r_istore (pc := 49) (ls' := [(0, .ref 40), (1, .int (nI st)), (2, .int (nI coin)), (3, .int (nI n)), (4, .int (nI (σ 8 (n)))), (5, .int (nI ((st) % (4)))), (6, .int (nI 4))]) dX7_faultOf_49 (Nat.le_of_ble_eq_true rfl) rfl ?_
          refine r_goto (pc := 51) (tgt := 158) dX7_faultOf_51 (by decide) ?_
          refine r_iload (pc := 158) dX7_faultOf_158 rfl ?_
          refine rn_if_ge (pc := 160) (tgt := 165) dX7_faultOf_160 (by decide) (by omega) ?_
          refine r_iload (pc := 165) dX7_faultOf_165 rfl ?_
          refine r_istore_n (pc := 167) (ls' := [(0, .ref 40), (1, .int (nI 4)), (2, .int (nI coin)), (3, .int (nI n)), (4, .int (nI (σ 8 (n)))), (5, .int (nI ((st) % (4)))), (6, .int (nI 4))]) dX7_faultOf_167 (Nat.le_of_ble_eq_true rfl) rfl ?_
          refine rn_iinc (pc := 168) (b := 1) (ls' := [(0, .ref 40), (1, .int (nI 4)), (2, .int (nI coin)), (3, .int (nI (n + 1))), (4, .int (nI (σ 8 (n)))), (5, .int (nI ((st) % (4)))), (6, .int (nI 4))]) dX7_faultOf_168 rfl (by decide) (Nat.le_of_ble_eq_true rfl) rfl ?_
          refine r_goto (pc := 171) (tgt := 6) dX7_faultOf_171 (by decide) ?_
          obtain ⟨k1, rfl⟩ : ∃ k1, k = k1 + 1 := ⟨k - 1, by omega⟩
          have hnx : nx st coin (σ 8 n) = some (4, coin) := by unfold nx; (repeat' split) <;> first | rfl | (exfalso; omega)
          rw [flt, hnx] at h
          refine r_pick (ls' := [(0, .ref 40), (1, .int (nI 4)), (2, .int (nI coin)), (3, .int (nI (n + 1)))]) [0, 1, 2, 3] rfl ?_
          exact ih k1 (by omega) (n + 1) (4) (coin) (by omega) (by omega) (by omega) h

set_option maxRecDepth 20000 in
set_option maxHeartbeats 4000000 in
theorem m_faultOf {μ : Mem} {σ : Sg} {Q : Option Value → Mem → Prop} (hM : Ms μ σ) (hO : Ok σ) (h : Q (some (.int (sp_fault σ))) μ) : Sp iX7_faultOf 1 [.ref 40] μ Q := by
  refine Sp.of vX7_faultOf.1 (Nat.le_of_ble_eq_true rfl) ?_
  show WP cX7_faultOf (RX7, 7, (some .int), 1, none) 0 [(0, .ref 40)] [] μ Q
  have hn := Ok_n hO
  refine r_iconst (pc := 0) (v := (nI (0))) dX7_faultOf_0 (by decide) ?_
  refine r_istore_n (pc := 1) (ls' := [(0, .ref 40), (1, .int (nI 0))]) dX7_faultOf_1 (Nat.le_of_ble_eq_true rfl) rfl ?_
  refine r_iconst (pc := 2) (v := (nI (0))) dX7_faultOf_2 (by decide) ?_
  refine r_istore_n (pc := 3) (ls' := [(0, .ref 40), (1, .int (nI 0)), (2, .int (nI 0))]) dX7_faultOf_3 (Nat.le_of_ble_eq_true rfl) rfl ?_
  refine r_iconst (pc := 4) (v := (nI (0))) dX7_faultOf_4 (by decide) ?_
  refine r_istore_n (pc := 5) (ls' := [(0, .ref 40), (1, .int (nI 0)), (2, .int (nI 0)), (3, .int (nI 0))]) dX7_faultOf_5 (Nat.le_of_ble_eq_true rfl) rfl ?_
  exact m_fault_l hM hO (σ 0 4) 0 0 0 (by omega) (by omega) (by omega) h

set_option maxRecDepth 20000 in
set_option maxHeartbeats 4000000 in
theorem m_fault {μ : Mem} {σ : Sg} {Q : Option Value → Mem → Prop} (hM : Ms μ σ) (hO : Ok σ) (h : ∀ μ', Ms μ' σ → keepX μ μ' → Q (some (.int (sp_fault σ))) μ') : Sp iX7_fault 2 [.ref 40] μ Q := by
  refine Sp.of vX7_fault.1 (Nat.le_of_ble_eq_true rfl) ?_
  show WP cX7_fault (RX7, 1, (some .int), 2, none) 0 [(0, .ref 40)] [] μ Q
  refine r_aload_n (pc := 0) dX7_fault_0 rfl ?_
  refine r_callV (pc := 1) (d' := 1) (k := 40) (As := []) (rest := []) dX7_fault_1 vX7_faultOf mX7_110 rfl rfl rfl (Nat.le_of_ble_eq_true rfl) (Nat.le_of_ble_eq_true rfl) ?_
  refine m_faultOf hM hO ?_
  refine r_ireturn (pc := 4) dX7_fault_4 rfl (Or.inl rfl) rfl ?_
  exact h _ hM keepX.rf
