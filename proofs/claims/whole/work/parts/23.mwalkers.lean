/-! THE MODEL'S WALKERS -/
def mixG (a b : Nat → Nat) (k : Nat) : Nat → Nat := fun i => if i < k then a i else b i
theorem mixG_s (a b : Nat → Nat) (k : Nat) : setG (mixG a b k) k (a k) = mixG a b (k + 1) := by
  funext i
  unfold setG mixG
  by_cases e : i = k
  · simp [e]
  · by_cases q : i < k
    · simp [e, q, Nat.lt_succ_of_lt q]
    · simp [e, q, show ¬ i < k + 1 by omega]
theorem mixG_0 (a b : Nat → Nat) : mixG a b 0 = b := by
  funext i
  simp [mixG]
theorem mixG_all {a b : Nat → Nat} {n : Nat} (h : ∀ i, n ≤ i → b i = a i) : mixG a b n = a := by
  funext i
  unfold mixG
  split
  · rfl
  · exact h i (by omega)
/-- only one row of ints differs -/
def only (k0 : Nat) (μ μ' : Mem) : Prop := (∀ k, ¬ k = k0 → μ'.1 k = μ.1 k) ∧ μ'.2 = μ.2
theorem only.rf {k0 : Nat} {μ : Mem} : only k0 μ μ := ⟨fun _ _ => rfl, rfl⟩
theorem only.s {k0 j : Nat} {μ μ' : Mem} {v : Int32} (h : only k0 μ μ') : only k0 μ (setI μ' k0 j v) := ⟨fun k hk => (if_neg hk).trans (h.1 k hk), h.2⟩
theorem only.keep {k0 : Nat} {μ μ' : Mem} (h : only k0 μ μ') (hk : 40 ≤ k0) : keepX μ μ' := fun k hk' => ⟨h.1 k (by omega), by rw [h.2]⟩
theorem Ms_62 {μ μ' : Mem} {σ : Sg} (h : only 62 μ μ') (hM : Ms μ σ) : Ms μ' σ := by
  unfold Ms
  rw [h.1 40 (by decide), h.1 41 (by decide), h.1 42 (by decide), h.1 43 (by decide), h.1 44 (by decide), h.1 45 (by decide), h.1 46 (by decide), h.1 47 (by decide), h.1 48 (by decide), h.1 49 (by decide), h.1 50 (by decide)]
  exact hM
theorem Ms_g {μ : Mem} {σ : Sg} {g : Nat → Nat} {b v : Nat} (h : Ms μ (sg σ g)) : Ms (setI μ 44 b (nI v)) (sg σ (setG g b v)) := by
  have := Ms_s4 (j := b) (v := v) h
  rwa [sg_su] at this

set_option maxRecDepth 20000 in
set_option maxHeartbeats 4000000 in
theorem m_wk_r {μ : Mem} {σ : Sg} {g : Nat → Nat} {av cv : Int32} {wv : Int32} {Q : Option Value → Mem → Prop} (hO : Ok σ) (hge : ∀ i, σ 0 0 ≤ i → g i = σ 4 i) (hkp : ∀ j, j < σ 0 0 → μ.1 62 j = nI (σ 4 j)) (h : ∀ μ', Ms μ' σ → keepX μ μ' → Q (some (.int av)) μ') : ∀ (k : Nat) (b : Nat) (μ1 : Mem), b + k = σ 0 0 → Ms μ1 (sg σ (mixG (σ 4) g b)) → only 44 μ μ1 → WP cX7_walkers (RX7, 6, (some .int), 3, none) 181 [(0, .ref 40), (1, .int (wv)), (2, .int (cv)), (3, .int (av)), (4, .int (nI b))] [] μ1 Q := by
  intro k
  induction k using Nat.strongRecOn with
  | _ k ih =>
    intro b μ1 hb hM1 ho
    have hn := Ok_n hO
    refine r_iload (pc := 181) dX7_walkers_181 rfl ?_
    refine r_aload_n (pc := 183) dX7_walkers_183 rfl ?_
    refine r_getI (pc := 184) (x := (nI (σ 0 0))) dX7_walkers_184 fX7_81 rfl rfl (Ms_n (μ := μ1) (σ := sg σ _) hM1) ?_
    refine rn_icmp_ge (pc := 187) (tgt := 210) dX7_walkers_187 (by decide) (by omega) (by omega) (fun c187 => ?_) (fun c187 => ?_)
    · obtain rfl : b = σ 0 0 := by omega
      rw [mixG_all hge, sg_id] at hM1
      refine r_iload_n (pc := 210) dX7_walkers_210 rfl ?_
      refine r_ireturn (pc := 211) dX7_walkers_211 rfl (Or.inl rfl) rfl ?_
      exact h μ1 hM1 (ho.keep (by decide))
    · refine r_aload_n (pc := 190) dX7_walkers_190 rfl ?_
      refine r_getR (pc := 191) (r := 44) dX7_walkers_191 fX7_19 rfl rfl ?_
      refine r_iload (pc := 194) dX7_walkers_194 rfl ?_
      refine r_aload_n (pc := 196) dX7_walkers_196 rfl ?_
      refine r_getR (pc := 197) (r := 62) dX7_walkers_197 fX7_74 rfl rfl ?_
      refine r_iload (pc := 200) dX7_walkers_200 rfl ?_
      refine r_iald (pc := 202) (x := (nI (σ 4 (b)))) dX7_walkers_202 rfl rfl (by omega) (by show μ1.1 62 b = _; rw [ho.1 62 (by decide)]; exact hkp b (by omega)) ?_
      refine r_iast (pc := 203) dX7_walkers_203 rfl rfl (by omega) ?_
      refine rn_iinc (pc := 204) (b := 1) (ls' := [(0, .ref 40), (1, .int (wv)), (2, .int (cv)), (3, .int (av)), (4, .int (nI (b + 1)))]) dX7_walkers_204 rfl (by decide) (Nat.le_of_ble_eq_true rfl) rfl ?_
      refine r_goto (pc := 207) (tgt := 181) dX7_walkers_207 (by decide) ?_
      exact ih (k - 1) (by omega) (b + 1) _ (by omega) (by have := Ms_g (b := b) (v := σ 4 b) hM1; rwa [mixG_s] at this) ho.s

set_option maxRecDepth 20000 in
set_option maxHeartbeats 4000000 in
theorem m_wk_u {μ : Mem} {σ : Sg} {g : Nat → Nat} {r : List Nat} {c : Nat} {wv : Int32} {Q : Option Value → Mem → Prop} (hO : Ok σ) (hg : okG σ g) (hr : okP σ r) (hrg : ∀ i, σ 0 0 ≤ i → g i = wear (σ 0 3) r g i) (K : ∀ μ2, Ms μ2 (sg σ (wear (σ 0 3) r g)) → only 44 μ μ2 → WP cX7_walkers (RX7, 6, (some .int), 3, none) 152 [(0, .ref 40), (1, .int (wv)), (2, .int (nI c))] [] μ2 Q) : ∀ (k : Nat) (b : Nat) (μ1 : Mem), b + k = σ 0 0 → Ms μ1 (sg σ (mixG (wear (σ 0 3) r g) g b)) → only 44 μ μ1 → WP cX7_walkers (RX7, 6, (some .int), 3, none) 70 [(0, .ref 40), (1, .int (wv)), (2, .int (nI c)), (3, .int (nI (bitsP r))), (4, .int (nI b))] [] μ1 Q := by
  intro k
  induction k using Nat.strongRecOn with
  | _ k ih =>
    intro b μ1 hb hM1 ho
    have hn := Ok_n hO
    refine r_iload (pc := 70) dX7_walkers_70 rfl ?_
    refine r_aload_n (pc := 72) dX7_walkers_72 rfl ?_
    refine r_getI (pc := 73) (x := (nI (σ 0 0))) dX7_walkers_73 fX7_81 rfl rfl (Ms_n (μ := μ1) (σ := sg σ _) hM1) ?_
    refine rn_icmp_ge (pc := 76) (tgt := 152) dX7_walkers_76 (by decide) (by omega) (by omega) (fun c76 => ?_) (fun c76 => ?_)
    · obtain rfl : b = σ 0 0 := by omega
      rw [mixG_all hrg] at hM1
      refine r_pick (ls' := [(0, .ref 40), (1, .int wv), (2, .int (nI c))]) [0, 1, 2] rfl ?_
      exact K μ1 hM1 ho
    · have hg99 := hg.1 b (by omega)
      have hg1 := hg.2 b (by omega)
      have hbl := bitsP_lt (k := 12) (p := r) (fun x hx => Nat.lt_of_lt_of_le (hr x hx) hO.1)
      refine r_aload_n (pc := 79) dX7_walkers_79 rfl ?_
      refine r_getR (pc := 80) (r := 44) dX7_walkers_80 fX7_19 rfl rfl ?_
      refine r_iload (pc := 83) dX7_walkers_83 rfl ?_
      refine r_iald (pc := 85) (x := (nI (g b))) dX7_walkers_85 rfl rfl (by omega) (by have := Ms_4 (μ := μ1) hM1 (j := b) (by omega); rw [show (sg σ (mixG (wear (σ 0 3) r g) g b)) 4 b = g b by simp [sg, mixG]] at this; exact this) ?_
      refine r_aload_n (pc := 86) dX7_walkers_86 rfl ?_
      refine r_getR (pc := 87) (r := 48) dX7_walkers_87 fX7_31 rfl rfl ?_
      refine r_iconst (pc := 90) (v := (nI (2))) dX7_walkers_90 (by decide) ?_
      refine r_iald (pc := 91) (x := (nI (σ 0 3))) dX7_walkers_91 rfl rfl (by omega) (Ms_drop (μ := μ1) (σ := sg σ _) hM1) ?_
      refine r_isub (pc := 92) dX7_walkers_92 ?_
      refine r_iconst (pc := 93) (v := (nI (1))) dX7_walkers_93 (by decide) ?_
      refine r_icmp_ge (pc := 94) (tgt := 101) dX7_walkers_94 (by decide) (fun c94 => ?_) (fun c94 => ?_)
      · refine r_aload_n (pc := 101) dX7_walkers_101 rfl ?_
        refine r_getR (pc := 102) (r := 44) dX7_walkers_102 fX7_19 rfl rfl ?_
        refine r_iload (pc := 105) dX7_walkers_105 rfl ?_
        refine r_iald (pc := 107) (x := (nI (g b))) dX7_walkers_107 rfl rfl (by omega) (by have := Ms_4 (μ := μ1) hM1 (j := b) (by omega); rw [show (sg σ (mixG (wear (σ 0 3) r g) g b)) 4 b = g b by simp [sg, mixG]] at this; exact this) ?_
        refine r_aload_n (pc := 108) dX7_walkers_108 rfl ?_
        refine r_getR (pc := 109) (r := 48) dX7_walkers_109 fX7_31 rfl rfl ?_
        refine r_iconst (pc := 112) (v := (nI (2))) dX7_walkers_112 (by decide) ?_
        refine r_iald (pc := 113) (x := (nI (σ 0 3))) dX7_walkers_113 rfl rfl (by omega) (Ms_drop (μ := μ1) (σ := sg σ _) hM1) ?_
        refine r_isub (pc := 114) dX7_walkers_114 ?_
        rw [show (nI 1 : Int32) ≤ nI (g b) - nI (σ 0 3) ↔ σ 0 3 < g b from ups_le (by omega) (by omega)] at c94
        refine r_eqi (y := nI (if g b - σ 0 3 < 1 then 1 else g b - σ 0 3)) (by rw [if_neg (by omega), nI_sub (by omega)]) ?_
        refine r_istore (pc := 115) (ls' := [(0, .ref 40), (1, .int (wv)), (2, .int (nI c)), (3, .int (nI (bitsP r))), (4, .int (nI b)), (5, .int (nI (if g b - σ 0 3 < 1 then 1 else g b - σ 0 3)))]) dX7_walkers_115 (Nat.le_of_ble_eq_true rfl) rfl ?_
        refine r_aload_n (pc := 117) dX7_walkers_117 rfl ?_
        refine r_getR (pc := 118) (r := 44) dX7_walkers_118 fX7_19 rfl rfl ?_
        refine r_iload (pc := 121) dX7_walkers_121 rfl ?_
        refine r_iload_n (pc := 123) dX7_walkers_123 rfl ?_
        refine r_iload (pc := 124) dX7_walkers_124 rfl ?_
        refine r_ishr (pc := 126) dX7_walkers_126 ?_
        refine r_eqi (shrN (by omega) (by omega)) ?_
        refine r_iconst (pc := 127) (v := (nI (1))) dX7_walkers_127 (by decide) ?_
        refine r_iand (pc := 128) dX7_walkers_128 ?_
        refine r_eqi (and1 (Nat.lt_of_le_of_lt (Nat.div_le_self _ _) (by omega))) ?_
        refine r_iconst (pc := 129) (v := (nI (1))) dX7_walkers_129 (by decide) ?_
        refine rn_icmp_ne (pc := 130) (tgt := 138) dX7_walkers_130 (by decide) (by omega) (by omega) (fun c130 => ?_) (fun c130 => ?_)
        · refine r_aload_n (pc := 138) dX7_walkers_138 rfl ?_
          refine r_getR (pc := 139) (r := 44) dX7_walkers_139 fX7_19 rfl rfl ?_
          refine r_iload (pc := 142) dX7_walkers_142 rfl ?_
          refine r_iald (pc := 144) (x := (nI (g b))) dX7_walkers_144 rfl rfl (by omega) (by have := Ms_4 (μ := μ1) hM1 (j := b) (by omega); rw [show (sg σ (mixG (wear (σ 0 3) r g) g b)) 4 b = g b by simp [sg, mixG]] at this; exact this) ?_
          refine r_iast (pc := 145) dX7_walkers_145 rfl rfl (by omega) ?_
          refine rn_iinc (pc := 146) (b := 1) (ls' := [(0, .ref 40), (1, .int (wv)), (2, .int (nI c)), (3, .int (nI (bitsP r))), (4, .int (nI (b + 1))), (5, .int (nI (if g b - σ 0 3 < 1 then 1 else g b - σ 0 3)))]) dX7_walkers_146 rfl (by decide) (Nat.le_of_ble_eq_true rfl) rfl ?_
          refine r_goto (pc := 149) (tgt := 70) dX7_walkers_149 (by decide) ?_
          have hw : g b = wear (σ 0 3) r g b := by unfold wear; rw [if_neg (fun q => c130 (tb_iff.mpr ((bitsP_mem r b).mpr q)))]
          refine r_pick (ls' := [(0, .ref 40), (1, .int (wv)), (2, .int (nI c)), (3, .int (nI (bitsP r))), (4, .int (nI (b + 1)))]) [0, 1, 2, 3, 4] rfl ?_
          exact ih (k - 1) (by omega) (b + 1) _ (by omega) (by have := Ms_g (b := b) (v := (g b)) hM1; rw [hw, mixG_s] at this; rw [hw]; exact this) ho.s
        · refine r_iload (pc := 133) dX7_walkers_133 rfl ?_
          refine r_goto (pc := 135) (tgt := 145) dX7_walkers_135 (by decide) ?_
          refine r_iast (pc := 145) dX7_walkers_145 rfl rfl (by omega) ?_
          refine rn_iinc (pc := 146) (b := 1) (ls' := [(0, .ref 40), (1, .int (wv)), (2, .int (nI c)), (3, .int (nI (bitsP r))), (4, .int (nI (b + 1))), (5, .int (nI (if g b - σ 0 3 < 1 then 1 else g b - σ 0 3)))]) dX7_walkers_146 rfl (by decide) (Nat.le_of_ble_eq_true rfl) rfl ?_
          refine r_goto (pc := 149) (tgt := 70) dX7_walkers_149 (by decide) ?_
          have hw : (if g b - σ 0 3 < 1 then 1 else g b - σ 0 3) = wear (σ 0 3) r g b := by unfold wear; rw [if_pos ((bitsP_mem r b).mp (tb_iff.mp c130))]
          refine r_pick (ls' := [(0, .ref 40), (1, .int (wv)), (2, .int (nI c)), (3, .int (nI (bitsP r))), (4, .int (nI (b + 1)))]) [0, 1, 2, 3, 4] rfl ?_
          exact ih (k - 1) (by omega) (b + 1) _ (by omega) (by have := Ms_g (b := b) (v := (if g b - σ 0 3 < 1 then 1 else g b - σ 0 3)) hM1; rw [hw, mixG_s] at this; rw [hw]; exact this) ho.s
      · refine r_iconst (pc := 97) (v := (nI (1))) dX7_walkers_97 (by decide) ?_
        refine r_goto (pc := 98) (tgt := 115) dX7_walkers_98 (by decide) ?_
        rw [show (nI 1 : Int32) ≤ nI (g b) - nI (σ 0 3) ↔ σ 0 3 < g b from ups_le (by omega) (by omega)] at c94
        refine r_eqi (y := nI (if g b - σ 0 3 < 1 then 1 else g b - σ 0 3)) (by rw [if_pos (by omega)]) ?_
        refine r_istore (pc := 115) (ls' := [(0, .ref 40), (1, .int (wv)), (2, .int (nI c)), (3, .int (nI (bitsP r))), (4, .int (nI b)), (5, .int (nI (if g b - σ 0 3 < 1 then 1 else g b - σ 0 3)))]) dX7_walkers_115 (Nat.le_of_ble_eq_true rfl) rfl ?_
        refine r_aload_n (pc := 117) dX7_walkers_117 rfl ?_
        refine r_getR (pc := 118) (r := 44) dX7_walkers_118 fX7_19 rfl rfl ?_
        refine r_iload (pc := 121) dX7_walkers_121 rfl ?_
        refine r_iload_n (pc := 123) dX7_walkers_123 rfl ?_
        refine r_iload (pc := 124) dX7_walkers_124 rfl ?_
        refine r_ishr (pc := 126) dX7_walkers_126 ?_
        refine r_eqi (shrN (by omega) (by omega)) ?_
        refine r_iconst (pc := 127) (v := (nI (1))) dX7_walkers_127 (by decide) ?_
        refine r_iand (pc := 128) dX7_walkers_128 ?_
        refine r_eqi (and1 (Nat.lt_of_le_of_lt (Nat.div_le_self _ _) (by omega))) ?_
        refine r_iconst (pc := 129) (v := (nI (1))) dX7_walkers_129 (by decide) ?_
        refine rn_icmp_ne (pc := 130) (tgt := 138) dX7_walkers_130 (by decide) (by omega) (by omega) (fun c130 => ?_) (fun c130 => ?_)
        · refine r_aload_n (pc := 138) dX7_walkers_138 rfl ?_
          refine r_getR (pc := 139) (r := 44) dX7_walkers_139 fX7_19 rfl rfl ?_
          refine r_iload (pc := 142) dX7_walkers_142 rfl ?_
          refine r_iald (pc := 144) (x := (nI (g b))) dX7_walkers_144 rfl rfl (by omega) (by have := Ms_4 (μ := μ1) hM1 (j := b) (by omega); rw [show (sg σ (mixG (wear (σ 0 3) r g) g b)) 4 b = g b by simp [sg, mixG]] at this; exact this) ?_
          refine r_iast (pc := 145) dX7_walkers_145 rfl rfl (by omega) ?_
          refine rn_iinc (pc := 146) (b := 1) (ls' := [(0, .ref 40), (1, .int (wv)), (2, .int (nI c)), (3, .int (nI (bitsP r))), (4, .int (nI (b + 1))), (5, .int (nI (if g b - σ 0 3 < 1 then 1 else g b - σ 0 3)))]) dX7_walkers_146 rfl (by decide) (Nat.le_of_ble_eq_true rfl) rfl ?_
          refine r_goto (pc := 149) (tgt := 70) dX7_walkers_149 (by decide) ?_
          have hw : g b = wear (σ 0 3) r g b := by unfold wear; rw [if_neg (fun q => c130 (tb_iff.mpr ((bitsP_mem r b).mpr q)))]
          refine r_pick (ls' := [(0, .ref 40), (1, .int (wv)), (2, .int (nI c)), (3, .int (nI (bitsP r))), (4, .int (nI (b + 1)))]) [0, 1, 2, 3, 4] rfl ?_
          exact ih (k - 1) (by omega) (b + 1) _ (by omega) (by have := Ms_g (b := b) (v := (g b)) hM1; rw [hw, mixG_s] at this; rw [hw]; exact this) ho.s
        · refine r_iload (pc := 133) dX7_walkers_133 rfl ?_
          refine r_goto (pc := 135) (tgt := 145) dX7_walkers_135 (by decide) ?_
          refine r_iast (pc := 145) dX7_walkers_145 rfl rfl (by omega) ?_
          refine rn_iinc (pc := 146) (b := 1) (ls' := [(0, .ref 40), (1, .int (wv)), (2, .int (nI c)), (3, .int (nI (bitsP r))), (4, .int (nI (b + 1))), (5, .int (nI (if g b - σ 0 3 < 1 then 1 else g b - σ 0 3)))]) dX7_walkers_146 rfl (by decide) (Nat.le_of_ble_eq_true rfl) rfl ?_
          refine r_goto (pc := 149) (tgt := 70) dX7_walkers_149 (by decide) ?_
          have hw : (if g b - σ 0 3 < 1 then 1 else g b - σ 0 3) = wear (σ 0 3) r g b := by unfold wear; rw [if_pos ((bitsP_mem r b).mp (tb_iff.mp c130))]
          refine r_pick (ls' := [(0, .ref 40), (1, .int (wv)), (2, .int (nI c)), (3, .int (nI (bitsP r))), (4, .int (nI (b + 1)))]) [0, 1, 2, 3, 4] rfl ?_
          exact ih (k - 1) (by omega) (b + 1) _ (by omega) (by have := Ms_g (b := b) (v := (if g b - σ 0 3 < 1 then 1 else g b - σ 0 3)) hM1; rw [hw, mixG_s] at this; rw [hw]; exact this) ho.s

set_option maxRecDepth 20000 in
set_option maxHeartbeats 4000000 in
theorem m_wk_w {μ : Mem} {σ : Sg} {wv : Int32} {Q : Option Value → Mem → Prop} (hO : Ok σ) (hw : wv = -1 ∨ ∃ wj, wj < σ 0 0 ∧ wv = nI wj) (h : ∀ μ', Ms μ' σ → keepX μ μ' → Q (some (.int (sp_walkers σ wv))) μ') : ∀ (k : Nat) (c : Nat) (g : Nat → Nat) (μ1 : Mem), sumG g (σ 0 0) ≤ k → okG σ g → (∀ i, σ 0 0 ≤ i → g i = σ 4 i) → Ms μ1 (sg σ g) → GA μ1 (sg σ g) (rnds (sg σ g)) → keepX μ μ1 → (∀ j, j < σ 0 0 → μ1.1 62 j = nI (σ 4 j)) → (c + (walkN σ (σ 0 1) (σ 0 3) k g).1 = (wkr σ).1 ∧ (walkN σ (σ 0 1) (σ 0 3) k g).2 = (wkr σ).2) → WP cX7_walkers (RX7, 6, (some .int), 3, none) 50 [(0, .ref 40), (1, .int (wv)), (2, .int (nI c))] [] μ1 Q := by
  intro k
  induction k using Nat.strongRecOn with
  | _ k ih =>
    intro c g μ1 hsum hg hge hM1 hG1 hk1 hkp hc
    have hn := Ok_n hO
    have hO1 := Ok_sg hO hg
    have hGl := Gs_len hO1
    refine r_aload_n (pc := 50) dX7_walkers_50 rfl ?_
    refine r_getI (pc := 51) (x := (nI ((Gs (sg σ g)).length))) dX7_walkers_51 fX7_117 rfl rfl hG1.2.1 ?_
    refine rn_if_le (pc := 54) (tgt := 163) dX7_walkers_54 (by decide) (by omega) (fun c54 => ?_) (fun c54 => ?_)
    · refine r_iload_n (pc := 163) dX7_walkers_163 rfl ?_
      refine r_if_ge (pc := 164) (tgt := 171) dX7_walkers_164 (by decide) (fun c164 => ?_) (fun c164 => ?_)
      · obtain ⟨wj, hwj, rfl⟩ : ∃ wj, wj < σ 0 0 ∧ wv = nI wj := by
          rcases hw with hw | hw
          · rw [hw] at c164; exact absurd c164 (by decide)
          · exact hw
        refine r_aload_n (pc := 171) dX7_walkers_171 rfl ?_
        refine r_getR (pc := 172) (r := 44) dX7_walkers_172 fX7_19 rfl rfl ?_
        refine r_iload_n (pc := 175) dX7_walkers_175 rfl ?_
        refine r_iald (pc := 176) (x := (nI (g wj))) dX7_walkers_176 rfl rfl (by omega) (Ms_4 (μ := μ1) (σ := sg σ _) hM1 (j := wj) (by omega)) ?_
        refine r_istore_n (pc := 177) (ls' := [(0, .ref 40), (1, .int (nI wj)), (2, .int (nI c)), (3, .int (nI (g wj)))]) dX7_walkers_177 (Nat.le_of_ble_eq_true rfl) rfl ?_
        refine r_iconst (pc := 178) (v := (nI (0))) dX7_walkers_178 (by decide) ?_
        refine r_istore (pc := 179) (ls' := [(0, .ref 40), (1, .int (nI wj)), (2, .int (nI c)), (3, .int (nI (g wj))), (4, .int (nI 0))]) dX7_walkers_179 (Nat.le_of_ble_eq_true rfl) rfl ?_
        have hnone : mostG σ g (σ 0 1) = none := mostG_none.mpr (by rw [← Gs_sg]; exact c54)
        rw [walkN_none hnone] at hc
        have e9 : sp_walkers σ (nI wj) = nI (g wj) := by
          unfold sp_walkers
          rw [if_neg (fun q => absurd (by rw [q]; decide) (nI_pos (n := wj) (by omega))), if_neg (by rw [isB_nat (by omega)]; simp; omega), bN_nI (by omega), ← hc.2]
        rw [e9] at h
        exact m_wk_r hO hge hkp (fun μ' a b => h μ' a (keepX.tr hk1 b)) (σ 0 0) 0 μ1 (by omega) (by rw [mixG_0]; exact hM1) only.rf
      · obtain rfl : wv = -1 := by
          rcases hw with hw | ⟨wj, h1, h2⟩
          · exact hw
          · rw [h2] at c164; exact absurd (nI_pos' (by omega)) c164
        refine r_iload_n (pc := 167) dX7_walkers_167 rfl ?_
        refine r_goto (pc := 168) (tgt := 177) dX7_walkers_168 (by decide) ?_
        refine r_istore_n (pc := 177) (ls' := [(0, .ref 40), (1, .int ((-1))), (2, .int (nI c)), (3, .int (nI c))]) dX7_walkers_177 (Nat.le_of_ble_eq_true rfl) rfl ?_
        refine r_iconst (pc := 178) (v := (nI (0))) dX7_walkers_178 (by decide) ?_
        refine r_istore (pc := 179) (ls' := [(0, .ref 40), (1, .int ((-1))), (2, .int (nI c)), (3, .int (nI c)), (4, .int (nI 0))]) dX7_walkers_179 (Nat.le_of_ble_eq_true rfl) rfl ?_
        have hnone : mostG σ g (σ 0 1) = none := mostG_none.mpr (by rw [← Gs_sg]; exact c54)
        rw [walkN_none hnone] at hc
        have e9 : sp_walkers σ (-1) = nI c := by
          unfold sp_walkers
          rw [if_pos rfl, ← hc.1]
          rfl
        rw [e9] at h
        exact m_wk_r hO hge hkp (fun μ' a b => h μ' a (keepX.tr hk1 b)) (σ 0 0) 0 μ1 (by omega) (by rw [mixG_0]; exact hM1) only.rf
    · refine r_aload_n (pc := 57) dX7_walkers_57 rfl ?_
      refine r_getR (pc := 58) (r := 52) dX7_walkers_58 fX7_43 rfl rfl ?_
      refine r_aload_n (pc := 61) dX7_walkers_61 rfl ?_
      refine r_callV (pc := 62) (d' := 1) (k := 40) (As := []) (rest := [.ref 52]) dX7_walkers_62 vX7_mostOf mX7_139 rfl rfl rfl (Nat.le_of_ble_eq_true rfl) (Nat.le_of_ble_eq_true rfl) ?_
      refine m_most hO1 hG1 ?_
      obtain ⟨j, hj⟩ : ∃ j, mi (gU (sg σ g)) (gL (sg σ g)) (Gs (sg σ g)).length = some j := by
        obtain ⟨m, hm⟩ : ∃ m, (Gs (sg σ g)).length = m + 1 := ⟨_, (Nat.succ_pred_eq_of_pos c54).symm⟩
        rw [hm]
        exact mi_some
      rw [hj]
      have hjl := mi_lt hj
      refine r_iald (pc := 65) (x := (nI (gB (sg σ g) j))) dX7_walkers_65 rfl rfl (by omega) (GA_i hG1 (mi_lt hj)).2.1 ?_
      have hgb := gi_b hO1 (mi_lt hj)
      refine r_istore_n (pc := 66) (ls' := [(0, .ref 40), (1, .int (wv)), (2, .int (nI c)), (3, .int (nI (gB (sg σ g) j)))]) dX7_walkers_66 (Nat.le_of_ble_eq_true rfl) rfl ?_
      refine r_iconst (pc := 67) (v := (nI (0))) dX7_walkers_67 (by decide) ?_
      refine r_istore (pc := 68) (ls' := [(0, .ref 40), (1, .int (wv)), (2, .int (nI c)), (3, .int (nI (gB (sg σ g) j))), (4, .int (nI 0))]) dX7_walkers_68 (Nat.le_of_ble_eq_true rfl) rfl ?_
      have hmost : mostG σ g (σ 0 1) = some (gi (sg σ g) j) := by
        unfold mostG
        rw [← Gs_sg]
        show Option.map _ (mi (gU (sg σ g)) (gL (sg σ g)) (Gs (sg σ g)).length) = _
        rw [hj]
        rfl
      obtain ⟨ws1, ws2⟩ := wear_sum hO hg hmost
      have hmem := (rnds_mem (mostG_mem hmost).1).2.1
      obtain ⟨k1, rfl⟩ : ∃ k1, k = k1 + 1 := ⟨k - 1, by omega⟩
      unfold walkN at hc
      rw [hmost] at hc
      dsimp only at hc
      refine m_wk_u (r := gi (sg σ g) j) hO hg hmem (fun i hi => by unfold wear; rw [if_neg (fun q => absurd (hmem i q) (by omega))]) (fun μ2 hM2 ho2 => ?_) (σ 0 0) 0 μ1 (by omega) (by rw [mixG_0]; exact hM1) only.rf
      refine rn_iinc (pc := 152) (b := 1) (ls' := [(0, .ref 40), (1, .int (wv)), (2, .int (nI (c + 1)))]) dX7_walkers_152 rfl (by decide) (Nat.le_of_ble_eq_true rfl) rfl ?_
      refine r_aload_n (pc := 155) dX7_walkers_155 rfl ?_
      refine r_iconst (pc := 156) (v := (nI (0))) dX7_walkers_156 (by decide) ?_
      refine r_callV (pc := 157) (d' := 2) (k := 40) (As := [.int (nI 0)]) (rest := []) dX7_walkers_157 vX7_layRounds mX7_124 rfl rfl rfl (Nat.le_of_ble_eq_true rfl) (Nat.le_of_ble_eq_true rfl) ?_
      have hO2 := Ok_sg hO ws2
      refine m_lay (μ := μ2) hM2 hO2 (fun μ3 hG3 hf3 => ?_)
      refine r_goto (pc := 160) (tgt := 50) dX7_walkers_160 (by decide) ?_
      refine ih k1 (by omega) (c + 1) _ μ3 (by omega) ws2 (fun i hi => ?_) (hf3.Ms hM2) hG3 (keepX.tr hk1 (keepX.tr (ho2.keep (by decide)) hf3.keep)) (fun j hj => ?_) ?_
      · unfold wear; rw [if_neg (fun q => absurd (hmem i q) (by omega))]; exact hge i hi
      · rw [(hf3.1 62 (by decide) (by decide)).1, ho2.1 62 (by decide)]; exact hkp j hj
      · exact ⟨by have := hc.1; show c + 1 + _ = _; omega, hc.2⟩

set_option maxRecDepth 20000 in
set_option maxHeartbeats 4000000 in
theorem m_wk_k {μ : Mem} {σ : Sg} {wv : Int32} {Q : Option Value → Mem → Prop} (hM : Ms μ σ) (hO : Ok σ) (hw : wv = -1 ∨ ∃ wj, wj < σ 0 0 ∧ wv = nI wj) (h : ∀ μ', Ms μ' σ → keepX μ μ' → Q (some (.int (sp_walkers σ wv))) μ') : ∀ (k : Nat) (b : Nat) (μ1 : Mem), b + k = σ 0 0 → only 62 μ μ1 → (∀ j, j < b → μ1.1 62 j = nI (σ 4 j)) → WP cX7_walkers (RX7, 6, (some .int), 3, none) 17 [(0, .ref 40), (1, .int (wv)), (2, .int (nI b))] [] μ1 Q := by
  intro k
  induction k using Nat.strongRecOn with
  | _ k ih =>
    intro b μ1 hb ho hkp
    have hn := Ok_n hO
    refine r_iload_n (pc := 17) dX7_walkers_17 rfl ?_
    refine r_aload_n (pc := 18) dX7_walkers_18 rfl ?_
    refine r_getI (pc := 19) (x := (nI (σ 0 0))) dX7_walkers_19 fX7_81 rfl rfl (by show μ1.1 40 0 = _; rw [ho.1 40 (by decide)]; exact Ms_n hM) ?_
    refine rn_icmp_ge (pc := 22) (tgt := 43) dX7_walkers_22 (by decide) (by omega) (by omega) (fun c22 => ?_) (fun c22 => ?_)
    · obtain rfl : b = σ 0 0 := by omega
      have hM1 := Ms_62 ho hM
      refine r_iconst (pc := 43) (v := (nI (0))) dX7_walkers_43 (by decide) ?_
      refine r_istore_n (pc := 44) (ls' := [(0, .ref 40), (1, .int (wv)), (2, .int (nI 0))]) dX7_walkers_44 (Nat.le_of_ble_eq_true rfl) rfl ?_
      refine r_aload_n (pc := 45) dX7_walkers_45 rfl ?_
      refine r_iconst (pc := 46) (v := (nI (0))) dX7_walkers_46 (by decide) ?_
      refine r_callV (pc := 47) (d' := 2) (k := 40) (As := [.int (nI 0)]) (rest := []) dX7_walkers_47 vX7_layRounds mX7_124 rfl rfl rfl (Nat.le_of_ble_eq_true rfl) (Nat.le_of_ble_eq_true rfl) ?_
      refine m_lay (μ := μ1) hM1 hO (fun μ3 hG3 hf3 => ?_)
      refine m_wk_w hO hw h 1176 0 (σ 4) μ3 (start_sum hO) (okG_σ hO) (fun _ _ => rfl) (by rw [sg_id]; exact hf3.Ms hM1) (by rw [sg_id]; exact hG3) (keepX.tr (ho.keep (by decide)) hf3.keep) (fun j hj => ?_) ⟨by show 0 + _ = _; rw [Nat.zero_add]; rfl, rfl⟩
      rw [(hf3.1 62 (by decide) (by decide)).1]
      exact hkp j hj
    · refine r_aload_n (pc := 25) dX7_walkers_25 rfl ?_
      refine r_getR (pc := 26) (r := 62) dX7_walkers_26 fX7_74 rfl rfl ?_
      refine r_iload_n (pc := 29) dX7_walkers_29 rfl ?_
      refine r_aload_n (pc := 30) dX7_walkers_30 rfl ?_
      refine r_getR (pc := 31) (r := 44) dX7_walkers_31 fX7_19 rfl rfl ?_
      refine r_iload_n (pc := 34) dX7_walkers_34 rfl ?_
      refine r_iald (pc := 35) (x := (nI (σ 4 b))) dX7_walkers_35 rfl rfl (by omega) (by show μ1.1 44 b = _; rw [ho.1 44 (by decide)]; exact Ms_4 hM (by omega)) ?_
      refine r_iast (pc := 36) dX7_walkers_36 rfl rfl (by omega) ?_
      refine rn_iinc (pc := 37) (b := 1) (ls' := [(0, .ref 40), (1, .int (wv)), (2, .int (nI (b + 1)))]) dX7_walkers_37 rfl (by decide) (Nat.le_of_ble_eq_true rfl) rfl ?_
      refine r_goto (pc := 40) (tgt := 17) dX7_walkers_40 (by decide) ?_
      refine ih (k - 1) (by omega) (b + 1) _ (by omega) ho.s (fun j hj => ?_)
      show upd (μ1.1 62) b (nI (σ 4 b)) j = _
      rw [upd_at]
      by_cases e : j = b
      · rw [if_pos e, e]
      · rw [if_neg e]; exact hkp j (by omega)

set_option maxRecDepth 20000 in
set_option maxHeartbeats 4000000 in
theorem m_walkers {μ : Mem} {σ : Sg} {w : Int32} {Q : Option Value → Mem → Prop} (hM : Ms μ σ) (hO : Ok σ) (h : ∀ μ', Ms μ' σ → keepX μ μ' → Q (some (.int (sp_walkers σ w))) μ') : Sp iX7_walkers 3 [.ref 40, .int (w)] μ Q := by
  refine Sp.of vX7_walkers.1 (Nat.le_of_ble_eq_true rfl) ?_
  show WP cX7_walkers (RX7, 6, (some .int), 3, none) 0 [(0, .ref 40), (1, .int (w))] [] μ Q
  have hn := Ok_n hO
  refine r_iload_n (pc := 0) dX7_walkers_0 rfl ?_
  refine r_iconst (pc := 1) (v := (-1)) dX7_walkers_1 (by decide) ?_
  refine r_icmp_eq (pc := 2) (tgt := 15) dX7_walkers_2 (by decide) (fun c2 => ?_) (fun c2 => ?_)
  · refine r_iconst (pc := 15) (v := (nI (0))) dX7_walkers_15 (by decide) ?_
    refine r_istore_n (pc := 16) (ls' := [(0, .ref 40), (1, .int (w)), (2, .int (nI 0))]) dX7_walkers_16 (Nat.le_of_ble_eq_true rfl) rfl ?_
    exact m_wk_k hM hO (Or.inl c2) h (σ 0 0) 0 μ (by omega) only.rf (fun j hj => absurd hj (Nat.not_lt_zero j))
  · refine r_aload_n (pc := 5) dX7_walkers_5 rfl ?_
    refine r_iload_n (pc := 6) dX7_walkers_6 rfl ?_
    refine r_callV (pc := 7) (d' := 1) (k := 40) (As := [.int (w)]) (rest := []) dX7_walkers_7 vX7_isBoard mX7_94 rfl rfl rfl (Nat.le_of_ble_eq_true rfl) (Nat.le_of_ble_eq_true rfl) ?_
    refine c_mboard hM hO ?_
    refine rb_if_ne (pc := 10) (tgt := 15) dX7_walkers_10 (by decide) (fun c10 => ?_) (fun c10 => ?_)
    · refine r_iconst (pc := 15) (v := (nI (0))) dX7_walkers_15 (by decide) ?_
      refine r_istore_n (pc := 16) (ls' := [(0, .ref 40), (1, .int (w)), (2, .int (nI 0))]) dX7_walkers_16 (Nat.le_of_ble_eq_true rfl) rfl ?_
      exact m_wk_k hM hO (Or.inr (by obtain ⟨j, hj, e, -⟩ := isB_t c10; exact ⟨j, hj, e⟩)) h (σ 0 0) 0 μ (by omega) only.rf (fun j hj => absurd hj (Nat.not_lt_zero j))
    · refine r_iconst (pc := 13) (v := (-1)) dX7_walkers_13 (by decide) ?_
      refine r_ireturn (pc := 14) dX7_walkers_14 rfl (Or.inl rfl) rfl ?_
      have e9 : sp_walkers σ w = -1 := by simp [sp_walkers, c2, c10]
      rw [e9] at h
      exact h _ hM keepX.rf
