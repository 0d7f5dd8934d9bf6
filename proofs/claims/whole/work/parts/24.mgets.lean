/-! THE MODEL'S layGets: all ways from a coin to another one, the best of them -/
def gdfs (σ : Sg) (e : Nat) : Nat → Nat → Nat → List Nat → List (List Nat)
  | 0, _, _, _ => []
  | f + 1, c, seen, path => (List.range (σ 0 0)).flatMap (fun b => if (σ 1 b = c ∧ opn σ b = true) ∧ seen.testBit (σ 3 b) = false then (if σ 3 b = e then [path ++ [b]] else gdfs σ e f (σ 3 b) (seen ||| 2 ^ σ 3 b) (path ++ [b])) else [])
def Gb (σ : Sg) (e f c seen : Nat) (p : List Nat) (b : Nat) : List (List Nat) := if (σ 1 b = c ∧ opn σ b = true) ∧ seen.testBit (σ 3 b) = false then (if σ 3 b = e then [p ++ [b]] else gdfs σ e f (σ 3 b) (seen ||| 2 ^ σ 3 b) (p ++ [b])) else []
def gc (σ : Sg) (e f c seen : Nat) (p : List Nat) : Nat → List (List Nat)
  | 0 => []
  | k + 1 => Gb σ e f c seen p (σ 0 0 - (k + 1)) ++ gc σ e f c seen p k
theorem gc_drop (σ : Sg) (e f c seen : Nat) (p : List Nat) : ∀ k, k ≤ σ 0 0 → ((List.range (σ 0 0)).drop (σ 0 0 - k)).flatMap (Gb σ e f c seen p) = gc σ e f c seen p k
  | 0, _ => by
    rw [List.drop_of_length_le (by simp)]
    rfl
  | k + 1, h => by
    have e9 : (List.range (σ 0 0)).drop (σ 0 0 - (k + 1)) = (σ 0 0 - (k + 1)) :: (List.range (σ 0 0)).drop (σ 0 0 - k) := by
      rw [List.drop_eq_getElem_cons (by simp; omega)]
      rw [List.getElem_range, show σ 0 0 - (k + 1) + 1 = σ 0 0 - k by omega]
    rw [e9, List.flatMap_cons, gc_drop σ e f c seen p k (by omega)]
    rfl
theorem gdfs_gc (σ : Sg) (e f c seen : Nat) (p : List Nat) : gdfs σ e (f + 1) c seen p = gc σ e f c seen p (σ 0 0) := by
  rw [← gc_drop σ e f c seen p (σ 0 0) (Nat.le_refl _), Nat.sub_self, List.drop_zero]
  rfl
theorem gc_s (σ : Sg) (e f c seen : Nat) (p : List Nat) {k b : Nat} (h : b + (k + 1) = σ 0 0) : gc σ e f c seen p (k + 1) = Gb σ e f c seen p b ++ gc σ e f c seen p k := by
  show Gb σ e f c seen p (σ 0 0 - (k + 1)) ++ _ = _
  rw [show σ 0 0 - (k + 1) = b by omega]
/-- the best of ways, by what they get -/
def bst1 (σ : Sg) (x : Nat × Nat) (r : List Nat) : Nat × Nat := if above (pUp (σ 4) (σ 0 1) r) (pLow σ r) x.1 x.2 = true then (pUp (σ 4) (σ 0 1) r, pLow σ r) else x
def bst (σ : Sg) (acc : List (List Nat)) : Nat × Nat := acc.foldl (bst1 σ) (0, 1)
theorem bst_snoc (σ : Sg) (acc : List (List Nat)) (r : List Nat) : bst σ (acc ++ [r]) = bst1 σ (bst σ acc) r := by
  unfold bst
  rw [List.foldl_append]
  rfl
theorem bst_ok {σ : Sg} (hO : Ok σ) : ∀ (acc : List (List Nat)) (x : Nat × Nat), (∀ q ∈ acc, okP σ q ∧ q.length ≤ 8) → (x.1 < 2 ^ 63 ∧ 1 ≤ x.2 ∧ x.2 < 2 ^ 63) → ((acc.foldl (bst1 σ) x).1 < 2 ^ 63 ∧ 1 ≤ (acc.foldl (bst1 σ) x).2 ∧ (acc.foldl (bst1 σ) x).2 < 2 ^ 63)
  | [], x, _, hx => hx
  | r :: acc, x, h, hx => by
    rw [List.foldl_cons]
    refine bst_ok hO acc _ (fun q hq => h q (List.mem_cons_of_mem _ hq)) ?_
    unfold bst1
    have hr := h r List.mem_cons_self
    split
    · exact ⟨okP_up hO hr.1 hr.2, pLow_pos hO hr.1, okP_low hO hr.1 hr.2⟩
    · exact hx
def frG (μ μ' : Mem) : Prop := (∀ k, ¬ k = 40 → ¬ (56 ≤ k ∧ k ≤ 58) → μ'.1 k = μ.1 k ∧ μ'.2 k = μ.2 k) ∧ μ'.1 40 = μ.1 40
theorem frG.rf {μ : Mem} : frG μ μ := ⟨fun _ _ _ => ⟨rfl, rfl⟩, rfl⟩
theorem frG.tr {μ μ' μ'' : Mem} (h : frG μ μ') (h' : frG μ' μ'') : frG μ μ'' := ⟨fun k a b => ⟨(h'.1 k a b).1.trans (h.1 k a b).1, (h'.1 k a b).2.trans (h.1 k a b).2⟩, h'.2.trans h.2⟩
theorem Ms_frG {μ μ' : Mem} {σ : Sg} (h : frG μ μ') (hM : Ms μ σ) : Ms μ' σ := by
  unfold Ms
  rw [h.2, (h.1 41 (by decide) (by decide)).1, (h.1 42 (by decide) (by decide)).1, (h.1 43 (by decide) (by decide)).1, (h.1 44 (by decide) (by decide)).1, (h.1 45 (by decide) (by decide)).1, (h.1 46 (by decide) (by decide)).1, (h.1 47 (by decide) (by decide)).1, (h.1 48 (by decide) (by decide)).1, (h.1 49 (by decide) (by decide)).1, (h.1 50 (by decide) (by decide)).1]
  exact hM
theorem frG.Ms {μ μ' : Mem} {σ : Sg} (h : frG μ μ') (hM : Ms μ σ) : Ms μ' σ := Ms_frG h hM
theorem frG.keep {μ μ' : Mem} (h : frG μ μ') : keepX μ μ' := fun k hk => h.1 k (by omega) (by omega)
def QI (μ0 μ : Mem) (σ : Sg) (p : List Nat) (acc : List (List Nat)) : Prop := frG μ0 μ ∧ (μ.2 40 22 = lN (bst σ acc).1 ∧ μ.2 40 23 = lN (bst σ acc).2) ∧ (∀ i x, p[i]? = some x → μ.1 56 i = nI x) ∧ (∀ i, i ≤ p.length → μ.2 57 i = lN (pUp (σ 4) (σ 0 1) (p.take i)) ∧ μ.2 58 i = lN (pLow σ (p.take i))) ∧ okP σ p ∧ (∀ q ∈ acc, okP σ q ∧ q.length ≤ 8)
theorem QI_up {μ0 μ : Mem} {σ : Sg} {p : List Nat} {acc : List (List Nat)} (h : QI μ0 μ σ p acc) : μ.2 57 p.length = lN (pUp (σ 4) (σ 0 1) p) := by
  have := (h.2.2.2.1 p.length (Nat.le_refl _)).1
  rwa [List.take_length] at this
theorem QI_low {μ0 μ : Mem} {σ : Sg} {p : List Nat} {acc : List (List Nat)} (h : QI μ0 μ σ p acc) : μ.2 58 p.length = lN (pLow σ p) := by
  have := (h.2.2.2.1 p.length (Nat.le_refl _)).2
  rwa [List.take_length] at this
theorem QI_push {μ0 μ : Mem} {σ : Sg} {p : List Nat} {acc : List (List Nat)} {b : Nat} (h : QI μ0 μ σ p acc) (hb : b < σ 0 0) : QI μ0 (setL (setL (setI μ 56 p.length (nI b)) 57 (p.length + 1) (lN (pUp (σ 4) (σ 0 1) p * upR (σ 4 b) (σ 0 1)))) 58 (p.length + 1) (lN (pLow σ p * σ 2 b))) σ (p ++ [b]) acc := by
  obtain ⟨h1, h2, h3, h4, h5, h6⟩ := h
  refine ⟨frG.tr h1 ⟨fun k a c => ⟨if_neg (by omega), ?_⟩, rfl⟩, h2, fun i x hx => ?_, fun i hi => ?_, okP_snoc h5 hb, h6⟩
  · show (if k = 58 then _ else if k = 57 then _ else μ.2 k) = _
    rw [if_neg (by omega), if_neg (by omega)]
  · show upd (μ.1 56) p.length (nI b) i = _
    rw [upd_at]
    by_cases e : i = p.length
    · subst e
      rw [List.getElem?_append_right (Nat.le_refl _), Nat.sub_self] at hx
      cases hx
      rw [if_pos rfl]
    · have hl := (List.getElem?_eq_some_iff.mp hx).1
      rw [List.length_append] at hl
      simp at hl
      rw [List.getElem?_append_left (by omega)] at hx
      rw [if_neg e]
      exact h3 i x hx
  · rw [List.length_append] at hi
    show vp_updL (μ.2 57) (p.length + 1) _ i = _ ∧ vp_updL (μ.2 58) (p.length + 1) _ i = _
    by_cases e : i = p.length + 1
    · subst e
      rw [List.take_of_length_le (by simp), pUp_snoc, pLow_snoc]
      exact ⟨if_pos rfl, if_pos rfl⟩
    · have hi' : i ≤ p.length := by simp at hi; omega
      rw [List.take_append_of_le_length hi']
      exact ⟨(if_neg e).trans (h4 i hi').1, (if_neg e).trans (h4 i hi').2⟩
theorem QI_pop {μ0 μ : Mem} {σ : Sg} {p : List Nat} {acc : List (List Nat)} {b : Nat} (h : QI μ0 μ σ (p ++ [b]) acc) : QI μ0 μ σ p acc := by
  obtain ⟨h1, h2, h3, h4, h5, h6⟩ := h
  refine ⟨h1, h2, fun i x hx => h3 i x (by rw [List.getElem?_append_left (List.getElem?_eq_some_iff.mp hx).1]; exact hx), fun i hi => ?_, fun x hx => h5 x (List.mem_append_left _ hx), h6⟩
  have := h4 i (by rw [List.length_append]; omega)
  rwa [List.take_append_of_le_length hi] at this
theorem QI_acc {μ0 μ μ' : Mem} {σ : Sg} {p : List Nat} {acc acc' : List (List Nat)} (h : QI μ0 μ σ p acc) (hb : μ'.2 40 22 = lN (bst σ acc').1 ∧ μ'.2 40 23 = lN (bst σ acc').2) (h1 : μ'.1 = μ.1) (h2 : ∀ k, ¬ k = 40 → μ'.2 k = μ.2 k) (ha : ∀ q ∈ acc', okP σ q ∧ q.length ≤ 8) : QI μ0 μ' σ p acc' := by
  obtain ⟨g1, g2, g3, g4, g5, g6⟩ := h
  refine ⟨frG.tr g1 ⟨fun k a b => ⟨by rw [h1], h2 k a⟩, by rw [h1]⟩, hb, fun i x hx => by rw [h1]; exact g3 i x hx, fun i hi => ?_, g5, ha⟩
  rw [h2 57 (by decide), h2 58 (by decide)]
  exact g4 i hi

set_option maxRecDepth 20000 in
set_option maxHeartbeats 4000000 in
theorem m_gnode {μ0 : Mem} {σ : Sg} {s e : Nat} {Q : Option Value → Mem → Prop} (hM0 : Ms μ0 σ) (hO : Ok σ) (hs : s < 8) (he : e < 8) : ∀ (f k b c seen : Nat) (p : List Nat) (acc : List (List Nat)) (μ1 : Mem), b + k = σ 0 0 → f + p.length + 1 = 8 → c < 8 → seen < 2 ^ 8 → p.length + 1 ≤ cnt seen.testBit 8 → QI μ0 μ1 σ p acc → (∀ μ2, QI μ0 μ2 σ p (acc ++ gc σ e f c seen p k) → WP cX7_layGets (RX7, 9, none, 2, none) 58 [(0, .ref 40), (1, .int (nI s)), (2, .int (nI e)), (3, .int (nI (p.length))), (4, .int (nI seen)), (5, .int (nI c)), (6, .int (nI (σ 0 0))), (7, .int (nI 1))] [] μ2 Q) → WP cX7_layGets (RX7, 9, none, 2, none) 58 [(0, .ref 40), (1, .int (nI s)), (2, .int (nI e)), (3, .int (nI (p.length))), (4, .int (nI seen)), (5, .int (nI c)), (6, .int (nI b)), (7, .int (nI 1))] [] μ1 Q := by
  have hn := Ok_n hO
  intro f
  induction f using Nat.strongRecOn with
  | _ f ihf =>
    intro k
    induction k with
    | zero =>
      intro b c seen p acc μ1 hbk hfp hc hse hcn hN K
      obtain rfl : b = σ 0 0 := by omega
      exact K μ1 (by show QI μ0 μ1 σ p (acc ++ []); rw [List.append_nil]; exact hN)
    | succ k' ihk0 =>
      intro b c seen p acc μ1 hbk hfp hc hse hcn hN K
      have ihk := fun b μ1 acc h1 h2 h3 => ihk0 b c seen p acc μ1 h1 hfp hc hse hcn h2 h3
      have hM1 := hN.1.Ms hM0
      have hb12 : b < 12 := by omega
      have hbb := Ok_b hO hb12
      have hup := upR_99 (f := σ 0 1) hbb.2.2.2.1
      refine r_iload (pc := 58) dX7_layGets_58 rfl ?_
      refine rn_if_eq (pc := 60) (tgt := 357) dX7_layGets_60 (by decide) (by decide) (fun q => absurd q (by decide)) (fun _ => ?_)
      refine r_iload (pc := 63) dX7_layGets_63 rfl ?_
      refine r_aload_n (pc := 65) dX7_layGets_65 rfl ?_
      refine r_getI (pc := 66) (x := (nI (σ 0 0))) dX7_layGets_66 fX7_81 rfl rfl (Ms_n (μ := μ1) hM1) ?_
      refine rn_icmp_ne (pc := 69) (tgt := 137) dX7_layGets_69 (by decide) (by omega) (by omega) (fun c69 => ?_) (fun c69 => ?_)
      · refine r_aload_n (pc := 137) dX7_layGets_137 rfl ?_
        refine r_getR (pc := 138) (r := 41) dX7_layGets_138 fX7_7 rfl rfl ?_
        refine r_iload (pc := 141) dX7_layGets_141 rfl ?_
        refine r_iald (pc := 143) (x := (nI (σ 1 (b)))) dX7_layGets_143 rfl rfl (by omega) (Ms_1 (μ := μ1) hM1 (by omega)) ?_
        have b1 := Ok_b hO (j := b) (by omega)
        refine r_iload (pc := 144) dX7_layGets_144 rfl ?_
        refine rn_icmp_ne (pc := 146) (tgt := 177) dX7_layGets_146 (by decide) (by omega) (by omega) (fun c146 => ?_) (fun c146 => ?_)
        · refine r_iconst (pc := 177) (v := (nI (0))) dX7_layGets_177 (by decide) ?_
          refine r_istore (pc := 178) (ls' := [(0, .ref 40), (1, .int (nI s)), (2, .int (nI e)), (3, .int (nI (p.length))), (4, .int (nI seen)), (5, .int (nI c)), (6, .int (nI b)), (7, .int (nI 1)), (8, .int (nI 0))]) dX7_layGets_178 (Nat.le_of_ble_eq_true rfl) rfl ?_
          refine r_iload (pc := 180) dX7_layGets_180 rfl ?_
          refine rn_if_eq (pc := 182) (tgt := 238) dX7_layGets_182 (by decide) (by decide) (fun _ => ?_) (fun q => absurd q (by decide))
          refine r_iload (pc := 238) dX7_layGets_238 rfl ?_
          refine rn_if_eq (pc := 240) (tgt := 308) dX7_layGets_240 (by decide) (by decide) (fun _ => ?_) (fun q => absurd q (by decide))
          refine r_iload (pc := 308) dX7_layGets_308 rfl ?_
          refine rn_if_eq (pc := 310) (tgt := 351) dX7_layGets_310 (by decide) (by decide) (fun _ => ?_) (fun q => absurd q (by decide))
          refine rn_iinc (pc := 351) (b := 1) (ls' := [(0, .ref 40), (1, .int (nI s)), (2, .int (nI e)), (3, .int (nI (p.length))), (4, .int (nI seen)), (5, .int (nI c)), (6, .int (nI (b + 1))), (7, .int (nI 1)), (8, .int (nI 0))]) dX7_layGets_351 rfl (by decide) (Nat.le_of_ble_eq_true rfl) rfl ?_
          refine r_goto (pc := 354) (tgt := 58) dX7_layGets_354 (by decide) ?_
          have hF : Gb σ e f c seen p b = [] := if_neg (fun q => c146 q.1.1)
          refine r_pick (ls' := [(0, .ref 40), (1, .int (nI s)), (2, .int (nI e)), (3, .int (nI (p.length))), (4, .int (nI seen)), (5, .int (nI c)), (6, .int (nI (b + 1))), (7, .int (nI 1))]) [0, 1, 2, 3, 4, 5, 6, 7] rfl ?_
          rw [gc_s σ e f c seen p (k := k') hbk] at K
          rw [hF, List.nil_append] at K
          exact ihk (b + 1) μ1 acc (by omega) hN K
        · refine r_aload_n (pc := 149) dX7_layGets_149 rfl ?_
          refine r_iload (pc := 150) dX7_layGets_150 rfl ?_
          refine r_callV (pc := 152) (d' := 1) (k := 40) (As := [.int (nI b)]) (rest := []) dX7_layGets_152 vX7_isOpen mX7_97 rfl rfl rfl (Nat.le_of_ble_eq_true rfl) (Nat.le_of_ble_eq_true rfl) ?_
          refine c_mopen (μ := μ1) hM1 hO (by omega) ?_
          refine rb_if_eq (pc := 155) (tgt := 177) dX7_layGets_155 (by decide) (fun c155 => ?_) (fun c155 => ?_)
          · refine r_iconst (pc := 177) (v := (nI (0))) dX7_layGets_177 (by decide) ?_
            refine r_istore (pc := 178) (ls' := [(0, .ref 40), (1, .int (nI s)), (2, .int (nI e)), (3, .int (nI (p.length))), (4, .int (nI seen)), (5, .int (nI c)), (6, .int (nI b)), (7, .int (nI 1)), (8, .int (nI 0))]) dX7_layGets_178 (Nat.le_of_ble_eq_true rfl) rfl ?_
            refine r_iload (pc := 180) dX7_layGets_180 rfl ?_
            refine rn_if_eq (pc := 182) (tgt := 238) dX7_layGets_182 (by decide) (by decide) (fun _ => ?_) (fun q => absurd q (by decide))
            refine r_iload (pc := 238) dX7_layGets_238 rfl ?_
            refine rn_if_eq (pc := 240) (tgt := 308) dX7_layGets_240 (by decide) (by decide) (fun _ => ?_) (fun q => absurd q (by decide))
            refine r_iload (pc := 308) dX7_layGets_308 rfl ?_
            refine rn_if_eq (pc := 310) (tgt := 351) dX7_layGets_310 (by decide) (by decide) (fun _ => ?_) (fun q => absurd q (by decide))
            refine rn_iinc (pc := 351) (b := 1) (ls' := [(0, .ref 40), (1, .int (nI s)), (2, .int (nI e)), (3, .int (nI (p.length))), (4, .int (nI seen)), (5, .int (nI c)), (6, .int (nI (b + 1))), (7, .int (nI 1)), (8, .int (nI 0))]) dX7_layGets_351 rfl (by decide) (Nat.le_of_ble_eq_true rfl) rfl ?_
            refine r_goto (pc := 354) (tgt := 58) dX7_layGets_354 (by decide) ?_
            have hF : Gb σ e f c seen p b = [] := if_neg (fun q => by rw [c155] at q; exact absurd q.1.2 (by decide))
            refine r_pick (ls' := [(0, .ref 40), (1, .int (nI s)), (2, .int (nI e)), (3, .int (nI (p.length))), (4, .int (nI seen)), (5, .int (nI c)), (6, .int (nI (b + 1))), (7, .int (nI 1))]) [0, 1, 2, 3, 4, 5, 6, 7] rfl ?_
            rw [gc_s σ e f c seen p (k := k') hbk] at K
            rw [hF, List.nil_append] at K
            exact ihk (b + 1) μ1 acc (by omega) hN K
          · refine r_iload (pc := 158) dX7_layGets_158 rfl ?_
            refine r_aload_n (pc := 160) dX7_layGets_160 rfl ?_
            refine r_getR (pc := 161) (r := 43) dX7_layGets_161 fX7_16 rfl rfl ?_
            refine r_iload (pc := 164) dX7_layGets_164 rfl ?_
            refine r_iald (pc := 166) (x := (nI (σ 3 (b)))) dX7_layGets_166 rfl rfl (by omega) (Ms_3 (μ := μ1) hM1 (by omega)) ?_
            have b2 := Ok_b hO (j := b) (by omega)
            refine r_ishr (pc := 167) dX7_layGets_167 ?_
            refine r_eqi (shrN (by omega) (by omega)) ?_
            refine r_iconst (pc := 168) (v := (nI (1))) dX7_layGets_168 (by decide) ?_
            refine r_iand (pc := 169) dX7_layGets_169 ?_
            refine r_eqi (and1 (Nat.lt_of_le_of_lt (Nat.div_le_self _ _) (by omega))) ?_
            refine rn_if_ne (pc := 170) (tgt := 177) dX7_layGets_170 (by decide) (by omega) (fun c170 => ?_) (fun c170 => ?_)
            · have hst : ¬ seen.testBit (σ 3 b) = false := fun q => c170 (tb_0.mpr q)
              refine r_iconst (pc := 177) (v := (nI (0))) dX7_layGets_177 (by decide) ?_
              refine r_istore (pc := 178) (ls' := [(0, .ref 40), (1, .int (nI s)), (2, .int (nI e)), (3, .int (nI (p.length))), (4, .int (nI seen)), (5, .int (nI c)), (6, .int (nI b)), (7, .int (nI 1)), (8, .int (nI 0))]) dX7_layGets_178 (Nat.le_of_ble_eq_true rfl) rfl ?_
              refine r_iload (pc := 180) dX7_layGets_180 rfl ?_
              refine rn_if_eq (pc := 182) (tgt := 238) dX7_layGets_182 (by decide) (by decide) (fun _ => ?_) (fun q => absurd q (by decide))
              refine r_iload (pc := 238) dX7_layGets_238 rfl ?_
              refine rn_if_eq (pc := 240) (tgt := 308) dX7_layGets_240 (by decide) (by decide) (fun _ => ?_) (fun q => absurd q (by decide))
              refine r_iload (pc := 308) dX7_layGets_308 rfl ?_
              refine rn_if_eq (pc := 310) (tgt := 351) dX7_layGets_310 (by decide) (by decide) (fun _ => ?_) (fun q => absurd q (by decide))
              refine rn_iinc (pc := 351) (b := 1) (ls' := [(0, .ref 40), (1, .int (nI s)), (2, .int (nI e)), (3, .int (nI (p.length))), (4, .int (nI seen)), (5, .int (nI c)), (6, .int (nI (b + 1))), (7, .int (nI 1)), (8, .int (nI 0))]) dX7_layGets_351 rfl (by decide) (Nat.le_of_ble_eq_true rfl) rfl ?_
              refine r_goto (pc := 354) (tgt := 58) dX7_layGets_354 (by decide) ?_
              have hF : Gb σ e f c seen p b = [] := if_neg (fun q => hst q.2)
              refine r_pick (ls' := [(0, .ref 40), (1, .int (nI s)), (2, .int (nI e)), (3, .int (nI (p.length))), (4, .int (nI seen)), (5, .int (nI c)), (6, .int (nI (b + 1))), (7, .int (nI 1))]) [0, 1, 2, 3, 4, 5, 6, 7] rfl ?_
              rw [gc_s σ e f c seen p (k := k') hbk] at K
              rw [hF, List.nil_append] at K
              exact ihk (b + 1) μ1 acc (by omega) hN K
            · have hst : seen.testBit (σ 3 b) = false := tb_0.mp c170
              refine r_iconst (pc := 173) (v := (nI (1))) dX7_layGets_173 (by decide) ?_
              refine r_goto (pc := 174) (tgt := 178) dX7_layGets_174 (by decide) ?_
              refine r_istore (pc := 178) (ls' := [(0, .ref 40), (1, .int (nI s)), (2, .int (nI e)), (3, .int (nI (p.length))), (4, .int (nI seen)), (5, .int (nI c)), (6, .int (nI b)), (7, .int (nI 1)), (8, .int (nI 1))]) dX7_layGets_178 (Nat.le_of_ble_eq_true rfl) rfl ?_
              refine r_iload (pc := 180) dX7_layGets_180 rfl ?_
              refine rn_if_eq (pc := 182) (tgt := 238) dX7_layGets_182 (by decide) (by decide) (fun q => absurd q (by decide)) (fun _ => ?_)
              refine r_aload_n (pc := 185) dX7_layGets_185 rfl ?_
              refine r_getR (pc := 186) (r := 56) dX7_layGets_186 fX7_56 rfl rfl ?_
              refine r_iload_n (pc := 189) dX7_layGets_189 rfl ?_
              refine r_iload (pc := 190) dX7_layGets_190 rfl ?_
              refine r_iast (pc := 192) dX7_layGets_192 rfl rfl (by omega) ?_
              refine r_aload_n (pc := 193) dX7_layGets_193 rfl ?_
              refine r_getR (pc := 194) (r := 57) dX7_layGets_194 fX7_59 rfl rfl ?_
              refine r_iload_n (pc := 197) dX7_layGets_197 rfl ?_
              refine r_iconst (pc := 198) (v := (nI (1))) dX7_layGets_198 (by decide) ?_
              refine rn_iadd (pc := 199) dX7_layGets_199 ?_
              refine r_aload_n (pc := 200) dX7_layGets_200 rfl ?_
              refine r_getR (pc := 201) (r := 57) dX7_layGets_201 fX7_59 rfl rfl ?_
              refine r_iload_n (pc := 204) dX7_layGets_204 rfl ?_
              refine r_lald (pc := 205) (x := (lN (pUp (σ 4) (σ 0 1) p))) dX7_layGets_205 rfl rfl (by omega) (QI_up (μ := μ1) hN) ?_
              refine r_aload_n (pc := 206) dX7_layGets_206 rfl ?_
              refine r_iload (pc := 207) dX7_layGets_207 rfl ?_
              refine r_callV (pc := 209) (d' := 0) (k := 40) (As := [.int (nI b)]) (rest := [.long (lN (pUp (σ 4) (σ 0 1) p)), .int (nI ((p.length) + (1))), .ref 57]) dX7_layGets_209 vX7_upper mX7_100 rfl rfl rfl (Nat.le_of_ble_eq_true rfl) (Nat.le_of_ble_eq_true rfl) ?_
              refine c_mupper (μ := (setI μ1 56 (p.length) (nI (b)))) hM1 hO (by omega) ?_
              refine rn_i2l (pc := 212) dX7_layGets_212 (by omega) ?_
              refine rn_lmul (pc := 213) dX7_layGets_213 ?_
              refine r_last (pc := 214) dX7_layGets_214 rfl rfl (by omega) ?_
              refine r_aload_n (pc := 215) dX7_layGets_215 rfl ?_
              refine r_getR (pc := 216) (r := 58) dX7_layGets_216 fX7_62 rfl rfl ?_
              refine r_iload_n (pc := 219) dX7_layGets_219 rfl ?_
              refine r_iconst (pc := 220) (v := (nI (1))) dX7_layGets_220 (by decide) ?_
              refine rn_iadd (pc := 221) dX7_layGets_221 ?_
              refine r_aload_n (pc := 222) dX7_layGets_222 rfl ?_
              refine r_getR (pc := 223) (r := 58) dX7_layGets_223 fX7_62 rfl rfl ?_
              refine r_iload_n (pc := 226) dX7_layGets_226 rfl ?_
              refine r_lald (pc := 227) (x := (lN (pLow σ p))) dX7_layGets_227 rfl rfl (by omega) (QI_low (μ := μ1) hN) ?_
              refine r_aload_n (pc := 228) dX7_layGets_228 rfl ?_
              refine r_getR (pc := 229) (r := 42) dX7_layGets_229 fX7_13 rfl rfl ?_
              refine r_iload (pc := 232) dX7_layGets_232 rfl ?_
              refine r_iald (pc := 234) (x := (nI (σ 2 (b)))) dX7_layGets_234 rfl rfl (by omega) (Ms_2 (μ := μ1) hM1 (by omega)) ?_
              have b3 := Ok_b hO (j := b) (by omega)
              refine rn_i2l (pc := 235) dX7_layGets_235 (by omega) ?_
              refine rn_lmul (pc := 236) dX7_layGets_236 ?_
              refine r_last (pc := 237) dX7_layGets_237 rfl rfl (by omega) ?_
              obtain ⟨μ3, hμ3⟩ : ∃ m, m = (setL (setL (setI μ1 56 (p.length) (nI (b))) 57 ((p.length) + (1)) (lN (pUp (σ 4) (σ 0 1) p * upR (σ 4 (b)) (σ 0 1)))) 58 ((p.length) + (1)) (lN (pLow σ p * σ 2 (b)))) := ⟨_, rfl⟩
              rw [← hμ3]
              have hN3 : QI μ0 μ3 σ (p ++ [b]) acc := by rw [hμ3]; exact QI_push (b := b) hN (by omega)
              have hM3 := hN3.1.Ms hM0
              have hU3 : μ3.2 57 (p.length + 1) = lN (pUp (σ 4) (σ 0 1) (p ++ [b])) := by have := QI_up hN3; rwa [show (p ++ [b]).length = p.length + 1 by simp] at this
              have hL3 : μ3.2 58 (p.length + 1) = lN (pLow σ (p ++ [b])) := by have := QI_low hN3; rwa [show (p ++ [b]).length = p.length + 1 by simp] at this
              have hpok : okP σ (p ++ [b]) := hN3.2.2.2.2.1
              have hu := okP_up hO hpok (by simp; omega)
              have hl := okP_low hO hpok (by simp; omega)
              have hlp := pLow_pos hO hpok
              have hbo := bst_ok hO acc (0, 1) hN.2.2.2.2.2 ⟨by decide, by decide, by decide⟩
              rw [show acc.foldl (bst1 σ) (0, 1) = bst σ acc from rfl] at hbo
              refine r_iload (pc := 238) dX7_layGets_238 rfl ?_
              refine rn_if_eq (pc := 240) (tgt := 308) dX7_layGets_240 (by decide) (by decide) (fun q => absurd q (by decide)) (fun _ => ?_)
              refine r_aload_n (pc := 243) dX7_layGets_243 rfl ?_
              refine r_getR (pc := 244) (r := 43) dX7_layGets_244 fX7_16 rfl rfl ?_
              refine r_iload (pc := 247) dX7_layGets_247 rfl ?_
              refine r_iald (pc := 249) (x := (nI (σ 3 (b)))) dX7_layGets_249 rfl rfl (by omega) (Ms_3 (μ := μ3) hM3 (by omega)) ?_
              have b4 := Ok_b hO (j := b) (by omega)
              refine r_iload_n (pc := 250) dX7_layGets_250 rfl ?_
              refine rn_icmp_ne (pc := 251) (tgt := 308) dX7_layGets_251 (by decide) (by omega) (by omega) (fun c251 => ?_) (fun c251 => ?_)
              · refine r_iload (pc := 308) dX7_layGets_308 rfl ?_
                refine rn_if_eq (pc := 310) (tgt := 351) dX7_layGets_310 (by decide) (by decide) (fun q => absurd q (by decide)) (fun _ => ?_)
                refine r_aload_n (pc := 313) dX7_layGets_313 rfl ?_
                refine r_getR (pc := 314) (r := 43) dX7_layGets_314 fX7_16 rfl rfl ?_
                refine r_iload (pc := 317) dX7_layGets_317 rfl ?_
                refine r_iald (pc := 319) (x := (nI (σ 3 (b)))) dX7_layGets_319 rfl rfl (by omega) (Ms_3 (μ := μ3) hM3 (by omega)) ?_
                have b5 := Ok_b hO (j := b) (by omega)
                refine r_iload_n (pc := 320) dX7_layGets_320 rfl ?_
                refine rn_icmp_eq (pc := 321) (tgt := 351) dX7_layGets_321 (by decide) (by omega) (by omega) (fun c321 => ?_) (fun c321 => ?_)
                · exact absurd c321 c251
                · refine r_aload_n (pc := 324) dX7_layGets_324 rfl ?_
                  refine r_getR (pc := 325) (r := 43) dX7_layGets_325 fX7_16 rfl rfl ?_
                  refine r_iload (pc := 328) dX7_layGets_328 rfl ?_
                  refine r_iald (pc := 330) (x := (nI (σ 3 (b)))) dX7_layGets_330 rfl rfl (by omega) (Ms_3 (μ := μ3) hM3 (by omega)) ?_
                  have b6 := Ok_b hO (j := b) (by omega)
                  refine r_istore (pc := 331) (ls' := [(0, .ref 40), (1, .int (nI s)), (2, .int (nI e)), (3, .int (nI (p.length))), (4, .int (nI seen)), (5, .int (nI (σ 3 (b)))), (6, .int (nI b)), (7, .int (nI 1)), (8, .int (nI 1))]) dX7_layGets_331 (Nat.le_of_ble_eq_true rfl) rfl ?_
                  refine r_iload (pc := 333) dX7_layGets_333 rfl ?_
                  refine r_iconst (pc := 335) (v := (nI (1))) dX7_layGets_335 (by decide) ?_
                  refine r_iload (pc := 336) dX7_layGets_336 rfl ?_
                  refine r_ishl (pc := 338) dX7_layGets_338 ?_
                  refine r_eqi (shl1 (by omega)) ?_
                  refine r_ior (pc := 339) dX7_layGets_339 ?_
                  refine r_eqi (nI_or _ _) ?_
                  refine r_istore (pc := 340) (ls' := [(0, .ref 40), (1, .int (nI s)), (2, .int (nI e)), (3, .int (nI (p.length))), (4, .int (nI ((seen) ||| (2 ^ (σ 3 (b)))))), (5, .int (nI (σ 3 (b)))), (6, .int (nI b)), (7, .int (nI 1)), (8, .int (nI 1))]) dX7_layGets_340 (Nat.le_of_ble_eq_true rfl) rfl ?_
                  refine rn_iinc (pc := 342) (b := 1) (ls' := [(0, .ref 40), (1, .int (nI s)), (2, .int (nI e)), (3, .int (nI (p.length + 1))), (4, .int (nI ((seen) ||| (2 ^ (σ 3 (b)))))), (5, .int (nI (σ 3 (b)))), (6, .int (nI b)), (7, .int (nI 1)), (8, .int (nI 1))]) dX7_layGets_342 rfl (by decide) (Nat.le_of_ble_eq_true rfl) rfl ?_
                  refine r_iconst (pc := 345) (v := (nI (0))) dX7_layGets_345 (by decide) ?_
                  refine r_istore (pc := 346) (ls' := [(0, .ref 40), (1, .int (nI s)), (2, .int (nI e)), (3, .int (nI (p.length + 1))), (4, .int (nI ((seen) ||| (2 ^ (σ 3 (b)))))), (5, .int (nI (σ 3 (b)))), (6, .int (nI 0)), (7, .int (nI 1)), (8, .int (nI 1))]) dX7_layGets_346 (Nat.le_of_ble_eq_true rfl) rfl ?_
                  refine r_goto (pc := 348) (tgt := 354) dX7_layGets_348 (by decide) ?_
                  refine r_goto (pc := 354) (tgt := 58) dX7_layGets_354 (by decide) ?_
                  have hF : Gb σ e f c seen p b = gdfs σ e f (σ 3 b) (seen ||| 2 ^ σ 3 b) (p ++ [b]) := by rw [Gb, if_pos ⟨⟨c146, c155⟩, hst⟩, if_neg c251]
                  have hroom := seen_room hcn (by omega) hst
                  obtain ⟨f1, rfl⟩ : ∃ f1, f = f1 + 1 := ⟨f - 1, by omega⟩
                  refine r_pick (ls' := [(0, .ref 40), (1, .int (nI s)), (2, .int (nI e)), (3, .int (nI (p.length + 1))), (4, .int (nI ((seen) ||| (2 ^ (σ 3 (b)))))), (5, .int (nI (σ 3 (b)))), (6, .int (nI 0)), (7, .int (nI 1))]) [0, 1, 2, 3, 4, 5, 6, 7] rfl ?_
                  rw [show p.length + 1 = (p ++ [b]).length by simp]
                  rw [gc_s σ e (f1 + 1) c seen p (k := k') hbk] at K
                  rw [hF, gdfs_gc] at K
                  refine ihf f1 (by omega) (σ 0 0) 0 (σ 3 b) (seen ||| 2 ^ σ 3 b) (p ++ [b]) acc _ (by omega) (by simp; omega) (by omega) (or_lt hse (Nat.pow_lt_pow_right (by decide) (by omega))) (by simp; exact hroom.2) hN3 (fun μ5 h5 => ?_)
                  have hN6 := QI_pop h5
                  have hM6 := h5.1.Ms hM0
                  have hpb : μ5.1 56 p.length = nI b := h5.2.2.1 p.length b (by simp)
                  rw [show (p ++ [b]).length = p.length + 1 by simp]
                  refine r_iload (pc := 58) dX7_layGets_58 rfl ?_
                  refine rn_if_eq (pc := 60) (tgt := 357) dX7_layGets_60 (by decide) (by decide) (fun q => absurd q (by decide)) (fun _ => ?_)
                  refine r_iload (pc := 63) dX7_layGets_63 rfl ?_
                  refine r_aload_n (pc := 65) dX7_layGets_65 rfl ?_
                  refine r_getI (pc := 66) (x := (nI (σ 0 0))) dX7_layGets_66 fX7_81 rfl rfl (Ms_n (μ := μ5) hM6) ?_
                  refine rn_icmp_ne (pc := 69) (tgt := 137) dX7_layGets_69 (by decide) (by omega) (by omega) (fun c69 => ?_) (fun c69 => ?_)
                  · exact absurd rfl c69
                  · refine r_iload_n (pc := 72) dX7_layGets_72 rfl ?_
                    refine rn_if_le (pc := 73) (tgt := 80) dX7_layGets_73 (by decide) (by omega) (fun c73 => ?_) (fun c73 => ?_)
                    · exact absurd c73 (by omega)
                    · refine r_iconst (pc := 76) (v := (nI (1))) dX7_layGets_76 (by decide) ?_
                      refine r_goto (pc := 77) (tgt := 81) dX7_layGets_77 (by decide) ?_
                      refine r_istore (pc := 81) (ls' := [(0, .ref 40), (1, .int (nI s)), (2, .int (nI e)), (3, .int (nI (p.length + 1))), (4, .int (nI (seen ||| 2 ^ σ 3 b))), (5, .int (nI (σ 3 b))), (6, .int (nI (σ 0 0))), (7, .int (nI 1))]) dX7_layGets_81 (Nat.le_of_ble_eq_true rfl) rfl ?_
                      refine r_iload (pc := 83) dX7_layGets_83 rfl ?_
                      refine rn_if_eq (pc := 85) (tgt := 58) dX7_layGets_85 (by decide) (by decide) (fun q => absurd q (by decide)) (fun _ => ?_)
                      refine r_iinc (pc := 88) (v := (nI (p.length))) (ls' := [(0, .ref 40), (1, .int (nI s)), (2, .int (nI e)), (3, .int (nI (p.length))), (4, .int (nI (seen ||| 2 ^ σ 3 b))), (5, .int (nI (σ 3 b))), (6, .int (nI (σ 0 0))), (7, .int (nI 1))]) dX7_layGets_88 rfl (nI_dec1 _) (Nat.le_of_ble_eq_true rfl) rfl ?_
                      refine r_aload_n (pc := 91) dX7_layGets_91 rfl ?_
                      refine r_getR (pc := 92) (r := 56) dX7_layGets_92 fX7_56 rfl rfl ?_
                      refine r_iload_n (pc := 95) dX7_layGets_95 rfl ?_
                      refine r_iald (pc := 96) (x := (nI (b))) dX7_layGets_96 rfl rfl (by omega) hpb ?_
                      refine r_iconst (pc := 97) (v := (nI (1))) dX7_layGets_97 (by decide) ?_
                      refine rn_iadd (pc := 98) dX7_layGets_98 ?_
                      refine r_istore (pc := 99) (ls' := [(0, .ref 40), (1, .int (nI s)), (2, .int (nI e)), (3, .int (nI (p.length))), (4, .int (nI (seen ||| 2 ^ σ 3 b))), (5, .int (nI (σ 3 b))), (6, .int (nI (b + 1))), (7, .int (nI 1))]) dX7_layGets_99 (Nat.le_of_ble_eq_true rfl) rfl ?_
                      refine r_aload_n (pc := 101) dX7_layGets_101 rfl ?_
                      refine r_getR (pc := 102) (r := 41) dX7_layGets_102 fX7_7 rfl rfl ?_
                      refine r_aload_n (pc := 105) dX7_layGets_105 rfl ?_
                      refine r_getR (pc := 106) (r := 56) dX7_layGets_106 fX7_56 rfl rfl ?_
                      refine r_iload_n (pc := 109) dX7_layGets_109 rfl ?_
                      refine r_iald (pc := 110) (x := (nI (b))) dX7_layGets_110 rfl rfl (by omega) hpb ?_
                      refine r_iald (pc := 111) (x := (nI (σ 1 (b)))) dX7_layGets_111 rfl rfl (by omega) (Ms_1 (μ := μ5) hM6 (by omega)) ?_
                      have b1 := Ok_b hO (j := b) (by omega)
                      refine r_istore (pc := 112) (ls' := [(0, .ref 40), (1, .int (nI s)), (2, .int (nI e)), (3, .int (nI (p.length))), (4, .int (nI (seen ||| 2 ^ σ 3 b))), (5, .int (nI (σ 1 (b)))), (6, .int (nI (b + 1))), (7, .int (nI 1))]) dX7_layGets_112 (Nat.le_of_ble_eq_true rfl) rfl ?_
                      refine r_iload (pc := 114) dX7_layGets_114 rfl ?_
                      refine r_iconst (pc := 116) (v := (nI (1))) dX7_layGets_116 (by decide) ?_
                      refine r_aload_n (pc := 117) dX7_layGets_117 rfl ?_
                      refine r_getR (pc := 118) (r := 43) dX7_layGets_118 fX7_16 rfl rfl ?_
                      refine r_aload_n (pc := 121) dX7_layGets_121 rfl ?_
                      refine r_getR (pc := 122) (r := 56) dX7_layGets_122 fX7_56 rfl rfl ?_
                      refine r_iload_n (pc := 125) dX7_layGets_125 rfl ?_
                      refine r_iald (pc := 126) (x := (nI (b))) dX7_layGets_126 rfl rfl (by omega) hpb ?_
                      refine r_iald (pc := 127) (x := (nI (σ 3 (b)))) dX7_layGets_127 rfl rfl (by omega) (Ms_3 (μ := μ5) hM6 (by omega)) ?_
                      have b2 := Ok_b hO (j := b) (by omega)
                      refine r_ishl (pc := 128) dX7_layGets_128 ?_
                      refine r_eqi (shl1 (by omega)) ?_
                      refine r_iconst (pc := 129) (v := (-1)) dX7_layGets_129 (by decide) ?_
                      refine r_ixor (pc := 130) dX7_layGets_130 ?_
                      refine r_iand (pc := 131) dX7_layGets_131 ?_
                      refine r_eqi (y := nI seen) (clr_bit (by omega) (by omega) hst) ?_
                      refine r_istore (pc := 132) (ls' := [(0, .ref 40), (1, .int (nI s)), (2, .int (nI e)), (3, .int (nI (p.length))), (4, .int (nI seen)), (5, .int (nI (σ 1 (b)))), (6, .int (nI (b + 1))), (7, .int (nI 1))]) dX7_layGets_132 (Nat.le_of_ble_eq_true rfl) rfl ?_
                      refine r_goto (pc := 134) (tgt := 58) dX7_layGets_134 (by decide) ?_
                      rw [c146]
                      skip
                      exact ihk (b + 1) μ5 _ (by omega) hN6 (fun μ2 h2 => K μ2 (by rw [← List.append_assoc]; exact h2))
              · refine r_aload_n (pc := 254) dX7_layGets_254 rfl ?_
                refine r_getR (pc := 255) (r := 57) dX7_layGets_255 fX7_59 rfl rfl ?_
                refine r_iload_n (pc := 258) dX7_layGets_258 rfl ?_
                refine r_iconst (pc := 259) (v := (nI (1))) dX7_layGets_259 (by decide) ?_
                refine rn_iadd (pc := 260) dX7_layGets_260 ?_
                refine r_lald (pc := 261) (x := (lN (pUp (σ 4) (σ 0 1) (p ++ [b])))) dX7_layGets_261 rfl rfl (by omega) hU3 ?_
                refine r_aload_n (pc := 262) dX7_layGets_262 rfl ?_
                refine r_getR (pc := 263) (r := 58) dX7_layGets_263 fX7_62 rfl rfl ?_
                refine r_iload_n (pc := 266) dX7_layGets_266 rfl ?_
                refine r_iconst (pc := 267) (v := (nI (1))) dX7_layGets_267 (by decide) ?_
                refine rn_iadd (pc := 268) dX7_layGets_268 ?_
                refine r_lald (pc := 269) (x := (lN (pLow σ (p ++ [b])))) dX7_layGets_269 rfl rfl (by omega) hL3 ?_
                refine r_aload_n (pc := 270) dX7_layGets_270 rfl ?_
                refine r_getL (pc := 271) (x := (lN ((bst σ acc).1))) dX7_layGets_271 fX7_145 rfl rfl hN3.2.1.1 ?_
                refine r_aload_n (pc := 274) dX7_layGets_274 rfl ?_
                refine r_getL (pc := 275) (x := (lN ((bst σ acc).2))) dX7_layGets_275 fX7_149 rfl rfl hN3.2.1.2 ?_
                refine r_callS (pc := 278) (d' := 0) (As := [.long (lN (pUp (σ 4) (σ 0 1) (p ++ [b]))), .long (lN (pLow σ (p ++ [b]))), .long (lN ((bst σ acc).1)), .long (lN ((bst σ acc).2))]) (rest := []) dX7_layGets_278 sX7_held mX7_135 rfl rfl (Nat.le_of_ble_eq_true rfl) (Nat.le_of_ble_eq_true rfl) ?_
                refine c_held (by omega) (by omega) (by omega) (by omega) (by omega) (by omega) ?_
                refine rc_if_le (pc := 281) (tgt := 308) dX7_layGets_281 (by decide) (fun c281 => ?_) (fun c281 => ?_)
                · refine r_iload (pc := 308) dX7_layGets_308 rfl ?_
                  refine rn_if_eq (pc := 310) (tgt := 351) dX7_layGets_310 (by decide) (by decide) (fun q => absurd q (by decide)) (fun _ => ?_)
                  refine r_aload_n (pc := 313) dX7_layGets_313 rfl ?_
                  refine r_getR (pc := 314) (r := 43) dX7_layGets_314 fX7_16 rfl rfl ?_
                  refine r_iload (pc := 317) dX7_layGets_317 rfl ?_
                  refine r_iald (pc := 319) (x := (nI (σ 3 (b)))) dX7_layGets_319 rfl rfl (by omega) (Ms_3 (μ := μ3) hM3 (by omega)) ?_
                  have b7 := Ok_b hO (j := b) (by omega)
                  refine r_iload_n (pc := 320) dX7_layGets_320 rfl ?_
                  refine rn_icmp_eq (pc := 321) (tgt := 351) dX7_layGets_321 (by decide) (by omega) (by omega) (fun c321 => ?_) (fun c321 => ?_)
                  · refine rn_iinc (pc := 351) (b := 1) (ls' := [(0, .ref 40), (1, .int (nI s)), (2, .int (nI e)), (3, .int (nI (p.length))), (4, .int (nI seen)), (5, .int (nI c)), (6, .int (nI (b + 1))), (7, .int (nI 1)), (8, .int (nI 1))]) dX7_layGets_351 rfl (by decide) (Nat.le_of_ble_eq_true rfl) rfl ?_
                    refine r_goto (pc := 354) (tgt := 58) dX7_layGets_354 (by decide) ?_
                    have hF : Gb σ e f c seen p b = [p ++ [b]] := by rw [Gb, if_pos ⟨⟨c146, c155⟩, hst⟩, if_pos c251]
                    have hb1 : bst1 σ (bst σ acc) (p ++ [b]) = bst σ acc := if_neg (fun q => absurd (of_decide_eq_true q) (Nat.not_lt.mpr c281))
                    refine r_pick (ls' := [(0, .ref 40), (1, .int (nI s)), (2, .int (nI e)), (3, .int (nI (p.length))), (4, .int (nI seen)), (5, .int (nI c)), (6, .int (nI (b + 1))), (7, .int (nI 1))]) [0, 1, 2, 3, 4, 5, 6, 7] rfl ?_
                    rw [gc_s σ e f c seen p (k := k') hbk] at K
                    rw [hF] at K
                    have hN4 : QI μ0 μ3 σ p (acc ++ [p ++ [b]]) := QI_acc (QI_pop hN3) ⟨by rw [bst_snoc, hb1]; exact hN3.2.1.1, by rw [bst_snoc, hb1]; exact hN3.2.1.2⟩ rfl (fun k hk => rfl) (fun q hq => by
                      rcases List.mem_append.mp hq with z | z
                      · exact hN.2.2.2.2.2 q z
                      · rw [List.mem_singleton.mp z]; exact ⟨hpok, by simp; omega⟩)
                    exact ihk (b + 1) _ (acc ++ [p ++ [b]]) (by omega) hN4 (fun μ2 h2 => K μ2 (by rw [← List.append_assoc]; exact h2))
                  · exact absurd c251 c321
                · refine r_aload_n (pc := 284) dX7_layGets_284 rfl ?_
                  refine r_aload_n (pc := 285) dX7_layGets_285 rfl ?_
                  refine r_getR (pc := 286) (r := 57) dX7_layGets_286 fX7_59 rfl rfl ?_
                  refine r_iload_n (pc := 289) dX7_layGets_289 rfl ?_
                  refine r_iconst (pc := 290) (v := (nI (1))) dX7_layGets_290 (by decide) ?_
                  refine rn_iadd (pc := 291) dX7_layGets_291 ?_
                  refine r_lald (pc := 292) (x := (lN (pUp (σ 4) (σ 0 1) (p ++ [b])))) dX7_layGets_292 rfl rfl (by omega) hU3 ?_
                  refine r_putL (pc := 293) dX7_layGets_293 gX7_145 rfl rfl rfl rfl ?_
                  refine r_aload_n (pc := 296) dX7_layGets_296 rfl ?_
                  refine r_aload_n (pc := 297) dX7_layGets_297 rfl ?_
                  refine r_getR (pc := 298) (r := 58) dX7_layGets_298 fX7_62 rfl rfl ?_
                  refine r_iload_n (pc := 301) dX7_layGets_301 rfl ?_
                  refine r_iconst (pc := 302) (v := (nI (1))) dX7_layGets_302 (by decide) ?_
                  refine rn_iadd (pc := 303) dX7_layGets_303 ?_
                  refine r_lald (pc := 304) (x := (lN (pLow σ (p ++ [b])))) dX7_layGets_304 rfl rfl (by omega) hL3 ?_
                  refine r_putL (pc := 305) dX7_layGets_305 gX7_149 rfl rfl rfl rfl ?_
                  refine r_iload (pc := 308) dX7_layGets_308 rfl ?_
                  refine rn_if_eq (pc := 310) (tgt := 351) dX7_layGets_310 (by decide) (by decide) (fun q => absurd q (by decide)) (fun _ => ?_)
                  refine r_aload_n (pc := 313) dX7_layGets_313 rfl ?_
                  refine r_getR (pc := 314) (r := 43) dX7_layGets_314 fX7_16 rfl rfl ?_
                  refine r_iload (pc := 317) dX7_layGets_317 rfl ?_
                  refine r_iald (pc := 319) (x := (nI (σ 3 (b)))) dX7_layGets_319 rfl rfl (by omega) (Ms_3 (μ := μ3) hM3 (by omega)) ?_
                  have b8 := Ok_b hO (j := b) (by omega)
                  refine r_iload_n (pc := 320) dX7_layGets_320 rfl ?_
                  refine rn_icmp_eq (pc := 321) (tgt := 351) dX7_layGets_321 (by decide) (by omega) (by omega) (fun c321 => ?_) (fun c321 => ?_)
                  · refine rn_iinc (pc := 351) (b := 1) (ls' := [(0, .ref 40), (1, .int (nI s)), (2, .int (nI e)), (3, .int (nI (p.length))), (4, .int (nI seen)), (5, .int (nI c)), (6, .int (nI (b + 1))), (7, .int (nI 1)), (8, .int (nI 1))]) dX7_layGets_351 rfl (by decide) (Nat.le_of_ble_eq_true rfl) rfl ?_
                    refine r_goto (pc := 354) (tgt := 58) dX7_layGets_354 (by decide) ?_
                    have hF : Gb σ e f c seen p b = [p ++ [b]] := by rw [Gb, if_pos ⟨⟨c146, c155⟩, hst⟩, if_pos c251]
                    have hb1 : bst1 σ (bst σ acc) (p ++ [b]) = (pUp (σ 4) (σ 0 1) (p ++ [b]), pLow σ (p ++ [b])) := if_pos (decide_eq_true c281)
                    refine r_pick (ls' := [(0, .ref 40), (1, .int (nI s)), (2, .int (nI e)), (3, .int (nI (p.length))), (4, .int (nI seen)), (5, .int (nI c)), (6, .int (nI (b + 1))), (7, .int (nI 1))]) [0, 1, 2, 3, 4, 5, 6, 7] rfl ?_
                    rw [gc_s σ e f c seen p (k := k') hbk] at K
                    rw [hF] at K
                    have hN4 : QI μ0 (setL (setL μ3 40 22 (lN (pUp (σ 4) (σ 0 1) (p ++ [b])))) 40 23 (lN (pLow σ (p ++ [b])))) σ p (acc ++ [p ++ [b]]) := QI_acc (QI_pop hN3) ⟨by rw [bst_snoc, hb1]; rfl, by rw [bst_snoc, hb1]; rfl⟩ rfl (fun k hk => (if_neg hk).trans (if_neg hk)) (fun q hq => by
                      rcases List.mem_append.mp hq with z | z
                      · exact hN.2.2.2.2.2 q z
                      · rw [List.mem_singleton.mp z]; exact ⟨hpok, by simp; omega⟩)
                    exact ihk (b + 1) _ (acc ++ [p ++ [b]]) (by omega) hN4 (fun μ2 h2 => K μ2 (by rw [← List.append_assoc]; exact h2))
                  · exact absurd c251 c321
      · exact absurd c69 (by omega)

/-- what a coin gets of another one, as the model has it -/
def mget (σ : Sg) (s e : Nat) : Nat × Nat := if s = e then (1, 1) else bst σ (gdfs σ e 8 s (2 ^ s) [])
theorem gdfs_mem (σ : Sg) (e : Nat) : ∀ (f c seen : Nat) (p r : List Nat), okP σ p → r ∈ gdfs σ e f c seen p → okP σ r ∧ r.length ≤ p.length + f
  | 0, c, seen, p, r, _, h => by unfold gdfs at h; exact absurd h List.not_mem_nil
  | f + 1, c, seen, p, r, hp, h => by
    unfold gdfs at h
    obtain ⟨b, hb, h⟩ := List.mem_flatMap.mp h
    have hbn := List.mem_range.mp hb
    split at h
    · split at h
      · rw [List.mem_singleton.mp h]
        exact ⟨okP_snoc hp hbn, by simp⟩
      · have := gdfs_mem σ e f _ _ _ r (okP_snoc hp hbn) h
        refine ⟨this.1, ?_⟩
        have h2 := this.2
        simp at h2
        omega
    · exact absurd h List.not_mem_nil
theorem mget_ok {σ : Sg} (hO : Ok σ) (s e : Nat) : (mget σ s e).1 < 2 ^ 63 ∧ 1 ≤ (mget σ s e).2 ∧ (mget σ s e).2 < 2 ^ 63 := by
  unfold mget
  split
  · exact ⟨by decide, by decide, by decide⟩
  · exact bst_ok hO _ _ (fun q hq => by
      have := gdfs_mem σ e 8 s (2 ^ s) [] q (fun x hx => by simp at hx) hq
      exact ⟨this.1, by simpa using this.2⟩) ⟨by decide, by decide, by decide⟩

set_option maxRecDepth 20000 in
set_option maxHeartbeats 4000000 in
theorem m_layg {μ : Mem} {σ : Sg} {s e : Nat} {Q : Option Value → Mem → Prop} (hM : Ms μ σ) (hO : Ok σ) (hs : s < 8) (he : e < 8) (h : ∀ μ', Ms μ' σ → keepX μ μ' → μ'.2 40 22 = lN (mget σ s e).1 → μ'.2 40 23 = lN (mget σ s e).2 → Q none μ') : Sp iX7_layGets 2 [.ref 40, .int (nI s), .int (nI e)] μ Q := by
  refine Sp.of vX7_layGets.1 (Nat.le_of_ble_eq_true rfl) ?_
  show WP cX7_layGets (RX7, 9, none, 2, none) 0 [(0, .ref 40), (1, .int (nI s)), (2, .int (nI e))] [] μ Q
  have hn := Ok_n hO
  refine r_aload_n (pc := 0) dX7_layGets_0 rfl ?_
  refine r_iload_n (pc := 1) dX7_layGets_1 rfl ?_
  refine r_iload_n (pc := 2) dX7_layGets_2 rfl ?_
  refine rn_icmp_ne (pc := 3) (tgt := 10) dX7_layGets_3 (by decide) (by omega) (by omega) (fun c3 => ?_) (fun c3 => ?_)
  · refine r_lconst (pc := 10) (v := lN 0) dX7_layGets_10 rfl ?_
    refine r_putL (pc := 11) dX7_layGets_11 gX7_145 rfl rfl rfl rfl ?_
    refine r_aload_n (pc := 14) dX7_layGets_14 rfl ?_
    refine r_lconst (pc := 15) (v := lN 1) dX7_layGets_15 rfl ?_
    refine r_putL (pc := 16) dX7_layGets_16 gX7_149 rfl rfl rfl rfl ?_
    refine r_iconst (pc := 19) (v := (nI (0))) dX7_layGets_19 (by decide) ?_
    refine r_istore_n (pc := 20) (ls' := [(0, .ref 40), (1, .int (nI s)), (2, .int (nI e)), (3, .int (nI 0))]) dX7_layGets_20 (Nat.le_of_ble_eq_true rfl) rfl ?_
    refine r_iconst (pc := 21) (v := (nI (1))) dX7_layGets_21 (by decide) ?_
    refine r_iload_n (pc := 22) dX7_layGets_22 rfl ?_
    refine r_ishl (pc := 23) dX7_layGets_23 ?_
    refine r_eqi (shl1 (by omega)) ?_
    refine r_istore (pc := 24) (ls' := [(0, .ref 40), (1, .int (nI s)), (2, .int (nI e)), (3, .int (nI 0)), (4, .int (nI (2 ^ s)))]) dX7_layGets_24 (Nat.le_of_ble_eq_true rfl) rfl ?_
    refine r_iload_n (pc := 26) dX7_layGets_26 rfl ?_
    refine r_istore (pc := 27) (ls' := [(0, .ref 40), (1, .int (nI s)), (2, .int (nI e)), (3, .int (nI 0)), (4, .int (nI (2 ^ s))), (5, .int (nI s))]) dX7_layGets_27 (Nat.le_of_ble_eq_true rfl) rfl ?_
    refine r_iconst (pc := 29) (v := (nI (0))) dX7_layGets_29 (by decide) ?_
    refine r_istore (pc := 30) (ls' := [(0, .ref 40), (1, .int (nI s)), (2, .int (nI e)), (3, .int (nI 0)), (4, .int (nI (2 ^ s))), (5, .int (nI s)), (6, .int (nI 0))]) dX7_layGets_30 (Nat.le_of_ble_eq_true rfl) rfl ?_
    refine r_aload_n (pc := 32) dX7_layGets_32 rfl ?_
    refine r_getR (pc := 33) (r := 57) dX7_layGets_33 fX7_59 rfl rfl ?_
    refine r_iconst (pc := 36) (v := (nI (0))) dX7_layGets_36 (by decide) ?_
    refine r_lconst (pc := 37) (v := lN 1) dX7_layGets_37 rfl ?_
    refine r_last (pc := 38) dX7_layGets_38 rfl rfl (by omega) ?_
    refine r_aload_n (pc := 39) dX7_layGets_39 rfl ?_
    refine r_getR (pc := 40) (r := 58) dX7_layGets_40 fX7_62 rfl rfl ?_
    refine r_iconst (pc := 43) (v := (nI (0))) dX7_layGets_43 (by decide) ?_
    refine r_lconst (pc := 44) (v := lN 1) dX7_layGets_44 rfl ?_
    refine r_last (pc := 45) dX7_layGets_45 rfl rfl (by omega) ?_
    refine r_iload_n (pc := 46) dX7_layGets_46 rfl ?_
    refine r_iload_n (pc := 47) dX7_layGets_47 rfl ?_
    refine rn_icmp_eq (pc := 48) (tgt := 55) dX7_layGets_48 (by decide) (by omega) (by omega) (fun c48 => ?_) (fun c48 => ?_)
    · exact absurd c48 c3
    · refine r_iconst (pc := 51) (v := (nI (1))) dX7_layGets_51 (by decide) ?_
      refine r_goto (pc := 52) (tgt := 56) dX7_layGets_52 (by decide) ?_
      refine r_istore (pc := 56) (ls' := [(0, .ref 40), (1, .int (nI s)), (2, .int (nI e)), (3, .int (nI 0)), (4, .int (nI (2 ^ s))), (5, .int (nI s)), (6, .int (nI 0)), (7, .int (nI 1))]) dX7_layGets_56 (Nat.le_of_ble_eq_true rfl) rfl ?_
      obtain ⟨μ1, hμ1⟩ : ∃ m, m = (setL (setL (setL (setL μ 40 22 (lN (0))) 40 23 (lN (1))) 57 (0) (lN (1))) 58 (0) (lN (1))) := ⟨_, rfl⟩
      rw [← hμ1]
      have hN : QI μ μ1 σ [] [] := by
        rw [hμ1]
        refine ⟨⟨fun k a b => ⟨rfl, ?_⟩, rfl⟩, ⟨rfl, rfl⟩, fun i x hx => by simp at hx, fun i hi => ?_, fun x hx => by simp at hx, fun q hq => by simp at hq⟩
        · show (if k = 58 then _ else if k = 57 then _ else if k = 40 then _ else if k = 40 then _ else μ.2 k) = _
          rw [if_neg (by omega), if_neg (by omega), if_neg a, if_neg a]
        · have e0 : i = 0 := by simpa using hi
          subst e0
          exact ⟨rfl, rfl⟩
      refine m_gnode hM hO hs he 7 (σ 0 0) 0 s (2 ^ s) [] [] μ1 (by omega) rfl hs (Nat.pow_lt_pow_right (by decide) hs) (seen_start hs) hN (fun μ2 h2 => ?_)
      rw [← gdfs_gc, List.nil_append] at h2
      have hM2 := h2.1.Ms hM
      show WP cX7_layGets (RX7, 9, none, 2, none) 58 [(0, .ref 40), (1, .int (nI s)), (2, .int (nI e)), (3, .int (nI 0)), (4, .int (nI (2 ^ s))), (5, .int (nI s)), (6, .int (nI (σ 0 0))), (7, .int (nI 1))] [] μ2 Q
      refine r_iload (pc := 58) dX7_layGets_58 rfl ?_
      refine rn_if_eq (pc := 60) (tgt := 357) dX7_layGets_60 (by decide) (by decide) (fun q => absurd q (by decide)) (fun _ => ?_)
      refine r_iload (pc := 63) dX7_layGets_63 rfl ?_
      refine r_aload_n (pc := 65) dX7_layGets_65 rfl ?_
      refine r_getI (pc := 66) (x := (nI (σ 0 0))) dX7_layGets_66 fX7_81 rfl rfl (Ms_n (μ := μ2) hM2) ?_
      refine rn_icmp_ne (pc := 69) (tgt := 137) dX7_layGets_69 (by decide) (by omega) (by omega) (fun c69 => ?_) (fun c69 => ?_)
      · exact absurd rfl c69
      · refine r_iload_n (pc := 72) dX7_layGets_72 rfl ?_
        refine rn_if_le (pc := 73) (tgt := 80) dX7_layGets_73 (by decide) (by decide) (fun _ => ?_) (fun q => absurd q (by decide))
        refine r_iconst (pc := 80) (v := (nI (0))) dX7_layGets_80 (by decide) ?_
        refine r_istore (pc := 81) (ls' := [(0, .ref 40), (1, .int (nI s)), (2, .int (nI e)), (3, .int (nI 0)), (4, .int (nI (2 ^ s))), (5, .int (nI s)), (6, .int (nI (σ 0 0))), (7, .int (nI 0))]) dX7_layGets_81 (Nat.le_of_ble_eq_true rfl) rfl ?_
        refine r_iload (pc := 83) dX7_layGets_83 rfl ?_
        refine rn_if_eq (pc := 85) (tgt := 58) dX7_layGets_85 (by decide) (by decide) (fun _ => ?_) (fun q => absurd q (by decide))
        refine r_iload (pc := 58) dX7_layGets_58 rfl ?_
        refine rn_if_eq (pc := 60) (tgt := 357) dX7_layGets_60 (by decide) (by decide) (fun _ => ?_) (fun q => absurd q (by decide))
        refine r_return (pc := 357) dX7_layGets_357 rfl ?_
        refine h μ2 hM2 h2.1.keep ?_ ?_
        · unfold mget; rw [if_neg c48]; exact h2.2.1.1
        · unfold mget; rw [if_neg c48]; exact h2.2.1.2
  · refine r_lconst (pc := 6) (v := lN 1) dX7_layGets_6 rfl ?_
    refine r_goto (pc := 7) (tgt := 11) dX7_layGets_7 (by decide) ?_
    refine r_putL (pc := 11) dX7_layGets_11 gX7_145 rfl rfl rfl rfl ?_
    refine r_aload_n (pc := 14) dX7_layGets_14 rfl ?_
    refine r_lconst (pc := 15) (v := lN 1) dX7_layGets_15 rfl ?_
    refine r_putL (pc := 16) dX7_layGets_16 gX7_149 rfl rfl rfl rfl ?_
    refine r_iconst (pc := 19) (v := (nI (0))) dX7_layGets_19 (by decide) ?_
    refine r_istore_n (pc := 20) (ls' := [(0, .ref 40), (1, .int (nI s)), (2, .int (nI e)), (3, .int (nI 0))]) dX7_layGets_20 (Nat.le_of_ble_eq_true rfl) rfl ?_
    refine r_iconst (pc := 21) (v := (nI (1))) dX7_layGets_21 (by decide) ?_
    refine r_iload_n (pc := 22) dX7_layGets_22 rfl ?_
    refine r_ishl (pc := 23) dX7_layGets_23 ?_
    refine r_eqi (shl1 (by omega)) ?_
    refine r_istore (pc := 24) (ls' := [(0, .ref 40), (1, .int (nI s)), (2, .int (nI e)), (3, .int (nI 0)), (4, .int (nI (2 ^ s)))]) dX7_layGets_24 (Nat.le_of_ble_eq_true rfl) rfl ?_
    refine r_iload_n (pc := 26) dX7_layGets_26 rfl ?_
    refine r_istore (pc := 27) (ls' := [(0, .ref 40), (1, .int (nI s)), (2, .int (nI e)), (3, .int (nI 0)), (4, .int (nI (2 ^ s))), (5, .int (nI s))]) dX7_layGets_27 (Nat.le_of_ble_eq_true rfl) rfl ?_
    refine r_iconst (pc := 29) (v := (nI (0))) dX7_layGets_29 (by decide) ?_
    refine r_istore (pc := 30) (ls' := [(0, .ref 40), (1, .int (nI s)), (2, .int (nI e)), (3, .int (nI 0)), (4, .int (nI (2 ^ s))), (5, .int (nI s)), (6, .int (nI 0))]) dX7_layGets_30 (Nat.le_of_ble_eq_true rfl) rfl ?_
    refine r_aload_n (pc := 32) dX7_layGets_32 rfl ?_
    refine r_getR (pc := 33) (r := 57) dX7_layGets_33 fX7_59 rfl rfl ?_
    refine r_iconst (pc := 36) (v := (nI (0))) dX7_layGets_36 (by decide) ?_
    refine r_lconst (pc := 37) (v := lN 1) dX7_layGets_37 rfl ?_
    refine r_last (pc := 38) dX7_layGets_38 rfl rfl (by omega) ?_
    refine r_aload_n (pc := 39) dX7_layGets_39 rfl ?_
    refine r_getR (pc := 40) (r := 58) dX7_layGets_40 fX7_62 rfl rfl ?_
    refine r_iconst (pc := 43) (v := (nI (0))) dX7_layGets_43 (by decide) ?_
    refine r_lconst (pc := 44) (v := lN 1) dX7_layGets_44 rfl ?_
    refine r_last (pc := 45) dX7_layGets_45 rfl rfl (by omega) ?_
    refine r_iload_n (pc := 46) dX7_layGets_46 rfl ?_
    refine r_iload_n (pc := 47) dX7_layGets_47 rfl ?_
    refine rn_icmp_eq (pc := 48) (tgt := 55) dX7_layGets_48 (by decide) (by omega) (by omega) (fun c48 => ?_) (fun c48 => ?_)
    · refine r_iconst (pc := 55) (v := (nI (0))) dX7_layGets_55 (by decide) ?_
      refine r_istore (pc := 56) (ls' := [(0, .ref 40), (1, .int (nI s)), (2, .int (nI e)), (3, .int (nI 0)), (4, .int (nI (2 ^ s))), (5, .int (nI s)), (6, .int (nI 0)), (7, .int (nI 0))]) dX7_layGets_56 (Nat.le_of_ble_eq_true rfl) rfl ?_
      refine r_iload (pc := 58) dX7_layGets_58 rfl ?_
      refine rn_if_eq (pc := 60) (tgt := 357) dX7_layGets_60 (by decide) (by decide) (fun _ => ?_) (fun q => absurd q (by decide))
      refine r_return (pc := 357) dX7_layGets_357 rfl ?_
      refine h _ (by exact hM) (fun k hk => ⟨rfl, ?_⟩) ?_ ?_
      · show (if k = 58 then _ else if k = 57 then _ else if k = 40 then _ else if k = 40 then _ else μ.2 k) = _
        rw [if_neg (by omega), if_neg (by omega), if_neg (by omega), if_neg (by omega)]
      · unfold mget; rw [if_pos c48]; rfl
      · unfold mget; rw [if_pos c48]; rfl
    · exact absurd c3 c48
