/-! THE MODEL'S WALK: all walks up to so many boards, the best of them -/
def hb (σ : Sg) (b h : Nat) : Nat := (if h < σ 7 b then h else σ 7 b) / σ 2 b * upR (σ 4 b) (σ 0 1)
def hw (σ : Sg) (h : Nat) (p : List Nat) : Nat := p.foldl (fun a b => hb σ b a) h
def cw (σ : Sg) (s : Nat) (p : List Nat) : Nat := p.foldl (fun _ b => σ 3 b) s
theorem hw_snoc (σ : Sg) (h : Nat) (p : List Nat) (b : Nat) : hw σ h (p ++ [b]) = hb σ b (hw σ h p) := by unfold hw; rw [List.foldl_append]; rfl
theorem cw_snoc (σ : Sg) (s : Nat) (p : List Nat) (b : Nat) : cw σ s (p ++ [b]) = σ 3 b := by unfold cw; rw [List.foldl_append]; rfl
theorem hb_le {σ : Sg} (hO : Ok σ) {b : Nat} (hb12 : b < 12) (h : Nat) : hb σ b h ≤ 99000000 := by
  obtain ⟨h1, h2, h3, h4, h5, h6, h7⟩ := Ok_b hO hb12
  unfold hb
  have a1 : (if h < σ 7 b then h else σ 7 b) / σ 2 b ≤ 1000000 := by
    refine Nat.le_trans (Nat.div_le_self _ _) ?_
    split <;> omega
  exact Nat.le_trans (Nat.mul_le_mul a1 (upR_99 h4)) (by decide)
theorem hw_le {σ : Sg} (hO : Ok σ) {h : Nat} (hh : h ≤ 1000000) {p : List Nat} (hp : okP σ p) : hw σ h p ≤ 99000000 := by
  rcases List.eq_nil_or_concat p with rfl | ⟨q, b, rfl⟩
  · show h ≤ 99000000
    omega
  · rw [List.concat_eq_append] at hp ⊢
    rw [hw_snoc]
    exact hb_le hO (Nat.lt_of_lt_of_le (hp b (by simp)) hO.1) _
theorem cw_lt {σ : Sg} (hO : Ok σ) {s : Nat} (hs : s < 8) {p : List Nat} (hp : okP σ p) : cw σ s p < 8 := by
  rcases List.eq_nil_or_concat p with rfl | ⟨q, b, rfl⟩
  · exact hs
  · rw [List.concat_eq_append] at hp ⊢
    rw [cw_snoc]
    exact (Ok_b hO (Nat.lt_of_lt_of_le (hp b (by simp)) hO.1)).2.2.1
def wdfs (σ : Sg) : Nat → Nat → List Nat → List (List Nat)
  | 0, _, _ => []
  | f + 1, c, p => (List.range (σ 0 0)).flatMap (fun b => if σ 1 b = c ∧ opn σ b = true then (p ++ [b]) :: wdfs σ f (σ 3 b) (p ++ [b]) else [])
def Wb (σ : Sg) (f c : Nat) (p : List Nat) (b : Nat) : List (List Nat) := if σ 1 b = c ∧ opn σ b = true then (p ++ [b]) :: wdfs σ f (σ 3 b) (p ++ [b]) else []
def wc (σ : Sg) (f c : Nat) (p : List Nat) : Nat → List (List Nat)
  | 0 => []
  | k + 1 => Wb σ f c p (σ 0 0 - (k + 1)) ++ wc σ f c p k
theorem wc_drop (σ : Sg) (f c : Nat) (p : List Nat) : ∀ k, k ≤ σ 0 0 → ((List.range (σ 0 0)).drop (σ 0 0 - k)).flatMap (Wb σ f c p) = wc σ f c p k
  | 0, _ => by
    rw [List.drop_of_length_le (by simp)]
    rfl
  | k + 1, h => by
    have e9 : (List.range (σ 0 0)).drop (σ 0 0 - (k + 1)) = (σ 0 0 - (k + 1)) :: (List.range (σ 0 0)).drop (σ 0 0 - k) := by
      rw [List.drop_eq_getElem_cons (by simp; omega)]
      rw [List.getElem_range, show σ 0 0 - (k + 1) + 1 = σ 0 0 - k by omega]
    rw [e9, List.flatMap_cons, wc_drop σ f c p k (by omega)]
    rfl
theorem wdfs_wc (σ : Sg) (f c : Nat) (p : List Nat) : wdfs σ (f + 1) c p = wc σ f c p (σ 0 0) := by
  rw [← wc_drop σ f c p (σ 0 0) (Nat.le_refl _), Nat.sub_self, List.drop_zero]
  rfl
theorem wc_s (σ : Sg) (f c : Nat) (p : List Nat) {k b : Nat} (h : b + (k + 1) = σ 0 0) : wc σ f c p (k + 1) = Wb σ f c p b ++ wc σ f c p k := by
  show Wb σ f c p (σ 0 0 - (k + 1)) ++ _ = _
  rw [show σ 0 0 - (k + 1) = b by omega]
/-- the best of walks -/
def wb1 (σ : Sg) (s h e : Nat) (o : Option (List Nat)) (q : List Nat) : Option (List Nat) := if cw σ s q = e then (match o with
  | none => some q
  | some r => if hw σ h r < hw σ h q ∨ (hw σ h q = hw σ h r ∧ q.length < r.length) then some q else some r) else o
def wb (σ : Sg) (s h e : Nat) (acc : List (List Nat)) : Option (List Nat) := acc.foldl (wb1 σ s h e) none
theorem wb_snoc (σ : Sg) (s h e : Nat) (acc : List (List Nat)) (q : List Nat) : wb σ s h e (acc ++ [q]) = wb1 σ s h e (wb σ s h e acc) q := by unfold wb; rw [List.foldl_append]; rfl
def oH (σ : Sg) (h : Nat) (o : Option (List Nat)) : Nat := match o with
  | none => 0
  | some r => hw σ h r
def oN (o : Option (List Nat)) : Int32 := match o with
  | none => -6
  | some r => nI r.length
def BW (μ : Mem) (σ : Sg) (h : Nat) (o : Option (List Nat)) : Prop := μ.1 40 24 = nI (oH σ h o) ∧ μ.1 40 25 = oN o ∧ ∀ r, o = some r → (∀ i x, r[i]? = some x → μ.1 59 i = nI x) ∧ okP σ r ∧ r.length ≤ 5
def frW (μ μ' : Mem) : Prop := (∀ k, ¬ k = 40 → ¬ k = 56 → ¬ (59 ≤ k ∧ k ≤ 61) → μ'.1 k = μ.1 k) ∧ (∀ j, ¬ j = 24 → ¬ j = 25 → μ'.1 40 j = μ.1 40 j) ∧ μ'.2 = μ.2
theorem frW.rf {μ : Mem} : frW μ μ := ⟨fun _ _ _ _ => rfl, fun _ _ _ => rfl, rfl⟩
theorem frW.tr {μ μ' μ'' : Mem} (h : frW μ μ') (h' : frW μ' μ'') : frW μ μ'' := ⟨fun k a b c => (h'.1 k a b c).trans (h.1 k a b c), fun j a b => (h'.2.1 j a b).trans (h.2.1 j a b), h'.2.2.trans h.2.2⟩
theorem Ms_frW {μ μ' : Mem} {σ : Sg} (h : frW μ μ') (hM : Ms μ σ) : Ms μ' σ := by
  unfold Ms
  rw [h.2.1 0 (by decide) (by decide), h.2.1 9 (by decide) (by decide), h.1 41 (by decide) (by decide) (by decide), h.1 42 (by decide) (by decide) (by decide), h.1 43 (by decide) (by decide) (by decide), h.1 44 (by decide) (by decide) (by decide), h.1 45 (by decide) (by decide) (by decide), h.1 46 (by decide) (by decide) (by decide), h.1 47 (by decide) (by decide) (by decide), h.1 48 (by decide) (by decide) (by decide), h.1 49 (by decide) (by decide) (by decide), h.1 50 (by decide) (by decide) (by decide)]
  exact hM
theorem frW.keep {μ μ' : Mem} (h : frW μ μ') : keepX μ μ' := fun k hk => ⟨h.1 k (by omega) (by omega) (by omega), by rw [h.2.2]⟩
def WI (μ0 μ : Mem) (σ : Sg) (s h e : Nat) (p : List Nat) (acc : List (List Nat)) : Prop := frW μ0 μ ∧ BW μ σ h (wb σ s h e acc) ∧ (∀ i x, p[i]? = some x → μ.1 56 i = nI x) ∧ (∀ i, i ≤ p.length → μ.1 60 i = nI (hw σ h (p.take i)) ∧ μ.1 61 i = nI (cw σ s (p.take i))) ∧ okP σ p
theorem WI_h {μ0 μ : Mem} {σ : Sg} {s h e : Nat} {p : List Nat} {acc : List (List Nat)} (w : WI μ0 μ σ s h e p acc) : μ.1 60 p.length = nI (hw σ h p) := by
  have := (w.2.2.2.1 p.length (Nat.le_refl _)).1
  rwa [List.take_length] at this
theorem WI_c {μ0 μ : Mem} {σ : Sg} {s h e : Nat} {p : List Nat} {acc : List (List Nat)} (w : WI μ0 μ σ s h e p acc) : μ.1 61 p.length = nI (cw σ s p) := by
  have := (w.2.2.2.1 p.length (Nat.le_refl _)).2
  rwa [List.take_length] at this
theorem WI_push {μ0 μ : Mem} {σ : Sg} {s h e : Nat} {p : List Nat} {acc : List (List Nat)} {b : Nat} (w : WI μ0 μ σ s h e p acc) (hbn : b < σ 0 0) : WI μ0 (setI (setI (setI μ 56 p.length (nI b)) 60 (p.length + 1) (nI (hb σ b (hw σ h p)))) 61 (p.length + 1) (nI (σ 3 b))) σ s h e (p ++ [b]) acc := by
  obtain ⟨h1, h2, h3, h4, h5⟩ := w
  refine ⟨frW.tr h1 ⟨fun k a c d => ?_, fun j _ _ => rfl, rfl⟩, h2, fun i x hx => ?_, fun i hi => ?_, okP_snoc h5 hbn⟩
  · show (if k = 61 then _ else if k = 60 then _ else if k = 56 then _ else μ.1 k) = _
    rw [if_neg (by omega), if_neg (by omega), if_neg c]
  · show upd (μ.1 56) p.length (nI b) i = _
    rw [upd_at]
    by_cases e : i = p.length
    · subst e
      rw [List.getElem?_append_right (Nat.le_refl _), Nat.sub_self] at hx
      cases hx
      rw [if_pos rfl]
    · have hl := (List.getElem?_eq_some_iff.mp hx).1
      rw [List.length_append] at hl
      simp at hl
      rw [List.getElem?_append_left (by omega)] at hx
      rw [if_neg e]
      exact h3 i x hx
  · rw [List.length_append] at hi
    show upd (μ.1 60) (p.length + 1) _ i = _ ∧ upd (μ.1 61) (p.length + 1) _ i = _
    rw [upd_at, upd_at]
    by_cases e : i = p.length + 1
    · subst e
      rw [List.take_of_length_le (by simp), hw_snoc, cw_snoc]
      exact ⟨if_pos rfl, if_pos rfl⟩
    · have hi' : i ≤ p.length := by simp at hi; omega
      rw [List.take_append_of_le_length hi']
      exact ⟨(if_neg e).trans (h4 i hi').1, (if_neg e).trans (h4 i hi').2⟩
theorem WI_pop {μ0 μ : Mem} {σ : Sg} {s h e : Nat} {p : List Nat} {acc : List (List Nat)} {b : Nat} (w : WI μ0 μ σ s h e (p ++ [b]) acc) : WI μ0 μ σ s h e p acc := by
  obtain ⟨h1, h2, h3, h4, h5⟩ := w
  refine ⟨h1, h2, fun i x hx => h3 i x (by rw [List.getElem?_append_left (List.getElem?_eq_some_iff.mp hx).1]; exact hx), fun i hi => ?_, fun x hx => h5 x (List.mem_append_left _ hx)⟩
  have := h4 i (by rw [List.length_append]; omega)
  rwa [List.take_append_of_le_length hi] at this

set_option maxRecDepth 20000 in
set_option maxHeartbeats 4000000 in
theorem m_look_l {μ : Mem} {p : List Nat} {e : Nat} {Q : Option Value → Mem → Prop} (hp5 : p.length ≤ 5) (hpl : ∀ i x, p[i]? = some x → μ.1 56 i = nI x) (h : ∀ μ', only 59 μ μ' → (∀ i x, p[i]? = some x → μ'.1 59 i = nI x) → Q none μ') : ∀ (k : Nat) (i : Nat) (μ1 : Mem), i + k = p.length → only 59 μ μ1 → (∀ j y, j < i → p[j]? = some y → μ1.1 59 j = nI y) → WP cX7_look (RX7, 4, none, 0, none) 68 [(0, .ref 40), (1, .int (nI (p.length))), (2, .int (nI e)), (3, .int (nI i))] [] μ1 Q := by
  intro k
  induction k using Nat.strongRecOn with
  | _ k ih =>
    intro i μ1 hi ho hc
    refine r_iload_n (pc := 68) dX7_look_68 rfl ?_
    refine r_iload_n (pc := 69) dX7_look_69 rfl ?_
    refine rn_icmp_ge (pc := 70) (tgt := 91) dX7_look_70 (by decide) (by omega) (by omega) (fun c70 => ?_) (fun c70 => ?_)
    · obtain rfl : i = p.length := by omega
      refine r_return (pc := 91) dX7_look_91 rfl ?_
      exact h μ1 ho (fun i x hx => hc i x (List.getElem?_eq_some_iff.mp hx).1 hx)
    · obtain ⟨x, hx⟩ : ∃ x, p[i]? = some x := ⟨p[i], List.getElem?_eq_getElem c70⟩
      refine r_aload_n (pc := 73) dX7_look_73 rfl ?_
      refine r_getR (pc := 74) (r := 59) dX7_look_74 fX7_65 rfl rfl ?_
      refine r_iload_n (pc := 77) dX7_look_77 rfl ?_
      refine r_aload_n (pc := 78) dX7_look_78 rfl ?_
      refine r_getR (pc := 79) (r := 56) dX7_look_79 fX7_56 rfl rfl ?_
      refine r_iload_n (pc := 82) dX7_look_82 rfl ?_
      refine r_iald (pc := 83) (x := (nI (x))) dX7_look_83 rfl rfl (by omega) (by show μ1.1 56 i = _; rw [ho.1 56 (by decide)]; exact hpl i x hx) ?_
      refine r_iast (pc := 84) dX7_look_84 rfl rfl (by omega) ?_
      refine rn_iinc (pc := 85) (b := 1) (ls' := [(0, .ref 40), (1, .int (nI (p.length))), (2, .int (nI e)), (3, .int (nI (i + 1)))]) dX7_look_85 rfl (by decide) (Nat.le_of_ble_eq_true rfl) rfl ?_
      refine r_goto (pc := 88) (tgt := 68) dX7_look_88 (by decide) ?_
      refine ih (k - 1) (by omega) (i + 1) _ (by omega) ho.s (fun j y hj hy => ?_)
      show upd (μ1.1 59) i (nI x) j = _
      rw [upd_at]
      by_cases e9 : j = i
      · subst e9; rw [hx] at hy; cases hy; rw [if_pos rfl]
      · rw [if_neg e9]; exact hc j y (by omega) hy

set_option maxRecDepth 20000 in
set_option maxHeartbeats 4000000 in
theorem m_look {μ0 μ : Mem} {σ : Sg} {s h0 e : Nat} {p : List Nat} {acc : List (List Nat)} {Q : Option Value → Mem → Prop} (hO : Ok σ) (hs : s < 8) (hh : h0 ≤ 1000000) (he : e < 8) (hp5 : p.length ≤ 5) (hN : WI μ0 μ σ s h0 e p acc) (h : ∀ μ', WI μ0 μ' σ s h0 e p (acc ++ [p]) → Q none μ') : Sp iX7_look 0 [.ref 40, .int (nI (p.length)), .int (nI e)] μ Q := by
  refine Sp.of vX7_look.1 (Nat.le_of_ble_eq_true rfl) ?_
  show WP cX7_look (RX7, 4, none, 0, none) 0 [(0, .ref 40), (1, .int (nI (p.length))), (2, .int (nI e))] [] μ Q
  have hcl := cw_lt hO hs hN.2.2.2.2
  have hwl := hw_le hO hh hN.2.2.2.2
  obtain ⟨o, hwo⟩ : ∃ o, wb σ s h0 e acc = o := ⟨_, rfl⟩
  have hB : BW μ σ h0 o := by rw [← hwo]; exact hN.2.1
  refine r_aload_n (pc := 0) dX7_look_0 rfl ?_
  refine r_getR (pc := 1) (r := 61) dX7_look_1 fX7_71 rfl rfl ?_
  refine r_iload_n (pc := 4) dX7_look_4 rfl ?_
  refine r_iald (pc := 5) (x := (nI (cw σ s p))) dX7_look_5 rfl rfl (by omega) (WI_c (μ := μ) hN) ?_
  refine r_iload_n (pc := 6) dX7_look_6 rfl ?_
  refine rn_icmp_ne (pc := 7) (tgt := 91) dX7_look_7 (by decide) (by omega) (by omega) (fun c7 => ?_) (fun c7 => ?_)
  · refine r_return (pc := 91) dX7_look_91 rfl ?_
    have ew : wb σ s h0 e (acc ++ [p]) = o := by rw [wb_snoc, hwo]; exact if_neg c7
    refine h μ ⟨hN.1, ?_, hN.2.2⟩
    rw [ew]
    exact hB
  · refine r_aload_n (pc := 10) dX7_look_10 rfl ?_
    refine r_getI (pc := 11) (x := oN o) dX7_look_11 fX7_168 rfl rfl (hB.2.1) ?_
    refine r_if_lt (pc := 14) (tgt := 51) dX7_look_14 (by decide) (fun c14 => ?_) (fun c14 => ?_)
    · obtain rfl : o = none := by
        cases o with
        | none => rfl
        | some r => exact absurd c14 (nI_pos (by have := (hB.2.2 r rfl).2.2; omega))
      refine r_aload_n (pc := 51) dX7_look_51 rfl ?_
      refine r_aload_n (pc := 52) dX7_look_52 rfl ?_
      refine r_getR (pc := 53) (r := 60) dX7_look_53 fX7_68 rfl rfl ?_
      refine r_iload_n (pc := 56) dX7_look_56 rfl ?_
      refine r_iald (pc := 57) (x := (nI (hw σ h0 p))) dX7_look_57 rfl rfl (by omega) (WI_h (μ := μ) hN) ?_
      refine r_putI (pc := 58) dX7_look_58 gX7_171 rfl rfl rfl rfl ?_
      refine r_aload_n (pc := 61) dX7_look_61 rfl ?_
      refine r_iload_n (pc := 62) dX7_look_62 rfl ?_
      refine r_putI (pc := 63) dX7_look_63 gX7_168 rfl rfl rfl rfl ?_
      refine r_iconst (pc := 66) (v := (nI (0))) dX7_look_66 (by decide) ?_
      refine r_istore_n (pc := 67) (ls' := [(0, .ref 40), (1, .int (nI (p.length))), (2, .int (nI e)), (3, .int (nI 0))]) dX7_look_67 (Nat.le_of_ble_eq_true rfl) rfl ?_
      have ew : wb σ s h0 e (acc ++ [p]) = some p := by rw [wb_snoc, hwo]; show (if cw σ s p = e then _ else _) = _; rw [if_pos c7]
      refine m_look_l (μ := (setI (setI μ 40 24 (nI (hw σ h0 p))) 40 25 (nI (p.length)))) hp5 hN.2.2.1 (fun μ2 ho2 hc2 => ?_) p.length 0 _ (by omega) only.rf (fun j y hj => absurd hj (Nat.not_lt_zero j))
      refine h μ2 ⟨frW.tr hN.1 ⟨fun k a b c => ?_, fun j a b => ?_, ho2.2⟩, ?_, fun i x hx => ?_, fun i hi => ?_, hN.2.2.2.2⟩
      · rw [ho2.1 k (by omega)]
        show (if k = 40 then _ else if k = 40 then _ else μ.1 k) = _
        rw [if_neg a, if_neg a]
      · rw [ho2.1 40 (by decide)]
        show upd (upd (μ.1 40) 24 _) 25 _ j = _
        rw [upd_at, if_neg b, upd_at, if_neg a]
      · rw [ew]
        refine ⟨?_, ?_, fun r hr => ?_⟩
        · rw [ho2.1 40 (by decide)]; rfl
        · rw [ho2.1 40 (by decide)]; rfl
        · cases hr
          exact ⟨hc2, hN.2.2.2.2, hp5⟩
      · rw [ho2.1 56 (by decide)]; exact hN.2.2.1 i x hx
      · rw [ho2.1 60 (by decide), ho2.1 61 (by decide)]; exact hN.2.2.2.1 i hi
    · obtain ⟨r, rfl⟩ : ∃ r, o = some r := by
        cases o with
        | none => exact absurd (by decide) c14
        | some r => exact ⟨r, rfl⟩
      have hr5 := (hB.2.2 r rfl).2.2
      have hrh := hw_le hO hh (hB.2.2 r rfl).2.1
      refine r_aload_n (pc := 17) dX7_look_17 rfl ?_
      refine r_getR (pc := 18) (r := 60) dX7_look_18 fX7_68 rfl rfl ?_
      refine r_iload_n (pc := 21) dX7_look_21 rfl ?_
      refine r_iald (pc := 22) (x := (nI (hw σ h0 p))) dX7_look_22 rfl rfl (by omega) (WI_h (μ := μ) hN) ?_
      refine r_aload_n (pc := 23) dX7_look_23 rfl ?_
      refine r_getI (pc := 24) (x := (nI (hw σ h0 r))) dX7_look_24 fX7_171 rfl rfl (hB.1) ?_
      refine rn_icmp_gt (pc := 27) (tgt := 51) dX7_look_27 (by decide) (by omega) (by omega) (fun c27 => ?_) (fun c27 => ?_)
      · refine r_aload_n (pc := 51) dX7_look_51 rfl ?_
        refine r_aload_n (pc := 52) dX7_look_52 rfl ?_
        refine r_getR (pc := 53) (r := 60) dX7_look_53 fX7_68 rfl rfl ?_
        refine r_iload_n (pc := 56) dX7_look_56 rfl ?_
        refine r_iald (pc := 57) (x := (nI (hw σ h0 p))) dX7_look_57 rfl rfl (by omega) (WI_h (μ := μ) hN) ?_
        refine r_putI (pc := 58) dX7_look_58 gX7_171 rfl rfl rfl rfl ?_
        refine r_aload_n (pc := 61) dX7_look_61 rfl ?_
        refine r_iload_n (pc := 62) dX7_look_62 rfl ?_
        refine r_putI (pc := 63) dX7_look_63 gX7_168 rfl rfl rfl rfl ?_
        refine r_iconst (pc := 66) (v := (nI (0))) dX7_look_66 (by decide) ?_
        refine r_istore_n (pc := 67) (ls' := [(0, .ref 40), (1, .int (nI (p.length))), (2, .int (nI e)), (3, .int (nI 0))]) dX7_look_67 (Nat.le_of_ble_eq_true rfl) rfl ?_
        have ew : wb σ s h0 e (acc ++ [p]) = some p := by rw [wb_snoc, hwo]; show (if cw σ s p = e then _ else _) = _; rw [if_pos c7]; exact if_pos (by omega)
        refine m_look_l (μ := (setI (setI μ 40 24 (nI (hw σ h0 p))) 40 25 (nI (p.length)))) hp5 hN.2.2.1 (fun μ2 ho2 hc2 => ?_) p.length 0 _ (by omega) only.rf (fun j y hj => absurd hj (Nat.not_lt_zero j))
        refine h μ2 ⟨frW.tr hN.1 ⟨fun k a b c => ?_, fun j a b => ?_, ho2.2⟩, ?_, fun i x hx => ?_, fun i hi => ?_, hN.2.2.2.2⟩
        · rw [ho2.1 k (by omega)]
          show (if k = 40 then _ else if k = 40 then _ else μ.1 k) = _
          rw [if_neg a, if_neg a]
        · rw [ho2.1 40 (by decide)]
          show upd (upd (μ.1 40) 24 _) 25 _ j = _
          rw [upd_at, if_neg b, upd_at, if_neg a]
        · rw [ew]
          refine ⟨?_, ?_, fun r hr => ?_⟩
          · rw [ho2.1 40 (by decide)]; rfl
          · rw [ho2.1 40 (by decide)]; rfl
          · cases hr
            exact ⟨hc2, hN.2.2.2.2, hp5⟩
        · rw [ho2.1 56 (by decide)]; exact hN.2.2.1 i x hx
        · rw [ho2.1 60 (by decide), ho2.1 61 (by decide)]; exact hN.2.2.2.1 i hi
      · refine r_aload_n (pc := 30) dX7_look_30 rfl ?_
        refine r_getR (pc := 31) (r := 60) dX7_look_31 fX7_68 rfl rfl ?_
        refine r_iload_n (pc := 34) dX7_look_34 rfl ?_
        refine r_iald (pc := 35) (x := (nI (hw σ h0 p))) dX7_look_35 rfl rfl (by omega) (WI_h (μ := μ) hN) ?_
        refine r_aload_n (pc := 36) dX7_look_36 rfl ?_
        refine r_getI (pc := 37) (x := (nI (hw σ h0 r))) dX7_look_37 fX7_171 rfl rfl (hB.1) ?_
        refine rn_icmp_ne (pc := 40) (tgt := 91) dX7_look_40 (by decide) (by omega) (by omega) (fun c40 => ?_) (fun c40 => ?_)
        · refine r_return (pc := 91) dX7_look_91 rfl ?_
          have ew : wb σ s h0 e (acc ++ [p]) = (some r) := by rw [wb_snoc, hwo]; show (if cw σ s p = e then _ else _) = _; rw [if_pos c7]; exact if_neg (fun q => by omega)
          refine h μ ⟨hN.1, ?_, hN.2.2⟩
          rw [ew]
          exact hB
        · refine r_iload_n (pc := 43) dX7_look_43 rfl ?_
          refine r_aload_n (pc := 44) dX7_look_44 rfl ?_
          refine r_getI (pc := 45) (x := (nI (r.length))) dX7_look_45 fX7_168 rfl rfl (hB.2.1) ?_
          refine rn_icmp_ge (pc := 48) (tgt := 91) dX7_look_48 (by decide) (by omega) (by omega) (fun c48 => ?_) (fun c48 => ?_)
          · refine r_return (pc := 91) dX7_look_91 rfl ?_
            have ew : wb σ s h0 e (acc ++ [p]) = (some r) := by rw [wb_snoc, hwo]; show (if cw σ s p = e then _ else _) = _; rw [if_pos c7]; exact if_neg (fun q => by omega)
            refine h μ ⟨hN.1, ?_, hN.2.2⟩
            rw [ew]
            exact hB
          · refine r_aload_n (pc := 51) dX7_look_51 rfl ?_
            refine r_aload_n (pc := 52) dX7_look_52 rfl ?_
            refine r_getR (pc := 53) (r := 60) dX7_look_53 fX7_68 rfl rfl ?_
            refine r_iload_n (pc := 56) dX7_look_56 rfl ?_
            refine r_iald (pc := 57) (x := (nI (hw σ h0 p))) dX7_look_57 rfl rfl (by omega) (WI_h (μ := μ) hN) ?_
            refine r_putI (pc := 58) dX7_look_58 gX7_171 rfl rfl rfl rfl ?_
            refine r_aload_n (pc := 61) dX7_look_61 rfl ?_
            refine r_iload_n (pc := 62) dX7_look_62 rfl ?_
            refine r_putI (pc := 63) dX7_look_63 gX7_168 rfl rfl rfl rfl ?_
            refine r_iconst (pc := 66) (v := (nI (0))) dX7_look_66 (by decide) ?_
            refine r_istore_n (pc := 67) (ls' := [(0, .ref 40), (1, .int (nI (p.length))), (2, .int (nI e)), (3, .int (nI 0))]) dX7_look_67 (Nat.le_of_ble_eq_true rfl) rfl ?_
            have ew : wb σ s h0 e (acc ++ [p]) = some p := by rw [wb_snoc, hwo]; show (if cw σ s p = e then _ else _) = _; rw [if_pos c7]; exact if_pos (by omega)
            refine m_look_l (μ := (setI (setI μ 40 24 (nI (hw σ h0 p))) 40 25 (nI (p.length)))) hp5 hN.2.2.1 (fun μ2 ho2 hc2 => ?_) p.length 0 _ (by omega) only.rf (fun j y hj => absurd hj (Nat.not_lt_zero j))
            refine h μ2 ⟨frW.tr hN.1 ⟨fun k a b c => ?_, fun j a b => ?_, ho2.2⟩, ?_, fun i x hx => ?_, fun i hi => ?_, hN.2.2.2.2⟩
            · rw [ho2.1 k (by omega)]
              show (if k = 40 then _ else if k = 40 then _ else μ.1 k) = _
              rw [if_neg a, if_neg a]
            · rw [ho2.1 40 (by decide)]
              show upd (upd (μ.1 40) 24 _) 25 _ j = _
              rw [upd_at, if_neg b, upd_at, if_neg a]
            · rw [ew]
              refine ⟨?_, ?_, fun r hr => ?_⟩
              · rw [ho2.1 40 (by decide)]; rfl
              · rw [ho2.1 40 (by decide)]; rfl
              · cases hr
                exact ⟨hc2, hN.2.2.2.2, hp5⟩
            · rw [ho2.1 56 (by decide)]; exact hN.2.2.1 i x hx
            · rw [ho2.1 60 (by decide), ho2.1 61 (by decide)]; exact hN.2.2.2.1 i hi

set_option maxRecDepth 20000 in
set_option maxHeartbeats 4000000 in
theorem m_wnode {μ0 : Mem} {σ : Sg} {s h0 e L : Nat} {Q : Option Value → Mem → Prop} (hM0 : Ms μ0 σ) (hO : Ok σ) (hs : s < 8) (hh : h0 ≤ 1000000) (he : e < 8) (hL : L ≤ 5) : ∀ (f k b : Nat) (p : List Nat) (acc : List (List Nat)) (μ1 : Mem), b + k = σ 0 0 → f + p.length + 1 = L → WI μ0 μ1 σ s h0 e p acc → (∀ μ2, WI μ0 μ2 σ s h0 e p (acc ++ wc σ f (cw σ s p) p k) → WP cX7_layWalk (RX7, 9, none, 2, none) 52 [(0, .ref 40), (1, .int (nI s)), (2, .int (nI h0)), (3, .int (nI e)), (4, .int (nI L)), (5, .int (nI (p.length))), (6, .int (nI (σ 0 0))), (7, .int (nI 1))] [] μ2 Q) → WP cX7_layWalk (RX7, 9, none, 2, none) 52 [(0, .ref 40), (1, .int (nI s)), (2, .int (nI h0)), (3, .int (nI e)), (4, .int (nI L)), (5, .int (nI (p.length))), (6, .int (nI b)), (7, .int (nI 1))] [] μ1 Q := by
  have hn := Ok_n hO
  intro f
  induction f using Nat.strongRecOn with
  | _ f ihf =>
    intro k
    induction k with
    | zero =>
      intro b p acc μ1 hbk hfp hN K
      obtain rfl : b = σ 0 0 := by omega
      exact K μ1 (by show WI μ0 μ1 σ s h0 e p (acc ++ []); rw [List.append_nil]; exact hN)
    | succ k' ihk0 =>
      intro b p acc μ1 hbk hfp hN K
      have ihk := fun b μ1 acc h1 h2 h3 => ihk0 b p acc μ1 h1 hfp h2 h3
      have hM1 := Ms_frW hN.1 hM0
      have hb12 : b < 12 := by omega
      have hbb := Ok_b hO hb12
      have hbp := Ok_p hO (j := b) (by omega)
      have hcl := cw_lt hO hs hN.2.2.2.2
      have hwl := hw_le hO hh hN.2.2.2.2
      refine r_iload (pc := 52) dX7_layWalk_52 rfl ?_
      refine rn_if_eq (pc := 54) (tgt := 249) dX7_layWalk_54 (by decide) (by decide) (fun q => absurd q (by decide)) (fun _ => ?_)
      refine r_iload (pc := 57) dX7_layWalk_57 rfl ?_
      refine r_aload_n (pc := 59) dX7_layWalk_59 rfl ?_
      refine r_getI (pc := 60) (x := (nI (σ 0 0))) dX7_layWalk_60 fX7_81 rfl rfl (Ms_n (μ := μ1) hM1) ?_
      refine rn_icmp_ne (pc := 63) (tgt := 100) dX7_layWalk_63 (by decide) (by omega) (by omega) (fun c63 => ?_) (fun c63 => ?_)
      · refine r_aload_n (pc := 100) dX7_layWalk_100 rfl ?_
        refine r_getR (pc := 101) (r := 41) dX7_layWalk_101 fX7_7 rfl rfl ?_
        refine r_iload (pc := 104) dX7_layWalk_104 rfl ?_
        refine r_iald (pc := 106) (x := (nI (σ 1 (b)))) dX7_layWalk_106 rfl rfl (by omega) (Ms_1 (μ := μ1) hM1 (by omega)) ?_
        have b1 := Ok_b hO (j := b) (by omega)
        refine r_aload_n (pc := 107) dX7_layWalk_107 rfl ?_
        refine r_getR (pc := 108) (r := 61) dX7_layWalk_108 fX7_71 rfl rfl ?_
        refine r_iload (pc := 111) dX7_layWalk_111 rfl ?_
        refine r_iald (pc := 113) (x := (nI (cw σ s p))) dX7_layWalk_113 rfl rfl (by omega) (WI_c (μ := μ1) hN) ?_
        refine rn_icmp_ne (pc := 114) (tgt := 243) dX7_layWalk_114 (by decide) (by omega) (by omega) (fun c114 => ?_) (fun c114 => ?_)
        · refine rn_iinc (pc := 243) (b := 1) (ls' := [(0, .ref 40), (1, .int (nI s)), (2, .int (nI h0)), (3, .int (nI e)), (4, .int (nI L)), (5, .int (nI (p.length))), (6, .int (nI (b + 1))), (7, .int (nI 1))]) dX7_layWalk_243 rfl (by decide) (Nat.le_of_ble_eq_true rfl) rfl ?_
          refine r_goto (pc := 246) (tgt := 52) dX7_layWalk_246 (by decide) ?_
          have hF : Wb σ f (cw σ s p) p b = [] := if_neg (fun q => c114 q.1)
          skip
          rw [wc_s σ f (cw σ s p) p (k := k') hbk] at K
          rw [hF, List.nil_append] at K
          exact ihk (b + 1) μ1 acc (by omega) hN K
        · refine r_aload_n (pc := 117) dX7_layWalk_117 rfl ?_
          refine r_iload (pc := 118) dX7_layWalk_118 rfl ?_
          refine r_callV (pc := 120) (d' := 1) (k := 40) (As := [.int (nI b)]) (rest := []) dX7_layWalk_120 vX7_isOpen mX7_97 rfl rfl rfl (Nat.le_of_ble_eq_true rfl) (Nat.le_of_ble_eq_true rfl) ?_
          refine c_mopen (μ := μ1) hM1 hO (by omega) ?_
          refine rb_if_eq (pc := 123) (tgt := 243) dX7_layWalk_123 (by decide) (fun c123 => ?_) (fun c123 => ?_)
          · refine rn_iinc (pc := 243) (b := 1) (ls' := [(0, .ref 40), (1, .int (nI s)), (2, .int (nI h0)), (3, .int (nI e)), (4, .int (nI L)), (5, .int (nI (p.length))), (6, .int (nI (b + 1))), (7, .int (nI 1))]) dX7_layWalk_243 rfl (by decide) (Nat.le_of_ble_eq_true rfl) rfl ?_
            refine r_goto (pc := 246) (tgt := 52) dX7_layWalk_246 (by decide) ?_
            have hF : Wb σ f (cw σ s p) p b = [] := if_neg (fun q => by rw [c123] at q; exact absurd q.2 (by decide))
            skip
            rw [wc_s σ f (cw σ s p) p (k := k') hbk] at K
            rw [hF, List.nil_append] at K
            exact ihk (b + 1) μ1 acc (by omega) hN K
          · refine r_aload_n (pc := 126) dX7_layWalk_126 rfl ?_
            refine r_getR (pc := 127) (r := 60) dX7_layWalk_127 fX7_68 rfl rfl ?_
            refine r_iload (pc := 130) dX7_layWalk_130 rfl ?_
            refine r_iald (pc := 132) (x := (nI (hw σ h0 p))) dX7_layWalk_132 rfl rfl (by omega) (WI_h (μ := μ1) hN) ?_
            refine r_aload_n (pc := 133) dX7_layWalk_133 rfl ?_
            refine r_getR (pc := 134) (r := 47) dX7_layWalk_134 fX7_28 rfl rfl ?_
            refine r_iload (pc := 137) dX7_layWalk_137 rfl ?_
            refine r_iald (pc := 139) (x := (nI (σ 7 (b)))) dX7_layWalk_139 rfl rfl (by omega) (Ms_7 (μ := μ1) hM1 (by omega)) ?_
            have b2 := Ok_b hO (j := b) (by omega)
            refine rn_icmp_ge (pc := 140) (tgt := 153) dX7_layWalk_140 (by decide) (by omega) (by omega) (fun c140 => ?_) (fun c140 => ?_)
            · refine r_aload_n (pc := 153) dX7_layWalk_153 rfl ?_
              refine r_getR (pc := 154) (r := 47) dX7_layWalk_154 fX7_28 rfl rfl ?_
              refine r_iload (pc := 157) dX7_layWalk_157 rfl ?_
              refine r_iald (pc := 159) (x := (nI (σ 7 (b)))) dX7_layWalk_159 rfl rfl (by omega) (Ms_7 (μ := μ1) hM1 (by omega)) ?_
              have b3 := Ok_b hO (j := b) (by omega)
              refine r_eqi (y := nI (if hw σ h0 p < σ 7 b then hw σ h0 p else σ 7 b)) (by rw [if_neg (by omega)]) ?_
              have htk : (if hw σ h0 p < σ 7 b then hw σ h0 p else σ 7 b) ≤ 1000000 := by split <;> omega
              refine r_istore (pc := 160) (ls' := [(0, .ref 40), (1, .int (nI s)), (2, .int (nI h0)), (3, .int (nI e)), (4, .int (nI L)), (5, .int (nI (p.length))), (6, .int (nI b)), (7, .int (nI 1)), (8, .int (nI (if hw σ h0 p < σ 7 b then hw σ h0 p else σ 7 b)))]) dX7_layWalk_160 (Nat.le_of_ble_eq_true rfl) rfl ?_
              refine r_aload_n (pc := 162) dX7_layWalk_162 rfl ?_
              refine r_getR (pc := 163) (r := 56) dX7_layWalk_163 fX7_56 rfl rfl ?_
              refine r_iload (pc := 166) dX7_layWalk_166 rfl ?_
              refine r_iload (pc := 168) dX7_layWalk_168 rfl ?_
              refine r_iast (pc := 170) dX7_layWalk_170 rfl rfl (by omega) ?_
              refine r_aload_n (pc := 171) dX7_layWalk_171 rfl ?_
              refine r_getR (pc := 172) (r := 60) dX7_layWalk_172 fX7_68 rfl rfl ?_
              refine r_iload (pc := 175) dX7_layWalk_175 rfl ?_
              refine r_iconst (pc := 177) (v := (nI (1))) dX7_layWalk_177 (by decide) ?_
              refine rn_iadd (pc := 178) dX7_layWalk_178 ?_
              refine r_iload (pc := 179) dX7_layWalk_179 rfl ?_
              refine r_aload_n (pc := 181) dX7_layWalk_181 rfl ?_
              refine r_getR (pc := 182) (r := 42) dX7_layWalk_182 fX7_13 rfl rfl ?_
              refine r_iload (pc := 185) dX7_layWalk_185 rfl ?_
              refine r_iald (pc := 187) (x := (nI (σ 2 (b)))) dX7_layWalk_187 rfl rfl (by omega) (Ms_2 (μ := μ1) hM1 (by omega)) ?_
              have b4 := Ok_b hO (j := b) (by omega)
              refine rn_idiv (pc := 188) dX7_layWalk_188 (by omega) (by omega) (by omega) ?_
              refine r_aload_n (pc := 189) dX7_layWalk_189 rfl ?_
              refine r_iload (pc := 190) dX7_layWalk_190 rfl ?_
              refine r_callV (pc := 192) (d' := 0) (k := 40) (As := [.int (nI b)]) (rest := [.int (nI ((if hw σ h0 p < σ 7 b then hw σ h0 p else σ 7 b) / (σ 2 (b)))), .int (nI ((p.length) + (1))), .ref 60]) dX7_layWalk_192 vX7_upper mX7_100 rfl rfl rfl (Nat.le_of_ble_eq_true rfl) (Nat.le_of_ble_eq_true rfl) ?_
              refine c_mupper (μ := (setI μ1 56 (p.length) (nI (b)))) hM1 hO (by omega) ?_
              refine rn_imul (pc := 195) dX7_layWalk_195 ?_
              refine r_eqi (y := nI (hb σ b (hw σ h0 p))) rfl ?_
              refine r_iast (pc := 196) dX7_layWalk_196 rfl rfl (by omega) ?_
              refine r_aload_n (pc := 197) dX7_layWalk_197 rfl ?_
              refine r_getR (pc := 198) (r := 61) dX7_layWalk_198 fX7_71 rfl rfl ?_
              refine r_iload (pc := 201) dX7_layWalk_201 rfl ?_
              refine r_iconst (pc := 203) (v := (nI (1))) dX7_layWalk_203 (by decide) ?_
              refine rn_iadd (pc := 204) dX7_layWalk_204 ?_
              refine r_aload_n (pc := 205) dX7_layWalk_205 rfl ?_
              refine r_getR (pc := 206) (r := 43) dX7_layWalk_206 fX7_16 rfl rfl ?_
              refine r_iload (pc := 209) dX7_layWalk_209 rfl ?_
              refine r_iald (pc := 211) (x := (nI (σ 3 (b)))) dX7_layWalk_211 rfl rfl (by omega) (Ms_3 (μ := μ1) hM1 (by omega)) ?_
              have b5 := Ok_b hO (j := b) (by omega)
              refine r_iast (pc := 212) dX7_layWalk_212 rfl rfl (by omega) ?_
              refine rn_iinc (pc := 213) (b := 1) (ls' := [(0, .ref 40), (1, .int (nI s)), (2, .int (nI h0)), (3, .int (nI e)), (4, .int (nI L)), (5, .int (nI (p.length + 1))), (6, .int (nI b)), (7, .int (nI 1)), (8, .int (nI (if hw σ h0 p < σ 7 b then hw σ h0 p else σ 7 b)))]) dX7_layWalk_213 rfl (by decide) (Nat.le_of_ble_eq_true rfl) rfl ?_
              refine r_aload_n (pc := 216) dX7_layWalk_216 rfl ?_
              refine r_iload (pc := 217) dX7_layWalk_217 rfl ?_
              refine r_iload_n (pc := 219) dX7_layWalk_219 rfl ?_
              refine r_callV (pc := 220) (d' := 0) (k := 40) (As := [.int (nI (p.length + 1)), .int (nI e)]) (rest := []) dX7_layWalk_220 vX7_look mX7_174 rfl rfl rfl (Nat.le_of_ble_eq_true rfl) (Nat.le_of_ble_eq_true rfl) ?_
              obtain ⟨μ3, hμ3⟩ : ∃ m, m = (setI (setI (setI μ1 56 (p.length) (nI (b))) 60 ((p.length) + (1)) (nI (hb σ b (hw σ h0 p)))) 61 ((p.length) + (1)) (nI (σ 3 (b)))) := ⟨_, rfl⟩
              rw [← hμ3]
              have hN3 : WI μ0 μ3 σ s h0 e (p ++ [b]) acc := by rw [hμ3]; exact WI_push (b := b) hN (by omega)
              rw [show p.length + 1 = (p ++ [b]).length by simp]
              refine m_look hO hs hh he (by simp; omega) hN3 (fun μ4 hN4 => ?_)
              have hM4 := Ms_frW hN4.1 hM0
              rw [show (p ++ [b]).length = p.length + 1 by simp]
              refine r_iload (pc := 223) dX7_layWalk_223 rfl ?_
              refine r_iload (pc := 225) dX7_layWalk_225 rfl ?_
              refine rn_icmp_ne (pc := 227) (tgt := 237) dX7_layWalk_227 (by decide) (by omega) (by omega) (fun c227 => ?_) (fun c227 => ?_)
              · refine r_iconst (pc := 237) (v := (nI (0))) dX7_layWalk_237 (by decide) ?_
                refine r_istore (pc := 238) (ls' := [(0, .ref 40), (1, .int (nI s)), (2, .int (nI h0)), (3, .int (nI e)), (4, .int (nI L)), (5, .int (nI (p.length + 1))), (6, .int (nI 0)), (7, .int (nI 1)), (8, .int (nI (if hw σ h0 p < σ 7 b then hw σ h0 p else σ 7 b)))]) dX7_layWalk_238 (Nat.le_of_ble_eq_true rfl) rfl ?_
                refine r_goto (pc := 240) (tgt := 52) dX7_layWalk_240 (by decide) ?_
                have hF : Wb σ f (cw σ s p) p b = (p ++ [b]) :: wdfs σ f (σ 3 b) (p ++ [b]) := if_pos ⟨c114, c123⟩
                refine r_pick (ls' := [(0, .ref 40), (1, .int (nI s)), (2, .int (nI h0)), (3, .int (nI e)), (4, .int (nI L)), (5, .int (nI (p.length + 1))), (6, .int (nI 0)), (7, .int (nI 1))]) [0, 1, 2, 3, 4, 5, 6, 7] rfl ?_
                rw [wc_s σ f (cw σ s p) p (k := k') hbk] at K
                rw [hF] at K
                have Kb : ∀ μ5, WI μ0 μ5 σ s h0 e (p ++ [b]) (acc ++ [p ++ [b]] ++ wdfs σ f (σ 3 b) (p ++ [b])) → WP cX7_layWalk (RX7, 9, none, 2, none) 52 [(0, .ref 40), (1, .int (nI s)), (2, .int (nI h0)), (3, .int (nI e)), (4, .int (nI L)), (5, .int (nI (p.length + 1))), (6, .int (nI (σ 0 0))), (7, .int (nI 1))] [] μ5 Q := by
                  intro μ5 h5
                  have hN6 := WI_pop h5
                  have hM6 := Ms_frW h5.1 hM0
                  have hpb : μ5.1 56 p.length = nI b := h5.2.2.1 p.length b (by simp)
                  refine r_iload (pc := 52) dX7_layWalk_52 rfl ?_
                  refine rn_if_eq (pc := 54) (tgt := 249) dX7_layWalk_54 (by decide) (by decide) (fun q => absurd q (by decide)) (fun _ => ?_)
                  refine r_iload (pc := 57) dX7_layWalk_57 rfl ?_
                  refine r_aload_n (pc := 59) dX7_layWalk_59 rfl ?_
                  refine r_getI (pc := 60) (x := (nI (σ 0 0))) dX7_layWalk_60 fX7_81 rfl rfl (Ms_n (μ := μ5) hM6) ?_
                  refine rn_icmp_ne (pc := 63) (tgt := 100) dX7_layWalk_63 (by decide) (by omega) (by omega) (fun c63 => ?_) (fun c63 => ?_)
                  · exact absurd rfl c63
                  · refine r_iload (pc := 66) dX7_layWalk_66 rfl ?_
                    refine rn_if_le (pc := 68) (tgt := 75) dX7_layWalk_68 (by decide) (by omega) (fun c68 => ?_) (fun c68 => ?_)
                    · exact absurd c68 (by omega)
                    · refine r_iconst (pc := 71) (v := (nI (1))) dX7_layWalk_71 (by decide) ?_
                      refine r_goto (pc := 72) (tgt := 76) dX7_layWalk_72 (by decide) ?_
                      refine r_istore (pc := 76) (ls' := [(0, .ref 40), (1, .int (nI s)), (2, .int (nI h0)), (3, .int (nI e)), (4, .int (nI L)), (5, .int (nI (p.length + 1))), (6, .int (nI (σ 0 0))), (7, .int (nI 1))]) dX7_layWalk_76 (Nat.le_of_ble_eq_true rfl) rfl ?_
                      refine r_iload (pc := 78) dX7_layWalk_78 rfl ?_
                      refine rn_if_eq (pc := 80) (tgt := 52) dX7_layWalk_80 (by decide) (by decide) (fun q => absurd q (by decide)) (fun _ => ?_)
                      refine r_iinc (pc := 83) (v := (nI (p.length))) (ls' := [(0, .ref 40), (1, .int (nI s)), (2, .int (nI h0)), (3, .int (nI e)), (4, .int (nI L)), (5, .int (nI (p.length))), (6, .int (nI (σ 0 0))), (7, .int (nI 1))]) dX7_layWalk_83 rfl (nI_dec1 _) (Nat.le_of_ble_eq_true rfl) rfl ?_
                      refine r_aload_n (pc := 86) dX7_layWalk_86 rfl ?_
                      refine r_getR (pc := 87) (r := 56) dX7_layWalk_87 fX7_56 rfl rfl ?_
                      refine r_iload (pc := 90) dX7_layWalk_90 rfl ?_
                      refine r_iald (pc := 92) (x := (nI (b))) dX7_layWalk_92 rfl rfl (by omega) hpb ?_
                      refine r_iconst (pc := 93) (v := (nI (1))) dX7_layWalk_93 (by decide) ?_
                      refine rn_iadd (pc := 94) dX7_layWalk_94 ?_
                      refine r_istore (pc := 95) (ls' := [(0, .ref 40), (1, .int (nI s)), (2, .int (nI h0)), (3, .int (nI e)), (4, .int (nI L)), (5, .int (nI (p.length))), (6, .int (nI (b + 1))), (7, .int (nI 1))]) dX7_layWalk_95 (Nat.le_of_ble_eq_true rfl) rfl ?_
                      refine r_goto (pc := 97) (tgt := 52) dX7_layWalk_97 (by decide) ?_
                      skip
                      exact ihk (b + 1) μ5 _ (by omega) hN6 (fun μ2 h2 => K μ2 (by simpa [List.append_assoc] using h2))
                obtain ⟨f1, rfl⟩ : ∃ f1, f = f1 + 1 := ⟨f - 1, by omega⟩
                rw [show p.length + 1 = (p ++ [b]).length by simp]
                refine ihf f1 (by omega) (σ 0 0) 0 (p ++ [b]) (acc ++ [p ++ [b]]) μ4 (by omega) (by simp; omega) hN4 (fun μ5 h5 => ?_)
                rw [cw_snoc, ← wdfs_wc] at h5
                rw [show (p ++ [b]).length = p.length + 1 by simp]
                exact Kb μ5 h5
              · refine r_aload_n (pc := 230) dX7_layWalk_230 rfl ?_
                refine r_getI (pc := 231) (x := (nI (σ 0 0))) dX7_layWalk_231 fX7_81 rfl rfl (Ms_n (μ := μ4) hM4) ?_
                refine r_goto (pc := 234) (tgt := 238) dX7_layWalk_234 (by decide) ?_
                refine r_istore (pc := 238) (ls' := [(0, .ref 40), (1, .int (nI s)), (2, .int (nI h0)), (3, .int (nI e)), (4, .int (nI L)), (5, .int (nI (p.length + 1))), (6, .int (nI (σ 0 0))), (7, .int (nI 1)), (8, .int (nI (if hw σ h0 p < σ 7 b then hw σ h0 p else σ 7 b)))]) dX7_layWalk_238 (Nat.le_of_ble_eq_true rfl) rfl ?_
                refine r_goto (pc := 240) (tgt := 52) dX7_layWalk_240 (by decide) ?_
                have hF : Wb σ f (cw σ s p) p b = (p ++ [b]) :: wdfs σ f (σ 3 b) (p ++ [b]) := if_pos ⟨c114, c123⟩
                refine r_pick (ls' := [(0, .ref 40), (1, .int (nI s)), (2, .int (nI h0)), (3, .int (nI e)), (4, .int (nI L)), (5, .int (nI (p.length + 1))), (6, .int (nI (σ 0 0))), (7, .int (nI 1))]) [0, 1, 2, 3, 4, 5, 6, 7] rfl ?_
                rw [wc_s σ f (cw σ s p) p (k := k') hbk] at K
                rw [hF] at K
                have Kb : ∀ μ5, WI μ0 μ5 σ s h0 e (p ++ [b]) (acc ++ [p ++ [b]] ++ wdfs σ f (σ 3 b) (p ++ [b])) → WP cX7_layWalk (RX7, 9, none, 2, none) 52 [(0, .ref 40), (1, .int (nI s)), (2, .int (nI h0)), (3, .int (nI e)), (4, .int (nI L)), (5, .int (nI (p.length + 1))), (6, .int (nI (σ 0 0))), (7, .int (nI 1))] [] μ5 Q := by
                  intro μ5 h5
                  have hN6 := WI_pop h5
                  have hM6 := Ms_frW h5.1 hM0
                  have hpb : μ5.1 56 p.length = nI b := h5.2.2.1 p.length b (by simp)
                  refine r_iload (pc := 52) dX7_layWalk_52 rfl ?_
                  refine rn_if_eq (pc := 54) (tgt := 249) dX7_layWalk_54 (by decide) (by decide) (fun q => absurd q (by decide)) (fun _ => ?_)
                  refine r_iload (pc := 57) dX7_layWalk_57 rfl ?_
                  refine r_aload_n (pc := 59) dX7_layWalk_59 rfl ?_
                  refine r_getI (pc := 60) (x := (nI (σ 0 0))) dX7_layWalk_60 fX7_81 rfl rfl (Ms_n (μ := μ5) hM6) ?_
                  refine rn_icmp_ne (pc := 63) (tgt := 100) dX7_layWalk_63 (by decide) (by omega) (by omega) (fun c63 => ?_) (fun c63 => ?_)
                  · exact absurd rfl c63
                  · refine r_iload (pc := 66) dX7_layWalk_66 rfl ?_
                    refine rn_if_le (pc := 68) (tgt := 75) dX7_layWalk_68 (by decide) (by omega) (fun c68 => ?_) (fun c68 => ?_)
                    · exact absurd c68 (by omega)
                    · refine r_iconst (pc := 71) (v := (nI (1))) dX7_layWalk_71 (by decide) ?_
                      refine r_goto (pc := 72) (tgt := 76) dX7_layWalk_72 (by decide) ?_
                      refine r_istore (pc := 76) (ls' := [(0, .ref 40), (1, .int (nI s)), (2, .int (nI h0)), (3, .int (nI e)), (4, .int (nI L)), (5, .int (nI (p.length + 1))), (6, .int (nI (σ 0 0))), (7, .int (nI 1))]) dX7_layWalk_76 (Nat.le_of_ble_eq_true rfl) rfl ?_
                      refine r_iload (pc := 78) dX7_layWalk_78 rfl ?_
                      refine rn_if_eq (pc := 80) (tgt := 52) dX7_layWalk_80 (by decide) (by decide) (fun q => absurd q (by decide)) (fun _ => ?_)
                      refine r_iinc (pc := 83) (v := (nI (p.length))) (ls' := [(0, .ref 40), (1, .int (nI s)), (2, .int (nI h0)), (3, .int (nI e)), (4, .int (nI L)), (5, .int (nI (p.length))), (6, .int (nI (σ 0 0))), (7, .int (nI 1))]) dX7_layWalk_83 rfl (nI_dec1 _) (Nat.le_of_ble_eq_true rfl) rfl ?_
                      refine r_aload_n (pc := 86) dX7_layWalk_86 rfl ?_
                      refine r_getR (pc := 87) (r := 56) dX7_layWalk_87 fX7_56 rfl rfl ?_
                      refine r_iload (pc := 90) dX7_layWalk_90 rfl ?_
                      refine r_iald (pc := 92) (x := (nI (b))) dX7_layWalk_92 rfl rfl (by omega) hpb ?_
                      refine r_iconst (pc := 93) (v := (nI (1))) dX7_layWalk_93 (by decide) ?_
                      refine rn_iadd (pc := 94) dX7_layWalk_94 ?_
                      refine r_istore (pc := 95) (ls' := [(0, .ref 40), (1, .int (nI s)), (2, .int (nI h0)), (3, .int (nI e)), (4, .int (nI L)), (5, .int (nI (p.length))), (6, .int (nI (b + 1))), (7, .int (nI 1))]) dX7_layWalk_95 (Nat.le_of_ble_eq_true rfl) rfl ?_
                      refine r_goto (pc := 97) (tgt := 52) dX7_layWalk_97 (by decide) ?_
                      skip
                      exact ihk (b + 1) μ5 _ (by omega) hN6 (fun μ2 h2 => K μ2 (by simpa [List.append_assoc] using h2))
                obtain rfl : f = 0 := by omega
                exact Kb μ4 (by simpa [wdfs] using hN4)
            · refine r_aload_n (pc := 143) dX7_layWalk_143 rfl ?_
              refine r_getR (pc := 144) (r := 60) dX7_layWalk_144 fX7_68 rfl rfl ?_
              refine r_iload (pc := 147) dX7_layWalk_147 rfl ?_
              refine r_iald (pc := 149) (x := (nI (hw σ h0 p))) dX7_layWalk_149 rfl rfl (by omega) (WI_h (μ := μ1) hN) ?_
              refine r_goto (pc := 150) (tgt := 160) dX7_layWalk_150 (by decide) ?_
              refine r_eqi (y := nI (if hw σ h0 p < σ 7 b then hw σ h0 p else σ 7 b)) (by rw [if_pos c140]) ?_
              have htk : (if hw σ h0 p < σ 7 b then hw σ h0 p else σ 7 b) ≤ 1000000 := by split <;> omega
              refine r_istore (pc := 160) (ls' := [(0, .ref 40), (1, .int (nI s)), (2, .int (nI h0)), (3, .int (nI e)), (4, .int (nI L)), (5, .int (nI (p.length))), (6, .int (nI b)), (7, .int (nI 1)), (8, .int (nI (if hw σ h0 p < σ 7 b then hw σ h0 p else σ 7 b)))]) dX7_layWalk_160 (Nat.le_of_ble_eq_true rfl) rfl ?_
              refine r_aload_n (pc := 162) dX7_layWalk_162 rfl ?_
              refine r_getR (pc := 163) (r := 56) dX7_layWalk_163 fX7_56 rfl rfl ?_
              refine r_iload (pc := 166) dX7_layWalk_166 rfl ?_
              refine r_iload (pc := 168) dX7_layWalk_168 rfl ?_
              refine r_iast (pc := 170) dX7_layWalk_170 rfl rfl (by omega) ?_
              refine r_aload_n (pc := 171) dX7_layWalk_171 rfl ?_
              refine r_getR (pc := 172) (r := 60) dX7_layWalk_172 fX7_68 rfl rfl ?_
              refine r_iload (pc := 175) dX7_layWalk_175 rfl ?_
              refine r_iconst (pc := 177) (v := (nI (1))) dX7_layWalk_177 (by decide) ?_
              refine rn_iadd (pc := 178) dX7_layWalk_178 ?_
              refine r_iload (pc := 179) dX7_layWalk_179 rfl ?_
              refine r_aload_n (pc := 181) dX7_layWalk_181 rfl ?_
              refine r_getR (pc := 182) (r := 42) dX7_layWalk_182 fX7_13 rfl rfl ?_
              refine r_iload (pc := 185) dX7_layWalk_185 rfl ?_
              refine r_iald (pc := 187) (x := (nI (σ 2 (b)))) dX7_layWalk_187 rfl rfl (by omega) (Ms_2 (μ := μ1) hM1 (by omega)) ?_
              have b6 := Ok_b hO (j := b) (by omega)
              refine rn_idiv (pc := 188) dX7_layWalk_188 (by omega) (by omega) (by omega) ?_
              refine r_aload_n (pc := 189) dX7_layWalk_189 rfl ?_
              refine r_iload (pc := 190) dX7_layWalk_190 rfl ?_
              refine r_callV (pc := 192) (d' := 0) (k := 40) (As := [.int (nI b)]) (rest := [.int (nI ((if hw σ h0 p < σ 7 b then hw σ h0 p else σ 7 b) / (σ 2 (b)))), .int (nI ((p.length) + (1))), .ref 60]) dX7_layWalk_192 vX7_upper mX7_100 rfl rfl rfl (Nat.le_of_ble_eq_true rfl) (Nat.le_of_ble_eq_true rfl) ?_
              refine c_mupper (μ := (setI μ1 56 (p.length) (nI (b)))) hM1 hO (by omega) ?_
              refine rn_imul (pc := 195) dX7_layWalk_195 ?_
              refine r_eqi (y := nI (hb σ b (hw σ h0 p))) rfl ?_
              refine r_iast (pc := 196) dX7_layWalk_196 rfl rfl (by omega) ?_
              refine r_aload_n (pc := 197) dX7_layWalk_197 rfl ?_
              refine r_getR (pc := 198) (r := 61) dX7_layWalk_198 fX7_71 rfl rfl ?_
              refine r_iload (pc := 201) dX7_layWalk_201 rfl ?_
              refine r_iconst (pc := 203) (v := (nI (1))) dX7_layWalk_203 (by decide) ?_
              refine rn_iadd (pc := 204) dX7_layWalk_204 ?_
              refine r_aload_n (pc := 205) dX7_layWalk_205 rfl ?_
              refine r_getR (pc := 206) (r := 43) dX7_layWalk_206 fX7_16 rfl rfl ?_
              refine r_iload (pc := 209) dX7_layWalk_209 rfl ?_
              refine r_iald (pc := 211) (x := (nI (σ 3 (b)))) dX7_layWalk_211 rfl rfl (by omega) (Ms_3 (μ := μ1) hM1 (by omega)) ?_
              have b7 := Ok_b hO (j := b) (by omega)
              refine r_iast (pc := 212) dX7_layWalk_212 rfl rfl (by omega) ?_
              refine rn_iinc (pc := 213) (b := 1) (ls' := [(0, .ref 40), (1, .int (nI s)), (2, .int (nI h0)), (3, .int (nI e)), (4, .int (nI L)), (5, .int (nI (p.length + 1))), (6, .int (nI b)), (7, .int (nI 1)), (8, .int (nI (if hw σ h0 p < σ 7 b then hw σ h0 p else σ 7 b)))]) dX7_layWalk_213 rfl (by decide) (Nat.le_of_ble_eq_true rfl) rfl ?_
              refine r_aload_n (pc := 216) dX7_layWalk_216 rfl ?_
              refine r_iload (pc := 217) dX7_layWalk_217 rfl ?_
              refine r_iload_n (pc := 219) dX7_layWalk_219 rfl ?_
              refine r_callV (pc := 220) (d' := 0) (k := 40) (As := [.int (nI (p.length + 1)), .int (nI e)]) (rest := []) dX7_layWalk_220 vX7_look mX7_174 rfl rfl rfl (Nat.le_of_ble_eq_true rfl) (Nat.le_of_ble_eq_true rfl) ?_
              obtain ⟨μ3, hμ3⟩ : ∃ m, m = (setI (setI (setI μ1 56 (p.length) (nI (b))) 60 ((p.length) + (1)) (nI (hb σ b (hw σ h0 p)))) 61 ((p.length) + (1)) (nI (σ 3 (b)))) := ⟨_, rfl⟩
              rw [← hμ3]
              have hN3 : WI μ0 μ3 σ s h0 e (p ++ [b]) acc := by rw [hμ3]; exact WI_push (b := b) hN (by omega)
              rw [show p.length + 1 = (p ++ [b]).length by simp]
              refine m_look hO hs hh he (by simp; omega) hN3 (fun μ4 hN4 => ?_)
              have hM4 := Ms_frW hN4.1 hM0
              rw [show (p ++ [b]).length = p.length + 1 by simp]
              refine r_iload (pc := 223) dX7_layWalk_223 rfl ?_
              refine r_iload (pc := 225) dX7_layWalk_225 rfl ?_
              refine rn_icmp_ne (pc := 227) (tgt := 237) dX7_layWalk_227 (by decide) (by omega) (by omega) (fun c227 => ?_) (fun c227 => ?_)
              · refine r_iconst (pc := 237) (v := (nI (0))) dX7_layWalk_237 (by decide) ?_
                refine r_istore (pc := 238) (ls' := [(0, .ref 40), (1, .int (nI s)), (2, .int (nI h0)), (3, .int (nI e)), (4, .int (nI L)), (5, .int (nI (p.length + 1))), (6, .int (nI 0)), (7, .int (nI 1)), (8, .int (nI (if hw σ h0 p < σ 7 b then hw σ h0 p else σ 7 b)))]) dX7_layWalk_238 (Nat.le_of_ble_eq_true rfl) rfl ?_
                refine r_goto (pc := 240) (tgt := 52) dX7_layWalk_240 (by decide) ?_
                have hF : Wb σ f (cw σ s p) p b = (p ++ [b]) :: wdfs σ f (σ 3 b) (p ++ [b]) := if_pos ⟨c114, c123⟩
                refine r_pick (ls' := [(0, .ref 40), (1, .int (nI s)), (2, .int (nI h0)), (3, .int (nI e)), (4, .int (nI L)), (5, .int (nI (p.length + 1))), (6, .int (nI 0)), (7, .int (nI 1))]) [0, 1, 2, 3, 4, 5, 6, 7] rfl ?_
                rw [wc_s σ f (cw σ s p) p (k := k') hbk] at K
                rw [hF] at K
                have Kb : ∀ μ5, WI μ0 μ5 σ s h0 e (p ++ [b]) (acc ++ [p ++ [b]] ++ wdfs σ f (σ 3 b) (p ++ [b])) → WP cX7_layWalk (RX7, 9, none, 2, none) 52 [(0, .ref 40), (1, .int (nI s)), (2, .int (nI h0)), (3, .int (nI e)), (4, .int (nI L)), (5, .int (nI (p.length + 1))), (6, .int (nI (σ 0 0))), (7, .int (nI 1))] [] μ5 Q := by
                  intro μ5 h5
                  have hN6 := WI_pop h5
                  have hM6 := Ms_frW h5.1 hM0
                  have hpb : μ5.1 56 p.length = nI b := h5.2.2.1 p.length b (by simp)
                  refine r_iload (pc := 52) dX7_layWalk_52 rfl ?_
                  refine rn_if_eq (pc := 54) (tgt := 249) dX7_layWalk_54 (by decide) (by decide) (fun q => absurd q (by decide)) (fun _ => ?_)
                  refine r_iload (pc := 57) dX7_layWalk_57 rfl ?_
                  refine r_aload_n (pc := 59) dX7_layWalk_59 rfl ?_
                  refine r_getI (pc := 60) (x := (nI (σ 0 0))) dX7_layWalk_60 fX7_81 rfl rfl (Ms_n (μ := μ5) hM6) ?_
                  refine rn_icmp_ne (pc := 63) (tgt := 100) dX7_layWalk_63 (by decide) (by omega) (by omega) (fun c63 => ?_) (fun c63 => ?_)
                  · exact absurd rfl c63
                  · refine r_iload (pc := 66) dX7_layWalk_66 rfl ?_
                    refine rn_if_le (pc := 68) (tgt := 75) dX7_layWalk_68 (by decide) (by omega) (fun c68 => ?_) (fun c68 => ?_)
                    · exact absurd c68 (by omega)
                    · refine r_iconst (pc := 71) (v := (nI (1))) dX7_layWalk_71 (by decide) ?_
                      refine r_goto (pc := 72) (tgt := 76) dX7_layWalk_72 (by decide) ?_
                      refine r_istore (pc := 76) (ls' := [(0, .ref 40), (1, .int (nI s)), (2, .int (nI h0)), (3, .int (nI e)), (4, .int (nI L)), (5, .int (nI (p.length + 1))), (6, .int (nI (σ 0 0))), (7, .int (nI 1))]) dX7_layWalk_76 (Nat.le_of_ble_eq_true rfl) rfl ?_
                      refine r_iload (pc := 78) dX7_layWalk_78 rfl ?_
                      refine rn_if_eq (pc := 80) (tgt := 52) dX7_layWalk_80 (by decide) (by decide) (fun q => absurd q (by decide)) (fun _ => ?_)
                      refine r_iinc (pc := 83) (v := (nI (p.length))) (ls' := [(0, .ref 40), (1, .int (nI s)), (2, .int (nI h0)), (3, .int (nI e)), (4, .int (nI L)), (5, .int (nI (p.length))), (6, .int (nI (σ 0 0))), (7, .int (nI 1))]) dX7_layWalk_83 rfl (nI_dec1 _) (Nat.le_of_ble_eq_true rfl) rfl ?_
                      refine r_aload_n (pc := 86) dX7_layWalk_86 rfl ?_
                      refine r_getR (pc := 87) (r := 56) dX7_layWalk_87 fX7_56 rfl rfl ?_
                      refine r_iload (pc := 90) dX7_layWalk_90 rfl ?_
                      refine r_iald (pc := 92) (x := (nI (b))) dX7_layWalk_92 rfl rfl (by omega) hpb ?_
                      refine r_iconst (pc := 93) (v := (nI (1))) dX7_layWalk_93 (by decide) ?_
                      refine rn_iadd (pc := 94) dX7_layWalk_94 ?_
                      refine r_istore (pc := 95) (ls' := [(0, .ref 40), (1, .int (nI s)), (2, .int (nI h0)), (3, .int (nI e)), (4, .int (nI L)), (5, .int (nI (p.length))), (6, .int (nI (b + 1))), (7, .int (nI 1))]) dX7_layWalk_95 (Nat.le_of_ble_eq_true rfl) rfl ?_
                      refine r_goto (pc := 97) (tgt := 52) dX7_layWalk_97 (by decide) ?_
                      skip
                      exact ihk (b + 1) μ5 _ (by omega) hN6 (fun μ2 h2 => K μ2 (by simpa [List.append_assoc] using h2))
                obtain ⟨f1, rfl⟩ : ∃ f1, f = f1 + 1 := ⟨f - 1, by omega⟩
                rw [show p.length + 1 = (p ++ [b]).length by simp]
                refine ihf f1 (by omega) (σ 0 0) 0 (p ++ [b]) (acc ++ [p ++ [b]]) μ4 (by omega) (by simp; omega) hN4 (fun μ5 h5 => ?_)
                rw [cw_snoc, ← wdfs_wc] at h5
                rw [show (p ++ [b]).length = p.length + 1 by simp]
                exact Kb μ5 h5
              · refine r_aload_n (pc := 230) dX7_layWalk_230 rfl ?_
                refine r_getI (pc := 231) (x := (nI (σ 0 0))) dX7_layWalk_231 fX7_81 rfl rfl (Ms_n (μ := μ4) hM4) ?_
                refine r_goto (pc := 234) (tgt := 238) dX7_layWalk_234 (by decide) ?_
                refine r_istore (pc := 238) (ls' := [(0, .ref 40), (1, .int (nI s)), (2, .int (nI h0)), (3, .int (nI e)), (4, .int (nI L)), (5, .int (nI (p.length + 1))), (6, .int (nI (σ 0 0))), (7, .int (nI 1)), (8, .int (nI (if hw σ h0 p < σ 7 b then hw σ h0 p else σ 7 b)))]) dX7_layWalk_238 (Nat.le_of_ble_eq_true rfl) rfl ?_
                refine r_goto (pc := 240) (tgt := 52) dX7_layWalk_240 (by decide) ?_
                have hF : Wb σ f (cw σ s p) p b = (p ++ [b]) :: wdfs σ f (σ 3 b) (p ++ [b]) := if_pos ⟨c114, c123⟩
                refine r_pick (ls' := [(0, .ref 40), (1, .int (nI s)), (2, .int (nI h0)), (3, .int (nI e)), (4, .int (nI L)), (5, .int (nI (p.length + 1))), (6, .int (nI (σ 0 0))), (7, .int (nI 1))]) [0, 1, 2, 3, 4, 5, 6, 7] rfl ?_
                rw [wc_s σ f (cw σ s p) p (k := k') hbk] at K
                rw [hF] at K
                have Kb : ∀ μ5, WI μ0 μ5 σ s h0 e (p ++ [b]) (acc ++ [p ++ [b]] ++ wdfs σ f (σ 3 b) (p ++ [b])) → WP cX7_layWalk (RX7, 9, none, 2, none) 52 [(0, .ref 40), (1, .int (nI s)), (2, .int (nI h0)), (3, .int (nI e)), (4, .int (nI L)), (5, .int (nI (p.length + 1))), (6, .int (nI (σ 0 0))), (7, .int (nI 1))] [] μ5 Q := by
                  intro μ5 h5
                  have hN6 := WI_pop h5
                  have hM6 := Ms_frW h5.1 hM0
                  have hpb : μ5.1 56 p.length = nI b := h5.2.2.1 p.length b (by simp)
                  refine r_iload (pc := 52) dX7_layWalk_52 rfl ?_
                  refine rn_if_eq (pc := 54) (tgt := 249) dX7_layWalk_54 (by decide) (by decide) (fun q => absurd q (by decide)) (fun _ => ?_)
                  refine r_iload (pc := 57) dX7_layWalk_57 rfl ?_
                  refine r_aload_n (pc := 59) dX7_layWalk_59 rfl ?_
                  refine r_getI (pc := 60) (x := (nI (σ 0 0))) dX7_layWalk_60 fX7_81 rfl rfl (Ms_n (μ := μ5) hM6) ?_
                  refine rn_icmp_ne (pc := 63) (tgt := 100) dX7_layWalk_63 (by decide) (by omega) (by omega) (fun c63 => ?_) (fun c63 => ?_)
                  · exact absurd rfl c63
                  · refine r_iload (pc := 66) dX7_layWalk_66 rfl ?_
                    refine rn_if_le (pc := 68) (tgt := 75) dX7_layWalk_68 (by decide) (by omega) (fun c68 => ?_) (fun c68 => ?_)
                    · exact absurd c68 (by omega)
                    · refine r_iconst (pc := 71) (v := (nI (1))) dX7_layWalk_71 (by decide) ?_
                      refine r_goto (pc := 72) (tgt := 76) dX7_layWalk_72 (by decide) ?_
                      refine r_istore (pc := 76) (ls' := [(0, .ref 40), (1, .int (nI s)), (2, .int (nI h0)), (3, .int (nI e)), (4, .int (nI L)), (5, .int (nI (p.length + 1))), (6, .int (nI (σ 0 0))), (7, .int (nI 1))]) dX7_layWalk_76 (Nat.le_of_ble_eq_true rfl) rfl ?_
                      refine r_iload (pc := 78) dX7_layWalk_78 rfl ?_
                      refine rn_if_eq (pc := 80) (tgt := 52) dX7_layWalk_80 (by decide) (by decide) (fun q => absurd q (by decide)) (fun _ => ?_)
                      refine r_iinc (pc := 83) (v := (nI (p.length))) (ls' := [(0, .ref 40), (1, .int (nI s)), (2, .int (nI h0)), (3, .int (nI e)), (4, .int (nI L)), (5, .int (nI (p.length))), (6, .int (nI (σ 0 0))), (7, .int (nI 1))]) dX7_layWalk_83 rfl (nI_dec1 _) (Nat.le_of_ble_eq_true rfl) rfl ?_
                      refine r_aload_n (pc := 86) dX7_layWalk_86 rfl ?_
                      refine r_getR (pc := 87) (r := 56) dX7_layWalk_87 fX7_56 rfl rfl ?_
                      refine r_iload (pc := 90) dX7_layWalk_90 rfl ?_
                      refine r_iald (pc := 92) (x := (nI (b))) dX7_layWalk_92 rfl rfl (by omega) hpb ?_
                      refine r_iconst (pc := 93) (v := (nI (1))) dX7_layWalk_93 (by decide) ?_
                      refine rn_iadd (pc := 94) dX7_layWalk_94 ?_
                      refine r_istore (pc := 95) (ls' := [(0, .ref 40), (1, .int (nI s)), (2, .int (nI h0)), (3, .int (nI e)), (4, .int (nI L)), (5, .int (nI (p.length))), (6, .int (nI (b + 1))), (7, .int (nI 1))]) dX7_layWalk_95 (Nat.le_of_ble_eq_true rfl) rfl ?_
                      refine r_goto (pc := 97) (tgt := 52) dX7_layWalk_97 (by decide) ?_
                      skip
                      exact ihk (b + 1) μ5 _ (by omega) hN6 (fun μ2 h2 => K μ2 (by simpa [List.append_assoc] using h2))
                obtain rfl : f = 0 := by omega
                exact Kb μ4 (by simpa [wdfs] using hN4)
      · exact absurd c63 (by omega)

def mwalk (σ : Sg) (s h e L : Nat) : Option (List Nat) := wb σ s h e ([] :: wdfs σ L s [])

set_option maxRecDepth 20000 in
set_option maxHeartbeats 4000000 in
theorem m_layw {μ : Mem} {σ : Sg} {s h0 e L : Nat} {Q : Option Value → Mem → Prop} (hM : Ms μ σ) (hO : Ok σ) (hs : s < 8) (hh : h0 ≤ 1000000) (he : e < 8) (hL : L ≤ 5) (h : ∀ μ', Ms μ' σ → keepX μ μ' → BW μ' σ h0 (mwalk σ s h0 e L) → Q none μ') : Sp iX7_layWalk 2 [.ref 40, .int (nI s), .int (nI h0), .int (nI e), .int (nI L)] μ Q := by
  refine Sp.of vX7_layWalk.1 (Nat.le_of_ble_eq_true rfl) ?_
  show WP cX7_layWalk (RX7, 9, none, 2, none) 0 [(0, .ref 40), (1, .int (nI s)), (2, .int (nI h0)), (3, .int (nI e)), (4, .int (nI L))] [] μ Q
  have hn := Ok_n hO
  refine r_aload_n (pc := 0) dX7_layWalk_0 rfl ?_
  refine r_bipush (pc := 1) (v := (-6)) dX7_layWalk_1 (by decide) ?_
  refine r_putI (pc := 3) dX7_layWalk_3 gX7_168 rfl rfl rfl rfl ?_
  refine r_aload_n (pc := 6) dX7_layWalk_6 rfl ?_
  refine r_iconst (pc := 7) (v := (nI (0))) dX7_layWalk_7 (by decide) ?_
  refine r_putI (pc := 8) dX7_layWalk_8 gX7_171 rfl rfl rfl rfl ?_
  refine r_aload_n (pc := 11) dX7_layWalk_11 rfl ?_
  refine r_getR (pc := 12) (r := 60) dX7_layWalk_12 fX7_68 rfl rfl ?_
  refine r_iconst (pc := 15) (v := (nI (0))) dX7_layWalk_15 (by decide) ?_
  refine r_iload_n (pc := 16) dX7_layWalk_16 rfl ?_
  refine r_iast (pc := 17) dX7_layWalk_17 rfl rfl (by omega) ?_
  refine r_aload_n (pc := 18) dX7_layWalk_18 rfl ?_
  refine r_getR (pc := 19) (r := 61) dX7_layWalk_19 fX7_71 rfl rfl ?_
  refine r_iconst (pc := 22) (v := (nI (0))) dX7_layWalk_22 (by decide) ?_
  refine r_iload_n (pc := 23) dX7_layWalk_23 rfl ?_
  refine r_iast (pc := 24) dX7_layWalk_24 rfl rfl (by omega) ?_
  refine r_aload_n (pc := 25) dX7_layWalk_25 rfl ?_
  refine r_iconst (pc := 26) (v := (nI (0))) dX7_layWalk_26 (by decide) ?_
  refine r_iload_n (pc := 27) dX7_layWalk_27 rfl ?_
  refine r_callV (pc := 28) (d' := 0) (k := 40) (As := [.int (nI 0), .int (nI e)]) (rest := []) dX7_layWalk_28 vX7_look mX7_174 rfl rfl rfl (Nat.le_of_ble_eq_true rfl) (Nat.le_of_ble_eq_true rfl) ?_
  obtain ⟨μ3, hμ3⟩ : ∃ m, m = (setI (setI (setI (setI μ 40 25 (-6)) 40 24 (nI (0))) 60 (0) (nI (h0))) 61 (0) (nI (s))) := ⟨_, rfl⟩
  rw [← hμ3]
  have hN3 : WI μ μ3 σ s h0 e [] [] := by
    rw [hμ3]
    refine ⟨⟨fun k a b c => ?_, fun j a b => ?_, rfl⟩, ⟨rfl, rfl, fun r hr => by cases hr⟩, fun i x hx => by simp at hx, fun i hi => ?_, fun x hx => by simp at hx⟩
    · show (if k = 61 then _ else if k = 60 then _ else if k = 40 then _ else if k = 40 then _ else μ.1 k) = _
      rw [if_neg (by omega), if_neg (by omega), if_neg a, if_neg a]
    · show upd (upd (μ.1 40) 25 _) 24 _ j = _
      rw [upd_at, if_neg a, upd_at, if_neg b]
    · have e0 : i = 0 := by simpa using hi
      subst e0
      exact ⟨rfl, rfl⟩
  refine m_look (p := []) hO hs hh he (by decide) hN3 (fun μ1 hN1 => ?_)
  have hM1 := Ms_frW hN1.1 hM
  refine r_iconst (pc := 31) (v := (nI (0))) dX7_layWalk_31 (by decide) ?_
  refine r_istore (pc := 32) (ls' := [(0, .ref 40), (1, .int (nI s)), (2, .int (nI h0)), (3, .int (nI e)), (4, .int (nI L)), (5, .int (nI 0))]) dX7_layWalk_32 (Nat.le_of_ble_eq_true rfl) rfl ?_
  refine r_iload (pc := 34) dX7_layWalk_34 rfl ?_
  refine rn_if_ne (pc := 36) (tgt := 46) dX7_layWalk_36 (by decide) (by omega) (fun c36 => ?_) (fun c36 => ?_)
  · refine r_iconst (pc := 46) (v := (nI (0))) dX7_layWalk_46 (by decide) ?_
    refine r_istore (pc := 47) (ls' := [(0, .ref 40), (1, .int (nI s)), (2, .int (nI h0)), (3, .int (nI e)), (4, .int (nI L)), (5, .int (nI 0)), (6, .int (nI 0))]) dX7_layWalk_47 (Nat.le_of_ble_eq_true rfl) rfl ?_
    refine r_iconst (pc := 49) (v := (nI (1))) dX7_layWalk_49 (by decide) ?_
    refine r_istore (pc := 50) (ls' := [(0, .ref 40), (1, .int (nI s)), (2, .int (nI h0)), (3, .int (nI e)), (4, .int (nI L)), (5, .int (nI 0)), (6, .int (nI 0)), (7, .int (nI 1))]) dX7_layWalk_50 (Nat.le_of_ble_eq_true rfl) rfl ?_
    have Kf : ∀ μ2, WI μ μ2 σ s h0 e [] ([] :: wdfs σ L s []) → WP cX7_layWalk (RX7, 9, none, 2, none) 52 [(0, .ref 40), (1, .int (nI s)), (2, .int (nI h0)), (3, .int (nI e)), (4, .int (nI L)), (5, .int (nI 0)), (6, .int (nI (σ 0 0))), (7, .int (nI 1))] [] μ2 Q := by
      intro μ2 h2
      have hM2 := Ms_frW h2.1 hM
      refine r_iload (pc := 52) dX7_layWalk_52 rfl ?_
      refine rn_if_eq (pc := 54) (tgt := 249) dX7_layWalk_54 (by decide) (by decide) (fun q => absurd q (by decide)) (fun _ => ?_)
      refine r_iload (pc := 57) dX7_layWalk_57 rfl ?_
      refine r_aload_n (pc := 59) dX7_layWalk_59 rfl ?_
      refine r_getI (pc := 60) (x := (nI (σ 0 0))) dX7_layWalk_60 fX7_81 rfl rfl (Ms_n (μ := μ2) hM2) ?_
      refine rn_icmp_ne (pc := 63) (tgt := 100) dX7_layWalk_63 (by decide) (by omega) (by omega) (fun c63 => ?_) (fun c63 => ?_)
      · exact absurd rfl c63
      · refine r_iload (pc := 66) dX7_layWalk_66 rfl ?_
        refine rn_if_le (pc := 68) (tgt := 75) dX7_layWalk_68 (by decide) (by decide) (fun _ => ?_) (fun q => absurd q (by decide))
        refine r_iconst (pc := 75) (v := (nI (0))) dX7_layWalk_75 (by decide) ?_
        refine r_istore (pc := 76) (ls' := [(0, .ref 40), (1, .int (nI s)), (2, .int (nI h0)), (3, .int (nI e)), (4, .int (nI L)), (5, .int (nI 0)), (6, .int (nI (σ 0 0))), (7, .int (nI 0))]) dX7_layWalk_76 (Nat.le_of_ble_eq_true rfl) rfl ?_
        refine r_iload (pc := 78) dX7_layWalk_78 rfl ?_
        refine rn_if_eq (pc := 80) (tgt := 52) dX7_layWalk_80 (by decide) (by decide) (fun _ => ?_) (fun q => absurd q (by decide))
        refine r_iload (pc := 52) dX7_layWalk_52 rfl ?_
        refine rn_if_eq (pc := 54) (tgt := 249) dX7_layWalk_54 (by decide) (by decide) (fun _ => ?_) (fun q => absurd q (by decide))
        refine r_return (pc := 249) dX7_layWalk_249 rfl ?_
        exact h μ2 hM2 h2.1.keep h2.2.1
    obtain ⟨f, rfl⟩ : ∃ f, L = f + 1 := ⟨L - 1, by omega⟩
    exact m_wnode hM hO hs hh he hL f (σ 0 0) 0 [] [[]] μ1 (by omega) rfl hN1 (fun μ2 h2 => Kf μ2 (by rw [wdfs_wc]; exact h2))
  · refine r_aload_n (pc := 39) dX7_layWalk_39 rfl ?_
    refine r_getI (pc := 40) (x := (nI (σ 0 0))) dX7_layWalk_40 fX7_81 rfl rfl (Ms_n (μ := μ1) hM1) ?_
    refine r_goto (pc := 43) (tgt := 47) dX7_layWalk_43 (by decide) ?_
    refine r_istore (pc := 47) (ls' := [(0, .ref 40), (1, .int (nI s)), (2, .int (nI h0)), (3, .int (nI e)), (4, .int (nI L)), (5, .int (nI 0)), (6, .int (nI (σ 0 0)))]) dX7_layWalk_47 (Nat.le_of_ble_eq_true rfl) rfl ?_
    refine r_iconst (pc := 49) (v := (nI (1))) dX7_layWalk_49 (by decide) ?_
    refine r_istore (pc := 50) (ls' := [(0, .ref 40), (1, .int (nI s)), (2, .int (nI h0)), (3, .int (nI e)), (4, .int (nI L)), (5, .int (nI 0)), (6, .int (nI (σ 0 0))), (7, .int (nI 1))]) dX7_layWalk_50 (Nat.le_of_ble_eq_true rfl) rfl ?_
    have Kf : ∀ μ2, WI μ μ2 σ s h0 e [] ([] :: wdfs σ L s []) → WP cX7_layWalk (RX7, 9, none, 2, none) 52 [(0, .ref 40), (1, .int (nI s)), (2, .int (nI h0)), (3, .int (nI e)), (4, .int (nI L)), (5, .int (nI 0)), (6, .int (nI (σ 0 0))), (7, .int (nI 1))] [] μ2 Q := by
      intro μ2 h2
      have hM2 := Ms_frW h2.1 hM
      refine r_iload (pc := 52) dX7_layWalk_52 rfl ?_
      refine rn_if_eq (pc := 54) (tgt := 249) dX7_layWalk_54 (by decide) (by decide) (fun q => absurd q (by decide)) (fun _ => ?_)
      refine r_iload (pc := 57) dX7_layWalk_57 rfl ?_
      refine r_aload_n (pc := 59) dX7_layWalk_59 rfl ?_
      refine r_getI (pc := 60) (x := (nI (σ 0 0))) dX7_layWalk_60 fX7_81 rfl rfl (Ms_n (μ := μ2) hM2) ?_
      refine rn_icmp_ne (pc := 63) (tgt := 100) dX7_layWalk_63 (by decide) (by omega) (by omega) (fun c63 => ?_) (fun c63 => ?_)
      · exact absurd rfl c63
      · refine r_iload (pc := 66) dX7_layWalk_66 rfl ?_
        refine rn_if_le (pc := 68) (tgt := 75) dX7_layWalk_68 (by decide) (by decide) (fun _ => ?_) (fun q => absurd q (by decide))
        refine r_iconst (pc := 75) (v := (nI (0))) dX7_layWalk_75 (by decide) ?_
        refine r_istore (pc := 76) (ls' := [(0, .ref 40), (1, .int (nI s)), (2, .int (nI h0)), (3, .int (nI e)), (4, .int (nI L)), (5, .int (nI 0)), (6, .int (nI (σ 0 0))), (7, .int (nI 0))]) dX7_layWalk_76 (Nat.le_of_ble_eq_true rfl) rfl ?_
        refine r_iload (pc := 78) dX7_layWalk_78 rfl ?_
        refine rn_if_eq (pc := 80) (tgt := 52) dX7_layWalk_80 (by decide) (by decide) (fun _ => ?_) (fun q => absurd q (by decide))
        refine r_iload (pc := 52) dX7_layWalk_52 rfl ?_
        refine rn_if_eq (pc := 54) (tgt := 249) dX7_layWalk_54 (by decide) (by decide) (fun _ => ?_) (fun q => absurd q (by decide))
        refine r_return (pc := 249) dX7_layWalk_249 rfl ?_
        exact h μ2 hM2 h2.1.keep h2.2.1
    subst c36
    exact Kf μ1 hN1

def sp_walk (σ : Sg) (f h t n i : Int32) : Int32 := if isB f 8 = false ∨ isB t 8 = false then -1 else if inR h (nI 0) (nI 1000000) = false ∨ inR n (nI 0) (nI 5) = false then -2 else if i = -1 then nI (oH σ (bN h) (mwalk σ (bN f) (bN h) (bN t) (bN n))) else match mwalk σ (bN f) (bN h) (bN t) (bN n) with
  | none => -6
  | some r => if i = -2 then nI r.length else if isB i r.length = false then -6 else nI (r.getD (bN i) 0)

set_option maxRecDepth 20000 in
set_option maxHeartbeats 4000000 in
theorem m_walk {μ : Mem} {σ : Sg} {f h0 t n i : Int32} {Q : Option Value → Mem → Prop} (hM : Ms μ σ) (hO : Ok σ) (h : ∀ μ', Ms μ' σ → keepX μ μ' → Q (some (.int (sp_walk σ f h0 t n i))) μ') : Sp iX7_walk 3 [.ref 40, .int (f), .int (h0), .int (t), .int (n), .int (i)] μ Q := by
  refine Sp.of vX7_walk.1 (Nat.le_of_ble_eq_true rfl) ?_
  show WP cX7_walk (RX7, 6, (some .int), 3, none) 0 [(0, .ref 40), (1, .int (f)), (2, .int (h0)), (3, .int (t)), (4, .int (n)), (5, .int (i))] [] μ Q
  have hn := Ok_n hO
  refine r_iload_n (pc := 0) dX7_walk_0 rfl ?_
  refine r_callS (pc := 1) (d' := 1) (As := [.int (f)]) (rest := []) dX7_walk_1 sX7_isCoin mX7_86 rfl rfl (Nat.le_of_ble_eq_true rfl) (Nat.le_of_ble_eq_true rfl) ?_
  refine c_mcoin ?_
  refine rb_if_eq (pc := 4) (tgt := 14) dX7_walk_4 (by decide) (fun c4 => ?_) (fun c4 => ?_)
  · refine r_iconst (pc := 14) (v := (-1)) dX7_walk_14 (by decide) ?_
    refine r_ireturn (pc := 15) dX7_walk_15 rfl (Or.inl rfl) rfl ?_
    have e9 : sp_walk σ f h0 t n i = (-1) := by simp (decide := true) [sp_walk, c4]
    rw [e9] at h
    exact h _ hM keepX.rf
  · obtain ⟨fj, hfj, rfl, -⟩ := isB_t c4
    refine r_iload_n (pc := 7) dX7_walk_7 rfl ?_
    refine r_callS (pc := 8) (d' := 1) (As := [.int (t)]) (rest := []) dX7_walk_8 sX7_isCoin mX7_86 rfl rfl (Nat.le_of_ble_eq_true rfl) (Nat.le_of_ble_eq_true rfl) ?_
    refine c_mcoin ?_
    refine rb_if_ne (pc := 11) (tgt := 16) dX7_walk_11 (by decide) (fun c11 => ?_) (fun c11 => ?_)
    · obtain ⟨tj, htj, rfl, -⟩ := isB_t c11
      refine r_iload_n (pc := 16) dX7_walk_16 rfl ?_
      refine r_iconst (pc := 17) (v := (nI (0))) dX7_walk_17 (by decide) ?_
      refine r_ldc (pc := 18) dX7_walk_18 kX7_85 ?_
      refine r_eqi (y := nI 1000000) (by decide) ?_
      refine r_callS (pc := 20) (d' := 0) (As := [.int (h0), .int (nI 0), .int (nI 1000000)]) (rest := []) dX7_walk_20 sX7_in mX7_77 rfl rfl (Nat.le_of_ble_eq_true rfl) (Nat.le_of_ble_eq_true rfl) ?_
      refine c_in ?_
      refine rb_if_eq (pc := 23) (tgt := 36) dX7_walk_23 (by decide) (fun c23 => ?_) (fun c23 => ?_)
      · refine r_bipush (pc := 36) (v := (-2)) dX7_walk_36 (by decide) ?_
        refine r_ireturn (pc := 38) dX7_walk_38 rfl (Or.inl rfl) rfl ?_
        have e9 : sp_walk σ (nI fj) h0 (nI tj) n i = (-2) := by simp (decide := true) [sp_walk, c4, c11, c23, bN_nI (show fj < 2 ^ 31 by omega), bN_nI (show tj < 2 ^ 31 by omega)]
        rw [e9] at h
        exact h _ hM keepX.rf
      · obtain ⟨hj, hhj0, hhj, rfl⟩ := inR_t (by decide) (by decide) c23
        refine r_iload (pc := 26) dX7_walk_26 rfl ?_
        refine r_iconst (pc := 28) (v := (nI (0))) dX7_walk_28 (by decide) ?_
        refine r_iconst (pc := 29) (v := (nI (5))) dX7_walk_29 (by decide) ?_
        refine r_callS (pc := 30) (d' := 0) (As := [.int (n), .int (nI 0), .int (nI 5)]) (rest := []) dX7_walk_30 sX7_in mX7_77 rfl rfl (Nat.le_of_ble_eq_true rfl) (Nat.le_of_ble_eq_true rfl) ?_
        refine c_in ?_
        refine rb_if_ne (pc := 33) (tgt := 39) dX7_walk_33 (by decide) (fun c33 => ?_) (fun c33 => ?_)
        · obtain ⟨nj, hnj0, hnj, rfl⟩ := inR_t (by decide) (by decide) c33
          refine r_aload_n (pc := 39) dX7_walk_39 rfl ?_
          refine r_iload_n (pc := 40) dX7_walk_40 rfl ?_
          refine r_iload_n (pc := 41) dX7_walk_41 rfl ?_
          refine r_iload_n (pc := 42) dX7_walk_42 rfl ?_
          refine r_iload (pc := 43) dX7_walk_43 rfl ?_
          refine r_callV (pc := 45) (d' := 2) (k := 40) (As := [.int (nI fj), .int (nI hj), .int (nI tj), .int (nI nj)]) (rest := []) dX7_walk_45 vX7_layWalk mX7_177 rfl rfl rfl (Nat.le_of_ble_eq_true rfl) (Nat.le_of_ble_eq_true rfl) ?_
          refine m_layw hM hO (by omega) (by omega) (by omega) (by omega) (fun μ1 hM1 hk1 hB => ?_)
          obtain ⟨o, hwo⟩ : ∃ o, mwalk σ fj hj tj nj = o := ⟨_, rfl⟩
          rw [hwo] at hB
          refine r_iload (pc := 48) dX7_walk_48 rfl ?_
          refine r_iconst (pc := 50) (v := (-1)) dX7_walk_50 (by decide) ?_
          refine r_icmp_ne (pc := 51) (tgt := 61) dX7_walk_51 (by decide) (fun c51 => ?_) (fun c51 => ?_)
          · refine r_aload_n (pc := 61) dX7_walk_61 rfl ?_
            refine r_getI (pc := 62) (x := oN o) dX7_walk_62 fX7_168 rfl rfl hB.2.1 ?_
            refine r_if_ge (pc := 65) (tgt := 73) dX7_walk_65 (by decide) (fun c65 => ?_) (fun c65 => ?_)
            · obtain ⟨r, rfl⟩ : ∃ r, o = some r := by
                cases o with
                | none => exact absurd c65 (by decide)
                | some r => exact ⟨r, rfl⟩
              have hr5 := (hB.2.2 r rfl).2.2
              refine r_iload (pc := 73) dX7_walk_73 rfl ?_
              refine r_bipush (pc := 75) (v := (-2)) dX7_walk_75 (by decide) ?_
              refine r_icmp_ne (pc := 77) (tgt := 87) dX7_walk_77 (by decide) (fun c77 => ?_) (fun c77 => ?_)
              · refine r_iload (pc := 87) dX7_walk_87 rfl ?_
                refine r_iconst (pc := 89) (v := (nI (0))) dX7_walk_89 (by decide) ?_
                refine r_aload_n (pc := 90) dX7_walk_90 rfl ?_
                refine r_getI (pc := 91) (x := (nI (r.length))) dX7_walk_91 fX7_168 rfl rfl hB.2.1 ?_
                refine r_iconst (pc := 94) (v := (nI (1))) dX7_walk_94 (by decide) ?_
                refine r_isub (pc := 95) dX7_walk_95 ?_
                refine r_callS (pc := 96) (d' := 0) (As := [.int (i), .int (nI 0), .int ((nI (r.length)) - (nI (1)))]) (rest := []) dX7_walk_96 sX7_in mX7_77 rfl rfl (Nat.le_of_ble_eq_true rfl) (Nat.le_of_ble_eq_true rfl) ?_
                refine c_in ?_
                refine rb_if_eq (pc := 99) (tgt := 112) dX7_walk_99 (by decide) (fun c99 => ?_) (fun c99 => ?_)
                · rw [inR_isB (by omega)] at c99
                  refine r_bipush (pc := 112) (v := (-6)) dX7_walk_112 (by decide) ?_
                  refine r_ireturn (pc := 114) dX7_walk_114 rfl (Or.inl rfl) rfl ?_
                  have e9 : sp_walk σ (nI fj) (nI hj) (nI tj) (nI nj) i = (-6) := by simp (decide := true) [sp_walk, c4, c11, c23, c33, hwo, c51, c77, c99, bN_nI (show fj < 2 ^ 31 by omega), bN_nI (show tj < 2 ^ 31 by omega), bN_nI (show hj < 2 ^ 31 by omega), bN_nI (show nj < 2 ^ 31 by omega)]
                  rw [e9] at h
                  exact h _ hM1 hk1
                · rw [inR_isB (by omega)] at c99
                  obtain ⟨ij, hij, rfl, -⟩ := isB_t c99
                  refine r_aload_n (pc := 102) dX7_walk_102 rfl ?_
                  refine r_getR (pc := 103) (r := 59) dX7_walk_103 fX7_65 rfl rfl ?_
                  refine r_iload (pc := 106) dX7_walk_106 rfl ?_
                  refine r_iald (pc := 108) (x := (nI (r.getD ij 0))) dX7_walk_108 rfl rfl (by omega) ((hB.2.2 r rfl).1 ij _ (by rw [List.getD_eq_getElem?_getD, List.getElem?_eq_getElem hij]; rfl)) ?_
                  refine r_goto (pc := 109) (tgt := 114) dX7_walk_109 (by decide) ?_
                  refine r_ireturn (pc := 114) dX7_walk_114 rfl (Or.inl rfl) rfl ?_
                  have e9 : sp_walk σ (nI fj) (nI hj) (nI tj) (nI nj) (nI ij) = (nI (r.getD ij 0)) := by simp (decide := true) [sp_walk, c4, c11, c23, c33, hwo, c51, c77, c99, bN_nI (show fj < 2 ^ 31 by omega), bN_nI (show tj < 2 ^ 31 by omega), bN_nI (show hj < 2 ^ 31 by omega), bN_nI (show nj < 2 ^ 31 by omega), bN_nI (show ij < 2 ^ 31 by omega)]
                  rw [e9] at h
                  exact h _ hM1 hk1
              · refine r_aload_n (pc := 80) dX7_walk_80 rfl ?_
                refine r_getI (pc := 81) (x := (nI (r.length))) dX7_walk_81 fX7_168 rfl rfl hB.2.1 ?_
                refine r_goto (pc := 84) (tgt := 114) dX7_walk_84 (by decide) ?_
                refine r_ireturn (pc := 114) dX7_walk_114 rfl (Or.inl rfl) rfl ?_
                subst c77
                have e9 : sp_walk σ (nI fj) (nI hj) (nI tj) (nI nj) (-2) = (nI (r.length)) := by simp (decide := true) [sp_walk, c4, c11, c23, c33, hwo, bN_nI (show fj < 2 ^ 31 by omega), bN_nI (show tj < 2 ^ 31 by omega), bN_nI (show hj < 2 ^ 31 by omega), bN_nI (show nj < 2 ^ 31 by omega)]
                rw [e9] at h
                exact h _ hM1 hk1
            · obtain rfl : o = none := by
                cases o with
                | none => rfl
                | some r => exact absurd (nI_pos' (by have := (hB.2.2 r rfl).2.2; omega)) c65
              refine r_bipush (pc := 68) (v := (-6)) dX7_walk_68 (by decide) ?_
              refine r_goto (pc := 70) (tgt := 114) dX7_walk_70 (by decide) ?_
              refine r_ireturn (pc := 114) dX7_walk_114 rfl (Or.inl rfl) rfl ?_
              have e9 : sp_walk σ (nI fj) (nI hj) (nI tj) (nI nj) i = (-6) := by simp (decide := true) [sp_walk, c4, c11, c23, c33, hwo, c51, bN_nI (show fj < 2 ^ 31 by omega), bN_nI (show tj < 2 ^ 31 by omega), bN_nI (show hj < 2 ^ 31 by omega), bN_nI (show nj < 2 ^ 31 by omega)]
              rw [e9] at h
              exact h _ hM1 hk1
          · refine r_aload_n (pc := 54) dX7_walk_54 rfl ?_
            refine r_getI (pc := 55) (x := (nI (oH σ hj o))) dX7_walk_55 fX7_171 rfl rfl hB.1 ?_
            refine r_goto (pc := 58) (tgt := 114) dX7_walk_58 (by decide) ?_
            refine r_ireturn (pc := 114) dX7_walk_114 rfl (Or.inl rfl) rfl ?_
            subst c51
            have e9 : sp_walk σ (nI fj) (nI hj) (nI tj) (nI nj) (-1) = (nI (oH σ hj o)) := by simp (decide := true) [sp_walk, c4, c11, c23, c33, hwo, bN_nI (show fj < 2 ^ 31 by omega), bN_nI (show tj < 2 ^ 31 by omega), bN_nI (show hj < 2 ^ 31 by omega), bN_nI (show nj < 2 ^ 31 by omega)]
            rw [e9] at h
            exact h _ hM1 hk1
        · refine r_bipush (pc := 36) (v := (-2)) dX7_walk_36 (by decide) ?_
          refine r_ireturn (pc := 38) dX7_walk_38 rfl (Or.inl rfl) rfl ?_
          have e9 : sp_walk σ (nI fj) (nI hj) (nI tj) n i = (-2) := by simp (decide := true) [sp_walk, c4, c11, c23, c33, bN_nI (show fj < 2 ^ 31 by omega), bN_nI (show tj < 2 ^ 31 by omega), bN_nI (show hj < 2 ^ 31 by omega)]
          rw [e9] at h
          exact h _ hM keepX.rf
    · refine r_iconst (pc := 14) (v := (-1)) dX7_walk_14 (by decide) ?_
      refine r_ireturn (pc := 15) dX7_walk_15 rfl (Or.inl rfl) rfl ?_
      have e9 : sp_walk σ (nI fj) h0 t n i = (-1) := by simp (decide := true) [sp_walk, c4, c11, bN_nI (show fj < 2 ^ 31 by omega)]
      rw [e9] at h
      exact h _ hM keepX.rf
