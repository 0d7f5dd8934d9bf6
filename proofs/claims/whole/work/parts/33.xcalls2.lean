/-! THE CLASS: greatest, shortest, best; anyGains, move, edge -/
abbrev uG (σ : Sg) (g : Nat → Nat) (f i : Nat) : Nat := pUp g f ((gsl σ g f).getD i [])
abbrev lG (σ : Sg) (g : Nat → Nat) (f i : Nat) : Nat := pLow σ ((gsl σ g f).getD i [])
def kG (σ : Sg) (g : Nat → Nat) (f i : Nat) : Nat := (gxl σ g f (rnds σ).length).getD i 0
def wG (σ : Sg) (g : Nat → Nat) (f : Nat) (o : Option Nat) : Int32 := match o with
  | none => -1
  | some j => nI (kG σ g f j)
def o1 (u : Nat → Nat) (o : Option Nat) : Nat := match o with
  | none => 1
  | some j => u j
/-- the next round that gains -/
theorem gsl_at {σ : Sg} {g : Nat → Nat} {f m : Nat} (hm : m < (rnds σ).length) (h : gns σ g f ((rnds σ).getD m []) = true) : (gsl σ g f).getD (gxl σ g f m).length [] = (rnds σ).getD m [] ∧ kG σ g f (gxl σ g f m).length = m ∧ (gxl σ g f m).length < (gsl σ g f).length := by
  obtain ⟨t, ht⟩ := gxl_pre σ g f (m + 1) ((rnds σ).length - (m + 1))
  rw [show m + 1 + ((rnds σ).length - (m + 1)) = (rnds σ).length by omega, gxl_s, if_pos h] at ht
  have h1 : (gxl σ g f (rnds σ).length)[(gxl σ g f m).length]? = some m := by
    rw [ht, List.append_assoc, List.getElem?_append_right (Nat.le_refl _), Nat.sub_self]
    rfl
  have h2 : (gsl σ g f)[(gxl σ g f m).length]? = some ((rnds σ).getD m []) := by
    rw [← gxl_all, List.getElem?_map, h1]
    rfl
  refine ⟨?_, ?_, (List.getElem?_eq_some_iff.mp h2).1⟩
  · rw [List.getD_eq_getElem?_getD, h2]
    rfl
  · unfold kG
    rw [List.getD_eq_getElem?_getD, h1]
    rfl
theorem gsl_mem {σ : Sg} {g : Nat → Nat} {f i : Nat} (h : i < (gsl σ g f).length) : (gsl σ g f).getD i [] ∈ rnds σ ∧ gns σ g f ((gsl σ g f).getD i []) = true := by
  rw [List.getD_eq_getElem?_getD, List.getElem?_eq_getElem h]
  exact List.mem_filter.mp (List.getElem_mem h)
theorem gxl_le (σ : Sg) (g : Nat → Nat) (f : Nat) {m : Nat} (h : m ≤ (rnds σ).length) : (gxl σ g f m).length ≤ (gsl σ g f).length := by
  obtain ⟨t, ht⟩ := gxl_pre σ g f m ((rnds σ).length - m)
  rw [show m + ((rnds σ).length - m) = (rnds σ).length by omega] at ht
  rw [← gxl_len, ht, List.length_append]
  omega

set_option maxRecDepth 20000 in
set_option maxHeartbeats 4000000 in
theorem x_gr_l {μ : Mem} {σ : Sg} {gc f : Nat} {g : Nat → Nat} {Q : Option Value → Mem → Prop} (hO : Ok σ) (hF : FoundOK μ σ) (hg : gvs μ gc g σ) (hf : f ≤ 98) (h : Q (some (.int (wG σ g f (mi (uG σ g f) (lG σ g f) (gsl σ g f).length)))) μ) : ∀ (k : Nat) (m : Nat) (o : Option Nat), m + k = (rnds σ).length → mi (uG σ g f) (lG σ g f) (gxl σ g f m).length = o → WP cX2_greatest (RX2, 11, (some .int), 2, none) 11 [(0, .ref 12), (1, .ref (gc)), (2, .int (nI f)), (3, .int (wG σ g f o)), (4, .long (lN (o1 (uG σ g f) o))), (6, .long (lN (o1 (lG σ g f) o))), (8, .int (nI m))] [] μ Q := by
  intro k
  induction k using Nat.strongRecOn with
  | _ k ih =>
    intro m o hm ho
    have hn := Ok_n hO
    have hRl := rnds_le hO
    refine r_iload (pc := 11) dX2_greatest_11 rfl ?_
    refine r_aload_n (pc := 13) dX2_greatest_13 rfl ?_
    refine r_getI (pc := 14) (x := (nI ((rnds σ).length))) dX2_greatest_14 fX2_28 rfl rfl hF.1 ?_
    refine rn_icmp_ge (pc := 17) (tgt := 84) dX2_greatest_17 (by decide) (by omega) (by omega) (fun c17 => ?_) (fun c17 => ?_)
    · obtain rfl : m = (rnds σ).length := by omega
      rw [gxl_len] at ho
      rw [ho] at h
      refine r_iload_n (pc := 84) dX2_greatest_84 rfl ?_
      refine r_ireturn (pc := 85) dX2_greatest_85 rfl (Or.inl rfl) rfl ?_
      exact h
    · have hmm := rnds_mem (rnds_in c17)
      have hrx := hF.2.2.1 m _ (rnds_at c17)
      have hu := pUp_lt (g := g) (f := f) (r := (rnds σ).getD m []) (fun x hx => (hg.2 x (hmm.2.1 x hx)).2) hmm.1.2
      have hl := okP_low hO hmm.2.1 hmm.1.2
      have hlp := pLow_pos hO hmm.2.1
      have hob : o1 (uG σ g f) o < 2 ^ 63 ∧ 1 ≤ o1 (lG σ g f) o ∧ o1 (lG σ g f) o < 2 ^ 63 := by
        cases o with
        | none => exact ⟨by show 1 < 2 ^ 63; decide, by show 1 ≤ 1; decide, by show 1 < 2 ^ 63; decide⟩
        | some j =>
          have hj := mi_lt ho
          have hjl := gxl_le σ g f (m := m) (by omega)
          have hmj := rnds_mem (gsl_mem (σ := σ) (g := g) (f := f) (i := j) (by omega)).1
          exact ⟨pUp_lt (fun x hx => (hg.2 x (hmj.2.1 x hx)).2) hmj.1.2, pLow_pos hO hmj.2.1, okP_low hO hmj.2.1 hmj.1.2⟩
      refine r_aload_n (pc := 20) dX2_greatest_20 rfl ?_
      refine r_iload (pc := 21) dX2_greatest_21 rfl ?_
      refine r_aload_n (pc := 23) dX2_greatest_23 rfl ?_
      refine r_iload_n (pc := 24) dX2_greatest_24 rfl ?_
      refine r_callV (pc := 25) (d' := 1) (k := 12) (As := [.int (nI m), .ref (gc), .int (nI f)]) (rest := []) dX2_greatest_25 vX2_upper mX2_91 rfl rfl rfl (Nat.le_of_ble_eq_true rfl) (Nat.le_of_ble_eq_true rfl) ?_
      refine x_upper (g := g) hO hmm.2.1 hmm.1.2 (by omega) hrx.1 hg.1 (fun x hx => hg.2 x (hmm.2.1 x hx)) hf ?_
      refine r_lstore (pc := 28) (ls' := [(0, .ref 12), (1, .ref (gc)), (2, .int (nI f)), (3, .int (wG σ g f o)), (4, .long (lN (o1 (uG σ g f) o))), (6, .long (lN (o1 (lG σ g f) o))), (8, .int (nI m)), (9, .long (lN (pUp g f ((rnds σ).getD m []))))]) dX2_greatest_28 (Nat.le_of_ble_eq_true rfl) rfl ?_
      refine r_lload (pc := 30) dX2_greatest_30 rfl ?_
      refine r_aload_n (pc := 32) dX2_greatest_32 rfl ?_
      refine r_getR (pc := 33) (r := 14) dX2_greatest_33 fX2_15 rfl rfl ?_
      refine r_iload (pc := 36) dX2_greatest_36 rfl ?_
      refine r_lald (pc := 38) (x := (lN (pLow σ ((rnds σ).getD m [])))) dX2_greatest_38 rfl rfl (by omega) hrx.2.1 ?_
      refine rn_lcmp (pc := 39) dX2_greatest_39 (by omega) (by omega) ?_
      refine rc_if_le (pc := 40) (tgt := 78) dX2_greatest_40 (by decide) (fun c40 => ?_) (fun c40 => ?_)
      · refine rn_iinc (pc := 78) (b := 1) (ls' := [(0, .ref 12), (1, .ref (gc)), (2, .int (nI f)), (3, .int (wG σ g f o)), (4, .long (lN (o1 (uG σ g f) o))), (6, .long (lN (o1 (lG σ g f) o))), (8, .int (nI (m + 1))), (9, .long (lN (pUp g f ((rnds σ).getD m []))))]) dX2_greatest_78 rfl (by decide) (Nat.le_of_ble_eq_true rfl) rfl ?_
        refine r_goto (pc := 81) (tgt := 11) dX2_greatest_81 (by decide) ?_
        have hng : ¬ gns σ g f ((rnds σ).getD m []) = true := fun q => absurd (of_decide_eq_true q) (by omega)
        refine r_pick (ls' := [(0, .ref 12), (1, .ref (gc)), (2, .int (nI f)), (3, .int (wG σ g f o)), (4, .long (lN (o1 (uG σ g f) o))), (6, .long (lN (o1 (lG σ g f) o))), (8, .int (nI (m + 1)))]) [0, 1, 2, 3, 4, 5, 6] rfl ?_
        exact ih (k - 1) (by omega) (m + 1) o (by omega) (by rw [gxl_s, if_neg hng, List.append_nil]; exact ho)
      · refine r_lload (pc := 43) dX2_greatest_43 rfl ?_
        refine r_aload_n (pc := 45) dX2_greatest_45 rfl ?_
        refine r_getR (pc := 46) (r := 14) dX2_greatest_46 fX2_15 rfl rfl ?_
        refine r_iload (pc := 49) dX2_greatest_49 rfl ?_
        refine r_lald (pc := 51) (x := (lN (pLow σ ((rnds σ).getD m [])))) dX2_greatest_51 rfl rfl (by omega) hrx.2.1 ?_
        refine r_lload (pc := 52) dX2_greatest_52 rfl ?_
        refine r_lload (pc := 54) dX2_greatest_54 rfl ?_
        refine r_callN (pc := 56) (d' := 0) (As := [.long (lN (pUp g f ((rnds σ).getD m []))), .long (lN (pLow σ ((rnds σ).getD m []))), .long (lN (o1 (uG σ g f) o)), .long (lN (o1 (lG σ g f) o))]) (rest := []) dX2_greatest_56 sX6_isAbove nX2_95 rfl rfl (Nat.le_of_ble_eq_true rfl) (Nat.le_of_ble_eq_true rfl) ?_
        refine c_above (by omega) (by omega) (by omega) (by omega) (by omega) (by omega) ?_
        refine rb_if_eq (pc := 59) (tgt := 78) dX2_greatest_59 (by decide) (fun c59 => ?_) (fun c59 => ?_)
        · refine rn_iinc (pc := 78) (b := 1) (ls' := [(0, .ref 12), (1, .ref (gc)), (2, .int (nI f)), (3, .int (wG σ g f o)), (4, .long (lN (o1 (uG σ g f) o))), (6, .long (lN (o1 (lG σ g f) o))), (8, .int (nI (m + 1))), (9, .long (lN (pUp g f ((rnds σ).getD m []))))]) dX2_greatest_78 rfl (by decide) (Nat.le_of_ble_eq_true rfl) rfl ?_
          refine r_goto (pc := 81) (tgt := 11) dX2_greatest_81 (by decide) ?_
          refine r_pick (ls' := [(0, .ref 12), (1, .ref (gc)), (2, .int (nI f)), (3, .int (wG σ g f o)), (4, .long (lN (o1 (uG σ g f) o))), (6, .long (lN (o1 (lG σ g f) o))), (8, .int (nI (m + 1)))]) [0, 1, 2, 3, 4, 5, 6] rfl ?_
          have hgn : gns σ g f ((rnds σ).getD m []) = true := decide_eq_true (by omega)
          obtain ⟨g1, g2, g3⟩ := gsl_at c17 hgn
          have hlen : (gxl σ g f (m + 1)).length = (gxl σ g f m).length + 1 := by rw [gxl_s, if_pos hgn, List.length_append]; rfl
          obtain ⟨j, rfl⟩ : ∃ j, o = some j := by
            cases o with
            | none =>
              have : above (pUp g f ((rnds σ).getD m [])) (pLow σ ((rnds σ).getD m [])) 1 1 = true := decide_eq_true (by omega)
              rw [show o1 (uG σ g f) none = 1 from rfl, show o1 (lG σ g f) none = 1 from rfl, this] at c59
              exact absurd c59 (by decide)
            | some j => exact ⟨j, rfl⟩
          exact ih (k - 1) (by omega) (m + 1) (some j) (by omega) (by rw [hlen, mi, ho]; exact if_neg (by rw [uG, lG, g1]; rw [show above (pUp g f ((rnds σ).getD m [])) (pLow σ ((rnds σ).getD m [])) (uG σ g f j) (lG σ g f j) = false from c59]; decide))
        · refine r_iload (pc := 62) dX2_greatest_62 rfl ?_
          refine r_istore_n (pc := 64) (ls' := [(0, .ref 12), (1, .ref (gc)), (2, .int (nI f)), (3, .int (nI m)), (4, .long (lN (o1 (uG σ g f) o))), (6, .long (lN (o1 (lG σ g f) o))), (8, .int (nI m)), (9, .long (lN (pUp g f ((rnds σ).getD m []))))]) dX2_greatest_64 (Nat.le_of_ble_eq_true rfl) rfl ?_
          refine r_lload (pc := 65) dX2_greatest_65 rfl ?_
          refine r_lstore (pc := 67) (ls' := [(0, .ref 12), (1, .ref (gc)), (2, .int (nI f)), (3, .int (nI m)), (4, .long (lN (pUp g f ((rnds σ).getD m [])))), (6, .long (lN (o1 (lG σ g f) o))), (8, .int (nI m)), (9, .long (lN (pUp g f ((rnds σ).getD m []))))]) dX2_greatest_67 (Nat.le_of_ble_eq_true rfl) rfl ?_
          refine r_aload_n (pc := 69) dX2_greatest_69 rfl ?_
          refine r_getR (pc := 70) (r := 14) dX2_greatest_70 fX2_15 rfl rfl ?_
          refine r_iload (pc := 73) dX2_greatest_73 rfl ?_
          refine r_lald (pc := 75) (x := (lN (pLow σ ((rnds σ).getD m [])))) dX2_greatest_75 rfl rfl (by omega) hrx.2.1 ?_
          refine r_lstore (pc := 76) (ls' := [(0, .ref 12), (1, .ref (gc)), (2, .int (nI f)), (3, .int (nI m)), (4, .long (lN (pUp g f ((rnds σ).getD m [])))), (6, .long (lN (pLow σ ((rnds σ).getD m [])))), (8, .int (nI m)), (9, .long (lN (pUp g f ((rnds σ).getD m []))))]) dX2_greatest_76 (Nat.le_of_ble_eq_true rfl) rfl ?_
          refine rn_iinc (pc := 78) (b := 1) (ls' := [(0, .ref 12), (1, .ref (gc)), (2, .int (nI f)), (3, .int (nI m)), (4, .long (lN (pUp g f ((rnds σ).getD m [])))), (6, .long (lN (pLow σ ((rnds σ).getD m [])))), (8, .int (nI (m + 1))), (9, .long (lN (pUp g f ((rnds σ).getD m []))))]) dX2_greatest_78 rfl (by decide) (Nat.le_of_ble_eq_true rfl) rfl ?_
          refine r_goto (pc := 81) (tgt := 11) dX2_greatest_81 (by decide) ?_
          have hgn : gns σ g f ((rnds σ).getD m []) = true := decide_eq_true (by omega)
          obtain ⟨g1, g2, g3⟩ := gsl_at c17 hgn
          have hlen : (gxl σ g f (m + 1)).length = (gxl σ g f m).length + 1 := by rw [gxl_s, if_pos hgn, List.length_append]; rfl
          have hmi : mi (uG σ g f) (lG σ g f) (gxl σ g f (m + 1)).length = some (gxl σ g f m).length := by
            rw [hlen, mi, ho]
            cases o with
            | none => rfl
            | some j => exact if_pos (by rw [uG, lG, g1]; exact c59)
          refine r_pick (ls' := [(0, .ref 12), (1, .ref (gc)), (2, .int (nI f)), (3, .int (nI m)), (4, .long (lN (pUp g f ((rnds σ).getD m [])))), (6, .long (lN (pLow σ ((rnds σ).getD m [])))), (8, .int (nI (m + 1)))]) [0, 1, 2, 3, 4, 5, 6] rfl ?_
          have hfin := ih (k - 1) (by omega) (m + 1) (some (gxl σ g f m).length) (by omega) hmi
          rw [show wG σ g f (some (gxl σ g f m).length) = nI m by show nI (kG σ g f _) = _; rw [g2], show o1 (uG σ g f) (some (gxl σ g f m).length) = pUp g f ((rnds σ).getD m []) by show pUp g f _ = _; rw [g1], show o1 (lG σ g f) (some (gxl σ g f m).length) = pLow σ ((rnds σ).getD m []) by show pLow σ _ = _; rw [g1]] at hfin
          exact hfin

set_option maxRecDepth 20000 in
set_option maxHeartbeats 4000000 in
theorem x_great {μ : Mem} {σ : Sg} {gc f : Nat} {g : Nat → Nat} {Q : Option Value → Mem → Prop} (hO : Ok σ) (hF : FoundOK μ σ) (hg : gvs μ gc g σ) (hf : f ≤ 98) (h : Q (some (.int (wG σ g f (mi (uG σ g f) (lG σ g f) (gsl σ g f).length)))) μ) : Sp iX2_greatest 2 [.ref 12, .ref (gc), .int (nI f)] μ Q := by
  refine Sp.of vX2_greatest.1 (Nat.le_of_ble_eq_true rfl) ?_
  show WP cX2_greatest (RX2, 11, (some .int), 2, none) 0 [(0, .ref 12), (1, .ref (gc)), (2, .int (nI f))] [] μ Q
  refine r_iconst (pc := 0) (v := (-1)) dX2_greatest_0 (by decide) ?_
  refine r_istore_n (pc := 1) (ls' := [(0, .ref 12), (1, .ref (gc)), (2, .int (nI f)), (3, .int ((-1)))]) dX2_greatest_1 (Nat.le_of_ble_eq_true rfl) rfl ?_
  refine r_lconst (pc := 2) (v := lN 1) dX2_greatest_2 rfl ?_
  refine r_lstore (pc := 3) (ls' := [(0, .ref 12), (1, .ref (gc)), (2, .int (nI f)), (3, .int ((-1))), (4, .long (lN (1)))]) dX2_greatest_3 (Nat.le_of_ble_eq_true rfl) rfl ?_
  refine r_lconst (pc := 5) (v := lN 1) dX2_greatest_5 rfl ?_
  refine r_lstore (pc := 6) (ls' := [(0, .ref 12), (1, .ref (gc)), (2, .int (nI f)), (3, .int ((-1))), (4, .long (lN (1))), (6, .long (lN (1)))]) dX2_greatest_6 (Nat.le_of_ble_eq_true rfl) rfl ?_
  refine r_iconst (pc := 8) (v := (nI (0))) dX2_greatest_8 (by decide) ?_
  refine r_istore (pc := 9) (ls' := [(0, .ref 12), (1, .ref (gc)), (2, .int (nI f)), (3, .int ((-1))), (4, .long (lN (1))), (6, .long (lN (1))), (8, .int (nI 0))]) dX2_greatest_9 (Nat.le_of_ble_eq_true rfl) rfl ?_
  exact x_gr_l hO hF hg hf h (rnds σ).length 0 none (by omega) rfl

set_option maxRecDepth 20000 in
set_option maxHeartbeats 4000000 in
theorem x_num_n {μ1 : Mem} {σ : Sg} {Q : Option Value → Mem → Prop} (hF1 : XF μ1 σ) (hO : Ok σ) (h : Q (some (.int (-6))) μ1) : ∀ (k : Nat) (n : Nat), n + k = (Gs σ).length → WP cX2_numberOfGainer (RX2, 3, (some .int), 0, none) 2 [(0, .ref 12), (1, .int ((-1))), (2, .int (nI n))] [] μ1 Q := by
  intro k
  induction k using Nat.strongRecOn with
  | _ k ih =>
    intro n hnk
    have hn := Ok_n hO
    have hGl := Gs_len hO
    have hRl := rnds_le hO
    refine r_iload_n (pc := 2) dX2_numberOfGainer_2 rfl ?_
    refine r_aload_n (pc := 3) dX2_numberOfGainer_3 rfl ?_
    refine r_getI (pc := 4) (x := (nI ((Gs σ).length))) dX2_numberOfGainer_4 fX2_32 rfl rfl (FO_n hF1.2) ?_
    refine rn_icmp_ge (pc := 7) (tgt := 28) dX2_numberOfGainer_7 (by decide) (by omega) (by omega) (fun c7 => ?_) (fun c7 => ?_)
    · refine r_bipush (pc := 28) (v := (-6)) dX2_numberOfGainer_28 (by decide) ?_
      refine r_ireturn (pc := 30) dX2_numberOfGainer_30 rfl (Or.inl rfl) rfl ?_
      exact h
    · refine r_aload_n (pc := 10) dX2_numberOfGainer_10 rfl ?_
      refine r_getR (pc := 11) (r := 16) dX2_numberOfGainer_11 fX2_22 rfl rfl ?_
      refine r_iload_n (pc := 14) dX2_numberOfGainer_14 rfl ?_
      refine r_iald (pc := 15) (x := (nI (gk σ (n)))) dX2_numberOfGainer_15 rfl rfl (by omega) (FO_i hF1.2 (by omega)).1 ?_
      have b1 := gk_lt (σ := σ) (i := n) (by omega)
      have b2 := gi_b hO (i := n) (by omega)
      refine r_iload_n (pc := 16) dX2_numberOfGainer_16 rfl ?_
      refine r_icmp_ne (pc := 17) (tgt := 22) dX2_numberOfGainer_17 (by decide) (fun c17 => ?_) (fun c17 => ?_)
      · refine rn_iinc (pc := 22) (b := 1) (ls' := [(0, .ref 12), (1, .int ((-1))), (2, .int (nI (n + 1)))]) dX2_numberOfGainer_22 rfl (by decide) (Nat.le_of_ble_eq_true rfl) rfl ?_
        refine r_goto (pc := 25) (tgt := 2) dX2_numberOfGainer_25 (by decide) ?_
        exact ih (k - 1) (by omega) (n + 1) (by omega)
      · exact absurd (by rw [c17]; decide) (nI_pos (n := gk σ n) (by omega))

set_option maxRecDepth 20000 in
set_option maxHeartbeats 4000000 in
theorem x_num_s {μ1 : Mem} {σ : Sg} {j : Nat} {Q : Option Value → Mem → Prop} (hF1 : XF μ1 σ) (hO : Ok σ) (hj : j < (Gs σ).length) (h : Q (some (.int (nI j))) μ1) : ∀ (k : Nat) (n : Nat), n + k = j → n ≤ j → WP cX2_numberOfGainer (RX2, 3, (some .int), 0, none) 2 [(0, .ref 12), (1, .int (nI (gk σ j))), (2, .int (nI n))] [] μ1 Q := by
  intro k
  induction k using Nat.strongRecOn with
  | _ k ih =>
    intro n hnk hnj
    have hn := Ok_n hO
    have hGl := Gs_len hO
    have hRl := rnds_le hO
    have hgj := gk_lt hj
    refine r_iload_n (pc := 2) dX2_numberOfGainer_2 rfl ?_
    refine r_aload_n (pc := 3) dX2_numberOfGainer_3 rfl ?_
    refine r_getI (pc := 4) (x := (nI ((Gs σ).length))) dX2_numberOfGainer_4 fX2_32 rfl rfl (FO_n hF1.2) ?_
    refine rn_icmp_ge (pc := 7) (tgt := 28) dX2_numberOfGainer_7 (by decide) (by omega) (by omega) (fun c7 => ?_) (fun c7 => ?_)
    · exact absurd c7 (by omega)
    · refine r_aload_n (pc := 10) dX2_numberOfGainer_10 rfl ?_
      refine r_getR (pc := 11) (r := 16) dX2_numberOfGainer_11 fX2_22 rfl rfl ?_
      refine r_iload_n (pc := 14) dX2_numberOfGainer_14 rfl ?_
      refine r_iald (pc := 15) (x := (nI (gk σ (n)))) dX2_numberOfGainer_15 rfl rfl (by omega) (FO_i hF1.2 (by omega)).1 ?_
      have b1 := gk_lt (σ := σ) (i := n) (by omega)
      have b2 := gi_b hO (i := n) (by omega)
      refine r_iload_n (pc := 16) dX2_numberOfGainer_16 rfl ?_
      refine rn_icmp_ne (pc := 17) (tgt := 22) dX2_numberOfGainer_17 (by decide) (by omega) (by omega) (fun c17 => ?_) (fun c17 => ?_)
      · have hne : ¬ n = j := fun q => c17 (by rw [q])
        refine rn_iinc (pc := 22) (b := 1) (ls' := [(0, .ref 12), (1, .int (nI (gk σ j))), (2, .int (nI (n + 1)))]) dX2_numberOfGainer_22 rfl (by decide) (Nat.le_of_ble_eq_true rfl) rfl ?_
        refine r_goto (pc := 25) (tgt := 2) dX2_numberOfGainer_25 (by decide) ?_
        exact ih (k - 1) (by omega) (n + 1) (by omega) (by omega)
      · obtain rfl : n = j := gk_inj (by omega) hj c17
        refine r_iload_n (pc := 20) dX2_numberOfGainer_20 rfl ?_
        refine r_ireturn (pc := 21) dX2_numberOfGainer_21 rfl (Or.inl rfl) rfl ?_
        exact h

theorem x_num {μ1 : Mem} {σ : Sg} {o : Option Nat} {Q : Option Value → Mem → Prop} (hF1 : XF μ1 σ) (hO : Ok σ) (ho : ∀ j, o = some j → j < (Gs σ).length) (h : Q (some (.int (oI o))) μ1) : Sp iX2_numberOfGainer 0 [.ref 12, .int (wG σ (σ 4) (σ 0 1) o)] μ1 Q := by
  refine Sp.of vX2_numberOfGainer.1 (Nat.le_of_ble_eq_true rfl) ?_
  cases o with
  | none =>
    show WP cX2_numberOfGainer (RX2, 3, (some .int), 0, none) 0 [(0, .ref 12), (1, .int (-1))] [] μ1 Q
    refine r_iconst (pc := 0) (v := (nI (0))) dX2_numberOfGainer_0 (by decide) ?_
    refine r_istore_n (pc := 1) (ls' := [(0, .ref 12), (1, .int (-1)), (2, .int (nI 0))]) dX2_numberOfGainer_1 (Nat.le_of_ble_eq_true rfl) rfl ?_
    exact x_num_n hF1 hO h (Gs σ).length 0 (by omega)
  | some j =>
    show WP cX2_numberOfGainer (RX2, 3, (some .int), 0, none) 0 [(0, .ref 12), (1, .int (nI (gk σ j)))] [] μ1 Q
    refine r_iconst (pc := 0) (v := (nI (0))) dX2_numberOfGainer_0 (by decide) ?_
    refine r_istore_n (pc := 1) (ls' := [(0, .ref 12), (1, .int (nI (gk σ j))), (2, .int (nI 0))]) dX2_numberOfGainer_1 (Nat.le_of_ble_eq_true rfl) rfl ?_
    exact x_num_s hF1 hO (ho j rfl) h j 0 (by omega) (by omega)

def oS (σ : Sg) (o : Option Nat) : Nat := match o with
  | none => 9
  | some j => (gi σ j).length
theorem oS_le {σ : Sg} (hO : Ok σ) {o : Option Nat} (ho : ∀ j, o = some j → j < (Gs σ).length) : oS σ o ≤ 9 := by
  cases o with
  | none => exact Nat.le_refl _
  | some j => have := (gi_b hO (ho j rfl)).1.2; show (gi σ j).length ≤ 9; omega

set_option maxRecDepth 20000 in
set_option maxHeartbeats 4000000 in
theorem x_sh_l {μ1 : Mem} {σ : Sg} {Q : Option Value → Mem → Prop} (hF1 : XF μ1 σ) (hO : Ok σ) (h : Q (some (.int (wG σ (σ 4) (σ 0 1) (si (fun i => (gi σ i).length) (Gs σ).length)))) μ1) : ∀ (k : Nat) (n : Nat) (o : Option Nat), n + k = (Gs σ).length → si (fun i => (gi σ i).length) n = o → WP cX2_shortest (RX2, 4, (some .int), 2, none) 7 [(0, .ref 12), (1, .int (wG σ (σ 4) (σ 0 1) o)), (2, .int (nI (oS σ o))), (3, .int (nI n))] [] μ1 Q := by
  intro k
  induction k using Nat.strongRecOn with
  | _ k ih =>
    intro n o hnk ho
    have hn := Ok_n hO
    have hGl := Gs_len hO
    have hRl := rnds_le hO
    have hos := oS_le hO (o := o) (fun j hj => by have := si_lt (ho.trans hj); omega)
    refine r_iload_n (pc := 7) dX2_shortest_7 rfl ?_
    refine r_aload_n (pc := 8) dX2_shortest_8 rfl ?_
    refine r_getI (pc := 9) (x := (nI ((Gs σ).length))) dX2_shortest_9 fX2_32 rfl rfl (FO_n hF1.2) ?_
    refine rn_icmp_ge (pc := 12) (tgt := 48) dX2_shortest_12 (by decide) (by omega) (by omega) (fun c12 => ?_) (fun c12 => ?_)
    · obtain rfl : n = (Gs σ).length := by omega
      rw [ho] at h
      refine r_iload_n (pc := 48) dX2_shortest_48 rfl ?_
      refine r_ireturn (pc := 49) dX2_shortest_49 rfl (Or.inl rfl) rfl ?_
      exact h
    · refine r_aload_n (pc := 15) dX2_shortest_15 rfl ?_
      refine r_aload_n (pc := 16) dX2_shortest_16 rfl ?_
      refine r_getR (pc := 17) (r := 16) dX2_shortest_17 fX2_22 rfl rfl ?_
      refine r_iload_n (pc := 20) dX2_shortest_20 rfl ?_
      refine r_iald (pc := 21) (x := (nI (gk σ (n)))) dX2_shortest_21 rfl rfl (by omega) (FO_i hF1.2 (by omega)).1 ?_
      have b1 := gk_lt (σ := σ) (i := n) (by omega)
      have b2 := gi_b hO (i := n) (by omega)
      refine r_callV (pc := 22) (d' := 1) (k := 12) (As := [.int (nI (gk σ (n)))]) (rest := []) dX2_shortest_22 vX2_length mX2_99 rfl rfl rfl (Nat.le_of_ble_eq_true rfl) (Nat.le_of_ble_eq_true rfl) ?_
      refine x_len hF1 hO (by omega) ?_
      refine r_iload_n (pc := 25) dX2_shortest_25 rfl ?_
      refine rn_icmp_ge (pc := 26) (tgt := 42) dX2_shortest_26 (by decide) (by omega) (by omega) (fun c26 => ?_) (fun c26 => ?_)
      · refine rn_iinc (pc := 42) (b := 1) (ls' := [(0, .ref 12), (1, .int (wG σ (σ 4) (σ 0 1) o)), (2, .int (nI (oS σ o))), (3, .int (nI (n + 1)))]) dX2_shortest_42 rfl (by decide) (Nat.le_of_ble_eq_true rfl) rfl ?_
        refine r_goto (pc := 45) (tgt := 7) dX2_shortest_45 (by decide) ?_
        obtain ⟨j, rfl⟩ : ∃ j, o = some j := by
          cases o with
          | none => exact absurd c26 (by show ¬ 9 ≤ _; omega)
          | some j => exact ⟨j, rfl⟩
        skip
        exact ih (k - 1) (by omega) (n + 1) (some j) (by omega) (by rw [si, ho]; exact if_neg (Nat.not_lt.mpr c26))
      · refine r_aload_n (pc := 29) dX2_shortest_29 rfl ?_
        refine r_getR (pc := 30) (r := 16) dX2_shortest_30 fX2_22 rfl rfl ?_
        refine r_iload_n (pc := 33) dX2_shortest_33 rfl ?_
        refine r_iald (pc := 34) (x := (nI (gk σ (n)))) dX2_shortest_34 rfl rfl (by omega) (FO_i hF1.2 (by omega)).1 ?_
        have b3 := gk_lt (σ := σ) (i := n) (by omega)
        have b4 := gi_b hO (i := n) (by omega)
        refine r_istore_n (pc := 35) (ls' := [(0, .ref 12), (1, .int (nI (gk σ (n)))), (2, .int (nI (oS σ o))), (3, .int (nI n))]) dX2_shortest_35 (Nat.le_of_ble_eq_true rfl) rfl ?_
        refine r_aload_n (pc := 36) dX2_shortest_36 rfl ?_
        refine r_iload_n (pc := 37) dX2_shortest_37 rfl ?_
        refine r_callV (pc := 38) (d' := 1) (k := 12) (As := [.int (nI (gk σ (n)))]) (rest := []) dX2_shortest_38 vX2_length mX2_99 rfl rfl rfl (Nat.le_of_ble_eq_true rfl) (Nat.le_of_ble_eq_true rfl) ?_
        refine x_len hF1 hO (by omega) ?_
        refine r_istore_n (pc := 41) (ls' := [(0, .ref 12), (1, .int (nI (gk σ (n)))), (2, .int (nI ((gi σ (n)).length))), (3, .int (nI n))]) dX2_shortest_41 (Nat.le_of_ble_eq_true rfl) rfl ?_
        refine rn_iinc (pc := 42) (b := 1) (ls' := [(0, .ref 12), (1, .int (nI (gk σ (n)))), (2, .int (nI ((gi σ (n)).length))), (3, .int (nI (n + 1)))]) dX2_shortest_42 rfl (by decide) (Nat.le_of_ble_eq_true rfl) rfl ?_
        refine r_goto (pc := 45) (tgt := 7) dX2_shortest_45 (by decide) ?_
        have hsi : si (fun i => (gi σ i).length) (n + 1) = some n := by
          rw [si, ho]
          cases o with
          | none => rfl
          | some j => exact if_pos c26
        skip
        exact ih (k - 1) (by omega) (n + 1) (some n) (by omega) hsi

set_option maxRecDepth 20000 in
set_option maxHeartbeats 4000000 in
theorem x_short {μ1 : Mem} {σ : Sg} {Q : Option Value → Mem → Prop} (hF1 : XF μ1 σ) (hO : Ok σ) (h : Q (some (.int (wG σ (σ 4) (σ 0 1) (si (fun i => (gi σ i).length) (Gs σ).length)))) μ1) : Sp iX2_shortest 2 [.ref 12] μ1 Q := by
  refine Sp.of vX2_shortest.1 (Nat.le_of_ble_eq_true rfl) ?_
  show WP cX2_shortest (RX2, 4, (some .int), 2, none) 0 [(0, .ref 12)] [] μ1 Q
  refine r_iconst (pc := 0) (v := (-1)) dX2_shortest_0 (by decide) ?_
  refine r_istore_n (pc := 1) (ls' := [(0, .ref 12), (1, .int ((-1)))]) dX2_shortest_1 (Nat.le_of_ble_eq_true rfl) rfl ?_
  refine r_bipush (pc := 2) (v := (nI (9))) dX2_shortest_2 (by decide) ?_
  refine r_istore_n (pc := 4) (ls' := [(0, .ref 12), (1, .int ((-1))), (2, .int (nI 9))]) dX2_shortest_4 (Nat.le_of_ble_eq_true rfl) rfl ?_
  refine r_iconst (pc := 5) (v := (nI (0))) dX2_shortest_5 (by decide) ?_
  refine r_istore_n (pc := 6) (ls' := [(0, .ref 12), (1, .int ((-1))), (2, .int (nI 9)), (3, .int (nI 0))]) dX2_shortest_6 (Nat.le_of_ble_eq_true rfl) rfl ?_
  exact x_sh_l hF1 hO h (Gs σ).length 0 none (by omega) rfl

set_option maxRecDepth 20000 in
set_option maxHeartbeats 4000000 in
theorem x_best {μ : Mem} {σ : Sg} {w : Int32} {Q : Option Value → Mem → Prop} (hI : XI μ σ) (hO : Ok σ) (h : ∀ μ', XI μ' σ → keepM μ μ' → Q (some (.int (sp_best σ w))) μ') : Sp iX6_best 14 [.ref 0, .int (w)] μ Q := by
  refine Sp.of vX6_best.1 (Nat.le_of_ble_eq_true rfl) ?_
  show WP cX6_best (RX6, 3, (some .int), 14, none) 0 [(0, .ref 0), (1, .int (w))] [] μ Q
  have hn := Ok_n hO
  refine r_iload_n (pc := 0) dX6_best_0 rfl ?_
  refine r_iconst (pc := 1) (v := (nI (0))) dX6_best_1 (by decide) ?_
  refine r_iconst (pc := 2) (v := (nI (1))) dX6_best_2 (by decide) ?_
  refine r_callS (pc := 3) (d' := 0) (As := [.int (w), .int (nI 0), .int (nI 1)]) (rest := []) dX6_best_3 sX6_isWithin mX6_59 rfl rfl (Nat.le_of_ble_eq_true rfl) (Nat.le_of_ble_eq_true rfl) ?_
  refine c_within ?_
  refine rb_if_ne (pc := 6) (tgt := 12) dX6_best_6 (by decide) (fun c6 => ?_) (fun c6 => ?_)
  · obtain ⟨wj, hw1, hw2, rfl⟩ := inR_t (by decide) (by decide) c6
    rcases (show wj = 0 ∨ wj = 1 by omega) with rfl | rfl
    · refine r_aload_n (pc := 12) dX6_best_12 rfl ?_
      refine r_callV (pc := 13) (d' := 13) (k := 0) (As := []) (rest := []) dX6_best_13 vX6_lookAround mX6_130 rfl rfl rfl (Nat.le_of_ble_eq_true rfl) (Nat.le_of_ble_eq_true rfl) ?_
      refine x_look hI hO (fun μ1 hF1 hk1 => ?_)
      have hX1 := hF1.1.1
      have hGl := Gs_len hO
      have hRl := rnds_le hO
      refine r_iload_n (pc := 16) dX6_best_16 rfl ?_
      refine rn_if_ne (pc := 17) (tgt := 46) dX6_best_17 (by decide) (by decide) (fun q => absurd q (by decide)) (fun _ => ?_)
      refine r_aload_n (pc := 20) dX6_best_20 rfl ?_
      refine r_getR (pc := 21) (r := 12) dX6_best_21 fX6_26 rfl rfl ?_
      refine r_aload_n (pc := 24) dX6_best_24 rfl ?_
      refine r_getR (pc := 25) (r := 1) dX6_best_25 fX6_12 rfl rfl ?_
      refine r_getR (pc := 28) (r := 5) dX6_best_28 fX6_86 rfl rfl ?_
      refine r_aload_n (pc := 31) dX6_best_31 rfl ?_
      refine r_getR (pc := 32) (r := 1) dX6_best_32 fX6_12 rfl rfl ?_
      refine r_getR (pc := 35) (r := 9) dX6_best_35 fX6_112 rfl rfl ?_
      refine r_iconst (pc := 38) (v := (nI (0))) dX6_best_38 (by decide) ?_
      refine r_iald (pc := 39) (x := (nI (σ 0 1))) dX6_best_39 rfl rfl (by omega) (Xs_fee (μ := μ1) hX1) ?_
      refine r_callV (pc := 40) (d' := 2) (k := 12) (As := [.ref 5, .int (nI (σ 0 1))]) (rest := []) dX6_best_40 vX2_greatest mX6_168 rfl rfl rfl (Nat.le_of_ble_eq_true rfl) (Nat.le_of_ble_eq_true rfl) ?_
      refine x_great (gc := 5) (g := σ 4) hO hF1.2 ⟨rfl, fun x hx => ⟨Xs_4 hX1 (by omega), (Ok_b hO (j := x) (by omega)).2.2.2.1⟩⟩ (by omega) ?_
      refine r_goto (pc := 43) (tgt := 53) dX6_best_43 (by decide) ?_
      refine r_istore_n (pc := 53) (ls' := [(0, .ref 0), (1, .int (nI 0)), (2, .int (wG σ (σ 4) (σ 0 1) (mi (gU σ) (gL σ) (Gs σ).length)))]) dX6_best_53 (Nat.le_of_ble_eq_true rfl) rfl ?_
      refine r_aload_n (pc := 54) dX6_best_54 rfl ?_
      refine r_getR (pc := 55) (r := 12) dX6_best_55 fX6_26 rfl rfl ?_
      refine r_iload_n (pc := 58) dX6_best_58 rfl ?_
      refine r_callV (pc := 59) (d' := 0) (k := 12) (As := [.int (wG σ (σ 4) (σ 0 1) (mi (gU σ) (gL σ) (Gs σ).length))]) (rest := []) dX6_best_59 vX2_numberOfGainer mX6_175 rfl rfl rfl (Nat.le_of_ble_eq_true rfl) (Nat.le_of_ble_eq_true rfl) ?_
      refine x_num hF1 hO (fun j hj => mi_lt hj) ?_
      refine r_ireturn (pc := 62) dX6_best_62 rfl (Or.inl rfl) rfl ?_
      have e9 : sp_best σ (nI (0)) = oI (mi (gU σ) (gL σ) (Gs σ).length) := by simp (decide := true) [sp_best]
      rw [e9] at h
      exact h _ hF1.1 hk1
    · refine r_aload_n (pc := 12) dX6_best_12 rfl ?_
      refine r_callV (pc := 13) (d' := 13) (k := 0) (As := []) (rest := []) dX6_best_13 vX6_lookAround mX6_130 rfl rfl rfl (Nat.le_of_ble_eq_true rfl) (Nat.le_of_ble_eq_true rfl) ?_
      refine x_look hI hO (fun μ1 hF1 hk1 => ?_)
      have hX1 := hF1.1.1
      have hGl := Gs_len hO
      have hRl := rnds_le hO
      refine r_iload_n (pc := 16) dX6_best_16 rfl ?_
      refine rn_if_ne (pc := 17) (tgt := 46) dX6_best_17 (by decide) (by decide) (fun _ => ?_) (fun q => absurd q (by decide))
      refine r_aload_n (pc := 46) dX6_best_46 rfl ?_
      refine r_getR (pc := 47) (r := 12) dX6_best_47 fX6_26 rfl rfl ?_
      refine r_callV (pc := 50) (d' := 2) (k := 12) (As := []) (rest := []) dX6_best_50 vX2_shortest mX6_172 rfl rfl rfl (Nat.le_of_ble_eq_true rfl) (Nat.le_of_ble_eq_true rfl) ?_
      refine x_short hF1 hO ?_
      refine r_istore_n (pc := 53) (ls' := [(0, .ref 0), (1, .int (nI 1)), (2, .int (wG σ (σ 4) (σ 0 1) (si (fun i => (gi σ i).length) (Gs σ).length)))]) dX6_best_53 (Nat.le_of_ble_eq_true rfl) rfl ?_
      refine r_aload_n (pc := 54) dX6_best_54 rfl ?_
      refine r_getR (pc := 55) (r := 12) dX6_best_55 fX6_26 rfl rfl ?_
      refine r_iload_n (pc := 58) dX6_best_58 rfl ?_
      refine r_callV (pc := 59) (d' := 0) (k := 12) (As := [.int (wG σ (σ 4) (σ 0 1) (si (fun i => (gi σ i).length) (Gs σ).length))]) (rest := []) dX6_best_59 vX2_numberOfGainer mX6_175 rfl rfl rfl (Nat.le_of_ble_eq_true rfl) (Nat.le_of_ble_eq_true rfl) ?_
      refine x_num hF1 hO (fun j hj => si_lt hj) ?_
      refine r_ireturn (pc := 62) dX6_best_62 rfl (Or.inl rfl) rfl ?_
      have e9 : sp_best σ (nI (1)) = oI (si (fun i => (gi σ i).length) (Gs σ).length) := by simp (decide := true) [sp_best]
      rw [e9] at h
      exact h _ hF1.1 hk1
  · refine r_bipush (pc := 9) (v := (-2)) dX6_best_9 (by decide) ?_
    refine r_ireturn (pc := 11) dX6_best_11 rfl (Or.inl rfl) rfl ?_
    have e9 : sp_best σ w = -2 := by simp [sp_best, c6]
    rw [e9] at h
    exact h _ hI keepM.rf
