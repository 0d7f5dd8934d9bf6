/-! THE MODEL: gets, span, joined, parts -/
def stG (σ : Sg) : Bool := decide (0 < (Gs σ).length)
def sp_gets (σ : Sg) (f t part : Int32) : Int64 := if isB f 8 = false ∨ isB t 8 = false then -1000000000000000001 else if inR part (nI 0) (nI 1) = false then -1000000000000000002 else if stG σ = true then -1000000000000000003 else lN (lowT (mget σ (bN f) (bN t)).1 (mget σ (bN f) (bN t)).2 (bN part))
def sp_span (σ : Sg) (c o e part : Int32) : Int64 := if isB c 8 = false ∨ isB o 8 = false then -1000000000000000001 else if inR e (nI 0) (nI 1) = false ∨ inR part (nI 0) (nI 1) = false then -1000000000000000002 else if stG σ = true then -1000000000000000003 else if e = nI 0 then lN (lowT (mget σ (bN c) (bN o)).1 (mget σ (bN c) (bN o)).2 (bN part)) else if (mget σ (bN o) (bN c)).1 = 0 then lN (bN part) else lN (lowT (mget σ (bN o) (bN c)).2 (mget σ (bN o) (bN c)).1 (bN part))
/-- coins that are reached: boards in turn, eight times -/
def rp (σ : Sg) (x : Nat) : Nat → Nat
  | 0 => x
  | b + 1 => rp σ x b ||| (if opn σ b = true ∧ (rp σ x b).testBit (σ 1 b) = true then 2 ^ σ 3 b else 0)
def rc (σ : Sg) (c : Nat) : Nat → Nat
  | 0 => 2 ^ c
  | r + 1 => rp σ (rc σ c r) (σ 0 0)
theorem rp_lt {σ : Sg} (hO : Ok σ) {x : Nat} (hx : x < 2 ^ 8) : ∀ b, b ≤ 12 → rp σ x b < 2 ^ 8
  | 0, _ => hx
  | b + 1, h => by
    unfold rp
    refine or_lt (rp_lt hO hx b (by omega)) ?_
    split
    · exact Nat.pow_lt_pow_right (by decide) (Ok_b hO (j := b) (by omega)).2.2.1
    · decide
theorem rc_lt {σ : Sg} (hO : Ok σ) {c : Nat} (hc : c < 8) : ∀ r, rc σ c r < 2 ^ 8
  | 0 => Nat.pow_lt_pow_right (by decide) hc
  | r + 1 => rp_lt hO (rc_lt hO hc r) _ hO.1
def jn (σ : Sg) (c : Nat) : Nat → Nat
  | 0 => 0
  | k + 1 => jn σ c k ||| (if (rc σ c 8).testBit k = true ∧ (rc σ k 8).testBit c = true then 2 ^ k else 0)
theorem jn_lt (σ : Sg) (c : Nat) : ∀ k, jn σ c k < 2 ^ k
  | 0 => Nat.one_pos
  | k + 1 => by
    unfold jn
    refine or_lt (Nat.lt_of_lt_of_le (jn_lt σ c k) (Nat.pow_le_pow_right (by decide) (by omega))) ?_
    split
    · exact Nat.pow_lt_pow_right (by decide) (by omega)
    · exact Nat.two_pow_pos _
def pts (σ : Sg) : Nat → Nat
  | 0 => 0
  | c + 1 => pts σ c ||| jn σ c 8
theorem pts_lt (σ : Sg) : ∀ c, pts σ c < 2 ^ 8
  | 0 => by show 0 < 2 ^ 8; decide
  | c + 1 => or_lt (pts_lt σ c) (jn_lt σ c 8)
def ptn (σ : Sg) : Nat → Nat
  | 0 => 0
  | c + 1 => ptn σ c + (1 - pts σ c / 2 ^ c % 2)
theorem ptn_le (σ : Sg) : ∀ c, ptn σ c ≤ c
  | 0 => Nat.le_refl _
  | c + 1 => by
    have := ptn_le σ c
    show ptn σ c + (1 - pts σ c / 2 ^ c % 2) ≤ c + 1
    omega
theorem xor1 {a : Nat} (h : a < 2) : nI a ^^^ nI 1 = nI (1 - a) := by
  rcases (show a = 0 ∨ a = 1 by omega) with rfl | rfl <;> decide
def sp_joined (σ : Sg) (c : Int32) : Int32 := if isB c 8 = false then -1 else if stG σ = true then -3 else nI (jn σ (bN c) 8)
def sp_parts (σ : Sg) : Int32 := if stG σ = true then -3 else nI (ptn σ 8)

set_option maxRecDepth 20000 in
set_option maxHeartbeats 4000000 in
theorem m_gets {μ : Mem} {σ : Sg} {f t part : Int32} {Q : Option Value → Mem → Prop} (hM : Ms μ σ) (hO : Ok σ) (h : ∀ μ', Ms μ' σ → keepX μ μ' → Q (some (.long (sp_gets σ f t part))) μ') : Sp iX7_gets 4 [.ref 40, .int (f), .int (t), .int (part)] μ Q := by
  refine Sp.of vX7_gets.1 (Nat.le_of_ble_eq_true rfl) ?_
  show WP cX7_gets (RX7, 4, (some .long), 4, none) 0 [(0, .ref 40), (1, .int (f)), (2, .int (t)), (3, .int (part))] [] μ Q
  have hn := Ok_n hO
  refine r_iload_n (pc := 0) dX7_gets_0 rfl ?_
  refine r_callS (pc := 1) (d' := 1) (As := [.int (f)]) (rest := []) dX7_gets_1 sX7_isCoin mX7_86 rfl rfl (Nat.le_of_ble_eq_true rfl) (Nat.le_of_ble_eq_true rfl) ?_
  refine c_mcoin ?_
  refine rb_if_eq (pc := 4) (tgt := 14) dX7_gets_4 (by decide) (fun c4 => ?_) (fun c4 => ?_)
  · refine r_ldc2 (pc := 14) dX7_gets_14 kX7_127 ?_
    refine r_lreturn (pc := 17) dX7_gets_17 rfl ?_
    have e9 : sp_gets σ f t part = (-1000000000000000001) := by simp [sp_gets, c4]
    rw [e9] at h
    exact h _ hM keepX.rf
  · obtain ⟨fj, hfj, rfl, -⟩ := isB_t c4
    refine r_iload_n (pc := 7) dX7_gets_7 rfl ?_
    refine r_callS (pc := 8) (d' := 1) (As := [.int (t)]) (rest := []) dX7_gets_8 sX7_isCoin mX7_86 rfl rfl (Nat.le_of_ble_eq_true rfl) (Nat.le_of_ble_eq_true rfl) ?_
    refine c_mcoin ?_
    refine rb_if_ne (pc := 11) (tgt := 18) dX7_gets_11 (by decide) (fun c11 => ?_) (fun c11 => ?_)
    · obtain ⟨tj, htj, rfl, -⟩ := isB_t c11
      refine r_iload_n (pc := 18) dX7_gets_18 rfl ?_
      refine r_iconst (pc := 19) (v := (nI (0))) dX7_gets_19 (by decide) ?_
      refine r_iconst (pc := 20) (v := (nI (1))) dX7_gets_20 (by decide) ?_
      refine r_callS (pc := 21) (d' := 0) (As := [.int (part), .int (nI 0), .int (nI 1)]) (rest := []) dX7_gets_21 sX7_in mX7_77 rfl rfl (Nat.le_of_ble_eq_true rfl) (Nat.le_of_ble_eq_true rfl) ?_
      refine c_in ?_
      refine rb_if_ne (pc := 24) (tgt := 31) dX7_gets_24 (by decide) (fun c24 => ?_) (fun c24 => ?_)
      · obtain ⟨pj, hpj0, hpj, rfl⟩ := inR_t (by decide) (by decide) c24
        refine r_aload_n (pc := 31) dX7_gets_31 rfl ?_
        refine r_callV (pc := 32) (d' := 3) (k := 40) (As := []) (rest := []) dX7_gets_32 vX7_someGains mX7_152 rfl rfl rfl (Nat.le_of_ble_eq_true rfl) (Nat.le_of_ble_eq_true rfl) ?_
        refine m_some hM hO (fun μ1 hM1 hk1 hG1 => ?_)
        rw [show decide (0 < (Gs σ).length) = stG σ from rfl]
        refine rb_if_eq (pc := 35) (tgt := 42) dX7_gets_35 (by decide) (fun c35 => ?_) (fun c35 => ?_)
        · refine r_aload_n (pc := 42) dX7_gets_42 rfl ?_
          refine r_iload_n (pc := 43) dX7_gets_43 rfl ?_
          refine r_iload_n (pc := 44) dX7_gets_44 rfl ?_
          refine r_callV (pc := 45) (d' := 2) (k := 40) (As := [.int (nI fj), .int (nI tj)]) (rest := []) dX7_gets_45 vX7_layGets mX7_158 rfl rfl rfl (Nat.le_of_ble_eq_true rfl) (Nat.le_of_ble_eq_true rfl) ?_
          refine m_layg hM1 hO (by omega) (by omega) (fun μ2 hM2 hk2 hu2 hl2 => ?_)
          have hmo := mget_ok hO (fj) (tj)
          refine r_aload_n (pc := 48) dX7_gets_48 rfl ?_
          refine r_getL (pc := 49) (x := (lN ((mget σ fj tj).1))) dX7_gets_49 fX7_145 rfl rfl hu2 ?_
          refine r_aload_n (pc := 52) dX7_gets_52 rfl ?_
          refine r_getL (pc := 53) (x := (lN ((mget σ fj tj).2))) dX7_gets_53 fX7_149 rfl rfl hl2 ?_
          refine r_iload_n (pc := 56) dX7_gets_56 rfl ?_
          refine r_callS (pc := 57) (d' := 0) (As := [.long (lN ((mget σ fj tj).1)), .long (lN ((mget σ fj tj).2)), .int (nI pj)]) (rest := []) dX7_gets_57 sX7_term mX7_129 rfl rfl (Nat.le_of_ble_eq_true rfl) (Nat.le_of_ble_eq_true rfl) ?_
          refine c_term (by omega) (by omega) (by omega) (by omega) ?_
          refine r_lreturn (pc := 60) dX7_gets_60 rfl ?_
          have e9 : sp_gets σ (nI fj) (nI tj) (nI pj) = (lN (lowT ((mget σ fj tj).1) ((mget σ fj tj).2) (pj))) := by simp [sp_gets, c4, c11, c24, c35, bN_nI (show fj < 2 ^ 31 by omega), bN_nI (show tj < 2 ^ 31 by omega), bN_nI (show pj < 2 ^ 31 by omega)]
          rw [e9] at h
          exact h _ hM2 (keepX.tr hk1 hk2)
        · refine r_ldc2 (pc := 38) dX7_gets_38 kX7_156 ?_
          refine r_lreturn (pc := 41) dX7_gets_41 rfl ?_
          have e9 : sp_gets σ (nI fj) (nI tj) (nI pj) = (-1000000000000000003) := by simp [sp_gets, c4, c11, c24, c35, bN_nI (show fj < 2 ^ 31 by omega), bN_nI (show tj < 2 ^ 31 by omega), bN_nI (show pj < 2 ^ 31 by omega)]
          rw [e9] at h
          exact h _ hM1 hk1
      · refine r_ldc2 (pc := 27) dX7_gets_27 kX7_133 ?_
        refine r_lreturn (pc := 30) dX7_gets_30 rfl ?_
        have e9 : sp_gets σ (nI fj) (nI tj) part = (-1000000000000000002) := by simp [sp_gets, c4, c11, c24, bN_nI (show fj < 2 ^ 31 by omega), bN_nI (show tj < 2 ^ 31 by omega)]
        rw [e9] at h
        exact h _ hM keepX.rf
    · refine r_ldc2 (pc := 14) dX7_gets_14 kX7_127 ?_
      refine r_lreturn (pc := 17) dX7_gets_17 rfl ?_
      have e9 : sp_gets σ (nI fj) t part = (-1000000000000000001) := by simp [sp_gets, c4, c11, bN_nI (show fj < 2 ^ 31 by omega)]
      rw [e9] at h
      exact h _ hM keepX.rf

set_option maxRecDepth 20000 in
set_option maxHeartbeats 4000000 in
theorem m_span {μ : Mem} {σ : Sg} {c o e part : Int32} {Q : Option Value → Mem → Prop} (hM : Ms μ σ) (hO : Ok σ) (h : ∀ μ', Ms μ' σ → keepX μ μ' → Q (some (.long (sp_span σ c o e part))) μ') : Sp iX7_span 4 [.ref 40, .int (c), .int (o), .int (e), .int (part)] μ Q := by
  refine Sp.of vX7_span.1 (Nat.le_of_ble_eq_true rfl) ?_
  show WP cX7_span (RX7, 5, (some .long), 4, none) 0 [(0, .ref 40), (1, .int (c)), (2, .int (o)), (3, .int (e)), (4, .int (part))] [] μ Q
  have hn := Ok_n hO
  refine r_iload_n (pc := 0) dX7_span_0 rfl ?_
  refine r_callS (pc := 1) (d' := 1) (As := [.int (c)]) (rest := []) dX7_span_1 sX7_isCoin mX7_86 rfl rfl (Nat.le_of_ble_eq_true rfl) (Nat.le_of_ble_eq_true rfl) ?_
  refine c_mcoin ?_
  refine rb_if_eq (pc := 4) (tgt := 14) dX7_span_4 (by decide) (fun c4 => ?_) (fun c4 => ?_)
  · refine r_ldc2 (pc := 14) dX7_span_14 kX7_127 ?_
    refine r_lreturn (pc := 17) dX7_span_17 rfl ?_
    have e9 : sp_span σ c o e part = (-1000000000000000001) := by simp (decide := true) [sp_span, c4]
    rw [e9] at h
    exact h _ hM keepX.rf
  · obtain ⟨cj, hcj, rfl, -⟩ := isB_t c4
    refine r_iload_n (pc := 7) dX7_span_7 rfl ?_
    refine r_callS (pc := 8) (d' := 1) (As := [.int (o)]) (rest := []) dX7_span_8 sX7_isCoin mX7_86 rfl rfl (Nat.le_of_ble_eq_true rfl) (Nat.le_of_ble_eq_true rfl) ?_
    refine c_mcoin ?_
    refine rb_if_ne (pc := 11) (tgt := 18) dX7_span_11 (by decide) (fun c11 => ?_) (fun c11 => ?_)
    · obtain ⟨oj, hoj, rfl, -⟩ := isB_t c11
      refine r_iload_n (pc := 18) dX7_span_18 rfl ?_
      refine r_iconst (pc := 19) (v := (nI (0))) dX7_span_19 (by decide) ?_
      refine r_iconst (pc := 20) (v := (nI (1))) dX7_span_20 (by decide) ?_
      refine r_callS (pc := 21) (d' := 0) (As := [.int (e), .int (nI 0), .int (nI 1)]) (rest := []) dX7_span_21 sX7_in mX7_77 rfl rfl (Nat.le_of_ble_eq_true rfl) (Nat.le_of_ble_eq_true rfl) ?_
      refine c_in ?_
      refine rb_if_eq (pc := 24) (tgt := 37) dX7_span_24 (by decide) (fun c24 => ?_) (fun c24 => ?_)
      · refine r_ldc2 (pc := 37) dX7_span_37 kX7_133 ?_
        refine r_lreturn (pc := 40) dX7_span_40 rfl ?_
        have e9 : sp_span σ (nI cj) (nI oj) e part = (-1000000000000000002) := by simp (decide := true) [sp_span, c4, c11, c24, bN_nI (show cj < 2 ^ 31 by omega), bN_nI (show oj < 2 ^ 31 by omega)]
        rw [e9] at h
        exact h _ hM keepX.rf
      · obtain ⟨ej, hej0, hej, rfl⟩ := inR_t (by decide) (by decide) c24
        rcases (show ej = 0 ∨ ej = 1 by omega) with rfl | rfl
        · refine r_iload (pc := 27) dX7_span_27 rfl ?_
          refine r_iconst (pc := 29) (v := (nI (0))) dX7_span_29 (by decide) ?_
          refine r_iconst (pc := 30) (v := (nI (1))) dX7_span_30 (by decide) ?_
          refine r_callS (pc := 31) (d' := 0) (As := [.int (part), .int (nI 0), .int (nI 1)]) (rest := []) dX7_span_31 sX7_in mX7_77 rfl rfl (Nat.le_of_ble_eq_true rfl) (Nat.le_of_ble_eq_true rfl) ?_
          refine c_in ?_
          refine rb_if_ne (pc := 34) (tgt := 41) dX7_span_34 (by decide) (fun c34 => ?_) (fun c34 => ?_)
          · obtain ⟨pj, hpj0, hpj, rfl⟩ := inR_t (by decide) (by decide) c34
            refine r_aload_n (pc := 41) dX7_span_41 rfl ?_
            refine r_callV (pc := 42) (d' := 3) (k := 40) (As := []) (rest := []) dX7_span_42 vX7_someGains mX7_152 rfl rfl rfl (Nat.le_of_ble_eq_true rfl) (Nat.le_of_ble_eq_true rfl) ?_
            refine m_some hM hO (fun μ1 hM1 hk1 hG1 => ?_)
            rw [show decide (0 < (Gs σ).length) = stG σ from rfl]
            refine rb_if_eq (pc := 45) (tgt := 52) dX7_span_45 (by decide) (fun c45 => ?_) (fun c45 => ?_)
            · refine r_iload_n (pc := 52) dX7_span_52 rfl ?_
              refine rn_if_ne (pc := 53) (tgt := 76) dX7_span_53 (by decide) (by decide) (fun q => absurd q (by decide)) (fun _ => ?_)
              refine r_aload_n (pc := 56) dX7_span_56 rfl ?_
              refine r_iload_n (pc := 57) dX7_span_57 rfl ?_
              refine r_iload_n (pc := 58) dX7_span_58 rfl ?_
              refine r_callV (pc := 59) (d' := 2) (k := 40) (As := [.int (nI cj), .int (nI oj)]) (rest := []) dX7_span_59 vX7_layGets mX7_158 rfl rfl rfl (Nat.le_of_ble_eq_true rfl) (Nat.le_of_ble_eq_true rfl) ?_
              refine m_layg hM1 hO (by omega) (by omega) (fun μ2 hM2 hk2 hu2 hl2 => ?_)
              have hmo := mget_ok hO (cj) (oj)
              refine r_aload_n (pc := 62) dX7_span_62 rfl ?_
              refine r_getL (pc := 63) (x := (lN ((mget σ cj oj).1))) dX7_span_63 fX7_145 rfl rfl hu2 ?_
              refine r_aload_n (pc := 66) dX7_span_66 rfl ?_
              refine r_getL (pc := 67) (x := (lN ((mget σ cj oj).2))) dX7_span_67 fX7_149 rfl rfl hl2 ?_
              refine r_iload (pc := 70) dX7_span_70 rfl ?_
              refine r_callS (pc := 72) (d' := 0) (As := [.long (lN ((mget σ cj oj).1)), .long (lN ((mget σ cj oj).2)), .int (nI pj)]) (rest := []) dX7_span_72 sX7_term mX7_129 rfl rfl (Nat.le_of_ble_eq_true rfl) (Nat.le_of_ble_eq_true rfl) ?_
              refine c_term (by omega) (by omega) (by omega) (by omega) ?_
              refine r_lreturn (pc := 75) dX7_span_75 rfl ?_
              have e9 : sp_span σ (nI cj) (nI oj) (nI (0)) (nI pj) = (lN (lowT ((mget σ cj oj).1) ((mget σ cj oj).2) (pj))) := by simp (decide := true) [sp_span, c4, c11, c24, c34, c45, bN_nI (show cj < 2 ^ 31 by omega), bN_nI (show oj < 2 ^ 31 by omega), bN_nI (show pj < 2 ^ 31 by omega)]
              rw [e9] at h
              exact h _ hM2 (keepX.tr hk1 hk2)
            · refine r_ldc2 (pc := 48) dX7_span_48 kX7_156 ?_
              refine r_lreturn (pc := 51) dX7_span_51 rfl ?_
              have e9 : sp_span σ (nI cj) (nI oj) (nI (0)) (nI pj) = (-1000000000000000003) := by simp (decide := true) [sp_span, c4, c11, c24, c34, c45, bN_nI (show cj < 2 ^ 31 by omega), bN_nI (show oj < 2 ^ 31 by omega), bN_nI (show pj < 2 ^ 31 by omega)]
              rw [e9] at h
              exact h _ hM1 hk1
          · refine r_ldc2 (pc := 37) dX7_span_37 kX7_133 ?_
            refine r_lreturn (pc := 40) dX7_span_40 rfl ?_
            have e9 : sp_span σ (nI cj) (nI oj) (nI (0)) part = (-1000000000000000002) := by simp (decide := true) [sp_span, c4, c11, c24, c34, bN_nI (show cj < 2 ^ 31 by omega), bN_nI (show oj < 2 ^ 31 by omega)]
            rw [e9] at h
            exact h _ hM keepX.rf
        · refine r_iload (pc := 27) dX7_span_27 rfl ?_
          refine r_iconst (pc := 29) (v := (nI (0))) dX7_span_29 (by decide) ?_
          refine r_iconst (pc := 30) (v := (nI (1))) dX7_span_30 (by decide) ?_
          refine r_callS (pc := 31) (d' := 0) (As := [.int (part), .int (nI 0), .int (nI 1)]) (rest := []) dX7_span_31 sX7_in mX7_77 rfl rfl (Nat.le_of_ble_eq_true rfl) (Nat.le_of_ble_eq_true rfl) ?_
          refine c_in ?_
          refine rb_if_ne (pc := 34) (tgt := 41) dX7_span_34 (by decide) (fun c34 => ?_) (fun c34 => ?_)
          · obtain ⟨pj, hpj0, hpj, rfl⟩ := inR_t (by decide) (by decide) c34
            refine r_aload_n (pc := 41) dX7_span_41 rfl ?_
            refine r_callV (pc := 42) (d' := 3) (k := 40) (As := []) (rest := []) dX7_span_42 vX7_someGains mX7_152 rfl rfl rfl (Nat.le_of_ble_eq_true rfl) (Nat.le_of_ble_eq_true rfl) ?_
            refine m_some hM hO (fun μ1 hM1 hk1 hG1 => ?_)
            rw [show decide (0 < (Gs σ).length) = stG σ from rfl]
            refine rb_if_eq (pc := 45) (tgt := 52) dX7_span_45 (by decide) (fun c45 => ?_) (fun c45 => ?_)
            · refine r_iload_n (pc := 52) dX7_span_52 rfl ?_
              refine rn_if_ne (pc := 53) (tgt := 76) dX7_span_53 (by decide) (by decide) (fun _ => ?_) (fun q => absurd q (by decide))
              refine r_aload_n (pc := 76) dX7_span_76 rfl ?_
              refine r_iload_n (pc := 77) dX7_span_77 rfl ?_
              refine r_iload_n (pc := 78) dX7_span_78 rfl ?_
              refine r_callV (pc := 79) (d' := 2) (k := 40) (As := [.int (nI oj), .int (nI cj)]) (rest := []) dX7_span_79 vX7_layGets mX7_158 rfl rfl rfl (Nat.le_of_ble_eq_true rfl) (Nat.le_of_ble_eq_true rfl) ?_
              refine m_layg hM1 hO (by omega) (by omega) (fun μ2 hM2 hk2 hu2 hl2 => ?_)
              have hmo := mget_ok hO (oj) (cj)
              refine r_aload_n (pc := 82) dX7_span_82 rfl ?_
              refine r_getL (pc := 83) (x := (lN ((mget σ oj cj).1))) dX7_span_83 fX7_145 rfl rfl hu2 ?_
              refine r_lconst (pc := 86) (v := lN 0) dX7_span_86 rfl ?_
              refine rn_lcmp (pc := 87) dX7_span_87 (by omega) (by omega) ?_
              refine rc_if_ne (pc := 88) (tgt := 97) dX7_span_88 (by decide) (fun c88 => ?_) (fun c88 => ?_)
              · refine r_aload_n (pc := 97) dX7_span_97 rfl ?_
                refine r_getL (pc := 98) (x := (lN ((mget σ oj cj).2))) dX7_span_98 fX7_149 rfl rfl hl2 ?_
                refine r_aload_n (pc := 101) dX7_span_101 rfl ?_
                refine r_getL (pc := 102) (x := (lN ((mget σ oj cj).1))) dX7_span_102 fX7_145 rfl rfl hu2 ?_
                refine r_iload (pc := 105) dX7_span_105 rfl ?_
                refine r_callS (pc := 107) (d' := 0) (As := [.long (lN ((mget σ oj cj).2)), .long (lN ((mget σ oj cj).1)), .int (nI pj)]) (rest := []) dX7_span_107 sX7_term mX7_129 rfl rfl (Nat.le_of_ble_eq_true rfl) (Nat.le_of_ble_eq_true rfl) ?_
                refine c_term (by omega) (by omega) (by omega) (by omega) ?_
                refine r_lreturn (pc := 110) dX7_span_110 rfl ?_
                have e9 : sp_span σ (nI cj) (nI oj) (nI (1)) (nI pj) = (lN (lowT ((mget σ oj cj).2) ((mget σ oj cj).1) (pj))) := by simp (decide := true) [sp_span, c4, c11, c24, c34, c45, c88, bN_nI (show cj < 2 ^ 31 by omega), bN_nI (show oj < 2 ^ 31 by omega), bN_nI (show pj < 2 ^ 31 by omega)]
                rw [e9] at h
                exact h _ hM2 (keepX.tr hk1 hk2)
              · refine r_iload (pc := 91) dX7_span_91 rfl ?_
                refine rn_i2l (pc := 93) dX7_span_93 (by omega) ?_
                refine r_goto (pc := 94) (tgt := 110) dX7_span_94 (by decide) ?_
                refine r_lreturn (pc := 110) dX7_span_110 rfl ?_
                have e9 : sp_span σ (nI cj) (nI oj) (nI (1)) (nI pj) = (lN (pj)) := by simp (decide := true) [sp_span, c4, c11, c24, c34, c45, c88, bN_nI (show cj < 2 ^ 31 by omega), bN_nI (show oj < 2 ^ 31 by omega), bN_nI (show pj < 2 ^ 31 by omega)]
                rw [e9] at h
                exact h _ hM2 (keepX.tr hk1 hk2)
            · refine r_ldc2 (pc := 48) dX7_span_48 kX7_156 ?_
              refine r_lreturn (pc := 51) dX7_span_51 rfl ?_
              have e9 : sp_span σ (nI cj) (nI oj) (nI (1)) (nI pj) = (-1000000000000000003) := by simp (decide := true) [sp_span, c4, c11, c24, c34, c45, bN_nI (show cj < 2 ^ 31 by omega), bN_nI (show oj < 2 ^ 31 by omega), bN_nI (show pj < 2 ^ 31 by omega)]
              rw [e9] at h
              exact h _ hM1 hk1
          · refine r_ldc2 (pc := 37) dX7_span_37 kX7_133 ?_
            refine r_lreturn (pc := 40) dX7_span_40 rfl ?_
            have e9 : sp_span σ (nI cj) (nI oj) (nI (1)) part = (-1000000000000000002) := by simp (decide := true) [sp_span, c4, c11, c24, c34, bN_nI (show cj < 2 ^ 31 by omega), bN_nI (show oj < 2 ^ 31 by omega)]
            rw [e9] at h
            exact h _ hM keepX.rf
    · refine r_ldc2 (pc := 14) dX7_span_14 kX7_127 ?_
      refine r_lreturn (pc := 17) dX7_span_17 rfl ?_
      have e9 : sp_span σ (nI cj) o e part = (-1000000000000000001) := by simp (decide := true) [sp_span, c4, c11, bN_nI (show cj < 2 ^ 31 by omega)]
      rw [e9] at h
      exact h _ hM keepX.rf

set_option maxRecDepth 20000 in
set_option maxHeartbeats 4000000 in
theorem m_rch_i {μ : Mem} {σ : Sg} {c x r : Nat} {Q : Option Value → Mem → Prop} (hM : Ms μ σ) (hO : Ok σ) (hx : x < 2 ^ 8) (K : WP cX7_reached (RX7, 5, (some .int), 2, none) 70 [(0, .ref 40), (1, .int (nI c)), (2, .int (nI (rp σ x (σ 0 0)))), (3, .int (nI r))] [] μ Q) : ∀ (k : Nat) (b : Nat), b + k = σ 0 0 → WP cX7_reached (RX7, 5, (some .int), 2, none) 15 [(0, .ref 40), (1, .int (nI c)), (2, .int (nI (rp σ x b))), (3, .int (nI r)), (4, .int (nI b))] [] μ Q := by
  intro k
  induction k using Nat.strongRecOn with
  | _ k ih =>
    intro b hb
    have hn := Ok_n hO
    refine r_iload (pc := 15) dX7_reached_15 rfl ?_
    refine r_aload_n (pc := 17) dX7_reached_17 rfl ?_
    refine r_getI (pc := 18) (x := (nI (σ 0 0))) dX7_reached_18 fX7_81 rfl rfl (Ms_n (μ := μ) hM) ?_
    refine rn_icmp_ge (pc := 21) (tgt := 70) dX7_reached_21 (by decide) (by omega) (by omega) (fun c21 => ?_) (fun c21 => ?_)
    · obtain rfl : b = σ 0 0 := by omega
      refine r_pick (ls' := [(0, .ref 40), (1, .int (nI c)), (2, .int (nI (rp σ x (σ 0 0)))), (3, .int (nI r))]) [0, 1, 2, 3] rfl ?_
      exact K
    · have hxl := rp_lt hO hx b (by omega)
      refine r_iload_n (pc := 24) dX7_reached_24 rfl ?_
      refine r_aload_n (pc := 25) dX7_reached_25 rfl ?_
      refine r_iload (pc := 26) dX7_reached_26 rfl ?_
      refine r_callV (pc := 28) (d' := 1) (k := 40) (As := [.int (nI b)]) (rest := [.int (nI (rp σ x b))]) dX7_reached_28 vX7_isOpen mX7_97 rfl rfl rfl (Nat.le_of_ble_eq_true rfl) (Nat.le_of_ble_eq_true rfl) ?_
      refine c_mopen (μ := μ) hM hO (by omega) ?_
      refine rb_if_eq (pc := 31) (tgt := 61) dX7_reached_31 (by decide) (fun c31 => ?_) (fun c31 => ?_)
      · refine r_iconst (pc := 61) (v := (nI (0))) dX7_reached_61 (by decide) ?_
        refine r_ior (pc := 62) dX7_reached_62 ?_
        refine r_eqi (nI_or _ _) ?_
        refine r_istore_n (pc := 63) (ls' := [(0, .ref 40), (1, .int (nI c)), (2, .int (nI ((rp σ x b) ||| (0)))), (3, .int (nI r)), (4, .int (nI b))]) dX7_reached_63 (Nat.le_of_ble_eq_true rfl) rfl ?_
        refine rn_iinc (pc := 64) (b := 1) (ls' := [(0, .ref 40), (1, .int (nI c)), (2, .int (nI ((rp σ x b) ||| (0)))), (3, .int (nI r)), (4, .int (nI (b + 1)))]) dX7_reached_64 rfl (by decide) (Nat.le_of_ble_eq_true rfl) rfl ?_
        refine r_goto (pc := 67) (tgt := 15) dX7_reached_67 (by decide) ?_
        rw [show (rp σ x b) ||| (0) = rp σ x (b + 1) by rw [rp, if_neg (by rw [c31]; simp)]]
        exact ih (k - 1) (by omega) (b + 1) (by omega)
      · refine r_iload_n (pc := 34) dX7_reached_34 rfl ?_
        refine r_aload_n (pc := 35) dX7_reached_35 rfl ?_
        refine r_getR (pc := 36) (r := 41) dX7_reached_36 fX7_7 rfl rfl ?_
        refine r_iload (pc := 39) dX7_reached_39 rfl ?_
        refine r_iald (pc := 41) (x := (nI (σ 1 (b)))) dX7_reached_41 rfl rfl (by omega) (Ms_1 (μ := μ) hM (by omega)) ?_
        have b1 := Ok_b hO (j := b) (by omega)
        refine r_ishr (pc := 42) dX7_reached_42 ?_
        refine r_eqi (shrN (by omega) (by omega)) ?_
        refine r_iconst (pc := 43) (v := (nI (1))) dX7_reached_43 (by decide) ?_
        refine r_iand (pc := 44) dX7_reached_44 ?_
        refine r_eqi (and1 (Nat.lt_of_le_of_lt (Nat.div_le_self _ _) (by omega))) ?_
        refine r_iconst (pc := 45) (v := (nI (1))) dX7_reached_45 (by decide) ?_
        refine rn_icmp_ne (pc := 46) (tgt := 61) dX7_reached_46 (by decide) (by omega) (by omega) (fun c46 => ?_) (fun c46 => ?_)
        · refine r_iconst (pc := 61) (v := (nI (0))) dX7_reached_61 (by decide) ?_
          refine r_ior (pc := 62) dX7_reached_62 ?_
          refine r_eqi (nI_or _ _) ?_
          refine r_istore_n (pc := 63) (ls' := [(0, .ref 40), (1, .int (nI c)), (2, .int (nI ((rp σ x b) ||| (0)))), (3, .int (nI r)), (4, .int (nI b))]) dX7_reached_63 (Nat.le_of_ble_eq_true rfl) rfl ?_
          refine rn_iinc (pc := 64) (b := 1) (ls' := [(0, .ref 40), (1, .int (nI c)), (2, .int (nI ((rp σ x b) ||| (0)))), (3, .int (nI r)), (4, .int (nI (b + 1)))]) dX7_reached_64 rfl (by decide) (Nat.le_of_ble_eq_true rfl) rfl ?_
          refine r_goto (pc := 67) (tgt := 15) dX7_reached_67 (by decide) ?_
          rw [show (rp σ x b) ||| (0) = rp σ x (b + 1) by rw [rp, if_neg (fun q => c46 (tb_iff.mpr q.2))]]
          exact ih (k - 1) (by omega) (b + 1) (by omega)
        · refine r_iconst (pc := 49) (v := (nI (1))) dX7_reached_49 (by decide) ?_
          refine r_aload_n (pc := 50) dX7_reached_50 rfl ?_
          refine r_getR (pc := 51) (r := 43) dX7_reached_51 fX7_16 rfl rfl ?_
          refine r_iload (pc := 54) dX7_reached_54 rfl ?_
          refine r_iald (pc := 56) (x := (nI (σ 3 (b)))) dX7_reached_56 rfl rfl (by omega) (Ms_3 (μ := μ) hM (by omega)) ?_
          have b2 := Ok_b hO (j := b) (by omega)
          refine r_ishl (pc := 57) dX7_reached_57 ?_
          refine r_eqi (shl1 (by omega)) ?_
          refine r_goto (pc := 58) (tgt := 62) dX7_reached_58 (by decide) ?_
          refine r_ior (pc := 62) dX7_reached_62 ?_
          refine r_eqi (nI_or _ _) ?_
          refine r_istore_n (pc := 63) (ls' := [(0, .ref 40), (1, .int (nI c)), (2, .int (nI ((rp σ x b) ||| (2 ^ (σ 3 (b)))))), (3, .int (nI r)), (4, .int (nI b))]) dX7_reached_63 (Nat.le_of_ble_eq_true rfl) rfl ?_
          refine rn_iinc (pc := 64) (b := 1) (ls' := [(0, .ref 40), (1, .int (nI c)), (2, .int (nI ((rp σ x b) ||| (2 ^ (σ 3 (b)))))), (3, .int (nI r)), (4, .int (nI (b + 1)))]) dX7_reached_64 rfl (by decide) (Nat.le_of_ble_eq_true rfl) rfl ?_
          refine r_goto (pc := 67) (tgt := 15) dX7_reached_67 (by decide) ?_
          rw [show (rp σ x b) ||| (2 ^ (σ 3 (b))) = rp σ x (b + 1) by rw [rp, if_pos ⟨c31, tb_iff.mp c46⟩]]
          exact ih (k - 1) (by omega) (b + 1) (by omega)

set_option maxRecDepth 20000 in
set_option maxHeartbeats 4000000 in
theorem m_rch_o {μ : Mem} {σ : Sg} {c : Nat} {Q : Option Value → Mem → Prop} (hM : Ms μ σ) (hO : Ok σ) (hc : c < 8) (h : Q (some (.int (nI (rc σ c 8)))) μ) : ∀ (k : Nat) (r : Nat), r + k = 8 → WP cX7_reached (RX7, 5, (some .int), 2, none) 6 [(0, .ref 40), (1, .int (nI c)), (2, .int (nI (rc σ c r))), (3, .int (nI r))] [] μ Q := by
  intro k
  induction k using Nat.strongRecOn with
  | _ k ih =>
    intro r hr
    have hn := Ok_n hO
    refine r_iload_n (pc := 6) dX7_reached_6 rfl ?_
    refine r_bipush (pc := 7) (v := (nI (8))) dX7_reached_7 (by decide) ?_
    refine rn_icmp_ge (pc := 9) (tgt := 76) dX7_reached_9 (by decide) (by omega) (by omega) (fun c9 => ?_) (fun c9 => ?_)
    · obtain rfl : r = 8 := by omega
      refine r_iload_n (pc := 76) dX7_reached_76 rfl ?_
      refine r_ireturn (pc := 77) dX7_reached_77 rfl (Or.inl rfl) rfl ?_
      exact h
    · refine r_iconst (pc := 12) (v := (nI (0))) dX7_reached_12 (by decide) ?_
      refine r_istore (pc := 13) (ls' := [(0, .ref 40), (1, .int (nI c)), (2, .int (nI (rc σ c r))), (3, .int (nI r)), (4, .int (nI 0))]) dX7_reached_13 (Nat.le_of_ble_eq_true rfl) rfl ?_
      refine m_rch_i hM hO (rc_lt hO hc r) ?_ (σ 0 0) 0 (by omega)
      refine rn_iinc (pc := 70) (b := 1) (ls' := [(0, .ref 40), (1, .int (nI c)), (2, .int (nI (rp σ (rc σ c r) (σ 0 0)))), (3, .int (nI (r + 1)))]) dX7_reached_70 rfl (by decide) (Nat.le_of_ble_eq_true rfl) rfl ?_
      refine r_goto (pc := 73) (tgt := 6) dX7_reached_73 (by decide) ?_
      exact ih (k - 1) (by omega) (r + 1) (by omega)

set_option maxRecDepth 20000 in
set_option maxHeartbeats 4000000 in
theorem m_rch {μ : Mem} {σ : Sg} {c : Nat} {Q : Option Value → Mem → Prop} (hM : Ms μ σ) (hO : Ok σ) (hc : c < 8) (h : Q (some (.int (nI (rc σ c 8)))) μ) : Sp iX7_reached 2 [.ref 40, .int (nI c)] μ Q := by
  refine Sp.of vX7_reached.1 (Nat.le_of_ble_eq_true rfl) ?_
  show WP cX7_reached (RX7, 5, (some .int), 2, none) 0 [(0, .ref 40), (1, .int (nI c))] [] μ Q
  have hn := Ok_n hO
  refine r_iconst (pc := 0) (v := (nI (1))) dX7_reached_0 (by decide) ?_
  refine r_iload_n (pc := 1) dX7_reached_1 rfl ?_
  refine r_ishl (pc := 2) dX7_reached_2 ?_
  refine r_eqi (shl1 (by omega)) ?_
  refine r_istore_n (pc := 3) (ls' := [(0, .ref 40), (1, .int (nI c)), (2, .int (nI (2 ^ c)))]) dX7_reached_3 (Nat.le_of_ble_eq_true rfl) rfl ?_
  refine r_iconst (pc := 4) (v := (nI (0))) dX7_reached_4 (by decide) ?_
  refine r_istore_n (pc := 5) (ls' := [(0, .ref 40), (1, .int (nI c)), (2, .int (nI (2 ^ c))), (3, .int (nI 0))]) dX7_reached_5 (Nat.le_of_ble_eq_true rfl) rfl ?_
  exact m_rch_o hM hO hc h 8 0 (by omega)

set_option maxRecDepth 20000 in
set_option maxHeartbeats 4000000 in
theorem m_jn_l {μ : Mem} {σ : Sg} {c : Nat} {Q : Option Value → Mem → Prop} (hM : Ms μ σ) (hO : Ok σ) (hc : c < 8) (h : Q (some (.int (nI (jn σ c 8)))) μ) : ∀ (k : Nat) (n : Nat), n + k = 8 → WP cX7_joinedOf (RX7, 5, (some .int), 3, none) 11 [(0, .ref 40), (1, .int (nI c)), (2, .int (nI (jn σ c n))), (3, .int (nI (rc σ c 8))), (4, .int (nI n))] [] μ Q := by
  intro k
  induction k using Nat.strongRecOn with
  | _ k ih =>
    intro n hr
    have hn := Ok_n hO
    have hrc := rc_lt hO hc 8
    refine r_iload (pc := 11) dX7_joinedOf_11 rfl ?_
    refine r_bipush (pc := 13) (v := (nI (8))) dX7_joinedOf_13 (by decide) ?_
    refine rn_icmp_ge (pc := 15) (tgt := 59) dX7_joinedOf_15 (by decide) (by omega) (by omega) (fun c15 => ?_) (fun c15 => ?_)
    · obtain rfl : n = 8 := by omega
      refine r_iload_n (pc := 59) dX7_joinedOf_59 rfl ?_
      refine r_ireturn (pc := 60) dX7_joinedOf_60 rfl (Or.inl rfl) rfl ?_
      exact h
    · refine r_iload_n (pc := 18) dX7_joinedOf_18 rfl ?_
      refine r_iload_n (pc := 19) dX7_joinedOf_19 rfl ?_
      refine r_iload (pc := 20) dX7_joinedOf_20 rfl ?_
      refine r_ishr (pc := 22) dX7_joinedOf_22 ?_
      refine r_eqi (shrN (by omega) (by omega)) ?_
      refine r_iconst (pc := 23) (v := (nI (1))) dX7_joinedOf_23 (by decide) ?_
      refine r_iand (pc := 24) dX7_joinedOf_24 ?_
      refine r_eqi (and1 (Nat.lt_of_le_of_lt (Nat.div_le_self _ _) (by omega))) ?_
      refine r_iconst (pc := 25) (v := (nI (1))) dX7_joinedOf_25 (by decide) ?_
      refine rn_icmp_ne (pc := 26) (tgt := 50) dX7_joinedOf_26 (by decide) (by omega) (by omega) (fun c26 => ?_) (fun c26 => ?_)
      · refine r_iconst (pc := 50) (v := (nI (0))) dX7_joinedOf_50 (by decide) ?_
        refine r_ior (pc := 51) dX7_joinedOf_51 ?_
        refine r_eqi (nI_or _ _) ?_
        refine r_istore_n (pc := 52) (ls' := [(0, .ref 40), (1, .int (nI c)), (2, .int (nI ((jn σ c n) ||| (0)))), (3, .int (nI (rc σ c 8))), (4, .int (nI n))]) dX7_joinedOf_52 (Nat.le_of_ble_eq_true rfl) rfl ?_
        refine rn_iinc (pc := 53) (b := 1) (ls' := [(0, .ref 40), (1, .int (nI c)), (2, .int (nI ((jn σ c n) ||| (0)))), (3, .int (nI (rc σ c 8))), (4, .int (nI (n + 1)))]) dX7_joinedOf_53 rfl (by decide) (Nat.le_of_ble_eq_true rfl) rfl ?_
        refine r_goto (pc := 56) (tgt := 11) dX7_joinedOf_56 (by decide) ?_
        rw [show (jn σ c n) ||| (0) = jn σ c (n + 1) by rw [jn, if_neg (fun q => c26 (tb_iff.mpr q.1))]]
        exact ih (k - 1) (by omega) (n + 1) (by omega)
      · refine r_aload_n (pc := 29) dX7_joinedOf_29 rfl ?_
        refine r_iload (pc := 30) dX7_joinedOf_30 rfl ?_
        refine r_callV (pc := 32) (d' := 2) (k := 40) (As := [.int (nI n)]) (rest := [.int (nI (jn σ c n))]) dX7_joinedOf_32 vX7_reached mX7_162 rfl rfl rfl (Nat.le_of_ble_eq_true rfl) (Nat.le_of_ble_eq_true rfl) ?_
        refine m_rch hM hO (by omega) ?_
        have hr1 := rc_lt hO (c := n) (by omega) 8
        refine r_iload_n (pc := 35) dX7_joinedOf_35 rfl ?_
        refine r_ishr (pc := 36) dX7_joinedOf_36 ?_
        refine r_eqi (shrN (by omega) (by omega)) ?_
        refine r_iconst (pc := 37) (v := (nI (1))) dX7_joinedOf_37 (by decide) ?_
        refine r_iand (pc := 38) dX7_joinedOf_38 ?_
        refine r_eqi (and1 (Nat.lt_of_le_of_lt (Nat.div_le_self _ _) (by omega))) ?_
        refine r_iconst (pc := 39) (v := (nI (1))) dX7_joinedOf_39 (by decide) ?_
        refine rn_icmp_ne (pc := 40) (tgt := 50) dX7_joinedOf_40 (by decide) (by omega) (by omega) (fun c40 => ?_) (fun c40 => ?_)
        · refine r_iconst (pc := 50) (v := (nI (0))) dX7_joinedOf_50 (by decide) ?_
          refine r_ior (pc := 51) dX7_joinedOf_51 ?_
          refine r_eqi (nI_or _ _) ?_
          refine r_istore_n (pc := 52) (ls' := [(0, .ref 40), (1, .int (nI c)), (2, .int (nI ((jn σ c n) ||| (0)))), (3, .int (nI (rc σ c 8))), (4, .int (nI n))]) dX7_joinedOf_52 (Nat.le_of_ble_eq_true rfl) rfl ?_
          refine rn_iinc (pc := 53) (b := 1) (ls' := [(0, .ref 40), (1, .int (nI c)), (2, .int (nI ((jn σ c n) ||| (0)))), (3, .int (nI (rc σ c 8))), (4, .int (nI (n + 1)))]) dX7_joinedOf_53 rfl (by decide) (Nat.le_of_ble_eq_true rfl) rfl ?_
          refine r_goto (pc := 56) (tgt := 11) dX7_joinedOf_56 (by decide) ?_
          rw [show (jn σ c n) ||| (0) = jn σ c (n + 1) by rw [jn, if_neg (fun q => c40 (tb_iff.mpr q.2))]]
          exact ih (k - 1) (by omega) (n + 1) (by omega)
        · refine r_iconst (pc := 43) (v := (nI (1))) dX7_joinedOf_43 (by decide) ?_
          refine r_iload (pc := 44) dX7_joinedOf_44 rfl ?_
          refine r_ishl (pc := 46) dX7_joinedOf_46 ?_
          refine r_eqi (shl1 (by omega)) ?_
          refine r_goto (pc := 47) (tgt := 51) dX7_joinedOf_47 (by decide) ?_
          refine r_ior (pc := 51) dX7_joinedOf_51 ?_
          refine r_eqi (nI_or _ _) ?_
          refine r_istore_n (pc := 52) (ls' := [(0, .ref 40), (1, .int (nI c)), (2, .int (nI ((jn σ c n) ||| (2 ^ n)))), (3, .int (nI (rc σ c 8))), (4, .int (nI n))]) dX7_joinedOf_52 (Nat.le_of_ble_eq_true rfl) rfl ?_
          refine rn_iinc (pc := 53) (b := 1) (ls' := [(0, .ref 40), (1, .int (nI c)), (2, .int (nI ((jn σ c n) ||| (2 ^ n)))), (3, .int (nI (rc σ c 8))), (4, .int (nI (n + 1)))]) dX7_joinedOf_53 rfl (by decide) (Nat.le_of_ble_eq_true rfl) rfl ?_
          refine r_goto (pc := 56) (tgt := 11) dX7_joinedOf_56 (by decide) ?_
          rw [show (jn σ c n) ||| (2 ^ n) = jn σ c (n + 1) by rw [jn, if_pos ⟨tb_iff.mp c26, tb_iff.mp c40⟩]]
          exact ih (k - 1) (by omega) (n + 1) (by omega)

set_option maxRecDepth 20000 in
set_option maxHeartbeats 4000000 in
theorem m_jn {μ : Mem} {σ : Sg} {c : Nat} {Q : Option Value → Mem → Prop} (hM : Ms μ σ) (hO : Ok σ) (hc : c < 8) (h : Q (some (.int (nI (jn σ c 8)))) μ) : Sp iX7_joinedOf 3 [.ref 40, .int (nI c)] μ Q := by
  refine Sp.of vX7_joinedOf.1 (Nat.le_of_ble_eq_true rfl) ?_
  show WP cX7_joinedOf (RX7, 5, (some .int), 3, none) 0 [(0, .ref 40), (1, .int (nI c))] [] μ Q
  have hn := Ok_n hO
  refine r_iconst (pc := 0) (v := (nI (0))) dX7_joinedOf_0 (by decide) ?_
  refine r_istore_n (pc := 1) (ls' := [(0, .ref 40), (1, .int (nI c)), (2, .int (nI 0))]) dX7_joinedOf_1 (Nat.le_of_ble_eq_true rfl) rfl ?_
  refine r_aload_n (pc := 2) dX7_joinedOf_2 rfl ?_
  refine r_iload_n (pc := 3) dX7_joinedOf_3 rfl ?_
  refine r_callV (pc := 4) (d' := 2) (k := 40) (As := [.int (nI c)]) (rest := []) dX7_joinedOf_4 vX7_reached mX7_162 rfl rfl rfl (Nat.le_of_ble_eq_true rfl) (Nat.le_of_ble_eq_true rfl) ?_
  refine m_rch hM hO (by omega) ?_
  have hr1 := rc_lt hO (c := c) (by omega) 8
  refine r_istore_n (pc := 7) (ls' := [(0, .ref 40), (1, .int (nI c)), (2, .int (nI 0)), (3, .int (nI (rc σ (c) 8)))]) dX7_joinedOf_7 (Nat.le_of_ble_eq_true rfl) rfl ?_
  refine r_iconst (pc := 8) (v := (nI (0))) dX7_joinedOf_8 (by decide) ?_
  refine r_istore (pc := 9) (ls' := [(0, .ref 40), (1, .int (nI c)), (2, .int (nI 0)), (3, .int (nI (rc σ (c) 8))), (4, .int (nI 0))]) dX7_joinedOf_9 (Nat.le_of_ble_eq_true rfl) rfl ?_
  skip
  exact m_jn_l hM hO hc h 8 0 (by omega)

set_option maxRecDepth 20000 in
set_option maxHeartbeats 4000000 in
theorem m_joined {μ : Mem} {σ : Sg} {c : Int32} {Q : Option Value → Mem → Prop} (hM : Ms μ σ) (hO : Ok σ) (h : ∀ μ', Ms μ' σ → keepX μ μ' → Q (some (.int (sp_joined σ c))) μ') : Sp iX7_joined 4 [.ref 40, .int (c)] μ Q := by
  refine Sp.of vX7_joined.1 (Nat.le_of_ble_eq_true rfl) ?_
  show WP cX7_joined (RX7, 2, (some .int), 4, none) 0 [(0, .ref 40), (1, .int (c))] [] μ Q
  have hn := Ok_n hO
  refine r_iload_n (pc := 0) dX7_joined_0 rfl ?_
  refine r_callS (pc := 1) (d' := 1) (As := [.int (c)]) (rest := []) dX7_joined_1 sX7_isCoin mX7_86 rfl rfl (Nat.le_of_ble_eq_true rfl) (Nat.le_of_ble_eq_true rfl) ?_
  refine c_mcoin ?_
  refine rb_if_ne (pc := 4) (tgt := 11) dX7_joined_4 (by decide) (fun c4 => ?_) (fun c4 => ?_)
  · obtain ⟨cj, hcj, rfl, -⟩ := isB_t c4
    refine r_aload_n (pc := 11) dX7_joined_11 rfl ?_
    refine r_callV (pc := 12) (d' := 3) (k := 40) (As := []) (rest := []) dX7_joined_12 vX7_someGains mX7_152 rfl rfl rfl (Nat.le_of_ble_eq_true rfl) (Nat.le_of_ble_eq_true rfl) ?_
    refine m_some hM hO (fun μ1 hM1 hk1 hG1 => ?_)
    rw [show decide (0 < (Gs σ).length) = stG σ from rfl]
    refine rb_if_eq (pc := 15) (tgt := 23) dX7_joined_15 (by decide) (fun c15 => ?_) (fun c15 => ?_)
    · refine r_aload_n (pc := 23) dX7_joined_23 rfl ?_
      refine r_iload_n (pc := 24) dX7_joined_24 rfl ?_
      refine r_callV (pc := 25) (d' := 3) (k := 40) (As := [.int (nI cj)]) (rest := []) dX7_joined_25 vX7_joinedOf mX7_165 rfl rfl rfl (Nat.le_of_ble_eq_true rfl) (Nat.le_of_ble_eq_true rfl) ?_
      refine m_jn hM1 hO (by omega) ?_
      refine r_ireturn (pc := 28) dX7_joined_28 rfl (Or.inl rfl) rfl ?_
      have e9 : sp_joined σ (nI cj) = (nI (jn σ (cj) 8)) := by simp [sp_joined, c4, c15, bN_nI (show cj < 2 ^ 31 by omega)]
      rw [e9] at h
      exact h _ hM1 hk1
    · refine r_bipush (pc := 18) (v := (-3)) dX7_joined_18 (by decide) ?_
      refine r_goto (pc := 20) (tgt := 28) dX7_joined_20 (by decide) ?_
      refine r_ireturn (pc := 28) dX7_joined_28 rfl (Or.inl rfl) rfl ?_
      have e9 : sp_joined σ (nI cj) = (-3) := by simp [sp_joined, c4, c15, bN_nI (show cj < 2 ^ 31 by omega)]
      rw [e9] at h
      exact h _ hM1 hk1
  · refine r_iconst (pc := 7) (v := (-1)) dX7_joined_7 (by decide) ?_
    refine r_goto (pc := 8) (tgt := 28) dX7_joined_8 (by decide) ?_
    refine r_ireturn (pc := 28) dX7_joined_28 rfl (Or.inl rfl) rfl ?_
    have e9 : sp_joined σ c = (-1) := by simp [sp_joined, c4]
    rw [e9] at h
    exact h _ hM keepX.rf

set_option maxRecDepth 20000 in
set_option maxHeartbeats 4000000 in
theorem m_parts_l {μ1 : Mem} {σ : Sg} {Q : Option Value → Mem → Prop} (hM1 : Ms μ1 σ) (hO : Ok σ) (h : Q (some (.int (nI (ptn σ 8)))) μ1) : ∀ (k : Nat) (c : Nat), c + k = 8 → WP cX7_parts (RX7, 4, (some .int), 4, none) 16 [(0, .ref 40), (1, .int (nI (ptn σ c))), (2, .int (nI (pts σ c))), (3, .int (nI c))] [] μ1 Q := by
  intro k
  induction k using Nat.strongRecOn with
  | _ k ih =>
    intro c hr
    have hn := Ok_n hO
    have hpl := pts_lt σ c
    refine r_iload_n (pc := 16) dX7_parts_16 rfl ?_
    refine r_bipush (pc := 17) (v := (nI (8))) dX7_parts_17 (by decide) ?_
    refine rn_icmp_ge (pc := 19) (tgt := 46) dX7_parts_19 (by decide) (by omega) (by omega) (fun c19 => ?_) (fun c19 => ?_)
    · obtain rfl : c = 8 := by omega
      refine r_iload_n (pc := 46) dX7_parts_46 rfl ?_
      refine r_ireturn (pc := 47) dX7_parts_47 rfl (Or.inl rfl) rfl ?_
      exact h
    · refine r_iload_n (pc := 22) dX7_parts_22 rfl ?_
      refine r_iload_n (pc := 23) dX7_parts_23 rfl ?_
      refine r_iload_n (pc := 24) dX7_parts_24 rfl ?_
      refine r_ishr (pc := 25) dX7_parts_25 ?_
      refine r_eqi (shrN (by omega) (by omega)) ?_
      refine r_iconst (pc := 26) (v := (nI (1))) dX7_parts_26 (by decide) ?_
      refine r_iand (pc := 27) dX7_parts_27 ?_
      refine r_eqi (and1 (Nat.lt_of_le_of_lt (Nat.div_le_self _ _) (by omega))) ?_
      refine r_iconst (pc := 28) (v := (nI (1))) dX7_parts_28 (by decide) ?_
      refine r_ixor (pc := 29) dX7_parts_29 ?_
      refine r_eqi (xor1 (by omega)) ?_
      refine rn_iadd (pc := 30) dX7_parts_30 ?_
      refine r_istore_n (pc := 31) (ls' := [(0, .ref 40), (1, .int (nI (ptn σ (c + 1)))), (2, .int (nI (pts σ c))), (3, .int (nI c))]) dX7_parts_31 (Nat.le_of_ble_eq_true rfl) rfl ?_
      refine r_iload_n (pc := 32) dX7_parts_32 rfl ?_
      refine r_aload_n (pc := 33) dX7_parts_33 rfl ?_
      refine r_iload_n (pc := 34) dX7_parts_34 rfl ?_
      refine r_callV (pc := 35) (d' := 3) (k := 40) (As := [.int (nI c)]) (rest := [.int (nI (pts σ c))]) dX7_parts_35 vX7_joinedOf mX7_165 rfl rfl rfl (Nat.le_of_ble_eq_true rfl) (Nat.le_of_ble_eq_true rfl) ?_
      refine m_jn hM1 hO (by omega) ?_
      refine r_ior (pc := 38) dX7_parts_38 ?_
      refine r_eqi (nI_or _ _) ?_
      refine r_istore_n (pc := 39) (ls' := [(0, .ref 40), (1, .int (nI (ptn σ (c + 1)))), (2, .int (nI (pts σ (c + 1)))), (3, .int (nI c))]) dX7_parts_39 (Nat.le_of_ble_eq_true rfl) rfl ?_
      refine rn_iinc (pc := 40) (b := 1) (ls' := [(0, .ref 40), (1, .int (nI (ptn σ (c + 1)))), (2, .int (nI (pts σ (c + 1)))), (3, .int (nI (c + 1)))]) dX7_parts_40 rfl (by decide) (Nat.le_of_ble_eq_true rfl) rfl ?_
      refine r_goto (pc := 43) (tgt := 16) dX7_parts_43 (by decide) ?_
      exact ih (k - 1) (by omega) (c + 1) (by omega)

set_option maxRecDepth 20000 in
set_option maxHeartbeats 4000000 in
theorem m_parts {μ : Mem} {σ : Sg} {Q : Option Value → Mem → Prop} (hM : Ms μ σ) (hO : Ok σ) (h : ∀ μ', Ms μ' σ → keepX μ μ' → Q (some (.int (sp_parts σ))) μ') : Sp iX7_parts 4 [.ref 40] μ Q := by
  refine Sp.of vX7_parts.1 (Nat.le_of_ble_eq_true rfl) ?_
  show WP cX7_parts (RX7, 4, (some .int), 4, none) 0 [(0, .ref 40)] [] μ Q
  have hn := Ok_n hO
  refine r_aload_n (pc := 0) dX7_parts_0 rfl ?_
  refine r_callV (pc := 1) (d' := 3) (k := 40) (As := []) (rest := []) dX7_parts_1 vX7_someGains mX7_152 rfl rfl rfl (Nat.le_of_ble_eq_true rfl) (Nat.le_of_ble_eq_true rfl) ?_
  refine m_some hM hO (fun μ1 hM1 hk1 hG1 => ?_)
  rw [show decide (0 < (Gs σ).length) = stG σ from rfl]
  refine rb_if_eq (pc := 4) (tgt := 10) dX7_parts_4 (by decide) (fun c4 => ?_) (fun c4 => ?_)
  · refine r_iconst (pc := 10) (v := (nI (0))) dX7_parts_10 (by decide) ?_
    refine r_istore_n (pc := 11) (ls' := [(0, .ref 40), (1, .int (nI 0))]) dX7_parts_11 (Nat.le_of_ble_eq_true rfl) rfl ?_
    refine r_iconst (pc := 12) (v := (nI (0))) dX7_parts_12 (by decide) ?_
    refine r_istore_n (pc := 13) (ls' := [(0, .ref 40), (1, .int (nI 0)), (2, .int (nI 0))]) dX7_parts_13 (Nat.le_of_ble_eq_true rfl) rfl ?_
    refine r_iconst (pc := 14) (v := (nI (0))) dX7_parts_14 (by decide) ?_
    refine r_istore_n (pc := 15) (ls' := [(0, .ref 40), (1, .int (nI 0)), (2, .int (nI 0)), (3, .int (nI 0))]) dX7_parts_15 (Nat.le_of_ble_eq_true rfl) rfl ?_
    have e9 : sp_parts σ = nI (ptn σ 8) := by simp [sp_parts, c4]
    rw [e9] at h
    exact m_parts_l hM1 hO (h _ hM1 hk1) 8 0 (by omega)
  · refine r_bipush (pc := 7) (v := (-3)) dX7_parts_7 (by decide) ?_
    refine r_ireturn (pc := 9) dX7_parts_9 rfl (Or.inl rfl) rfl ?_
    have e9 : sp_parts σ = -3 := by simp [sp_parts, c4]
    rw [e9] at h
    exact h _ hM1 hk1
