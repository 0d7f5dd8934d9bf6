/-! FRACTIONS: Euclid's steps, comparing, lowest terms -/
def fibN : Nat → Nat
  | 0 => 0
  | 1 => 1
  | n + 2 => fibN n + fibN (n + 1)
theorem fib100 : 2 ^ 63 < fibN 100 := by decide +kernel
theorem fib_mono : ∀ n, fibN n ≤ fibN (n + 1)
  | 0 => by decide
  | 1 => by decide
  | n + 2 => by
    have := fib_mono n
    show fibN n + fibN (n + 1) ≤ fibN (n + 1) + fibN (n + 2)
    have h2 : fibN (n + 2) = fibN n + fibN (n + 1) := rfl
    omega
/-- r steps are enough -/
def Eu (r a b : Nat) : Prop := b < fibN r ∨ (b ≤ a ∧ (b < fibN (r + 1) ∨ a < fibN (r + 2)))
theorem Eu_0 {a b : Nat} (h : Eu 0 a b) : b = 0 := by
  rcases h with h | ⟨h1, h | h⟩
  · exact absurd h (Nat.not_lt_zero _)
  · have : b < 1 := h
    omega
  · have : a < 1 := h
    omega
theorem Eu_s {r a b : Nat} (h : Eu (r + 1) a b) (hb : 0 < b) : Eu r b (a % b) := by
  have hm := Nat.mod_lt a hb
  refine Or.inr ⟨Nat.le_of_lt hm, ?_⟩
  rcases h with h | ⟨h1, h | h⟩
  · exact Or.inl (by omega)
  · exact Or.inr h
  · by_cases q : b < fibN (r + 2)
    · exact Or.inr q
    · refine Or.inl ?_
      have e : fibN (r + 1 + 2) = fibN (r + 1) + fibN (r + 2) := rfl
      have hd := Nat.div_add_mod a b
      have h3 : 1 ≤ a / b := (Nat.one_le_div_iff hb).mpr h1
      have h4 : b * 1 ≤ b * (a / b) := Nat.mul_le_mul_left b h3
      omega
/-- comparing by whole parts -/
theorem ab_lt {a b c d : Nat} (hb : 0 < b) (hd : 0 < d) (h : a / b < c / d) : a * d < c * b := by
  have h1 : a < (a / b + 1) * b := by
    have := Nat.lt_div_mul_add (a := a) hb
    rw [Nat.add_mul]
    omega
  have h2 : c / d * d ≤ c := Nat.div_mul_le_self c d
  have h3 : (a / b + 1) * d ≤ c := Nat.le_trans (Nat.mul_le_mul_right d h) h2
  calc a * d < (a / b + 1) * b * d := Nat.mul_lt_mul_of_pos_right h1 hd
    _ = (a / b + 1) * d * b := by rw [Nat.mul_right_comm]
    _ ≤ c * b := Nat.mul_le_mul_right b h3
theorem ab_eq {a b c d : Nat} (h : a / b = c / d) : (a * d < c * b ↔ d * (a % b) < b * (c % d)) ∧ (c * b < a * d ↔ b * (c % d) < d * (a % b)) ∧ (a * d = c * b ↔ d * (a % b) = b * (c % d)) := by
  have h1 := Nat.div_add_mod a b
  have h2 := Nat.div_add_mod c d
  have e1 : a * d = b * d * (a / b) + d * (a % b) := by
    have : a * d = (b * (a / b) + a % b) * d := by rw [h1]
    rw [this, Nat.add_mul, Nat.mul_right_comm, Nat.mul_comm (a % b) d]
  have e2 : c * b = b * d * (a / b) + b * (c % d) := by
    have : c * b = (d * (c / d) + c % d) * b := by rw [h2]
    rw [this, Nat.add_mul, h, Nat.mul_right_comm, Nat.mul_comm (c % d) b, Nat.mul_comm d b]
  rw [e1, e2]
  omega
def sgT (t : Bool) : Int32 := if t then -1 else 1
theorem sgT_neg (t : Bool) : -sgT t = sgT (!t) := by cases t <;> decide
def cmpT (t : Bool) (p q r s : Nat) : Int32 := if t then cmp3 (r * q) (p * s) else cmp3 (p * s) (r * q)
theorem cmp3_cong {x y x' y' : Nat} (h1 : x < y ↔ x' < y') (h2 : x = y ↔ x' = y') : cmp3 x y = cmp3 x' y' := by
  unfold cmp3
  simp only [h1, h2]
theorem cmpT_step {t : Bool} {p q r s : Nat} (h : p / q = r / s) : cmpT (!t) q (p % q) s (r % s) = cmpT t p q r s := by
  obtain ⟨h1, h2, h3⟩ := ab_eq h
  cases t
  · exact cmp3_cong h1.symm h3.symm
  · exact cmp3_cong h2.symm (by rw [eq_comm, ← h3, eq_comm])
theorem cmp3_1 {x y : Nat} (h : y < x) : cmp3 x y = 1 := by
  unfold cmp3
  rw [if_neg (by omega), if_neg (by omega)]
theorem cmp3_m {x y : Nat} (h : x < y) : cmp3 x y = -1 := if_pos h
theorem cmp3_0 {x y : Nat} (h : x = y) : cmp3 x y = 0 := by
  unfold cmp3
  rw [if_neg (by omega), if_pos h]
theorem cmpT_gt {t : Bool} {p q r s : Nat} (h : r * q < p * s) : cmpT t p q r s = sgT t := by
  cases t
  · exact cmp3_1 h
  · exact cmp3_m h
theorem cmpT_lt {t : Bool} {p q r s : Nat} (h : p * s < r * q) : cmpT t p q r s = -sgT t := by
  cases t
  · exact cmp3_m h
  · exact cmp3_1 h
theorem cmpT_eq {t : Bool} {p q r s : Nat} (h : p * s = r * q) : cmpT t p q r s = nI 0 := by
  cases t
  · exact cmp3_0 h
  · exact cmp3_0 h.symm
/-- above, with the turned sense -/
def abT (t : Bool) (a b c d : Nat) : Bool := if t then above c d a b else above a b c d
theorem abT_step {t : Bool} {a b c d : Nat} (h : a / b = c / d) : abT (!t) b (a % b) d (c % d) = abT t a b c d := by
  obtain ⟨h1, h2, h3⟩ := ab_eq h
  cases t
  · show above d (c % d) b (a % b) = above a b c d
    unfold above
    rw [decide_eq_decide.mpr h2]
  · show above b (a % b) d (c % d) = above c d a b
    unfold above
    rw [decide_eq_decide.mpr h1]
theorem abT_gt {t : Bool} {a b c d : Nat} (h : c * b < a * d) : abT t a b c d = !t := by
  cases t
  · exact decide_eq_true h
  · exact decide_eq_false (by omega)
theorem abT_lt {t : Bool} {a b c d : Nat} (h : a * d < c * b) : abT t a b c d = t := by
  cases t
  · exact decide_eq_false (by omega)
  · exact decide_eq_true h
theorem abT_eq {t : Bool} {a b c d : Nat} (h : a * d = c * b) : abT t a b c d = false := by
  cases t
  · exact decide_eq_false (by omega)
  · exact decide_eq_false (by omega)

set_option maxRecDepth 20000 in
set_option maxHeartbeats 4000000 in
theorem c_held_l {μ : Mem} {Q : Option Value → Mem → Prop}  : ∀ (k : Nat) (p q r s : Nat) (t : Bool), q = k → p < 2 ^ 63 → q < 2 ^ 63 → r < 2 ^ 63 → s < 2 ^ 63 → (q = 0 → 0 < p) → (s = 0 → 0 < r) → Q (some (.int (cmpT t p q r s))) μ → WP cX7_held (RX7, 25, (some .int), 0, none) 17 [(8, .long (lN (p))), (10, .long (lN (q))), (12, .long (lN (r))), (14, .long (lN (s))), (16, .int (sgT t))] [] μ Q := by
  intro k
  induction k using Nat.strongRecOn with
  | _ k ih =>
    intro p q r s t hk hp hq hr hs hp0 hr0 h
    refine r_lload (pc := 17) dX7_held_17 rfl ?_
    refine r_lconst (pc := 19) (v := lN 0) dX7_held_19 rfl ?_
    refine rn_lcmp (pc := 20) dX7_held_20 (by omega) (by omega) ?_
    refine rc_if_eq (pc := 21) (tgt := 31) dX7_held_21 (by decide) (fun c21 => ?_) (fun c21 => ?_)
    · refine r_lload (pc := 31) dX7_held_31 rfl ?_
      refine r_lload (pc := 33) dX7_held_33 rfl ?_
      refine rn_lcmp (pc := 35) dX7_held_35 (by omega) (by omega) ?_
      refine rc_if_ne (pc := 36) (tgt := 43) dX7_held_36 (by decide) (fun c36 => ?_) (fun c36 => ?_)
      · refine r_lload (pc := 43) dX7_held_43 rfl ?_
        refine r_lconst (pc := 45) (v := lN 0) dX7_held_45 rfl ?_
        refine rn_lcmp (pc := 46) dX7_held_46 (by omega) (by omega) ?_
        refine rc_if_ne (pc := 47) (tgt := 55) dX7_held_47 (by decide) (fun c47 => ?_) (fun c47 => ?_)
        · refine r_iload (pc := 55) dX7_held_55 rfl ?_
          refine r_ineg (pc := 57) dX7_held_57 ?_
          refine r_ireturn (pc := 58) dX7_held_58 rfl (Or.inl rfl) rfl ?_
          exact absurd c21 c47
        · refine r_iload (pc := 50) dX7_held_50 rfl ?_
          refine r_goto (pc := 52) (tgt := 58) dX7_held_52 (by decide) ?_
          refine r_ireturn (pc := 58) dX7_held_58 rfl (Or.inl rfl) rfl ?_
          refine (congrArg (fun z => Q (some (.int z)) μ) (?_ : cmpT t p q r s = sgT t)).mp h
          refine cmpT_gt ?_
          rw [c47, Nat.mul_zero]
          exact Nat.mul_pos (hp0 c47) (by omega)
      · refine r_iconst (pc := 39) (v := (nI (0))) dX7_held_39 (by decide) ?_
        refine r_goto (pc := 40) (tgt := 58) dX7_held_40 (by decide) ?_
        refine r_ireturn (pc := 58) dX7_held_58 rfl (Or.inl rfl) rfl ?_
        refine (congrArg (fun z => Q (some (.int z)) μ) (?_ : cmpT t p q r s = (nI (0)))).mp h
        refine cmpT_eq ?_
        rw [← c36, c21]; simp
    · refine r_lload (pc := 24) dX7_held_24 rfl ?_
      refine r_lconst (pc := 26) (v := lN 0) dX7_held_26 rfl ?_
      refine rn_lcmp (pc := 27) dX7_held_27 (by omega) (by omega) ?_
      refine rc_if_ne (pc := 28) (tgt := 59) dX7_held_28 (by decide) (fun c28 => ?_) (fun c28 => ?_)
      · have d1 := Nat.div_le_self p q
        have d2 := Nat.div_le_self r s
        have d3 := Nat.mod_le p q
        have d4 := Nat.mod_le r s
        refine r_lload (pc := 59) dX7_held_59 rfl ?_
        refine r_lload (pc := 61) dX7_held_61 rfl ?_
        refine rn_ldiv (pc := 63) dX7_held_63 (by omega) (by omega) (by omega) ?_
        refine r_lstore (pc := 64) (ls' := [(8, .long (lN (p))), (10, .long (lN (q))), (12, .long (lN (r))), (14, .long (lN (s))), (16, .int (sgT t)), (17, .long (lN ((p) / (q))))]) dX7_held_64 (Nat.le_of_ble_eq_true rfl) rfl ?_
        refine r_lload (pc := 66) dX7_held_66 rfl ?_
        refine r_lload (pc := 68) dX7_held_68 rfl ?_
        refine rn_ldiv (pc := 70) dX7_held_70 (by omega) (by omega) (by omega) ?_
        refine r_lstore (pc := 71) (ls' := [(8, .long (lN (p))), (10, .long (lN (q))), (12, .long (lN (r))), (14, .long (lN (s))), (16, .int (sgT t)), (17, .long (lN ((p) / (q)))), (19, .long (lN ((r) / (s))))]) dX7_held_71 (Nat.le_of_ble_eq_true rfl) rfl ?_
        refine r_lload (pc := 73) dX7_held_73 rfl ?_
        refine r_lload (pc := 75) dX7_held_75 rfl ?_
        refine rn_lcmp (pc := 77) dX7_held_77 (by omega) (by omega) ?_
        refine rc_if_eq (pc := 78) (tgt := 98) dX7_held_78 (by decide) (fun c78 => ?_) (fun c78 => ?_)
        · refine r_lload (pc := 98) dX7_held_98 rfl ?_
          refine r_lload (pc := 100) dX7_held_100 rfl ?_
          refine rn_lrem (pc := 102) dX7_held_102 (by omega) (by omega) (by omega) ?_
          refine r_lstore (pc := 103) (ls' := [(8, .long (lN (p))), (10, .long (lN (q))), (12, .long (lN (r))), (14, .long (lN (s))), (16, .int (sgT t)), (17, .long (lN ((p) / (q)))), (19, .long (lN ((r) / (s)))), (21, .long (lN ((p) % (q))))]) dX7_held_103 (Nat.le_of_ble_eq_true rfl) rfl ?_
          refine r_lload (pc := 105) dX7_held_105 rfl ?_
          refine r_lload (pc := 107) dX7_held_107 rfl ?_
          refine rn_lrem (pc := 109) dX7_held_109 (by omega) (by omega) (by omega) ?_
          refine r_lstore (pc := 110) (ls' := [(8, .long (lN (p))), (10, .long (lN (q))), (12, .long (lN (r))), (14, .long (lN (s))), (16, .int (sgT t)), (17, .long (lN ((p) / (q)))), (19, .long (lN ((r) / (s)))), (21, .long (lN ((p) % (q)))), (23, .long (lN ((r) % (s))))]) dX7_held_110 (Nat.le_of_ble_eq_true rfl) rfl ?_
          refine r_lload (pc := 112) dX7_held_112 rfl ?_
          refine r_lstore (pc := 114) (ls' := [(8, .long (lN (q))), (10, .long (lN (q))), (12, .long (lN (r))), (14, .long (lN (s))), (16, .int (sgT t)), (17, .long (lN ((p) / (q)))), (19, .long (lN ((r) / (s)))), (21, .long (lN ((p) % (q)))), (23, .long (lN ((r) % (s))))]) dX7_held_114 (Nat.le_of_ble_eq_true rfl) rfl ?_
          refine r_lload (pc := 116) dX7_held_116 rfl ?_
          refine r_lstore (pc := 118) (ls' := [(8, .long (lN (q))), (10, .long (lN ((p) % (q)))), (12, .long (lN (r))), (14, .long (lN (s))), (16, .int (sgT t)), (17, .long (lN ((p) / (q)))), (19, .long (lN ((r) / (s)))), (21, .long (lN ((p) % (q)))), (23, .long (lN ((r) % (s))))]) dX7_held_118 (Nat.le_of_ble_eq_true rfl) rfl ?_
          refine r_lload (pc := 120) dX7_held_120 rfl ?_
          refine r_lstore (pc := 122) (ls' := [(8, .long (lN (q))), (10, .long (lN ((p) % (q)))), (12, .long (lN (s))), (14, .long (lN (s))), (16, .int (sgT t)), (17, .long (lN ((p) / (q)))), (19, .long (lN ((r) / (s)))), (21, .long (lN ((p) % (q)))), (23, .long (lN ((r) % (s))))]) dX7_held_122 (Nat.le_of_ble_eq_true rfl) rfl ?_
          refine r_lload (pc := 124) dX7_held_124 rfl ?_
          refine r_lstore (pc := 126) (ls' := [(8, .long (lN (q))), (10, .long (lN ((p) % (q)))), (12, .long (lN (s))), (14, .long (lN ((r) % (s)))), (16, .int (sgT t)), (17, .long (lN ((p) / (q)))), (19, .long (lN ((r) / (s)))), (21, .long (lN ((p) % (q)))), (23, .long (lN ((r) % (s))))]) dX7_held_126 (Nat.le_of_ble_eq_true rfl) rfl ?_
          refine r_iload (pc := 128) dX7_held_128 rfl ?_
          refine r_ineg (pc := 130) dX7_held_130 ?_
          refine r_istore (pc := 131) (ls' := [(8, .long (lN (q))), (10, .long (lN ((p) % (q)))), (12, .long (lN (s))), (14, .long (lN ((r) % (s)))), (16, .int (-sgT t)), (17, .long (lN ((p) / (q)))), (19, .long (lN ((r) / (s)))), (21, .long (lN ((p) % (q)))), (23, .long (lN ((r) % (s))))]) dX7_held_131 (Nat.le_of_ble_eq_true rfl) rfl ?_
          refine r_goto (pc := 133) (tgt := 17) dX7_held_133 (by decide) ?_
          rw [sgT_neg]
          refine r_pick [0, 1, 2, 3, 4] rfl ?_
          refine ih (p % q) (Nat.lt_of_lt_of_eq (Nat.mod_lt p (by omega)) hk) q (p % q) s (r % s) (!t) rfl (by omega) (by omega) (by omega) (by omega) (fun _ => by omega) (fun _ => by omega) ?_
          rw [cmpT_step c78]
          exact h
        · refine r_lload (pc := 81) dX7_held_81 rfl ?_
          refine r_lload (pc := 83) dX7_held_83 rfl ?_
          refine rn_lcmp (pc := 85) dX7_held_85 (by omega) (by omega) ?_
          refine rc_if_le (pc := 86) (tgt := 94) dX7_held_86 (by decide) (fun c86 => ?_) (fun c86 => ?_)
          · refine r_iload (pc := 94) dX7_held_94 rfl ?_
            refine r_ineg (pc := 96) dX7_held_96 ?_
            refine r_ireturn (pc := 97) dX7_held_97 rfl (Or.inl rfl) rfl ?_
            refine (congrArg (fun z => Q (some (.int z)) μ) (?_ : cmpT t p q r s = -sgT t)).mp h
            exact cmpT_lt (ab_lt (by omega) (by omega) (by omega))
          · refine r_iload (pc := 89) dX7_held_89 rfl ?_
            refine r_goto (pc := 91) (tgt := 97) dX7_held_91 (by decide) ?_
            refine r_ireturn (pc := 97) dX7_held_97 rfl (Or.inl rfl) rfl ?_
            refine (congrArg (fun z => Q (some (.int z)) μ) (?_ : cmpT t p q r s = sgT t)).mp h
            exact cmpT_gt (ab_lt (by omega) (by omega) (by omega))
      · refine r_lload (pc := 31) dX7_held_31 rfl ?_
        refine r_lload (pc := 33) dX7_held_33 rfl ?_
        refine rn_lcmp (pc := 35) dX7_held_35 (by omega) (by omega) ?_
        refine rc_if_ne (pc := 36) (tgt := 43) dX7_held_36 (by decide) (fun c36 => ?_) (fun c36 => ?_)
        · refine r_lload (pc := 43) dX7_held_43 rfl ?_
          refine r_lconst (pc := 45) (v := lN 0) dX7_held_45 rfl ?_
          refine rn_lcmp (pc := 46) dX7_held_46 (by omega) (by omega) ?_
          refine rc_if_ne (pc := 47) (tgt := 55) dX7_held_47 (by decide) (fun c47 => ?_) (fun c47 => ?_)
          · refine r_iload (pc := 55) dX7_held_55 rfl ?_
            refine r_ineg (pc := 57) dX7_held_57 ?_
            refine r_ireturn (pc := 58) dX7_held_58 rfl (Or.inl rfl) rfl ?_
            refine (congrArg (fun z => Q (some (.int z)) μ) (?_ : cmpT t p q r s = -sgT t)).mp h
            refine cmpT_lt ?_
            rw [c28, Nat.mul_zero]
            exact Nat.mul_pos (hr0 c28) (by omega)
          · refine r_iload (pc := 50) dX7_held_50 rfl ?_
            refine r_goto (pc := 52) (tgt := 58) dX7_held_52 (by decide) ?_
            refine r_ireturn (pc := 58) dX7_held_58 rfl (Or.inl rfl) rfl ?_
            refine (congrArg (fun z => Q (some (.int z)) μ) (?_ : cmpT t p q r s = sgT t)).mp h
            refine cmpT_gt ?_
            rw [c47, Nat.mul_zero]
            exact Nat.mul_pos (hp0 c47) (by omega)
        · refine r_iconst (pc := 39) (v := (nI (0))) dX7_held_39 (by decide) ?_
          refine r_goto (pc := 40) (tgt := 58) dX7_held_40 (by decide) ?_
          refine r_ireturn (pc := 58) dX7_held_58 rfl (Or.inl rfl) rfl ?_
          refine (congrArg (fun z => Q (some (.int z)) μ) (?_ : cmpT t p q r s = (nI (0)))).mp h
          refine cmpT_eq ?_
          rw [c36, c28]; simp

set_option maxRecDepth 20000 in
set_option maxHeartbeats 4000000 in
theorem c_held {μ : Mem} {a b c d : Nat} {Q : Option Value → Mem → Prop} (ha : a < 2 ^ 63) (hb : b < 2 ^ 63) (hc : c < 2 ^ 63) (hd : d < 2 ^ 63) (hb0 : 0 < b) (hd0 : 0 < d) (h : Q (some (.int (cmp3 (a * d) (c * b)))) μ) : Sp iX7_held 0 [.long (lN (a)), .long (lN (b)), .long (lN (c)), .long (lN (d))] μ Q := by
  refine Sp.of sX7_held.1 (Nat.le_of_ble_eq_true rfl) ?_
  show WP cX7_held (RX7, 25, (some .int), 0, none) 0 [(0, .long (lN (a))), (2, .long (lN (b))), (4, .long (lN (c))), (6, .long (lN (d)))] [] μ Q
  refine r_lload_n (pc := 0) dX7_held_0 rfl ?_
  refine r_lstore (pc := 1) (ls' := [(0, .long (lN (a))), (2, .long (lN (b))), (4, .long (lN (c))), (6, .long (lN (d))), (8, .long (lN (a)))]) dX7_held_1 (Nat.le_of_ble_eq_true rfl) rfl ?_
  refine r_lload_n (pc := 3) dX7_held_3 rfl ?_
  refine r_lstore (pc := 4) (ls' := [(0, .long (lN (a))), (2, .long (lN (b))), (4, .long (lN (c))), (6, .long (lN (d))), (8, .long (lN (a))), (10, .long (lN (b)))]) dX7_held_4 (Nat.le_of_ble_eq_true rfl) rfl ?_
  refine r_lload (pc := 6) dX7_held_6 rfl ?_
  refine r_lstore (pc := 8) (ls' := [(0, .long (lN (a))), (2, .long (lN (b))), (4, .long (lN (c))), (6, .long (lN (d))), (8, .long (lN (a))), (10, .long (lN (b))), (12, .long (lN (c)))]) dX7_held_8 (Nat.le_of_ble_eq_true rfl) rfl ?_
  refine r_lload (pc := 10) dX7_held_10 rfl ?_
  refine r_lstore (pc := 12) (ls' := [(0, .long (lN (a))), (2, .long (lN (b))), (4, .long (lN (c))), (6, .long (lN (d))), (8, .long (lN (a))), (10, .long (lN (b))), (12, .long (lN (c))), (14, .long (lN (d)))]) dX7_held_12 (Nat.le_of_ble_eq_true rfl) rfl ?_
  refine r_iconst (pc := 14) (v := (nI (1))) dX7_held_14 (by decide) ?_
  refine r_istore (pc := 15) (ls' := [(0, .long (lN (a))), (2, .long (lN (b))), (4, .long (lN (c))), (6, .long (lN (d))), (8, .long (lN (a))), (10, .long (lN (b))), (12, .long (lN (c))), (14, .long (lN (d))), (16, .int (nI 1))]) dX7_held_15 (Nat.le_of_ble_eq_true rfl) rfl ?_
  refine r_pick [4, 5, 6, 7, 8] rfl ?_
  exact c_held_l b a b c d false rfl ha hb hc hd (by omega) (by omega) h

set_option maxRecDepth 20000 in
set_option maxHeartbeats 4000000 in
theorem c_above_l {μ : Mem} {Q : Option Value → Mem → Prop}  : ∀ (k : Nat) (a b c d : Nat) (t : Bool) (i : Nat), i + k = 100 → Eu k a b → a < 2 ^ 63 → b < 2 ^ 63 → c < 2 ^ 63 → d < 2 ^ 63 → (b = 0 → 0 < a) → (d = 0 → 0 < c) → Q (some (.int (b2i (abT t a b c d)))) μ → WP cX6_isAbove (RX6, 18, (some .boolean), 0, none) 6 [(0, .long (lN (a))), (2, .long (lN (b))), (4, .long (lN (c))), (6, .long (lN (d))), (8, .int (b2i (t))), (9, .int (nI i))] [] μ Q := by
  intro k
  induction k using Nat.strongRecOn with
  | _ k ih =>
    intro a b c d t i hi hE ha hb hc hd ha0 hc0 h
    refine r_iload (pc := 6) dX6_isAbove_6 rfl ?_
    refine r_bipush (pc := 8) (v := (nI (100))) dX6_isAbove_8 (by decide) ?_
    refine rn_icmp_ge (pc := 10) (tgt := 119) dX6_isAbove_10 (by decide) (by omega) (by omega) (fun c10 => ?_) (fun c10 => ?_)
    · have k0 : k = 0 := by omega
      rw [k0] at hE
      have b0 := Eu_0 hE
      refine r_lload_n (pc := 119) dX6_isAbove_119 rfl ?_
      refine r_lload (pc := 120) dX6_isAbove_120 rfl ?_
      refine rn_lcmp (pc := 122) dX6_isAbove_122 (by omega) (by omega) ?_
      refine rc_if_eq (pc := 123) (tgt := 146) dX6_isAbove_123 (by decide) (fun c123 => ?_) (fun c123 => ?_)
      · refine r_iconst (pc := 146) (v := (nI (0))) dX6_isAbove_146 (by decide) ?_
        refine r_ireturn (pc := 147) dX6_isAbove_147 rfl (Or.inr rfl) rfl ?_
        refine (congrArg (fun z => Q (some (.int z)) μ) (?_ : b2i (abT t a b c d) = (nI (0)))).mp h
        rw [abT_eq (by rw [← c123, b0]; simp)]
        rfl
      · refine r_lload_n (pc := 126) dX6_isAbove_126 rfl ?_
        refine r_lconst (pc := 127) (v := lN 0) dX6_isAbove_127 rfl ?_
        refine rn_lcmp (pc := 128) dX6_isAbove_128 (by omega) (by omega) ?_
        refine rc_if_ne (pc := 129) (tgt := 136) dX6_isAbove_129 (by decide) (fun c129 => ?_) (fun c129 => ?_)
        · refine r_iconst (pc := 136) (v := (nI (0))) dX6_isAbove_136 (by decide) ?_
          refine r_iload (pc := 137) dX6_isAbove_137 rfl ?_
          refine r_icmp_eq (pc := 139) (tgt := 146) dX6_isAbove_139 (by decide) (fun c139 => ?_) (fun c139 => ?_)
          · refine r_iconst (pc := 146) (v := (nI (0))) dX6_isAbove_146 (by decide) ?_
            refine r_ireturn (pc := 147) dX6_isAbove_147 rfl (Or.inr rfl) rfl ?_
            exact absurd b0 c129
          · refine r_iconst (pc := 142) (v := (nI (1))) dX6_isAbove_142 (by decide) ?_
            refine r_goto (pc := 143) (tgt := 147) dX6_isAbove_143 (by decide) ?_
            refine r_ireturn (pc := 147) dX6_isAbove_147 rfl (Or.inr rfl) rfl ?_
            exact absurd b0 c129
        · refine r_iconst (pc := 132) (v := (nI (1))) dX6_isAbove_132 (by decide) ?_
          refine r_goto (pc := 133) (tgt := 137) dX6_isAbove_133 (by decide) ?_
          refine r_iload (pc := 137) dX6_isAbove_137 rfl ?_
          refine r_icmp_eq (pc := 139) (tgt := 146) dX6_isAbove_139 (by decide) (fun c139 => ?_) (fun c139 => ?_)
          · refine r_iconst (pc := 146) (v := (nI (0))) dX6_isAbove_146 (by decide) ?_
            refine r_ireturn (pc := 147) dX6_isAbove_147 rfl (Or.inr rfl) rfl ?_
            refine (congrArg (fun z => Q (some (.int z)) μ) (?_ : b2i (abT t a b c d) = (nI (0)))).mp h
            rw [abT_gt (by rw [c129, Nat.mul_zero]; exact Nat.mul_pos (ha0 c129) (by omega))]
            revert c139
            cases t <;> decide
          · refine r_iconst (pc := 142) (v := (nI (1))) dX6_isAbove_142 (by decide) ?_
            refine r_goto (pc := 143) (tgt := 147) dX6_isAbove_143 (by decide) ?_
            refine r_ireturn (pc := 147) dX6_isAbove_147 rfl (Or.inr rfl) rfl ?_
            refine (congrArg (fun z => Q (some (.int z)) μ) (?_ : b2i (abT t a b c d) = (nI (1)))).mp h
            rw [abT_gt (by rw [c129, Nat.mul_zero]; exact Nat.mul_pos (ha0 c129) (by omega))]
            revert c139
            cases t <;> decide
    · refine r_lload_n (pc := 13) dX6_isAbove_13 rfl ?_
      refine r_lconst (pc := 14) (v := lN 0) dX6_isAbove_14 rfl ?_
      refine rn_lcmp (pc := 15) dX6_isAbove_15 (by omega) (by omega) ?_
      refine rc_if_eq (pc := 16) (tgt := 119) dX6_isAbove_16 (by decide) (fun c16 => ?_) (fun c16 => ?_)
      · refine r_lload_n (pc := 119) dX6_isAbove_119 rfl ?_
        refine r_lload (pc := 120) dX6_isAbove_120 rfl ?_
        refine rn_lcmp (pc := 122) dX6_isAbove_122 (by omega) (by omega) ?_
        refine rc_if_eq (pc := 123) (tgt := 146) dX6_isAbove_123 (by decide) (fun c123 => ?_) (fun c123 => ?_)
        · refine r_iconst (pc := 146) (v := (nI (0))) dX6_isAbove_146 (by decide) ?_
          refine r_ireturn (pc := 147) dX6_isAbove_147 rfl (Or.inr rfl) rfl ?_
          refine (congrArg (fun z => Q (some (.int z)) μ) (?_ : b2i (abT t a b c d) = (nI (0)))).mp h
          rw [abT_eq (by rw [← c123, c16]; simp)]
          rfl
        · refine r_lload_n (pc := 126) dX6_isAbove_126 rfl ?_
          refine r_lconst (pc := 127) (v := lN 0) dX6_isAbove_127 rfl ?_
          refine rn_lcmp (pc := 128) dX6_isAbove_128 (by omega) (by omega) ?_
          refine rc_if_ne (pc := 129) (tgt := 136) dX6_isAbove_129 (by decide) (fun c129 => ?_) (fun c129 => ?_)
          · refine r_iconst (pc := 136) (v := (nI (0))) dX6_isAbove_136 (by decide) ?_
            refine r_iload (pc := 137) dX6_isAbove_137 rfl ?_
            refine r_icmp_eq (pc := 139) (tgt := 146) dX6_isAbove_139 (by decide) (fun c139 => ?_) (fun c139 => ?_)
            · refine r_iconst (pc := 146) (v := (nI (0))) dX6_isAbove_146 (by decide) ?_
              refine r_ireturn (pc := 147) dX6_isAbove_147 rfl (Or.inr rfl) rfl ?_
              exact absurd c16 c129
            · refine r_iconst (pc := 142) (v := (nI (1))) dX6_isAbove_142 (by decide) ?_
              refine r_goto (pc := 143) (tgt := 147) dX6_isAbove_143 (by decide) ?_
              refine r_ireturn (pc := 147) dX6_isAbove_147 rfl (Or.inr rfl) rfl ?_
              exact absurd c16 c129
          · refine r_iconst (pc := 132) (v := (nI (1))) dX6_isAbove_132 (by decide) ?_
            refine r_goto (pc := 133) (tgt := 137) dX6_isAbove_133 (by decide) ?_
            refine r_iload (pc := 137) dX6_isAbove_137 rfl ?_
            refine r_icmp_eq (pc := 139) (tgt := 146) dX6_isAbove_139 (by decide) (fun c139 => ?_) (fun c139 => ?_)
            · refine r_iconst (pc := 146) (v := (nI (0))) dX6_isAbove_146 (by decide) ?_
              refine r_ireturn (pc := 147) dX6_isAbove_147 rfl (Or.inr rfl) rfl ?_
              refine (congrArg (fun z => Q (some (.int z)) μ) (?_ : b2i (abT t a b c d) = (nI (0)))).mp h
              rw [abT_gt (by rw [c129, Nat.mul_zero]; exact Nat.mul_pos (ha0 c129) (by omega))]
              revert c139
              cases t <;> decide
            · refine r_iconst (pc := 142) (v := (nI (1))) dX6_isAbove_142 (by decide) ?_
              refine r_goto (pc := 143) (tgt := 147) dX6_isAbove_143 (by decide) ?_
              refine r_ireturn (pc := 147) dX6_isAbove_147 rfl (Or.inr rfl) rfl ?_
              refine (congrArg (fun z => Q (some (.int z)) μ) (?_ : b2i (abT t a b c d) = (nI (1)))).mp h
              rw [abT_gt (by rw [c129, Nat.mul_zero]; exact Nat.mul_pos (ha0 c129) (by omega))]
              revert c139
              cases t <;> decide
      · refine r_lload (pc := 19) dX6_isAbove_19 rfl ?_
        refine r_lconst (pc := 21) (v := lN 0) dX6_isAbove_21 rfl ?_
        refine rn_lcmp (pc := 22) dX6_isAbove_22 (by omega) (by omega) ?_
        refine rc_if_eq (pc := 23) (tgt := 119) dX6_isAbove_23 (by decide) (fun c23 => ?_) (fun c23 => ?_)
        · refine r_lload_n (pc := 119) dX6_isAbove_119 rfl ?_
          refine r_lload (pc := 120) dX6_isAbove_120 rfl ?_
          refine rn_lcmp (pc := 122) dX6_isAbove_122 (by omega) (by omega) ?_
          refine rc_if_eq (pc := 123) (tgt := 146) dX6_isAbove_123 (by decide) (fun c123 => ?_) (fun c123 => ?_)
          · refine r_iconst (pc := 146) (v := (nI (0))) dX6_isAbove_146 (by decide) ?_
            refine r_ireturn (pc := 147) dX6_isAbove_147 rfl (Or.inr rfl) rfl ?_
            exact absurd (c123.trans c23) c16
          · refine r_lload_n (pc := 126) dX6_isAbove_126 rfl ?_
            refine r_lconst (pc := 127) (v := lN 0) dX6_isAbove_127 rfl ?_
            refine rn_lcmp (pc := 128) dX6_isAbove_128 (by omega) (by omega) ?_
            refine rc_if_ne (pc := 129) (tgt := 136) dX6_isAbove_129 (by decide) (fun c129 => ?_) (fun c129 => ?_)
            · refine r_iconst (pc := 136) (v := (nI (0))) dX6_isAbove_136 (by decide) ?_
              refine r_iload (pc := 137) dX6_isAbove_137 rfl ?_
              refine r_icmp_eq (pc := 139) (tgt := 146) dX6_isAbove_139 (by decide) (fun c139 => ?_) (fun c139 => ?_)
              · refine r_iconst (pc := 146) (v := (nI (0))) dX6_isAbove_146 (by decide) ?_
                refine r_ireturn (pc := 147) dX6_isAbove_147 rfl (Or.inr rfl) rfl ?_
                refine (congrArg (fun z => Q (some (.int z)) μ) (?_ : b2i (abT t a b c d) = (nI (0)))).mp h
                rw [abT_lt (by rw [c23, Nat.mul_zero]; exact Nat.mul_pos (hc0 c23) (by omega))]
                revert c139
                cases t <;> decide
              · refine r_iconst (pc := 142) (v := (nI (1))) dX6_isAbove_142 (by decide) ?_
                refine r_goto (pc := 143) (tgt := 147) dX6_isAbove_143 (by decide) ?_
                refine r_ireturn (pc := 147) dX6_isAbove_147 rfl (Or.inr rfl) rfl ?_
                refine (congrArg (fun z => Q (some (.int z)) μ) (?_ : b2i (abT t a b c d) = (nI (1)))).mp h
                rw [abT_lt (by rw [c23, Nat.mul_zero]; exact Nat.mul_pos (hc0 c23) (by omega))]
                revert c139
                cases t <;> decide
            · refine r_iconst (pc := 132) (v := (nI (1))) dX6_isAbove_132 (by decide) ?_
              refine r_goto (pc := 133) (tgt := 137) dX6_isAbove_133 (by decide) ?_
              refine r_iload (pc := 137) dX6_isAbove_137 rfl ?_
              refine r_icmp_eq (pc := 139) (tgt := 146) dX6_isAbove_139 (by decide) (fun c139 => ?_) (fun c139 => ?_)
              · refine r_iconst (pc := 146) (v := (nI (0))) dX6_isAbove_146 (by decide) ?_
                refine r_ireturn (pc := 147) dX6_isAbove_147 rfl (Or.inr rfl) rfl ?_
                refine (congrArg (fun z => Q (some (.int z)) μ) (?_ : b2i (abT t a b c d) = (nI (0)))).mp h
                rw [abT_gt (by rw [c129, Nat.mul_zero]; exact Nat.mul_pos (ha0 c129) (by omega))]
                revert c139
                cases t <;> decide
              · refine r_iconst (pc := 142) (v := (nI (1))) dX6_isAbove_142 (by decide) ?_
                refine r_goto (pc := 143) (tgt := 147) dX6_isAbove_143 (by decide) ?_
                refine r_ireturn (pc := 147) dX6_isAbove_147 rfl (Or.inr rfl) rfl ?_
                refine (congrArg (fun z => Q (some (.int z)) μ) (?_ : b2i (abT t a b c d) = (nI (1)))).mp h
                rw [abT_gt (by rw [c129, Nat.mul_zero]; exact Nat.mul_pos (ha0 c129) (by omega))]
                revert c139
                cases t <;> decide
        · have d1 := Nat.div_le_self a b
          have d2 := Nat.div_le_self c d
          have d3 := Nat.mod_le a b
          have d4 := Nat.mod_le c d
          have d5 : a / b * b ≤ a := Nat.div_mul_le_self a b
          have d6 : c / d * d ≤ c := Nat.div_mul_le_self c d
          have d7 := Nat.div_add_mod a b
          have d8 := Nat.div_add_mod c d
          rw [Nat.mul_comm] at d7 d8
          refine r_lload_n (pc := 26) dX6_isAbove_26 rfl ?_
          refine r_lload_n (pc := 27) dX6_isAbove_27 rfl ?_
          refine rn_ldiv (pc := 28) dX6_isAbove_28 (by omega) (by omega) (by omega) ?_
          refine r_lstore (pc := 29) (ls' := [(0, .long (lN (a))), (2, .long (lN (b))), (4, .long (lN (c))), (6, .long (lN (d))), (8, .int (b2i (t))), (9, .int (nI i)), (10, .long (lN ((a) / (b))))]) dX6_isAbove_29 (Nat.le_of_ble_eq_true rfl) rfl ?_
          refine r_lload (pc := 31) dX6_isAbove_31 rfl ?_
          refine r_lload (pc := 33) dX6_isAbove_33 rfl ?_
          refine rn_ldiv (pc := 35) dX6_isAbove_35 (by omega) (by omega) (by omega) ?_
          refine r_lstore (pc := 36) (ls' := [(0, .long (lN (a))), (2, .long (lN (b))), (4, .long (lN (c))), (6, .long (lN (d))), (8, .int (b2i (t))), (9, .int (nI i)), (10, .long (lN ((a) / (b)))), (12, .long (lN ((c) / (d))))]) dX6_isAbove_36 (Nat.le_of_ble_eq_true rfl) rfl ?_
          refine r_lload (pc := 38) dX6_isAbove_38 rfl ?_
          refine r_lload (pc := 40) dX6_isAbove_40 rfl ?_
          refine rn_lcmp (pc := 42) dX6_isAbove_42 (by omega) (by omega) ?_
          refine rc_if_eq (pc := 43) (tgt := 70) dX6_isAbove_43 (by decide) (fun c43 => ?_) (fun c43 => ?_)
          · refine r_lload_n (pc := 70) dX6_isAbove_70 rfl ?_
            refine r_lload (pc := 71) dX6_isAbove_71 rfl ?_
            refine r_lload_n (pc := 73) dX6_isAbove_73 rfl ?_
            refine rn_lmul (pc := 74) dX6_isAbove_74 ?_
            refine rn_lsub (pc := 75) dX6_isAbove_75 (by omega) ?_
            refine r_eql (y := lN (a % b)) (by rw [show a - a / b * b = a % b by omega]) ?_
            refine r_lstore (pc := 76) (ls' := [(0, .long (lN (a))), (2, .long (lN (b))), (4, .long (lN (c))), (6, .long (lN (d))), (8, .int (b2i (t))), (9, .int (nI i)), (10, .long (lN ((a) / (b)))), (12, .long (lN ((c) / (d)))), (14, .long (lN (a % b)))]) dX6_isAbove_76 (Nat.le_of_ble_eq_true rfl) rfl ?_
            refine r_lload (pc := 78) dX6_isAbove_78 rfl ?_
            refine r_lload (pc := 80) dX6_isAbove_80 rfl ?_
            refine r_lload (pc := 82) dX6_isAbove_82 rfl ?_
            refine rn_lmul (pc := 84) dX6_isAbove_84 ?_
            refine rn_lsub (pc := 85) dX6_isAbove_85 (by omega) ?_
            refine r_eql (y := lN (c % d)) (by rw [show c - c / d * d = c % d by omega]) ?_
            refine r_lstore (pc := 86) (ls' := [(0, .long (lN (a))), (2, .long (lN (b))), (4, .long (lN (c))), (6, .long (lN (d))), (8, .int (b2i (t))), (9, .int (nI i)), (10, .long (lN ((a) / (b)))), (12, .long (lN ((c) / (d)))), (14, .long (lN (a % b))), (16, .long (lN (c % d)))]) dX6_isAbove_86 (Nat.le_of_ble_eq_true rfl) rfl ?_
            refine r_lload_n (pc := 88) dX6_isAbove_88 rfl ?_
            refine r_lstore_n (pc := 89) (ls' := [(0, .long (lN (b))), (2, .long (lN (b))), (4, .long (lN (c))), (6, .long (lN (d))), (8, .int (b2i (t))), (9, .int (nI i)), (10, .long (lN ((a) / (b)))), (12, .long (lN ((c) / (d)))), (14, .long (lN (a % b))), (16, .long (lN (c % d)))]) dX6_isAbove_89 (Nat.le_of_ble_eq_true rfl) rfl ?_
            refine r_lload (pc := 90) dX6_isAbove_90 rfl ?_
            refine r_lstore_n (pc := 92) (ls' := [(0, .long (lN (b))), (2, .long (lN (a % b))), (4, .long (lN (c))), (6, .long (lN (d))), (8, .int (b2i (t))), (9, .int (nI i)), (10, .long (lN ((a) / (b)))), (12, .long (lN ((c) / (d)))), (14, .long (lN (a % b))), (16, .long (lN (c % d)))]) dX6_isAbove_92 (Nat.le_of_ble_eq_true rfl) rfl ?_
            refine r_lload (pc := 93) dX6_isAbove_93 rfl ?_
            refine r_lstore (pc := 95) (ls' := [(0, .long (lN (b))), (2, .long (lN (a % b))), (4, .long (lN (d))), (6, .long (lN (d))), (8, .int (b2i (t))), (9, .int (nI i)), (10, .long (lN ((a) / (b)))), (12, .long (lN ((c) / (d)))), (14, .long (lN (a % b))), (16, .long (lN (c % d)))]) dX6_isAbove_95 (Nat.le_of_ble_eq_true rfl) rfl ?_
            refine r_lload (pc := 97) dX6_isAbove_97 rfl ?_
            refine r_lstore (pc := 99) (ls' := [(0, .long (lN (b))), (2, .long (lN (a % b))), (4, .long (lN (d))), (6, .long (lN (c % d))), (8, .int (b2i (t))), (9, .int (nI i)), (10, .long (lN ((a) / (b)))), (12, .long (lN ((c) / (d)))), (14, .long (lN (a % b))), (16, .long (lN (c % d)))]) dX6_isAbove_99 (Nat.le_of_ble_eq_true rfl) rfl ?_
            refine r_iload (pc := 101) dX6_isAbove_101 rfl ?_
            refine rb_if_ne (pc := 103) (tgt := 110) dX6_isAbove_103 (by decide) (fun c103 => ?_) (fun c103 => ?_)
            · refine r_iconst (pc := 110) (v := (nI (0))) dX6_isAbove_110 (by decide) ?_
              refine r_istore (pc := 111) (ls' := [(0, .long (lN (b))), (2, .long (lN (a % b))), (4, .long (lN (d))), (6, .long (lN (c % d))), (8, .int (nI 0)), (9, .int (nI i)), (10, .long (lN ((a) / (b)))), (12, .long (lN ((c) / (d)))), (14, .long (lN (a % b))), (16, .long (lN (c % d)))]) dX6_isAbove_111 (Nat.le_of_ble_eq_true rfl) rfl ?_
              refine rn_iinc (pc := 113) (b := 1) (ls' := [(0, .long (lN (b))), (2, .long (lN (a % b))), (4, .long (lN (d))), (6, .long (lN (c % d))), (8, .int (nI 0)), (9, .int (nI (i + 1))), (10, .long (lN ((a) / (b)))), (12, .long (lN ((c) / (d)))), (14, .long (lN (a % b))), (16, .long (lN (c % d)))]) dX6_isAbove_113 rfl (by decide) (Nat.le_of_ble_eq_true rfl) rfl ?_
              refine r_goto (pc := 116) (tgt := 6) dX6_isAbove_116 (by decide) ?_
              rw [show (nI (0)) = b2i (!t) by rw [c103]; rfl]
              refine r_pick [0, 1, 2, 3, 4, 5] rfl ?_
              refine ih (k - 1) (by omega) b (a % b) d (c % d) (!t) (i + 1) (by omega) ?_ (by omega) (by omega) (by omega) (by omega) (fun _ => by omega) (fun _ => by omega) ?_
              · have e : k = (k - 1) + 1 := by omega
                rw [e] at hE
                exact Eu_s hE (by omega)
              · rw [abT_step c43]
                exact h
            · refine r_iconst (pc := 106) (v := (nI (1))) dX6_isAbove_106 (by decide) ?_
              refine r_goto (pc := 107) (tgt := 111) dX6_isAbove_107 (by decide) ?_
              refine r_istore (pc := 111) (ls' := [(0, .long (lN (b))), (2, .long (lN (a % b))), (4, .long (lN (d))), (6, .long (lN (c % d))), (8, .int (nI 1)), (9, .int (nI i)), (10, .long (lN ((a) / (b)))), (12, .long (lN ((c) / (d)))), (14, .long (lN (a % b))), (16, .long (lN (c % d)))]) dX6_isAbove_111 (Nat.le_of_ble_eq_true rfl) rfl ?_
              refine rn_iinc (pc := 113) (b := 1) (ls' := [(0, .long (lN (b))), (2, .long (lN (a % b))), (4, .long (lN (d))), (6, .long (lN (c % d))), (8, .int (nI 1)), (9, .int (nI (i + 1))), (10, .long (lN ((a) / (b)))), (12, .long (lN ((c) / (d)))), (14, .long (lN (a % b))), (16, .long (lN (c % d)))]) dX6_isAbove_113 rfl (by decide) (Nat.le_of_ble_eq_true rfl) rfl ?_
              refine r_goto (pc := 116) (tgt := 6) dX6_isAbove_116 (by decide) ?_
              rw [show (nI (1)) = b2i (!t) by rw [c103]; rfl]
              refine r_pick [0, 1, 2, 3, 4, 5] rfl ?_
              refine ih (k - 1) (by omega) b (a % b) d (c % d) (!t) (i + 1) (by omega) ?_ (by omega) (by omega) (by omega) (by omega) (fun _ => by omega) (fun _ => by omega) ?_
              · have e : k = (k - 1) + 1 := by omega
                rw [e] at hE
                exact Eu_s hE (by omega)
              · rw [abT_step c43]
                exact h
          · refine r_lload (pc := 46) dX6_isAbove_46 rfl ?_
            refine r_lload (pc := 48) dX6_isAbove_48 rfl ?_
            refine rn_lcmp (pc := 50) dX6_isAbove_50 (by omega) (by omega) ?_
            refine rc_if_le (pc := 51) (tgt := 58) dX6_isAbove_51 (by decide) (fun c51 => ?_) (fun c51 => ?_)
            · refine r_iconst (pc := 58) (v := (nI (0))) dX6_isAbove_58 (by decide) ?_
              refine r_iload (pc := 59) dX6_isAbove_59 rfl ?_
              refine r_icmp_eq (pc := 61) (tgt := 68) dX6_isAbove_61 (by decide) (fun c61 => ?_) (fun c61 => ?_)
              · refine r_iconst (pc := 68) (v := (nI (0))) dX6_isAbove_68 (by decide) ?_
                refine r_ireturn (pc := 69) dX6_isAbove_69 rfl (Or.inr rfl) rfl ?_
                refine (congrArg (fun z => Q (some (.int z)) μ) (?_ : b2i (abT t a b c d) = (nI (0)))).mp h
                rw [abT_lt (ab_lt (by omega) (by omega) (by omega))]
                revert c61
                cases t <;> decide
              · refine r_iconst (pc := 64) (v := (nI (1))) dX6_isAbove_64 (by decide) ?_
                refine r_goto (pc := 65) (tgt := 69) dX6_isAbove_65 (by decide) ?_
                refine r_ireturn (pc := 69) dX6_isAbove_69 rfl (Or.inr rfl) rfl ?_
                refine (congrArg (fun z => Q (some (.int z)) μ) (?_ : b2i (abT t a b c d) = (nI (1)))).mp h
                rw [abT_lt (ab_lt (by omega) (by omega) (by omega))]
                revert c61
                cases t <;> decide
            · refine r_iconst (pc := 54) (v := (nI (1))) dX6_isAbove_54 (by decide) ?_
              refine r_goto (pc := 55) (tgt := 59) dX6_isAbove_55 (by decide) ?_
              refine r_iload (pc := 59) dX6_isAbove_59 rfl ?_
              refine r_icmp_eq (pc := 61) (tgt := 68) dX6_isAbove_61 (by decide) (fun c61 => ?_) (fun c61 => ?_)
              · refine r_iconst (pc := 68) (v := (nI (0))) dX6_isAbove_68 (by decide) ?_
                refine r_ireturn (pc := 69) dX6_isAbove_69 rfl (Or.inr rfl) rfl ?_
                refine (congrArg (fun z => Q (some (.int z)) μ) (?_ : b2i (abT t a b c d) = (nI (0)))).mp h
                rw [abT_gt (ab_lt (by omega) (by omega) (by omega))]
                revert c61
                cases t <;> decide
              · refine r_iconst (pc := 64) (v := (nI (1))) dX6_isAbove_64 (by decide) ?_
                refine r_goto (pc := 65) (tgt := 69) dX6_isAbove_65 (by decide) ?_
                refine r_ireturn (pc := 69) dX6_isAbove_69 rfl (Or.inr rfl) rfl ?_
                refine (congrArg (fun z => Q (some (.int z)) μ) (?_ : b2i (abT t a b c d) = (nI (1)))).mp h
                rw [abT_gt (ab_lt (by omega) (by omega) (by omega))]
                revert c61
                cases t <;> decide

set_option maxRecDepth 20000 in
set_option maxHeartbeats 4000000 in
theorem c_above {μ : Mem} {a b c d : Nat} {Q : Option Value → Mem → Prop} (ha : a < 2 ^ 63) (hb : b < 2 ^ 63) (hc : c < 2 ^ 63) (hd : d < 2 ^ 63) (hb0 : 0 < b) (hd0 : 0 < d) (h : Q (some (.int (b2i (above a b c d)))) μ) : Sp iX6_isAbove 0 [.long (lN (a)), .long (lN (b)), .long (lN (c)), .long (lN (d))] μ Q := by
  refine Sp.of sX6_isAbove.1 (Nat.le_of_ble_eq_true rfl) ?_
  show WP cX6_isAbove (RX6, 18, (some .boolean), 0, none) 0 [(0, .long (lN (a))), (2, .long (lN (b))), (4, .long (lN (c))), (6, .long (lN (d)))] [] μ Q
  refine r_iconst (pc := 0) (v := (nI (0))) dX6_isAbove_0 (by decide) ?_
  refine r_istore (pc := 1) (ls' := [(0, .long (lN (a))), (2, .long (lN (b))), (4, .long (lN (c))), (6, .long (lN (d))), (8, .int (nI 0))]) dX6_isAbove_1 (Nat.le_of_ble_eq_true rfl) rfl ?_
  refine r_iconst (pc := 3) (v := (nI (0))) dX6_isAbove_3 (by decide) ?_
  refine r_istore (pc := 4) (ls' := [(0, .long (lN (a))), (2, .long (lN (b))), (4, .long (lN (c))), (6, .long (lN (d))), (8, .int (nI 0)), (9, .int (nI 0))]) dX6_isAbove_4 (Nat.le_of_ble_eq_true rfl) rfl ?_
  exact c_above_l 100 a b c d false 0 (by omega) (Or.inl (by have := fib100; omega)) ha hb hc hd (by omega) (by omega) h

set_option maxRecDepth 20000 in
set_option maxHeartbeats 4000000 in
theorem c_gcd_l {μ : Mem} {Q : Option Value → Mem → Prop}  : ∀ (k : Nat) (a b : Nat) (i : Nat), i + k = 100 → Eu k a b → a < 2 ^ 63 → b < 2 ^ 63 → Q (some (.long (lN (Nat.gcd a b)))) μ → WP cX6_greatestDivisor (RX6, 7, (some .long), 0, none) 3 [(0, .long (lN (a))), (2, .long (lN (b))), (4, .int (nI i))] [] μ Q := by
  intro k
  induction k using Nat.strongRecOn with
  | _ k ih =>
    intro a b i hi hE ha hb h
    refine r_iload (pc := 3) dX6_greatestDivisor_3 rfl ?_
    refine r_bipush (pc := 5) (v := (nI (100))) dX6_greatestDivisor_5 (by decide) ?_
    refine rn_icmp_ge (pc := 7) (tgt := 32) dX6_greatestDivisor_7 (by decide) (by omega) (by omega) (fun c7 => ?_) (fun c7 => ?_)
    · have k0 : k = 0 := by omega
      rw [k0] at hE
      have b0 := Eu_0 hE
      refine r_lload_n (pc := 32) dX6_greatestDivisor_32 rfl ?_
      refine r_lreturn (pc := 33) dX6_greatestDivisor_33 rfl ?_
      rw [b0, Nat.gcd_zero_right] at h
      exact h
    · refine r_lload_n (pc := 10) dX6_greatestDivisor_10 rfl ?_
      refine r_lconst (pc := 11) (v := lN 0) dX6_greatestDivisor_11 rfl ?_
      refine rn_lcmp (pc := 12) dX6_greatestDivisor_12 (by omega) (by omega) ?_
      refine rc_if_eq (pc := 13) (tgt := 32) dX6_greatestDivisor_13 (by decide) (fun c13 => ?_) (fun c13 => ?_)
      · refine r_lload_n (pc := 32) dX6_greatestDivisor_32 rfl ?_
        refine r_lreturn (pc := 33) dX6_greatestDivisor_33 rfl ?_
        rw [c13, Nat.gcd_zero_right] at h
        exact h
      · have d3 := Nat.mod_lt a (show 0 < b by omega)
        refine r_lload_n (pc := 16) dX6_greatestDivisor_16 rfl ?_
        refine r_lload_n (pc := 17) dX6_greatestDivisor_17 rfl ?_
        refine rn_lrem (pc := 18) dX6_greatestDivisor_18 (by omega) (by omega) (by omega) ?_
        refine r_lstore (pc := 19) (ls' := [(0, .long (lN (a))), (2, .long (lN (b))), (4, .int (nI i)), (5, .long (lN ((a) % (b))))]) dX6_greatestDivisor_19 (Nat.le_of_ble_eq_true rfl) rfl ?_
        refine r_lload_n (pc := 21) dX6_greatestDivisor_21 rfl ?_
        refine r_lstore_n (pc := 22) (ls' := [(0, .long (lN (b))), (2, .long (lN (b))), (4, .int (nI i)), (5, .long (lN ((a) % (b))))]) dX6_greatestDivisor_22 (Nat.le_of_ble_eq_true rfl) rfl ?_
        refine r_lload (pc := 23) dX6_greatestDivisor_23 rfl ?_
        refine r_lstore_n (pc := 25) (ls' := [(0, .long (lN (b))), (2, .long (lN ((a) % (b)))), (4, .int (nI i)), (5, .long (lN ((a) % (b))))]) dX6_greatestDivisor_25 (Nat.le_of_ble_eq_true rfl) rfl ?_
        refine rn_iinc (pc := 26) (b := 1) (ls' := [(0, .long (lN (b))), (2, .long (lN ((a) % (b)))), (4, .int (nI (i + 1))), (5, .long (lN ((a) % (b))))]) dX6_greatestDivisor_26 rfl (by decide) (Nat.le_of_ble_eq_true rfl) rfl ?_
        refine r_goto (pc := 29) (tgt := 3) dX6_greatestDivisor_29 (by decide) ?_
        refine r_pick [0, 1, 2] rfl ?_
        refine ih (k - 1) (by omega) b (a % b) (i + 1) (by omega) ?_ (by omega) (by omega) ?_
        · have e : k = (k - 1) + 1 := by omega
          rw [e] at hE
          exact Eu_s hE (by omega)
        · rw [Nat.gcd_comm, ← Nat.gcd_rec, Nat.gcd_comm]
          exact h

set_option maxRecDepth 20000 in
set_option maxHeartbeats 4000000 in
theorem c_gcd {μ : Mem} {a b : Nat} {Q : Option Value → Mem → Prop} (ha : a < 2 ^ 63) (hb : b < 2 ^ 63) (h : Q (some (.long (lN (Nat.gcd a b)))) μ) : Sp iX6_greatestDivisor 0 [.long (lN (a)), .long (lN (b))] μ Q := by
  refine Sp.of sX6_greatestDivisor.1 (Nat.le_of_ble_eq_true rfl) ?_
  show WP cX6_greatestDivisor (RX6, 7, (some .long), 0, none) 0 [(0, .long (lN (a))), (2, .long (lN (b)))] [] μ Q
  refine r_iconst (pc := 0) (v := (nI (0))) dX6_greatestDivisor_0 (by decide) ?_
  refine r_istore (pc := 1) (ls' := [(0, .long (lN (a))), (2, .long (lN (b))), (4, .int (nI 0))]) dX6_greatestDivisor_1 (Nat.le_of_ble_eq_true rfl) rfl ?_
  exact c_gcd_l 100 a b 0 (by omega) (Or.inl (by have := fib100; omega)) ha hb h

set_option maxRecDepth 20000 in
set_option maxHeartbeats 4000000 in
theorem c_low {μ : Mem} {a g : Nat} {Q : Option Value → Mem → Prop} (ha : a < 2 ^ 63) (hg : g < 2 ^ 63) (hg0 : 0 < g) (h : Q (some (.long (lN (a / g)))) μ) : Sp iX6_inLowestTerms 0 [.long (lN (a)), .long (lN (g))] μ Q := by
  refine Sp.of sX6_inLowestTerms.1 (Nat.le_of_ble_eq_true rfl) ?_
  show WP cX6_inLowestTerms (RX6, 4, (some .long), 0, none) 0 [(0, .long (lN (a))), (2, .long (lN (g)))] [] μ Q
  refine r_lload_n (pc := 0) dX6_inLowestTerms_0 rfl ?_
  refine r_lconst (pc := 1) (v := lN 1) dX6_inLowestTerms_1 rfl ?_
  refine rn_lcmp (pc := 2) dX6_inLowestTerms_2 (by omega) (by omega) ?_
  refine rc_if_ge (pc := 3) (tgt := 10) dX6_inLowestTerms_3 (by decide) (fun c3 => ?_) (fun c3 => ?_)
  · refine r_lload_n (pc := 10) dX6_inLowestTerms_10 rfl ?_
    refine r_lload_n (pc := 11) dX6_inLowestTerms_11 rfl ?_
    refine rn_ldiv (pc := 12) dX6_inLowestTerms_12 (by omega) (by omega) (by omega) ?_
    refine r_lreturn (pc := 13) dX6_inLowestTerms_13 rfl ?_
    exact h
  · exact absurd c3 (by omega)

set_option maxRecDepth 20000 in
set_option maxHeartbeats 4000000 in
theorem c_term_l {μ : Mem} {p q part : Nat} {Q : Option Value → Mem → Prop} (hp : p < 2 ^ 63) (hq : q < 2 ^ 63) (hq0 : 0 < q) (hpart : part < 2) : ∀ (k : Nat) (a b : Nat), b = k → a < 2 ^ 63 → b < 2 ^ 63 → Nat.gcd a b = Nat.gcd p q → Q (some (.long (lN (if part = 0 then p / Nat.gcd p q else q / Nat.gcd p q)))) μ → WP cX7_term (RX7, 11, (some .long), 0, none) 6 [(0, .long (lN (p))), (2, .long (lN (q))), (4, .int (nI part)), (5, .long (lN (a))), (7, .long (lN (b)))] [] μ Q := by
  intro k
  induction k using Nat.strongRecOn with
  | _ k ih =>
    intro a b hk ha hb hg h
    refine r_lload (pc := 6) dX7_term_6 rfl ?_
    refine r_lconst (pc := 8) (v := lN 0) dX7_term_8 rfl ?_
    refine rn_lcmp (pc := 9) dX7_term_9 (by omega) (by omega) ?_
    refine rc_if_eq (pc := 10) (tgt := 31) dX7_term_10 (by decide) (fun c10 => ?_) (fun c10 => ?_)
    · rw [c10, Nat.gcd_zero_right] at hg
      subst hg
      have hgp : 0 < Nat.gcd p q := Nat.gcd_pos_of_pos_right p hq0
      refine r_iload (pc := 31) dX7_term_31 rfl ?_
      refine rn_if_ne (pc := 33) (tgt := 43) dX7_term_33 (by decide) (by omega) (fun c33 => ?_) (fun c33 => ?_)
      · refine r_lload_n (pc := 43) dX7_term_43 rfl ?_
        refine r_lload (pc := 44) dX7_term_44 rfl ?_
        refine rn_ldiv (pc := 46) dX7_term_46 (by omega) (by omega) (by omega) ?_
        refine r_lreturn (pc := 47) dX7_term_47 rfl ?_
        refine (congrArg (fun z => Q (some (.long (lN z))) μ) (?_ : (if part = 0 then p / Nat.gcd p q else q / Nat.gcd p q) = (q) / (Nat.gcd p q))).mp h
        exact if_neg c33
      · refine r_lload_n (pc := 36) dX7_term_36 rfl ?_
        refine r_lload (pc := 37) dX7_term_37 rfl ?_
        refine rn_ldiv (pc := 39) dX7_term_39 (by omega) (by omega) (by omega) ?_
        refine r_goto (pc := 40) (tgt := 47) dX7_term_40 (by decide) ?_
        refine r_lreturn (pc := 47) dX7_term_47 rfl ?_
        refine (congrArg (fun z => Q (some (.long (lN z))) μ) (?_ : (if part = 0 then p / Nat.gcd p q else q / Nat.gcd p q) = (p) / (Nat.gcd p q))).mp h
        exact if_pos c33
    · have d3 := Nat.mod_lt a (show 0 < b by omega)
      refine r_lload (pc := 13) dX7_term_13 rfl ?_
      refine r_lload (pc := 15) dX7_term_15 rfl ?_
      refine rn_lrem (pc := 17) dX7_term_17 (by omega) (by omega) (by omega) ?_
      refine r_lstore (pc := 18) (ls' := [(0, .long (lN (p))), (2, .long (lN (q))), (4, .int (nI part)), (5, .long (lN (a))), (7, .long (lN (b))), (9, .long (lN ((a) % (b))))]) dX7_term_18 (Nat.le_of_ble_eq_true rfl) rfl ?_
      refine r_lload (pc := 20) dX7_term_20 rfl ?_
      refine r_lstore (pc := 22) (ls' := [(0, .long (lN (p))), (2, .long (lN (q))), (4, .int (nI part)), (5, .long (lN (b))), (7, .long (lN (b))), (9, .long (lN ((a) % (b))))]) dX7_term_22 (Nat.le_of_ble_eq_true rfl) rfl ?_
      refine r_lload (pc := 24) dX7_term_24 rfl ?_
      refine r_lstore (pc := 26) (ls' := [(0, .long (lN (p))), (2, .long (lN (q))), (4, .int (nI part)), (5, .long (lN (b))), (7, .long (lN ((a) % (b)))), (9, .long (lN ((a) % (b))))]) dX7_term_26 (Nat.le_of_ble_eq_true rfl) rfl ?_
      refine r_goto (pc := 28) (tgt := 6) dX7_term_28 (by decide) ?_
      refine r_pick [0, 1, 2, 3, 4] rfl ?_
      refine ih (a % b) (Nat.lt_of_lt_of_eq (Nat.mod_lt a (by omega)) hk) b (a % b) rfl (by omega) (by omega) ?_ h
      rw [Nat.gcd_comm, ← Nat.gcd_rec, Nat.gcd_comm]
      exact hg

set_option maxRecDepth 20000 in
set_option maxHeartbeats 4000000 in
theorem c_term {μ : Mem} {p q part : Nat} {Q : Option Value → Mem → Prop} (hp : p < 2 ^ 63) (hq : q < 2 ^ 63) (hq0 : 0 < q) (hpart : part < 2) (h : Q (some (.long (lN (if part = 0 then p / Nat.gcd p q else q / Nat.gcd p q)))) μ) : Sp iX7_term 0 [.long (lN (p)), .long (lN (q)), .int (nI part)] μ Q := by
  refine Sp.of sX7_term.1 (Nat.le_of_ble_eq_true rfl) ?_
  show WP cX7_term (RX7, 11, (some .long), 0, none) 0 [(0, .long (lN (p))), (2, .long (lN (q))), (4, .int (nI part))] [] μ Q
  refine r_lload_n (pc := 0) dX7_term_0 rfl ?_
  refine r_lstore (pc := 1) (ls' := [(0, .long (lN (p))), (2, .long (lN (q))), (4, .int (nI part)), (5, .long (lN (p)))]) dX7_term_1 (Nat.le_of_ble_eq_true rfl) rfl ?_
  refine r_lload_n (pc := 3) dX7_term_3 rfl ?_
  refine r_lstore (pc := 4) (ls' := [(0, .long (lN (p))), (2, .long (lN (q))), (4, .int (nI part)), (5, .long (lN (p))), (7, .long (lN (q)))]) dX7_term_4 (Nat.le_of_ble_eq_true rfl) rfl ?_
  exact c_term_l hp hq hq0 hpart q p q rfl hp hq rfl h
