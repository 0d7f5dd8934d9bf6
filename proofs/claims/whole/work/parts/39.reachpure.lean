/-! REACH: the class's passes and the model's give the same sets; counting them -/
def ro1 (σ : Sg) (R : Nat → Nat) (b : Nat) : Nat → Nat := if opn σ b = true then updN R (σ 1 b) (R (σ 1 b) ||| R (σ 3 b)) else R
def roP (σ : Sg) (R : Nat → Nat) : Nat → Nat → Nat
  | 0 => R
  | b + 1 => ro1 σ (roP σ R b) b
def roK (σ : Sg) : Nat → Nat → Nat
  | 0 => fun c => 2 ^ c
  | k + 1 => roP σ (roK σ k) (σ 0 0)
theorem ro1_mono {σ : Sg} {R : Nat → Nat} {b c y : Nat} (h : (R c).testBit y = true) : (ro1 σ R b c).testBit y = true := by
  unfold ro1
  split
  · by_cases e : c = σ 1 b
    · subst e; rw [updN_s, Nat.testBit_or, h]; rfl
    · rw [updN_o e]; exact h
  · exact h
theorem roP_mono {σ : Sg} {R : Nat → Nat} {c y : Nat} (h : (R c).testBit y = true) : ∀ m, (roP σ R m c).testBit y = true
  | 0 => h
  | m + 1 => ro1_mono (roP_mono h m)
theorem roP_sound {σ : Sg} {R : Nat → Nat} (h : ∀ c y, (R c).testBit y = true → ∃ p, Way σ c p y) : ∀ m, m ≤ σ 0 0 → ∀ c y, (roP σ R m c).testBit y = true → ∃ p, Way σ c p y
  | 0, _ => h
  | m + 1, hm => fun c y hy => by
    have ih := roP_sound h m (by omega)
    unfold roP ro1 at hy
    split at hy
    · rename_i ho
      by_cases e : c = σ 1 m
      · subst e
        rw [updN_s, Nat.testBit_or, Bool.or_eq_true] at hy
        rcases hy with q | q
        · exact ih _ _ q
        · obtain ⟨p, w⟩ := ih _ _ q
          exact ⟨m :: p, ⟨by omega, ho, rfl⟩, w⟩
      · rw [updN_o e] at hy; exact ih _ _ hy
    · exact ih _ _ hy
theorem roK_sound (σ : Sg) : ∀ k c y, (roK σ k c).testBit y = true → ∃ p, Way σ c p y
  | 0, c, y, h => by
    have : (2 ^ c).testBit y = true := h
    rw [Nat.testBit_two_pow, decide_eq_true_eq] at this
    exact ⟨[], this⟩
  | k + 1, c, y, h => roP_sound (roK_sound σ k) _ (Nat.le_refl _) c y h
theorem roK_all (σ : Sg) : ∀ k p c y, Way σ c p y → p.length ≤ k → (roK σ k c).testBit y = true
  | 0, p, c, y, w, hl => by
    have : p = [] := List.length_eq_zero_iff.mp (by omega)
    subst this
    show (2 ^ c).testBit y = true
    rw [Nat.testBit_two_pow, decide_eq_true_eq]
    exact w
  | k + 1, [], c, y, w, _ => roP_mono (roK_all σ k [] c y w (by simp)) _
  | k + 1, b :: t, c, y, w, hl => by
    have h1 := roK_all σ k t (σ 3 b) y w.2 (by simp at hl; omega)
    have key : ∀ d, d + (b + 1) ≤ σ 0 0 → (roP σ (roK σ k) (d + (b + 1)) c).testBit y = true := by
      intro d
      induction d with
      | zero =>
        intro _
        rw [Nat.zero_add]
        show (ro1 σ (roP σ (roK σ k) b) b c).testBit y = true
        unfold ro1
        rw [if_pos w.1.2.1, w.1.2.2, updN_s, Nat.testBit_or, roP_mono h1 b, Bool.or_true]
      | succ d ih =>
        intro hd
        have := ih (by omega)
        rw [show d + 1 + (b + 1) = (d + (b + 1)) + 1 by omega]
        exact ro1_mono this
    have hb := w.1.1
    have := key (σ 0 0 - (b + 1)) (by omega)
    rw [show σ 0 0 - (b + 1) + (b + 1) = σ 0 0 by omega] at this
    exact this
theorem rp_mono {σ : Sg} {x y : Nat} (h : x.testBit y = true) : ∀ m, (rp σ x m).testBit y = true
  | 0 => h
  | m + 1 => by
    unfold rp
    rw [Nat.testBit_or, rp_mono h m]
    rfl
theorem rp_sound {σ : Sg} {c x : Nat} (h : ∀ y, x.testBit y = true → ∃ p, Way σ c p y) : ∀ m, m ≤ σ 0 0 → ∀ y, (rp σ x m).testBit y = true → ∃ p, Way σ c p y
  | 0, _ => h
  | m + 1, hm => fun y hy => by
    have ih := rp_sound h m (by omega)
    unfold rp at hy
    rw [Nat.testBit_or, Bool.or_eq_true] at hy
    rcases hy with q | q
    · exact ih y q
    · split at q
      · rename_i hq
        rw [Nat.testBit_two_pow, decide_eq_true_eq] at q
        obtain ⟨p, w⟩ := ih _ hq.2
        exact ⟨p ++ [m], Way_app w ⟨⟨by omega, hq.1, rfl⟩, q⟩⟩
      · simp at q
theorem rc_sound (σ : Sg) (c : Nat) : ∀ r y, (rc σ c r).testBit y = true → ∃ p, Way σ c p y
  | 0, y, h => by
    have : (2 ^ c).testBit y = true := h
    rw [Nat.testBit_two_pow, decide_eq_true_eq] at this
    exact ⟨[], this⟩
  | r + 1, y, h => rp_sound (rc_sound σ c r) _ (Nat.le_refl _) y h
theorem rc_all (σ : Sg) (c : Nat) : ∀ r p y, Way σ c p y → p.length ≤ r → (rc σ c r).testBit y = true
  | 0, p, y, w, hl => by
    have : p = [] := List.length_eq_zero_iff.mp (by omega)
    subst this
    show (2 ^ c).testBit y = true
    rw [Nat.testBit_two_pow, decide_eq_true_eq]
    exact w
  | r + 1, p, y, w, hl => by
    rcases List.eq_nil_or_concat p with e | ⟨q, b, e⟩
    · subst e; exact rp_mono (rc_all σ c r [] y w (by simp)) _
    · rw [List.concat_eq_append] at e
      subst e
      obtain ⟨z, w1, w2⟩ := Way_split w
      have h1 := rc_all σ c r q z w1 (by simp at hl; omega)
      rw [← (show σ 1 b = z from w2.1.2.2)] at h1
      have key : ∀ d, (rp σ (rc σ c r) (d + (b + 1))).testBit y = true := by
        intro d
        induction d with
        | zero =>
          rw [Nat.zero_add]
          unfold rp
          rw [Nat.testBit_or, if_pos ⟨w2.1.2.1, rp_mono h1 b⟩, Nat.testBit_two_pow, (show σ 3 b = y from w2.2)]
          simp
        | succ d ih =>
          rw [show d + 1 + (b + 1) = (d + (b + 1)) + 1 by omega]
          unfold rp
          rw [Nat.testBit_or, ih]
          rfl
      have hb := w2.1.1
      have := key (σ 0 0 - (b + 1))
      rw [show σ 0 0 - (b + 1) + (b + 1) = σ 0 0 by omega] at this
      exact this
theorem reach_eq {σ : Sg} (hO : Ok σ) {c : Nat} (hc : c < 8) : roK σ 7 c = rc σ c 8 := by
  apply Nat.eq_of_testBit_eq
  intro y
  apply Bool.eq_iff_iff.mpr
  constructor
  · intro h
    obtain ⟨p, w⟩ := roK_sound σ 7 c y h
    obtain ⟨q, w2, hn⟩ := Way_simple w
    exact rc_all σ c 8 q y w2 (Nat.le_trans (Way_7 hO hc w2 hn) (by decide))
  · intro h
    obtain ⟨p, w⟩ := rc_sound σ c 8 y h
    obtain ⟨q, w2, hn⟩ := Way_simple w
    exact roK_all σ 7 q c y w2 (Way_7 hO hc w2 hn)
theorem roP_lt {σ : Sg} (hO : Ok σ) {R : Nat → Nat} (h : ∀ c, c < 8 → R c < 2 ^ 8) : ∀ m, m ≤ σ 0 0 → ∀ c, c < 8 → roP σ R m c < 2 ^ 8
  | 0, _ => h
  | m + 1, hm => fun c hc => by
    have ih := roP_lt hO h m (by omega)
    have hb := Ok_b hO (j := m) (by have := hO.1; omega)
    unfold roP ro1
    split
    · by_cases e : c = σ 1 m
      · subst e; rw [updN_s]; exact or_lt (ih _ hb.1) (ih _ hb.2.2.1)
      · rw [updN_o e]; exact ih c hc
    · exact ih c hc
theorem roK_lt {σ : Sg} (hO : Ok σ) : ∀ k c, c < 8 → roK σ k c < 2 ^ 8
  | 0, c, hc => Nat.pow_lt_pow_right (by decide) hc
  | k + 1, c, hc => roP_lt hO (roK_lt hO k) _ (Nat.le_refl _) c hc
/-- the sets of parts -/
theorem jn_tb (σ : Sg) (c y : Nat) : ∀ k, (jn σ c k).testBit y = true ↔ y < k ∧ (rc σ c 8).testBit y = true ∧ (rc σ y 8).testBit c = true
  | 0 => by simp [jn]
  | k + 1 => by
    unfold jn
    rw [Nat.testBit_or, Bool.or_eq_true, jn_tb σ c y k]
    constructor
    · rintro (h | h)
      · exact ⟨by omega, h.2⟩
      · split at h
        · rename_i q
          rw [Nat.testBit_two_pow, decide_eq_true_eq] at h
          rw [← h]; exact ⟨by omega, q⟩
        · simp at h
    · rintro ⟨h1, h2⟩
      by_cases e : y = k
      · right; rw [← e, if_pos h2, Nat.testBit_two_pow]; simp
      · left; exact ⟨by omega, h2⟩
theorem pts_tb (σ : Sg) (y : Nat) : ∀ c, (pts σ c).testBit y = true ↔ ∃ k, k < c ∧ (jn σ k 8).testBit y = true
  | 0 => by simp [pts]
  | c + 1 => by
    unfold pts
    rw [Nat.testBit_or, Bool.or_eq_true, pts_tb σ y c]
    constructor
    · rintro (⟨k, h1, h2⟩ | h)
      · exact ⟨k, by omega, h2⟩
      · exact ⟨c, by omega, h⟩
    · rintro ⟨k, h1, h2⟩
      by_cases e : k = c
      · right; rw [← e]; exact h2
      · left; exact ⟨k, by omega, h2⟩
def lob (x c : Nat) : Bool := x.testBit c && decide (x % 2 ^ c = 0)
theorem lob_ok : ∀ x, x < 256 → ∀ c, c < 8 → (decide (nI x &&& (-(nI x)) = nI (2 ^ c))) = lob x c := by decide +kernel
theorem mod_tb {x c : Nat} : x % 2 ^ c = 0 ↔ ∀ k, k < c → x.testBit k = false := by
  constructor
  · intro h k hk
    have := Nat.testBit_mod_two_pow x c k
    rw [h] at this
    simp [hk] at this
    exact this
  · intro h
    apply Nat.eq_of_testBit_eq
    intro k
    rw [Nat.testBit_mod_two_pow]
    by_cases q : k < c
    · simp [h k q]
    · simp [q]
theorem part_eq (σ : Sg) {c : Nat} (hc : c < 8) : lob (jn σ c 8) c = !(pts σ c).testBit c := by
  have hself : (jn σ c 8).testBit c = true := (jn_tb σ c c 8).mpr ⟨hc, rc_all σ c 8 [] c rfl (by simp), rc_all σ c 8 [] c rfl (by simp)⟩
  unfold lob
  rw [hself, Bool.true_and]
  apply Bool.eq_iff_iff.mpr
  rw [decide_eq_true_eq, mod_tb, Bool.not_eq_true', Bool.eq_false_iff, ne_eq, pts_tb]
  constructor
  · rintro h ⟨k, hk, h2⟩
    have h3 := (jn_tb σ k c 8).mp h2
    have := h k hk
    rw [(jn_tb σ c k 8).mpr ⟨by omega, h3.2.2, h3.2.1⟩] at this
    exact absurd this (by decide)
  · intro h k hk
    rw [Bool.eq_false_iff]
    intro q
    have h3 := (jn_tb σ c k 8).mp q
    exact h ⟨k, hk, (jn_tb σ k c 8).mpr ⟨hc, h3.2.2, h3.2.1⟩⟩
