/-! GETS: the class's seven passes against the best of all simple walks -/
abbrev FrP : Type := (Nat → Nat) × (Nat → Nat)
abbrev PU (σ : Sg) (p : List Nat) : Nat := pUp (σ 4) (σ 0 1) p
abbrev PL (σ : Sg) (p : List Nat) : Nat := pLow σ p
abbrev ub (σ : Sg) (b : Nat) : Nat := upR (σ 4 b) (σ 0 1)
def updN (f : Nat → Nat) (k v : Nat) : Nat → Nat := fun i => if i = k then v else f i
theorem updN_s (f : Nat → Nat) (k v : Nat) : updN f k v k = v := if_pos rfl
theorem updN_o {f : Nat → Nat} {k v i : Nat} (h : ¬ i = k) : updN f k v i = f i := if_neg h
/-- over one board -/
def go1 (σ : Sg) (u : FrP) (b : Nat) : FrP :=
  if above (u.1 (σ 1 b) * ub σ b) (u.2 (σ 1 b) * σ 2 b) (u.1 (σ 3 b)) (u.2 (σ 3 b)) = true then
    (updN u.1 (σ 3 b) ((u.1 (σ 1 b) * ub σ b) / Nat.gcd (u.1 (σ 1 b) * ub σ b) (u.2 (σ 1 b) * σ 2 b)), updN u.2 (σ 3 b) ((u.2 (σ 1 b) * σ 2 b) / Nat.gcd (u.1 (σ 1 b) * ub σ b) (u.2 (σ 1 b) * σ 2 b)))
  else u
def goP (σ : Sg) (u : FrP) : Nat → FrP
  | 0 => u
  | b + 1 => if opn σ b = true then go1 σ (goP σ u b) b else goP σ u b
def goK (σ : Sg) (u : FrP) : Nat → FrP
  | 0 => u
  | k + 1 => goP σ (goK σ u k) (σ 0 0)
def go0 (s : Nat) : FrP := (fun x => if x = s then 1 else 0, fun _ => 1)
/-- a coin's number is that of a simple walk, whose beginnings are no better than what stands at their ends -/
def Inv1 (σ : Sg) (s : Nat) (u : FrP) (x : Nat) : Prop := (u.1 x = 0 ∧ u.2 x = 1) ∨ ∃ p, Way σ s p x ∧ (s :: p.map (σ 3)).Nodup ∧ u.1 x = PU σ p / Nat.gcd (PU σ p) (PL σ p) ∧ u.2 x = PL σ p / Nat.gcd (PU σ p) (PL σ p) ∧ ∀ q r y, p = q ++ r → Way σ s q y → PU σ q * u.2 y ≤ u.1 y * PL σ q
def Inv (σ : Sg) (s : Nat) (u : FrP) : Prop := ∀ x, x < 8 → Inv1 σ s u x
theorem PU_snoc (σ : Sg) (p : List Nat) (b : Nat) : PU σ (p ++ [b]) = PU σ p * ub σ b := pUp_snoc _ _ _ _
theorem PL_snoc (σ : Sg) (p : List Nat) (b : Nat) : PL σ (p ++ [b]) = PL σ p * σ 2 b := pLow_snoc _ _ _
theorem low_mul {a b : Nat} (hb : 0 < b) : a = a / Nat.gcd a b * Nat.gcd a b ∧ b = b / Nat.gcd a b * Nat.gcd a b ∧ 0 < Nat.gcd a b ∧ 0 < b / Nat.gcd a b := by
  have hg : 0 < Nat.gcd a b := Nat.gcd_pos_of_pos_right _ hb
  have h2 := (Nat.div_mul_cancel (Nat.gcd_dvd_right a b)).symm
  refine ⟨(Nat.div_mul_cancel (Nat.gcd_dvd_left a b)).symm, h2, hg, ?_⟩
  rcases Nat.eq_zero_or_pos (b / Nat.gcd a b) with q | q
  · rw [q, Nat.zero_mul] at h2; omega
  · exact q
theorem Inv_pos {σ : Sg} {s : Nat} {u : FrP} (hO : Ok σ) {x : Nat} (h : Inv1 σ s u x) : 0 < u.2 x := by
  rcases h with h | ⟨p, w, _, _, h2, _⟩
  · omega
  · rw [h2]
    exact (low_mul (pLow_pos hO (Way_ok w))).2.2.2
theorem Inv_bd {σ : Sg} {s : Nat} {u : FrP} (hO : Ok σ) (hs : s < 8) {x : Nat} (h : Inv1 σ s u x) : u.1 x ≤ 99 ^ 7 ∧ 1 ≤ u.2 x ∧ u.2 x ≤ 99 ^ 7 := by
  refine ⟨?_, Inv_pos hO h, ?_⟩
  · rcases h with h | ⟨p, w, hn, h1, _, _⟩
    · omega
    · rw [h1]
      refine Nat.le_trans (Nat.div_le_self _ _) (prodL_le (fun y hy => ?_) (by rw [List.length_map]; exact Way_7 hO hs w hn))
      obtain ⟨b, hb, e⟩ := List.mem_map.mp hy
      rw [← e]
      exact upR_99 (Ok_b hO (Nat.lt_of_lt_of_le (Way_ok w b hb) hO.1)).2.2.2.1
  · rcases h with h | ⟨p, w, hn, _, h2, _⟩
    · omega
    · rw [h2]
      refine Nat.le_trans (Nat.div_le_self _ _) (prodL_le (fun y hy => ?_) (by rw [List.length_map]; exact Way_7 hO hs w hn))
      obtain ⟨b, hb, e⟩ := List.mem_map.mp hy
      rw [← e]
      exact (Ok_b hO (Nat.lt_of_lt_of_le (Way_ok w b hb) hO.1)).2.1
/-- what stands at a coin only grows -/
def Ge (u : FrP) (y P L : Nat) : Prop := P * u.2 y ≤ u.1 y * L
theorem ge_trans {P L a b m c : Nat} (hb : 0 < b) (h1 : P * b ≤ a * L) (h2 : a * c ≤ m * b) : P * c ≤ m * L := by
  refine Nat.le_of_mul_le_mul_right (c := b) ?_ hb
  calc P * c * b = P * b * c := by rw [Nat.mul_right_comm]
    _ ≤ a * L * c := Nat.mul_le_mul_right _ h1
    _ = a * c * L := by rw [Nat.mul_right_comm]
    _ ≤ m * b * L := Nat.mul_le_mul_right _ h2
    _ = m * L * b := by rw [Nat.mul_right_comm]
theorem ge_div {P L m y : Nat} (hy : 0 < y) (h : P * y ≤ m * L) : P * (y / Nat.gcd m y) ≤ m / Nat.gcd m y * L := by
  obtain ⟨e1, e2, e3, _⟩ := low_mul (a := m) hy
  refine Nat.le_of_mul_le_mul_right (c := Nat.gcd m y) ?_ e3
  calc P * (y / Nat.gcd m y) * Nat.gcd m y = P * (y / Nat.gcd m y * Nat.gcd m y) := Nat.mul_assoc _ _ _
    _ = P * y := by rw [← e2]
    _ ≤ m * L := h
    _ = m / Nat.gcd m y * Nat.gcd m y * L := by rw [← e1]
    _ = m / Nat.gcd m y * L * Nat.gcd m y := by rw [Nat.mul_right_comm]
theorem go1_ge {σ : Sg} (hO : Ok σ) {s : Nat} {u : FrP} (hI : Inv σ s u) {b : Nat} (hb : b < σ 0 0) {y P L : Nat} (hy : y < 8) (h : Ge u y P L) : Ge (go1 σ u b) y P L := by
  unfold go1
  by_cases q : above (u.1 (σ 1 b) * ub σ b) (u.2 (σ 1 b) * σ 2 b) (u.1 (σ 3 b)) (u.2 (σ 3 b)) = true
  · rw [if_pos q]
    have q' := of_decide_eq_true q
    have hbb := Ok_b hO (Nat.lt_of_lt_of_le hb hO.1)
    have hbp := Ok_p hO hb
    by_cases e : y = σ 3 b
    · subst e
      unfold Ge at h ⊢
      dsimp only
      rw [updN_s, updN_s]
      exact ge_div (Nat.mul_pos (Inv_pos hO (hI _ hbb.1)) hbp.2.1) (ge_trans (Inv_pos hO (hI _ hbb.2.2.1)) h (Nat.le_of_lt q'))
    · unfold Ge at h ⊢
      dsimp only
      rw [updN_o e, updN_o e]
      exact h
  · rw [if_neg q]
    exact h
/-- and over a board there stands at least what comes over it -/
theorem go1_new {σ : Sg} (hO : Ok σ) {s : Nat} {u : FrP} (hI : Inv σ s u) {b : Nat} (hb : b < σ 0 0) {P L : Nat} (h : Ge u (σ 1 b) P L) : Ge (go1 σ u b) (σ 3 b) (P * ub σ b) (L * σ 2 b) := by
  have hbb := Ok_b hO (Nat.lt_of_lt_of_le hb hO.1)
  have hbp := Ok_p hO hb
  have h1 := Inv_pos hO (hI _ hbb.1)
  unfold go1
  by_cases q : above (u.1 (σ 1 b) * ub σ b) (u.2 (σ 1 b) * σ 2 b) (u.1 (σ 3 b)) (u.2 (σ 3 b)) = true
  · rw [if_pos q]
    unfold Ge at h ⊢
    dsimp only
    rw [updN_s, updN_s]
    refine ge_div (Nat.mul_pos h1 hbp.2.1) ?_
    calc P * ub σ b * (u.2 (σ 1 b) * σ 2 b) = P * u.2 (σ 1 b) * (ub σ b * σ 2 b) := by ac_rfl
      _ ≤ u.1 (σ 1 b) * L * (ub σ b * σ 2 b) := Nat.mul_le_mul_right _ h
      _ = u.1 (σ 1 b) * ub σ b * (L * σ 2 b) := by ac_rfl
  · rw [if_neg q]
    have q' : u.1 (σ 1 b) * ub σ b * u.2 (σ 3 b) ≤ u.1 (σ 3 b) * (u.2 (σ 1 b) * σ 2 b) := by
      rcases Nat.lt_or_ge (u.1 (σ 3 b) * (u.2 (σ 1 b) * σ 2 b)) (u.1 (σ 1 b) * ub σ b * u.2 (σ 3 b)) with z | z
      · exact absurd (decide_eq_true z) q
      · exact z
    unfold Ge at h ⊢
    refine Nat.le_of_mul_le_mul_right (c := u.2 (σ 1 b)) ?_ h1
    calc P * ub σ b * u.2 (σ 3 b) * u.2 (σ 1 b) = P * u.2 (σ 1 b) * (ub σ b * u.2 (σ 3 b)) := by ac_rfl
      _ ≤ u.1 (σ 1 b) * L * (ub σ b * u.2 (σ 3 b)) := Nat.mul_le_mul_right _ h
      _ = u.1 (σ 1 b) * ub σ b * u.2 (σ 3 b) * L := by ac_rfl
      _ ≤ u.1 (σ 3 b) * (u.2 (σ 1 b) * σ 2 b) * L := Nat.mul_le_mul_right _ q'
      _ = u.1 (σ 3 b) * (L * σ 2 b) * u.2 (σ 1 b) := by ac_rfl
theorem go1_inv {σ : Sg} (hO : Ok σ) (hG : (Gs σ).length = 0) {s : Nat} (hs : s < 8) {u : FrP} (hI : Inv σ s u) {b : Nat} (hb : b < σ 0 0) (ho : opn σ b = true) : Inv σ s (go1 σ u b) := by
  have hbb := Ok_b hO (Nat.lt_of_lt_of_le hb hO.1)
  have hbp := Ok_p hO hb
  intro x hx
  -- what stays at another coin
  have hstay : (∀ z, z = x → (go1 σ u b).1 z = u.1 z ∧ (go1 σ u b).2 z = u.2 z) → Inv1 σ s (go1 σ u b) x := by
    intro he
    obtain ⟨e1, e2⟩ := he x rfl
    rcases hI x hx with h | ⟨p, w, hn, h1, h2, h3⟩
    · exact Or.inl ⟨by rw [e1]; exact h.1, by rw [e2]; exact h.2⟩
    · refine Or.inr ⟨p, w, hn, by rw [e1]; exact h1, by rw [e2]; exact h2, fun q r y eq wq => ?_⟩
      have hy8 : y < 8 := by
        rcases List.mem_cons.mp (Way_last wq) with z | z
        · rw [z]; exact hs
        · exact Way_coin hO wq y z
      exact go1_ge hO hI hb hy8 (h3 q r y eq wq)
  by_cases q : above (u.1 (σ 1 b) * ub σ b) (u.2 (σ 1 b) * σ 2 b) (u.1 (σ 3 b)) (u.2 (σ 3 b)) = true
  · have e0 : go1 σ u b = (updN u.1 (σ 3 b) ((u.1 (σ 1 b) * ub σ b) / Nat.gcd (u.1 (σ 1 b) * ub σ b) (u.2 (σ 1 b) * σ 2 b)), updN u.2 (σ 3 b) ((u.2 (σ 1 b) * σ 2 b) / Nat.gcd (u.1 (σ 1 b) * ub σ b) (u.2 (σ 1 b) * σ 2 b))) := if_pos q
    by_cases ex : x = σ 3 b
    · subst ex
      have q' := of_decide_eq_true q
      rcases hI (σ 1 b) hbb.1 with h | ⟨p, w, hn, h1, h2, h3⟩
      · rw [h.1] at q'; simp at q'
      · have hLp : 0 < PL σ p := pLow_pos hO (Way_ok w)
        obtain ⟨g1, g2, g3, g4⟩ := low_mul (a := PU σ p) (b := PL σ p) hLp
        rw [← h1] at g1
        rw [← h2] at g2
        -- the coin is not on the way
        have hnot : ¬ σ 3 b ∈ s :: p.map (σ 3) := fun hm => by
          obtain ⟨p1, r, e1, w1, w2⟩ := Way_at w hm
          have wc : Way σ (σ 3 b) (r ++ [b]) (σ 3 b) := Way_app w2 ⟨⟨hb, ho, rfl⟩, rfl⟩
          have hnd : ((r ++ [b]).map (σ 3)).Nodup := by
            rw [e1, List.map_append] at hn
            have h4 : (s :: p1.map (σ 3) ++ r.map (σ 3)).Nodup := by simpa using hn
            have h5 := List.nodup_append.mp h4
            rw [List.map_append]
            refine List.nodup_append.mpr ⟨h5.2.1, by simp, fun a ha c hc e => ?_⟩
            rw [List.mem_singleton.mp (show c ∈ [σ 3 b] from hc)] at e
            exact h5.2.2 (σ 3 b) (Way_last w1) a ha e.symm
          have hcy := cyc_le hO hG wc (by simp) hnd
          rw [show pUp (σ 4) (σ 0 1) (r ++ [b]) = PU σ r * ub σ b from PU_snoc σ r b, show pLow σ (r ++ [b]) = PL σ r * σ 2 b from PL_snoc σ r b] at hcy
          have hpre := h3 p1 r (σ 3 b) e1 w1
          have eU : PU σ p = PU σ p1 * PU σ r := by rw [e1]; exact rot_up _ _ _ _
          have eL : PL σ p = PL σ p1 * PL σ r := by rw [e1]; exact rot_low _ _ _
          have : u.1 (σ 1 b) * ub σ b * u.2 (σ 3 b) * PL σ p ≤ u.1 (σ 3 b) * (u.2 (σ 1 b) * σ 2 b) * PL σ p := by
            calc u.1 (σ 1 b) * ub σ b * u.2 (σ 3 b) * PL σ p = (u.1 (σ 1 b) * (PU σ p).gcd (PL σ p)) * u.2 (σ 1 b) * ub σ b * u.2 (σ 3 b) := by
                  conv => lhs; rw [g2]
                  ac_rfl
              _ = PU σ p1 * u.2 (σ 3 b) * ((PU σ r * ub σ b) * u.2 (σ 1 b)) := by rw [← g1, eU]; ac_rfl
              _ ≤ u.1 (σ 3 b) * PL σ p1 * ((PL σ r * σ 2 b) * u.2 (σ 1 b)) := Nat.mul_le_mul hpre (Nat.mul_le_mul_right _ hcy)
              _ = u.1 (σ 3 b) * (u.2 (σ 1 b) * σ 2 b) * PL σ p := by rw [eL]; ac_rfl
          have := Nat.le_of_mul_le_mul_right this hLp
          omega
        have hgp : 0 < Nat.gcd (u.1 (σ 1 b) * ub σ b) (u.2 (σ 1 b) * σ 2 b) := Nat.gcd_pos_of_pos_right _ (Nat.mul_pos (Inv_pos hO (hI _ hbb.1)) hbp.2.1)
        have eU : PU σ (p ++ [b]) = u.1 (σ 1 b) * ub σ b * (PU σ p).gcd (PL σ p) := by rw [PU_snoc]; conv => lhs; rw [g1]
                                                                                       ac_rfl
        have eL : PL σ (p ++ [b]) = u.2 (σ 1 b) * σ 2 b * (PU σ p).gcd (PL σ p) := by rw [PL_snoc]; conv => lhs; rw [g2]
                                                                                      ac_rfl
        have n1 : (go1 σ u b).1 (σ 3 b) = PU σ (p ++ [b]) / Nat.gcd (PU σ (p ++ [b])) (PL σ (p ++ [b])) := by
          rw [e0]
          dsimp only
          rw [updN_s, eU, eL, Nat.gcd_mul_right, Nat.mul_div_mul_right _ _ g3]
        have n2 : (go1 σ u b).2 (σ 3 b) = PL σ (p ++ [b]) / Nat.gcd (PU σ (p ++ [b])) (PL σ (p ++ [b])) := by
          rw [e0]
          dsimp only
          rw [updN_s, eU, eL, Nat.gcd_mul_right, Nat.mul_div_mul_right _ _ g3]
        refine Or.inr ⟨p ++ [b], Way_app w ⟨⟨hb, ho, rfl⟩, rfl⟩, ?_, n1, n2, fun q1 r y eq wq => ?_⟩
        · rw [List.map_append, ← List.cons_append]
          refine List.nodup_append.mpr ⟨hn, by simp, fun a ha c hc e => ?_⟩
          rw [List.mem_singleton.mp (show c ∈ [σ 3 b] from hc)] at e
          exact hnot (by rw [← e]; exact ha)
        · rcases List.eq_nil_or_concat r with er | ⟨r0, x0, er⟩
          · rw [er, List.append_nil] at eq
            rw [← eq] at wq
            have ey : y = σ 3 b := Way_fun wq (Way_app w ⟨⟨hb, ho, rfl⟩, rfl⟩)
            rw [← eq, ey, n1, n2]
            have hLp2 : 0 < PL σ (p ++ [b]) := pLow_pos hO (Way_ok wq)
            obtain ⟨k1, k2, k3, k4⟩ := low_mul (a := PU σ (p ++ [b])) (b := PL σ (p ++ [b])) hLp2
            refine Nat.le_of_eq ?_
            refine Nat.eq_of_mul_eq_mul_right k3 ?_
            rw [Nat.mul_assoc, ← k2, Nat.mul_right_comm, ← k1]
          · rw [er, List.concat_eq_append, ← List.append_assoc] at eq
            have e4 := List.append_inj_left' eq rfl
            have hy8 : y < 8 := by
              rcases List.mem_cons.mp (Way_last wq) with z | z
              · rw [z]; exact hs
              · exact Way_coin hO wq y z
            exact go1_ge hO hI hb hy8 (h3 q1 r0 y e4 wq)
    · refine hstay (fun z hz => ?_)
      rw [e0]
      dsimp only
      rw [updN_o (by rw [hz]; exact ex), updN_o (by rw [hz]; exact ex)]
      exact ⟨rfl, rfl⟩
  · have e0 : go1 σ u b = u := if_neg q
    exact hstay (fun z hz => by rw [e0]; exact ⟨rfl, rfl⟩)
theorem goP_inv {σ : Sg} (hO : Ok σ) (hG : (Gs σ).length = 0) {s : Nat} (hs : s < 8) {u : FrP} (hI : Inv σ s u) : ∀ m, m ≤ σ 0 0 → Inv σ s (goP σ u m)
  | 0, _ => hI
  | m + 1, h => by
    unfold goP
    by_cases q : opn σ m = true
    · rw [if_pos q]; exact go1_inv hO hG hs (goP_inv hO hG hs hI m (by omega)) (by omega) q
    · rw [if_neg q]; exact goP_inv hO hG hs hI m (by omega)
theorem go0_inv (σ : Sg) {s : Nat} (hs : s < 8) : Inv σ s (go0 s) := fun x hx => by
  by_cases e : x = s
  · subst e
    refine Or.inr ⟨[], rfl, by simp, ?_, ?_, fun q r y eq wq => ?_⟩
    · show (if x = x then 1 else 0) = 1 / Nat.gcd 1 1; rw [if_pos rfl]; decide
    · show 1 = 1 / Nat.gcd 1 1; decide
    · have : q = [] := by
        cases q with
        | nil => rfl
        | cons a q => cases eq
      subst this
      rw [← (show x = y from wq)]
      show 1 * 1 ≤ (if x = x then 1 else 0) * 1
      rw [if_pos rfl]; exact Nat.le_refl _
  · exact Or.inl ⟨if_neg e, rfl⟩
theorem goK_inv {σ : Sg} (hO : Ok σ) (hG : (Gs σ).length = 0) {s : Nat} (hs : s < 8) : ∀ k, Inv σ s (goK σ (go0 s) k)
  | 0 => go0_inv σ hs
  | k + 1 => goP_inv hO hG hs (goK_inv hO hG hs k) _ (Nat.le_refl _)
/-- behind k passes at least what k boards get -/
def Cov (σ : Sg) (s k : Nat) (u : FrP) : Prop := ∀ q y, Way σ s q y → q.length ≤ k → Ge u y (PU σ q) (PL σ q)
theorem way_8 {σ : Sg} (hO : Ok σ) {s : Nat} (hs : s < 8) {q : List Nat} {y : Nat} (w : Way σ s q y) : y < 8 := by
  rcases List.mem_cons.mp (Way_last w) with z | z
  · rw [z]; exact hs
  · exact Way_coin hO w y z
theorem goP_cov {σ : Sg} (hO : Ok σ) (hG : (Gs σ).length = 0) {s k : Nat} (hs : s < 8) {u : FrP} (hI : Inv σ s u) (hC : Cov σ s k u) : ∀ m, m ≤ σ 0 0 → Cov σ s k (goP σ u m) ∧ ∀ q y b, b < m → opn σ b = true → Way σ s q (σ 1 b) → q.length ≤ k → y = σ 3 b → Ge (goP σ u m) y (PU σ (q ++ [b])) (PL σ (q ++ [b]))
  | 0, _ => ⟨hC, fun q y b hb => absurd hb (Nat.not_lt_zero b)⟩
  | m + 1, h => by
    obtain ⟨c1, c2⟩ := goP_cov hO hG hs hI hC m (by omega)
    have hIm := goP_inv hO hG hs hI m (by omega)
    unfold goP
    by_cases q : opn σ m = true
    · rw [if_pos q]
      refine ⟨fun q1 y w hl => go1_ge hO hIm (by omega) (way_8 hO hs w) (c1 q1 y w hl), fun q1 y b hb ho w hl ey => ?_⟩
      by_cases e : b = m
      · subst e
        rw [ey, PU_snoc, PL_snoc]
        exact go1_new hO hIm (by omega) (c1 q1 _ w hl)
      · refine go1_ge hO hIm (by omega) ?_ (c2 q1 y b (by omega) ho w hl ey)
        rw [ey]
        exact (Ok_b hO (j := b) (by have := hO.1; omega)).2.2.1
    · rw [if_neg q]
      refine ⟨c1, fun q1 y b hb ho w hl ey => ?_⟩
      by_cases e : b = m
      · subst e; exact absurd ho q
      · exact c2 q1 y b (by omega) ho w hl ey
theorem goK_cov {σ : Sg} (hO : Ok σ) (hG : (Gs σ).length = 0) {s : Nat} (hs : s < 8) : ∀ k, Cov σ s k (goK σ (go0 s) k)
  | 0 => fun q y w hl => by
    have : q = [] := List.length_eq_zero_iff.mp (by omega)
    subst this
    rw [← (show s = y from w)]
    show 1 * 1 ≤ (if s = s then 1 else 0) * 1
    rw [if_pos rfl]; exact Nat.le_refl _
  | k + 1 => fun q y w hl => by
    obtain ⟨c1, c2⟩ := goP_cov hO hG hs (goK_inv hO hG hs k) (goK_cov hO hG hs k) (σ 0 0) (Nat.le_refl _)
    rcases List.eq_nil_or_concat q with e | ⟨q0, b, e⟩
    · subst e; exact c1 [] y w (by simp)
    · rw [List.concat_eq_append] at e
      subst e
      obtain ⟨z, w1, w2⟩ := Way_split w
      have ez : σ 1 b = z := w2.1.2.2
      rw [← ez] at w1
      exact c2 q0 y b w2.1.1 w2.1.2.1 w1 (by simp at hl; omega) (show σ 3 b = y from w2.2).symm
/-- the best of a list -/
theorem bst_spec {σ : Sg} (hO : Ok σ) : ∀ (acc : List (List Nat)) (x : Nat × Nat), (∀ q ∈ acc, okP σ q) → 0 < x.2 → ((acc.foldl (bst1 σ) x = x ∨ ∃ q ∈ acc, acc.foldl (bst1 σ) x = (PU σ q, PL σ q)) ∧ (∀ q ∈ acc, PU σ q * (acc.foldl (bst1 σ) x).2 ≤ (acc.foldl (bst1 σ) x).1 * PL σ q) ∧ x.1 * (acc.foldl (bst1 σ) x).2 ≤ (acc.foldl (bst1 σ) x).1 * x.2)
  | [], x, _, _ => ⟨Or.inl rfl, fun q hq => absurd hq List.not_mem_nil, Nat.le_refl _⟩
  | r :: acc, x, h, hx => by
    rw [List.foldl_cons]
    have hr := pLow_pos hO (h r List.mem_cons_self)
    have hx2 : 0 < (bst1 σ x r).2 := by unfold bst1; split; exact hr; exact hx
    obtain ⟨i1, i2, i3⟩ := bst_spec hO acc (bst1 σ x r) (fun q hq => h q (List.mem_cons_of_mem _ hq)) hx2
    by_cases e : above (pUp (σ 4) (σ 0 1) r) (pLow σ r) x.1 x.2 = true
    · have e1 : bst1 σ x r = (PU σ r, PL σ r) := if_pos e
      have e2 := of_decide_eq_true e
      rw [e1] at i1 i2 i3 hx2 ⊢
      refine ⟨Or.inr ?_, fun q hq => ?_, ?_⟩
      · rcases i1 with i1 | ⟨q, hq, i1⟩
        · exact ⟨r, List.mem_cons_self, i1⟩
        · exact ⟨q, List.mem_cons_of_mem _ hq, i1⟩
      · rcases List.mem_cons.mp hq with z | z
        · rw [z]; exact i3
        · exact i2 q z
      · exact ge_trans (b := PL σ r) hr (Nat.le_of_lt e2) i3
    · have e1 : bst1 σ x r = x := if_neg e
      rw [e1] at i1 i2 i3 hx2 ⊢
      refine ⟨?_, fun q hq => ?_, i3⟩
      · rcases i1 with i1 | ⟨q, hq, i1⟩
        · exact Or.inl i1
        · exact Or.inr ⟨q, List.mem_cons_of_mem _ hq, i1⟩
      · rcases List.mem_cons.mp hq with z | z
        · rw [z]
          have e3 : PU σ r * x.2 ≤ x.1 * PL σ r := by
            rcases Nat.lt_or_ge (x.1 * PL σ r) (PU σ r * x.2) with q | q
            · exact absurd (decide_eq_true q) e
            · exact q
          exact ge_trans (b := x.2) hx e3 i3
        · exact i2 q z
theorem low_uniq {a b c d : Nat} (hb : 0 < b) (hd : 0 < d) (h : a * d = c * b) : a / Nat.gcd a b = c / Nat.gcd c d ∧ b / Nat.gcd a b = d / Nat.gcd c d := by
  have hg : Nat.gcd a b * d = Nat.gcd c d * b := by
    rw [← Nat.gcd_mul_right, ← Nat.gcd_mul_right, h, Nat.mul_comm b d]
  refine ⟨?_, ?_⟩
  · rw [← Nat.mul_div_mul_right a (Nat.gcd a b) hd, hg, h, Nat.mul_div_mul_right _ _ hb]
  · rw [← Nat.mul_div_mul_right b (Nat.gcd a b) hd, hg, Nat.mul_comm b d, Nat.mul_div_mul_right _ _ hb]
theorem gets_eq {σ : Sg} (hO : Ok σ) (hG : (Gs σ).length = 0) {s e : Nat} (hs : s < 8) (he : e < 8) : (goK σ (go0 s) 7).1 e = lowT (mget σ s e).1 (mget σ s e).2 0 ∧ (goK σ (go0 s) 7).2 e = lowT (mget σ s e).1 (mget σ s e).2 1 := by
  have hI := goK_inv hO hG hs 7 e he
  have hC := goK_cov hO hG hs 7
  unfold lowT
  rw [if_pos rfl, if_neg (by decide)]
  by_cases es : s = e
  · subst es
    have hge := hC [] s rfl (by simp)
    have hpos := Inv_pos hO hI
    unfold mget
    rw [if_pos rfl]
    rcases hI with h | ⟨p, w, hn, h1, h2, _⟩
    · unfold Ge at hge
      rw [h.1, h.2] at hge
      exact absurd hge (by show ¬ 1 * 1 ≤ 0 * 1; decide)
    · have : p = [] := by
        rcases List.eq_nil_or_concat p with z | ⟨p0, b, z⟩
        · exact z
        · rw [List.concat_eq_append] at z
          subst z
          obtain ⟨m, _, w2⟩ := Way_split w
          have hm : σ 3 b = s := w2.2
          exact absurd (by rw [List.map_append, ← hm]; simp) (List.nodup_cons.mp hn).1
      subst this
      rw [h1, h2]
      exact ⟨rfl, rfl⟩
  · have hm : mget σ s e = bst σ (gdfs σ e 8 s (2 ^ s) []) := if_neg es
    rw [hm]
    have hmem : ∀ q ∈ gdfs σ e 8 s (2 ^ s) [], Way σ s q e ∧ (s :: q.map (σ 3)).Nodup := fun q hq => by
      obtain ⟨t, e1, t1, t2, t3⟩ := gdfs_sound σ e 8 s (2 ^ s) [] q hq
      rw [List.nil_append] at e1
      subst e1
      refine ⟨t1, List.nodup_cons.mpr ⟨fun hc => ?_, t3⟩⟩
      obtain ⟨x, hx, ex⟩ := List.mem_map.mp hc
      have := t2 x hx
      rw [ex] at this
      simp at this
    obtain ⟨b1, b2, _⟩ := bst_spec hO (gdfs σ e 8 s (2 ^ s) []) (0, 1) (fun q hq => Way_ok (hmem q hq).1) (by decide)
    rw [show List.foldl (bst1 σ) (0, 1) (gdfs σ e 8 s (2 ^ s) []) = bst σ (gdfs σ e 8 s (2 ^ s) []) from rfl] at b1 b2
    have hpos := Inv_pos hO hI
    rcases hI with h | ⟨p, w, hn, h1, h2, _⟩
    · rcases b1 with b1 | ⟨q, hq, b1⟩
      · rw [b1, h.1, h.2]; exact ⟨by decide, by decide⟩
      · have hw := hmem q hq
        have := hC q e hw.1 (Way_7 hO hs hw.1 hw.2)
        unfold Ge at this
        rw [h.1, h.2, Nat.mul_one, Nat.zero_mul] at this
        have h9 : 1 ≤ PU σ q := pUp_pos (σ 4) (σ 0 1) q
        omega
    · have hpin : p ∈ gdfs σ e 8 s (2 ^ s) [] := by
        have hn' := List.nodup_cons.mp hn
        have := gdfs_in σ e 8 s (2 ^ s) [] p (Nat.le_trans (Way_7 hO hs w hn) (by decide)) w (fun z => es (by subst z; exact w)) (fun x hx => ?_) hn'.2
        · simpa using this
        · rw [Nat.testBit_two_pow]
          simp only [decide_eq_false_iff_not]
          intro z
          exact hn'.1 (by rw [z]; exact List.mem_map_of_mem hx)
      have hp1 := b2 p hpin
      have hPL : 0 < PL σ p := pLow_pos hO (Way_ok w)
      rcases b1 with b1 | ⟨q, hq, b1⟩
      · rw [b1] at hp1
        have h9 : 1 ≤ PU σ p := pUp_pos (σ 4) (σ 0 1) p
        rw [Nat.mul_one, Nat.zero_mul] at hp1
        omega
      · rw [b1] at hp1
        dsimp only at hp1
        have hw := hmem q hq
        have hge := hC q e hw.1 (Way_7 hO hs hw.1 hw.2)
        unfold Ge at hge
        obtain ⟨g1, g2, g3, _⟩ := low_mul (a := PU σ p) (b := PL σ p) hPL
        rw [← h1] at g1
        rw [← h2] at g2
        have hge2 : PU σ q * PL σ p ≤ PU σ p * PL σ q := by
          calc PU σ q * PL σ p = PU σ q * (goK σ (go0 s) 7).2 e * (PU σ p).gcd (PL σ p) := by rw [Nat.mul_assoc, ← g2]
            _ ≤ (goK σ (go0 s) 7).1 e * PL σ q * (PU σ p).gcd (PL σ p) := Nat.mul_le_mul_right _ hge
            _ = PU σ p * PL σ q := by rw [Nat.mul_right_comm, ← g1]
        have heq : PU σ p * PL σ q = PU σ q * PL σ p := Nat.le_antisymm hp1 hge2
        rw [b1, h1, h2]
        exact low_uniq hPL (pLow_pos hO (Way_ok hw.1)) heq
