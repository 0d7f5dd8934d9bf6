/-! THE SIGNS: what the class passes over, and the model's states -/
def ps (σ : Sg) (k lo hi : Nat) : Bool := decide (k < σ 0 4) && decide (lo ≤ σ 8 k) && decide (σ 8 k ≤ hi)
theorem ps_iff {σ : Sg} {k lo hi : Nat} : ps σ k lo hi = true ↔ k < σ 0 4 ∧ lo ≤ σ 8 k ∧ σ 8 k ≤ hi := by
  unfold ps
  rw [Bool.and_eq_true, Bool.and_eq_true, decide_eq_true_eq, decide_eq_true_eq, decide_eq_true_eq]
  exact ⟨fun h => ⟨h.1.1, h.1.2, h.2⟩, fun h => ⟨⟨h.1, h.2.1⟩, h.2.2⟩⟩
theorem ps_f {σ : Sg} {k lo hi : Nat} : ps σ k lo hi = false ↔ ¬ (k < σ 0 4 ∧ lo ≤ σ 8 k ∧ σ 8 k ≤ hi) := by
  rw [← Bool.not_eq_true, ps_iff]
/-- behind the number; where the coins' reading stands; whether it went -/
def kd (σ : Sg) (k : Nat) : Nat := if ps σ k 49 57 = true then (if ps σ (k + 1) 48 57 = true then k + 2 else k + 1) else k
def am (σ : Sg) (k : Nat) : Nat := if ps σ (k + 1) 48 57 = true then 10 * (σ 8 k - 48) + σ 8 (k + 1) - 48 else σ 8 k - 48
def pcO (σ : Sg) (k : Nat) (nt : Option Nat) : Bool := ps σ k 49 57 && (ps σ (kd σ k) 97 104 && !decide (nt = some (σ 8 (kd σ k))))
def pcP (σ : Sg) (k : Nat) (nt : Option Nat) : Nat := if pcO σ k nt = true then kd σ k + 1 else kd σ k
theorem kd_le {σ : Sg} {k : Nat} (h : k ≤ σ 0 4) : k ≤ kd σ k ∧ kd σ k ≤ σ 0 4 := by
  unfold kd
  by_cases h1 : ps σ k 49 57 = true
  · have := (ps_iff.mp h1).1
    rw [if_pos h1]
    by_cases h2 : ps σ (k + 1) 48 57 = true
    · have := (ps_iff.mp h2).1
      rw [if_pos h2]; omega
    · rw [if_neg h2]; omega
  · rw [if_neg h1]; omega
theorem pcO_iff {σ : Sg} {k : Nat} {nt : Option Nat} : pcO σ k nt = true ↔ ps σ k 49 57 = true ∧ ps σ (kd σ k) 97 104 = true ∧ ¬ nt = some (σ 8 (kd σ k)) := by
  unfold pcO
  rw [Bool.and_eq_true, Bool.and_eq_true, Bool.not_eq_true', decide_eq_false_iff_not]
theorem pcP_le {σ : Sg} {k : Nat} {nt : Option Nat} (h : k ≤ σ 0 4) : k ≤ pcP σ k nt ∧ pcP σ k nt ≤ σ 0 4 ∧ (pcO σ k nt = true → k + 2 ≤ pcP σ k nt) := by
  have h1 := kd_le h
  unfold pcP
  by_cases h2 : pcO σ k nt = true
  · rw [if_pos h2]
    obtain ⟨a, b, _⟩ := pcO_iff.mp h2
    have := (ps_iff.mp b).1
    refine ⟨by omega, by omega, fun _ => ?_⟩
    have : k + 1 ≤ kd σ k := by
      unfold kd
      rw [if_pos a]
      split <;> omega
    omega
  · rw [if_neg h2]
    exact ⟨h1.1, h1.2, fun q => absurd q h2⟩
/-- the model's states, by places -/
def fl (σ : Sg) (k st c : Nat) : Int32 := flt σ (σ 0 4 - k) k st c
theorem fl_step {σ : Sg} {k st c : Nat} (h : k < σ 0 4) : fl σ k st c = match nx st c (σ 8 k) with
    | none => nI k
    | some q => fl σ (k + 1) q.1 q.2 := by
  unfold fl
  rw [show σ 0 4 - k = (σ 0 4 - (k + 1)) + 1 by omega]
  rfl
theorem fl_end {σ : Sg} {k st c : Nat} (h : k = σ 0 4) : fl σ k st c = if st = 7 then -6 else nI k := by
  unfold fl
  rw [h, Nat.sub_self]
  rfl
/-- a number and a coin, from state b = 0 or 4 -/
theorem fl_coins {σ : Sg} {k b c : Nat} (hb : b = 0 ∨ b = 4) (hk : k ≤ σ 0 4) : fl σ k b c = if pcO σ k (if b = 0 then none else some c) = true then fl σ (pcP σ k (if b = 0 then none else some c)) (b + 3) (σ 8 (kd σ k)) else nI (pcP σ k (if b = 0 then none else some c)) := by
  have hend : ∀ {j st : Nat}, j = σ 0 4 → ¬ st = 7 → fl σ j st c = nI j := fun h1 h2 => by rw [fl_end h1, if_neg h2]
  -- the coin's letter, from state b + 1 or b + 2
  have hlet : ∀ {j d : Nat}, (d = 1 ∨ d = 2) → j ≤ σ 0 4 → (d = 1 → ps σ j 48 57 = false) → fl σ j (b + d) c = if ps σ j 97 104 = true ∧ ¬ (if b = 0 then none else some c) = some (σ 8 j) then fl σ (j + 1) (b + 3) (σ 8 j) else nI j := by
    intro j d hd hj hnd
    rcases Nat.lt_or_ge j (σ 0 4) with q | q
    · rw [fl_step q]
      have hd' : d = 1 → ¬ (48 ≤ σ 8 j ∧ σ 8 j ≤ 57) := fun e z => by
        have := ps_f.mp (hnd e)
        exact this ⟨q, z⟩
      have hn1 : ¬ b + d = 3 := by omega
      have hn2 : ¬ b + d = 7 := by omega
      have hm : (b + d) % 4 = d := by rcases hb with e | e <;> rcases hd with z | z <;> subst e <;> subst z <;> rfl
      by_cases hl : ps σ j 97 104 = true ∧ ¬ (if b = 0 then none else some c) = some (σ 8 j)
      · rw [if_pos hl]
        have hl1 := (ps_iff.mp hl.1).2
        have hx : nx (b + d) c (σ 8 j) = some (b + 3, σ 8 j) := by
          unfold nx
          rw [if_neg hn1, if_neg hn2, hm, if_neg (fun z => by omega), if_pos ?_]
          · rcases hb with e | e
            · subst e; rw [if_pos (by omega)]
            · subst e; rw [if_neg (by omega)]
          · refine ⟨by omega, hl1.1, hl1.2, ?_⟩
            rcases hb with e | e
            · left; omega
            · right
              intro z
              apply hl.2
              rw [if_neg (by omega), z]
        rw [hx]
      · rw [if_neg hl]
        have hx : nx (b + d) c (σ 8 j) = none := by
          unfold nx
          rw [if_neg hn1, if_neg hn2, hm, if_neg (fun z => ?_), if_neg (fun z => ?_)]
          · apply hl
            refine ⟨ps_iff.mpr ⟨q, z.2.1, z.2.2.1⟩, ?_⟩
            rcases hb with e | e
            · rw [if_pos e]; simp
            · rw [if_neg (by omega)]
              intro w
              have := Option.some.inj w
              rcases z.2.2.2 with y | y
              · omega
              · exact y this.symm
          · rcases hd with e | e
            · exact hd' e ⟨z.2.2.1, z.2.2.2⟩
            · omega
        rw [hx]
    · have e : j = σ 0 4 := by omega
      rw [hend e (by omega), if_neg (fun z => by have := (ps_iff.mp z.1).1; omega)]
  by_cases h1 : ps σ k 49 57 = true
  · have h1' := ps_iff.mp h1
    rw [fl_step h1'.1]
    have hx : nx b c (σ 8 k) = some (b + 1, c) := by
      unfold nx
      rw [if_neg (by omega), if_neg (by omega), if_pos ?_]
      rcases hb with e | e <;> subst e <;> exact ⟨by decide, fun _ => by omega, by omega, by omega⟩
    rw [hx]
    dsimp only
    by_cases h2 : ps σ (k + 1) 48 57 = true
    · have h2' := ps_iff.mp h2
      have ekd : kd σ k = k + 2 := by unfold kd; rw [if_pos h1, if_pos h2]
      rw [fl_step h2'.1]
      have hx2 : nx (b + 1) c (σ 8 (k + 1)) = some (b + 2, c) := by
        unfold nx
        rw [if_neg (by omega), if_neg (by omega), if_pos ?_]
        rcases hb with e | e <;> subst e <;> exact ⟨by decide, fun z => absurd z (by decide), by omega, by omega⟩
      rw [hx2]
      dsimp only
      rw [show k + 1 + 1 = k + 2 by omega, hlet (Or.inr rfl) (by omega) (fun z => absurd z (by decide))]
      unfold pcP pcO
      rw [ekd, h1, Bool.true_and]
      by_cases h3 : ps σ (k + 2) 97 104 = true ∧ ¬ (if b = 0 then none else some c) = some (σ 8 (k + 2))
      · rw [if_pos h3, h3.1]
        have : (!decide ((if b = 0 then none else some c) = some (σ 8 (k + 2)))) = true := by rw [Bool.not_eq_true', decide_eq_false_iff_not]; exact h3.2
        rw [this]
        rfl
      · rw [if_neg h3]
        have : (ps σ (k + 2) 97 104 && !decide ((if b = 0 then none else some c) = some (σ 8 (k + 2)))) = false := by
          rw [Bool.eq_false_iff]
          intro z
          rw [Bool.and_eq_true, Bool.not_eq_true', decide_eq_false_iff_not] at z
          exact h3 z
        rw [this]
        rfl
    · have ekd : kd σ k = k + 1 := by unfold kd; rw [if_pos h1, if_neg h2]
      rw [hlet (Or.inl rfl) (by omega) (fun _ => by simpa using h2)]
      unfold pcP pcO
      rw [ekd, h1, Bool.true_and]
      by_cases h3 : ps σ (k + 1) 97 104 = true ∧ ¬ (if b = 0 then none else some c) = some (σ 8 (k + 1))
      · rw [if_pos h3, h3.1]
        have : (!decide ((if b = 0 then none else some c) = some (σ 8 (k + 1)))) = true := by rw [Bool.not_eq_true', decide_eq_false_iff_not]; exact h3.2
        rw [this]
        rfl
      · rw [if_neg h3]
        have : (ps σ (k + 1) 97 104 && !decide ((if b = 0 then none else some c) = some (σ 8 (k + 1)))) = false := by
          rw [Bool.eq_false_iff]
          intro z
          rw [Bool.and_eq_true, Bool.not_eq_true', decide_eq_false_iff_not] at z
          exact h3 z
        rw [this]
        rfl
  · have h1f : ps σ k 49 57 = false := by simpa using h1
    have ekd : kd σ k = k := by unfold kd; rw [if_neg h1]
    have hO : ∀ nt, pcO σ k nt = false := fun nt => by unfold pcO; rw [h1f, Bool.false_and]
    rw [if_neg (by rw [hO]; decide)]
    unfold pcP
    rw [if_neg (by rw [hO]; decide), ekd]
    rcases Nat.lt_or_ge k (σ 0 4) with q | q
    · rw [fl_step q]
      have hx : nx b c (σ 8 k) = none := by
        have h9 := ps_f.mp h1f
        unfold nx
        rw [if_neg (by omega), if_neg (by omega), if_neg ?_, if_neg ?_]
        · rcases hb with e | e <;> subst e <;> (intro z; exact absurd z.1 (by decide))
        · rcases hb with e | e <;> subst e <;> (intro z; exact h9 ⟨q, z.2.1 (by decide), z.2.2.2⟩)
      rw [hx]
    · rw [fl_end (by omega), if_neg (by omega)]
theorem fl_3 {σ : Sg} {k c : Nat} (hk : k ≤ σ 0 4) : fl σ k 3 c = if ps σ k 62 62 = true then fl σ (k + 1) 4 c else nI k := by
  rcases Nat.lt_or_ge k (σ 0 4) with q | q
  · rw [fl_step q]
    unfold nx
    rw [if_pos rfl]
    by_cases e : σ 8 k = 62
    · rw [if_pos e, if_pos (ps_iff.mpr ⟨q, by omega, by omega⟩)]
    · rw [if_neg e, if_neg (fun z => by have := ps_iff.mp z; omega)]
  · rw [fl_end (by omega), if_neg (by decide), if_neg (fun z => by have := ps_iff.mp z; omega)]
theorem fl_7 {σ : Sg} {k c : Nat} (hk : k ≤ σ 0 4) : fl σ k 7 c = if k = σ 0 4 then -6 else if ps σ k 59 59 = true then fl σ (k + 1) 0 c else nI k := by
  rcases Nat.lt_or_ge k (σ 0 4) with q | q
  · rw [fl_step q, if_neg (by omega)]
    unfold nx
    rw [if_neg (by decide), if_pos rfl]
    by_cases e : σ 8 k = 59
    · rw [if_pos e, if_pos (ps_iff.mpr ⟨q, by omega, by omega⟩)]
    · rw [if_neg e, if_neg (fun z => by have := ps_iff.mp z; omega)]
  · rw [fl_end (by omega), if_pos rfl, if_pos (by omega)]
/-- a board -/
def c1 (σ : Sg) (k : Nat) : Nat := σ 8 (kd σ k)
def k3 (σ : Sg) (k : Nat) : Nat := pcP σ k none + 1
def pbO (σ : Sg) (k : Nat) : Bool := pcO σ k none && (ps σ (pcP σ k none) 62 62 && pcO σ (k3 σ k) (some (c1 σ k)))
def pbP (σ : Sg) (k : Nat) : Nat := if pcO σ k none = true ∧ ps σ (pcP σ k none) 62 62 = true then pcP σ (k3 σ k) (some (c1 σ k)) else pcP σ k none
def c2 (σ : Sg) (k : Nat) : Nat := σ 8 (kd σ (k3 σ k))
theorem pbO_iff {σ : Sg} {k : Nat} : pbO σ k = true ↔ pcO σ k none = true ∧ ps σ (pcP σ k none) 62 62 = true ∧ pcO σ (k3 σ k) (some (c1 σ k)) = true := by
  unfold pbO
  rw [Bool.and_eq_true, Bool.and_eq_true]
theorem pbP_le {σ : Sg} {k : Nat} (h : k ≤ σ 0 4) : k ≤ pbP σ k ∧ pbP σ k ≤ σ 0 4 ∧ (pbO σ k = true → k + 5 ≤ pbP σ k) := by
  have h1 := pcP_le (nt := none) h
  unfold pbP
  by_cases h2 : pcO σ k none = true ∧ ps σ (pcP σ k none) 62 62 = true
  · rw [if_pos h2]
    have h3 := (ps_iff.mp h2.2).1
    have h4 := pcP_le (σ := σ) (k := k3 σ k) (nt := some (c1 σ k)) (by unfold k3; omega)
    have h5 := h1.2.2 h2.1
    unfold k3 at h4 ⊢
    refine ⟨by omega, h4.2.1, fun q => ?_⟩
    have := h4.2.2 (pbO_iff.mp q).2.2
    omega
  · rw [if_neg h2]
    exact ⟨h1.1, h1.2.1, fun q => absurd ⟨(pbO_iff.mp q).1, (pbO_iff.mp q).2.1⟩ h2⟩
theorem fl_board {σ : Sg} {k c : Nat} (hk : k ≤ σ 0 4) : fl σ k 0 c = if pbO σ k = true then fl σ (pbP σ k) 7 (c2 σ k) else nI (pbP σ k) := by
  rw [fl_coins (Or.inl rfl) hk, if_pos rfl]
  have h1 := pcP_le (nt := none) hk
  by_cases a : pcO σ k none = true
  · rw [if_pos a, fl_3 h1.2.1]
    by_cases b : ps σ (pcP σ k none) 62 62 = true
    · have hb := (ps_iff.mp b).1
      rw [if_pos b, fl_coins (Or.inr rfl) (by omega), show (if (4 : Nat) = 0 then none else some (σ 8 (kd σ k))) = some (σ 8 (kd σ k)) from if_neg (by decide)]
      have e1 : pbP σ k = pcP σ (k3 σ k) (some (c1 σ k)) := by unfold pbP; rw [if_pos ⟨a, b⟩]
      rw [e1]
      by_cases d : pcO σ (k3 σ k) (some (c1 σ k)) = true
      · rw [if_pos (pbO_iff.mpr ⟨a, b, d⟩)]
        exact if_pos d
      · rw [if_neg (fun q => d (pbO_iff.mp q).2.2)]
        exact if_neg d
    · rw [if_neg b, if_neg (fun q => b (pbO_iff.mp q).2.1)]
      unfold pbP
      rw [if_neg (fun q => b q.2)]
  · rw [if_neg a, if_neg (fun q => a (pbO_iff.mp q).1)]
    unfold pbP
    rw [if_neg (fun q => a q.1)]
theorem sp_fault_fl (σ : Sg) : sp_fault σ = fl σ 0 0 0 := rfl
/-- no fault from a board's beginning on -/
theorem fl_ok {σ : Sg} (hO : Ok σ) {k c : Nat} (hk : k ≤ σ 0 4) (h : fl σ k 0 c = -6) : pbO σ k = true ∧ (pbP σ k = σ 0 4 ∨ (ps σ (pbP σ k) 59 59 = true ∧ fl σ (pbP σ k + 1) 0 (c2 σ k) = -6)) := by
  have hn : ∀ j, j ≤ σ 0 4 → ¬ nI j = -6 := fun j hj q => by
    have h1 := Ok_n hO
    have h2 : (nI j).toInt = (-6 : Int32).toInt := by rw [q]
    rw [nI_toInt (by omega)] at h2
    have : ((-6 : Int32)).toInt = -6 := by decide
    omega
  have hp := pbP_le hk
  rw [fl_board hk] at h
  by_cases a : pbO σ k = true
  · rw [if_pos a, fl_7 hp.2.1] at h
    refine ⟨a, ?_⟩
    by_cases b : pbP σ k = σ 0 4
    · exact Or.inl b
    · rw [if_neg b] at h
      by_cases d : ps σ (pbP σ k) 59 59 = true
      · rw [if_pos d] at h
        exact Or.inr ⟨d, h⟩
      · rw [if_neg d] at h
        exact absurd h (hn _ hp.2.1)
  · rw [if_neg a] at h
    exact absurd h (hn _ hp.2.1)
/-- how many separators lie from a place on -/
def cs (σ : Sg) : Nat → Nat → Nat
  | _, 0 => 0
  | k, d + 1 => (if σ 8 k = 59 then 1 else 0) + cs σ (k + 1) d
theorem cs_app (σ : Sg) : ∀ a k d, cs σ k (a + d) = cs σ k a + cs σ (k + a) d
  | 0, k, d => by rw [Nat.zero_add]; show _ = 0 + _; rw [Nat.zero_add, Nat.add_zero]
  | a + 1, k, d => by
    rw [show a + 1 + d = (a + d) + 1 by omega]
    show _ + cs σ (k + 1) (a + d) = _ + cs σ (k + 1) a + cs σ (k + (a + 1)) d
    rw [cs_app σ a (k + 1) d, show k + 1 + a = k + (a + 1) by omega]
    omega
theorem cs_le (σ : Sg) : ∀ d k, cs σ k d ≤ d
  | 0, k => Nat.le_refl _
  | d + 1, k => by
    have := cs_le σ d (k + 1)
    show (if σ 8 k = 59 then 1 else 0) + cs σ (k + 1) d ≤ d + 1
    split <;> omega
theorem cs_0 {σ : Sg} : ∀ {d k}, (∀ j, k ≤ j → j < k + d → ¬ σ 8 j = 59) → cs σ k d = 0
  | 0, k, _ => rfl
  | d + 1, k, h => by
    show (if σ 8 k = 59 then 1 else 0) + cs σ (k + 1) d = 0
    rw [if_neg (h k (by omega) (by omega)), cs_0 (fun j h1 h2 => h j (by omega) (by omega))]
theorem coins_no {σ : Sg} {k : Nat} {nt : Option Nat} (h : pcO σ k nt = true) (j : Nat) (h1 : k ≤ j) (h2 : j < pcP σ k nt) : (48 ≤ σ 8 j ∧ σ 8 j ≤ 57 ∧ j < kd σ k) ∨ (97 ≤ σ 8 j ∧ σ 8 j ≤ 104 ∧ j = kd σ k) := by
  obtain ⟨a, b, _⟩ := pcO_iff.mp h
  have a' := ps_iff.mp a
  have b' := ps_iff.mp b
  unfold pcP at h2
  rw [if_pos h] at h2
  by_cases e : j = kd σ k
  · right; rw [e]; exact ⟨b'.2.1, b'.2.2, rfl⟩
  · left
    have hlt : j < kd σ k := by omega
    refine ⟨?_, ?_, hlt⟩ <;>
    · by_cases q : ps σ (k + 1) 48 57 = true
      · have q' := ps_iff.mp q
        have : kd σ k = k + 2 := by unfold kd; rw [if_pos a, if_pos q]
        rcases (show j = k ∨ j = k + 1 by omega) with z | z <;> subst z <;> omega
      · have : kd σ k = k + 1 := by unfold kd; rw [if_pos a, if_neg q]
        have : j = k := by omega
        subst this; omega
theorem board_no {σ : Sg} {k : Nat} (h : pbO σ k = true) (j : Nat) (h1 : k ≤ j) (h2 : j < pbP σ k) : ¬ σ 8 j = 59 := by
  obtain ⟨a, b, d⟩ := pbO_iff.mp h
  have e1 : pbP σ k = pcP σ (k3 σ k) (some (c1 σ k)) := by unfold pbP; rw [if_pos ⟨a, b⟩]
  rw [e1] at h2
  rcases Nat.lt_or_ge j (pcP σ k none) with q | q
  · have := coins_no a j h1 q; omega
  · by_cases e : j = pcP σ k none
    · have := ps_iff.mp b; rw [e]; omega
    · have := coins_no d j (by unfold k3; omega) h2; omega
/-- the separators from a board on -/
theorem board_cs {σ : Sg} {k : Nat} (hk : k ≤ σ 0 4) (h : pbO σ k = true) : cs σ k (σ 0 4 - k) = if pbP σ k = σ 0 4 then 0 else if σ 8 (pbP σ k) = 59 then 1 + cs σ (pbP σ k + 1) (σ 0 4 - (pbP σ k + 1)) else cs σ (pbP σ k + 1) (σ 0 4 - (pbP σ k + 1)) := by
  have hp := pbP_le hk
  rw [show σ 0 4 - k = (pbP σ k - k) + (σ 0 4 - pbP σ k) by omega, cs_app, cs_0 (fun j h1 h2 => board_no h j h1 (by omega)), Nat.zero_add, show k + (pbP σ k - k) = pbP σ k by omega]
  by_cases e : pbP σ k = σ 0 4
  · rw [if_pos e, e, Nat.sub_self]; rfl
  · rw [if_neg e, show σ 0 4 - pbP σ k = (σ 0 4 - (pbP σ k + 1)) + 1 by omega]
    show (if σ 8 (pbP σ k) = 59 then 1 else 0) + _ = _
    by_cases q : σ 8 (pbP σ k) = 59
    · rw [if_pos q, if_pos q]
    · rw [if_neg q, if_neg q, Nat.zero_add]
def hang (σ : Sg) : Nat → Nat → Sg → Sg
  | 0, _, τ => τ
  | m + 1, k, τ => hang σ m (pbP σ k + 1) (addB τ (c1 σ k - 97) (am σ k) (c2 σ k - 97) (am σ (k3 σ k)))
def many (σ : Sg) : Nat := 1 + cs σ 0 (σ 0 4)
def sp_read (σ : Sg) : Int32 × Sg := if ¬ sp_fault σ = -6 then (-5, σ) else if 12 < σ 0 0 + many σ then (-4, σ) else (nI ((hang σ (many σ) 0 σ) 0 0), su (hang σ (many σ) 0 σ) 0 4 0)
