/-! WALK: greatest heaps forward, needed heaps backward, against the first best of all walks -/
theorem hb_min (σ : Sg) (b h : Nat) : hb σ b h = Nat.min h (σ 7 b) / σ 2 b * ub σ b := by
  unfold hb
  congr 2
  show _ = (if h ≤ σ 7 b then h else σ 7 b)
  split <;> split <;> omega
theorem hb_mono {σ : Sg} {b a a' : Nat} (h : a ≤ a') : hb σ b a ≤ hb σ b a' := by
  unfold hb
  refine Nat.mul_le_mul_right _ (Nat.div_le_div_right ?_)
  split <;> split <;> omega
theorem hw_mono {σ : Sg} : ∀ {p : List Nat} {a a' : Nat}, a ≤ a' → hw σ a p ≤ hw σ a' p
  | [], _, _, h => h
  | b :: p, a, a', h => hw_mono (p := p) (hb_mono h)
theorem hw_cons (σ : Sg) (h b : Nat) (p : List Nat) : hw σ h (b :: p) = hw σ (hb σ b h) p := rfl
theorem Way_cw {σ : Sg} : ∀ {p : List Nat} {c y : Nat}, Way σ c p y → cw σ c p = y
  | [], _, _, h => h
  | b :: p, c, y, h => show cw σ (σ 3 b) p = y from Way_cw h.2
/-- greatest heaps -/
def omax (o : Option Nat) (h : Nat) : Option Nat := match o with
  | none => some h
  | some x => some (Nat.max x h)
def updO (f : Nat → Option Nat) (k : Nat) (v : Option Nat) : Nat → Option Nat := fun i => if i = k then v else f i
def gt1 (σ : Sg) (g t : Nat → Option Nat) (b : Nat) : Nat → Option Nat := match g (σ 1 b) with
  | none => t
  | some x => if opn σ b = true then updO t (σ 3 b) (omax (t (σ 3 b)) (hb σ b x)) else t
def gtP (σ : Sg) (g : Nat → Option Nat) : Nat → Nat → Option Nat
  | 0 => fun _ => none
  | b + 1 => gt1 σ g (gtP σ g b) b
def gt (σ : Sg) (s h : Nat) : Nat → Nat → Option Nat
  | 0 => fun c => if c = s then some h else none
  | k + 1 => gtP σ (gt σ s h k) (σ 0 0)
theorem gtP_sound {σ : Sg} {g : Nat → Option Nat} : ∀ m c x, gtP σ g m c = some x → ∃ b y, b < m ∧ opn σ b = true ∧ g (σ 1 b) = some y ∧ σ 3 b = c ∧ x = hb σ b y
  | 0, c, x, h => by cases h
  | m + 1, c, x, h => by
    have ih := gtP_sound (σ := σ) (g := g) m
    have lift : ∀ {c x}, gtP σ g m c = some x → ∃ b y, b < m + 1 ∧ opn σ b = true ∧ g (σ 1 b) = some y ∧ σ 3 b = c ∧ x = hb σ b y := fun h => by
      obtain ⟨b, y, h1, h2⟩ := ih _ _ h
      exact ⟨b, y, by omega, h2⟩
    unfold gtP gt1 at h
    cases e : g (σ 1 m) with
    | none => rw [e] at h; exact lift h
    | some y =>
      rw [e] at h
      dsimp only at h
      by_cases ho : opn σ m = true
      · rw [if_pos ho] at h
        unfold updO at h
        by_cases ec : c = σ 3 m
        · rw [if_pos ec] at h
          cases e2 : gtP σ g m (σ 3 m) with
          | none =>
            rw [e2] at h
            cases h
            exact ⟨m, y, by omega, ho, e, ec.symm, rfl⟩
          | some z =>
            rw [e2] at h
            have hz : x = Nat.max z (hb σ m y) := (Option.some.inj h).symm
            rcases Nat.le_total z (hb σ m y) with q | q
            · exact ⟨m, y, by omega, ho, e, ec.symm, by rw [hz]; exact Nat.max_eq_right q⟩
            · have : x = z := by rw [hz]; exact Nat.max_eq_left q
              rw [this, ec]
              exact lift e2
        · rw [if_neg ec] at h
          exact lift h
      · rw [if_neg ho] at h
        exact lift h
theorem gt1_mono {σ : Sg} {g t : Nat → Option Nat} {b c x : Nat} (h : t c = some x) : ∃ y, gt1 σ g t b c = some y ∧ x ≤ y := by
  unfold gt1
  cases e : g (σ 1 b) with
  | none => exact ⟨x, h, Nat.le_refl _⟩
  | some z =>
    dsimp only
    by_cases ho : opn σ b = true
    · rw [if_pos ho]
      unfold updO
      by_cases ec : c = σ 3 b
      · rw [if_pos ec, ← ec, h]
        exact ⟨_, rfl, Nat.le_max_left _ _⟩
      · rw [if_neg ec]
        exact ⟨x, h, Nat.le_refl _⟩
    · rw [if_neg ho]
      exact ⟨x, h, Nat.le_refl _⟩
theorem gtP_all {σ : Sg} {g : Nat → Option Nat} : ∀ m b y, b < m → opn σ b = true → g (σ 1 b) = some y → ∃ x, gtP σ g m (σ 3 b) = some x ∧ hb σ b y ≤ x
  | 0, b, y, hb, _, _ => absurd hb (Nat.not_lt_zero b)
  | m + 1, b, y, hbm, ho, hg => by
    by_cases e : b = m
    · subst e
      unfold gtP gt1
      rw [hg]
      dsimp only
      rw [if_pos ho]
      unfold updO
      rw [if_pos rfl]
      cases e2 : gtP σ g b (σ 3 b) with
      | none => exact ⟨_, rfl, Nat.le_refl _⟩
      | some z => exact ⟨_, rfl, Nat.le_max_right _ _⟩
    · obtain ⟨x, h1, h2⟩ := gtP_all m b y (by omega) ho hg
      obtain ⟨z, h3, h4⟩ := gt1_mono (σ := σ) (g := g) (b := m) h1
      exact ⟨z, h3, Nat.le_trans h2 h4⟩
theorem gt_sound (σ : Sg) (s h : Nat) : ∀ k c x, gt σ s h k c = some x → ∃ p, Way σ s p c ∧ p.length = k ∧ hw σ h p = x
  | 0, c, x, e => by
    unfold gt at e
    split at e
    · rename_i q
      cases e
      exact ⟨[], q.symm, rfl, rfl⟩
    · cases e
  | k + 1, c, x, e => by
    obtain ⟨b, y, h1, h2, h3, h4, h5⟩ := gtP_sound _ _ _ e
    obtain ⟨p, w, hl, hh⟩ := gt_sound σ s h k _ _ h3
    exact ⟨p ++ [b], Way_app w ⟨⟨h1, h2, rfl⟩, h4⟩, by simp [hl], by rw [hw_snoc, hh, h5]⟩
theorem gt_all (σ : Sg) (s h : Nat) : ∀ k p c, Way σ s p c → p.length = k → ∃ x, gt σ s h k c = some x ∧ hw σ h p ≤ x
  | 0, p, c, w, hl => by
    have : p = [] := List.length_eq_zero_iff.mp hl
    subst this
    refine ⟨h, ?_, Nat.le_refl _⟩
    unfold gt
    rw [if_pos (show c = s from (show s = c from w).symm)]
  | k + 1, p, c, w, hl => by
    rcases List.eq_nil_or_concat p with e | ⟨q, b, e⟩
    · subst e; simp at hl
    · rw [List.concat_eq_append] at e
      subst e
      obtain ⟨z, w1, w2⟩ := Way_split w
      rw [← (show σ 1 b = z from w2.1.2.2)] at w1
      obtain ⟨y, g1, g2⟩ := gt_all σ s h k q _ w1 (by simp at hl; omega)
      obtain ⟨x, g3, g4⟩ := gtP_all (σ := σ) (g := gt σ s h k) (σ 0 0) b y w2.1.1 w2.1.2.1 g1
      rw [(show σ 3 b = c from w2.2)] at g3
      refine ⟨x, g3, ?_⟩
      rw [hw_snoc]
      exact Nat.le_trans (hb_mono g2) g4
theorem gt_le {σ : Sg} (hO : Ok σ) {s h k c x : Nat} (hh : h ≤ 1000000) (e : gt σ s h k c = some x) : x ≤ 99000000 := by
  obtain ⟨p, w, _, hx⟩ := gt_sound σ s h k c x e
  rw [← hx]
  exact hw_le hO hh (Way_ok w)
/-- the fewest boards with the greatest heap -/
def bsF (f : Nat → Option Nat) : Nat → Option (Nat × Nat)
  | 0 => none
  | k + 1 => match f k with
    | none => bsF f k
    | some x => match bsF f k with
      | none => some (k, x)
      | some q => if q.2 < x then some (k, x) else some q
theorem bsF_spec (f : Nat → Option Nat) : ∀ k, (bsF f k = none → ∀ i, i < k → f i = none) ∧ ∀ q, bsF f k = some q → q.1 < k ∧ f q.1 = some q.2 ∧ (∀ i x, i < k → f i = some x → x ≤ q.2) ∧ (∀ i x, i < q.1 → f i = some x → x < q.2)
  | 0 => ⟨fun _ i hi => absurd hi (Nat.not_lt_zero i), fun q h => by cases h⟩
  | k + 1 => by
    obtain ⟨h1, h2⟩ := bsF_spec f k
    unfold bsF
    cases e : f k with
    | none =>
      dsimp only
      refine ⟨fun hn i hi => ?_, fun q hq => ?_⟩
      · by_cases ei : i = k
        · rw [ei]; exact e
        · exact h1 hn i (by omega)
      · obtain ⟨a1, a2, a3, a4⟩ := h2 q hq
        refine ⟨by omega, a2, fun i x hi hx => ?_, a4⟩
        by_cases ei : i = k
        · rw [ei, e] at hx; cases hx
        · exact a3 i x (by omega) hx
    | some y =>
      dsimp only
      cases eb : bsF f k with
      | none =>
        have h0 := h1 eb
        refine ⟨fun hn => (by cases hn), fun q hq => ?_⟩
        cases hq
        refine ⟨Nat.lt_succ_self _, e, fun i x hi hx => ?_, fun i x hi hx => ?_⟩
        · by_cases ei : i = k
          · rw [ei, e] at hx; cases hx; exact Nat.le_refl _
          · rw [h0 i (by omega)] at hx; cases hx
        · rw [h0 i hi] at hx; cases hx
      | some z =>
        obtain ⟨a1, a2, a3, a4⟩ := h2 z eb
        dsimp only
        by_cases q0 : z.2 < y
        · rw [if_pos q0]
          refine ⟨fun hn => (by cases hn), fun q hq => ?_⟩
          cases hq
          refine ⟨Nat.lt_succ_self _, e, fun i x hi hx => ?_, fun i x hi hx => ?_⟩
          · by_cases ei : i = k
            · rw [ei, e] at hx; cases hx; exact Nat.le_refl _
            · have := a3 i x (by omega) hx; dsimp only; omega
          · have := a3 i x hi hx; dsimp only; omega
        · rw [if_neg q0]
          refine ⟨fun hn => (by cases hn), fun q hq => ?_⟩
          cases hq
          refine ⟨by omega, a2, fun i x hi hx => ?_, a4⟩
          by_cases ei : i = k
          · rw [ei, e] at hx; cases hx; omega
          · exact a3 i x (by omega) hx
/-- what the model looks at -/
theorem wdfs_sound (σ : Sg) : ∀ f c p q, q ∈ wdfs σ f c p → ∃ t, q = p ++ t ∧ (∃ y, Way σ c t y) ∧ 1 ≤ t.length ∧ t.length ≤ f
  | 0, c, p, q, h => by unfold wdfs at h; exact absurd h List.not_mem_nil
  | f + 1, c, p, q, h => by
    unfold wdfs at h
    obtain ⟨b, hb, h⟩ := List.mem_flatMap.mp h
    have hbn := List.mem_range.mp hb
    by_cases h1 : σ 1 b = c ∧ opn σ b = true
    · rw [if_pos h1] at h
      rcases List.mem_cons.mp h with z | z
      · exact ⟨[b], z, ⟨σ 3 b, ⟨hbn, h1.2, h1.1⟩, rfl⟩, by simp, by simp⟩
      · obtain ⟨t, e, ⟨y, w⟩, t1, t2⟩ := wdfs_sound σ f _ _ q z
        exact ⟨b :: t, by rw [e]; simp, ⟨y, ⟨hbn, h1.2, h1.1⟩, w⟩, by simp, by simp; omega⟩
    · rw [if_neg h1] at h
      exact absurd h List.not_mem_nil
theorem wdfs_all (σ : Sg) : ∀ f c p t y, Way σ c t y → 1 ≤ t.length → t.length ≤ f → p ++ t ∈ wdfs σ f c p
  | 0, c, p, t, y, _, h1, h2 => by omega
  | f + 1, c, p, [], y, _, h1, _ => by simp at h1
  | f + 1, c, p, b :: t, y, w, _, h2 => by
    unfold wdfs
    refine List.mem_flatMap.mpr ⟨b, List.mem_range.mpr w.1.1, ?_⟩
    rw [if_pos ⟨w.1.2.2, w.1.2.1⟩]
    cases t with
    | nil => exact List.mem_cons_self
    | cons b' t =>
      refine List.mem_cons_of_mem _ ?_
      have := wdfs_all σ f (σ 3 b) (p ++ [b]) (b' :: t) y w.2 (by simp) (by simp at h2 ⊢; omega)
      rw [List.append_assoc] at this
      exact this
def allW (σ : Sg) (s L : Nat) : List (List Nat) := [] :: wdfs σ L s []
theorem allW_mem {σ : Sg} {s L : Nat} {q : List Nat} : q ∈ allW σ s L ↔ (∃ y, Way σ s q y) ∧ q.length ≤ L := by
  unfold allW
  constructor
  · intro h
    rcases List.mem_cons.mp h with z | z
    · rw [z]; exact ⟨⟨s, rfl⟩, by simp⟩
    · obtain ⟨t, e, w, t1, t2⟩ := wdfs_sound σ L s [] q z
      rw [List.nil_append] at e
      rw [e]; exact ⟨w, t2⟩
  · rintro ⟨⟨y, w⟩, hl⟩
    cases q with
    | nil => exact List.mem_cons_self
    | cons b q =>
      refine List.mem_cons_of_mem _ ?_
      have := wdfs_all σ L s [] (b :: q) y w (by simp) hl
      simpa using this
theorem allW_end {σ : Sg} {s L e : Nat} {q : List Nat} : (q ∈ allW σ s L ∧ cw σ s q = e) ↔ Way σ s q e ∧ q.length ≤ L := by
  rw [allW_mem]
  constructor
  · rintro ⟨⟨⟨y, w⟩, hl⟩, hc⟩
    rw [Way_cw w] at hc
    rw [← hc]; exact ⟨w, hl⟩
  · rintro ⟨w, hl⟩
    exact ⟨⟨⟨e, w⟩, hl⟩, Way_cw w⟩
/-- the first best of a list -/
def bt (σ : Sg) (h : Nat) (q r : List Nat) : Prop := hw σ h r < hw σ h q ∨ (hw σ h q = hw σ h r ∧ q.length < r.length)
def isK (σ : Sg) (s h e : Nat) (r q : List Nat) : Bool := decide (cw σ s q = e ∧ hw σ h q = hw σ h r ∧ q.length = r.length)
theorem wb_spec (σ : Sg) (s h e : Nat) : ∀ (n : Nat) (acc : List (List Nat)), acc.length = n → (wb σ s h e acc = none → ∀ q ∈ acc, ¬ cw σ s q = e) ∧ ∀ r, wb σ s h e acc = some r → (r ∈ acc ∧ cw σ s r = e) ∧ (∀ q ∈ acc, cw σ s q = e → ¬ bt σ h q r) ∧ acc.find? (isK σ s h e r) = some r
  | 0, acc, hl => by
    rw [List.length_eq_zero_iff.mp hl]
    exact ⟨fun _ q hq => absurd hq List.not_mem_nil, fun r hr => by cases hr⟩
  | n + 1, acc, hl => by
    rcases List.eq_nil_or_concat acc with ea | ⟨ac, q0, ea⟩
    · rw [ea] at hl; simp at hl
    · rw [List.concat_eq_append] at ea
      subst ea
      obtain ⟨h1, h2⟩ := wb_spec σ s h e n ac (by simp at hl; omega)
      rw [wb_snoc]
      unfold wb1
      by_cases hc : cw σ s q0 = e
      · rw [if_pos hc]
        have hk : isK σ s h e q0 q0 = true := decide_eq_true ⟨hc, rfl, rfl⟩
        cases eb : wb σ s h e ac with
        | none =>
          have h0 := h1 eb
          refine ⟨fun hn => (by cases hn), fun r hr => ?_⟩
          have : r = q0 := (Option.some.inj hr).symm
          subst this
          refine ⟨⟨by simp, hc⟩, fun q hq hqe => ?_, ?_⟩
          · rcases List.mem_append.mp hq with z | z
            · exact absurd hqe (h0 q z)
            · rw [List.mem_singleton.mp z]; unfold bt; omega
          · rw [List.find?_append, List.find?_eq_none.mpr (fun q hq => by
              unfold isK
              simp only [decide_eq_true_eq]
              intro hh
              exact h0 q hq hh.1)]
            simp [hk]
        | some r0 =>
          obtain ⟨⟨a1, a2⟩, a3, a4⟩ := h2 r0 eb
          dsimp only
          by_cases hb : hw σ h r0 < hw σ h q0 ∨ (hw σ h q0 = hw σ h r0 ∧ q0.length < r0.length)
          · rw [if_pos hb]
            refine ⟨fun hn => (by cases hn), fun r hr => ?_⟩
            have : r = q0 := (Option.some.inj hr).symm
            subst this
            refine ⟨⟨by simp, hc⟩, fun q hq hqe => ?_, ?_⟩
            · rcases List.mem_append.mp hq with z | z
              · have := a3 q z hqe
                unfold bt at this ⊢
                omega
              · rw [List.mem_singleton.mp z]; unfold bt; omega
            · rw [List.find?_append, List.find?_eq_none.mpr (fun q hq => by
                unfold isK
                simp only [decide_eq_true_eq]
                intro hh
                have := a3 q hq hh.1
                unfold bt at this
                omega)]
              simp [hk]
          · rw [if_neg hb]
            refine ⟨fun hn => (by cases hn), fun r hr => ?_⟩
            have : r = r0 := (Option.some.inj hr).symm
            subst this
            refine ⟨⟨List.mem_append_left _ a1, a2⟩, fun q hq hqe => ?_, by rw [List.find?_append, a4]; rfl⟩
            rcases List.mem_append.mp hq with z | z
            · exact a3 q z hqe
            · rw [List.mem_singleton.mp z]; exact hb
      · rw [if_neg hc]
        refine ⟨fun hn q hq => ?_, fun r hr => ?_⟩
        · rcases List.mem_append.mp hq with z | z
          · exact h1 hn q z
          · rw [List.mem_singleton.mp z]; exact hc
        · obtain ⟨⟨a1, a2⟩, a3, a4⟩ := h2 r hr
          refine ⟨⟨List.mem_append_left _ a1, a2⟩, fun q hq hqe => ?_, by rw [List.find?_append, a4]; rfl⟩
          rcases List.mem_append.mp hq with z | z
          · exact a3 q z hqe
          · rw [List.mem_singleton.mp z] at hqe; exact absurd hqe hc
theorem mwalk_wb (σ : Sg) (s h e L : Nat) : mwalk σ s h e L = wb σ s h e (allW σ s L) := rfl
/-- heap and length of the best -/
theorem walk_best (σ : Sg) (s h e L : Nat) : (mwalk σ s h e L = none → bsF (fun k => gt σ s h k e) (L + 1) = none) ∧ ∀ r, mwalk σ s h e L = some r → bsF (fun k => gt σ s h k e) (L + 1) = some (r.length, hw σ h r) := by
  rw [mwalk_wb]
  obtain ⟨w1, w2⟩ := wb_spec σ s h e _ (allW σ s L) rfl
  obtain ⟨b1, b2⟩ := bsF_spec (fun k => gt σ s h k e) (L + 1)
  refine ⟨fun hn => ?_, fun r hr => ?_⟩
  · cases eb : bsF (fun k => gt σ s h k e) (L + 1) with
    | none => rfl
    | some q =>
      obtain ⟨c1, c2, _, _⟩ := b2 q eb
      obtain ⟨p, w, hl, _⟩ := gt_sound σ s h _ _ _ c2
      have := allW_end (L := L) |>.mpr ⟨w, by omega⟩
      exact absurd this.2 (w1 hn p this.1)
  · obtain ⟨a1, a2, _⟩ := w2 r hr
    obtain ⟨wr, hrl⟩ := allW_end.mp a1
    obtain ⟨x, g1, g2⟩ := gt_all σ s h r.length r e wr rfl
    cases eb : bsF (fun k => gt σ s h k e) (L + 1) with
    | none =>
      have := b1 eb r.length (by omega)
      rw [g1] at this
      cases this
    | some q =>
      obtain ⟨c1, c2, c3, c4⟩ := b2 q eb
      obtain ⟨p, w, hl, hh⟩ := gt_sound σ s h _ _ _ c2
      have hp := allW_end (L := L) |>.mpr ⟨w, by omega⟩
      have nb := a2 p hp.1 hp.2
      unfold bt at nb
      have c5 := c3 r.length x (by omega) g1
      have e1 : q.2 = hw σ h r := by omega
      have e2 : q.1 = r.length := by
        rcases Nat.lt_or_ge r.length q.1 with z | z
        · have := c4 r.length x z g1; omega
        · omega
      rw [← e1, ← e2]
/-- the first board that still comes to it -/
def fs {α : Type} (F : Nat → Option α) : Nat → Option α
  | 0 => none
  | n + 1 => match fs F n with
    | some r => some r
    | none => F n
theorem fs_range {α : Type} (F : Nat → Option α) : ∀ n, (List.range n).findSome? F = fs F n
  | 0 => rfl
  | n + 1 => by
    rw [List.range_succ, List.findSome?_append, fs_range F n]
    show (fs F n).or (List.findSome? F [n]) = (match fs F n with
      | some r => some r
      | none => F n)
    cases fs F n with
    | none =>
      show List.findSome? F [n] = F n
      cases hq : F n <;> simp [hq]
    | some r => rfl
theorem fs_some {α : Type} {F : Nat → Option α} : ∀ {n : Nat} {r : α}, fs F n = some r → ∃ b, b < n ∧ F b = some r ∧ ∀ b', b' < b → F b' = none
  | 0, r, h => by cases h
  | n + 1, r, h => by
    unfold fs at h
    cases e : fs F n with
    | some z =>
      rw [e] at h
      obtain ⟨b, h1, h2⟩ := fs_some e
      cases h
      exact ⟨b, by omega, h2⟩
    | none =>
      rw [e] at h
      refine ⟨n, by omega, h, fun b' hb' => ?_⟩
      have key : ∀ m, fs F m = none → ∀ b, b < m → F b = none := by
        intro m
        induction m with
        | zero => intro _ b hb; omega
        | succ m ih =>
          intro hm b hb
          unfold fs at hm
          cases e2 : fs F m with
          | some z => rw [e2] at hm; cases hm
          | none =>
            rw [e2] at hm
            by_cases eb : b = m
            · rw [eb]; exact hm
            · exact ih e2 b (by omega)
      exact key n e b' hb'
theorem fs_all {α : Type} {F : Nat → Option α} : ∀ {n b : Nat}, b < n → (F b).isSome = true → (fs F n).isSome = true
  | 0, b, h, _ => absurd h (Nat.not_lt_zero b)
  | n + 1, b, h, hs => by
    unfold fs
    cases e : fs F n with
    | some z => rfl
    | none =>
      dsimp only
      by_cases eb : b = n
      · rw [← eb]; exact hs
      · have := fs_all (n := n) (show b < n by omega) hs
        rw [e] at this
        cases this
def gf (σ : Sg) (e M : Nat) : Nat → Nat → Nat → Option (List Nat)
  | 0, c, h => if c = e ∧ M ≤ h then some [] else none
  | j + 1, c, h => fs (fun b => if σ 1 b = c ∧ opn σ b = true then (gf σ e M j (σ 3 b) (hb σ b h)).map (b :: ·) else none) (σ 0 0)
theorem gf_some {σ : Sg} {e M j c h : Nat} {r : List Nat} (hr : gf σ e M (j + 1) c h = some r) : ∃ b r', r = b :: r' ∧ b < σ 0 0 ∧ (σ 1 b = c ∧ opn σ b = true) ∧ gf σ e M j (σ 3 b) (hb σ b h) = some r' ∧ ∀ b', b' < b → σ 1 b' = c → opn σ b' = true → (gf σ e M j (σ 3 b') (hb σ b' h)).isSome = false := by
  obtain ⟨b, h1, h2, h3⟩ := fs_some (show fs _ _ = some r from hr)
  split at h2
  · rename_i hc
    obtain ⟨r', h4, h5⟩ := Option.map_eq_some_iff.mp h2
    refine ⟨b, r', h5.symm, h1, hc, h4, fun b' hb' e1 e2 => ?_⟩
    have := h3 b' hb'
    rw [if_pos ⟨e1, e2⟩, Option.map_eq_none_iff] at this
    rw [this]
    rfl
  · cases h2
theorem gf_is {σ : Sg} {e M j c h : Nat} : (gf σ e M (j + 1) c h).isSome = true ↔ ∃ b, b < σ 0 0 ∧ σ 1 b = c ∧ opn σ b = true ∧ (gf σ e M j (σ 3 b) (hb σ b h)).isSome = true := by
  constructor
  · intro h1
    obtain ⟨r, hr⟩ := Option.isSome_iff_exists.mp h1
    obtain ⟨b, r', _, h2, h3, h4, _⟩ := gf_some hr
    exact ⟨b, h2, h3.1, h3.2, by rw [h4]; rfl⟩
  · rintro ⟨b, h1, h2, h3, h4⟩
    refine fs_all h1 ?_
    rw [if_pos ⟨h2, h3⟩]
    obtain ⟨r, hr⟩ := Option.isSome_iff_exists.mp h4
    rw [hr]
    rfl
def isJ (σ : Sg) (s h e M J : Nat) (q : List Nat) : Bool := decide (cw σ s q = e ∧ M ≤ hw σ h q ∧ q.length = J)
theorem wdfs_find (σ : Sg) (s h e M : Nat) : ∀ f j p, j + 1 ≤ f → (wdfs σ f (cw σ s p) p).find? (isJ σ s h e M (p.length + (j + 1))) = (gf σ e M (j + 1) (cw σ s p) (hw σ h p)).map (p ++ ·)
  | 0, j, p, hj => by omega
  | f + 1, j, p, hj => by
    unfold wdfs
    rw [List.find?_flatMap, fs_range]
    show _ = Option.map _ (fs _ _)
    have key : ∀ b, List.find? (isJ σ s h e M (p.length + (j + 1))) (if σ 1 b = cw σ s p ∧ opn σ b = true then (p ++ [b]) :: wdfs σ f (σ 3 b) (p ++ [b]) else []) = Option.map (p ++ ·) (if σ 1 b = cw σ s p ∧ opn σ b = true then (gf σ e M j (σ 3 b) (hb σ b (hw σ h p))).map (b :: ·) else none) := by
      intro b
      by_cases hc : σ 1 b = cw σ s p ∧ opn σ b = true
      · rw [if_pos hc, if_pos hc, List.find?_cons]
        cases j with
        | zero =>
          by_cases hq : σ 3 b = e ∧ M ≤ hb σ b (hw σ h p)
          · have : isJ σ s h e M (p.length + (0 + 1)) (p ++ [b]) = true := decide_eq_true ⟨by rw [cw_snoc]; exact hq.1, by rw [hw_snoc]; exact hq.2, by simp⟩
            rw [this]
            unfold gf
            rw [if_pos hq]
            rfl
          · have : isJ σ s h e M (p.length + (0 + 1)) (p ++ [b]) = false := decide_eq_false (fun q => hq ⟨by have := q.1; rwa [cw_snoc] at this, by have := q.2.1; rwa [hw_snoc] at this⟩)
            rw [this]
            unfold gf
            rw [if_neg hq]
            dsimp only
            rw [List.find?_eq_none.mpr (fun q hq => ?_)]
            · rfl
            · obtain ⟨t, et, _, t1, _⟩ := wdfs_sound σ f _ _ q hq
              unfold isJ
              simp only [decide_eq_true_eq]
              intro hh
              have h9 : (p ++ [b] ++ t).length = p.length + (0 + 1) := by rw [← et]; exact hh.2.2
              rw [List.length_append, List.length_append] at h9
              simp only [List.length_cons, List.length_nil] at h9
              omega
        | succ j =>
          have : isJ σ s h e M (p.length + (j + 1 + 1)) (p ++ [b]) = false := decide_eq_false (fun q => by have := q.2.2; simp at this)
          rw [this]
          dsimp only
          have ih := wdfs_find σ s h e M f j (p ++ [b]) (by omega)
          rw [cw_snoc, hw_snoc, show (p ++ [b]).length + (j + 1) = p.length + (j + 1 + 1) by simp; omega] at ih
          rw [ih, Option.map_map]
          congr 1
          funext t
          simp
      · rw [if_neg hc, if_neg hc]
        rfl
    have fsm : ∀ {α β : Type} (g : α → β) (F : Nat → Option α) (n : Nat), fs (fun b => (F b).map g) n = (fs F n).map g := by
      intro α β g F n
      induction n with
      | zero => rfl
      | succ n ih =>
        unfold fs
        rw [ih]
        cases fs F n with
        | none => rfl
        | some r => rfl
    rw [show (fun b => List.find? (isJ σ s h e M (p.length + (j + 1))) (if σ 1 b = cw σ s p ∧ opn σ b = true then (p ++ [b]) :: wdfs σ f (σ 3 b) (p ++ [b]) else [])) = fun b => Option.map (p ++ ·) (if σ 1 b = cw σ s p ∧ opn σ b = true then (gf σ e M j (σ 3 b) (hb σ b (hw σ h p))).map (b :: ·) else none) from funext key, fsm]
theorem find_congr {α : Type} {p q : α → Bool} : ∀ {l : List α}, (∀ x ∈ l, p x = q x) → l.find? p = l.find? q
  | [], _ => rfl
  | a :: l, h => by
    rw [List.find?_cons, List.find?_cons, h a List.mem_cons_self, find_congr (fun x hx => h x (List.mem_cons_of_mem _ hx))]
/-- the best walk is the one that is gone board by board -/
theorem walk_gf {σ : Sg} {s h e L : Nat} {r : List Nat} (hr : mwalk σ s h e L = some r) : r.length ≤ L ∧ Way σ s r e ∧ gf σ e (hw σ h r) r.length s h = some r := by
  rw [mwalk_wb] at hr
  obtain ⟨_, w2⟩ := wb_spec σ s h e _ (allW σ s L) rfl
  obtain ⟨a1, a2, a3⟩ := w2 r hr
  obtain ⟨wr, hrl⟩ := allW_end.mp a1
  refine ⟨hrl, wr, ?_⟩
  have e1 : (allW σ s L).find? (isK σ s h e r) = (allW σ s L).find? (isJ σ s h e (hw σ h r) r.length) := find_congr (fun q hq => by
    unfold isK isJ
    apply Bool.eq_iff_iff.mpr
    simp only [decide_eq_true_eq]
    constructor
    · rintro ⟨z1, z2, z3⟩; exact ⟨z1, by omega, z3⟩
    · rintro ⟨z1, z2, z3⟩
      have := a2 q hq z1
      unfold bt at this
      exact ⟨z1, by omega, z3⟩)
  rw [e1] at a3
  cases hlen : r.length with
  | zero =>
    have : r = [] := List.length_eq_zero_iff.mp hlen
    subst this
    unfold gf
    rw [if_pos ⟨wr, Nat.le_refl _⟩]
  | succ j =>
    unfold allW at a3
    rw [List.find?_cons] at a3
    have : isJ σ s h e (hw σ h r) r.length [] = false := decide_eq_false (fun q => by have := q.2.2; simp at this; omega)
    rw [this] at a3
    dsimp only at a3
    have hf := wdfs_find σ s h e (hw σ h r) L j [] (by omega)
    rw [show ([] : List Nat).length + (j + 1) = r.length by simp; omega] at hf
    rw [show cw σ s [] = s from rfl, show hw σ h [] = h from rfl] at hf
    rw [hf] at a3
    simpa using a3
/-- needed heaps -/
abbrev NV : Nat := 1000000000
def nda (σ : Sg) (b v : Nat) : Nat := if v = NV then NV else if Nat.min 1000000 (σ 7 b) / σ 2 b < v / ub σ b + (if v % ub σ b = 0 then 0 else 1) then NV else (v / ub σ b + (if v % ub σ b = 0 then 0 else 1)) * σ 2 b
def ndP (σ : Sg) (g : Nat → Nat) : Nat → Nat → Nat
  | 0 => fun _ => NV
  | b + 1 => if opn σ b = true then updN (ndP σ g b) (σ 1 b) (Nat.min (ndP σ g b (σ 1 b)) (nda σ b (g (σ 3 b)))) else ndP σ g b
def nd (σ : Sg) (e M : Nat) : Nat → Nat → Nat
  | 0 => fun c => if c = e then M else NV
  | d + 1 => ndP σ (nd σ e M d) (σ 0 0)
theorem ceil_le {v u w : Nat} (hu : 0 < u) : v / u + (if v % u = 0 then 0 else 1) ≤ w ↔ v ≤ w * u := by
  have h1 := Nat.div_add_mod v u
  have h2 := Nat.mod_lt v hu
  rw [Nat.mul_comm] at h1
  split
  · rename_i h3
    rw [h3, Nat.add_zero] at h1
    rw [Nat.add_zero]
    constructor
    · intro h
      rw [← h1]; exact Nat.mul_le_mul_right _ h
    · intro h
      rw [← h1] at h
      exact Nat.le_of_mul_le_mul_right h hu
  · rename_i h3
    constructor
    · intro h
      have := Nat.mul_le_mul_right u h
      rw [Nat.add_mul, Nat.one_mul] at this
      omega
    · intro h
      rcases Nat.lt_or_ge (v / u) w with q | q
      · exact q
      · have := Nat.mul_le_mul_right u q
        omega
theorem nda_iff {σ : Sg} (hO : Ok σ) {b v h : Nat} (hbn : b < σ 0 0) (hv : v ≤ NV) (hh : h < NV) : nda σ b v ≤ h ↔ v ≤ hb σ b h := by
  have hbb := Ok_b hO (j := b) (by have := hO.1; omega)
  have hbp := Ok_p hO hbn
  have hu : 0 < ub σ b := upR_pos _ _
  have hle := hb_le hO (b := b) (by have := hO.1; omega) h
  have hm : Nat.min 1000000 (σ 7 b) = σ 7 b := Nat.min_eq_right (by omega)
  unfold nda
  rw [hm]
  by_cases h1 : v = NV
  · rw [if_pos h1, h1]
    constructor
    · intro q; omega
    · intro q; exact absurd q (by show ¬ 1000000000 ≤ _; omega)
  · rw [if_neg h1, hb_min, ← ceil_le hu]
    generalize v / ub σ b + (if v % ub σ b = 0 then 0 else 1) = w
    rw [Nat.le_div_iff_mul_le (by omega : 0 < σ 2 b)]
    by_cases h2 : σ 7 b / σ 2 b < w
    · rw [if_pos h2]
      have h3 : σ 7 b < w * σ 2 b := (Nat.div_lt_iff_lt_mul (by omega)).mp h2
      have h4 : Nat.min h (σ 7 b) ≤ σ 7 b := Nat.min_le_right _ _
      constructor
      · intro q; omega
      · intro q; omega
    · rw [if_neg h2]
      have h3 : w * σ 2 b ≤ σ 7 b := (Nat.le_div_iff_mul_le (by omega)).mp (by omega)
      constructor
      · intro q; exact Nat.le_min.mpr ⟨q, h3⟩
      · intro q; exact Nat.le_trans q (Nat.min_le_left _ _)
theorem nda_le (σ : Sg) {b v : Nat} (hO : Ok σ) (hbn : b < σ 0 0) : nda σ b v ≤ NV := by
  have hbb := Ok_b hO (j := b) (by have := hO.1; omega)
  have hbp := Ok_p hO hbn
  unfold nda
  by_cases h0 : v = NV
  · rw [if_pos h0]; exact Nat.le_refl _
  · rw [if_neg h0]
    generalize v / ub σ b + (if v % ub σ b = 0 then 0 else 1) = w
    by_cases h2 : Nat.min 1000000 (σ 7 b) / σ 2 b < w
    · rw [if_pos h2]; exact Nat.le_refl _
    · rw [if_neg h2]
      have : Nat.min 1000000 (σ 7 b) ≤ 1000000 := Nat.min_le_left _ _
      have h3 := (Nat.le_div_iff_mul_le (show 0 < σ 2 b by omega)).mp (Nat.not_lt.mp h2)
      show _ ≤ 1000000000
      omega
theorem ndP_le {σ : Sg} (hO : Ok σ) (g : Nat → Nat) : ∀ m, m ≤ σ 0 0 → ∀ c, ndP σ g m c ≤ NV
  | 0, _ => fun _ => Nat.le_refl _
  | m + 1, hm => fun c => by
    have ih := ndP_le hO g m (by omega)
    unfold ndP
    split
    · by_cases ec : c = σ 1 m
      · rw [ec, updN_s]; exact Nat.le_trans (Nat.min_le_left _ _) (ih _)
      · rw [updN_o ec]; exact ih c
    · exact ih c
theorem nd_le {σ : Sg} (hO : Ok σ) {e M : Nat} (hM : M ≤ NV) : ∀ d c, nd σ e M d c ≤ NV
  | 0, c => by unfold nd; split; exact hM; exact Nat.le_refl _
  | d + 1, c => ndP_le hO _ _ (Nat.le_refl _) c
theorem ndP_iff {σ : Sg} {g : Nat → Nat} {h : Nat} (hh : h < NV) : ∀ m c, ndP σ g m c ≤ h ↔ ∃ b, b < m ∧ σ 1 b = c ∧ opn σ b = true ∧ nda σ b (g (σ 3 b)) ≤ h
  | 0, c => by
    constructor
    · intro q; exact absurd q (by show ¬ NV ≤ h; omega)
    · rintro ⟨b, hb, _⟩; omega
  | m + 1, c => by
    have ih := ndP_iff (σ := σ) (g := g) hh m
    unfold ndP
    by_cases ho : opn σ m = true
    · rw [if_pos ho]
      by_cases ec : c = σ 1 m
      · rw [ec, updN_s]
        constructor
        · intro q
          rcases (show ndP σ g m (σ 1 m) ≤ h ∨ nda σ m (g (σ 3 m)) ≤ h from by rcases Nat.le_total (ndP σ g m (σ 1 m)) (nda σ m (g (σ 3 m))) with z | z; exact Or.inl (by rw [show Nat.min _ _ = _ from Nat.min_eq_left z] at q; exact q); exact Or.inr (by rw [show Nat.min _ _ = _ from Nat.min_eq_right z] at q; exact q)) with z | z
          · obtain ⟨b, h1, h2⟩ := (ih _).mp z
            exact ⟨b, by omega, h2⟩
          · exact ⟨m, by omega, rfl, ho, z⟩
        · rintro ⟨b, h1, h2, h3, h4⟩
          by_cases eb : b = m
          · subst eb; exact Nat.le_trans (Nat.min_le_right _ _) h4
          · exact Nat.le_trans (Nat.min_le_left _ _) ((ih _).mpr ⟨b, by omega, h2, h3, h4⟩)
      · rw [updN_o ec, ih]
        constructor
        · rintro ⟨b, h1, h2⟩; exact ⟨b, by omega, h2⟩
        · rintro ⟨b, h1, h2, h3⟩
          refine ⟨b, ?_, h2, h3⟩
          rcases Nat.lt_or_ge b m with q | q
          · exact q
          · have : b = m := by omega
            rw [this] at h2
            exact absurd h2.symm ec
    · rw [if_neg ho, ih]
      constructor
      · rintro ⟨b, h1, h2⟩; exact ⟨b, by omega, h2⟩
      · rintro ⟨b, h1, h2, h3, h4⟩
        refine ⟨b, ?_, h2, h3, h4⟩
        rcases Nat.lt_or_ge b m with q | q
        · exact q
        · have : b = m := by omega
          rw [this] at h3
          exact absurd h3 ho
theorem nd_iff {σ : Sg} (hO : Ok σ) {e M : Nat} (hM : M < NV) : ∀ d c h, h < NV → (nd σ e M d c ≤ h ↔ (gf σ e M d c h).isSome = true)
  | 0, c, h, hh => by
    unfold nd gf
    by_cases ec : c = e
    · rw [if_pos ec]
      by_cases q : M ≤ h
      · rw [if_pos ⟨ec, q⟩]; simp [q]
      · rw [if_neg (fun z => q z.2)]; simp [q]
    · rw [if_neg ec, if_neg (fun z => ec z.1)]
      constructor
      · intro q; exact absurd q (by show ¬ 1000000000 ≤ h; omega)
      · intro q; cases q
  | d + 1, c, h, hh => by
    rw [gf_is]
    show ndP σ (nd σ e M d) (σ 0 0) c ≤ h ↔ _
    rw [ndP_iff hh]
    constructor
    · rintro ⟨b, h1, h2, h3, h4⟩
      refine ⟨b, h1, h2, h3, ?_⟩
      have := (nda_iff hO h1 (nd_le hO (Nat.le_of_lt hM) d _) hh).mp h4
      exact (nd_iff hO hM d _ _ (by have := hb_le hO (b := b) (by have := hO.1; omega) h; show _ < 1000000000; omega)).mp this
    · rintro ⟨b, h1, h2, h3, h4⟩
      refine ⟨b, h1, h2, h3, ?_⟩
      have := (nd_iff hO hM d _ _ (by have := hb_le hO (b := b) (by have := hO.1; omega) h; show _ < 1000000000; omega)).mpr h4
      exact (nda_iff hO h1 (nd_le hO (Nat.le_of_lt hM) d _) hh).mpr this
