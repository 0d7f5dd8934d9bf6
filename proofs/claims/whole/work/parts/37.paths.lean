/-! WALKS over open boards; simple ones; rounds and simple walks are all found -/
def Way (σ : Sg) : Nat → List Nat → Nat → Prop
  | c, [], e => c = e
  | c, b :: t, e => (b < σ 0 0 ∧ opn σ b = true ∧ σ 1 b = c) ∧ Way σ (σ 3 b) t e
theorem Way_app {σ : Sg} : ∀ {p : List Nat} {c m e : Nat} {q : List Nat}, Way σ c p m → Way σ m q e → Way σ c (p ++ q) e
  | [], c, m, e, q, h1, h2 => by rw [show c = m from h1]; exact h2
  | b :: t, c, m, e, q, h1, h2 => ⟨h1.1, Way_app h1.2 h2⟩
theorem Way_split {σ : Sg} : ∀ {p : List Nat} {c e : Nat} {q : List Nat}, Way σ c (p ++ q) e → ∃ m, Way σ c p m ∧ Way σ m q e
  | [], c, e, q, h => ⟨c, rfl, h⟩
  | b :: t, c, e, q, h => by
    obtain ⟨m, h1, h2⟩ := Way_split h.2
    exact ⟨m, ⟨h.1, h1⟩, h2⟩
theorem Way_ok {σ : Sg} : ∀ {p : List Nat} {c e : Nat}, Way σ c p e → okP σ p
  | [], _, _, _ => fun x hx => absurd hx List.not_mem_nil
  | b :: t, c, e, h => fun x hx => by
    rcases List.mem_cons.mp hx with q | q
    · rw [q]; exact h.1.1
    · exact Way_ok h.2 x q
theorem Way_fun {σ : Sg} : ∀ {p : List Nat} {c e e' : Nat}, Way σ c p e → Way σ c p e' → e = e'
  | [], c, e, e', h, h' => (show c = e from h).symm.trans h'
  | b :: t, c, e, e', h, h' => Way_fun h.2 h'.2
/-- where a walk ends -/
theorem Way_last {σ : Sg} : ∀ {p : List Nat} {c e : Nat}, Way σ c p e → e ∈ c :: p.map (σ 3)
  | [], c, e, h => by rw [show c = e from h]; exact List.mem_cons_self
  | b :: t, c, e, h => by
    have := Way_last h.2
    exact List.mem_cons_of_mem _ this
theorem Way_coin {σ : Sg} (hO : Ok σ) {p : List Nat} {c e : Nat} (h : Way σ c p e) : ∀ x ∈ p.map (σ 3), x < 8 := fun x hx => by
  obtain ⟨b, hb, e1⟩ := List.mem_map.mp hx
  rw [← e1]
  exact (Ok_b hO (Nat.lt_of_lt_of_le (Way_ok h b hb) hO.1)).2.2.1
/-- a coin on a walk: the walk comes there -/
theorem Way_at {σ : Sg} : ∀ {p : List Nat} {c e y : Nat}, Way σ c p e → y ∈ c :: p.map (σ 3) → ∃ q r, p = q ++ r ∧ Way σ c q y ∧ Way σ y r e
  | [], c, e, y, h, hy => by
    have : y = c := by simpa using hy
    rw [this]
    exact ⟨[], [], rfl, rfl, h⟩
  | b :: t, c, e, y, h, hy => by
    rcases List.mem_cons.mp hy with q | q
    · rw [q]; exact ⟨[], b :: t, rfl, rfl, h⟩
    · obtain ⟨q1, r1, e1, h1, h2⟩ := Way_at h.2 (show y ∈ σ 3 b :: t.map (σ 3) from q)
      exact ⟨b :: q1, r1, by rw [e1]; rfl, ⟨h.1, h1⟩, h2⟩
theorem nd_len {n : Nat} {r : List Nat} (h : r.Nodup) (hn : ∀ x ∈ r, x < n) : r.length ≤ n := by
  have key : ∀ {r : List Nat}, r.Nodup → (∀ x ∈ r, x < n) → cnt (bitsP r).testBit n = r.length := by
    intro r
    induction r with
    | nil =>
      intro _ _
      have : ∀ m, cnt (bitsP []).testBit m = 0 := by
        intro m
        induction m with
        | zero => rfl
        | succ m ih => unfold cnt; rw [ih]; simp [bitsP]
      exact this n
    | cons b r ih =>
      intro hd hb
      have hd' := List.nodup_cons.mp hd
      show cnt (2 ^ b ||| bitsP r).testBit n = r.length + 1
      rw [Nat.or_comm, cnt_or (hb b List.mem_cons_self), ih hd'.2 (fun x hx => hb x (List.mem_cons_of_mem _ hx))]
      rw [Bool.eq_false_iff]
      intro q
      exact hd'.1 ((bitsP_mem r b).mp q)
  rw [← key h hn]
  exact cnt_le _ n
/-- simple walks have at most seven boards -/
theorem Way_7 {σ : Sg} (hO : Ok σ) {p : List Nat} {c e : Nat} (hc : c < 8) (h : Way σ c p e) (hn : (c :: p.map (σ 3)).Nodup) : p.length ≤ 7 := by
  have := nd_len (n := 8) hn (fun x hx => by
    rcases List.mem_cons.mp hx with q | q
    · rw [q]; exact hc
    · exact Way_coin hO h x q)
  simp at this
  omega
/-- the search finds every round that is told from its least coin -/
theorem dfs_in (σ : Sg) (s : Nat) : ∀ (f c seen : Nat) (p t : List Nat), t.length ≤ f → Way σ c t s → ¬ t = [] → (∀ x ∈ t.dropLast, s < σ 3 x ∧ seen.testBit (σ 3 x) = false) → (t.dropLast.map (σ 3)).Nodup → p ++ t ∈ dfs σ s f c seen p
  | 0, c, seen, p, t, hl, _, hne, _, _ => absurd (List.length_eq_zero_iff.mp (by omega)) hne
  | f + 1, c, seen, p, [], _, _, hne, _, _ => absurd rfl hne
  | f + 1, c, seen, p, [b], _, hw, _, _, _ => by
    unfold dfs
    refine List.mem_flatMap.mpr ⟨b, List.mem_range.mpr hw.1.1, ?_⟩
    rw [if_pos ⟨hw.1.2.2, hw.1.2.1⟩, if_pos (show σ 3 b = s from hw.2)]
    exact List.mem_singleton.mpr rfl
  | f + 1, c, seen, p, b :: b' :: t, hl, hw, _, h1, h2 => by
    have hb := h1 b (by simp)
    unfold dfs
    refine List.mem_flatMap.mpr ⟨b, List.mem_range.mpr hw.1.1, ?_⟩
    rw [if_pos ⟨hw.1.2.2, hw.1.2.1⟩, if_neg (by omega), if_pos hb]
    have h2' := List.nodup_cons.mp (show (σ 3 b :: (b' :: t).dropLast.map (σ 3)).Nodup from h2)
    have := dfs_in σ s f (σ 3 b) (seen ||| 2 ^ σ 3 b) (p ++ [b]) (b' :: t) (by simp at hl ⊢; omega) hw.2 (by simp) (fun x hx => ?_) h2'.2
    · rw [List.append_assoc] at this
      exact this
    · have hx' := h1 x (by show x ∈ b :: (b' :: t).dropLast; exact List.mem_cons_of_mem _ hx)
      refine ⟨hx'.1, ?_⟩
      rw [tb_or, hx'.2, Bool.false_or]
      simp only [decide_eq_false_iff_not]
      intro e
      exact h2'.1 (by rw [e]; exact List.mem_map_of_mem hx)
theorem rot_up (g : Nat → Nat) (f : Nat) (a b : List Nat) : pUp g f (a ++ b) = pUp g f a * pUp g f b := by
  unfold pUp
  rw [List.map_append, prodL_app]
theorem rot_low (σ : Sg) (a b : List Nat) : pLow σ (a ++ b) = pLow σ a * pLow σ b := by
  unfold pLow
  rw [List.map_append, prodL_app]
theorem min_mem : ∀ (l : List Nat), ¬ l = [] → ∃ m, m ∈ l ∧ ∀ x ∈ l, m ≤ x
  | [], h => absurd rfl h
  | [a], _ => ⟨a, by simp, by simp⟩
  | a :: b :: l, _ => by
    obtain ⟨m, h1, h2⟩ := min_mem (b :: l) (by simp)
    by_cases q : a ≤ m
    · refine ⟨a, by simp, fun x hx => ?_⟩
      rcases List.mem_cons.mp hx with e | e
      · omega
      · have := h2 x e; omega
    · refine ⟨m, List.mem_cons_of_mem _ h1, fun x hx => ?_⟩
      rcases List.mem_cons.mp hx with e | e
      · omega
      · exact h2 x e
/-- a simple round from anywhere stands among the rounds, turned -/
theorem cyc_rot {σ : Sg} (hO : Ok σ) {v : Nat} {r : List Nat} (hw : Way σ v r v) (hne : ¬ r = []) (hn : (r.map (σ 3)).Nodup) : ∃ a b, r = a ++ b ∧ b ++ a ∈ rnds σ := by
  obtain ⟨m, hm1, hm2⟩ := min_mem (r.map (σ 3)) (by simpa using hne)
  -- split behind the board that gives m
  obtain ⟨x, hx, ex⟩ := List.mem_map.mp hm1
  obtain ⟨a0, b0, e0⟩ := List.append_of_mem hx
  refine ⟨a0 ++ [x], b0, by rw [e0]; simp, ?_⟩
  have e1 : r = (a0 ++ [x]) ++ b0 := by rw [e0]; simp
  rw [e1] at hw
  obtain ⟨y, w1, w2⟩ := Way_split hw
  have hy : y = m := by
    obtain ⟨z, _, w4⟩ := Way_split w1
    exact (show σ 3 x = y from w4.2).symm.trans ex
  subst hy
  have hc := Way_app w2 w1
  have hm8 : y < 8 := Way_coin hO hw y (by rw [← e1]; exact hm1)
  have hnd : ((b0 ++ a0).map (σ 3) ++ [y]).Nodup := by
    rw [e0] at hn
    have hp : (r.map (σ 3)).Perm ((b0 ++ a0).map (σ 3) ++ [y]) := by
      rw [e0, ← ex]
      simp only [List.map_append, List.map_cons, List.append_assoc]
      have h1 : (a0.map (σ 3) ++ σ 3 x :: b0.map (σ 3)).Perm (σ 3 x :: b0.map (σ 3) ++ a0.map (σ 3)) := List.perm_append_comm
      have h2 : (σ 3 x :: b0.map (σ 3) ++ a0.map (σ 3)).Perm ((b0.map (σ 3) ++ a0.map (σ 3)) ++ [σ 3 x]) := by
        have := List.perm_append_comm (l₁ := [σ 3 x]) (l₂ := b0.map (σ 3) ++ a0.map (σ 3))
        simpa using this
      have := h1.trans h2
      simpa using this
    rw [← e0] at hn
    exact hp.nodup_iff.mp hn
  have hdl : (b0 ++ (a0 ++ [x])).dropLast = b0 ++ a0 := by
    rw [← List.append_assoc, List.dropLast_concat]
  have hnd' := List.nodup_append.mp hnd
  unfold rnds
  refine List.mem_flatMap.mpr ⟨y, List.mem_range.mpr hm8, ?_⟩
  have := dfs_in σ y 8 y (2 ^ y) [] (b0 ++ (a0 ++ [x])) ?_ hc (by simp) (fun z hz => ?_) (by rw [hdl]; exact hnd'.1)
  · simpa using this
  · have := nd_len (n := 8) hnd (fun z hz => by
      rcases List.mem_append.mp hz with q | q
      · obtain ⟨w, hw1, hw2⟩ := List.mem_map.mp q
        rw [← hw2]
        refine (Ok_b hO (Nat.lt_of_lt_of_le (Way_ok hc w ?_) hO.1)).2.2.1
        rw [← List.append_assoc]
        exact List.mem_append_left _ hw1
      · rw [List.mem_singleton.mp q]; exact hm8)
    simp at this ⊢
    omega
  · rw [hdl] at hz
    have hzm : σ 3 z ∈ (b0 ++ a0).map (σ 3) := List.mem_map_of_mem hz
    have hne2 : ¬ σ 3 z = y := fun q => hnd'.2.2 (σ 3 z) hzm y (by simp) q
    have hge : y ≤ σ 3 z := hm2 _ (by
      rw [e0]
      simp only [List.map_append, List.mem_append, List.map_cons, List.mem_cons] at hzm ⊢
      rcases hzm with q | q
      · exact Or.inr (Or.inr q)
      · exact Or.inl q)
    refine ⟨by omega, ?_⟩
    rw [Nat.testBit_two_pow]
    simp only [decide_eq_false_iff_not]
    intro q
    exact hne2 q.symm
/-- where no round gains, none from anywhere does -/
theorem cyc_le {σ : Sg} (hO : Ok σ) (hG : (Gs σ).length = 0) {v : Nat} {r : List Nat} (hw : Way σ v r v) (hne : ¬ r = []) (hn : (r.map (σ 3)).Nodup) : pUp (σ 4) (σ 0 1) r ≤ pLow σ r := by
  obtain ⟨a, b, e, hm⟩ := cyc_rot hO hw hne hn
  have h1 : ¬ gnF σ (b ++ a) = true := fun q => by
    have : b ++ a ∈ Gs σ := List.mem_filter.mpr ⟨hm, q⟩
    rw [List.length_eq_zero_iff.mp hG] at this
    exact absurd this List.not_mem_nil
  have h2 : ¬ pLow σ (b ++ a) < pUp (σ 4) (σ 0 1) (b ++ a) := fun q => h1 (decide_eq_true q)
  rw [rot_up, rot_low] at h2
  rw [e, rot_up, rot_low, Nat.mul_comm, Nat.mul_comm (pLow σ a)]
  omega
/-- the model's search over simple walks: what it finds, and that it finds all -/
theorem gdfs_sound (σ : Sg) (e : Nat) : ∀ (f c seen : Nat) (p r : List Nat), r ∈ gdfs σ e f c seen p → ∃ t, r = p ++ t ∧ Way σ c t e ∧ (∀ x ∈ t, seen.testBit (σ 3 x) = false) ∧ (t.map (σ 3)).Nodup
  | 0, c, seen, p, r, h => by unfold gdfs at h; exact absurd h List.not_mem_nil
  | f + 1, c, seen, p, r, h => by
    unfold gdfs at h
    obtain ⟨b, hb, h⟩ := List.mem_flatMap.mp h
    have hbn := List.mem_range.mp hb
    by_cases h1 : (σ 1 b = c ∧ opn σ b = true) ∧ seen.testBit (σ 3 b) = false
    · rw [if_pos h1] at h
      by_cases h2 : σ 3 b = e
      · rw [if_pos h2] at h
        exact ⟨[b], List.mem_singleton.mp h, ⟨⟨hbn, h1.1.2, h1.1.1⟩, h2⟩, fun x hx => by rw [List.mem_singleton.mp hx]; exact h1.2, by simp⟩
      · rw [if_neg h2] at h
        obtain ⟨t, e1, t1, t2, t3⟩ := gdfs_sound σ e f _ _ _ r h
        refine ⟨b :: t, by rw [e1]; simp, ⟨⟨hbn, h1.1.2, h1.1.1⟩, t1⟩, fun x hx => ?_, ?_⟩
        · rcases List.mem_cons.mp hx with q | q
          · rw [q]; exact h1.2
          · have := t2 x q
            rw [tb_or] at this
            simp at this
            exact this.1
        · refine List.nodup_cons.mpr ⟨fun q => ?_, t3⟩
          obtain ⟨x, hx, ex⟩ := List.mem_map.mp q
          have := t2 x hx
          rw [tb_or] at this
          simp at this
          exact this.2 ex.symm
    · rw [if_neg h1] at h
      exact absurd h List.not_mem_nil
theorem gdfs_in (σ : Sg) (e : Nat) : ∀ (f c seen : Nat) (p t : List Nat), t.length ≤ f → Way σ c t e → ¬ t = [] → (∀ x ∈ t, seen.testBit (σ 3 x) = false) → (t.map (σ 3)).Nodup → p ++ t ∈ gdfs σ e f c seen p
  | 0, c, seen, p, t, hl, _, hne, _, _ => absurd (List.length_eq_zero_iff.mp (by omega)) hne
  | f + 1, c, seen, p, [], _, _, hne, _, _ => absurd rfl hne
  | f + 1, c, seen, p, [b], _, hw, _, h1, _ => by
    unfold gdfs
    refine List.mem_flatMap.mpr ⟨b, List.mem_range.mpr hw.1.1, ?_⟩
    rw [if_pos ⟨⟨hw.1.2.2, hw.1.2.1⟩, h1 b (by simp)⟩, if_pos (show σ 3 b = e from hw.2)]
    exact List.mem_singleton.mpr rfl
  | f + 1, c, seen, p, b :: b' :: t, hl, hw, _, h1, h2 => by
    have h2' := List.nodup_cons.mp (show (σ 3 b :: (b' :: t).map (σ 3)).Nodup from h2)
    have hbe : ¬ σ 3 b = e := fun q => by
      obtain ⟨_, w⟩ := hw
      have := Way_last w.2
      exact h2'.1 (by rw [q]; exact this)
    unfold gdfs
    refine List.mem_flatMap.mpr ⟨b, List.mem_range.mpr hw.1.1, ?_⟩
    rw [if_pos ⟨⟨hw.1.2.2, hw.1.2.1⟩, h1 b (by simp)⟩, if_neg hbe]
    have := gdfs_in σ e f (σ 3 b) (seen ||| 2 ^ σ 3 b) (p ++ [b]) (b' :: t) (by simp at hl ⊢; omega) hw.2 (by simp) (fun x hx => ?_) h2'.2
    · rw [List.append_assoc] at this
      exact this
    · rw [tb_or, h1 x (List.mem_cons_of_mem _ hx), Bool.false_or]
      simp only [decide_eq_false_iff_not]
      intro q
      exact h2'.1 (by rw [q]; exact List.mem_map_of_mem hx)
/-- a walk made simple -/
theorem Way_simple {σ : Sg} : ∀ {p : List Nat} {c e : Nat}, Way σ c p e → ∃ q, Way σ c q e ∧ (c :: q.map (σ 3)).Nodup
  | [], c, e, h => ⟨[], h, by simp⟩
  | b :: t, c, e, h => by
    obtain ⟨q, h1, h2⟩ := Way_simple h.2
    by_cases hc : c ∈ σ 3 b :: q.map (σ 3)
    · obtain ⟨q1, r1, e1, w1, w2⟩ := Way_at h1 hc
      refine ⟨r1, w2, ?_⟩
      rw [e1, List.map_append] at h2
      have h3 : (σ 3 b :: q1.map (σ 3) ++ r1.map (σ 3)).Nodup := by simpa using h2
      have h4 := List.nodup_append.mp h3
      refine List.nodup_cons.mpr ⟨fun hq => ?_, h4.2.1⟩
      exact h4.2.2 c (Way_last w1) c hq rfl
    · exact ⟨b :: q, ⟨h.1, h1⟩, List.nodup_cons.mpr ⟨hc, h2⟩⟩
