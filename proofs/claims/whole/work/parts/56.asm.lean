/-! THE FIXED WORLD at the loop's start, out of what the two constructors made -/
def LA (h0 hB hS0 hR hY hH hV hw qa qb hM : Nat) (qB qS qR qW qV r r' q7 : Nat → Nat) : List Nat := [h0, hB, qB 0, qB 1, qB 2, qB 3, qB 4, qB 5, qB 6, qB 7, hS0, qS 0, hR, qR 0, qR 1, qR 2, qR 3, qR 4, hY, qW 0, qW 1, qW 2, hH, qa, r 0, r 1, r 2, r 3, r 4, r 5, qb, r' 0, r' 1, r' 2, r' 3, r' 4, r' 5, hV, qV 0, hw, hM, q7 0, q7 1, q7 2, q7 3, q7 4, q7 5, q7 6, q7 7, q7 8, q7 9, q7 10, q7 11, q7 12, q7 13, q7 14, q7 15, q7 16, q7 17, q7 18, q7 19, q7 20, q7 21]
def LC (kB kS kR kW kV k7 : Nat → ClassId) (ka kb kw : ClassId) : List ClassId := [0, 0, kB 0, kB 1, kB 2, kB 3, kB 4, kB 5, kB 6, kB 7, 0, kS 0, 0, kR 0, kR 1, kR 2, kR 3, kR 4, 0, kW 0, kW 1, kW 2, 0, ka, kB 0, kB 0, kB 0, kB 0, kB 0, kB 0, kb, kB 0, kB 0, kB 0, kB 0, kB 0, kB 0, 0, kV 0, kw, 0, k7 0, k7 1, k7 2, k7 3, k7 4, k7 5, k7 6, k7 7, k7 8, k7 9, k7 10, k7 11, k7 12, k7 13, k7 14, k7 15, k7 16, k7 17, k7 18, k7 19, k7 20, k7 21]
def adL (b s0 s1 : Nat) (l : List Nat) (n : Nat) : Nat := if n = 1002 then b else if n = 1000 then s0 else if n = 1001 then s1 else l.getD n 0
def mu0 (f f7 : Nat → Int32) : Mem := (fun k => if k = 9 then (upd (upd (upd (fun _ => 0) (0 : Int32).toNatClampNeg 0) (1 : Int32).toNatClampNeg 0) (2 : Int32).toNatClampNeg 1) else if k = 39 then f else if k = 48 then (upd (fun _ => 0) (2 : Int32).toNatClampNeg 1) else if k = 50 then f7 else fun _ => 0, fun _ _ => 0)
theorem asm_e23 (b s0 s1 : Nat) (h0 hB hS0 hR hY hH hV hw qa qb hM : Nat) (qB qS qR qW qV r r' q7 : Nat → Nat) : (fun j => if j < 6 then some (adL b s0 s1 (LA h0 hB hS0 hR hY hH hV hw qa qb hM qB qS qR qW qV r r' q7) (24 + j)) else none) = (fun i => if i < 6 then some (r i) else none) := by
  funext j
  match j with
  | 0 => rfl
  | 1 => rfl
  | 2 => rfl
  | 3 => rfl
  | 4 => rfl
  | 5 => rfl
  | n + 6 => rw [if_neg (by omega), if_neg (by omega)]
theorem asm_e30 (b s0 s1 : Nat) (h0 hB hS0 hR hY hH hV hw qa qb hM : Nat) (qB qS qR qW qV r r' q7 : Nat → Nat) : (fun j => if j < 6 then some (adL b s0 s1 (LA h0 hB hS0 hR hY hH hV hw qa qb hM qB qS qR qW qV r r' q7) (31 + j)) else none) = (fun i => if i < 6 then some (r' i) else none) := by
  funext j
  match j with
  | 0 => rfl
  | 1 => rfl
  | 2 => rfl
  | 3 => rfl
  | 4 => rfl
  | 5 => rfl
  | n + 6 => rw [if_neg (by omega), if_neg (by omega)]
set_option maxHeartbeats 4000000 in
set_option maxRecDepth 100000 in
theorem asm_at (b s0 s1 : Nat) (h0 hB hS0 hR hY hH hV hw qa qb hM : Nat) (qB qS qR qW qV r r' q7 : Nat → Nat) (kB kS kR kW kV k7 : Nat → ClassId) (ka kb kw : ClassId) (f f7 : Nat → Int32) : ∀ k, k < 63 → (([] ++ w_X6 h0 hB hS0 hR hY hH hV hw qa qb qB qS qR qW qV r r' kB kS kR kW kV ka kb kw f) ++ w_X7 hM q7 k7 f7)[k]? = some (adL b s0 s1 (LA h0 hB hS0 hR hY hH hV hw qa qb hM qB qS qR qW qV r r' q7) k, ce (adL b s0 s1 (LA h0 hB hS0 hR hY hH hV hw qa qb hM qB qS qR qW qV r r' q7)) (gC (LC kB kS kR kW kV k7 ka kb kw)) (mu0 f f7) k) := by
  intro k hk
  match k, hk with
  | 0, _ => rfl
  | 1, _ => rfl
  | 2, _ => rfl
  | 3, _ => rfl
  | 4, _ => rfl
  | 5, _ => rfl
  | 6, _ => rfl
  | 7, _ => rfl
  | 8, _ => rfl
  | 9, _ => rfl
  | 10, _ => rfl
  | 11, _ => rfl
  | 12, _ => rfl
  | 13, _ => rfl
  | 14, _ => rfl
  | 15, _ => rfl
  | 16, _ => rfl
  | 17, _ => rfl
  | 18, _ => rfl
  | 19, _ => rfl
  | 20, _ => rfl
  | 21, _ => rfl
  | 22, _ => rfl
  | 23, _ =>
    show some _ = some (qa, Sum.inl (ka, 6, Sum.inr (Sum.inr (Sum.inr (Sum.inr (fun j => if j < 6 then some (adL b s0 s1 (LA h0 hB hS0 hR hY hH hV hw qa qb hM qB qS qR qW qV r r' q7) (24 + j)) else none))))))
    rw [asm_e23]
  | 24, _ => rfl
  | 25, _ => rfl
  | 26, _ => rfl
  | 27, _ => rfl
  | 28, _ => rfl
  | 29, _ => rfl
  | 30, _ =>
    show some _ = some (qb, Sum.inl (kb, 6, Sum.inr (Sum.inr (Sum.inr (Sum.inr (fun j => if j < 6 then some (adL b s0 s1 (LA h0 hB hS0 hR hY hH hV hw qa qb hM qB qS qR qW qV r r' q7) (31 + j)) else none))))))
    rw [asm_e30]
  | 31, _ => rfl
  | 32, _ => rfl
  | 33, _ => rfl
  | 34, _ => rfl
  | 35, _ => rfl
  | 36, _ => rfl
  | 37, _ => rfl
  | 38, _ => rfl
  | 39, _ => rfl
  | 40, _ => rfl
  | 41, _ => rfl
  | 42, _ => rfl
  | 43, _ => rfl
  | 44, _ => rfl
  | 45, _ => rfl
  | 46, _ => rfl
  | 47, _ => rfl
  | 48, _ => rfl
  | 49, _ => rfl
  | 50, _ => rfl
  | 51, _ => rfl
  | 52, _ => rfl
  | 53, _ => rfl
  | 54, _ => rfl
  | 55, _ => rfl
  | 56, _ => rfl
  | 57, _ => rfl
  | 58, _ => rfl
  | 59, _ => rfl
  | 60, _ => rfl
  | 61, _ => rfl
  | 62, _ => rfl
  | k + 63, h => exact absurd h (by omega)
set_option maxHeartbeats 4000000 in
set_option maxRecDepth 100000 in
theorem asm_K {D : va_G} {s : State} (kB kS kR kW kV k7 : Nat → ClassId) (ka kb kw : ClassId) (hK : va_K D vwCl (([] ++ t_X6 kB kS kR kW kV ka kb kw) ++ t_X7 k7) s) : ∀ (k t n b : Nat), SHl[k]? = some (.inl (t, n, b)) → ArrOfT s (gC (LC kB kS kR kW kV k7 ka kb kw) k) (tyF t) ∧ va_RA s (gC (LC kB kS kR kW kV k7 ka kb kw) k) (tyF t) := by
  intro k t n b h
  have hk := SHl_lt h
  match k, hk, h with
  | 0, _, h => have h2 : (some (Sum.inr (6, [11, 20, 22, 28, 32, 47, 49])) : Option ShE) = some (Sum.inl (t, n, b)) := h; cases h2
  | 1, _, h => have h2 : (some (Sum.inr (0, [12, 13, 14, 15, 16, 17, 18, 19, 0])) : Option ShE) = some (Sum.inl (t, n, b)) := h; cases h2
  | 2, _, h => have h2 : (some (Sum.inl (0, 12, 0)) : Option ShE) = some (Sum.inl (t, n, b)) := h; cases h2; exact hK.2 0 _ rfl
  | 3, _, h => have h2 : (some (Sum.inl (0, 12, 0)) : Option ShE) = some (Sum.inl (t, n, b)) := h; cases h2; exact hK.2 1 _ rfl
  | 4, _, h => have h2 : (some (Sum.inl (0, 12, 0)) : Option ShE) = some (Sum.inl (t, n, b)) := h; cases h2; exact hK.2 2 _ rfl
  | 5, _, h => have h2 : (some (Sum.inl (0, 12, 0)) : Option ShE) = some (Sum.inl (t, n, b)) := h; cases h2; exact hK.2 3 _ rfl
  | 6, _, h => have h2 : (some (Sum.inl (0, 12, 0)) : Option ShE) = some (Sum.inl (t, n, b)) := h; cases h2; exact hK.2 4 _ rfl
  | 7, _, h => have h2 : (some (Sum.inl (0, 12, 0)) : Option ShE) = some (Sum.inl (t, n, b)) := h; cases h2; exact hK.2 5 _ rfl
  | 8, _, h => have h2 : (some (Sum.inl (0, 12, 0)) : Option ShE) = some (Sum.inl (t, n, b)) := h; cases h2; exact hK.2 6 _ rfl
  | 9, _, h => have h2 : (some (Sum.inl (0, 3, 0)) : Option ShE) = some (Sum.inl (t, n, b)) := h; cases h2; exact hK.2 7 _ rfl
  | 10, _, h => have h2 : (some (Sum.inr (3, [21, 0, 0, 0, 0, 0, 0])) : Option ShE) = some (Sum.inl (t, n, b)) := h; cases h2
  | 11, _, h => have h2 : (some (Sum.inl (2, 80, 0)) : Option ShE) = some (Sum.inl (t, n, b)) := h; cases h2; exact hK.2 8 _ rfl
  | 12, _, h => have h2 : (some (Sum.inr (2, [23, 24, 25, 26, 27, 0, 0, 0])) : Option ShE) = some (Sum.inl (t, n, b)) := h; cases h2
  | 13, _, h => have h2 : (some (Sum.inl (1, 150, 0)) : Option ShE) = some (Sum.inl (t, n, b)) := h; cases h2; exact hK.2 9 _ rfl
  | 14, _, h => have h2 : (some (Sum.inl (1, 150, 0)) : Option ShE) = some (Sum.inl (t, n, b)) := h; cases h2; exact hK.2 10 _ rfl
  | 15, _, h => have h2 : (some (Sum.inl (0, 150, 0)) : Option ShE) = some (Sum.inl (t, n, b)) := h; cases h2; exact hK.2 11 _ rfl
  | 16, _, h => have h2 : (some (Sum.inl (0, 150, 0)) : Option ShE) = some (Sum.inl (t, n, b)) := h; cases h2; exact hK.2 12 _ rfl
  | 17, _, h => have h2 : (some (Sum.inl (0, 12, 0)) : Option ShE) = some (Sum.inl (t, n, b)) := h; cases h2; exact hK.2 13 _ rfl
  | 18, _, h => have h2 : (some (Sum.inr (5, [29, 30, 31])) : Option ShE) = some (Sum.inl (t, n, b)) := h; cases h2
  | 19, _, h => have h2 : (some (Sum.inl (1, 8, 0)) : Option ShE) = some (Sum.inl (t, n, b)) := h; cases h2; exact hK.2 14 _ rfl
  | 20, _, h => have h2 : (some (Sum.inl (1, 8, 0)) : Option ShE) = some (Sum.inl (t, n, b)) := h; cases h2; exact hK.2 15 _ rfl
  | 21, _, h => have h2 : (some (Sum.inl (0, 8, 0)) : Option ShE) = some (Sum.inl (t, n, b)) := h; cases h2; exact hK.2 16 _ rfl
  | 22, _, h => have h2 : (some (Sum.inr (1, [33, 40])) : Option ShE) = some (Sum.inl (t, n, b)) := h; cases h2
  | 23, _, h => have h2 : (some (Sum.inl (3, 6, 24)) : Option ShE) = some (Sum.inl (t, n, b)) := h; cases h2; exact hK.2 17 _ rfl
  | 24, _, h => have h2 : (some (Sum.inl (0, 8, 0)) : Option ShE) = some (Sum.inl (t, n, b)) := h; cases h2; exact hK.2 0 _ rfl
  | 25, _, h => have h2 : (some (Sum.inl (0, 8, 0)) : Option ShE) = some (Sum.inl (t, n, b)) := h; cases h2; exact hK.2 0 _ rfl
  | 26, _, h => have h2 : (some (Sum.inl (0, 8, 0)) : Option ShE) = some (Sum.inl (t, n, b)) := h; cases h2; exact hK.2 0 _ rfl
  | 27, _, h => have h2 : (some (Sum.inl (0, 8, 0)) : Option ShE) = some (Sum.inl (t, n, b)) := h; cases h2; exact hK.2 0 _ rfl
  | 28, _, h => have h2 : (some (Sum.inl (0, 8, 0)) : Option ShE) = some (Sum.inl (t, n, b)) := h; cases h2; exact hK.2 0 _ rfl
  | 29, _, h => have h2 : (some (Sum.inl (0, 8, 0)) : Option ShE) = some (Sum.inl (t, n, b)) := h; cases h2; exact hK.2 0 _ rfl
  | 30, _, h => have h2 : (some (Sum.inl (3, 6, 31)) : Option ShE) = some (Sum.inl (t, n, b)) := h; cases h2; exact hK.2 18 _ rfl
  | 31, _, h => have h2 : (some (Sum.inl (0, 8, 0)) : Option ShE) = some (Sum.inl (t, n, b)) := h; cases h2; exact hK.2 0 _ rfl
  | 32, _, h => have h2 : (some (Sum.inl (0, 8, 0)) : Option ShE) = some (Sum.inl (t, n, b)) := h; cases h2; exact hK.2 0 _ rfl
  | 33, _, h => have h2 : (some (Sum.inl (0, 8, 0)) : Option ShE) = some (Sum.inl (t, n, b)) := h; cases h2; exact hK.2 0 _ rfl
  | 34, _, h => have h2 : (some (Sum.inl (0, 8, 0)) : Option ShE) = some (Sum.inl (t, n, b)) := h; cases h2; exact hK.2 0 _ rfl
  | 35, _, h => have h2 : (some (Sum.inl (0, 8, 0)) : Option ShE) = some (Sum.inl (t, n, b)) := h; cases h2; exact hK.2 0 _ rfl
  | 36, _, h => have h2 : (some (Sum.inl (0, 8, 0)) : Option ShE) = some (Sum.inl (t, n, b)) := h; cases h2; exact hK.2 0 _ rfl
  | 37, _, h => have h2 : (some (Sum.inr (4, [48, 0, 0])) : Option ShE) = some (Sum.inl (t, n, b)) := h; cases h2
  | 38, _, h => have h2 : (some (Sum.inl (0, 12, 0)) : Option ShE) = some (Sum.inl (t, n, b)) := h; cases h2; exact hK.2 19 _ rfl
  | 39, _, h => have h2 : (some (Sum.inl (0, 8, 0)) : Option ShE) = some (Sum.inl (t, n, b)) := h; cases h2; exact hK.2 20 _ rfl
  | 40, _, h => have h2 : (some (Sum.inr (7, [0, 51, 52, 53, 54, 55, 56, 57, 58, 0, 59, 60, 0, 0, 61, 62, 63, 64, 65, 66, 67, 68, 1, 1, 0, 0, 69, 70, 71, 72])) : Option ShE) = some (Sum.inl (t, n, b)) := h; cases h2
  | 41, _, h => have h2 : (some (Sum.inl (0, 12, 0)) : Option ShE) = some (Sum.inl (t, n, b)) := h; cases h2; exact hK.2 21 _ rfl
  | 42, _, h => have h2 : (some (Sum.inl (0, 12, 0)) : Option ShE) = some (Sum.inl (t, n, b)) := h; cases h2; exact hK.2 22 _ rfl
  | 43, _, h => have h2 : (some (Sum.inl (0, 12, 0)) : Option ShE) = some (Sum.inl (t, n, b)) := h; cases h2; exact hK.2 23 _ rfl
  | 44, _, h => have h2 : (some (Sum.inl (0, 12, 0)) : Option ShE) = some (Sum.inl (t, n, b)) := h; cases h2; exact hK.2 24 _ rfl
  | 45, _, h => have h2 : (some (Sum.inl (0, 12, 0)) : Option ShE) = some (Sum.inl (t, n, b)) := h; cases h2; exact hK.2 25 _ rfl
  | 46, _, h => have h2 : (some (Sum.inl (0, 12, 0)) : Option ShE) = some (Sum.inl (t, n, b)) := h; cases h2; exact hK.2 26 _ rfl
  | 47, _, h => have h2 : (some (Sum.inl (0, 12, 0)) : Option ShE) = some (Sum.inl (t, n, b)) := h; cases h2; exact hK.2 27 _ rfl
  | 48, _, h => have h2 : (some (Sum.inl (0, 3, 0)) : Option ShE) = some (Sum.inl (t, n, b)) := h; cases h2; exact hK.2 28 _ rfl
  | 49, _, h => have h2 : (some (Sum.inl (0, 80, 0)) : Option ShE) = some (Sum.inl (t, n, b)) := h; cases h2; exact hK.2 29 _ rfl
  | 50, _, h => have h2 : (some (Sum.inl (0, 8, 0)) : Option ShE) = some (Sum.inl (t, n, b)) := h; cases h2; exact hK.2 30 _ rfl
  | 51, _, h => have h2 : (some (Sum.inl (0, 400, 0)) : Option ShE) = some (Sum.inl (t, n, b)) := h; cases h2; exact hK.2 31 _ rfl
  | 52, _, h => have h2 : (some (Sum.inl (0, 400, 0)) : Option ShE) = some (Sum.inl (t, n, b)) := h; cases h2; exact hK.2 32 _ rfl
  | 53, _, h => have h2 : (some (Sum.inl (0, 3200, 0)) : Option ShE) = some (Sum.inl (t, n, b)) := h; cases h2; exact hK.2 33 _ rfl
  | 54, _, h => have h2 : (some (Sum.inl (1, 400, 0)) : Option ShE) = some (Sum.inl (t, n, b)) := h; cases h2; exact hK.2 34 _ rfl
  | 55, _, h => have h2 : (some (Sum.inl (1, 400, 0)) : Option ShE) = some (Sum.inl (t, n, b)) := h; cases h2; exact hK.2 35 _ rfl
  | 56, _, h => have h2 : (some (Sum.inl (0, 8, 0)) : Option ShE) = some (Sum.inl (t, n, b)) := h; cases h2; exact hK.2 36 _ rfl
  | 57, _, h => have h2 : (some (Sum.inl (1, 9, 0)) : Option ShE) = some (Sum.inl (t, n, b)) := h; cases h2; exact hK.2 37 _ rfl
  | 58, _, h => have h2 : (some (Sum.inl (1, 9, 0)) : Option ShE) = some (Sum.inl (t, n, b)) := h; cases h2; exact hK.2 38 _ rfl
  | 59, _, h => have h2 : (some (Sum.inl (0, 5, 0)) : Option ShE) = some (Sum.inl (t, n, b)) := h; cases h2; exact hK.2 39 _ rfl
  | 60, _, h => have h2 : (some (Sum.inl (0, 6, 0)) : Option ShE) = some (Sum.inl (t, n, b)) := h; cases h2; exact hK.2 40 _ rfl
  | 61, _, h => have h2 : (some (Sum.inl (0, 6, 0)) : Option ShE) = some (Sum.inl (t, n, b)) := h; cases h2; exact hK.2 41 _ rfl
  | 62, _, h => have h2 : (some (Sum.inl (0, 12, 0)) : Option ShE) = some (Sum.inl (t, n, b)) := h; cases h2; exact hK.2 42 _ rfl
  | k + 63, hk, _ => exact absurd hk (by omega)
/-- the numbers at the start: nothing told, a drop of 1, all worths 1 -/
def sg0 : Sg := fun a j => if a = 0 ∧ j = 3 then 1 else if a = 9 then 1 else 0
theorem Ok_sg0 : Ok sg0 := by
  refine ⟨by decide, by decide, by decide, ⟨by decide, by decide⟩, by decide, fun j _ => ?_, fun j h => ?_, fun j h => ?_, fun j _ => ?_⟩
  · simp [sg0]
  · exact absurd h (by simp [sg0])
  · exact absurd h (by simp [sg0])
  · simp [sg0]
theorem XI_0 {f f7 : Nat → Int32} (hf : ∀ j, j < 8 → f j = 1) : XI (mu0 f f7) sg0 := by
  refine ⟨⟨rfl, fun j _ => ?_, fun j _ => ?_, fun j _ => ?_, fun j _ => ?_, fun j _ => ?_, fun j _ => ?_, fun j _ => ?_, by show ((upd (upd (upd (fun _ => 0) (0 : Int32).toNatClampNeg 0) (1 : Int32).toNatClampNeg 0) (2 : Int32).toNatClampNeg 1) : Nat → Int32) 0 = nI (sg0 0 1); decide, by show ((upd (upd (upd (fun _ => 0) (0 : Int32).toNatClampNeg 0) (1 : Int32).toNatClampNeg 0) (2 : Int32).toNatClampNeg 1) : Nat → Int32) 1 = nI (sg0 0 2); decide, by show ((upd (upd (upd (fun _ => 0) (0 : Int32).toNatClampNeg 0) (1 : Int32).toNatClampNeg 0) (2 : Int32).toNatClampNeg 1) : Nat → Int32) 2 = nI (sg0 0 3); decide, rfl, fun j h => ?_, fun j hj => ?_⟩, Or.inl rfl, Or.inl rfl⟩
  · simp [mu0, sg0, nI]
  · simp [mu0, sg0, nI]
  · simp [mu0, sg0, nI]
  · simp [mu0, sg0, nI]
  · simp [mu0, sg0, nI]
  · simp [mu0, sg0, nI]
  · simp [mu0, sg0, nI]
  · exact absurd h (by simp [sg0])
  · have := hf j hj
    simp [mu0, sg0, nI, this]
theorem Ms_0 {f f7 : Nat → Int32} (hf : ∀ j, j < 8 → f7 j = 1) : Ms (mu0 f f7) sg0 := by
  refine ⟨rfl, fun j _ => ?_, fun j _ => ?_, fun j _ => ?_, fun j _ => ?_, fun j _ => ?_, fun j _ => ?_, fun j _ => ?_, by show ((upd (fun _ => 0) (2 : Int32).toNatClampNeg 1) : Nat → Int32) 0 = nI (sg0 0 1); decide, by show ((upd (fun _ => 0) (2 : Int32).toNatClampNeg 1) : Nat → Int32) 1 = nI (sg0 0 2); decide, by show ((upd (fun _ => 0) (2 : Int32).toNatClampNeg 1) : Nat → Int32) 2 = nI (sg0 0 3); decide, rfl, fun j h => ?_, fun j hj => ?_⟩
  · simp [mu0, sg0, nI]
  · simp [mu0, sg0, nI]
  · simp [mu0, sg0, nI]
  · simp [mu0, sg0, nI]
  · simp [mu0, sg0, nI]
  · simp [mu0, sg0, nI]
  · simp [mu0, sg0, nI]
  · exact absurd h (by simp [sg0])
  · have := hf j hj
    simp [mu0, sg0, nI, this]
