abbrev w_X1 (h0 : Nat) (cy : ClassId) (qa qb : Nat) (r r' : Nat → Nat) (ka kb : ClassId) : va_W := [(h0, .inr (1, [.ref qa, .ref qb])), (qa, .inl (ka, 6, .inr (.inr (.inr (.inr (fun i => if i < 6 then some (r i) else none)))))), (r 0, .inl (cy, 8, .inl (fun _ => 0))), (r 1, .inl (cy, 8, .inl (fun _ => 0))), (r 2, .inl (cy, 8, .inl (fun _ => 0))), (r 3, .inl (cy, 8, .inl (fun _ => 0))), (r 4, .inl (cy, 8, .inl (fun _ => 0))), (r 5, .inl (cy, 8, .inl (fun _ => 0))), (qb, .inl (kb, 6, .inr (.inr (.inr (.inr (fun i => if i < 6 then some (r' i) else none)))))), (r' 0, .inl (cy, 8, .inl (fun _ => 0))), (r' 1, .inl (cy, 8, .inl (fun _ => 0))), (r' 2, .inl (cy, 8, .inl (fun _ => 0))), (r' 3, .inl (cy, 8, .inl (fun _ => 0))), (r' 4, .inl (cy, 8, .inl (fun _ => 0))), (r' 5, .inl (cy, 8, .inl (fun _ => 0)))]
abbrev t_X1 (ka kb : ClassId) : List (ClassId × FieldType) := [(ka, .array .int), (kb, .array .int)]
abbrev at_X1 (cy : ClassId) (D : va_G) (A : Nat → Prop) (h0 : Nat) (u : Nat × Nat × (Nat → Nat) × (Nat → Nat) × ClassId × ClassId) (t : State) : Prop := va_P D vwCl (w_X1 h0 cy u.1 u.2.1 u.2.2.1 u.2.2.2.1 u.2.2.2.2.1 u.2.2.2.2.2) t.heap ∧ va_K D vwCl (t_X1 u.2.2.2.2.1 u.2.2.2.2.2) t ∧ va_D A (w_X1 h0 cy u.1 u.2.1 u.2.2.1 u.2.2.2.1 u.2.2.2.2.1 u.2.2.2.2.2)
set_option maxHeartbeats 4000000 in
set_option maxRecDepth 100000 in
/-- Heaps() -/
theorem c_X1 (l : Launch) (D : va_G) (h0 : Nat) (sz : Nat) (cy : ClassId) : Met l yX1_init (Cond.code yX1_init cX1_init 1 none :: lwG) ({ frames := 1, cells := 14, slots := 108, locals := 12 }) (va_Pc [.ref h0] (fun U => U.heap.size = sz ∧ va_P D vwCl [(h0, .inr (1, [.null, .null]))] U.heap ∧ va_K D vwCl [(cy, .int)] U ∧ va_D (fun _ => True) [(h0, .inr (1, [.null, .null]))] ∧ va_AOA .int U)) (va_Qv (fun u : Nat × Nat × (Nat → Nat) × (Nat → Nat) × ClassId × ClassId => True) (at_X1 cy D (va_A [(h0, .inr (1, [.null, .null]))] sz) h0) (va_A [(h0, .inr (1, [.null, .null]))] sz)) 14 108 (va_A [(h0, .inr (1, [.null, .null]))] sz) := by
  refine Met.ofW (cc := cX1_init) (maxL := 1) (ret := none) (by decide) rfl ?_
  intro p e s m args below meth c s₁ B hml hv
  obtain ⟨rfl, hsz, hP, hK, hD0, hO⟩ := hv
  have hx := B.exec
  have hb := B.bytes
  have hr := B.returns
  have hts0 := atoms_spec (ws := Cond.code yX1_init cX1_init 1 none :: lwG) B.pre
  have hts : ∀ w ∈ lwG, w.before _ s = true := fun w hw => hts0 w (List.mem_cons_of_mem _ hw)
  have hown : s.vm.findClass RX1 = some m.cls := findClass_of_methodNamed B.named
  have hin : meth.name = "<init>" := (name_of_methodNamed B.named B.method).1
  subst hsz
  have hD := hD0.self (sz := s.heap.size)
  generalize hAe : va_A [(h0, .inr (1, [.null, .null]))] s.heap.size = A at hD ⊢
  have hA : ∀ q : Nat, s.heap.size ≤ q → A q := fun q h => by rw [← hAe]; exact Or.inr h
  have hS : va_S A s.heap s.heap [] := va_S.rf
  have hl := lv_entry ([.ref h0]) (n := 1) (Nat.le_of_ble_eq_true rfl)
  rw [lg_entry_eq]
  generalize (lg_sl ([.ref h0]) ++ List.replicate (1 - (lg_sl ([.ref h0])).length) Slot.unset).toArray = ls at hl ⊢
  have hl : lv_has ls 1 [(0, .ref h0)] := hl
  refine lv_aload_n hx hb dX1_init_0 rfl (lv_at hl 0 rfl) ?_
  refine W.objInit hx hb hown (hts _ oi_X1) (hts _ oi_inst) (hts _ oi_code) rfl (by rw [hml]; exact hl.1) rfl dX1_init_1 (Nat.le_of_ble_eq_true rfl) (Nat.le_of_ble_eq_true rfl) ?_
  refine W.eq (g2 := F0 m 4 ls []) rfl ?_
  have hcy : s.vm.findClass (FieldType.array .int).toString = some cy := (hK.2 0 _ rfl).2
  refine lv_aload_n hx hb dX1_init_4 rfl (lv_at hl 0 rfl) ?_
  refine lv_bipush (v := 6) hx hb dX1_init_5 (by decide) ?_
  refine lv_bipush (v := 8) hx hb dX1_init_7 (by decide) ?_
  have hP : va_P D vwCl ([(h0, .inr (1, [.null, .null]))] ++ va_pl [] (fun _ => .inr (0, []))) _ := hP
  have hD : va_D A ([(h0, .inr (1, [.null, .null]))] ++ va_pl [] (fun _ => .inr (0, []))) := hD
  refine va_mna (X := [(h0, .inr (1, [.null, .null]))]) (L := []) (f := fun _ => .inr (0, [])) (ty := .int) (cy := cy) (N' := 6) (K' := 8) (z := (8, .inl (fun _ => 0))) hx hb hown (hts _ kl_X1_G') hO (hts _ ac_int) hcy hK hP hD hS hA (by decide) (by decide) (by decide) (by decide) (by decide) (by decide) (by decide) rfl rfl (Nat.le_of_ble_eq_true rfl) (Nat.le_of_ble_eq_true rfl) cell_in dX1_init_9 (fun qa r ka H hi hn hK hP hD hS => ?_)
  rw [← vr_rows (fun _ _ => List.not_mem_nil)] at hP hD
  have hP : va_P D vwCl [(h0, .inr (1, [.null, .null])), (qa, .inl (ka, 6, .inr (.inr (.inr (.inr (fun i => if i < 6 then some (r i) else none)))))), (r 0, .inl (cy, 8, .inl (fun _ => 0))), (r 1, .inl (cy, 8, .inl (fun _ => 0))), (r 2, .inl (cy, 8, .inl (fun _ => 0))), (r 3, .inl (cy, 8, .inl (fun _ => 0))), (r 4, .inl (cy, 8, .inl (fun _ => 0))), (r 5, .inl (cy, 8, .inl (fun _ => 0)))] H := hP
  have hD : va_D A [(h0, .inr (1, [.null, .null])), (qa, .inl (ka, 6, .inr (.inr (.inr (.inr (fun i => if i < 6 then some (r i) else none)))))), (r 0, .inl (cy, 8, .inl (fun _ => 0))), (r 1, .inl (cy, 8, .inl (fun _ => 0))), (r 2, .inl (cy, 8, .inl (fun _ => 0))), (r 3, .inl (cy, 8, .inl (fun _ => 0))), (r 4, .inl (cy, 8, .inl (fun _ => 0))), (r 5, .inl (cy, 8, .inl (fun _ => 0)))] := hD
  refine W.widen (k := 7) (n := 54) (Nat.le_of_ble_eq_true rfl) (Nat.le_of_ble_eq_true rfl) ?_
  refine va_putF (D := D) (ci := 1) (v := .ref qa) (ty := .array (.array .int)) (C := RX1) (T := TX1) (N := 2) hx hb hts inGX1 tyX1 tyX1_ok nmX1 hown hK hP hD hS 0 rfl rfl 0 (by decide) (hts _ cf_X1_11) (fun _ h9 => h9) rfl hin rfl (by decide +kernel) rfl rfl (Nat.le_of_ble_eq_true rfl) dX1_init_13 (fun H locs hP hD hS => ?_)
  have hP : va_P D vwCl [(h0, .inr (1, [.ref qa, .null])), (qa, .inl (ka, 6, .inr (.inr (.inr (.inr (fun i => if i < 6 then some (r i) else none)))))), (r 0, .inl (cy, 8, .inl (fun _ => 0))), (r 1, .inl (cy, 8, .inl (fun _ => 0))), (r 2, .inl (cy, 8, .inl (fun _ => 0))), (r 3, .inl (cy, 8, .inl (fun _ => 0))), (r 4, .inl (cy, 8, .inl (fun _ => 0))), (r 5, .inl (cy, 8, .inl (fun _ => 0)))] H := hP
  have hD : va_D A [(h0, .inr (1, [.ref qa, .null])), (qa, .inl (ka, 6, .inr (.inr (.inr (.inr (fun i => if i < 6 then some (r i) else none)))))), (r 0, .inl (cy, 8, .inl (fun _ => 0))), (r 1, .inl (cy, 8, .inl (fun _ => 0))), (r 2, .inl (cy, 8, .inl (fun _ => 0))), (r 3, .inl (cy, 8, .inl (fun _ => 0))), (r 4, .inl (cy, 8, .inl (fun _ => 0))), (r 5, .inl (cy, 8, .inl (fun _ => 0)))] := hD
  refine lv_aload_n hx hb dX1_init_16 rfl (lv_at hl 0 rfl) ?_
  refine lv_bipush (v := 6) hx hb dX1_init_17 (by decide) ?_
  refine lv_bipush (v := 8) hx hb dX1_init_19 (by decide) ?_
  have hP : va_P D vwCl ([(h0, .inr (1, [.ref qa, .null])), (qa, .inl (ka, 6, .inr (.inr (.inr (.inr (fun i => if i < 6 then some (r i) else none)))))), (r 0, .inl (cy, 8, .inl (fun _ => 0))), (r 1, .inl (cy, 8, .inl (fun _ => 0))), (r 2, .inl (cy, 8, .inl (fun _ => 0))), (r 3, .inl (cy, 8, .inl (fun _ => 0))), (r 4, .inl (cy, 8, .inl (fun _ => 0))), (r 5, .inl (cy, 8, .inl (fun _ => 0)))] ++ va_pl [] (fun _ => .inr (0, []))) _ := hP
  have hD : va_D A ([(h0, .inr (1, [.ref qa, .null])), (qa, .inl (ka, 6, .inr (.inr (.inr (.inr (fun i => if i < 6 then some (r i) else none)))))), (r 0, .inl (cy, 8, .inl (fun _ => 0))), (r 1, .inl (cy, 8, .inl (fun _ => 0))), (r 2, .inl (cy, 8, .inl (fun _ => 0))), (r 3, .inl (cy, 8, .inl (fun _ => 0))), (r 4, .inl (cy, 8, .inl (fun _ => 0))), (r 5, .inl (cy, 8, .inl (fun _ => 0)))] ++ va_pl [] (fun _ => .inr (0, []))) := hD
  refine va_mna (X := [(h0, .inr (1, [.ref qa, .null])), (qa, .inl (ka, 6, .inr (.inr (.inr (.inr (fun i => if i < 6 then some (r i) else none)))))), (r 0, .inl (cy, 8, .inl (fun _ => 0))), (r 1, .inl (cy, 8, .inl (fun _ => 0))), (r 2, .inl (cy, 8, .inl (fun _ => 0))), (r 3, .inl (cy, 8, .inl (fun _ => 0))), (r 4, .inl (cy, 8, .inl (fun _ => 0))), (r 5, .inl (cy, 8, .inl (fun _ => 0)))]) (L := []) (f := fun _ => .inr (0, [])) (ty := .int) (cy := cy) (N' := 6) (K' := 8) (z := (8, .inl (fun _ => 0))) hx hb hown (hts _ kl_X1_G') hO (hts _ ac_int) hcy hK hP hD hS hA (by decide) (by decide) (by decide) (by decide) (by decide) (by decide) (by decide) rfl rfl (Nat.le_of_ble_eq_true rfl) (Nat.le_of_ble_eq_true rfl) cell_in dX1_init_21 (fun qb r' kb H hi hn hK hP hD hS => ?_)
  rw [← vr_rows (fun _ _ => List.not_mem_nil)] at hP hD
  have hP : va_P D vwCl [(h0, .inr (1, [.ref qa, .null])), (qa, .inl (ka, 6, .inr (.inr (.inr (.inr (fun i => if i < 6 then some (r i) else none)))))), (r 0, .inl (cy, 8, .inl (fun _ => 0))), (r 1, .inl (cy, 8, .inl (fun _ => 0))), (r 2, .inl (cy, 8, .inl (fun _ => 0))), (r 3, .inl (cy, 8, .inl (fun _ => 0))), (r 4, .inl (cy, 8, .inl (fun _ => 0))), (r 5, .inl (cy, 8, .inl (fun _ => 0))), (qb, .inl (kb, 6, .inr (.inr (.inr (.inr (fun i => if i < 6 then some (r' i) else none)))))), (r' 0, .inl (cy, 8, .inl (fun _ => 0))), (r' 1, .inl (cy, 8, .inl (fun _ => 0))), (r' 2, .inl (cy, 8, .inl (fun _ => 0))), (r' 3, .inl (cy, 8, .inl (fun _ => 0))), (r' 4, .inl (cy, 8, .inl (fun _ => 0))), (r' 5, .inl (cy, 8, .inl (fun _ => 0)))] H := hP
  have hD : va_D A [(h0, .inr (1, [.ref qa, .null])), (qa, .inl (ka, 6, .inr (.inr (.inr (.inr (fun i => if i < 6 then some (r i) else none)))))), (r 0, .inl (cy, 8, .inl (fun _ => 0))), (r 1, .inl (cy, 8, .inl (fun _ => 0))), (r 2, .inl (cy, 8, .inl (fun _ => 0))), (r 3, .inl (cy, 8, .inl (fun _ => 0))), (r 4, .inl (cy, 8, .inl (fun _ => 0))), (r 5, .inl (cy, 8, .inl (fun _ => 0))), (qb, .inl (kb, 6, .inr (.inr (.inr (.inr (fun i => if i < 6 then some (r' i) else none)))))), (r' 0, .inl (cy, 8, .inl (fun _ => 0))), (r' 1, .inl (cy, 8, .inl (fun _ => 0))), (r' 2, .inl (cy, 8, .inl (fun _ => 0))), (r' 3, .inl (cy, 8, .inl (fun _ => 0))), (r' 4, .inl (cy, 8, .inl (fun _ => 0))), (r' 5, .inl (cy, 8, .inl (fun _ => 0)))] := hD
  refine W.widen (k := 14) (n := 108) (Nat.le_of_ble_eq_true rfl) (Nat.le_of_ble_eq_true rfl) ?_
  refine va_putF (D := D) (ci := 1) (v := .ref qb) (ty := .array (.array .int)) (C := RX1) (T := TX1) (N := 2) hx hb hts inGX1 tyX1 tyX1_ok nmX1 hown hK hP hD hS 0 rfl rfl 1 (by decide) (hts _ cf_X1_16) (fun _ h9 => h9) rfl hin rfl (by decide +kernel) rfl rfl (Nat.le_of_ble_eq_true rfl) dX1_init_25 (fun H locs hP hD hS => ?_)
  have hP : va_P D vwCl [(h0, .inr (1, [.ref qa, .ref qb])), (qa, .inl (ka, 6, .inr (.inr (.inr (.inr (fun i => if i < 6 then some (r i) else none)))))), (r 0, .inl (cy, 8, .inl (fun _ => 0))), (r 1, .inl (cy, 8, .inl (fun _ => 0))), (r 2, .inl (cy, 8, .inl (fun _ => 0))), (r 3, .inl (cy, 8, .inl (fun _ => 0))), (r 4, .inl (cy, 8, .inl (fun _ => 0))), (r 5, .inl (cy, 8, .inl (fun _ => 0))), (qb, .inl (kb, 6, .inr (.inr (.inr (.inr (fun i => if i < 6 then some (r' i) else none)))))), (r' 0, .inl (cy, 8, .inl (fun _ => 0))), (r' 1, .inl (cy, 8, .inl (fun _ => 0))), (r' 2, .inl (cy, 8, .inl (fun _ => 0))), (r' 3, .inl (cy, 8, .inl (fun _ => 0))), (r' 4, .inl (cy, 8, .inl (fun _ => 0))), (r' 5, .inl (cy, 8, .inl (fun _ => 0)))] H := hP
  have hD : va_D A [(h0, .inr (1, [.ref qa, .ref qb])), (qa, .inl (ka, 6, .inr (.inr (.inr (.inr (fun i => if i < 6 then some (r i) else none)))))), (r 0, .inl (cy, 8, .inl (fun _ => 0))), (r 1, .inl (cy, 8, .inl (fun _ => 0))), (r 2, .inl (cy, 8, .inl (fun _ => 0))), (r 3, .inl (cy, 8, .inl (fun _ => 0))), (r 4, .inl (cy, 8, .inl (fun _ => 0))), (r 5, .inl (cy, 8, .inl (fun _ => 0))), (qb, .inl (kb, 6, .inr (.inr (.inr (.inr (fun i => if i < 6 then some (r' i) else none)))))), (r' 0, .inl (cy, 8, .inl (fun _ => 0))), (r' 1, .inl (cy, 8, .inl (fun _ => 0))), (r' 2, .inl (cy, 8, .inl (fun _ => 0))), (r' 3, .inl (cy, 8, .inl (fun _ => 0))), (r' 4, .inl (cy, 8, .inl (fun _ => 0))), (r' 5, .inl (cy, 8, .inl (fun _ => 0)))] := hD
  have hK9 : va_K D vwCl (t_X1 ka kb) s := hK.sub [1, 2] rfl
  have hP9 : va_P D vwCl (w_X1 h0 cy qa qb r r' ka kb) H := hP
  have hD9 : va_D A (w_X1 h0 cy qa qb r r' ka kb) := hD
  exact W.vret hx hb hr (fun t ht hW => ⟨⟨(qa, qb, r, r', ka, kb), rfl, trivial, by rw [ht]; exact hP9, va_K.moved hW.alike hK9, hD9⟩, hS.F ht⟩) hS.2.2 dX1_init_28
abbrev w_X6 (h0 : Nat) (hB hS0 hR hY hH hV hw qa qb : Nat) (qB qS qR qW qV r r' : Nat → Nat) (kB kS kR kW kV : Nat → ClassId) (ka kb kw : ClassId) (f : Nat → Int32) : va_W := (h0, .inr (6, [.ref hB, .ref hS0, .ref hR, .ref hY, .ref hH, .ref hV, .ref hw])) :: (([] ++ w_X0 hB qB kB ++ w_X3 hS0 qS kS ++ w_X2 hR qR kR ++ w_X5 hY qW kW ++ w_X1 hH (kB 0) qa qb r r' ka kb ++ w_X4 hV qV kV) ++ [(hw, .inl (kw, 8, .inl f))])
abbrev t_X6 (kB kS kR kW kV : Nat → ClassId) (ka kb kw : ClassId) : List (ClassId × FieldType) := ([] ++ t_X0 kB ++ t_X3 kS ++ t_X2 kR ++ t_X5 kW ++ t_X1 ka kb ++ t_X4 kV) ++ [(kw, .int)]
def at_X6 (D : va_G) (A : Nat → Prop) (h0 : Nat) (_ : Unit) (t : State) : Prop := ∃ (hB hS0 hR hY hH hV hw qa qb : Nat) (qB qS qR qW qV r r' : Nat → Nat) (kB kS kR kW kV : Nat → ClassId) (ka kb kw : ClassId) (f : Nat → Int32), (∀ j, j < 8 → f j = 1) ∧ va_P D vwCl (w_X6 h0 hB hS0 hR hY hH hV hw qa qb qB qS qR qW qV r r' kB kS kR kW kV ka kb kw f) t.heap ∧ va_K D vwCl (t_X6 kB kS kR kW kV ka kb kw) t ∧ va_D A (w_X6 h0 hB hS0 hR hY hH hV hw qa qb qB qS qR qW qV r r' kB kS kR kW kV ka kb kw f)
set_option maxHeartbeats 4000000 in
set_option maxRecDepth 100000 in
/-- FairBoards() -/
theorem c_X6 (l : Launch) (D : va_G) (h0 : Nat) (sz : Nat) : Met l yX6_init (Cond.code yX6_init cX6_init 2 none :: lwG) ({ frames := 2, cells := 39, slots := 963, locals := 32 }) (va_Pc [.ref h0] (fun U => U.heap.size = sz ∧ va_P D vwCl [(h0, .inr (6, [.null, .null, .null, .null, .null, .null, .null]))] U.heap ∧ va_K D vwCl [] U ∧ va_D (fun _ => True) [(h0, .inr (6, [.null, .null, .null, .null, .null, .null, .null]))] ∧ va_AOA .int U)) (va_Qv (fun u : Unit => True) (at_X6 D (va_A [(h0, .inr (6, [.null, .null, .null, .null, .null, .null, .null]))] sz) h0) (va_A [(h0, .inr (6, [.null, .null, .null, .null, .null, .null, .null]))] sz)) 39 963 (va_A [(h0, .inr (6, [.null, .null, .null, .null, .null, .null, .null]))] sz) := by
  refine Met.ofW (cc := cX6_init) (maxL := 2) (ret := none) (by decide) rfl ?_
  intro p e s m args below meth c s₁ B hml hv
  obtain ⟨rfl, hsz, hP, hK, hD0, hO⟩ := hv
  have hx := B.exec
  have hb := B.bytes
  have hr := B.returns
  have hts0 := atoms_spec (ws := Cond.code yX6_init cX6_init 2 none :: lwG) B.pre
  have hts : ∀ w ∈ lwG, w.before _ s = true := fun w hw => hts0 w (List.mem_cons_of_mem _ hw)
  have hown : s.vm.findClass RX6 = some m.cls := findClass_of_methodNamed B.named
  have hin : meth.name = "<init>" := (name_of_methodNamed B.named B.method).1
  subst hsz
  have hD := hD0.self (sz := s.heap.size)
  generalize hAe : va_A [(h0, .inr (6, [.null, .null, .null, .null, .null, .null, .null]))] s.heap.size = A at hD ⊢
  have hA : ∀ q : Nat, s.heap.size ≤ q → A q := fun q h => by rw [← hAe]; exact Or.inr h
  have hS : va_S A s.heap s.heap [] := va_S.rf
  have hl := lv_entry ([.ref h0]) (n := 2) (Nat.le_of_ble_eq_true rfl)
  rw [lg_entry_eq]
  generalize (lg_sl ([.ref h0]) ++ List.replicate (2 - (lg_sl ([.ref h0])).length) Slot.unset).toArray = ls at hl ⊢
  have hl : lv_has ls 2 [(0, .ref h0)] := hl
  refine lv_aload_n hx hb dX6_init_0 rfl (lv_at hl 0 rfl) ?_
  refine W.objInit hx hb hown (hts _ oi_X6) (hts _ oi_inst) (hts _ oi_code) rfl (by rw [hml]; exact hl.1) rfl dX6_init_1 (Nat.le_of_ble_eq_true rfl) (Nat.le_of_ble_eq_true rfl) ?_
  refine W.eq (g2 := F0 m 4 ls []) rfl ?_
  have hP : va_P D vwCl ((h0, .inr (6, [.null, .null, .null, .null, .null, .null, .null])) :: []) s.heap := hP
  have hD : va_D A ((h0, .inr (6, [.null, .null, .null, .null, .null, .null, .null])) :: []) := hD
  refine lv_aload_n hx hb dX6_init_4 rfl (lv_at hl 0 rfl) ?_
  refine va_new (ci := 0) (fs := [.null, .null, .null, .null, .null, .null, .null, .null, .int 0]) (C := RX0) (T := TX0) (N := 9) hx hb hts inGX0 tyX0 tyX0_ok hown (hts _ kl_X6_9) (hts _ ib_X0) (hts _ ini_X0) hK hP hD hS hA rfl (fun j hj => match j, hj with | 0, _ => rfl | 1, _ => rfl | 2, _ => rfl | 3, _ => rfl | 4, _ => rfl | 5, _ => rfl | 6, _ => rfl | 7, _ => rfl | 8, _ => rfl | j + 9, h => absurd h (by omega)) (Nat.le_of_ble_eq_true rfl) (Nat.le_of_ble_eq_true rfl) dX6_init_5 (fun hB H hP hD hS => ?_)
  have hP : va_P D vwCl (((h0, .inr (6, [.null, .null, .null, .null, .null, .null, .null])) :: []) ++ [(hB, .inr (0, [.null, .null, .null, .null, .null, .null, .null, .null, .int 0]))]) H := hP
  have hD : va_D A (((h0, .inr (6, [.null, .null, .null, .null, .null, .null, .null])) :: []) ++ [(hB, .inr (0, [.null, .null, .null, .null, .null, .null, .null, .null, .int 0]))]) := hD
  refine W.widen (k := 1) (n := 9) (Nat.le_of_ble_eq_true rfl) (Nat.le_of_ble_eq_true rfl) ?_
  refine lv_dup hx hb dX6_init_8 rfl ?_
  have hFc := j_free hD hS hA
  refine va_callv (va_runI (As := []) (rest := [.ref hB, .ref h0]) ⟨hx, hb, hml, hown, hts⟩ (c_X0 l D hB H.size) (cwI 0 hts (lwG_good cd_X0) rfl rfl rfl (hts _ ini_X0) (hts _ nl_X6_11) (hts _ im_X0) rfl (by decide +kernel) ⟨(Nat.le_of_ble_eq_true rfl), (Nat.le_of_ble_eq_true rfl)⟩) ⟨fun a U g mk q => by obtain ⟨q0, q1, qP, qK, qD⟩ := q; exact ⟨q0, q1, qP, va_K.moved (u := U) (U := U.calling g mk a) (Vm.Alike.refl U.vm) qK, qD⟩, fun U hU hW => ⟨rfl, by rw [hU], by rw [hU]; exact j_last hP, va_K.moved hW.alike (hK.sub [] rfl), j_lastD⟩⟩ rfl rfl hl.1 rfl (lv_room (Nat.le_of_ble_eq_true rfl)) dX6_init_9 ⟨(Nat.le_of_ble_eq_true rfl), (Nat.le_of_ble_eq_true rfl)⟩) hS (fun q _ h => hFc q h) hFc (fun u t H1 locs ht hvm hw hB9 hz1 hk1 hS => ?_)
  obtain ⟨qB, kB⟩ := u
  obtain ⟨hP1, hK1, hD1⟩ := hB9
  rw [ht] at hP1
  have hK1 := va_K.moved hvm.symm hK1
  have hKb : va_K D vwCl [(kB 0, .int)] s := hK1.sub [0] rfl
  obtain ⟨hP, hD⟩ := j_join hP hD hk1 hFc hP1 hD1
  have hK := hK.app hK1
  generalize H1 = H at hP hS ⊢
  obtain ⟨Z1, eZ1⟩ : ∃ Z : va_W, Z = [] ++ w_X0 hB qB kB := ⟨_, rfl⟩
  have hP : va_P D vwCl ((h0, .inr (6, [.null, .null, .null, .null, .null, .null, .null])) :: Z1) H := by rw [eZ1]; exact hP
  have hD : va_D A ((h0, .inr (6, [.null, .null, .null, .null, .null, .null, .null])) :: Z1) := by rw [eZ1]; exact hD
  obtain ⟨K1, eK1⟩ : ∃ K : List (ClassId × FieldType), K = [] ++ t_X0 kB := ⟨_, rfl⟩
  have hK : va_K D vwCl K1 s := by rw [eK1]; exact hK
  refine W.widen (k := 9) (n := 96) (Nat.le_of_ble_eq_true rfl) (Nat.le_of_ble_eq_true rfl) ?_
  refine va_putF (D := D) (ci := 6) (v := .ref hB) (ty := .object "FairBoards$Boards") (C := RX6) (T := TX6) (N := 7) hx hb hts inGX6 tyX6 tyX6_ok nmX6 hown hK hP hD hS 0 rfl rfl 0 (by decide) (hts _ cf_X6_12) (fun _ h9 => h9) rfl hin rfl (by decide +kernel) rfl rfl (Nat.le_of_ble_eq_true rfl) dX6_init_12 (fun H locs hP hD hS => ?_)
  have hP : va_P D vwCl ((h0, .inr (6, [.ref hB, .null, .null, .null, .null, .null, .null])) :: Z1) H := hP
  have hD : va_D A ((h0, .inr (6, [.ref hB, .null, .null, .null, .null, .null, .null])) :: Z1) := hD
  refine lv_aload_n hx hb dX6_init_15 rfl (lv_at hl 0 rfl) ?_
  refine va_new (ci := 3) (fs := [.null, .int 0, .int 0, .int 0, .int 0, .int 0, .int 0]) (C := RX3) (T := TX3) (N := 7) hx hb hts inGX3 tyX3 tyX3_ok hown (hts _ kl_X6_16) (hts _ ib_X3) (hts _ ini_X3) hK hP hD hS hA rfl (fun j hj => match j, hj with | 0, _ => rfl | 1, _ => rfl | 2, _ => rfl | 3, _ => rfl | 4, _ => rfl | 5, _ => rfl | 6, _ => rfl | j + 7, h => absurd h (by omega)) (Nat.le_of_ble_eq_true rfl) (Nat.le_of_ble_eq_true rfl) dX6_init_16 (fun hS0 H hP hD hS => ?_)
  have hP : va_P D vwCl (((h0, .inr (6, [.ref hB, .null, .null, .null, .null, .null, .null])) :: Z1) ++ [(hS0, .inr (3, [.null, .int 0, .int 0, .int 0, .int 0, .int 0, .int 0]))]) H := hP
  have hD : va_D A (((h0, .inr (6, [.ref hB, .null, .null, .null, .null, .null, .null])) :: Z1) ++ [(hS0, .inr (3, [.null, .int 0, .int 0, .int 0, .int 0, .int 0, .int 0]))]) := hD
  refine W.widen (k := 10) (n := 103) (Nat.le_of_ble_eq_true rfl) (Nat.le_of_ble_eq_true rfl) ?_
  refine lv_dup hx hb dX6_init_19 rfl ?_
  have hFc := j_free hD hS hA
  refine va_callv (va_runI (As := []) (rest := [.ref hS0, .ref h0]) ⟨hx, hb, hml, hown, hts⟩ (c_X3 l D hS0 H.size) (cwI 0 hts (lwG_good cd_X3) rfl rfl rfl (hts _ ini_X3) (hts _ nl_X6_18) (hts _ im_X3) rfl (by decide +kernel) ⟨(Nat.le_of_ble_eq_true rfl), (Nat.le_of_ble_eq_true rfl)⟩) ⟨fun a U g mk q => by obtain ⟨q0, q1, qP, qK, qD⟩ := q; exact ⟨q0, q1, qP, va_K.moved (u := U) (U := U.calling g mk a) (Vm.Alike.refl U.vm) qK, qD⟩, fun U hU hW => ⟨rfl, by rw [hU], by rw [hU]; exact j_last hP, va_K.moved hW.alike (hK.sub [] rfl), j_lastD⟩⟩ rfl rfl hl.1 rfl (lv_room (Nat.le_of_ble_eq_true rfl)) dX6_init_20 ⟨(Nat.le_of_ble_eq_true rfl), (Nat.le_of_ble_eq_true rfl)⟩) hS (fun q _ h => hFc q h) hFc (fun u t H1 locs ht hvm hw hB9 hz1 hk1 hS => ?_)
  obtain ⟨qS, kS⟩ := u
  obtain ⟨hP1, hK1, hD1⟩ := hB9
  rw [ht] at hP1
  have hK1 := va_K.moved hvm.symm hK1
  obtain ⟨hP, hD⟩ := j_join hP hD hk1 hFc hP1 hD1
  have hK := hK.app hK1
  generalize H1 = H at hP hS ⊢
  obtain ⟨Z2, eZ2⟩ : ∃ Z : va_W, Z = Z1 ++ w_X3 hS0 qS kS := ⟨_, rfl⟩
  have hP : va_P D vwCl ((h0, .inr (6, [.ref hB, .null, .null, .null, .null, .null, .null])) :: Z2) H := by rw [eZ2]; exact hP
  have hD : va_D A ((h0, .inr (6, [.ref hB, .null, .null, .null, .null, .null, .null])) :: Z2) := by rw [eZ2]; exact hD
  obtain ⟨K2, eK2⟩ : ∃ K : List (ClassId × FieldType), K = K1 ++ t_X3 kS := ⟨_, rfl⟩
  have hK : va_K D vwCl K2 s := by rw [eK2]; exact hK
  refine W.widen (k := 11) (n := 183) (Nat.le_of_ble_eq_true rfl) (Nat.le_of_ble_eq_true rfl) ?_
  refine va_putF (D := D) (ci := 6) (v := .ref hS0) (ty := .object "FairBoards$Signs") (C := RX6) (T := TX6) (N := 7) hx hb hts inGX6 tyX6 tyX6_ok nmX6 hown hK hP hD hS 0 rfl rfl 1 (by decide) (hts _ cf_X6_19) (fun _ h9 => h9) rfl hin rfl (by decide +kernel) rfl rfl (Nat.le_of_ble_eq_true rfl) dX6_init_23 (fun H locs hP hD hS => ?_)
  have hP : va_P D vwCl ((h0, .inr (6, [.ref hB, .ref hS0, .null, .null, .null, .null, .null])) :: Z2) H := hP
  have hD : va_D A ((h0, .inr (6, [.ref hB, .ref hS0, .null, .null, .null, .null, .null])) :: Z2) := hD
  refine lv_aload_n hx hb dX6_init_26 rfl (lv_at hl 0 rfl) ?_
  refine va_new (ci := 2) (fs := [.null, .null, .null, .null, .null, .int 0, .int 0, .int 0]) (C := RX2) (T := TX2) (N := 8) hx hb hts inGX2 tyX2 tyX2_ok hown (hts _ kl_X6_23) (hts _ ib_X2) (hts _ ini_X2) hK hP hD hS hA rfl (fun j hj => match j, hj with | 0, _ => rfl | 1, _ => rfl | 2, _ => rfl | 3, _ => rfl | 4, _ => rfl | 5, _ => rfl | 6, _ => rfl | 7, _ => rfl | j + 8, h => absurd h (by omega)) (Nat.le_of_ble_eq_true rfl) (Nat.le_of_ble_eq_true rfl) dX6_init_27 (fun hR H hP hD hS => ?_)
  have hP : va_P D vwCl (((h0, .inr (6, [.ref hB, .ref hS0, .null, .null, .null, .null, .null])) :: Z2) ++ [(hR, .inr (2, [.null, .null, .null, .null, .null, .int 0, .int 0, .int 0]))]) H := hP
  have hD : va_D A (((h0, .inr (6, [.ref hB, .ref hS0, .null, .null, .null, .null, .null])) :: Z2) ++ [(hR, .inr (2, [.null, .null, .null, .null, .null, .int 0, .int 0, .int 0]))]) := hD
  refine W.widen (k := 12) (n := 191) (Nat.le_of_ble_eq_true rfl) (Nat.le_of_ble_eq_true rfl) ?_
  refine lv_dup hx hb dX6_init_30 rfl ?_
  have hFc := j_free hD hS hA
  refine va_callv (va_runI (As := []) (rest := [.ref hR, .ref h0]) ⟨hx, hb, hml, hown, hts⟩ (c_X2 l D hR H.size) (cwI 0 hts (lwG_good cd_X2) rfl rfl rfl (hts _ ini_X2) (hts _ nl_X6_25) (hts _ im_X2) rfl (by decide +kernel) ⟨(Nat.le_of_ble_eq_true rfl), (Nat.le_of_ble_eq_true rfl)⟩) ⟨fun a U g mk q => by obtain ⟨q0, q1, qP, qK, qD⟩ := q; exact ⟨q0, q1, qP, va_K.moved (u := U) (U := U.calling g mk a) (Vm.Alike.refl U.vm) qK, qD⟩, fun U hU hW => ⟨rfl, by rw [hU], by rw [hU]; exact j_last hP, va_K.moved hW.alike (hK.sub [] rfl), j_lastD⟩⟩ rfl rfl hl.1 rfl (lv_room (Nat.le_of_ble_eq_true rfl)) dX6_init_31 ⟨(Nat.le_of_ble_eq_true rfl), (Nat.le_of_ble_eq_true rfl)⟩) hS (fun q _ h => hFc q h) hFc (fun u t H1 locs ht hvm hw hB9 hz1 hk1 hS => ?_)
  obtain ⟨qR, kR⟩ := u
  obtain ⟨hP1, hK1, hD1⟩ := hB9
  rw [ht] at hP1
  have hK1 := va_K.moved hvm.symm hK1
  obtain ⟨hP, hD⟩ := j_join hP hD hk1 hFc hP1 hD1
  have hK := hK.app hK1
  generalize H1 = H at hP hS ⊢
  obtain ⟨Z3, eZ3⟩ : ∃ Z : va_W, Z = Z2 ++ w_X2 hR qR kR := ⟨_, rfl⟩
  have hP : va_P D vwCl ((h0, .inr (6, [.ref hB, .ref hS0, .null, .null, .null, .null, .null])) :: Z3) H := by rw [eZ3]; exact hP
  have hD : va_D A ((h0, .inr (6, [.ref hB, .ref hS0, .null, .null, .null, .null, .null])) :: Z3) := by rw [eZ3]; exact hD
  obtain ⟨K3, eK3⟩ : ∃ K : List (ClassId × FieldType), K = K2 ++ t_X2 kR := ⟨_, rfl⟩
  have hK : va_K D vwCl K3 s := by rw [eK3]; exact hK
  refine W.widen (k := 17) (n := 803) (Nat.le_of_ble_eq_true rfl) (Nat.le_of_ble_eq_true rfl) ?_
  refine va_putF (D := D) (ci := 6) (v := .ref hR) (ty := .object "FairBoards$Rounds") (C := RX6) (T := TX6) (N := 7) hx hb hts inGX6 tyX6 tyX6_ok nmX6 hown hK hP hD hS 0 rfl rfl 2 (by decide) (hts _ cf_X6_26) (fun _ h9 => h9) rfl hin rfl (by decide +kernel) rfl rfl (Nat.le_of_ble_eq_true rfl) dX6_init_34 (fun H locs hP hD hS => ?_)
  have hP : va_P D vwCl ((h0, .inr (6, [.ref hB, .ref hS0, .ref hR, .null, .null, .null, .null])) :: Z3) H := hP
  have hD : va_D A ((h0, .inr (6, [.ref hB, .ref hS0, .ref hR, .null, .null, .null, .null])) :: Z3) := hD
  refine lv_aload_n hx hb dX6_init_37 rfl (lv_at hl 0 rfl) ?_
  refine va_new (ci := 5) (fs := [.null, .null, .null]) (C := RX5) (T := TX5) (N := 3) hx hb hts inGX5 tyX5 tyX5_ok hown (hts _ kl_X6_30) (hts _ ib_X5) (hts _ ini_X5) hK hP hD hS hA rfl (fun j hj => match j, hj with | 0, _ => rfl | 1, _ => rfl | 2, _ => rfl | j + 3, h => absurd h (by omega)) (Nat.le_of_ble_eq_true rfl) (Nat.le_of_ble_eq_true rfl) dX6_init_38 (fun hY H hP hD hS => ?_)
  have hP : va_P D vwCl (((h0, .inr (6, [.ref hB, .ref hS0, .ref hR, .null, .null, .null, .null])) :: Z3) ++ [(hY, .inr (5, [.null, .null, .null]))]) H := hP
  have hD : va_D A (((h0, .inr (6, [.ref hB, .ref hS0, .ref hR, .null, .null, .null, .null])) :: Z3) ++ [(hY, .inr (5, [.null, .null, .null]))]) := hD
  refine W.widen (k := 18) (n := 806) (Nat.le_of_ble_eq_true rfl) (Nat.le_of_ble_eq_true rfl) ?_
  refine lv_dup hx hb dX6_init_41 rfl ?_
  have hFc := j_free hD hS hA
  refine va_callv (va_runI (As := []) (rest := [.ref hY, .ref h0]) ⟨hx, hb, hml, hown, hts⟩ (c_X5 l D hY H.size) (cwI 0 hts (lwG_good cd_X5) rfl rfl rfl (hts _ ini_X5) (hts _ nl_X6_32) (hts _ im_X5) rfl (by decide +kernel) ⟨(Nat.le_of_ble_eq_true rfl), (Nat.le_of_ble_eq_true rfl)⟩) ⟨fun a U g mk q => by obtain ⟨q0, q1, qP, qK, qD⟩ := q; exact ⟨q0, q1, qP, va_K.moved (u := U) (U := U.calling g mk a) (Vm.Alike.refl U.vm) qK, qD⟩, fun U hU hW => ⟨rfl, by rw [hU], by rw [hU]; exact j_last hP, va_K.moved hW.alike (hK.sub [] rfl), j_lastD⟩⟩ rfl rfl hl.1 rfl (lv_room (Nat.le_of_ble_eq_true rfl)) dX6_init_42 ⟨(Nat.le_of_ble_eq_true rfl), (Nat.le_of_ble_eq_true rfl)⟩) hS (fun q _ h => hFc q h) hFc (fun u t H1 locs ht hvm hw hB9 hz1 hk1 hS => ?_)
  obtain ⟨qW, kW⟩ := u
  obtain ⟨hP1, hK1, hD1⟩ := hB9
  rw [ht] at hP1
  have hK1 := va_K.moved hvm.symm hK1
  obtain ⟨hP, hD⟩ := j_join hP hD hk1 hFc hP1 hD1
  have hK := hK.app hK1
  generalize H1 = H at hP hS ⊢
  obtain ⟨Z4, eZ4⟩ : ∃ Z : va_W, Z = Z3 ++ w_X5 hY qW kW := ⟨_, rfl⟩
  have hP : va_P D vwCl ((h0, .inr (6, [.ref hB, .ref hS0, .ref hR, .null, .null, .null, .null])) :: Z4) H := by rw [eZ4]; exact hP
  have hD : va_D A ((h0, .inr (6, [.ref hB, .ref hS0, .ref hR, .null, .null, .null, .null])) :: Z4) := by rw [eZ4]; exact hD
  obtain ⟨K4, eK4⟩ : ∃ K : List (ClassId × FieldType), K = K3 ++ t_X5 kW := ⟨_, rfl⟩
  have hK : va_K D vwCl K4 s := by rw [eK4]; exact hK
  refine W.widen (k := 21) (n := 830) (Nat.le_of_ble_eq_true rfl) (Nat.le_of_ble_eq_true rfl) ?_
  refine va_putF (D := D) (ci := 6) (v := .ref hY) (ty := .object "FairBoards$Ways") (C := RX6) (T := TX6) (N := 7) hx hb hts inGX6 tyX6 tyX6_ok nmX6 hown hK hP hD hS 0 rfl rfl 3 (by decide) (hts _ cf_X6_33) (fun _ h9 => h9) rfl hin rfl (by decide +kernel) rfl rfl (Nat.le_of_ble_eq_true rfl) dX6_init_45 (fun H locs hP hD hS => ?_)
  have hP : va_P D vwCl ((h0, .inr (6, [.ref hB, .ref hS0, .ref hR, .ref hY, .null, .null, .null])) :: Z4) H := hP
  have hD : va_D A ((h0, .inr (6, [.ref hB, .ref hS0, .ref hR, .ref hY, .null, .null, .null])) :: Z4) := hD
  refine lv_aload_n hx hb dX6_init_48 rfl (lv_at hl 0 rfl) ?_
  refine va_new (ci := 1) (fs := [.null, .null]) (C := RX1) (T := TX1) (N := 2) hx hb hts inGX1 tyX1 tyX1_ok hown (hts _ kl_X6_37) (hts _ ib_X1) (hts _ ini_X1) hK hP hD hS hA rfl (fun j hj => match j, hj with | 0, _ => rfl | 1, _ => rfl | j + 2, h => absurd h (by omega)) (Nat.le_of_ble_eq_true rfl) (Nat.le_of_ble_eq_true rfl) dX6_init_49 (fun hH H hP hD hS => ?_)
  have hP : va_P D vwCl (((h0, .inr (6, [.ref hB, .ref hS0, .ref hR, .ref hY, .null, .null, .null])) :: Z4) ++ [(hH, .inr (1, [.null, .null]))]) H := hP
  have hD : va_D A (((h0, .inr (6, [.ref hB, .ref hS0, .ref hR, .ref hY, .null, .null, .null])) :: Z4) ++ [(hH, .inr (1, [.null, .null]))]) := hD
  refine W.widen (k := 22) (n := 832) (Nat.le_of_ble_eq_true rfl) (Nat.le_of_ble_eq_true rfl) ?_
  refine lv_dup hx hb dX6_init_52 rfl ?_
  have hFc := j_free hD hS hA
  refine va_callv (va_runI (As := []) (rest := [.ref hH, .ref h0]) ⟨hx, hb, hml, hown, hts⟩ (c_X1 l D hH H.size (kB 0)) (cwI 0 hts (lwG_good cd_X1) rfl rfl rfl (hts _ ini_X1) (hts _ nl_X6_39) (hts _ im_X1) rfl (by decide +kernel) ⟨(Nat.le_of_ble_eq_true rfl), (Nat.le_of_ble_eq_true rfl)⟩) ⟨fun a U g mk q => by obtain ⟨q0, q1, qP, qK, qD, qO⟩ := q; exact ⟨q0, q1, qP, va_K.moved (u := U) (U := U.calling g mk a) (Vm.Alike.refl U.vm) qK, qD, qO.calling⟩, fun U hU hW => ⟨rfl, by rw [hU], by rw [hU]; exact j_last hP, va_K.moved hW.alike hKb, j_lastD, hO.moved hW.alike⟩⟩ rfl rfl hl.1 rfl (lv_room (Nat.le_of_ble_eq_true rfl)) dX6_init_53 ⟨(Nat.le_of_ble_eq_true rfl), (Nat.le_of_ble_eq_true rfl)⟩) hS (fun q _ h => hFc q h) hFc (fun u t H1 locs ht hvm hw hB9 hz1 hk1 hS => ?_)
  obtain ⟨qa, qb, r, r', ka, kb⟩ := u
  obtain ⟨hP1, hK1, hD1⟩ := hB9
  rw [ht] at hP1
  have hK1 := va_K.moved hvm.symm hK1
  obtain ⟨hP, hD⟩ := j_join hP hD hk1 hFc hP1 hD1
  have hK := hK.app hK1
  generalize H1 = H at hP hS ⊢
  obtain ⟨Z5, eZ5⟩ : ∃ Z : va_W, Z = Z4 ++ w_X1 hH (kB 0) qa qb r r' ka kb := ⟨_, rfl⟩
  have hP : va_P D vwCl ((h0, .inr (6, [.ref hB, .ref hS0, .ref hR, .ref hY, .null, .null, .null])) :: Z5) H := by rw [eZ5]; exact hP
  have hD : va_D A ((h0, .inr (6, [.ref hB, .ref hS0, .ref hR, .ref hY, .null, .null, .null])) :: Z5) := by rw [eZ5]; exact hD
  obtain ⟨K5, eK5⟩ : ∃ K : List (ClassId × FieldType), K = K4 ++ t_X1 ka kb := ⟨_, rfl⟩
  have hK : va_K D vwCl K5 s := by rw [eK5]; exact hK
  refine W.widen (k := 36) (n := 940) (Nat.le_of_ble_eq_true rfl) (Nat.le_of_ble_eq_true rfl) ?_
  refine va_putF (D := D) (ci := 6) (v := .ref hH) (ty := .object "FairBoards$Heaps") (C := RX6) (T := TX6) (N := 7) hx hb hts inGX6 tyX6 tyX6_ok nmX6 hown hK hP hD hS 0 rfl rfl 4 (by decide) (hts _ cf_X6_40) (fun _ h9 => h9) rfl hin rfl (by decide +kernel) rfl rfl (Nat.le_of_ble_eq_true rfl) dX6_init_56 (fun H locs hP hD hS => ?_)
  have hP : va_P D vwCl ((h0, .inr (6, [.ref hB, .ref hS0, .ref hR, .ref hY, .ref hH, .null, .null])) :: Z5) H := hP
  have hD : va_D A ((h0, .inr (6, [.ref hB, .ref hS0, .ref hR, .ref hY, .ref hH, .null, .null])) :: Z5) := hD
  refine lv_aload_n hx hb dX6_init_59 rfl (lv_at hl 0 rfl) ?_
  refine va_new (ci := 4) (fs := [.null, .int 0, .int 0]) (C := RX4) (T := TX4) (N := 3) hx hb hts inGX4 tyX4 tyX4_ok hown (hts _ kl_X6_44) (hts _ ib_X4) (hts _ ini_X4) hK hP hD hS hA rfl (fun j hj => match j, hj with | 0, _ => rfl | 1, _ => rfl | 2, _ => rfl | j + 3, h => absurd h (by omega)) (Nat.le_of_ble_eq_true rfl) (Nat.le_of_ble_eq_true rfl) dX6_init_60 (fun hV H hP hD hS => ?_)
  have hP : va_P D vwCl (((h0, .inr (6, [.ref hB, .ref hS0, .ref hR, .ref hY, .ref hH, .null, .null])) :: Z5) ++ [(hV, .inr (4, [.null, .int 0, .int 0]))]) H := hP
  have hD : va_D A (((h0, .inr (6, [.ref hB, .ref hS0, .ref hR, .ref hY, .ref hH, .null, .null])) :: Z5) ++ [(hV, .inr (4, [.null, .int 0, .int 0]))]) := hD
  refine W.widen (k := 37) (n := 943) (Nat.le_of_ble_eq_true rfl) (Nat.le_of_ble_eq_true rfl) ?_
  refine lv_dup hx hb dX6_init_63 rfl ?_
  have hFc := j_free hD hS hA
  refine va_callv (va_runI (As := []) (rest := [.ref hV, .ref h0]) ⟨hx, hb, hml, hown, hts⟩ (c_X4 l D hV H.size) (cwI 0 hts (lwG_good cd_X4) rfl rfl rfl (hts _ ini_X4) (hts _ nl_X6_46) (hts _ im_X4) rfl (by decide +kernel) ⟨(Nat.le_of_ble_eq_true rfl), (Nat.le_of_ble_eq_true rfl)⟩) ⟨fun a U g mk q => by obtain ⟨q0, q1, qP, qK, qD⟩ := q; exact ⟨q0, q1, qP, va_K.moved (u := U) (U := U.calling g mk a) (Vm.Alike.refl U.vm) qK, qD⟩, fun U hU hW => ⟨rfl, by rw [hU], by rw [hU]; exact j_last hP, va_K.moved hW.alike (hK.sub [] rfl), j_lastD⟩⟩ rfl rfl hl.1 rfl (lv_room (Nat.le_of_ble_eq_true rfl)) dX6_init_64 ⟨(Nat.le_of_ble_eq_true rfl), (Nat.le_of_ble_eq_true rfl)⟩) hS (fun q _ h => hFc q h) hFc (fun u t H1 locs ht hvm hw hB9 hz1 hk1 hS => ?_)
  obtain ⟨qV, kV⟩ := u
  obtain ⟨hP1, hK1, hD1⟩ := hB9
  rw [ht] at hP1
  have hK1 := va_K.moved hvm.symm hK1
  obtain ⟨hP, hD⟩ := j_join hP hD hk1 hFc hP1 hD1
  have hK := hK.app hK1
  generalize H1 = H at hP hS ⊢
  obtain ⟨Z6, eZ6⟩ : ∃ Z : va_W, Z = Z5 ++ w_X4 hV qV kV := ⟨_, rfl⟩
  have hP : va_P D vwCl ((h0, .inr (6, [.ref hB, .ref hS0, .ref hR, .ref hY, .ref hH, .null, .null])) :: Z6) H := by rw [eZ6]; exact hP
  have hD : va_D A ((h0, .inr (6, [.ref hB, .ref hS0, .ref hR, .ref hY, .ref hH, .null, .null])) :: Z6) := by rw [eZ6]; exact hD
  obtain ⟨K6, eK6⟩ : ∃ K : List (ClassId × FieldType), K = K5 ++ t_X4 kV := ⟨_, rfl⟩
  have hK : va_K D vwCl K6 s := by rw [eK6]; exact hK
  refine W.widen (k := 38) (n := 955) (Nat.le_of_ble_eq_true rfl) (Nat.le_of_ble_eq_true rfl) ?_
  refine va_putF (D := D) (ci := 6) (v := .ref hV) (ty := .object "FairBoards$Walkers") (C := RX6) (T := TX6) (N := 7) hx hb hts inGX6 tyX6 tyX6_ok nmX6 hown hK hP hD hS 0 rfl rfl 5 (by decide) (hts _ cf_X6_47) (fun _ h9 => h9) rfl hin rfl (by decide +kernel) rfl rfl (Nat.le_of_ble_eq_true rfl) dX6_init_67 (fun H locs hP hD hS => ?_)
  have hP : va_P D vwCl ((h0, .inr (6, [.ref hB, .ref hS0, .ref hR, .ref hY, .ref hH, .ref hV, .null])) :: Z6) H := hP
  have hD : va_D A ((h0, .inr (6, [.ref hB, .ref hS0, .ref hR, .ref hY, .ref hH, .ref hV, .null])) :: Z6) := hD
  refine lv_aload_n hx hb dX6_init_70 rfl (lv_at hl 0 rfl) ?_
  refine lv_bipush (v := 8) hx hb dX6_init_71 (by decide) ?_
  refine va_newa (atype := .int) (a0 := (8, .inl (fun _ => 0))) (N' := 8) (ty := .int) hx hb (hts _ ac_int) rfl hK hP hD hS hA (fun c9 => cell_i c9 8) (by decide) (by decide) (by decide) (Nat.le_of_ble_eq_true rfl) (Nat.le_of_ble_eq_true rfl) dX6_init_73 (fun hw kw H hK hP hD hS => ?_)
  refine W.widen (k := 39) (n := 963) (Nat.le_of_ble_eq_true rfl) (Nat.le_of_ble_eq_true rfl) ?_
  refine va_putF (D := D) (ci := 6) (v := .ref hw) (ty := .array .int) (C := RX6) (T := TX6) (N := 7) hx hb hts inGX6 tyX6 tyX6_ok nmX6 hown hK hP hD hS 0 rfl rfl 6 (by decide) (hts _ cf_X6_51) (fun _ h9 => h9) rfl hin rfl (by decide +kernel) rfl rfl (Nat.le_of_ble_eq_true rfl) dX6_init_75 (fun H locs hP hD hS => ?_)
  have hP : va_P D vwCl (((h0, .inr (6, [.ref hB, .ref hS0, .ref hR, .ref hY, .ref hH, .ref hV, .ref hw])) :: Z6) ++ [(hw, .inl (kw, 8, .inl (fun _ => 0)))]) H := hP
  have hD : va_D A (((h0, .inr (6, [.ref hB, .ref hS0, .ref hR, .ref hY, .ref hH, .ref hV, .ref hw])) :: Z6) ++ [(hw, .inl (kw, 8, .inl (fun _ => 0)))]) := hD
  refine lv_iconst (v := 0) hx hb dX6_init_78 (by decide) ?_
  refine lv_istore_n (lv' := [(1, .int 0), (0, .ref h0)]) hx hb dX6_init_79 rfl hl (by decide) rfl (fun ls hl => ?_)
  refine lv_iload_n hx hb dX6_init_80 rfl (lv_at hl 0 rfl) ?_
  refine lv_bipush (v := 8) hx hb dX6_init_81 (by decide) ?_
  refine lv_icmp_ge (tgt := 99) hx hb dX6_init_83 (by decide) (fun c9 => absurd c9 (by decide)) (fun _ => ?_)
  refine lv_aload_n hx hb dX6_init_86 rfl (lv_at hl 1 rfl) ?_
  refine va_get (D := D) (ci := 6) (v := .ref hw) (C := RX6) (T := TX6) (N := 7) hx hb hts inGX6 hown hK hP 0 rfl rfl 6 (by decide) (hts _ cf_X6_51) (fun _ h9 => h9) rfl dX6_init_87 ?_
  refine lv_iload_n hx hb dX6_init_90 rfl (lv_at hl 0 rfl) ?_
  refine lv_iconst (v := 1) hx hb dX6_init_91 (by decide) ?_
  refine va_iast hx hb hK hP hD hS (((h0, .inr (6, [.ref hB, .ref hS0, .ref hR, .ref hY, .ref hH, .ref hV, .ref hw])) :: Z6) : va_W).length K6.length j_at t_last (i := 0) (x := 1) (n := 8) (by unfold vp_in; decide) dX6_init_92 (fun H locs hP hD hS => ?_)
  rw [j_set] at hP hD
  have hP : va_P D vwCl (((h0, .inr (6, [.ref hB, .ref hS0, .ref hR, .ref hY, .ref hH, .ref hV, .ref hw])) :: Z6) ++ [(hw, .inl (kw, 8, .inl (upd (fun _ => 0) (0 : Int32).toNatClampNeg 1)))]) H := hP
  have hD : va_D A (((h0, .inr (6, [.ref hB, .ref hS0, .ref hR, .ref hY, .ref hH, .ref hV, .ref hw])) :: Z6) ++ [(hw, .inl (kw, 8, .inl (upd (fun _ => 0) (0 : Int32).toNatClampNeg 1)))]) := hD
  refine lv_iinc (v := 1) (lv' := [(1, .int 1), (0, .ref h0)]) hx hb dX6_init_93 hl (k := 0) rfl (by decide) (by decide) rfl (fun ls hl => ?_)
  refine lv_goto (tgt := 80) hx hb dX6_init_96 (by decide) ?_
  refine lv_iload_n hx hb dX6_init_80 rfl (lv_at hl 0 rfl) ?_
  refine lv_bipush (v := 8) hx hb dX6_init_81 (by decide) ?_
  refine lv_icmp_ge (tgt := 99) hx hb dX6_init_83 (by decide) (fun c9 => absurd c9 (by decide)) (fun _ => ?_)
  refine lv_aload_n hx hb dX6_init_86 rfl (lv_at hl 1 rfl) ?_
  refine va_get (D := D) (ci := 6) (v := .ref hw) (C := RX6) (T := TX6) (N := 7) hx hb hts inGX6 hown hK hP 0 rfl rfl 6 (by decide) (hts _ cf_X6_51) (fun _ h9 => h9) rfl dX6_init_87 ?_
  refine lv_iload_n hx hb dX6_init_90 rfl (lv_at hl 0 rfl) ?_
  refine lv_iconst (v := 1) hx hb dX6_init_91 (by decide) ?_
  refine va_iast hx hb hK hP hD hS (((h0, .inr (6, [.ref hB, .ref hS0, .ref hR, .ref hY, .ref hH, .ref hV, .ref hw])) :: Z6) : va_W).length K6.length j_at t_last (i := 1) (x := 1) (n := 8) (by unfold vp_in; decide) dX6_init_92 (fun H locs hP hD hS => ?_)
  rw [j_set] at hP hD
  have hP : va_P D vwCl (((h0, .inr (6, [.ref hB, .ref hS0, .ref hR, .ref hY, .ref hH, .ref hV, .ref hw])) :: Z6) ++ [(hw, .inl (kw, 8, .inl (upd (upd (fun _ => 0) (0 : Int32).toNatClampNeg 1) (1 : Int32).toNatClampNeg 1)))]) H := hP
  have hD : va_D A (((h0, .inr (6, [.ref hB, .ref hS0, .ref hR, .ref hY, .ref hH, .ref hV, .ref hw])) :: Z6) ++ [(hw, .inl (kw, 8, .inl (upd (upd (fun _ => 0) (0 : Int32).toNatClampNeg 1) (1 : Int32).toNatClampNeg 1)))]) := hD
  refine lv_iinc (v := 2) (lv' := [(1, .int 2), (0, .ref h0)]) hx hb dX6_init_93 hl (k := 0) rfl (by decide) (by decide) rfl (fun ls hl => ?_)
  refine lv_goto (tgt := 80) hx hb dX6_init_96 (by decide) ?_
  refine lv_iload_n hx hb dX6_init_80 rfl (lv_at hl 0 rfl) ?_
  refine lv_bipush (v := 8) hx hb dX6_init_81 (by decide) ?_
  refine lv_icmp_ge (tgt := 99) hx hb dX6_init_83 (by decide) (fun c9 => absurd c9 (by decide)) (fun _ => ?_)
  refine lv_aload_n hx hb dX6_init_86 rfl (lv_at hl 1 rfl) ?_
  refine va_get (D := D) (ci := 6) (v := .ref hw) (C := RX6) (T := TX6) (N := 7) hx hb hts inGX6 hown hK hP 0 rfl rfl 6 (by decide) (hts _ cf_X6_51) (fun _ h9 => h9) rfl dX6_init_87 ?_
  refine lv_iload_n hx hb dX6_init_90 rfl (lv_at hl 0 rfl) ?_
  refine lv_iconst (v := 1) hx hb dX6_init_91 (by decide) ?_
  refine va_iast hx hb hK hP hD hS (((h0, .inr (6, [.ref hB, .ref hS0, .ref hR, .ref hY, .ref hH, .ref hV, .ref hw])) :: Z6) : va_W).length K6.length j_at t_last (i := 2) (x := 1) (n := 8) (by unfold vp_in; decide) dX6_init_92 (fun H locs hP hD hS => ?_)
  rw [j_set] at hP hD
  have hP : va_P D vwCl (((h0, .inr (6, [.ref hB, .ref hS0, .ref hR, .ref hY, .ref hH, .ref hV, .ref hw])) :: Z6) ++ [(hw, .inl (kw, 8, .inl (upd (upd (upd (fun _ => 0) (0 : Int32).toNatClampNeg 1) (1 : Int32).toNatClampNeg 1) (2 : Int32).toNatClampNeg 1)))]) H := hP
  have hD : va_D A (((h0, .inr (6, [.ref hB, .ref hS0, .ref hR, .ref hY, .ref hH, .ref hV, .ref hw])) :: Z6) ++ [(hw, .inl (kw, 8, .inl (upd (upd (upd (fun _ => 0) (0 : Int32).toNatClampNeg 1) (1 : Int32).toNatClampNeg 1) (2 : Int32).toNatClampNeg 1)))]) := hD
  refine lv_iinc (v := 3) (lv' := [(1, .int 3), (0, .ref h0)]) hx hb dX6_init_93 hl (k := 0) rfl (by decide) (by decide) rfl (fun ls hl => ?_)
  refine lv_goto (tgt := 80) hx hb dX6_init_96 (by decide) ?_
  refine lv_iload_n hx hb dX6_init_80 rfl (lv_at hl 0 rfl) ?_
  refine lv_bipush (v := 8) hx hb dX6_init_81 (by decide) ?_
  refine lv_icmp_ge (tgt := 99) hx hb dX6_init_83 (by decide) (fun c9 => absurd c9 (by decide)) (fun _ => ?_)
  refine lv_aload_n hx hb dX6_init_86 rfl (lv_at hl 1 rfl) ?_
  refine va_get (D := D) (ci := 6) (v := .ref hw) (C := RX6) (T := TX6) (N := 7) hx hb hts inGX6 hown hK hP 0 rfl rfl 6 (by decide) (hts _ cf_X6_51) (fun _ h9 => h9) rfl dX6_init_87 ?_
  refine lv_iload_n hx hb dX6_init_90 rfl (lv_at hl 0 rfl) ?_
  refine lv_iconst (v := 1) hx hb dX6_init_91 (by decide) ?_
  refine va_iast hx hb hK hP hD hS (((h0, .inr (6, [.ref hB, .ref hS0, .ref hR, .ref hY, .ref hH, .ref hV, .ref hw])) :: Z6) : va_W).length K6.length j_at t_last (i := 3) (x := 1) (n := 8) (by unfold vp_in; decide) dX6_init_92 (fun H locs hP hD hS => ?_)
  rw [j_set] at hP hD
  have hP : va_P D vwCl (((h0, .inr (6, [.ref hB, .ref hS0, .ref hR, .ref hY, .ref hH, .ref hV, .ref hw])) :: Z6) ++ [(hw, .inl (kw, 8, .inl (upd (upd (upd (upd (fun _ => 0) (0 : Int32).toNatClampNeg 1) (1 : Int32).toNatClampNeg 1) (2 : Int32).toNatClampNeg 1) (3 : Int32).toNatClampNeg 1)))]) H := hP
  have hD : va_D A (((h0, .inr (6, [.ref hB, .ref hS0, .ref hR, .ref hY, .ref hH, .ref hV, .ref hw])) :: Z6) ++ [(hw, .inl (kw, 8, .inl (upd (upd (upd (upd (fun _ => 0) (0 : Int32).toNatClampNeg 1) (1 : Int32).toNatClampNeg 1) (2 : Int32).toNatClampNeg 1) (3 : Int32).toNatClampNeg 1)))]) := hD
  refine lv_iinc (v := 4) (lv' := [(1, .int 4), (0, .ref h0)]) hx hb dX6_init_93 hl (k := 0) rfl (by decide) (by decide) rfl (fun ls hl => ?_)
  refine lv_goto (tgt := 80) hx hb dX6_init_96 (by decide) ?_
  refine lv_iload_n hx hb dX6_init_80 rfl (lv_at hl 0 rfl) ?_
  refine lv_bipush (v := 8) hx hb dX6_init_81 (by decide) ?_
  refine lv_icmp_ge (tgt := 99) hx hb dX6_init_83 (by decide) (fun c9 => absurd c9 (by decide)) (fun _ => ?_)
  refine lv_aload_n hx hb dX6_init_86 rfl (lv_at hl 1 rfl) ?_
  refine va_get (D := D) (ci := 6) (v := .ref hw) (C := RX6) (T := TX6) (N := 7) hx hb hts inGX6 hown hK hP 0 rfl rfl 6 (by decide) (hts _ cf_X6_51) (fun _ h9 => h9) rfl dX6_init_87 ?_
  refine lv_iload_n hx hb dX6_init_90 rfl (lv_at hl 0 rfl) ?_
  refine lv_iconst (v := 1) hx hb dX6_init_91 (by decide) ?_
  refine va_iast hx hb hK hP hD hS (((h0, .inr (6, [.ref hB, .ref hS0, .ref hR, .ref hY, .ref hH, .ref hV, .ref hw])) :: Z6) : va_W).length K6.length j_at t_last (i := 4) (x := 1) (n := 8) (by unfold vp_in; decide) dX6_init_92 (fun H locs hP hD hS => ?_)
  rw [j_set] at hP hD
  have hP : va_P D vwCl (((h0, .inr (6, [.ref hB, .ref hS0, .ref hR, .ref hY, .ref hH, .ref hV, .ref hw])) :: Z6) ++ [(hw, .inl (kw, 8, .inl (upd (upd (upd (upd (upd (fun _ => 0) (0 : Int32).toNatClampNeg 1) (1 : Int32).toNatClampNeg 1) (2 : Int32).toNatClampNeg 1) (3 : Int32).toNatClampNeg 1) (4 : Int32).toNatClampNeg 1)))]) H := hP
  have hD : va_D A (((h0, .inr (6, [.ref hB, .ref hS0, .ref hR, .ref hY, .ref hH, .ref hV, .ref hw])) :: Z6) ++ [(hw, .inl (kw, 8, .inl (upd (upd (upd (upd (upd (fun _ => 0) (0 : Int32).toNatClampNeg 1) (1 : Int32).toNatClampNeg 1) (2 : Int32).toNatClampNeg 1) (3 : Int32).toNatClampNeg 1) (4 : Int32).toNatClampNeg 1)))]) := hD
  refine lv_iinc (v := 5) (lv' := [(1, .int 5), (0, .ref h0)]) hx hb dX6_init_93 hl (k := 0) rfl (by decide) (by decide) rfl (fun ls hl => ?_)
  refine lv_goto (tgt := 80) hx hb dX6_init_96 (by decide) ?_
  refine lv_iload_n hx hb dX6_init_80 rfl (lv_at hl 0 rfl) ?_
  refine lv_bipush (v := 8) hx hb dX6_init_81 (by decide) ?_
  refine lv_icmp_ge (tgt := 99) hx hb dX6_init_83 (by decide) (fun c9 => absurd c9 (by decide)) (fun _ => ?_)
  refine lv_aload_n hx hb dX6_init_86 rfl (lv_at hl 1 rfl) ?_
  refine va_get (D := D) (ci := 6) (v := .ref hw) (C := RX6) (T := TX6) (N := 7) hx hb hts inGX6 hown hK hP 0 rfl rfl 6 (by decide) (hts _ cf_X6_51) (fun _ h9 => h9) rfl dX6_init_87 ?_
  refine lv_iload_n hx hb dX6_init_90 rfl (lv_at hl 0 rfl) ?_
  refine lv_iconst (v := 1) hx hb dX6_init_91 (by decide) ?_
  refine va_iast hx hb hK hP hD hS (((h0, .inr (6, [.ref hB, .ref hS0, .ref hR, .ref hY, .ref hH, .ref hV, .ref hw])) :: Z6) : va_W).length K6.length j_at t_last (i := 5) (x := 1) (n := 8) (by unfold vp_in; decide) dX6_init_92 (fun H locs hP hD hS => ?_)
  rw [j_set] at hP hD
  have hP : va_P D vwCl (((h0, .inr (6, [.ref hB, .ref hS0, .ref hR, .ref hY, .ref hH, .ref hV, .ref hw])) :: Z6) ++ [(hw, .inl (kw, 8, .inl (upd (upd (upd (upd (upd (upd (fun _ => 0) (0 : Int32).toNatClampNeg 1) (1 : Int32).toNatClampNeg 1) (2 : Int32).toNatClampNeg 1) (3 : Int32).toNatClampNeg 1) (4 : Int32).toNatClampNeg 1) (5 : Int32).toNatClampNeg 1)))]) H := hP
  have hD : va_D A (((h0, .inr (6, [.ref hB, .ref hS0, .ref hR, .ref hY, .ref hH, .ref hV, .ref hw])) :: Z6) ++ [(hw, .inl (kw, 8, .inl (upd (upd (upd (upd (upd (upd (fun _ => 0) (0 : Int32).toNatClampNeg 1) (1 : Int32).toNatClampNeg 1) (2 : Int32).toNatClampNeg 1) (3 : Int32).toNatClampNeg 1) (4 : Int32).toNatClampNeg 1) (5 : Int32).toNatClampNeg 1)))]) := hD
  refine lv_iinc (v := 6) (lv' := [(1, .int 6), (0, .ref h0)]) hx hb dX6_init_93 hl (k := 0) rfl (by decide) (by decide) rfl (fun ls hl => ?_)
  refine lv_goto (tgt := 80) hx hb dX6_init_96 (by decide) ?_
  refine lv_iload_n hx hb dX6_init_80 rfl (lv_at hl 0 rfl) ?_
  refine lv_bipush (v := 8) hx hb dX6_init_81 (by decide) ?_
  refine lv_icmp_ge (tgt := 99) hx hb dX6_init_83 (by decide) (fun c9 => absurd c9 (by decide)) (fun _ => ?_)
  refine lv_aload_n hx hb dX6_init_86 rfl (lv_at hl 1 rfl) ?_
  refine va_get (D := D) (ci := 6) (v := .ref hw) (C := RX6) (T := TX6) (N := 7) hx hb hts inGX6 hown hK hP 0 rfl rfl 6 (by decide) (hts _ cf_X6_51) (fun _ h9 => h9) rfl dX6_init_87 ?_
  refine lv_iload_n hx hb dX6_init_90 rfl (lv_at hl 0 rfl) ?_
  refine lv_iconst (v := 1) hx hb dX6_init_91 (by decide) ?_
  refine va_iast hx hb hK hP hD hS (((h0, .inr (6, [.ref hB, .ref hS0, .ref hR, .ref hY, .ref hH, .ref hV, .ref hw])) :: Z6) : va_W).length K6.length j_at t_last (i := 6) (x := 1) (n := 8) (by unfold vp_in; decide) dX6_init_92 (fun H locs hP hD hS => ?_)
  rw [j_set] at hP hD
  have hP : va_P D vwCl (((h0, .inr (6, [.ref hB, .ref hS0, .ref hR, .ref hY, .ref hH, .ref hV, .ref hw])) :: Z6) ++ [(hw, .inl (kw, 8, .inl (upd (upd (upd (upd (upd (upd (upd (fun _ => 0) (0 : Int32).toNatClampNeg 1) (1 : Int32).toNatClampNeg 1) (2 : Int32).toNatClampNeg 1) (3 : Int32).toNatClampNeg 1) (4 : Int32).toNatClampNeg 1) (5 : Int32).toNatClampNeg 1) (6 : Int32).toNatClampNeg 1)))]) H := hP
  have hD : va_D A (((h0, .inr (6, [.ref hB, .ref hS0, .ref hR, .ref hY, .ref hH, .ref hV, .ref hw])) :: Z6) ++ [(hw, .inl (kw, 8, .inl (upd (upd (upd (upd (upd (upd (upd (fun _ => 0) (0 : Int32).toNatClampNeg 1) (1 : Int32).toNatClampNeg 1) (2 : Int32).toNatClampNeg 1) (3 : Int32).toNatClampNeg 1) (4 : Int32).toNatClampNeg 1) (5 : Int32).toNatClampNeg 1) (6 : Int32).toNatClampNeg 1)))]) := hD
  refine lv_iinc (v := 7) (lv' := [(1, .int 7), (0, .ref h0)]) hx hb dX6_init_93 hl (k := 0) rfl (by decide) (by decide) rfl (fun ls hl => ?_)
  refine lv_goto (tgt := 80) hx hb dX6_init_96 (by decide) ?_
  refine lv_iload_n hx hb dX6_init_80 rfl (lv_at hl 0 rfl) ?_
  refine lv_bipush (v := 8) hx hb dX6_init_81 (by decide) ?_
  refine lv_icmp_ge (tgt := 99) hx hb dX6_init_83 (by decide) (fun c9 => absurd c9 (by decide)) (fun _ => ?_)
  refine lv_aload_n hx hb dX6_init_86 rfl (lv_at hl 1 rfl) ?_
  refine va_get (D := D) (ci := 6) (v := .ref hw) (C := RX6) (T := TX6) (N := 7) hx hb hts inGX6 hown hK hP 0 rfl rfl 6 (by decide) (hts _ cf_X6_51) (fun _ h9 => h9) rfl dX6_init_87 ?_
  refine lv_iload_n hx hb dX6_init_90 rfl (lv_at hl 0 rfl) ?_
  refine lv_iconst (v := 1) hx hb dX6_init_91 (by decide) ?_
  refine va_iast hx hb hK hP hD hS (((h0, .inr (6, [.ref hB, .ref hS0, .ref hR, .ref hY, .ref hH, .ref hV, .ref hw])) :: Z6) : va_W).length K6.length j_at t_last (i := 7) (x := 1) (n := 8) (by unfold vp_in; decide) dX6_init_92 (fun H locs hP hD hS => ?_)
  rw [j_set] at hP hD
  have hP : va_P D vwCl (((h0, .inr (6, [.ref hB, .ref hS0, .ref hR, .ref hY, .ref hH, .ref hV, .ref hw])) :: Z6) ++ [(hw, .inl (kw, 8, .inl (upd (upd (upd (upd (upd (upd (upd (upd (fun _ => 0) (0 : Int32).toNatClampNeg 1) (1 : Int32).toNatClampNeg 1) (2 : Int32).toNatClampNeg 1) (3 : Int32).toNatClampNeg 1) (4 : Int32).toNatClampNeg 1) (5 : Int32).toNatClampNeg 1) (6 : Int32).toNatClampNeg 1) (7 : Int32).toNatClampNeg 1)))]) H := hP
  have hD : va_D A (((h0, .inr (6, [.ref hB, .ref hS0, .ref hR, .ref hY, .ref hH, .ref hV, .ref hw])) :: Z6) ++ [(hw, .inl (kw, 8, .inl (upd (upd (upd (upd (upd (upd (upd (upd (fun _ => 0) (0 : Int32).toNatClampNeg 1) (1 : Int32).toNatClampNeg 1) (2 : Int32).toNatClampNeg 1) (3 : Int32).toNatClampNeg 1) (4 : Int32).toNatClampNeg 1) (5 : Int32).toNatClampNeg 1) (6 : Int32).toNatClampNeg 1) (7 : Int32).toNatClampNeg 1)))]) := hD
  refine lv_iinc (v := 8) (lv' := [(1, .int 8), (0, .ref h0)]) hx hb dX6_init_93 hl (k := 0) rfl (by decide) (by decide) rfl (fun ls hl => ?_)
  refine lv_goto (tgt := 80) hx hb dX6_init_96 (by decide) ?_
  refine lv_iload_n hx hb dX6_init_80 rfl (lv_at hl 0 rfl) ?_
  refine lv_bipush (v := 8) hx hb dX6_init_81 (by decide) ?_
  refine lv_icmp_ge (tgt := 99) hx hb dX6_init_83 (by decide) (fun _ => ?_) (fun c9 => absurd (by decide) c9)
  have hP9 : va_P D vwCl (w_X6 h0 hB hS0 hR hY hH hV hw qa qb qB qS qR qW qV r r' kB kS kR kW kV ka kb kw (upd (upd (upd (upd (upd (upd (upd (upd (fun _ => 0) (0 : Int32).toNatClampNeg 1) (1 : Int32).toNatClampNeg 1) (2 : Int32).toNatClampNeg 1) (3 : Int32).toNatClampNeg 1) (4 : Int32).toNatClampNeg 1) (5 : Int32).toNatClampNeg 1) (6 : Int32).toNatClampNeg 1) (7 : Int32).toNatClampNeg 1)) H := by subst eZ6 eZ5 eZ4 eZ3 eZ2 eZ1; exact hP
  have hD9 : va_D A (w_X6 h0 hB hS0 hR hY hH hV hw qa qb qB qS qR qW qV r r' kB kS kR kW kV ka kb kw (upd (upd (upd (upd (upd (upd (upd (upd (fun _ => 0) (0 : Int32).toNatClampNeg 1) (1 : Int32).toNatClampNeg 1) (2 : Int32).toNatClampNeg 1) (3 : Int32).toNatClampNeg 1) (4 : Int32).toNatClampNeg 1) (5 : Int32).toNatClampNeg 1) (6 : Int32).toNatClampNeg 1) (7 : Int32).toNatClampNeg 1)) := by subst eZ6 eZ5 eZ4 eZ3 eZ2 eZ1; exact hD
  have hK9 : va_K D vwCl (t_X6 kB kS kR kW kV ka kb kw) s := by subst eK6 eK5 eK4 eK3 eK2 eK1; exact hK
  exact W.vret hx hb hr (fun t ht hW => ⟨⟨(), rfl, trivial, hB, hS0, hR, hY, hH, hV, hw, qa, qb, qB, qS, qR, qW, qV, r, r', kB, kS, kR, kW, kV, ka, kb, kw, (upd (upd (upd (upd (upd (upd (upd (upd (fun _ => 0) (0 : Int32).toNatClampNeg 1) (1 : Int32).toNatClampNeg 1) (2 : Int32).toNatClampNeg 1) (3 : Int32).toNatClampNeg 1) (4 : Int32).toNatClampNeg 1) (5 : Int32).toNatClampNeg 1) (6 : Int32).toNatClampNeg 1) (7 : Int32).toNatClampNeg 1), f8_ok, by rw [ht]; exact hP9, va_K.moved hW.alike hK9, hD9⟩, hS.F ht⟩) hS.2.2 dX6_init_99
