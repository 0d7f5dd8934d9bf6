theorem nest_in : ∀ q ∈ lwN, Cond.methodLinkNest q.1 q.2.1 q.2.2.1 q.2.2.2 ∈ lw_tbl := by
  intro q hq
  unfold lwN at hq
  simp only [List.mem_cons, List.not_mem_nil, or_false] at hq
  rcases hq with rfl | rfl | rfl | rfl | rfl | rfl | rfl
  · exact List.mem_append_right _ (List.mem_of_getElem? (i := 255) (by decide +kernel))
  · exact List.mem_append_right _ (List.mem_of_getElem? (i := 260) (by decide +kernel))
  · exact List.mem_append_right _ (List.mem_of_getElem? (i := 359) (by decide +kernel))
  · exact List.mem_append_right _ (List.mem_of_getElem? (i := 400) (by decide +kernel))
  · exact List.mem_append_right _ (List.mem_of_getElem? (i := 488) (by decide +kernel))
  · exact List.mem_append_right _ (List.mem_of_getElem? (i := 489) (by decide +kernel))
  · exact List.mem_append_right _ (List.mem_of_getElem? (i := 490) (by decide +kernel))
set_option maxHeartbeats 4000000 in
set_option maxRecDepth 100000 in
/-- THE LAW, from its entry -/
theorem whole_start {p : Program} {e : Env} {s : State} {m : MethodId} {below : List Frame} {meth : Method} {c : Code} (l : Launch) {b L : Nat} {xs : Nat → Int32} (hL : L ≤ 3072) (C0 : lw_At p s m meth c b L xs) : W p l e room_1 s m #[Value.ref b] below meth c s.heap [] 0 0 (lw_Z below #[Value.ref b] s) (entryFrame m ([Value.ref b] : List Value).toArray 4) := by
  obtain ⟨hx, hb, hr, hml, hown0, hts, hX, hbl, hlocks, hgv⟩ := id C0
  have hA : ∀ q : Nat, s.heap.size ≤ q → (fun q : Nat => s.heap.size ≤ q) q := fun _ h => h
  have hbA : ¬ (fun q : Nat => s.heap.size ≤ q) b := Nat.not_le.mpr hbl
  have hb : c.code = cL_law := hb
  have hown : s.vm.findClass RL = some m.cls := hown0
  have htsG : ∀ w ∈ lwG, w.before #[Value.ref b] s = true := fun w hw => hts w (List.mem_filter.mp hw).1
  have hO : va_AOA .int s := fun _ => hts (Cond.arrayOver (.array .int)) (List.mem_append_right _ (List.mem_of_getElem? (i := 173) (by decide +kernel)))
  obtain ⟨c0, i0, hKn0⟩ := u_known (C := RX0) (T := TX0) (N := 9) (n := 9) htsG inGX0 (htsG _ ib_X0)
  obtain ⟨c1, i1, hKn1⟩ := u_known (C := RX1) (T := TX1) (N := 2) (n := 2) htsG inGX1 (htsG _ ib_X1)
  obtain ⟨c2, i2, hKn2⟩ := u_known (C := RX2) (T := TX2) (N := 8) (n := 8) htsG inGX2 (htsG _ ib_X2)
  obtain ⟨c3, i3, hKn3⟩ := u_known (C := RX3) (T := TX3) (N := 7) (n := 7) htsG inGX3 (htsG _ ib_X3)
  obtain ⟨c4, i4, hKn4⟩ := u_known (C := RX4) (T := TX4) (N := 3) (n := 3) htsG inGX4 (htsG _ ib_X4)
  obtain ⟨c5, i5, hKn5⟩ := u_known (C := RX5) (T := TX5) (N := 3) (n := 3) htsG inGX5 (htsG _ ib_X5)
  obtain ⟨c6, i6, hKn6⟩ := u_known (C := RX6) (T := TX6) (N := 7) (n := 7) htsG inGX6 (htsG _ ib_X6)
  obtain ⟨c7, i7, hKn7⟩ := u_known (C := RX7) (T := TX7) (N := 30) (n := 30) htsG inGX7 (htsG _ ib_X7)
  obtain ⟨D, hKc⟩ : ∃ D : va_G, ∀ (k : Nat) (q : vw_C), vwCl[k]? = some q → u_Kn s q.1 q.2.1 q.2.2 (D.1 k) (D.2 k) := by
    refine ⟨(fun k => match k with | 0 => c0 | 1 => c1 | 2 => c2 | 3 => c3 | 4 => c4 | 5 => c5 | 6 => c6 | _ => c7, fun k => match k with | 0 => i0 | 1 => i1 | 2 => i2 | 3 => i3 | 4 => i4 | 5 => i5 | 6 => i6 | _ => i7), ?_⟩
    intro k q hq
    match k, hq with
    | 0, hq => cases hq; exact hKn0
    | 1, hq => cases hq; exact hKn1
    | 2, hq => cases hq; exact hKn2
    | 3, hq => cases hq; exact hKn3
    | 4, hq => cases hq; exact hKn4
    | 5, hq => cases hq; exact hKn5
    | 6, hq => cases hq; exact hKn6
    | 7, hq => cases hq; exact hKn7
    | k + 8, hq => simp [vwCl] at hq
  have hS : va_S (fun q : Nat => s.heap.size ≤ q) s.heap s.heap [] := va_S.rf
  have hK : va_K D vwCl [] s := ⟨hKc, fun k q h => by simp at h⟩
  have hP : va_P D vwCl ([] : va_W) s.heap := fun k q h => by simp at h
  have hD : va_D (fun q : Nat => s.heap.size ≤ q) ([] : va_W) := ⟨fun i j p q h => by simp at h, fun k q h => by simp at h⟩
  have hl := lv_entry ([.ref b]) (n := 4) (Nat.le_of_ble_eq_true rfl)
  rw [lg_entry_eq]
  generalize (lg_sl ([.ref b]) ++ List.replicate (4 - (lg_sl ([.ref b])).length) Slot.unset).toArray = ls at hl ⊢
  have hl : lv_has ls 4 [(0, .ref b)] := hl
  refine va_new (ci := 6) (fs := [.null, .null, .null, .null, .null, .null, .null]) (C := RX6) (T := TX6) (N := 7) hx hb htsG inGX6 tyX6 tyX6_ok hown (htsG _ kl_L_7) (htsG _ ib_X6) (htsG _ ini_X6) hK hP hD hS hA rfl (fun j hj => match j, hj with | 0, _ => rfl | 1, _ => rfl | 2, _ => rfl | 3, _ => rfl | 4, _ => rfl | 5, _ => rfl | 6, _ => rfl | j + 7, h => absurd h (by omega)) (Nat.le_of_ble_eq_true rfl) (Nat.le_of_ble_eq_true rfl) dL_law_0 (fun h0 H hP hD hS => ?_)
  refine W.widen (k := 1) (n := 7) (Nat.le_of_ble_eq_true rfl) (Nat.le_of_ble_eq_true rfl) ?_
  refine lv_dup hx hb dL_law_3 rfl ?_
  have hFc := j_free hD hS hA
  refine va_callv (va_runI (As := []) (rest := [.ref h0]) ⟨hx, hb, hml, hown, htsG⟩ (c_X6 l D h0 H.size) (cwI 0 htsG (lwG_good cd_X6) rfl rfl rfl (htsG _ ini_X6) (htsG _ nl_L_9) (htsG _ im_X6) rfl (by decide +kernel) ⟨(Nat.le_of_ble_eq_true rfl), (Nat.le_of_ble_eq_true rfl)⟩) ⟨fun a U g mk q => by obtain ⟨q0, q1, qP, qK, qD, qO⟩ := q; exact ⟨q0, q1, qP, va_K.moved (u := U) (U := U.calling g mk a) (Vm.Alike.refl U.vm) qK, qD, qO.calling⟩, fun U hU hW => ⟨rfl, by rw [hU], by rw [hU]; exact j_last hP, va_K.moved hW.alike (hK.sub [] rfl), j_lastD, hO.moved hW.alike⟩⟩ rfl rfl hl.1 rfl (lv_room (Nat.le_of_ble_eq_true rfl)) dL_law_4 ⟨(Nat.le_of_ble_eq_true rfl), (Nat.le_of_ble_eq_true rfl)⟩) hS (fun q _ h => hFc q h) hFc (fun u t H1 locs ht hvm hw9 hB9 hz1 hk1 hS => ?_)
  obtain ⟨hB, hS0, hR, hY, hH, hV, hw, qa, qb, qB, qS, qR, qW, qV, r, r', kB, kS, kR, kW, kV, ka, kb, kw, f, hf, hP1, hK1, hD1⟩ := hB9
  rw [ht] at hP1
  have hK1 := va_K.moved hvm.symm hK1
  obtain ⟨hP, hD⟩ := j_join hP hD hk1 hFc hP1 hD1
  have hK := hK.app hK1
  generalize H1 = H at hP hS ⊢
  refine W.widen (k := 40) (n := 970) (Nat.le_of_ble_eq_true rfl) (Nat.le_of_ble_eq_true rfl) ?_
  obtain ⟨Z1, eZ1⟩ : ∃ Z : va_W, Z = [] ++ w_X6 h0 hB hS0 hR hY hH hV hw qa qb qB qS qR qW qV r r' kB kS kR kW kV ka kb kw f := ⟨_, rfl⟩
  have hP : va_P D vwCl Z1 H := by rw [eZ1]; exact hP
  have hD : va_D (fun q : Nat => s.heap.size ≤ q) Z1 := by rw [eZ1]; exact hD
  obtain ⟨K1, eK1⟩ : ∃ K : List (ClassId × FieldType), K = [] ++ t_X6 kB kS kR kW kV ka kb kw := ⟨_, rfl⟩
  have hK : va_K D vwCl K1 s := by rw [eK1]; exact hK
  refine lv_astore_n (lv' := [(1, .ref h0), (0, .ref b)]) hx hb dL_law_7 rfl hl (by decide) rfl (fun ls hl => ?_)
  refine va_new (ci := 7) (fs := [.int 0, .null, .null, .null, .null, .null, .null, .null, .null, .int 0, .null, .null, .int 0, .int 0, .null, .null, .null, .null, .null, .null, .null, .null, .long 0, .long 0, .int 0, .int 0, .null, .null, .null, .null]) (C := RX7) (T := TX7) (N := 30) hx hb htsG inGX7 tyX7 tyX7_ok hown (htsG _ kl_L_10) (htsG _ ib_X7) (htsG _ ini_X7) hK hP hD hS hA rfl (fun j hj => match j, hj with | 0, _ => rfl | 1, _ => rfl | 2, _ => rfl | 3, _ => rfl | 4, _ => rfl | 5, _ => rfl | 6, _ => rfl | 7, _ => rfl | 8, _ => rfl | 9, _ => rfl | 10, _ => rfl | 11, _ => rfl | 12, _ => rfl | 13, _ => rfl | 14, _ => rfl | 15, _ => rfl | 16, _ => rfl | 17, _ => rfl | 18, _ => rfl | 19, _ => rfl | 20, _ => rfl | 21, _ => rfl | 22, _ => rfl | 23, _ => rfl | 24, _ => rfl | 25, _ => rfl | 26, _ => rfl | 27, _ => rfl | 28, _ => rfl | 29, _ => rfl | j + 30, h => absurd h (by omega)) (Nat.le_of_ble_eq_true rfl) (Nat.le_of_ble_eq_true rfl) dL_law_8 (fun hM H hP hD hS => ?_)
  refine W.widen (k := 41) (n := 1000) (Nat.le_of_ble_eq_true rfl) (Nat.le_of_ble_eq_true rfl) ?_
  refine lv_dup hx hb dL_law_11 rfl ?_
  have hFc := j_free hD hS hA
  refine va_callv (va_runI (As := []) (rest := [.ref hM]) ⟨hx, hb, hml, hown, htsG⟩ (c_X7 l D hM H.size) (cwI 0 htsG (lwG_good cd_X7) rfl rfl rfl (htsG _ ini_X7) (htsG _ nl_L_12) (htsG _ im_X7) rfl (by decide +kernel) ⟨(Nat.le_of_ble_eq_true rfl), (Nat.le_of_ble_eq_true rfl)⟩) ⟨fun a U g mk q => by obtain ⟨q0, q1, qP, qK, qD⟩ := q; exact ⟨q0, q1, qP, va_K.moved (u := U) (U := U.calling g mk a) (Vm.Alike.refl U.vm) qK, qD⟩, fun U hU hW => ⟨rfl, by rw [hU], by rw [hU]; exact j_last hP, va_K.moved hW.alike (hK.sub [] rfl), j_lastD⟩⟩ rfl rfl hl.1 rfl (lv_room (Nat.le_of_ble_eq_true rfl)) dL_law_12 ⟨(Nat.le_of_ble_eq_true rfl), (Nat.le_of_ble_eq_true rfl)⟩) hS (fun q _ h => hFc q h) hFc (fun u t H1 locs ht hvm hw9 hB9 hz1 hk1 hS => ?_)
  obtain ⟨q7, k7, f7⟩ := u
  have hf7 : ∀ j, j < 8 → f7 j = 1 := hw9
  obtain ⟨hP1, hK1, hD1⟩ := hB9
  rw [ht] at hP1
  have hK1 := va_K.moved hvm.symm hK1
  obtain ⟨hP, hD⟩ := j_join hP hD hk1 hFc hP1 hD1
  have hK := hK.app hK1
  generalize H1 = H at hP hS ⊢
  refine W.widen (k := 63) (n := 6030) (Nat.le_of_ble_eq_true rfl) (Nat.le_of_ble_eq_true rfl) ?_
  refine lv_astore_n (lv' := [(2, .ref hM), (1, .ref h0), (0, .ref b)]) hx hb dL_law_15 rfl hl (by decide) rfl (fun ls hl => ?_)
  refine lv_iconst (v := 0) hx hb dL_law_16 (by decide) ?_
  refine lv_istore_n (lv' := [(3, .int 0), (2, .ref hM), (1, .ref h0), (0, .ref b)]) hx hb dL_law_17 rfl hl (by decide) rfl (fun ls hl => ?_)
  have hP : va_P D vwCl (([] ++ w_X6 h0 hB hS0 hR hY hH hV hw qa qb qB qS qR qW qV r r' kB kS kR kW kV ka kb kw f) ++ w_X7 hM q7 k7 f7) H := by rw [← eZ1]; exact hP
  have hD : va_D (fun q : Nat => s.heap.size ≤ q) (([] ++ w_X6 h0 hB hS0 hR hY hH hV hw qa qb qB qS qR qW qV r r' kB kS kR kW kV ka kb kw f) ++ w_X7 hM q7 k7 f7) := by rw [← eZ1]; exact hD
  have hK : va_K D vwCl (([] ++ t_X6 kB kS kR kW kV ka kb kw) ++ t_X7 k7) s := by rw [← eK1]; exact hK
  have hflat := flat_of_before _ hgv
  have hN : ∀ a : Nat, a < s.heap.size → ¬ (fun q : Nat => s.heap.size ≤ q) a := fun a h => Nat.not_le.mpr h
  obtain ⟨s0, es0, hT0⟩ := va_Tof (A := fun q : Nat => s.heap.size ≤ q) (tm := .static "FairBoards" "LEAST_SETTING" "[I") (ty := .int) (N := 3) (f := fun j => .int (cst0 j)) (by decide) (hflat _ (by decide +kernel)) (va_eqt (hflat _ (by decide +kernel))) (fun j hj => match j, hj with | 0, _ => va_eqt (hflat _ (by decide +kernel)) | 1, _ => va_eqt (hflat _ (by decide +kernel)) | 2, _ => va_eqt (hflat _ (by decide +kernel)) | j + 3, h => absurd h (by omega)) hN
  obtain ⟨s1, es1, hT1⟩ := va_Tof (A := fun q : Nat => s.heap.size ≤ q) (tm := .static "FairBoards" "GREATEST_SETTING" "[I") (ty := .int) (N := 3) (f := fun j => .int (cst1 j)) (by decide) (hflat _ (by decide +kernel)) (va_eqt (hflat _ (by decide +kernel))) (fun j hj => match j, hj with | 0, _ => va_eqt (hflat _ (by decide +kernel)) | 1, _ => va_eqt (hflat _ (by decide +kernel)) | 2, _ => va_eqt (hflat _ (by decide +kernel)) | j + 3, h => absurd h (by omega)) hN
  have hZ0 := va_Zof (A := fun q : Nat => s.heap.size ≤ q) (hts (.laysStatic "FairBoards" "LEAST_SETTING" "[I") (List.mem_append_right _ (List.mem_of_getElem? (i := 277) (by decide +kernel)))) (htsG _ ini_X6) es0 hN
  have hZ1 := va_Zof (A := fun q : Nat => s.heap.size ≤ q) (hts (.laysStatic "FairBoards" "GREATEST_SETTING" "[I") (List.mem_append_right _ (List.mem_of_getElem? (i := 279) (by decide +kernel)))) (htsG _ ini_X6) es1 hN
  have hE := asm_at b s0 s1 h0 hB hS0 hR hY hH hV hw qa qb hM qB qS qR qW qV r r' q7 kB kS kR kW kV k7 ka kb kw f f7
  have hWk2 := asm_K kB kS kR kW kV k7 ka kb kw hK
  obtain ⟨ad, ead⟩ : ∃ ad : Nat → Nat, ad = adL b s0 s1 (LA h0 hB hS0 hR hY hH hV hw qa qb hM qB qS qR qW qV r r' q7) := ⟨_, rfl⟩
  have a0 : ad 0 = h0 := by rw [ead]; rfl
  have a40 : ad 40 = hM := by rw [ead]; rfl
  have a1000 : ad 1000 = s0 := by rw [ead]; rfl
  have a1001 : ad 1001 = s1 := by rw [ead]; rfl
  have a1002 : ad 1002 = b := by rw [ead]; rfl
  rw [← ead] at hE
  obtain ⟨ca, eca⟩ : ∃ ca : Nat → ClassId, ca = gC (LC kB kS kR kW kV k7 ka kb kw) := ⟨_, rfl⟩
  rw [← eca] at hE hWk2
  have hP' : va_P D vwCl (wsO ad ca (mu0 f f7)) H := fun k q hq => by
    obtain ⟨h1, rfl⟩ := wsO_some hq
    exact hP k _ (hE k h1)
  have hinj : Inj ad := fun i j hi hj h => hD.1 i j _ _ (hE i hi) (hE j hj) h
  have hAad : ∀ k, k < 63 → (fun q : Nat => s.heap.size ≤ q) (ad k) := fun k hk => hD.2 k _ (hE k hk)
  have hWk : Wk D ca s := ⟨hKc, hWk2, fun q hq => ?_⟩
  · have hWst : Wst ad (fun q : Nat => s.heap.size ≤ q) s s.heap := by
      unfold Wst
      rw [a1000, a1001]
      exact ⟨⟨hZ0, hT0⟩, ⟨hZ1, hT1⟩⟩
    have hWsc : Wsc (some (L, xs)) ad (fun q : Nat => s.heap.size ≤ q) s s.heap := by
      show va_X (ad 1002) L xs s s.heap ∧ ad 1002 < s.heap.size ∧ ¬ (fun q : Nat => s.heap.size ≤ q) (ad 1002)
      rw [a1002]
      exact ⟨hX, hbl, hbA⟩
    have hl' : lv_has ls 4 (cvL ad [(0, .ref 1002), (1, .ref 0), (2, .ref 40), (3, .int (nI 0))]) := by
      show lv_has ls 4 [(0, .ref (ad 1002)), (1, .ref (ad 0)), (2, .ref (ad 40)), (3, .int (nI 0))]
      rw [a1002, a0, a40]
      exact lv_sub hl [3, 2, 1, 0] rfl
    have hWP := law_loop (xs := xs) (Q := fun v _ => v = some (.int (nI 1))) hL (fun _ => rfl) (L + 6) 0 sg0 (mu0 f f7) (by omega) Ok_sg0 (XI_0 hf) (Ms_0 hf7)
    refine hWP p l e room_1 s m #[Value.ref b] below meth c D ad ca (fun q : Nat => s.heap.size ≤ q) 63 6030 _ ⟨hx, hb, hml, hown, htsG, hWk, hWst, hinj, hAad, ⟨(Nat.le_of_ble_eq_true rfl), (Nat.le_of_ble_eq_true rfl)⟩, ⟨(Nat.le_of_ble_eq_true rfl), (Nat.le_of_ble_eq_true rfl)⟩, hWsc⟩ (fun v μ' H' locs' pc' la hv hok hP2 hS2 hr2 => ?_) H _ hP' hS ls hl'
    subst hv
    refine va_forget (fun q hq => hS2.2.2 q hq) ?_
    refine W.widen (k := 600000) (n := 7302250) (Nat.le_of_ble_eq_true rfl) (Nat.le_of_ble_eq_true rfl) ?_
    exact lw_ret hx hb hr hlocks hr2
  · have hq2 : Cond.methodLinkNest q.1 q.2.1 q.2.2.1 q.2.2.2 ∈ lw_tbl := nest_in q hq
    exact va_Nw.of rfl (hts _ hq2)
