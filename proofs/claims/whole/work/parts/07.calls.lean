/-! CALLS: a method's contract Sp over the fixed world, and the rules that use it -/
abbrev MI : Type := MethodName × ByteArray × Nat × Option FieldType
def okM (I : MI) (n : Nat) : Prop := Cond.code I.1 I.2.1 I.2.2.1 I.2.2.2 ∈ lwG ∧ Cond.initialized I.1.cls ∈ lwG ∧ (I.1.cls ≠ "java/lang/invoke/MethodHandle" ∧ I.1.cls ≠ "java/lang/invoke/VarHandle" ∧ (parseMethodDescriptor I.1.desc).map (fun d => d.parameters.length) = some n) ∧ I.2.2.1 ≤ 41 ∧ plainName I.1.cls = true
def okV (I : MI) (n ci : Nat) : Prop := okM I n ∧ Cond.instanceMethod I.1 ∈ lwG ∧ Cond.selects I.1.cls I.1 I.1 ∈ lwG ∧ ∃ (T : u_T) (N : Nat), vwCl[ci]? = some (I.1.cls, T, N)
def okS (I : MI) (n : Nat) : Prop := okM I n ∧ Cond.static I.1 ∈ lwG
def PcM (D : va_G) (ad : Nat → Nat) (ca : Nat → ClassId) (vs : List Value) (μ : Mem) : Array Value → State → Prop := va_Pc (cvS ad vs) (fun U => Wk D ca U ∧ Wst ad (Aad ad) U U.heap ∧ va_P D vwCl (wsO ad ca μ) U.heap)
def QcM (D : va_G) (ad : Nat → Nat) (ca : Nat → ClassId) (ret : Option FieldType) (Q : Option Value → Mem → Prop) : Array Value → State → Outcome → State → Prop := fun _ st oc t => (∃ (v : Option Value) (μ' : Mem), oc = .returned v ∧ Q v μ' ∧ okR ret v ∧ va_P D vwCl (wsO ad ca μ') t.heap) ∧ va_F (Aad ad) st t
def Sp (I : MI) (d : Nat) (vs : List Value) (μ : Mem) (Q : Option Value → Mem → Prop) : Prop :=
  ∀ (l : Launch) (D : va_G) (ad : Nat → Nat) (ca : Nat → ClassId), Inj ad → Met l I.1 (Cond.code I.1 I.2.1 I.2.2.1 I.2.2.2 :: lwG) (rmD d) (PcM D ad ca vs μ) (QcM D ad ca I.2.2.2 Q) 0 0 (Aad ad)
theorem lg_len (vs : List Value) : (lg_sl vs).length = (vs.map fun v => v.category).sum := by
  induction vs with
  | nil => rfl
  | cons v t ih =>
    show ((if v.category = 2 then [Slot.val v, .second] else [.val v]) ++ lg_sl t).length = _
    rw [List.length_append, ih, List.map_cons, List.sum_cons]
    congr 1
    rcases lv_cat v with h | h <;> simp [h]
theorem cvS_cats (ad : Nat → Nat) (vs : List Value) : (cvS ad vs).map (fun v => v.category) = vs.map fun v => v.category := by
  unfold cvS
  rw [List.map_map]
  exact List.map_congr_left fun v _ => cv_cat ad v
theorem lv_args_cv (ad : Nat → Nat) : ∀ (vs : List Value) (i : Nat), lv_args i (cvS ad vs) = cvL ad (lv_args i vs)
  | [], i => rfl
  | v :: t, i => by
    show (i, cv ad v) :: lv_args (if (cv ad v).category = 2 then i + 2 else i + 1) (cvS ad t) = (i, cv ad v) :: cvL ad (lv_args (if v.category = 2 then i + 2 else i + 1) t)
    rw [cv_cat, lv_args_cv ad t]
theorem okR_cv {ret : Option FieldType} {v : Option Value} (h : okR ret v) (ad : Nat → Nat) : cvS ad v.toList = v.toList := by
  cases v with
  | none => rfl
  | some x =>
    cases x with
    | ref a => cases ret with
      | none => exact absurd h (by simp [okR])
      | some ty => cases ty <;> exact absurd h (by simp [okR])
    | _ => rfl
theorem Sp.of {I : MI} {n d : Nat} {vs : List Value} {μ : Mem} {Q : Option Value → Mem → Prop} (hok : okM I n) (hfit : (vs.map fun v => v.category).sum ≤ I.2.2.1) (h : WP I.2.1 (I.1.cls, I.2.2.1, I.2.2.2, d, none) 0 (lv_args 0 vs) [] μ Q) : Sp I d vs μ Q := by
  intro l D ad ca hi
  refine Met.ofW (cc := I.2.1) (maxL := I.2.2.1) (ret := I.2.2.2) hok.2.2.2.2 rfl ?_
  intro p e s m args below meth c s₁ B hml hv
  obtain ⟨rfl, hWk, hWst, hP⟩ := hv
  have hts := atoms_spec (ws := Cond.code I.1 I.2.1 I.2.2.1 I.2.2.2 :: lwG) B.pre
  have hown : s.vm.findClass I.1.cls = some m.cls := findClass_of_methodNamed B.named
  have hlocks := B.notSynchronized
  have hret := B.returns
  rw [lg_entry_eq]
  refine h p l e _ s m _ below meth c D ad ca (Aad ad) 0 0 _ ⟨B.exec, B.bytes, hml, hown, fun w hw => hts w (List.mem_cons_of_mem _ hw), hWk, hWst, hi, fun k hk => ⟨k, hk, rfl⟩, ⟨Nat.le_refl _, Nat.le_refl _⟩, ⟨Nat.zero_le _, Nat.zero_le _⟩, trivial⟩ ?_ s.heap [] hP va_S.rf _ ?_
  · intro v μ' H' locs' pc' la hq hok' hP' hS' hr
    have hk := hok'
    dsimp only at hok'
    cases v with
    | none =>
      have hn : I.2.2.2 = none := by
        cases hI : I.2.2.2 with
        | none => rfl
        | some ty => rw [hI] at hok'; cases ty <;> exact absurd hok' (by simp [okR])
      exact W.vret B.exec B.bytes (hret.trans hn) (fun t ht hW => ⟨⟨none, μ', rfl, hq, hk, by rw [ht]; exact hP'⟩, hS'.F ht⟩) hS'.2.2 hr
    | some x =>
      cases x with
      | int z =>
        cases hI : I.2.2.2 with
        | none => rw [hI] at hok'; exact absurd hok' (by simp [okR])
        | some ty =>
          rw [hI] at hok'
          have hz : narrow ty (.int z) = .int z := by
            cases ty <;> first | exact hok'.1 | exact absurd hok' (by simp [okR])
          exact W.zret B.exec B.bytes (hret.trans hI) hz (fun t ht hW => ⟨⟨some (.int z), μ', rfl, hq, hok', by rw [ht]; exact hP'⟩, hS'.F ht⟩) hS'.2.2 hr
      | long z =>
        have hn : I.2.2.2 = some .long := by
          cases hI : I.2.2.2 with
          | none => rw [hI] at hok'; exact absurd hok' (by simp [okR])
          | some ty => rw [hI] at hok'; cases ty <;> first | rfl | exact absurd hok' (by simp [okR])
        exact W.lret B.exec B.bytes (hret.trans hn) (fun t ht hW => ⟨⟨some (.long z), μ', rfl, hq, hk, by rw [ht]; exact hP'⟩, hS'.F ht⟩) hS'.2.2 hr
      | _ => exact absurd hr (by simp [rIns])
  · have := lv_entry (cvS ad vs) (n := I.2.2.1) (by rw [lg_len, cvS_cats]; exact hfit)
    rw [lv_args_cv] at this
    exact this
theorem lwG_good : ∀ {y : MethodName} {b : ByteArray} {n : Nat} {r : Option FieldType}, Cond.code y b n r ∈ lwG → GoodIn lwG (Cond.code y b n r :: lwG) := fun h w hw => by
  have hm : w ∈ lwG := by
    rcases List.mem_cons.mp hw with rfl | hw
    · exact h
    · exact hw
  exact ⟨hm, good_of_word (List.mem_filter.mp hm).2⟩
section WC
variable {cc : ByteArray} {mt : Mt} {pc : Nat} {ls : List (Nat × Value)} {st : List Value} {μ : Mem} {Q : Option Value → Mem → Prop}
/-- what is common to all calls: from the run on -/
theorem wc_go {I : MI} {vs rest : List Value} {p : Program} {l : Launch} {e : Env} {R : Room} {s : State} {m : MethodId} {args : Array Value} {below : List Frame} {meth : Method} {c : Code} {D : va_G} {ad : Nat → Nat} {ca : Nat → ClassId} {A : Nat → Prop} {cells slots : Nat} {Qz : State → Prop} {H : Heap} {locs : List Loc} {la : Array Slot} {st0 : List Value}
    (C : Ctx cc mt p R s m args c D ad ca A cells slots)
    (hR : ∀ (v : Option Value) (μ' : Mem) (H' : Heap) (locs' : List Loc) (pc' : Nat) (la : Array Slot), Q v μ' → okR mt.2.2.1 v → va_P D vwCl (wsO ad ca μ') H' → va_S A s.heap H' locs' → rIns v cc pc' → W p l e R s m args below meth c H' locs' cells slots Qz (F0 m pc' la v.toList))
    (hS : va_S A s.heap H locs) (hl : lv_has la mt.2.1 (cvL ad ls))
    (hr : va_Run p l e R s m args below meth c H locs cells slots 0 0 (F0 m pc la st0) (cvS ad rest) (QcM D ad ca I.2.2.2 (fun v μ' => WP cc mt (pc + 3) ls (v.toList ++ rest) μ' Q) (cvS ad vs).toArray) (Aad ad)) :
    W p l e R s m args below meth c H locs cells slots Qz (F0 m pc la st0) := by
  have hsub : ∀ q, Aad ad q → A q := fun q h => by
    obtain ⟨k, hk, rfl⟩ := h
    exact C.2.2.2.2.2.2.2.2.1 k hk
  intro T hT X
  obtain ⟨v, st₀, t, T', L, h0, X', hL, e1, e2, ⟨⟨v', μ', hv, hq, hok, hP'⟩, hz, hk⟩, stp⟩ := hr T hT X
  cases hv
  rw [h0] at hz hk
  have hS' : va_S A s.heap T'.heap (locs ++ L) := ⟨Nat.le_trans hS.1 (by rw [e1]; exact hz), fun q h1 h2 => by rw [e1, hk q (Nat.lt_of_lt_of_le h1 hS.1) (fun z => h2 (hsub q z))]; exact hS.2.1 q h1 h2, fun q hq => by
      rcases List.mem_append.mp hq with h | h
      · exact hS.2.2 q h
      · exact hsub _ (hL q h)⟩
  have hw := hq p l e R s m args below meth c D ad ca A cells slots Qz C hR T'.heap (locs ++ L) (by rw [e1]; exact hP') hS' la hl
  obtain ⟨t2, a1, b1⟩ := hw T' rfl X'
  refine ⟨t2, stp t2 ?_, b1⟩
  have ev : cvS ad (v.toList ++ rest) = v.toList ++ cvS ad rest := by
    show List.map _ _ = _
    rw [List.map_append]
    show cvS ad v.toList ++ cvS ad rest = _
    rw [okR_cv hok]
  rw [ev] at a1
  exact a1
theorem wc_pre {D : va_G} {ad : Nat → Nat} {ca : Nat → ClassId} {A : Nat → Prop} {cells slots : Nat} {p : Program} {R : Room} {s : State} {m : MethodId} {args : Array Value} {c : Code} {H : Heap} {locs : List Loc} {vs : List Value} (C : Ctx cc mt p R s m args c D ad ca A cells slots) (hP : va_P D vwCl (wsO ad ca μ) H) (hS : va_S A s.heap H locs) : FrameBlind (PcM D ad ca vs μ) ∧ ∀ U : State, U.heap = H → s.WarmedH U.vm → PcM D ad ca vs μ (cvS ad vs).toArray U := by
  have hsub : ∀ q, Aad ad q → A q := fun q h => by
    obtain ⟨k, hk, rfl⟩ := h
    exact C.2.2.2.2.2.2.2.2.1 k hk
  refine ⟨fun a U g mk h => ?_, fun U hU hW => ⟨rfl, C.2.2.2.2.2.1.moved hW, ?_, by rw [hU]; exact hP⟩⟩
  · obtain ⟨h1, h2, h3, h4⟩ := h
    refine ⟨h1, ⟨fun c q hq => u_Kn_moved (u := U) (U := U.calling g mk a) (Vm.Alike.refl U.vm) (h2.1 c q hq), fun k t n b hk => ⟨arrOfT_moved (u := U) (E := U.calling g mk a) (Vm.Alike.refl U.vm) (h2.2.1 k t n b hk).1, (h2.2.1 k t n b hk).2.moved (u := U) (U := U.calling g mk a) (Vm.Alike.refl U.vm)⟩, fun q hq => va_Nw.same rfl (u := U) (U := U.calling g mk a) rfl (h2.2.2 q hq)⟩, h3.moved (u := U) (U := U.calling g mk a) (Vm.Alike.refl U.vm) (fun _ h => h) (fun _ _ _ => rfl), h4⟩
  · refine C.2.2.2.2.2.2.1.moved hW.alike hsub (fun a h1 h2 => ?_)
    rw [hU]
    exact hS.2.1 a h1 h2
theorem wc_room {I : MI} {n d' : Nat} {p : Program} {R : Room} {s : State} {m : MethodId} {args : Array Value} {c : Code} {D : va_G} {ad : Nat → Nat} {ca : Nat → ClassId} {A : Nat → Prop} {cells slots : Nat} (C : Ctx cc mt p R s m args c D ad ca A cells slots) (hok : okM I n) (hdd : d' + 1 ≤ mt.2.2.2.1) : (rmD d').frames + 1 ≤ R.frames ∧ 8 + (I.2.2.1 + 11) + (rmD d').locals ≤ R.locals := by
  have h1 := C.2.2.2.2.2.2.2.2.2.1
  have h2 := hok.2.2.2.1
  refine ⟨Nat.le_trans hdd h1.1, ?_⟩
  show 8 + (I.2.2.1 + 11) + 60 * d' ≤ R.locals
  have := h1.2
  omega
theorem r_callV {I : MI} {n d' idx k ci : Nat} {fl : List Nat} {As rest : List Value} (hd : decode cc pc = .ok (.invokevirtual idx, 3)) (hok : okV I n ci) (hlk : Cond.methodLink mt.1 idx I.1 ∈ lwG) (hk : SHl[k]? = some (.inr (ci, fl))) (hn : As.length = n) (hst : As.reverse ++ .ref k :: rest = st) (hrest : (rest.map fun v => v.category).sum ≤ 8) (hdd : d' + 1 ≤ mt.2.2.2.1) (h : Sp I d' (.ref k :: As) μ (fun v μ' => WP cc mt (pc + 3) ls (v.toList ++ rest) μ' Q)) : WP cc mt pc ls st μ Q := by
  subst hst
  intro p l e R s m args below meth c D ad ca A cells slots Qz C hR H locs hP hS la hl
  obtain ⟨hM, hi1, hi2, T, N, hc⟩ := hok
  have he := wsO_get (ad := ad) (ca := ca) (μ := μ) (SHl_lt hk)
  rw [ce_obj hk] at he
  have hts := C.2.2.2.2.1
  have hpre := wc_pre (vs := .ref k :: As) C hP hS
  have hrecv := va_recv C.2.2.2.2.2.1.K hP hc he
  refine wc_go (I := I) (vs := .ref k :: As) C hR hS hl (va_runV (Ts := lwG) (As := cvS ad As) (rest := cvS ad rest) (n := n) ⟨C.1, C.2.1, C.2.2.1, C.2.2.2.1, hts⟩ (h l D ad ca C.2.2.2.2.2.2.2.1) ⟨callB_of n hts (lwG_good hM.1) rfl rfl rfl (hts _ hM.2.1) (hts _ hlk) hM.2.2.1 (wc_room C hM hdd), hts _ hi1, hts _ hi2⟩ ⟨hpre.1, hrecv, hpre.2⟩ rfl (by unfold cvS; rw [List.length_map]; exact hn) hl.1 ?_ (lv_room (by rw [cvS_cats]; exact hrest)) hd ⟨C.2.2.2.2.2.2.2.2.2.2.1.1, C.2.2.2.2.2.2.2.2.2.2.1.2⟩)
  show cvS ad (As.reverse ++ Value.ref k :: rest) = _
  unfold cvS
  rw [List.map_append, List.map_reverse]
  rfl
theorem r_callS {I : MI} {n d' idx : Nat} {As rest : List Value} (hd : decode cc pc = .ok (.invokestatic idx, 3)) (hok : okS I n) (hlk : Cond.methodLink mt.1 idx I.1 ∈ lwG) (hn : As.length = n) (hst : As.reverse ++ rest = st) (hrest : (rest.map fun v => v.category).sum ≤ 8) (hdd : d' + 1 ≤ mt.2.2.2.1) (h : Sp I d' As μ (fun v μ' => WP cc mt (pc + 3) ls (v.toList ++ rest) μ' Q)) : WP cc mt pc ls st μ Q := by
  subst hst
  intro p l e R s m args below meth c D ad ca A cells slots Qz C hR H locs hP hS la hl
  obtain ⟨hM, hi1⟩ := hok
  have hts := C.2.2.2.2.1
  have hpre := wc_pre (vs := As) C hP hS
  refine wc_go (I := I) (vs := As) C hR hS hl (va_runS (Ts := lwG) (As := cvS ad As) (rest := cvS ad rest) (n := n) ⟨C.1, C.2.1, C.2.2.1, C.2.2.2.1, hts⟩ (h l D ad ca C.2.2.2.2.2.2.2.1) ⟨callB_of n hts (lwG_good hM.1) rfl rfl rfl (hts _ hM.2.1) (hts _ hlk) hM.2.2.1 (wc_room C hM hdd), hts _ hi1⟩ hpre rfl (by unfold cvS; rw [List.length_map]; exact hn) hl.1 ?_ (lv_room (by rw [cvS_cats]; exact hrest)) hd ⟨C.2.2.2.2.2.2.2.2.2.2.1.1, C.2.2.2.2.2.2.2.2.2.2.1.2⟩)
  show cvS ad (As.reverse ++ rest) = _
  unfold cvS
  rw [List.map_append, List.map_reverse]
theorem r_callN {I : MI} {n d' idx : Nat} {host : String} {As rest : List Value} (hd : decode cc pc = .ok (.invokestatic idx, 3)) (hok : okS I n) (hlk : (mt.1, idx, I.1, host) ∈ lwN) (hn : As.length = n) (hst : As.reverse ++ rest = st) (hrest : (rest.map fun v => v.category).sum ≤ 8) (hdd : d' + 1 ≤ mt.2.2.2.1) (h : Sp I d' As μ (fun v μ' => WP cc mt (pc + 3) ls (v.toList ++ rest) μ' Q)) : WP cc mt pc ls st μ Q := by
  subst hst
  intro p l e R s m args below meth c D ad ca A cells slots Qz C hR H locs hP hS la hl
  obtain ⟨hM, hi1⟩ := hok
  have hts := C.2.2.2.2.1
  have hpre := wc_pre (vs := As) C hP hS
  refine wc_go (I := I) (vs := As) C hR hS hl (va_runSN (Ts := lwG) (As := cvS ad As) (rest := cvS ad rest) (n := n) ⟨C.1, C.2.1, C.2.2.1, C.2.2.2.1, hts⟩ (h l D ad ca C.2.2.2.2.2.2.2.1) ⟨va_cnB n hts (lwG_good hM.1) rfl rfl rfl (C.2.2.2.2.2.1.2.2 _ hlk) (hts _ hM.2.1) hM.2.2.1 (wc_room C hM hdd), hts _ hi1, trivial⟩ hpre rfl (by unfold cvS; rw [List.length_map]; exact hn) hl.1 ?_ (lv_room (by rw [cvS_cats]; exact hrest)) hd ⟨C.2.2.2.2.2.2.2.2.2.2.1.1, C.2.2.2.2.2.2.2.2.2.2.1.2⟩)
  show cvS ad (As.reverse ++ rest) = _
  unfold cvS
  rw [List.map_append, List.map_reverse]
/-- a row of ints copied whole from 0 on: 12 places -/
def cpyI (μ : Mem) (k k' n : Nat) : Mem := (fun a => if a = k' then va_cpy (μ.1 k) (μ.1 k') 0 0 n else μ.1 a, μ.2)
theorem ce_cpyI {ad : Nat → Nat} {ca : Nat → ClassId} {μ : Mem} {k k' n : Nat} : ∀ j, j ≠ k' → ce ad ca (cpyI μ k k' n) j = ce ad ca μ j := fun j hj => ce_cong (by simp [cpyI, hj]) rfl
theorem r_copy {idx k k' n n0 n1 b0 b1 : Nat} {z0 z1 z2 : Int32} (hd : decode cc pc = .ok (.invokestatic idx, 3)) (hlk : Cond.methodLink mt.1 idx arraycopyName ∈ lwG) (hnat : Cond.native arraycopyName ∈ lwG) (hstat : Cond.static arraycopyName ∈ lwG) (hini : Cond.initialized "java/lang/System" ∈ lwG) (hk : SHl[k]? = some (.inl (0, n0, b0))) (hk' : SHl[k']? = some (.inl (0, n1, b1))) (h0 : z0 = nI 0) (h1 : z1 = nI 0) (h2 : z2 = nI n) (hn0 : n ≤ n0) (hn1 : n ≤ n1) (hrest : (st.map fun v => v.category).sum ≤ 8) (hdd : 1 ≤ mt.2.2.2.1) (h : WP cc mt (pc + 3) ls st (cpyI μ k k' n) Q) : WP cc mt pc ls (.int z2 :: .int z1 :: .ref k' :: .int z0 :: .ref k :: st) μ Q := by
  subst h0; subst h1; subst h2
  intro p l e R s m args below meth c D ad ca A cells slots Qz C hR H locs hP hS la hl
  have he := wsO_get (ad := ad) (ca := ca) (μ := μ) (SHl_lt hk)
  rw [ce_row hk] at he
  have he' := wsO_get (ad := ad) (ca := ca) (μ := μ) (SHl_lt hk')
  rw [ce_row hk'] at he'
  have hs0 := SHl_small hk
  have hts := C.2.2.2.2.1
  have c0 : (nI 0).toNatClampNeg = 0 := nI_clamp (by decide)
  have cn : (nI n).toNatClampNeg = n := nI_clamp (by omega)
  refine va_copyi C.1 C.2.1 (C.2.2.1.trans hl.1.symm) C.2.2.2.1 (hts _ hlk) (hts _ hnat) (hts _ hstat) (hts _ hini) (C.2.2.2.2.2.1.K2 hk hk') hP (wsO_D C.2.2.2.2.2.2.2.1 C.2.2.2.2.2.2.2.2.1) hS k k' 0 1 he he' rfl rfl rfl (nI_pos (by decide)) (nI_pos (by decide)) (nI_pos (by omega)) (by rw [c0, cn]; omega) (by rw [c0, cn]; omega) (fun i _ => rfl) (Nat.le_trans hdd C.2.2.2.2.2.2.2.2.2.1.1) ?_ hd (fun H1 locs1 hP1 hD1 hS1 => ?_)
  · have h1 := C.2.2.2.2.2.2.2.2.2.1.2
    show ((cvS ad st).map fun v => v.category).sum + _ ≤ R.locals
    rw [cvS_cats]
    have : nativeFrameWords "java/lang/System" "arraycopy" 5 + 11 ≤ 50 := by decide +kernel
    omega
  · refine h p l e R s m args below meth c D ad ca A cells slots Qz C hR H1 locs1 ?_ hS1 la hl
    rw [c0, cn] at hP1
    rw [← wsO_set ce_cpyI, ce_row hk']
    refine (congrArg (fun z => va_P D vwCl ((wsO ad ca μ).set k' (ad k', Sum.inl (ca k', n1, z))) H1) ?_).mp hP1
    simp [ceA, cpyI]
end WC
