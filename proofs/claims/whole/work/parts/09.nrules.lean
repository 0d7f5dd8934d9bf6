/-! RULES over small numbers: nI n a number n, b2i b a truth, cmp3 what lcmp leaves -/
def b2i (b : Bool) : Int32 := if b then 1 else 0
theorem b2i_nar (b : Bool) : narrow .boolean (.int (b2i b)) = .int (b2i b) := by cases b <;> rfl
theorem nI_inj {a b : Nat} (ha : a < 2 ^ 31) (hb : b < 2 ^ 31) (h : nI a = nI b) : a = b := (nI_eq ha hb).mp h
theorem nI_sub {a b : Nat} (h : b ≤ a) : nI a - nI b = nI (a - b) := pk_sub h
def cmp3 (a b : Nat) : Int32 := if a < b then -1 else if a = b then 0 else 1
theorem lg_cmp_nat {a b : Nat} (ha : a < 2 ^ 63) (hb : b < 2 ^ 63) : lg_cmp (lN a) (lN b) = cmp3 a b := by
  unfold lg_cmp cmp3
  by_cases h : a < b
  · have h1 := (pk_lLT ha hb).mpr h
    have h2 : ¬ lN b < lN a := fun q => absurd ((pk_lLT hb ha).mp q) (by omega)
    have h3 : ¬ lN a = lN b := fun q => absurd ((pk_lEQ ha hb).mp q) (by omega)
    simp [h, h1, h2, h3]
  · by_cases e : a = b
    · subst e
      have h1 : ¬ lN a < lN a := fun q => absurd ((pk_lLT ha ha).mp q) (by omega)
      simp [h1]
    · have h1 : ¬ lN a < lN b := fun q => absurd ((pk_lLT ha hb).mp q) h
      have h2 := (pk_lLT hb ha).mpr (by omega : b < a)
      have h3 : ¬ lN a = lN b := fun q => e ((pk_lEQ ha hb).mp q)
      simp [h, e, h1, h2, h3]
section NR
variable {cc : ByteArray} {mt : Mt} {pc : Nat} {ls : List (Nat × Value)} {st : List Value} {μ : Mem} {Q : Option Value → Mem → Prop}
theorem rn_iadd {a b : Nat} (hd : decode cc pc = .ok (.iadd, 1)) (h : WP cc mt (pc + 1) ls (.int (nI (a + b)) :: st) μ Q) : WP cc mt pc ls (.int (nI b) :: .int (nI a) :: st) μ Q := r_iadd hd (r_eqi (nI_add a b) h)
theorem rn_isub {a b : Nat} (hd : decode cc pc = .ok (.isub, 1)) (hb : b ≤ a) (h : WP cc mt (pc + 1) ls (.int (nI (a - b)) :: st) μ Q) : WP cc mt pc ls (.int (nI b) :: .int (nI a) :: st) μ Q := r_isub hd (r_eqi (nI_sub hb) h)
theorem rn_imul {a b : Nat} (hd : decode cc pc = .ok (.imul, 1)) (h : WP cc mt (pc + 1) ls (.int (nI (a * b)) :: st) μ Q) : WP cc mt pc ls (.int (nI b) :: .int (nI a) :: st) μ Q := r_imul hd (r_eqi (pk_mul a b) h)
theorem rn_idiv {a b : Nat} (hd : decode cc pc = .ok (.idiv, 1)) (ha : a < 2 ^ 31) (h0 : 0 < b) (hb : b < 2 ^ 31) (h : WP cc mt (pc + 1) ls (.int (nI (a / b)) :: st) μ Q) : WP cc mt pc ls (.int (nI b) :: .int (nI a) :: st) μ Q := r_idiv hd (nI_ne0 h0 hb) (r_eqi (pk_div ha h0 hb) h)
theorem rn_irem {a b : Nat} (hd : decode cc pc = .ok (.irem, 1)) (ha : a < 2 ^ 31) (h0 : 0 < b) (hb : b < 2 ^ 31) (h : WP cc mt (pc + 1) ls (.int (nI (a % b)) :: st) μ Q) : WP cc mt pc ls (.int (nI b) :: .int (nI a) :: st) μ Q := r_irem hd (nI_ne0 h0 hb) (r_eqi (pk_rem ha h0 hb) h)
theorem rn_icmp_lt {a b : Nat} {off : Int} {tgt : Nat} (hd : decode cc pc = .ok (.if_icmp .lt off, 3)) (ht : (pc : Int) + off = (tgt : Int)) (ha : a < 2 ^ 31) (hb : b < 2 ^ 31) (kt : a < b → WP cc mt tgt ls st μ Q) (kf : b ≤ a → WP cc mt (pc + 3) ls st μ Q) : WP cc mt pc ls (.int (nI b) :: .int (nI a) :: st) μ Q := r_icmp_lt hd ht (fun q => kt ((nI_ltI ha hb).mp q)) (fun q => kf (Nat.not_lt.mp fun z => q ((nI_ltI ha hb).mpr z)))
theorem rn_icmp_ge {a b : Nat} {off : Int} {tgt : Nat} (hd : decode cc pc = .ok (.if_icmp .ge off, 3)) (ht : (pc : Int) + off = (tgt : Int)) (ha : a < 2 ^ 31) (hb : b < 2 ^ 31) (kt : b ≤ a → WP cc mt tgt ls st μ Q) (kf : a < b → WP cc mt (pc + 3) ls st μ Q) : WP cc mt pc ls (.int (nI b) :: .int (nI a) :: st) μ Q := r_icmp_ge hd ht (fun q => kt ((nI_leI hb ha).mp q)) (fun q => kf (Nat.not_le.mp fun z => q ((nI_leI hb ha).mpr z)))
theorem rn_icmp_gt {a b : Nat} {off : Int} {tgt : Nat} (hd : decode cc pc = .ok (.if_icmp .gt off, 3)) (ht : (pc : Int) + off = (tgt : Int)) (ha : a < 2 ^ 31) (hb : b < 2 ^ 31) (kt : b < a → WP cc mt tgt ls st μ Q) (kf : a ≤ b → WP cc mt (pc + 3) ls st μ Q) : WP cc mt pc ls (.int (nI b) :: .int (nI a) :: st) μ Q := r_icmp_gt hd ht (fun q => kt ((nI_ltI hb ha).mp q)) (fun q => kf (Nat.not_lt.mp fun z => q ((nI_ltI hb ha).mpr z)))
theorem rn_icmp_le {a b : Nat} {off : Int} {tgt : Nat} (hd : decode cc pc = .ok (.if_icmp .le off, 3)) (ht : (pc : Int) + off = (tgt : Int)) (ha : a < 2 ^ 31) (hb : b < 2 ^ 31) (kt : a ≤ b → WP cc mt tgt ls st μ Q) (kf : b < a → WP cc mt (pc + 3) ls st μ Q) : WP cc mt pc ls (.int (nI b) :: .int (nI a) :: st) μ Q := r_icmp_le hd ht (fun q => kt ((nI_leI ha hb).mp q)) (fun q => kf (Nat.not_le.mp fun z => q ((nI_leI ha hb).mpr z)))
theorem rn_icmp_eq {a b : Nat} {off : Int} {tgt : Nat} (hd : decode cc pc = .ok (.if_icmp .eq off, 3)) (ht : (pc : Int) + off = (tgt : Int)) (ha : a < 2 ^ 31) (hb : b < 2 ^ 31) (kt : a = b → WP cc mt tgt ls st μ Q) (kf : ¬ a = b → WP cc mt (pc + 3) ls st μ Q) : WP cc mt pc ls (.int (nI b) :: .int (nI a) :: st) μ Q := r_icmp_eq hd ht (fun q => kt ((nI_eq ha hb).mp q)) (fun q => kf (fun z => q ((nI_eq ha hb).mpr z)))
theorem rn_icmp_ne {a b : Nat} {off : Int} {tgt : Nat} (hd : decode cc pc = .ok (.if_icmp .ne off, 3)) (ht : (pc : Int) + off = (tgt : Int)) (ha : a < 2 ^ 31) (hb : b < 2 ^ 31) (kt : ¬ a = b → WP cc mt tgt ls st μ Q) (kf : a = b → WP cc mt (pc + 3) ls st μ Q) : WP cc mt pc ls (.int (nI b) :: .int (nI a) :: st) μ Q := r_icmp_ne hd ht (fun q => kt (fun z => q ((nI_eq ha hb).mpr z))) (fun q => kf ((nI_eq ha hb).mp q))
theorem nI_z {a : Nat} (ha : a < 2 ^ 31) : nI a = 0 ↔ a = 0 := ⟨fun q => nI_inj ha (by decide) (by rw [q, nI_0]), fun q => by rw [q, nI_0]⟩
theorem rn_if_eq {a : Nat} {off : Int} {tgt : Nat} (hd : decode cc pc = .ok (.ifCond .eq off, 3)) (ht : (pc : Int) + off = (tgt : Int)) (ha : a < 2 ^ 31) (kt : a = 0 → WP cc mt tgt ls st μ Q) (kf : ¬ a = 0 → WP cc mt (pc + 3) ls st μ Q) : WP cc mt pc ls (.int (nI a) :: st) μ Q := r_if_eq hd ht (fun q => kt ((nI_z ha).mp q)) (fun q => kf (fun z => q ((nI_z ha).mpr z)))
theorem rn_if_ne {a : Nat} {off : Int} {tgt : Nat} (hd : decode cc pc = .ok (.ifCond .ne off, 3)) (ht : (pc : Int) + off = (tgt : Int)) (ha : a < 2 ^ 31) (kt : ¬ a = 0 → WP cc mt tgt ls st μ Q) (kf : a = 0 → WP cc mt (pc + 3) ls st μ Q) : WP cc mt pc ls (.int (nI a) :: st) μ Q := r_if_ne hd ht (fun q => kt (fun z => q ((nI_z ha).mpr z))) (fun q => kf ((nI_z ha).mp q))
theorem rn_if_lt {a : Nat} {off : Int} {tgt : Nat} (hd : decode cc pc = .ok (.ifCond .lt off, 3)) (ht : (pc : Int) + off = (tgt : Int)) (ha : a < 2 ^ 31) (kf : WP cc mt (pc + 3) ls st μ Q) : WP cc mt pc ls (.int (nI a) :: st) μ Q := r_if_lt hd ht (fun q => absurd q (nI_pos ha)) (fun _ => kf)
theorem rn_if_ge {a : Nat} {off : Int} {tgt : Nat} (hd : decode cc pc = .ok (.ifCond .ge off, 3)) (ht : (pc : Int) + off = (tgt : Int)) (ha : a < 2 ^ 31) (kt : WP cc mt tgt ls st μ Q) : WP cc mt pc ls (.int (nI a) :: st) μ Q := r_if_ge hd ht (fun _ => kt) (fun q => absurd (nI_pos' ha) q)
theorem rn_if_gt {a : Nat} {off : Int} {tgt : Nat} (hd : decode cc pc = .ok (.ifCond .gt off, 3)) (ht : (pc : Int) + off = (tgt : Int)) (ha : a < 2 ^ 31) (kt : 0 < a → WP cc mt tgt ls st μ Q) (kf : a = 0 → WP cc mt (pc + 3) ls st μ Q) : WP cc mt pc ls (.int (nI a) :: st) μ Q := r_if_gt hd ht (fun q => kt (Nat.pos_of_ne_zero fun z => by rw [z, nI_0] at q; exact absurd q (by decide))) (fun q => kf (Nat.eq_zero_of_not_pos fun z => q (by rw [← nI_0]; exact nI_lt z ha)))
theorem rn_if_le {a : Nat} {off : Int} {tgt : Nat} (hd : decode cc pc = .ok (.ifCond .le off, 3)) (ht : (pc : Int) + off = (tgt : Int)) (ha : a < 2 ^ 31) (kt : a = 0 → WP cc mt tgt ls st μ Q) (kf : 0 < a → WP cc mt (pc + 3) ls st μ Q) : WP cc mt pc ls (.int (nI a) :: st) μ Q := r_if_le hd ht (fun q => kt (Nat.eq_zero_of_not_pos fun z => absurd q (nI_nle z ha))) (fun q => kf (Nat.pos_of_ne_zero fun z => q (by rw [z, nI_0]; decide)))
theorem rb_if_eq {b : Bool} {off : Int} {tgt : Nat} (hd : decode cc pc = .ok (.ifCond .eq off, 3)) (ht : (pc : Int) + off = (tgt : Int)) (kt : b = false → WP cc mt tgt ls st μ Q) (kf : b = true → WP cc mt (pc + 3) ls st μ Q) : WP cc mt pc ls (.int (b2i b) :: st) μ Q := r_if_eq hd ht (fun q => kt (by cases b <;> first | rfl | exact absurd q (by decide))) (fun q => kf (by cases b <;> first | rfl | exact absurd rfl q))
theorem rb_if_ne {b : Bool} {off : Int} {tgt : Nat} (hd : decode cc pc = .ok (.ifCond .ne off, 3)) (ht : (pc : Int) + off = (tgt : Int)) (kt : b = true → WP cc mt tgt ls st μ Q) (kf : b = false → WP cc mt (pc + 3) ls st μ Q) : WP cc mt pc ls (.int (b2i b) :: st) μ Q := r_if_ne hd ht (fun q => kt (by cases b <;> first | rfl | exact absurd rfl q)) (fun q => kf (by cases b <;> first | rfl | exact absurd q (by decide)))
theorem rn_lcmp {a b : Nat} (hd : decode cc pc = .ok (.lcmp, 1)) (ha : a < 2 ^ 63) (hb : b < 2 ^ 63) (h : WP cc mt (pc + 1) ls (.int (cmp3 a b) :: st) μ Q) : WP cc mt pc ls (.long (lN b) :: .long (lN a) :: st) μ Q := r_lcmp hd (r_eqi (lg_cmp_nat ha hb) h)
theorem cmp3_lt {a b : Nat} : cmp3 a b < 0 ↔ a < b := by unfold cmp3; split <;> (try split) <;> simp_all <;> (try decide) <;> (try omega)
theorem cmp3_gt {a b : Nat} : 0 < cmp3 a b ↔ b < a := by unfold cmp3; split <;> (try split) <;> simp_all <;> (try decide) <;> (try omega)
theorem cmp3_eq {a b : Nat} : cmp3 a b = 0 ↔ a = b := by unfold cmp3; split <;> (try split) <;> simp_all <;> (try decide) <;> (try omega)
theorem cmp3_le {a b : Nat} : cmp3 a b ≤ 0 ↔ a ≤ b := by unfold cmp3; split <;> (try split) <;> simp_all <;> (try decide) <;> (try omega)
theorem cmp3_ge {a b : Nat} : 0 ≤ cmp3 a b ↔ b ≤ a := by unfold cmp3; split <;> (try split) <;> simp_all <;> (try decide) <;> (try omega)
theorem rc_if_eq {a b : Nat} {off : Int} {tgt : Nat} (hd : decode cc pc = .ok (.ifCond .eq off, 3)) (ht : (pc : Int) + off = (tgt : Int)) (kt : a = b → WP cc mt tgt ls st μ Q) (kf : ¬ a = b → WP cc mt (pc + 3) ls st μ Q) : WP cc mt pc ls (.int (cmp3 a b) :: st) μ Q := r_if_eq hd ht (fun q => kt (cmp3_eq.mp q)) (fun q => kf (fun z => q (cmp3_eq.mpr z)))
theorem rc_if_ne {a b : Nat} {off : Int} {tgt : Nat} (hd : decode cc pc = .ok (.ifCond .ne off, 3)) (ht : (pc : Int) + off = (tgt : Int)) (kt : ¬ a = b → WP cc mt tgt ls st μ Q) (kf : a = b → WP cc mt (pc + 3) ls st μ Q) : WP cc mt pc ls (.int (cmp3 a b) :: st) μ Q := r_if_ne hd ht (fun q => kt (fun z => q (cmp3_eq.mpr z))) (fun q => kf (cmp3_eq.mp q))
theorem rc_if_lt {a b : Nat} {off : Int} {tgt : Nat} (hd : decode cc pc = .ok (.ifCond .lt off, 3)) (ht : (pc : Int) + off = (tgt : Int)) (kt : a < b → WP cc mt tgt ls st μ Q) (kf : b ≤ a → WP cc mt (pc + 3) ls st μ Q) : WP cc mt pc ls (.int (cmp3 a b) :: st) μ Q := r_if_lt hd ht (fun q => kt (cmp3_lt.mp q)) (fun q => kf (Nat.not_lt.mp fun z => q (cmp3_lt.mpr z)))
theorem rc_if_ge {a b : Nat} {off : Int} {tgt : Nat} (hd : decode cc pc = .ok (.ifCond .ge off, 3)) (ht : (pc : Int) + off = (tgt : Int)) (kt : b ≤ a → WP cc mt tgt ls st μ Q) (kf : a < b → WP cc mt (pc + 3) ls st μ Q) : WP cc mt pc ls (.int (cmp3 a b) :: st) μ Q := r_if_ge hd ht (fun q => kt (cmp3_ge.mp q)) (fun q => kf (Nat.not_le.mp fun z => q (cmp3_ge.mpr z)))
theorem rc_if_gt {a b : Nat} {off : Int} {tgt : Nat} (hd : decode cc pc = .ok (.ifCond .gt off, 3)) (ht : (pc : Int) + off = (tgt : Int)) (kt : b < a → WP cc mt tgt ls st μ Q) (kf : a ≤ b → WP cc mt (pc + 3) ls st μ Q) : WP cc mt pc ls (.int (cmp3 a b) :: st) μ Q := r_if_gt hd ht (fun q => kt (cmp3_gt.mp q)) (fun q => kf (Nat.not_lt.mp fun z => q (cmp3_gt.mpr z)))
theorem rc_if_le {a b : Nat} {off : Int} {tgt : Nat} (hd : decode cc pc = .ok (.ifCond .le off, 3)) (ht : (pc : Int) + off = (tgt : Int)) (kt : a ≤ b → WP cc mt tgt ls st μ Q) (kf : b < a → WP cc mt (pc + 3) ls st μ Q) : WP cc mt pc ls (.int (cmp3 a b) :: st) μ Q := r_if_le hd ht (fun q => kt (cmp3_le.mp q)) (fun q => kf (Nat.not_le.mp fun z => q (cmp3_le.mpr z)))
theorem rn_lmul {a b : Nat} (hd : decode cc pc = .ok (.lmul, 1)) (h : WP cc mt (pc + 1) ls (.long (lN (a * b)) :: st) μ Q) : WP cc mt pc ls (.long (lN b) :: .long (lN a) :: st) μ Q := r_lmul hd (r_eql (lN_mul a b) h)
theorem rn_ladd {a b : Nat} (hd : decode cc pc = .ok (.ladd, 1)) (h : WP cc mt (pc + 1) ls (.long (lN (a + b)) :: st) μ Q) : WP cc mt pc ls (.long (lN b) :: .long (lN a) :: st) μ Q := r_ladd hd (r_eql (lN_add a b) h)
theorem rn_lsub {a b : Nat} (hd : decode cc pc = .ok (.lsub, 1)) (hb : b ≤ a) (h : WP cc mt (pc + 1) ls (.long (lN (a - b)) :: st) μ Q) : WP cc mt pc ls (.long (lN b) :: .long (lN a) :: st) μ Q := r_lsub hd (r_eql (lN_sub hb) h)
theorem lN_ne0 {b : Nat} (h0 : 0 < b) (hb : b < 2 ^ 63) : ¬ lN b = 0 := fun q => by
  have := (pk_lEQ (b := 0) hb (by decide)).mp (q.trans rfl)
  omega
theorem rn_ldiv {a b : Nat} (hd : decode cc pc = .ok (.ldiv, 1)) (ha : a < 2 ^ 63) (h0 : 0 < b) (hb : b < 2 ^ 63) (h : WP cc mt (pc + 1) ls (.long (lN (a / b)) :: st) μ Q) : WP cc mt pc ls (.long (lN b) :: .long (lN a) :: st) μ Q := r_ldiv hd (lN_ne0 h0 hb) (r_eql (pk_lDiv ha h0 hb) h)
theorem rn_lrem {a b : Nat} (hd : decode cc pc = .ok (.lrem, 1)) (ha : a < 2 ^ 63) (h0 : 0 < b) (hb : b < 2 ^ 63) (h : WP cc mt (pc + 1) ls (.long (lN (a % b)) :: st) μ Q) : WP cc mt pc ls (.long (lN b) :: .long (lN a) :: st) μ Q := r_lrem hd (lN_ne0 h0 hb) (r_eql (pk_lRem ha h0 hb) h)
theorem rn_i2l {a : Nat} (hd : decode cc pc = .ok (.i2l, 1)) (ha : a < 2 ^ 31) (h : WP cc mt (pc + 1) ls (.long (lN a) :: st) μ Q) : WP cc mt pc ls (.int (nI a) :: st) μ Q := r_i2l hd (nI_l ha) h
theorem rn_iinc {ls' : List (Nat × Value)} {k a b : Nat} {n : Int} (hd : decode cc pc = .ok (.iinc k n, 3)) (hk : lk ls k = some (.int (nI a))) (hv : Int32.ofInt n = nI b) (hn : k < mt.2.1) (hs : st1 ls k (.int (nI (a + b))) = ls') (h : WP cc mt (pc + 3) ls' st μ Q) : WP cc mt pc ls st μ Q := r_iinc hd hk (by rw [hv, nI_add]) hn hs h
theorem r_pick {ls' : List (Nat × Value)} (ks : List Nat) (hl : lv_pick ls ks = ls') (h : WP cc mt pc ls' st μ Q) : WP cc mt pc ls st μ Q := r_sub h (fun q hq => by
  rw [← hl] at hq
  obtain ⟨k, -, hk⟩ := List.mem_filterMap.mp hq
  exact List.mem_of_getElem? hk)
theorem sw_cases {x : Int32} {n : Int} (hn : n < 2147483648) (h : ¬ (x.toInt < 0 ∨ n < x.toInt)) : ∃ j : Nat, (j : Int) ≤ n ∧ x = nI j := by
  have h0 : ¬ x < 0 := fun q => h (Or.inl (by simpa using Int32.lt_iff_toInt_lt.mp q))
  obtain ⟨j, hj, rfl⟩ := nI_of h0
  refine ⟨j, ?_, rfl⟩
  rw [nI_toInt hj] at h
  omega
end NR
