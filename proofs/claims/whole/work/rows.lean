section
-- ===== PART A: goes FIRST, ahead of the names: the tables' words, and 'selects' of the private methods out of them =====
/-- a private method of a class that the tables say can be made, by its rows of tables_1 -/
def lw_okq (q : MethodName × Nat) : Prop := (q.1.cls ≠ "java/lang/invoke/MethodHandle" ∧ q.1.cls ≠ "java/lang/invoke/VarHandle") ∧ Cond.instantiable q.1.cls q.2 ∈ tables_1 ∧ Cond.privateMethod q.1 ∈ tables_1 ∧ Cond.instanceMethod q.1 ∈ tables_1
theorem lw_p0 : lw_okq (⟨"FairBoards", "forget", "()V"⟩, 7) := ⟨⟨by decide +kernel, by decide +kernel⟩, List.mem_of_getElem? (i := 13) (by decide +kernel), List.mem_of_getElem? (i := 234) (by decide +kernel), List.mem_of_getElem? (i := 235) (by decide +kernel)⟩
theorem lw_p1 : lw_okq (⟨"FairBoards$Signs", "passBoard", "()Z"⟩, 7) := ⟨⟨by decide +kernel, by decide +kernel⟩, List.mem_of_getElem? (i := 81) (by decide +kernel), List.mem_of_getElem? (i := 301) (by decide +kernel), List.mem_of_getElem? (i := 302) (by decide +kernel)⟩
theorem lw_p2 : lw_okq (⟨"FairBoards$Signs", "passCoins", "(I)Z"⟩, 7) := ⟨⟨by decide +kernel, by decide +kernel⟩, List.mem_of_getElem? (i := 81) (by decide +kernel), List.mem_of_getElem? (i := 305) (by decide +kernel), List.mem_of_getElem? (i := 306) (by decide +kernel)⟩
theorem lw_p3 : lw_okq (⟨"FairBoards$Signs", "passOneOf", "(CC)Z"⟩, 7) := ⟨⟨by decide +kernel, by decide +kernel⟩, List.mem_of_getElem? (i := 81) (by decide +kernel), List.mem_of_getElem? (i := 309) (by decide +kernel), List.mem_of_getElem? (i := 310) (by decide +kernel)⟩
theorem lw_p4 : lw_okq (⟨"FairBoards", "lookAround", "()V"⟩, 7) := ⟨⟨by decide +kernel, by decide +kernel⟩, List.mem_of_getElem? (i := 13) (by decide +kernel), List.mem_of_getElem? (i := 330) (by decide +kernel), List.mem_of_getElem? (i := 331) (by decide +kernel)⟩
theorem lw_p5 : lw_okq (⟨"FairBoards$Rounds", "keep", "(LFairBoards$Boards;J)V"⟩, 8) := ⟨⟨by decide +kernel, by decide +kernel⟩, List.mem_of_getElem? (i := 111) (by decide +kernel), List.mem_of_getElem? (i := 342) (by decide +kernel), List.mem_of_getElem? (i := 343) (by decide +kernel)⟩
theorem lw_p6 : lw_okq (⟨"FairBoards$Rounds", "gains", "(I[II)Z"⟩, 8) := ⟨⟨by decide +kernel, by decide +kernel⟩, List.mem_of_getElem? (i := 111) (by decide +kernel), List.mem_of_getElem? (i := 352) (by decide +kernel), List.mem_of_getElem? (i := 353) (by decide +kernel)⟩
theorem lw_p7 : lw_okq (⟨"FairBoards$Rounds", "hitsAll", "(I)Z"⟩, 8) := ⟨⟨by decide +kernel, by decide +kernel⟩, List.mem_of_getElem? (i := 111) (by decide +kernel), List.mem_of_getElem? (i := 442) (by decide +kernel), List.mem_of_getElem? (i := 443) (by decide +kernel)⟩
theorem lw_p8 : lw_okq (⟨"FairBoards", "refuseFraction", "(IIII)I"⟩, 7) := ⟨⟨by decide +kernel, by decide +kernel⟩, List.mem_of_getElem? (i := 13) (by decide +kernel), List.mem_of_getElem? (i := 470) (by decide +kernel), List.mem_of_getElem? (i := 471) (by decide +kernel)⟩
theorem lw_p9 : lw_okq (⟨"FairBoards$Ways", "goOver", "(LFairBoards$Boards;I)V"⟩, 3) := ⟨⟨by decide +kernel, by decide +kernel⟩, List.mem_of_getElem? (i := 149) (by decide +kernel), List.mem_of_getElem? (i := 480) (by decide +kernel), List.mem_of_getElem? (i := 481) (by decide +kernel)⟩
theorem lw_p10 : lw_okq (⟨"FairBoards", "excess", "(I)I"⟩, 7) := ⟨⟨by decide +kernel, by decide +kernel⟩, List.mem_of_getElem? (i := 13) (by decide +kernel), List.mem_of_getElem? (i := 525) (by decide +kernel), List.mem_of_getElem? (i := 526) (by decide +kernel)⟩
theorem lw_p11 : lw_okq (⟨"FairBoards$Heaps", "firstThatDoes", "(LFairBoards$Boards;III)I"⟩, 2) := ⟨⟨by decide +kernel, by decide +kernel⟩, List.mem_of_getElem? (i := 167) (by decide +kernel), List.mem_of_getElem? (i := 573) (by decide +kernel), List.mem_of_getElem? (i := 574) (by decide +kernel)⟩
theorem lw_p12 : lw_okq (⟨"FairBoards$Walkers", "wearOut", "(II)V"⟩, 3) := ⟨⟨by decide +kernel, by decide +kernel⟩, List.mem_of_getElem? (i := 183) (by decide +kernel), List.mem_of_getElem? (i := 587) (by decide +kernel), List.mem_of_getElem? (i := 588) (by decide +kernel)⟩
theorem lw_p13 : lw_okq (⟨"FairBoardsModel", "add", "(IIII)I"⟩, 30) := ⟨⟨by decide +kernel, by decide +kernel⟩, List.mem_of_getElem? (i := 596) (by decide +kernel), List.mem_of_getElem? (i := 703) (by decide +kernel), List.mem_of_getElem? (i := 704) (by decide +kernel)⟩
theorem lw_p14 : lw_okq (⟨"FairBoardsModel", "isBoard", "(I)Z"⟩, 30) := ⟨⟨by decide +kernel, by decide +kernel⟩, List.mem_of_getElem? (i := 596) (by decide +kernel), List.mem_of_getElem? (i := 712) (by decide +kernel), List.mem_of_getElem? (i := 713) (by decide +kernel)⟩
theorem lw_p15 : lw_okq (⟨"FairBoardsModel", "isOpen", "(I)Z"⟩, 30) := ⟨⟨by decide +kernel, by decide +kernel⟩, List.mem_of_getElem? (i := 596) (by decide +kernel), List.mem_of_getElem? (i := 716) (by decide +kernel), List.mem_of_getElem? (i := 717) (by decide +kernel)⟩
def lw_privs_1 : List (MethodName × Nat) := [(⟨"FairBoards", "forget", "()V"⟩, 7), (⟨"FairBoards$Signs", "passBoard", "()Z"⟩, 7), (⟨"FairBoards$Signs", "passCoins", "(I)Z"⟩, 7), (⟨"FairBoards$Signs", "passOneOf", "(CC)Z"⟩, 7), (⟨"FairBoards", "lookAround", "()V"⟩, 7), (⟨"FairBoards$Rounds", "keep", "(LFairBoards$Boards;J)V"⟩, 8), (⟨"FairBoards$Rounds", "gains", "(I[II)Z"⟩, 8), (⟨"FairBoards$Rounds", "hitsAll", "(I)Z"⟩, 8), (⟨"FairBoards", "refuseFraction", "(IIII)I"⟩, 7), (⟨"FairBoards$Ways", "goOver", "(LFairBoards$Boards;I)V"⟩, 3), (⟨"FairBoards", "excess", "(I)I"⟩, 7), (⟨"FairBoards$Heaps", "firstThatDoes", "(LFairBoards$Boards;III)I"⟩, 2), (⟨"FairBoards$Walkers", "wearOut", "(II)V"⟩, 3), (⟨"FairBoardsModel", "add", "(IIII)I"⟩, 30), (⟨"FairBoardsModel", "isBoard", "(I)Z"⟩, 30), (⟨"FairBoardsModel", "isOpen", "(I)Z"⟩, 30)]
theorem lw_r1 : ∀ q ∈ lw_privs_1, lw_okq q := List.forall_mem_cons.mpr ⟨lw_p0, List.forall_mem_cons.mpr ⟨lw_p1, List.forall_mem_cons.mpr ⟨lw_p2, List.forall_mem_cons.mpr ⟨lw_p3, List.forall_mem_cons.mpr ⟨lw_p4, List.forall_mem_cons.mpr ⟨lw_p5, List.forall_mem_cons.mpr ⟨lw_p6, List.forall_mem_cons.mpr ⟨lw_p7, List.forall_mem_cons.mpr ⟨lw_p8, List.forall_mem_cons.mpr ⟨lw_p9, List.forall_mem_cons.mpr ⟨lw_p10, List.forall_mem_cons.mpr ⟨lw_p11, List.forall_mem_cons.mpr ⟨lw_p12, List.forall_mem_cons.mpr ⟨lw_p13, List.forall_mem_cons.mpr ⟨lw_p14, List.forall_mem_cons.mpr ⟨lw_p15, fun _ h => absurd h List.not_mem_nil⟩⟩⟩⟩⟩⟩⟩⟩⟩⟩⟩⟩⟩⟩⟩⟩
theorem lw_p16 : lw_okq (⟨"FairBoardsModel", "upper", "(I)I"⟩, 30) := ⟨⟨by decide +kernel, by decide +kernel⟩, List.mem_of_getElem? (i := 596) (by decide +kernel), List.mem_of_getElem? (i := 720) (by decide +kernel), List.mem_of_getElem? (i := 721) (by decide +kernel)⟩
theorem lw_p17 : lw_okq (⟨"FairBoardsModel", "faultOf", "()I"⟩, 30) := ⟨⟨by decide +kernel, by decide +kernel⟩, List.mem_of_getElem? (i := 596) (by decide +kernel), List.mem_of_getElem? (i := 751) (by decide +kernel), List.mem_of_getElem? (i := 752) (by decide +kernel)⟩
theorem lw_p18 : lw_okq (⟨"FairBoardsModel", "layRounds", "(I)V"⟩, 30) := ⟨⟨by decide +kernel, by decide +kernel⟩, List.mem_of_getElem? (i := 596) (by decide +kernel), List.mem_of_getElem? (i := 763) (by decide +kernel), List.mem_of_getElem? (i := 764) (by decide +kernel)⟩
theorem lw_p19 : lw_okq (⟨"FairBoardsModel", "keepRound", "(I)V"⟩, 30) := ⟨⟨by decide +kernel, by decide +kernel⟩, List.mem_of_getElem? (i := 596) (by decide +kernel), List.mem_of_getElem? (i := 767) (by decide +kernel), List.mem_of_getElem? (i := 768) (by decide +kernel)⟩
theorem lw_p20 : lw_okq (⟨"FairBoardsModel", "mostOf", "()I"⟩, 30) := ⟨⟨by decide +kernel, by decide +kernel⟩, List.mem_of_getElem? (i := 596) (by decide +kernel), List.mem_of_getElem? (i := 788) (by decide +kernel), List.mem_of_getElem? (i := 789) (by decide +kernel)⟩
theorem lw_p21 : lw_okq (⟨"FairBoardsModel", "someGains", "()Z"⟩, 30) := ⟨⟨by decide +kernel, by decide +kernel⟩, List.mem_of_getElem? (i := 596) (by decide +kernel), List.mem_of_getElem? (i := 822) (by decide +kernel), List.mem_of_getElem? (i := 823) (by decide +kernel)⟩
theorem lw_p22 : lw_okq (⟨"FairBoardsModel", "layGets", "(II)V"⟩, 30) := ⟨⟨by decide +kernel, by decide +kernel⟩, List.mem_of_getElem? (i := 596) (by decide +kernel), List.mem_of_getElem? (i := 827) (by decide +kernel), List.mem_of_getElem? (i := 828) (by decide +kernel)⟩
theorem lw_p23 : lw_okq (⟨"FairBoardsModel", "joinedOf", "(I)I"⟩, 30) := ⟨⟨by decide +kernel, by decide +kernel⟩, List.mem_of_getElem? (i := 596) (by decide +kernel), List.mem_of_getElem? (i := 839) (by decide +kernel), List.mem_of_getElem? (i := 840) (by decide +kernel)⟩
theorem lw_p24 : lw_okq (⟨"FairBoardsModel", "reached", "(I)I"⟩, 30) := ⟨⟨by decide +kernel, by decide +kernel⟩, List.mem_of_getElem? (i := 596) (by decide +kernel), List.mem_of_getElem? (i := 843) (by decide +kernel), List.mem_of_getElem? (i := 844) (by decide +kernel)⟩
theorem lw_p25 : lw_okq (⟨"FairBoardsModel", "layWalk", "(IIII)V"⟩, 30) := ⟨⟨by decide +kernel, by decide +kernel⟩, List.mem_of_getElem? (i := 596) (by decide +kernel), List.mem_of_getElem? (i := 863) (by decide +kernel), List.mem_of_getElem? (i := 864) (by decide +kernel)⟩
theorem lw_p26 : lw_okq (⟨"FairBoardsModel", "look", "(II)V"⟩, 30) := ⟨⟨by decide +kernel, by decide +kernel⟩, List.mem_of_getElem? (i := 596) (by decide +kernel), List.mem_of_getElem? (i := 867) (by decide +kernel), List.mem_of_getElem? (i := 868) (by decide +kernel)⟩
def lw_privs_2 : List (MethodName × Nat) := [(⟨"FairBoardsModel", "upper", "(I)I"⟩, 30), (⟨"FairBoardsModel", "faultOf", "()I"⟩, 30), (⟨"FairBoardsModel", "layRounds", "(I)V"⟩, 30), (⟨"FairBoardsModel", "keepRound", "(I)V"⟩, 30), (⟨"FairBoardsModel", "mostOf", "()I"⟩, 30), (⟨"FairBoardsModel", "someGains", "()Z"⟩, 30), (⟨"FairBoardsModel", "layGets", "(II)V"⟩, 30), (⟨"FairBoardsModel", "joinedOf", "(I)I"⟩, 30), (⟨"FairBoardsModel", "reached", "(I)I"⟩, 30), (⟨"FairBoardsModel", "layWalk", "(IIII)V"⟩, 30), (⟨"FairBoardsModel", "look", "(II)V"⟩, 30)]
theorem lw_r2 : ∀ q ∈ lw_privs_2, lw_okq q := List.forall_mem_cons.mpr ⟨lw_p16, List.forall_mem_cons.mpr ⟨lw_p17, List.forall_mem_cons.mpr ⟨lw_p18, List.forall_mem_cons.mpr ⟨lw_p19, List.forall_mem_cons.mpr ⟨lw_p20, List.forall_mem_cons.mpr ⟨lw_p21, List.forall_mem_cons.mpr ⟨lw_p22, List.forall_mem_cons.mpr ⟨lw_p23, List.forall_mem_cons.mpr ⟨lw_p24, List.forall_mem_cons.mpr ⟨lw_p25, List.forall_mem_cons.mpr ⟨lw_p26, fun _ h => absurd h List.not_mem_nil⟩⟩⟩⟩⟩⟩⟩⟩⟩⟩⟩
def lw_privs : List (MethodName × Nat) := lw_privs_1 ++ (lw_privs_2)
def lw_tbl : List Cond := k2_sels lw_privs ++ tables_1
theorem lw_privs_ok : ∀ q ∈ lw_privs, lw_okq q := by
  show ∀ q ∈ lw_privs_1 ++ (lw_privs_2), lw_okq q
  exact List.forall_mem_append.mpr ⟨lw_r1, lw_r2⟩
end
section
/-! ===== BEGIN words of one list among another's, by their places ===== -/
theorem goodIn_r {big : List Cond} (ws : List Cond) (ps : List Nat) (hp : ws = ps.filterMap (fun i => big[i]?)) (h : ws.all goodWord = true) : GoodIn big ws := by
  intro w hw
  have h1 := List.all_eq_true.mp h w hw
  rw [hp] at hw
  obtain ⟨i, -, hi⟩ := List.mem_filterMap.mp hw
  have hm : w ∈ big := by first | exact List.mem_of_getElem? hi | exact List.getElem?_mem hi
  exact ⟨hm, good_of_word h1⟩
theorem goodIn_app {big a b : List Cond} (ha : GoodIn big a) (hb : GoodIn big b) : GoodIn big (a ++ b) := fun w h => (List.mem_append.mp h).elim (ha w) (hb w)
theorem goodIn_ca {big a b : List Cond} {c : Cond} (ha : GoodIn big (c :: a)) (hb : GoodIn big b) : GoodIn big (c :: (a ++ b)) := fun w h => (List.mem_cons.mp h).elim (fun e => ha w (List.mem_cons.mpr (Or.inl e))) (fun h => (List.mem_append.mp h).elim (fun h => ha w (List.mem_cons.mpr (Or.inr h))) (hb w))
theorem goodIn_sub {big ws : List Cond} (hm : ∀ w ∈ ws, w ∈ big) (h : ws.all goodWord = true) : GoodIn big ws := fun w hw => ⟨hm w hw, good_of_word (List.all_eq_true.mp h w hw)⟩
/-! ===== END ===== -/

def RX0 : String := "FairBoards$Boards"
def TX0 : u_T := fun k => match k with
  | 0 => ("FairBoards$Boards", "from", "[I", true)
  | 1 => ("FairBoards$Boards", "takes", "[I", true)
  | 2 => ("FairBoards$Boards", "to", "[I", true)
  | 3 => ("FairBoards$Boards", "gives", "[I", true)
  | 4 => ("FairBoards$Boards", "since", "[I", true)
  | 5 => ("FairBoards$Boards", "till", "[I", true)
  | 6 => ("FairBoards$Boards", "most", "[I", true)
  | 7 => ("FairBoards$Boards", "settings", "[I", true)
  | _ => ("FairBoards$Boards", "count", "I", false)
def tyX0 : Nat → FieldType := fun k => match k with
  | 0 => .array .int
  | 1 => .array .int
  | 2 => .array .int
  | 3 => .array .int
  | 4 => .array .int
  | 5 => .array .int
  | 6 => .array .int
  | 7 => .array .int
  | _ => .int
abbrev wsX00 : List Cond := u_ws RX0 TX0 9
theorem nmX0 : ∀ a, a < 9 → ∀ b, b < 9 → a ≠ b → (TX0 a).2.1 ≠ (TX0 b).2.1 := by decide +kernel
theorem tyX0_ok : ∀ k, k < 9 → parseFieldDescriptor (TX0 k).2.2.1 = some (tyX0 k) := by decide +kernel
abbrev cX0_init : ByteArray := prog_2_method_1_code
def yX0_init : MethodName := ⟨RX0, "<init>", "()V"⟩
abbrev cX0_has : ByteArray := prog_2_method_2_code
def yX0_has : MethodName := ⟨RX0, "has", "(I)Z"⟩
abbrev cX0_add : ByteArray := prog_2_method_3_code
def yX0_add : MethodName := ⟨RX0, "add", "(IIII)V"⟩
abbrev cX0_isOpen : ByteArray := prog_2_method_4_code
def yX0_isOpen : MethodName := ⟨RX0, "isOpen", "(I)Z"⟩
abbrev cX0_openBits : ByteArray := prog_2_method_5_code
def yX0_openBits : MethodName := ⟨RX0, "openBits", "()I"⟩
abbrev cX0_upper : ByteArray := prog_2_method_6_code
def yX0_upper : MethodName := ⟨RX0, "upper", "(I)I"⟩
abbrev cX0_wholes : ByteArray := prog_2_method_7_code
def yX0_wholes : MethodName := ⟨RX0, "wholes", "(II)I"⟩
abbrev cX0_heapBehind : ByteArray := prog_2_method_8_code
def yX0_heapBehind : MethodName := ⟨RX0, "heapBehind", "(II)I"⟩
def RX1 : String := "FairBoards$Heaps"
def TX1 : u_T := fun k => match k with
  | 0 => ("FairBoards$Heaps", "greatest", "[[I", true)
  | _ => ("FairBoards$Heaps", "needed", "[[I", true)
def tyX1 : Nat → FieldType := fun k => match k with
  | 0 => .array (.array .int)
  | _ => .array (.array .int)
abbrev wsX10 : List Cond := u_ws RX1 TX1 2
theorem nmX1 : ∀ a, a < 2 → ∀ b, b < 2 → a ≠ b → (TX1 a).2.1 ≠ (TX1 b).2.1 := by decide +kernel
theorem tyX1_ok : ∀ k, k < 2 → parseFieldDescriptor (TX1 k).2.2.1 = some (tyX1 k) := by decide +kernel
abbrev cX1_init : ByteArray := prog_3_method_1_code
def yX1_init : MethodName := ⟨RX1, "<init>", "()V"⟩
abbrev cX1_goAll : ByteArray := prog_3_method_2_code
def yX1_goAll : MethodName := ⟨RX1, "goAll", "(LFairBoards$Boards;III)V"⟩
abbrev cX1_bestSteps : ByteArray := prog_3_method_3_code
def yX1_bestSteps : MethodName := ⟨RX1, "bestSteps", "(II)I"⟩
abbrev cX1_lookBack : ByteArray := prog_3_method_4_code
def yX1_lookBack : MethodName := ⟨RX1, "lookBack", "(LFairBoards$Boards;II)V"⟩
abbrev cX1_neededAhead : ByteArray := prog_3_method_5_code
def yX1_neededAhead : MethodName := ⟨RX1, "neededAhead", "(LFairBoards$Boards;II)I"⟩
abbrev cX1_boardOnWay : ByteArray := prog_3_method_6_code
def yX1_boardOnWay : MethodName := ⟨RX1, "boardOnWay", "(LFairBoards$Boards;III)I"⟩
abbrev cX1_firstThatDoes : ByteArray := prog_3_method_7_code
def yX1_firstThatDoes : MethodName := ⟨RX1, "firstThatDoes", "(LFairBoards$Boards;III)I"⟩
def RX2 : String := "FairBoards$Rounds"
def TX2 : u_T := fun k => match k with
  | 0 => ("FairBoards$Rounds", "path", "[J", true)
  | 1 => ("FairBoards$Rounds", "lower", "[J", true)
  | 2 => ("FairBoards$Rounds", "bits", "[I", true)
  | 3 => ("FairBoards$Rounds", "gaining", "[I", true)
  | 4 => ("FairBoards$Rounds", "tried", "[I", true)
  | 5 => ("FairBoards$Rounds", "count", "I", false)
  | 6 => ("FairBoards$Rounds", "gainers", "I", false)
  | _ => ("FairBoards$Rounds", "known", "Z", false)
def tyX2 : Nat → FieldType := fun k => match k with
  | 0 => .array .long
  | 1 => .array .long
  | 2 => .array .int
  | 3 => .array .int
  | 4 => .array .int
  | 5 => .int
  | 6 => .int
  | _ => .boolean
abbrev wsX20 : List Cond := u_ws RX2 TX2 8
theorem nmX2 : ∀ a, a < 8 → ∀ b, b < 8 → a ≠ b → (TX2 a).2.1 ≠ (TX2 b).2.1 := by decide +kernel
theorem tyX2_ok : ∀ k, k < 8 → parseFieldDescriptor (TX2 k).2.2.1 = some (tyX2 k) := by decide +kernel
abbrev cX2_init : ByteArray := prog_4_method_1_code
def yX2_init : MethodName := ⟨RX2, "<init>", "()V"⟩
abbrev cX2_findAll : ByteArray := prog_4_method_2_code
def yX2_findAll : MethodName := ⟨RX2, "findAll", "(LFairBoards$Boards;)V"⟩
abbrev cX2_goOn : ByteArray := prog_4_method_3_code
def yX2_goOn : MethodName := ⟨RX2, "goOn", "(LFairBoards$Rounds;LFairBoards$Boards;IIIJI)V"⟩
abbrev cX2_keep : ByteArray := prog_4_method_4_code
def yX2_keep : MethodName := ⟨RX2, "keep", "(LFairBoards$Boards;J)V"⟩
abbrev cX2_boardAt : ByteArray := prog_4_method_5_code
def yX2_boardAt : MethodName := ⟨RX2, "boardAt", "(II)I"⟩
abbrev cX2_length : ByteArray := prog_4_method_6_code
def yX2_length : MethodName := ⟨RX2, "length", "(I)I"⟩
abbrev cX2_upper : ByteArray := prog_4_method_7_code
def yX2_upper : MethodName := ⟨RX2, "upper", "(I[II)J"⟩
abbrev cX2_gains : ByteArray := prog_4_method_8_code
def yX2_gains : MethodName := ⟨RX2, "gains", "(I[II)Z"⟩
abbrev cX2_anyGains : ByteArray := prog_4_method_9_code
def yX2_anyGains : MethodName := ⟨RX2, "anyGains", "([II)Z"⟩
abbrev cX2_hasGainer : ByteArray := prog_4_method_10_code
def yX2_hasGainer : MethodName := ⟨RX2, "hasGainer", "(I)Z"⟩
abbrev cX2_numberOfGainer : ByteArray := prog_4_method_11_code
def yX2_numberOfGainer : MethodName := ⟨RX2, "numberOfGainer", "(I)I"⟩
abbrev cX2_greatest : ByteArray := prog_4_method_12_code
def yX2_greatest : MethodName := ⟨RX2, "greatest", "([II)I"⟩
abbrev cX2_shortest : ByteArray := prog_4_method_13_code
def yX2_shortest : MethodName := ⟨RX2, "shortest", "()I"⟩
abbrev cX2_countThrough : ByteArray := prog_4_method_14_code
def yX2_countThrough : MethodName := ⟨RX2, "countThrough", "(I)I"⟩
abbrev cX2_commonBits : ByteArray := prog_4_method_15_code
def yX2_commonBits : MethodName := ⟨RX2, "commonBits", "()I"⟩
abbrev cX2_fewestThatHit : ByteArray := prog_4_method_16_code
def yX2_fewestThatHit : MethodName := ⟨RX2, "fewestThatHit", "(I)I"⟩
abbrev cX2_hitsAll : ByteArray := prog_4_method_17_code
def yX2_hitsAll : MethodName := ⟨RX2, "hitsAll", "(I)Z"⟩
abbrev cX2_leastMove : ByteArray := prog_4_method_18_code
def yX2_leastMove : MethodName := ⟨RX2, "leastMove", "(LFairBoards$Boards;I)I"⟩
def RX3 : String := "FairBoards$Signs"
def TX3 : u_T := fun k => match k with
  | 0 => ("FairBoards$Signs", "row", "[C", true)
  | 1 => ("FairBoards$Signs", "count", "I", false)
  | 2 => ("FairBoards$Signs", "place", "I", false)
  | 3 => ("FairBoards$Signs", "amount", "I", false)
  | 4 => ("FairBoards$Signs", "coin", "I", false)
  | 5 => ("FairBoards$Signs", "takes", "I", false)
  | _ => ("FairBoards$Signs", "from", "I", false)
def tyX3 : Nat → FieldType := fun k => match k with
  | 0 => .array .char
  | 1 => .int
  | 2 => .int
  | 3 => .int
  | 4 => .int
  | 5 => .int
  | _ => .int
abbrev wsX30 : List Cond := u_ws RX3 TX3 7
theorem nmX3 : ∀ a, a < 7 → ∀ b, b < 7 → a ≠ b → (TX3 a).2.1 ≠ (TX3 b).2.1 := by decide +kernel
theorem tyX3_ok : ∀ k, k < 7 → parseFieldDescriptor (TX3 k).2.2.1 = some (tyX3 k) := by decide +kernel
abbrev cX3_init : ByteArray := prog_5_method_1_code
def yX3_init : MethodName := ⟨RX3, "<init>", "()V"⟩
abbrev cX3_add : ByteArray := prog_5_method_2_code
def yX3_add : MethodName := ⟨RX3, "add", "(I)V"⟩
abbrev cX3_faultPlace : ByteArray := prog_5_method_3_code
def yX3_faultPlace : MethodName := ⟨RX3, "faultPlace", "()I"⟩
abbrev cX3_countBoards : ByteArray := prog_5_method_4_code
def yX3_countBoards : MethodName := ⟨RX3, "countBoards", "()I"⟩
abbrev cX3_hangUp : ByteArray := prog_5_method_5_code
def yX3_hangUp : MethodName := ⟨RX3, "hangUp", "(LFairBoards$Boards;I)V"⟩
abbrev cX3_passBoard : ByteArray := prog_5_method_6_code
def yX3_passBoard : MethodName := ⟨RX3, "passBoard", "()Z"⟩
abbrev cX3_passCoins : ByteArray := prog_5_method_7_code
def yX3_passCoins : MethodName := ⟨RX3, "passCoins", "(I)Z"⟩
abbrev cX3_passOneOf : ByteArray := prog_5_method_8_code
def yX3_passOneOf : MethodName := ⟨RX3, "passOneOf", "(CC)Z"⟩
def RX4 : String := "FairBoards$Walkers"
def TX4 : u_T := fun k => match k with
  | 0 => ("FairBoards$Walkers", "gives", "[I", true)
  | 1 => ("FairBoards$Walkers", "went", "I", false)
  | _ => ("FairBoards$Walkers", "known", "Z", false)
def tyX4 : Nat → FieldType := fun k => match k with
  | 0 => .array .int
  | 1 => .int
  | _ => .boolean
abbrev wsX40 : List Cond := u_ws RX4 TX4 3
theorem nmX4 : ∀ a, a < 3 → ∀ b, b < 3 → a ≠ b → (TX4 a).2.1 ≠ (TX4 b).2.1 := by decide +kernel
theorem tyX4_ok : ∀ k, k < 3 → parseFieldDescriptor (TX4 k).2.2.1 = some (tyX4 k) := by decide +kernel
abbrev cX4_init : ByteArray := prog_6_method_1_code
def yX4_init : MethodName := ⟨RX4, "<init>", "()V"⟩
abbrev cX4_send : ByteArray := prog_6_method_2_code
def yX4_send : MethodName := ⟨RX4, "send", "(LFairBoards$Boards;LFairBoards$Rounds;)V"⟩
abbrev cX4_wearOut : ByteArray := prog_6_method_3_code
def yX4_wearOut : MethodName := ⟨RX4, "wearOut", "(II)V"⟩
def RX5 : String := "FairBoards$Ways"
def TX5 : u_T := fun k => match k with
  | 0 => ("FairBoards$Ways", "upper", "[J", true)
  | 1 => ("FairBoards$Ways", "lower", "[J", true)
  | _ => ("FairBoards$Ways", "reach", "[I", true)
def tyX5 : Nat → FieldType := fun k => match k with
  | 0 => .array .long
  | 1 => .array .long
  | _ => .array .int
abbrev wsX50 : List Cond := u_ws RX5 TX5 3
theorem nmX5 : ∀ a, a < 3 → ∀ b, b < 3 → a ≠ b → (TX5 a).2.1 ≠ (TX5 b).2.1 := by decide +kernel
theorem tyX5_ok : ∀ k, k < 3 → parseFieldDescriptor (TX5 k).2.2.1 = some (tyX5 k) := by decide +kernel
abbrev cX5_init : ByteArray := prog_7_method_1_code
def yX5_init : MethodName := ⟨RX5, "<init>", "()V"⟩
abbrev cX5_spread : ByteArray := prog_7_method_2_code
def yX5_spread : MethodName := ⟨RX5, "spread", "(LFairBoards$Boards;I)V"⟩
abbrev cX5_goOver : ByteArray := prog_7_method_3_code
def yX5_goOver : MethodName := ⟨RX5, "goOver", "(LFairBoards$Boards;I)V"⟩
abbrev cX5_reachOut : ByteArray := prog_7_method_4_code
def yX5_reachOut : MethodName := ⟨RX5, "reachOut", "(LFairBoards$Boards;)V"⟩
abbrev cX5_joinedBits : ByteArray := prog_7_method_5_code
def yX5_joinedBits : MethodName := ⟨RX5, "joinedBits", "(I)I"⟩
abbrev cX5_countSets : ByteArray := prog_7_method_6_code
def yX5_countSets : MethodName := ⟨RX5, "countSets", "()I"⟩
def RX6 : String := "FairBoards"
def TX6 : u_T := fun k => match k with
  | 0 => ("FairBoards", "boards", "LFairBoards$Boards;", true)
  | 1 => ("FairBoards", "signs", "LFairBoards$Signs;", true)
  | 2 => ("FairBoards", "found", "LFairBoards$Rounds;", true)
  | 3 => ("FairBoards", "ways", "LFairBoards$Ways;", true)
  | 4 => ("FairBoards", "heaps", "LFairBoards$Heaps;", true)
  | 5 => ("FairBoards", "sent", "LFairBoards$Walkers;", true)
  | _ => ("FairBoards", "worths", "[I", true)
def tyX6 : Nat → FieldType := fun k => match k with
  | 0 => .object "FairBoards$Boards"
  | 1 => .object "FairBoards$Signs"
  | 2 => .object "FairBoards$Rounds"
  | 3 => .object "FairBoards$Ways"
  | 4 => .object "FairBoards$Heaps"
  | 5 => .object "FairBoards$Walkers"
  | _ => .array .int
abbrev wsX60 : List Cond := u_ws RX6 TX6 7
theorem nmX6 : ∀ a, a < 7 → ∀ b, b < 7 → a ≠ b → (TX6 a).2.1 ≠ (TX6 b).2.1 := by decide +kernel
theorem tyX6_ok : ∀ k, k < 7 → parseFieldDescriptor (TX6 k).2.2.1 = some (tyX6 k) := by decide +kernel
abbrev cX6_init : ByteArray := prog_1_method_1_code
def yX6_init : MethodName := ⟨RX6, "<init>", "()V"⟩
abbrev cX6_board : ByteArray := prog_1_method_2_code
def yX6_board : MethodName := ⟨RX6, "board", "(IIII)I"⟩
abbrev cX6_of : ByteArray := prog_1_method_3_code
def yX6_of : MethodName := ⟨RX6, "of", "(II)I"⟩
abbrev cX6_change : ByteArray := prog_1_method_4_code
def yX6_change : MethodName := ⟨RX6, "change", "(III)I"⟩
abbrev cX6_hours : ByteArray := prog_1_method_5_code
def yX6_hours : MethodName := ⟨RX6, "hours", "(III)I"⟩
abbrev cX6_set : ByteArray := prog_1_method_6_code
def yX6_set : MethodName := ⟨RX6, "set", "(II)I"⟩
abbrev cX6_say : ByteArray := prog_1_method_7_code
def yX6_say : MethodName := ⟨RX6, "say", "(I)I"⟩
abbrev cX6_wipe : ByteArray := prog_1_method_8_code
def yX6_wipe : MethodName := ⟨RX6, "wipe", "()I"⟩
abbrev cX6_fault : ByteArray := prog_1_method_9_code
def yX6_fault : MethodName := ⟨RX6, "fault", "()I"⟩
abbrev cX6_read : ByteArray := prog_1_method_10_code
def yX6_read : MethodName := ⟨RX6, "read", "()I"⟩
abbrev cX6_rounds : ByteArray := prog_1_method_11_code
def yX6_rounds : MethodName := ⟨RX6, "rounds", "(I)I"⟩
abbrev cX6_round : ByteArray := prog_1_method_12_code
def yX6_round : MethodName := ⟨RX6, "round", "(II)I"⟩
abbrev cX6_product : ByteArray := prog_1_method_13_code
def yX6_product : MethodName := ⟨RX6, "product", "(II)J"⟩
abbrev cX6_best : ByteArray := prog_1_method_14_code
def yX6_best : MethodName := ⟨RX6, "best", "(I)I"⟩
abbrev cX6_through : ByteArray := prog_1_method_15_code
def yX6_through : MethodName := ⟨RX6, "through", "(I)I"⟩
abbrev cX6_blamed : ByteArray := prog_1_method_16_code
def yX6_blamed : MethodName := ⟨RX6, "blamed", "()I"⟩
abbrev cX6_cut : ByteArray := prog_1_method_17_code
def yX6_cut : MethodName := ⟨RX6, "cut", "()I"⟩
abbrev cX6_move : ByteArray := prog_1_method_18_code
def yX6_move : MethodName := ⟨RX6, "move", "(I)I"⟩
abbrev cX6_edge : ByteArray := prog_1_method_19_code
def yX6_edge : MethodName := ⟨RX6, "edge", "()I"⟩
abbrev cX6_gets : ByteArray := prog_1_method_20_code
def yX6_gets : MethodName := ⟨RX6, "gets", "(III)J"⟩
abbrev cX6_span : ByteArray := prog_1_method_21_code
def yX6_span : MethodName := ⟨RX6, "span", "(IIII)J"⟩
abbrev cX6_joined : ByteArray := prog_1_method_22_code
def yX6_joined : MethodName := ⟨RX6, "joined", "(I)I"⟩
abbrev cX6_parts : ByteArray := prog_1_method_23_code
def yX6_parts : MethodName := ⟨RX6, "parts", "()I"⟩
abbrev cX6_worth : ByteArray := prog_1_method_24_code
def yX6_worth : MethodName := ⟨RX6, "worth", "(II)I"⟩
abbrev cX6_off : ByteArray := prog_1_method_25_code
def yX6_off : MethodName := ⟨RX6, "off", "(I)I"⟩
abbrev cX6_walk : ByteArray := prog_1_method_26_code
def yX6_walk : MethodName := ⟨RX6, "walk", "(IIIII)I"⟩
abbrev cX6_walkers : ByteArray := prog_1_method_27_code
def yX6_walkers : MethodName := ⟨RX6, "walkers", "(I)I"⟩
abbrev cX6_told : ByteArray := prog_1_method_28_code
def yX6_told : MethodName := ⟨RX6, "told", "(I)I"⟩
abbrev cX6_isCoin : ByteArray := prog_1_method_29_code
def yX6_isCoin : MethodName := ⟨RX6, "isCoin", "(I)Z"⟩
abbrev cX6_isWithin : ByteArray := prog_1_method_30_code
def yX6_isWithin : MethodName := ⟨RX6, "isWithin", "(III)Z"⟩
abbrev cX6_rateUpper : ByteArray := prog_1_method_31_code
def yX6_rateUpper : MethodName := ⟨RX6, "rateUpper", "(II)I"⟩
abbrev cX6_greatestDivisor : ByteArray := prog_1_method_32_code
def yX6_greatestDivisor : MethodName := ⟨RX6, "greatestDivisor", "(JJ)J"⟩
abbrev cX6_inLowestTerms : ByteArray := prog_1_method_33_code
def yX6_inLowestTerms : MethodName := ⟨RX6, "inLowestTerms", "(JJ)J"⟩
abbrev cX6_isAbove : ByteArray := prog_1_method_34_code
def yX6_isAbove : MethodName := ⟨RX6, "isAbove", "(JJJJ)Z"⟩
abbrev cX6_forget : ByteArray := prog_1_method_35_code
def yX6_forget : MethodName := ⟨RX6, "forget", "()V"⟩
abbrev cX6_lookAround : ByteArray := prog_1_method_36_code
def yX6_lookAround : MethodName := ⟨RX6, "lookAround", "()V"⟩
abbrev cX6_refuseFraction : ByteArray := prog_1_method_37_code
def yX6_refuseFraction : MethodName := ⟨RX6, "refuseFraction", "(IIII)I"⟩
abbrev cX6_excess : ByteArray := prog_1_method_38_code
def yX6_excess : MethodName := ⟨RX6, "excess", "(I)I"⟩
def RX7 : String := "FairBoardsModel"
def TX7 : u_T := fun k => match k with
  | 0 => ("FairBoardsModel", "boards", "I", false)
  | 1 => ("FairBoardsModel", "from", "[I", true)
  | 2 => ("FairBoardsModel", "takes", "[I", true)
  | 3 => ("FairBoardsModel", "to", "[I", true)
  | 4 => ("FairBoardsModel", "gives", "[I", true)
  | 5 => ("FairBoardsModel", "first", "[I", true)
  | 6 => ("FairBoardsModel", "till", "[I", true)
  | 7 => ("FairBoardsModel", "most", "[I", true)
  | 8 => ("FairBoardsModel", "told", "[I", true)
  | 9 => ("FairBoardsModel", "signs", "I", false)
  | 10 => ("FairBoardsModel", "sign", "[I", true)
  | 11 => ("FairBoardsModel", "worth", "[I", true)
  | 12 => ("FairBoardsModel", "all", "I", false)
  | 13 => ("FairBoardsModel", "gains", "I", false)
  | 14 => ("FairBoardsModel", "roundMany", "[I", true)
  | 15 => ("FairBoardsModel", "roundSet", "[I", true)
  | 16 => ("FairBoardsModel", "roundBoard", "[I", true)
  | 17 => ("FairBoardsModel", "roundUp", "[J", true)
  | 18 => ("FairBoardsModel", "roundLow", "[J", true)
  | 19 => ("FairBoardsModel", "pile", "[I", true)
  | 20 => ("FairBoardsModel", "up", "[J", true)
  | 21 => ("FairBoardsModel", "low", "[J", true)
  | 22 => ("FairBoardsModel", "getsUp", "J", false)
  | 23 => ("FairBoardsModel", "getsLow", "J", false)
  | 24 => ("FairBoardsModel", "bestHeap", "I", false)
  | 25 => ("FairBoardsModel", "bestMany", "I", false)
  | 26 => ("FairBoardsModel", "bestWalk", "[I", true)
  | 27 => ("FairBoardsModel", "heaps", "[I", true)
  | 28 => ("FairBoardsModel", "coins", "[I", true)
  | _ => ("FairBoardsModel", "kept", "[I", true)
def tyX7 : Nat → FieldType := fun k => match k with
  | 0 => .int
  | 1 => .array .int
  | 2 => .array .int
  | 3 => .array .int
  | 4 => .array .int
  | 5 => .array .int
  | 6 => .array .int
  | 7 => .array .int
  | 8 => .array .int
  | 9 => .int
  | 10 => .array .int
  | 11 => .array .int
  | 12 => .int
  | 13 => .int
  | 14 => .array .int
  | 15 => .array .int
  | 16 => .array .int
  | 17 => .array .long
  | 18 => .array .long
  | 19 => .array .int
  | 20 => .array .long
  | 21 => .array .long
  | 22 => .long
  | 23 => .long
  | 24 => .int
  | 25 => .int
  | 26 => .array .int
  | 27 => .array .int
  | 28 => .array .int
  | _ => .array .int
abbrev wsX70 : List Cond := u_ws RX7 TX7 30
theorem nmX7 : ∀ a, a < 30 → ∀ b, b < 30 → a ≠ b → (TX7 a).2.1 ≠ (TX7 b).2.1 := by decide +kernel
theorem tyX7_ok : ∀ k, k < 30 → parseFieldDescriptor (TX7 k).2.2.1 = some (tyX7 k) := by decide +kernel
abbrev cX7_init : ByteArray := prog_9_method_1_code
def yX7_init : MethodName := ⟨RX7, "<init>", "()V"⟩
abbrev cX7_in : ByteArray := prog_9_method_2_code
def yX7_in : MethodName := ⟨RX7, "in", "(III)Z"⟩
abbrev cX7_isCoin : ByteArray := prog_9_method_3_code
def yX7_isCoin : MethodName := ⟨RX7, "isCoin", "(I)Z"⟩
abbrev cX7_isBoard : ByteArray := prog_9_method_4_code
def yX7_isBoard : MethodName := ⟨RX7, "isBoard", "(I)Z"⟩
abbrev cX7_add : ByteArray := prog_9_method_5_code
def yX7_add : MethodName := ⟨RX7, "add", "(IIII)I"⟩
abbrev cX7_board : ByteArray := prog_9_method_6_code
def yX7_board : MethodName := ⟨RX7, "board", "(IIII)I"⟩
abbrev cX7_isOpen : ByteArray := prog_9_method_7_code
def yX7_isOpen : MethodName := ⟨RX7, "isOpen", "(I)Z"⟩
abbrev cX7_upper : ByteArray := prog_9_method_8_code
def yX7_upper : MethodName := ⟨RX7, "upper", "(I)I"⟩
abbrev cX7_of : ByteArray := prog_9_method_9_code
def yX7_of : MethodName := ⟨RX7, "of", "(II)I"⟩
abbrev cX7_change : ByteArray := prog_9_method_10_code
def yX7_change : MethodName := ⟨RX7, "change", "(III)I"⟩
abbrev cX7_isHour : ByteArray := prog_9_method_11_code
def yX7_isHour : MethodName := ⟨RX7, "isHour", "(I)Z"⟩
abbrev cX7_hours : ByteArray := prog_9_method_12_code
def yX7_hours : MethodName := ⟨RX7, "hours", "(III)I"⟩
abbrev cX7_set : ByteArray := prog_9_method_13_code
def yX7_set : MethodName := ⟨RX7, "set", "(II)I"⟩
abbrev cX7_say : ByteArray := prog_9_method_14_code
def yX7_say : MethodName := ⟨RX7, "say", "(I)I"⟩
abbrev cX7_wipe : ByteArray := prog_9_method_15_code
def yX7_wipe : MethodName := ⟨RX7, "wipe", "()I"⟩
abbrev cX7_faultOf : ByteArray := prog_9_method_16_code
def yX7_faultOf : MethodName := ⟨RX7, "faultOf", "()I"⟩
abbrev cX7_fault : ByteArray := prog_9_method_17_code
def yX7_fault : MethodName := ⟨RX7, "fault", "()I"⟩
abbrev cX7_read : ByteArray := prog_9_method_18_code
def yX7_read : MethodName := ⟨RX7, "read", "()I"⟩
abbrev cX7_held : ByteArray := prog_9_method_19_code
def yX7_held : MethodName := ⟨RX7, "held", "(JJJJ)I"⟩
abbrev cX7_keepRound : ByteArray := prog_9_method_20_code
def yX7_keepRound : MethodName := ⟨RX7, "keepRound", "(I)V"⟩
abbrev cX7_layRounds : ByteArray := prog_9_method_21_code
def yX7_layRounds : MethodName := ⟨RX7, "layRounds", "(I)V"⟩
abbrev cX7_rounds : ByteArray := prog_9_method_22_code
def yX7_rounds : MethodName := ⟨RX7, "rounds", "(I)I"⟩
abbrev cX7_round : ByteArray := prog_9_method_23_code
def yX7_round : MethodName := ⟨RX7, "round", "(II)I"⟩
abbrev cX7_term : ByteArray := prog_9_method_24_code
def yX7_term : MethodName := ⟨RX7, "term", "(JJI)J"⟩
abbrev cX7_product : ByteArray := prog_9_method_25_code
def yX7_product : MethodName := ⟨RX7, "product", "(II)J"⟩
abbrev cX7_mostOf : ByteArray := prog_9_method_26_code
def yX7_mostOf : MethodName := ⟨RX7, "mostOf", "()I"⟩
abbrev cX7_best : ByteArray := prog_9_method_27_code
def yX7_best : MethodName := ⟨RX7, "best", "(I)I"⟩
abbrev cX7_through : ByteArray := prog_9_method_28_code
def yX7_through : MethodName := ⟨RX7, "through", "(I)I"⟩
abbrev cX7_blamed : ByteArray := prog_9_method_29_code
def yX7_blamed : MethodName := ⟨RX7, "blamed", "()I"⟩
abbrev cX7_bits : ByteArray := prog_9_method_30_code
def yX7_bits : MethodName := ⟨RX7, "bits", "(I)I"⟩
abbrev cX7_cut : ByteArray := prog_9_method_31_code
def yX7_cut : MethodName := ⟨RX7, "cut", "()I"⟩
abbrev cX7_move : ByteArray := prog_9_method_32_code
def yX7_move : MethodName := ⟨RX7, "move", "(I)I"⟩
abbrev cX7_edge : ByteArray := prog_9_method_33_code
def yX7_edge : MethodName := ⟨RX7, "edge", "()I"⟩
abbrev cX7_layGets : ByteArray := prog_9_method_34_code
def yX7_layGets : MethodName := ⟨RX7, "layGets", "(II)V"⟩
abbrev cX7_someGains : ByteArray := prog_9_method_35_code
def yX7_someGains : MethodName := ⟨RX7, "someGains", "()Z"⟩
abbrev cX7_gets : ByteArray := prog_9_method_36_code
def yX7_gets : MethodName := ⟨RX7, "gets", "(III)J"⟩
abbrev cX7_span : ByteArray := prog_9_method_37_code
def yX7_span : MethodName := ⟨RX7, "span", "(IIII)J"⟩
abbrev cX7_reached : ByteArray := prog_9_method_38_code
def yX7_reached : MethodName := ⟨RX7, "reached", "(I)I"⟩
abbrev cX7_joinedOf : ByteArray := prog_9_method_39_code
def yX7_joinedOf : MethodName := ⟨RX7, "joinedOf", "(I)I"⟩
abbrev cX7_joined : ByteArray := prog_9_method_40_code
def yX7_joined : MethodName := ⟨RX7, "joined", "(I)I"⟩
abbrev cX7_parts : ByteArray := prog_9_method_41_code
def yX7_parts : MethodName := ⟨RX7, "parts", "()I"⟩
abbrev cX7_worth : ByteArray := prog_9_method_42_code
def yX7_worth : MethodName := ⟨RX7, "worth", "(II)I"⟩
abbrev cX7_off : ByteArray := prog_9_method_43_code
def yX7_off : MethodName := ⟨RX7, "off", "(I)I"⟩
abbrev cX7_look : ByteArray := prog_9_method_44_code
def yX7_look : MethodName := ⟨RX7, "look", "(II)V"⟩
abbrev cX7_layWalk : ByteArray := prog_9_method_45_code
def yX7_layWalk : MethodName := ⟨RX7, "layWalk", "(IIII)V"⟩
abbrev cX7_walk : ByteArray := prog_9_method_46_code
def yX7_walk : MethodName := ⟨RX7, "walk", "(IIIII)I"⟩
abbrev cX7_walkers : ByteArray := prog_9_method_47_code
def yX7_walkers : MethodName := ⟨RX7, "walkers", "(I)I"⟩
abbrev cX7_told : ByteArray := prog_9_method_48_code
def yX7_told : MethodName := ⟨RX7, "told", "(I)I"⟩
def RJ6 : String := "java/lang/Integer"
def TJ6 : u_T := fun k => match k with
  | _ => ("", "", "", false)
def tyJ6 : Nat → FieldType := fun k => match k with
  | _ => .int
abbrev wsJ60 : List Cond := u_ws RJ6 TJ6 0
theorem nmJ6 : ∀ a, a < 0 → ∀ b, b < 0 → a ≠ b → (TJ6 a).2.1 ≠ (TJ6 b).2.1 := by decide +kernel
theorem tyJ6_ok : ∀ k, k < 0 → parseFieldDescriptor (TJ6 k).2.2.1 = some (tyJ6 k) := by decide +kernel
abbrev cJ6_lowestOneBit_0f7a4 : ByteArray := prog_10_method_46_code
def yJ6_lowestOneBit_0f7a4 : MethodName := ⟨RJ6, "lowestOneBit", "(I)I"⟩
abbrev cJ6_bitCount_0f7a4 : ByteArray := prog_10_method_49_code
def yJ6_bitCount_0f7a4 : MethodName := ⟨RJ6, "bitCount", "(I)I"⟩
def RJ9 : String := "java/lang/Math"
def TJ9 : u_T := fun k => match k with
  | _ => ("", "", "", false)
def tyJ9 : Nat → FieldType := fun k => match k with
  | _ => .int
abbrev wsJ90 : List Cond := u_ws RJ9 TJ9 0
theorem nmJ9 : ∀ a, a < 0 → ∀ b, b < 0 → a ≠ b → (TJ9 a).2.1 ≠ (TJ9 b).2.1 := by decide +kernel
theorem tyJ9_ok : ∀ k, k < 0 → parseFieldDescriptor (TJ9 k).2.2.1 = some (tyJ9 k) := by decide +kernel
abbrev cJ9_max_7cf53 : ByteArray := prog_11_method_65_code
def yJ9_max_7cf53 : MethodName := ⟨RJ9, "max", "(II)I"⟩
abbrev cJ9_min_7cf53 : ByteArray := prog_11_method_69_code
def yJ9_min_7cf53 : MethodName := ⟨RJ9, "min", "(II)I"⟩
def RJ10 : String := "java/lang/System"
def TJ10 : u_T := fun k => match k with
  | _ => ("", "", "", false)
def tyJ10 : Nat → FieldType := fun k => match k with
  | _ => .int
abbrev wsJ100 : List Cond := u_ws RJ10 TJ10 0
theorem nmJ10 : ∀ a, a < 0 → ∀ b, b < 0 → a ≠ b → (TJ10 a).2.1 ≠ (TJ10 b).2.1 := by decide +kernel
theorem tyJ10_ok : ∀ k, k < 0 → parseFieldDescriptor (TJ10 k).2.2.1 = some (tyJ10 k) := by decide +kernel
def RL : String := "FairBoardsLaw"
abbrev cL_law : ByteArray := code
def yL_law : MethodName := ⟨RL, "law", "([I)Z"⟩
abbrev vwCl : List vw_C := [(RX0, TX0, 9), (RX1, TX1, 2), (RX2, TX2, 8), (RX3, TX3, 7), (RX4, TX4, 3), (RX5, TX5, 3), (RX6, TX6, 7), (RX7, TX7, 30)]
end
section
theorem dX0_init_0 : decode cX0_init 0 = .ok (.aload_n 0, 1) := by decide +kernel
theorem dX0_init_1 : decode cX0_init 1 = .ok (.invokespecial 3, 3) := by decide +kernel
theorem dX0_init_4 : decode cX0_init 4 = .ok (.aload_n 0, 1) := by decide +kernel
theorem dX0_init_5 : decode cX0_init 5 = .ok (.bipush 12, 2) := by decide +kernel
theorem dX0_init_7 : decode cX0_init 7 = .ok (.newarray .int, 2) := by decide +kernel
theorem dX0_init_9 : decode cX0_init 9 = .ok (.putfield 9, 3) := by decide +kernel
theorem dX0_init_12 : decode cX0_init 12 = .ok (.aload_n 0, 1) := by decide +kernel
theorem dX0_init_13 : decode cX0_init 13 = .ok (.bipush 12, 2) := by decide +kernel
theorem dX0_init_15 : decode cX0_init 15 = .ok (.newarray .int, 2) := by decide +kernel
theorem dX0_init_17 : decode cX0_init 17 = .ok (.putfield 15, 3) := by decide +kernel
theorem dX0_init_20 : decode cX0_init 20 = .ok (.aload_n 0, 1) := by decide +kernel
theorem dX0_init_21 : decode cX0_init 21 = .ok (.bipush 12, 2) := by decide +kernel
theorem dX0_init_23 : decode cX0_init 23 = .ok (.newarray .int, 2) := by decide +kernel
theorem dX0_init_25 : decode cX0_init 25 = .ok (.putfield 18, 3) := by decide +kernel
theorem dX0_init_28 : decode cX0_init 28 = .ok (.aload_n 0, 1) := by decide +kernel
theorem dX0_init_29 : decode cX0_init 29 = .ok (.bipush 12, 2) := by decide +kernel
theorem dX0_init_31 : decode cX0_init 31 = .ok (.newarray .int, 2) := by decide +kernel
theorem dX0_init_33 : decode cX0_init 33 = .ok (.putfield 21, 3) := by decide +kernel
theorem dX0_init_36 : decode cX0_init 36 = .ok (.aload_n 0, 1) := by decide +kernel
theorem dX0_init_37 : decode cX0_init 37 = .ok (.bipush 12, 2) := by decide +kernel
theorem dX0_init_39 : decode cX0_init 39 = .ok (.newarray .int, 2) := by decide +kernel
theorem dX0_init_41 : decode cX0_init 41 = .ok (.putfield 24, 3) := by decide +kernel
theorem dX0_init_44 : decode cX0_init 44 = .ok (.aload_n 0, 1) := by decide +kernel
theorem dX0_init_45 : decode cX0_init 45 = .ok (.bipush 12, 2) := by decide +kernel
theorem dX0_init_47 : decode cX0_init 47 = .ok (.newarray .int, 2) := by decide +kernel
theorem dX0_init_49 : decode cX0_init 49 = .ok (.putfield 27, 3) := by decide +kernel
theorem dX0_init_52 : decode cX0_init 52 = .ok (.aload_n 0, 1) := by decide +kernel
theorem dX0_init_53 : decode cX0_init 53 = .ok (.bipush 12, 2) := by decide +kernel
theorem dX0_init_55 : decode cX0_init 55 = .ok (.newarray .int, 2) := by decide +kernel
theorem dX0_init_57 : decode cX0_init 57 = .ok (.putfield 30, 3) := by decide +kernel
theorem dX0_init_60 : decode cX0_init 60 = .ok (.aload_n 0, 1) := by decide +kernel
theorem dX0_init_61 : decode cX0_init 61 = .ok (.iconst 3, 1) := by decide +kernel
theorem dX0_init_62 : decode cX0_init 62 = .ok (.newarray .int, 2) := by decide +kernel
theorem dX0_init_64 : decode cX0_init 64 = .ok (.dup, 1) := by decide +kernel
theorem dX0_init_65 : decode cX0_init 65 = .ok (.iconst 0, 1) := by decide +kernel
theorem dX0_init_66 : decode cX0_init 66 = .ok (.iconst 0, 1) := by decide +kernel
theorem dX0_init_67 : decode cX0_init 67 = .ok (.iastore, 1) := by decide +kernel
theorem dX0_init_68 : decode cX0_init 68 = .ok (.dup, 1) := by decide +kernel
theorem dX0_init_69 : decode cX0_init 69 = .ok (.iconst 1, 1) := by decide +kernel
theorem dX0_init_70 : decode cX0_init 70 = .ok (.iconst 0, 1) := by decide +kernel
theorem dX0_init_71 : decode cX0_init 71 = .ok (.iastore, 1) := by decide +kernel
theorem dX0_init_72 : decode cX0_init 72 = .ok (.dup, 1) := by decide +kernel
theorem dX0_init_73 : decode cX0_init 73 = .ok (.iconst 2, 1) := by decide +kernel
theorem dX0_init_74 : decode cX0_init 74 = .ok (.iconst 1, 1) := by decide +kernel
theorem dX0_init_75 : decode cX0_init 75 = .ok (.iastore, 1) := by decide +kernel
theorem dX0_init_76 : decode cX0_init 76 = .ok (.putfield 33, 3) := by decide +kernel
theorem dX0_init_79 : decode cX0_init 79 = .ok (.aload_n 0, 1) := by decide +kernel
theorem dX0_init_80 : decode cX0_init 80 = .ok (.iconst 0, 1) := by decide +kernel
theorem dX0_init_81 : decode cX0_init 81 = .ok (.putfield 36, 3) := by decide +kernel
theorem dX0_init_84 : decode cX0_init 84 = .ok (.return_, 1) := by decide +kernel
theorem dX0_has_0 : decode cX0_has 0 = .ok (.iload_n 1, 1) := by decide +kernel
theorem dX0_has_1 : decode cX0_has 1 = .ok (.ifCond .lt 15, 3) := by decide +kernel
theorem dX0_has_4 : decode cX0_has 4 = .ok (.iload_n 1, 1) := by decide +kernel
theorem dX0_has_5 : decode cX0_has 5 = .ok (.aload_n 0, 1) := by decide +kernel
theorem dX0_has_6 : decode cX0_has 6 = .ok (.getfield 36, 3) := by decide +kernel
theorem dX0_has_9 : decode cX0_has 9 = .ok (.if_icmp .ge 7, 3) := by decide +kernel
theorem dX0_has_12 : decode cX0_has 12 = .ok (.iconst 1, 1) := by decide +kernel
theorem dX0_has_13 : decode cX0_has 13 = .ok (.goto 4, 3) := by decide +kernel
theorem dX0_has_16 : decode cX0_has 16 = .ok (.iconst 0, 1) := by decide +kernel
theorem dX0_has_17 : decode cX0_has 17 = .ok (.ireturn, 1) := by decide +kernel
theorem dX0_add_0 : decode cX0_add 0 = .ok (.aload_n 0, 1) := by decide +kernel
theorem dX0_add_1 : decode cX0_add 1 = .ok (.getfield 36, 3) := by decide +kernel
theorem dX0_add_4 : decode cX0_add 4 = .ok (.bipush 12, 2) := by decide +kernel
theorem dX0_add_6 : decode cX0_add 6 = .ok (.if_icmp .lt 4, 3) := by decide +kernel
theorem dX0_add_9 : decode cX0_add 9 = .ok (.return_, 1) := by decide +kernel
theorem dX0_add_10 : decode cX0_add 10 = .ok (.aload_n 0, 1) := by decide +kernel
theorem dX0_add_11 : decode cX0_add 11 = .ok (.getfield 9, 3) := by decide +kernel
theorem dX0_add_14 : decode cX0_add 14 = .ok (.aload_n 0, 1) := by decide +kernel
theorem dX0_add_15 : decode cX0_add 15 = .ok (.getfield 36, 3) := by decide +kernel
theorem dX0_add_18 : decode cX0_add 18 = .ok (.iload_n 1, 1) := by decide +kernel
theorem dX0_add_19 : decode cX0_add 19 = .ok (.iastore, 1) := by decide +kernel
theorem dX0_add_20 : decode cX0_add 20 = .ok (.aload_n 0, 1) := by decide +kernel
theorem dX0_add_21 : decode cX0_add 21 = .ok (.getfield 15, 3) := by decide +kernel
theorem dX0_add_24 : decode cX0_add 24 = .ok (.aload_n 0, 1) := by decide +kernel
theorem dX0_add_25 : decode cX0_add 25 = .ok (.getfield 36, 3) := by decide +kernel
theorem dX0_add_28 : decode cX0_add 28 = .ok (.iload_n 2, 1) := by decide +kernel
theorem dX0_add_29 : decode cX0_add 29 = .ok (.iastore, 1) := by decide +kernel
theorem dX0_add_30 : decode cX0_add 30 = .ok (.aload_n 0, 1) := by decide +kernel
theorem dX0_add_31 : decode cX0_add 31 = .ok (.getfield 18, 3) := by decide +kernel
theorem dX0_add_34 : decode cX0_add 34 = .ok (.aload_n 0, 1) := by decide +kernel
theorem dX0_add_35 : decode cX0_add 35 = .ok (.getfield 36, 3) := by decide +kernel
theorem dX0_add_38 : decode cX0_add 38 = .ok (.iload_n 3, 1) := by decide +kernel
theorem dX0_add_39 : decode cX0_add 39 = .ok (.iastore, 1) := by decide +kernel
theorem dX0_add_40 : decode cX0_add 40 = .ok (.aload_n 0, 1) := by decide +kernel
theorem dX0_add_41 : decode cX0_add 41 = .ok (.getfield 21, 3) := by decide +kernel
theorem dX0_add_44 : decode cX0_add 44 = .ok (.aload_n 0, 1) := by decide +kernel
theorem dX0_add_45 : decode cX0_add 45 = .ok (.getfield 36, 3) := by decide +kernel
theorem dX0_add_48 : decode cX0_add 48 = .ok (.iload 4, 2) := by decide +kernel
theorem dX0_add_50 : decode cX0_add 50 = .ok (.iastore, 1) := by decide +kernel
theorem dX0_add_51 : decode cX0_add 51 = .ok (.aload_n 0, 1) := by decide +kernel
theorem dX0_add_52 : decode cX0_add 52 = .ok (.getfield 24, 3) := by decide +kernel
theorem dX0_add_55 : decode cX0_add 55 = .ok (.aload_n 0, 1) := by decide +kernel
theorem dX0_add_56 : decode cX0_add 56 = .ok (.getfield 36, 3) := by decide +kernel
theorem dX0_add_59 : decode cX0_add 59 = .ok (.iconst 0, 1) := by decide +kernel
theorem dX0_add_60 : decode cX0_add 60 = .ok (.iastore, 1) := by decide +kernel
theorem dX0_add_61 : decode cX0_add 61 = .ok (.aload_n 0, 1) := by decide +kernel
theorem dX0_add_62 : decode cX0_add 62 = .ok (.getfield 27, 3) := by decide +kernel
theorem dX0_add_65 : decode cX0_add 65 = .ok (.aload_n 0, 1) := by decide +kernel
theorem dX0_add_66 : decode cX0_add 66 = .ok (.getfield 36, 3) := by decide +kernel
theorem dX0_add_69 : decode cX0_add 69 = .ok (.bipush 99, 2) := by decide +kernel
theorem dX0_add_71 : decode cX0_add 71 = .ok (.iastore, 1) := by decide +kernel
theorem dX0_add_72 : decode cX0_add 72 = .ok (.aload_n 0, 1) := by decide +kernel
theorem dX0_add_73 : decode cX0_add 73 = .ok (.getfield 30, 3) := by decide +kernel
theorem dX0_add_76 : decode cX0_add 76 = .ok (.aload_n 0, 1) := by decide +kernel
theorem dX0_add_77 : decode cX0_add 77 = .ok (.getfield 36, 3) := by decide +kernel
theorem dX0_add_80 : decode cX0_add 80 = .ok (.ldc 40, 2) := by decide +kernel
theorem dX0_add_82 : decode cX0_add 82 = .ok (.iastore, 1) := by decide +kernel
theorem dX0_add_83 : decode cX0_add 83 = .ok (.aload_n 0, 1) := by decide +kernel
theorem dX0_add_84 : decode cX0_add 84 = .ok (.dup, 1) := by decide +kernel
theorem dX0_add_85 : decode cX0_add 85 = .ok (.getfield 36, 3) := by decide +kernel
theorem dX0_add_88 : decode cX0_add 88 = .ok (.iconst 1, 1) := by decide +kernel
theorem dX0_add_89 : decode cX0_add 89 = .ok (.iadd, 1) := by decide +kernel
theorem dX0_add_90 : decode cX0_add 90 = .ok (.putfield 36, 3) := by decide +kernel
theorem dX0_add_93 : decode cX0_add 93 = .ok (.return_, 1) := by decide +kernel
theorem dX0_isOpen_0 : decode cX0_isOpen 0 = .ok (.aload_n 0, 1) := by decide +kernel
theorem dX0_isOpen_1 : decode cX0_isOpen 1 = .ok (.iload_n 1, 1) := by decide +kernel
theorem dX0_isOpen_2 : decode cX0_isOpen 2 = .ok (.invokevirtual 41, 3) := by decide +kernel
theorem dX0_isOpen_5 : decode cX0_isOpen 5 = .ok (.ifCond .eq 31, 3) := by decide +kernel
theorem dX0_isOpen_8 : decode cX0_isOpen 8 = .ok (.aload_n 0, 1) := by decide +kernel
theorem dX0_isOpen_9 : decode cX0_isOpen 9 = .ok (.getfield 33, 3) := by decide +kernel
theorem dX0_isOpen_12 : decode cX0_isOpen 12 = .ok (.iconst 1, 1) := by decide +kernel
theorem dX0_isOpen_13 : decode cX0_isOpen 13 = .ok (.iaload, 1) := by decide +kernel
theorem dX0_isOpen_14 : decode cX0_isOpen 14 = .ok (.aload_n 0, 1) := by decide +kernel
theorem dX0_isOpen_15 : decode cX0_isOpen 15 = .ok (.getfield 24, 3) := by decide +kernel
theorem dX0_isOpen_18 : decode cX0_isOpen 18 = .ok (.iload_n 1, 1) := by decide +kernel
theorem dX0_isOpen_19 : decode cX0_isOpen 19 = .ok (.iaload, 1) := by decide +kernel
theorem dX0_isOpen_20 : decode cX0_isOpen 20 = .ok (.aload_n 0, 1) := by decide +kernel
theorem dX0_isOpen_21 : decode cX0_isOpen 21 = .ok (.getfield 27, 3) := by decide +kernel
theorem dX0_isOpen_24 : decode cX0_isOpen 24 = .ok (.iload_n 1, 1) := by decide +kernel
theorem dX0_isOpen_25 : decode cX0_isOpen 25 = .ok (.iaload, 1) := by decide +kernel
theorem dX0_isOpen_26 : decode cX0_isOpen 26 = .ok (.invokestatic 45, 3) := by decide +kernel
theorem dX0_isOpen_29 : decode cX0_isOpen 29 = .ok (.ifCond .eq 7, 3) := by decide +kernel
theorem dX0_isOpen_32 : decode cX0_isOpen 32 = .ok (.iconst 1, 1) := by decide +kernel
theorem dX0_isOpen_33 : decode cX0_isOpen 33 = .ok (.goto 4, 3) := by decide +kernel
theorem dX0_isOpen_36 : decode cX0_isOpen 36 = .ok (.iconst 0, 1) := by decide +kernel
theorem dX0_isOpen_37 : decode cX0_isOpen 37 = .ok (.ireturn, 1) := by decide +kernel
theorem dX0_openBits_0 : decode cX0_openBits 0 = .ok (.iconst 0, 1) := by decide +kernel
theorem dX0_openBits_1 : decode cX0_openBits 1 = .ok (.istore_n 1, 1) := by decide +kernel
theorem dX0_openBits_2 : decode cX0_openBits 2 = .ok (.iconst 0, 1) := by decide +kernel
theorem dX0_openBits_3 : decode cX0_openBits 3 = .ok (.istore_n 2, 1) := by decide +kernel
theorem dX0_openBits_4 : decode cX0_openBits 4 = .ok (.iload_n 2, 1) := by decide +kernel
theorem dX0_openBits_5 : decode cX0_openBits 5 = .ok (.aload_n 0, 1) := by decide +kernel
theorem dX0_openBits_6 : decode cX0_openBits 6 = .ok (.getfield 36, 3) := by decide +kernel
theorem dX0_openBits_9 : decode cX0_openBits 9 = .ok (.if_icmp .ge 23, 3) := by decide +kernel
theorem dX0_openBits_12 : decode cX0_openBits 12 = .ok (.aload_n 0, 1) := by decide +kernel
theorem dX0_openBits_13 : decode cX0_openBits 13 = .ok (.iload_n 2, 1) := by decide +kernel
theorem dX0_openBits_14 : decode cX0_openBits 14 = .ok (.invokevirtual 49, 3) := by decide +kernel
theorem dX0_openBits_17 : decode cX0_openBits 17 = .ok (.ifCond .eq 9, 3) := by decide +kernel
theorem dX0_openBits_20 : decode cX0_openBits 20 = .ok (.iload_n 1, 1) := by decide +kernel
theorem dX0_openBits_21 : decode cX0_openBits 21 = .ok (.iconst 1, 1) := by decide +kernel
theorem dX0_openBits_22 : decode cX0_openBits 22 = .ok (.iload_n 2, 1) := by decide +kernel
theorem dX0_openBits_23 : decode cX0_openBits 23 = .ok (.ishl, 1) := by decide +kernel
theorem dX0_openBits_24 : decode cX0_openBits 24 = .ok (.ior, 1) := by decide +kernel
theorem dX0_openBits_25 : decode cX0_openBits 25 = .ok (.istore_n 1, 1) := by decide +kernel
theorem dX0_openBits_26 : decode cX0_openBits 26 = .ok (.iinc 2 1, 3) := by decide +kernel
theorem dX0_openBits_29 : decode cX0_openBits 29 = .ok (.goto (-25), 3) := by decide +kernel
theorem dX0_openBits_32 : decode cX0_openBits 32 = .ok (.iload_n 1, 1) := by decide +kernel
theorem dX0_openBits_33 : decode cX0_openBits 33 = .ok (.ireturn, 1) := by decide +kernel
theorem dX0_upper_0 : decode cX0_upper 0 = .ok (.aload_n 0, 1) := by decide +kernel
theorem dX0_upper_1 : decode cX0_upper 1 = .ok (.iload_n 1, 1) := by decide +kernel
theorem dX0_upper_2 : decode cX0_upper 2 = .ok (.invokevirtual 41, 3) := by decide +kernel
theorem dX0_upper_5 : decode cX0_upper 5 = .ok (.ifCond .eq 21, 3) := by decide +kernel
theorem dX0_upper_8 : decode cX0_upper 8 = .ok (.aload_n 0, 1) := by decide +kernel
theorem dX0_upper_9 : decode cX0_upper 9 = .ok (.getfield 21, 3) := by decide +kernel
theorem dX0_upper_12 : decode cX0_upper 12 = .ok (.iload_n 1, 1) := by decide +kernel
theorem dX0_upper_13 : decode cX0_upper 13 = .ok (.iaload, 1) := by decide +kernel
theorem dX0_upper_14 : decode cX0_upper 14 = .ok (.aload_n 0, 1) := by decide +kernel
theorem dX0_upper_15 : decode cX0_upper 15 = .ok (.getfield 33, 3) := by decide +kernel
theorem dX0_upper_18 : decode cX0_upper 18 = .ok (.iconst 0, 1) := by decide +kernel
theorem dX0_upper_19 : decode cX0_upper 19 = .ok (.iaload, 1) := by decide +kernel
theorem dX0_upper_20 : decode cX0_upper 20 = .ok (.invokestatic 52, 3) := by decide +kernel
theorem dX0_upper_23 : decode cX0_upper 23 = .ok (.goto 4, 3) := by decide +kernel
theorem dX0_upper_26 : decode cX0_upper 26 = .ok (.iconst 1, 1) := by decide +kernel
theorem dX0_upper_27 : decode cX0_upper 27 = .ok (.ireturn, 1) := by decide +kernel
theorem dX0_wholes_0 : decode cX0_wholes 0 = .ok (.aload_n 0, 1) := by decide +kernel
theorem dX0_wholes_1 : decode cX0_wholes 1 = .ok (.iload_n 1, 1) := by decide +kernel
theorem dX0_wholes_2 : decode cX0_wholes 2 = .ok (.invokevirtual 41, 3) := by decide +kernel
theorem dX0_wholes_5 : decode cX0_wholes 5 = .ok (.ifCond .eq 32, 3) := by decide +kernel
theorem dX0_wholes_8 : decode cX0_wholes 8 = .ok (.aload_n 0, 1) := by decide +kernel
theorem dX0_wholes_9 : decode cX0_wholes 9 = .ok (.getfield 15, 3) := by decide +kernel
theorem dX0_wholes_12 : decode cX0_wholes 12 = .ok (.iload_n 1, 1) := by decide +kernel
theorem dX0_wholes_13 : decode cX0_wholes 13 = .ok (.iaload, 1) := by decide +kernel
theorem dX0_wholes_14 : decode cX0_wholes 14 = .ok (.ifCond .le 23, 3) := by decide +kernel
theorem dX0_wholes_17 : decode cX0_wholes 17 = .ok (.iload_n 2, 1) := by decide +kernel
theorem dX0_wholes_18 : decode cX0_wholes 18 = .ok (.aload_n 0, 1) := by decide +kernel
theorem dX0_wholes_19 : decode cX0_wholes 19 = .ok (.getfield 30, 3) := by decide +kernel
theorem dX0_wholes_22 : decode cX0_wholes 22 = .ok (.iload_n 1, 1) := by decide +kernel
theorem dX0_wholes_23 : decode cX0_wholes 23 = .ok (.iaload, 1) := by decide +kernel
theorem dX0_wholes_24 : decode cX0_wholes 24 = .ok (.invokestatic 56, 3) := by decide +kernel
theorem dX0_wholes_27 : decode cX0_wholes 27 = .ok (.aload_n 0, 1) := by decide +kernel
theorem dX0_wholes_28 : decode cX0_wholes 28 = .ok (.getfield 15, 3) := by decide +kernel
theorem dX0_wholes_31 : decode cX0_wholes 31 = .ok (.iload_n 1, 1) := by decide +kernel
theorem dX0_wholes_32 : decode cX0_wholes 32 = .ok (.iaload, 1) := by decide +kernel
theorem dX0_wholes_33 : decode cX0_wholes 33 = .ok (.idiv, 1) := by decide +kernel
theorem dX0_wholes_34 : decode cX0_wholes 34 = .ok (.goto 4, 3) := by decide +kernel
theorem dX0_wholes_37 : decode cX0_wholes 37 = .ok (.iconst 0, 1) := by decide +kernel
theorem dX0_wholes_38 : decode cX0_wholes 38 = .ok (.ireturn, 1) := by decide +kernel
theorem dX0_heapBehind_0 : decode cX0_heapBehind 0 = .ok (.aload_n 0, 1) := by decide +kernel
theorem dX0_heapBehind_1 : decode cX0_heapBehind 1 = .ok (.iload_n 1, 1) := by decide +kernel
theorem dX0_heapBehind_2 : decode cX0_heapBehind 2 = .ok (.iload_n 2, 1) := by decide +kernel
theorem dX0_heapBehind_3 : decode cX0_heapBehind 3 = .ok (.invokevirtual 61, 3) := by decide +kernel
theorem dX0_heapBehind_6 : decode cX0_heapBehind 6 = .ok (.aload_n 0, 1) := by decide +kernel
theorem dX0_heapBehind_7 : decode cX0_heapBehind 7 = .ok (.iload_n 1, 1) := by decide +kernel
theorem dX0_heapBehind_8 : decode cX0_heapBehind 8 = .ok (.invokevirtual 64, 3) := by decide +kernel
theorem dX0_heapBehind_11 : decode cX0_heapBehind 11 = .ok (.imul, 1) := by decide +kernel
theorem dX0_heapBehind_12 : decode cX0_heapBehind 12 = .ok (.ireturn, 1) := by decide +kernel
theorem dX1_init_0 : decode cX1_init 0 = .ok (.aload_n 0, 1) := by decide +kernel
theorem dX1_init_1 : decode cX1_init 1 = .ok (.invokespecial 5, 3) := by decide +kernel
theorem dX1_init_4 : decode cX1_init 4 = .ok (.aload_n 0, 1) := by decide +kernel
theorem dX1_init_5 : decode cX1_init 5 = .ok (.bipush 6, 2) := by decide +kernel
theorem dX1_init_7 : decode cX1_init 7 = .ok (.bipush 8, 2) := by decide +kernel
theorem dX1_init_9 : decode cX1_init 9 = .ok (.multianewarray 11 2, 4) := by decide +kernel
theorem dX1_init_13 : decode cX1_init 13 = .ok (.putfield 13, 3) := by decide +kernel
theorem dX1_init_16 : decode cX1_init 16 = .ok (.aload_n 0, 1) := by decide +kernel
theorem dX1_init_17 : decode cX1_init 17 = .ok (.bipush 6, 2) := by decide +kernel
theorem dX1_init_19 : decode cX1_init 19 = .ok (.bipush 8, 2) := by decide +kernel
theorem dX1_init_21 : decode cX1_init 21 = .ok (.multianewarray 11 2, 4) := by decide +kernel
theorem dX1_init_25 : decode cX1_init 25 = .ok (.putfield 18, 3) := by decide +kernel
theorem dX1_init_28 : decode cX1_init 28 = .ok (.return_, 1) := by decide +kernel
theorem dX1_goAll_0 : decode cX1_goAll 0 = .ok (.iconst 0, 1) := by decide +kernel
theorem dX1_goAll_1 : decode cX1_goAll 1 = .ok (.istore 5, 2) := by decide +kernel
theorem dX1_goAll_3 : decode cX1_goAll 3 = .ok (.iload 5, 2) := by decide +kernel
theorem dX1_goAll_5 : decode cX1_goAll 5 = .ok (.iload 4, 2) := by decide +kernel
theorem dX1_goAll_7 : decode cX1_goAll 7 = .ok (.if_icmp .gt 153, 3) := by decide +kernel
theorem dX1_goAll_10 : decode cX1_goAll 10 = .ok (.iload 5, 2) := by decide +kernel
theorem dX1_goAll_12 : decode cX1_goAll 12 = .ok (.iconst 5, 1) := by decide +kernel
theorem dX1_goAll_13 : decode cX1_goAll 13 = .ok (.if_icmp .gt 147, 3) := by decide +kernel
theorem dX1_goAll_16 : decode cX1_goAll 16 = .ok (.iconst 0, 1) := by decide +kernel
theorem dX1_goAll_17 : decode cX1_goAll 17 = .ok (.istore 6, 2) := by decide +kernel
theorem dX1_goAll_19 : decode cX1_goAll 19 = .ok (.iload 6, 2) := by decide +kernel
theorem dX1_goAll_21 : decode cX1_goAll 21 = .ok (.bipush 8, 2) := by decide +kernel
theorem dX1_goAll_23 : decode cX1_goAll 23 = .ok (.if_icmp .ge 35, 3) := by decide +kernel
theorem dX1_goAll_26 : decode cX1_goAll 26 = .ok (.aload_n 0, 1) := by decide +kernel
theorem dX1_goAll_27 : decode cX1_goAll 27 = .ok (.getfield 13, 3) := by decide +kernel
theorem dX1_goAll_30 : decode cX1_goAll 30 = .ok (.iload 5, 2) := by decide +kernel
theorem dX1_goAll_32 : decode cX1_goAll 32 = .ok (.aaload, 1) := by decide +kernel
theorem dX1_goAll_33 : decode cX1_goAll 33 = .ok (.iload 6, 2) := by decide +kernel
theorem dX1_goAll_35 : decode cX1_goAll 35 = .ok (.iload 5, 2) := by decide +kernel
theorem dX1_goAll_37 : decode cX1_goAll 37 = .ok (.ifCond .ne 13, 3) := by decide +kernel
theorem dX1_goAll_40 : decode cX1_goAll 40 = .ok (.iload 6, 2) := by decide +kernel
theorem dX1_goAll_42 : decode cX1_goAll 42 = .ok (.iload_n 2, 1) := by decide +kernel
theorem dX1_goAll_43 : decode cX1_goAll 43 = .ok (.if_icmp .ne 7, 3) := by decide +kernel
theorem dX1_goAll_46 : decode cX1_goAll 46 = .ok (.iload_n 3, 1) := by decide +kernel
theorem dX1_goAll_47 : decode cX1_goAll 47 = .ok (.goto 4, 3) := by decide +kernel
theorem dX1_goAll_50 : decode cX1_goAll 50 = .ok (.iconst (-1), 1) := by decide +kernel
theorem dX1_goAll_51 : decode cX1_goAll 51 = .ok (.iastore, 1) := by decide +kernel
theorem dX1_goAll_52 : decode cX1_goAll 52 = .ok (.iinc 6 1, 3) := by decide +kernel
theorem dX1_goAll_55 : decode cX1_goAll 55 = .ok (.goto (-36), 3) := by decide +kernel
theorem dX1_goAll_58 : decode cX1_goAll 58 = .ok (.iconst 0, 1) := by decide +kernel
theorem dX1_goAll_59 : decode cX1_goAll 59 = .ok (.istore 6, 2) := by decide +kernel
theorem dX1_goAll_61 : decode cX1_goAll 61 = .ok (.iload 5, 2) := by decide +kernel
theorem dX1_goAll_63 : decode cX1_goAll 63 = .ok (.ifCond .le 91, 3) := by decide +kernel
theorem dX1_goAll_66 : decode cX1_goAll 66 = .ok (.iload 6, 2) := by decide +kernel
theorem dX1_goAll_68 : decode cX1_goAll 68 = .ok (.aload_n 1, 1) := by decide +kernel
theorem dX1_goAll_69 : decode cX1_goAll 69 = .ok (.getfield 21, 3) := by decide +kernel
theorem dX1_goAll_72 : decode cX1_goAll 72 = .ok (.if_icmp .ge 82, 3) := by decide +kernel
theorem dX1_goAll_75 : decode cX1_goAll 75 = .ok (.aload_n 0, 1) := by decide +kernel
theorem dX1_goAll_76 : decode cX1_goAll 76 = .ok (.getfield 13, 3) := by decide +kernel
theorem dX1_goAll_79 : decode cX1_goAll 79 = .ok (.iload 5, 2) := by decide +kernel
theorem dX1_goAll_81 : decode cX1_goAll 81 = .ok (.iconst 1, 1) := by decide +kernel
theorem dX1_goAll_82 : decode cX1_goAll 82 = .ok (.isub, 1) := by decide +kernel
theorem dX1_goAll_83 : decode cX1_goAll 83 = .ok (.aaload, 1) := by decide +kernel
theorem dX1_goAll_84 : decode cX1_goAll 84 = .ok (.aload_n 1, 1) := by decide +kernel
theorem dX1_goAll_85 : decode cX1_goAll 85 = .ok (.getfield 27, 3) := by decide +kernel
theorem dX1_goAll_88 : decode cX1_goAll 88 = .ok (.iload 6, 2) := by decide +kernel
theorem dX1_goAll_90 : decode cX1_goAll 90 = .ok (.iaload, 1) := by decide +kernel
theorem dX1_goAll_91 : decode cX1_goAll 91 = .ok (.iaload, 1) := by decide +kernel
theorem dX1_goAll_92 : decode cX1_goAll 92 = .ok (.istore 7, 2) := by decide +kernel
theorem dX1_goAll_94 : decode cX1_goAll 94 = .ok (.aload_n 1, 1) := by decide +kernel
theorem dX1_goAll_95 : decode cX1_goAll 95 = .ok (.getfield 31, 3) := by decide +kernel
theorem dX1_goAll_98 : decode cX1_goAll 98 = .ok (.iload 6, 2) := by decide +kernel
theorem dX1_goAll_100 : decode cX1_goAll 100 = .ok (.iaload, 1) := by decide +kernel
theorem dX1_goAll_101 : decode cX1_goAll 101 = .ok (.istore 8, 2) := by decide +kernel
theorem dX1_goAll_103 : decode cX1_goAll 103 = .ok (.iload 7, 2) := by decide +kernel
theorem dX1_goAll_105 : decode cX1_goAll 105 = .ok (.ifCond .lt 43, 3) := by decide +kernel
theorem dX1_goAll_108 : decode cX1_goAll 108 = .ok (.aload_n 1, 1) := by decide +kernel
theorem dX1_goAll_109 : decode cX1_goAll 109 = .ok (.iload 6, 2) := by decide +kernel
theorem dX1_goAll_111 : decode cX1_goAll 111 = .ok (.invokevirtual 34, 3) := by decide +kernel
theorem dX1_goAll_114 : decode cX1_goAll 114 = .ok (.ifCond .eq 34, 3) := by decide +kernel
theorem dX1_goAll_117 : decode cX1_goAll 117 = .ok (.aload_n 0, 1) := by decide +kernel
theorem dX1_goAll_118 : decode cX1_goAll 118 = .ok (.getfield 13, 3) := by decide +kernel
theorem dX1_goAll_121 : decode cX1_goAll 121 = .ok (.iload 5, 2) := by decide +kernel
theorem dX1_goAll_123 : decode cX1_goAll 123 = .ok (.aaload, 1) := by decide +kernel
theorem dX1_goAll_124 : decode cX1_goAll 124 = .ok (.iload 8, 2) := by decide +kernel
theorem dX1_goAll_126 : decode cX1_goAll 126 = .ok (.aload_n 0, 1) := by decide +kernel
theorem dX1_goAll_127 : decode cX1_goAll 127 = .ok (.getfield 13, 3) := by decide +kernel
theorem dX1_goAll_130 : decode cX1_goAll 130 = .ok (.iload 5, 2) := by decide +kernel
theorem dX1_goAll_132 : decode cX1_goAll 132 = .ok (.aaload, 1) := by decide +kernel
theorem dX1_goAll_133 : decode cX1_goAll 133 = .ok (.iload 8, 2) := by decide +kernel
theorem dX1_goAll_135 : decode cX1_goAll 135 = .ok (.iaload, 1) := by decide +kernel
theorem dX1_goAll_136 : decode cX1_goAll 136 = .ok (.aload_n 1, 1) := by decide +kernel
theorem dX1_goAll_137 : decode cX1_goAll 137 = .ok (.iload 6, 2) := by decide +kernel
theorem dX1_goAll_139 : decode cX1_goAll 139 = .ok (.iload 7, 2) := by decide +kernel
theorem dX1_goAll_141 : decode cX1_goAll 141 = .ok (.invokevirtual 38, 3) := by decide +kernel
theorem dX1_goAll_144 : decode cX1_goAll 144 = .ok (.invokestatic 42, 3) := by decide +kernel
theorem dX1_goAll_147 : decode cX1_goAll 147 = .ok (.iastore, 1) := by decide +kernel
theorem dX1_goAll_148 : decode cX1_goAll 148 = .ok (.iinc 6 1, 3) := by decide +kernel
theorem dX1_goAll_151 : decode cX1_goAll 151 = .ok (.goto (-90), 3) := by decide +kernel
theorem dX1_goAll_154 : decode cX1_goAll 154 = .ok (.iinc 5 1, 3) := by decide +kernel
theorem dX1_goAll_157 : decode cX1_goAll 157 = .ok (.goto (-154), 3) := by decide +kernel
theorem dX1_goAll_160 : decode cX1_goAll 160 = .ok (.return_, 1) := by decide +kernel
theorem dX1_bestSteps_0 : decode cX1_bestSteps 0 = .ok (.iconst (-1), 1) := by decide +kernel
theorem dX1_bestSteps_1 : decode cX1_bestSteps 1 = .ok (.istore_n 3, 1) := by decide +kernel
theorem dX1_bestSteps_2 : decode cX1_bestSteps 2 = .ok (.iconst (-1), 1) := by decide +kernel
theorem dX1_bestSteps_3 : decode cX1_bestSteps 3 = .ok (.istore 4, 2) := by decide +kernel
theorem dX1_bestSteps_5 : decode cX1_bestSteps 5 = .ok (.iconst 0, 1) := by decide +kernel
theorem dX1_bestSteps_6 : decode cX1_bestSteps 6 = .ok (.istore 5, 2) := by decide +kernel
theorem dX1_bestSteps_8 : decode cX1_bestSteps 8 = .ok (.iload 5, 2) := by decide +kernel
theorem dX1_bestSteps_10 : decode cX1_bestSteps 10 = .ok (.iload_n 2, 1) := by decide +kernel
theorem dX1_bestSteps_11 : decode cX1_bestSteps 11 = .ok (.if_icmp .gt 43, 3) := by decide +kernel
theorem dX1_bestSteps_14 : decode cX1_bestSteps 14 = .ok (.iload 5, 2) := by decide +kernel
theorem dX1_bestSteps_16 : decode cX1_bestSteps 16 = .ok (.iconst 5, 1) := by decide +kernel
theorem dX1_bestSteps_17 : decode cX1_bestSteps 17 = .ok (.if_icmp .gt 37, 3) := by decide +kernel
theorem dX1_bestSteps_20 : decode cX1_bestSteps 20 = .ok (.aload_n 0, 1) := by decide +kernel
theorem dX1_bestSteps_21 : decode cX1_bestSteps 21 = .ok (.getfield 13, 3) := by decide +kernel
theorem dX1_bestSteps_24 : decode cX1_bestSteps 24 = .ok (.iload 5, 2) := by decide +kernel
theorem dX1_bestSteps_26 : decode cX1_bestSteps 26 = .ok (.aaload, 1) := by decide +kernel
theorem dX1_bestSteps_27 : decode cX1_bestSteps 27 = .ok (.iload_n 1, 1) := by decide +kernel
theorem dX1_bestSteps_28 : decode cX1_bestSteps 28 = .ok (.iaload, 1) := by decide +kernel
theorem dX1_bestSteps_29 : decode cX1_bestSteps 29 = .ok (.iload 4, 2) := by decide +kernel
theorem dX1_bestSteps_31 : decode cX1_bestSteps 31 = .ok (.if_icmp .le 17, 3) := by decide +kernel
theorem dX1_bestSteps_34 : decode cX1_bestSteps 34 = .ok (.aload_n 0, 1) := by decide +kernel
theorem dX1_bestSteps_35 : decode cX1_bestSteps 35 = .ok (.getfield 13, 3) := by decide +kernel
theorem dX1_bestSteps_38 : decode cX1_bestSteps 38 = .ok (.iload 5, 2) := by decide +kernel
theorem dX1_bestSteps_40 : decode cX1_bestSteps 40 = .ok (.aaload, 1) := by decide +kernel
theorem dX1_bestSteps_41 : decode cX1_bestSteps 41 = .ok (.iload_n 1, 1) := by decide +kernel
theorem dX1_bestSteps_42 : decode cX1_bestSteps 42 = .ok (.iaload, 1) := by decide +kernel
theorem dX1_bestSteps_43 : decode cX1_bestSteps 43 = .ok (.istore 4, 2) := by decide +kernel
theorem dX1_bestSteps_45 : decode cX1_bestSteps 45 = .ok (.iload 5, 2) := by decide +kernel
theorem dX1_bestSteps_47 : decode cX1_bestSteps 47 = .ok (.istore_n 3, 1) := by decide +kernel
theorem dX1_bestSteps_48 : decode cX1_bestSteps 48 = .ok (.iinc 5 1, 3) := by decide +kernel
theorem dX1_bestSteps_51 : decode cX1_bestSteps 51 = .ok (.goto (-43), 3) := by decide +kernel
theorem dX1_bestSteps_54 : decode cX1_bestSteps 54 = .ok (.iload_n 3, 1) := by decide +kernel
theorem dX1_bestSteps_55 : decode cX1_bestSteps 55 = .ok (.ireturn, 1) := by decide +kernel
theorem dX1_lookBack_0 : decode cX1_lookBack 0 = .ok (.iload_n 3, 1) := by decide +kernel
theorem dX1_lookBack_1 : decode cX1_lookBack 1 = .ok (.ifCond .lt 8, 3) := by decide +kernel
theorem dX1_lookBack_4 : decode cX1_lookBack 4 = .ok (.iload_n 3, 1) := by decide +kernel
theorem dX1_lookBack_5 : decode cX1_lookBack 5 = .ok (.iconst 5, 1) := by decide +kernel
theorem dX1_lookBack_6 : decode cX1_lookBack 6 = .ok (.if_icmp .le 4, 3) := by decide +kernel
theorem dX1_lookBack_9 : decode cX1_lookBack 9 = .ok (.return_, 1) := by decide +kernel
theorem dX1_lookBack_10 : decode cX1_lookBack 10 = .ok (.iload_n 3, 1) := by decide +kernel
theorem dX1_lookBack_11 : decode cX1_lookBack 11 = .ok (.istore 4, 2) := by decide +kernel
theorem dX1_lookBack_13 : decode cX1_lookBack 13 = .ok (.iload 4, 2) := by decide +kernel
theorem dX1_lookBack_15 : decode cX1_lookBack 15 = .ok (.ifCond .lt 152, 3) := by decide +kernel
theorem dX1_lookBack_18 : decode cX1_lookBack 18 = .ok (.iconst 0, 1) := by decide +kernel
theorem dX1_lookBack_19 : decode cX1_lookBack 19 = .ok (.istore 5, 2) := by decide +kernel
theorem dX1_lookBack_21 : decode cX1_lookBack 21 = .ok (.iload 5, 2) := by decide +kernel
theorem dX1_lookBack_23 : decode cX1_lookBack 23 = .ok (.bipush 8, 2) := by decide +kernel
theorem dX1_lookBack_25 : decode cX1_lookBack 25 = .ok (.if_icmp .ge 44, 3) := by decide +kernel
theorem dX1_lookBack_28 : decode cX1_lookBack 28 = .ok (.aload_n 0, 1) := by decide +kernel
theorem dX1_lookBack_29 : decode cX1_lookBack 29 = .ok (.getfield 18, 3) := by decide +kernel
theorem dX1_lookBack_32 : decode cX1_lookBack 32 = .ok (.iload 4, 2) := by decide +kernel
theorem dX1_lookBack_34 : decode cX1_lookBack 34 = .ok (.aaload, 1) := by decide +kernel
theorem dX1_lookBack_35 : decode cX1_lookBack 35 = .ok (.iload 5, 2) := by decide +kernel
theorem dX1_lookBack_37 : decode cX1_lookBack 37 = .ok (.iload 4, 2) := by decide +kernel
theorem dX1_lookBack_39 : decode cX1_lookBack 39 = .ok (.iload_n 3, 1) := by decide +kernel
theorem dX1_lookBack_40 : decode cX1_lookBack 40 = .ok (.if_icmp .ne 20, 3) := by decide +kernel
theorem dX1_lookBack_43 : decode cX1_lookBack 43 = .ok (.iload 5, 2) := by decide +kernel
theorem dX1_lookBack_45 : decode cX1_lookBack 45 = .ok (.iload_n 2, 1) := by decide +kernel
theorem dX1_lookBack_46 : decode cX1_lookBack 46 = .ok (.if_icmp .ne 14, 3) := by decide +kernel
theorem dX1_lookBack_49 : decode cX1_lookBack 49 = .ok (.aload_n 0, 1) := by decide +kernel
theorem dX1_lookBack_50 : decode cX1_lookBack 50 = .ok (.getfield 13, 3) := by decide +kernel
theorem dX1_lookBack_53 : decode cX1_lookBack 53 = .ok (.iload_n 3, 1) := by decide +kernel
theorem dX1_lookBack_54 : decode cX1_lookBack 54 = .ok (.aaload, 1) := by decide +kernel
theorem dX1_lookBack_55 : decode cX1_lookBack 55 = .ok (.iload_n 2, 1) := by decide +kernel
theorem dX1_lookBack_56 : decode cX1_lookBack 56 = .ok (.iaload, 1) := by decide +kernel
theorem dX1_lookBack_57 : decode cX1_lookBack 57 = .ok (.goto 5, 3) := by decide +kernel
theorem dX1_lookBack_60 : decode cX1_lookBack 60 = .ok (.ldc 47, 2) := by decide +kernel
theorem dX1_lookBack_62 : decode cX1_lookBack 62 = .ok (.iastore, 1) := by decide +kernel
theorem dX1_lookBack_63 : decode cX1_lookBack 63 = .ok (.iinc 5 1, 3) := by decide +kernel
theorem dX1_lookBack_66 : decode cX1_lookBack 66 = .ok (.goto (-45), 3) := by decide +kernel
theorem dX1_lookBack_69 : decode cX1_lookBack 69 = .ok (.iconst 0, 1) := by decide +kernel
theorem dX1_lookBack_70 : decode cX1_lookBack 70 = .ok (.istore 5, 2) := by decide +kernel
theorem dX1_lookBack_72 : decode cX1_lookBack 72 = .ok (.iload 4, 2) := by decide +kernel
theorem dX1_lookBack_74 : decode cX1_lookBack 74 = .ok (.iload_n 3, 1) := by decide +kernel
theorem dX1_lookBack_75 : decode cX1_lookBack 75 = .ok (.if_icmp .ge 86, 3) := by decide +kernel
theorem dX1_lookBack_78 : decode cX1_lookBack 78 = .ok (.iload 5, 2) := by decide +kernel
theorem dX1_lookBack_80 : decode cX1_lookBack 80 = .ok (.aload_n 1, 1) := by decide +kernel
theorem dX1_lookBack_81 : decode cX1_lookBack 81 = .ok (.getfield 21, 3) := by decide +kernel
theorem dX1_lookBack_84 : decode cX1_lookBack 84 = .ok (.if_icmp .ge 77, 3) := by decide +kernel
theorem dX1_lookBack_87 : decode cX1_lookBack 87 = .ok (.aload_n 1, 1) := by decide +kernel
theorem dX1_lookBack_88 : decode cX1_lookBack 88 = .ok (.getfield 27, 3) := by decide +kernel
theorem dX1_lookBack_91 : decode cX1_lookBack 91 = .ok (.iload 5, 2) := by decide +kernel
theorem dX1_lookBack_93 : decode cX1_lookBack 93 = .ok (.iaload, 1) := by decide +kernel
theorem dX1_lookBack_94 : decode cX1_lookBack 94 = .ok (.istore 6, 2) := by decide +kernel
theorem dX1_lookBack_96 : decode cX1_lookBack 96 = .ok (.aload_n 1, 1) := by decide +kernel
theorem dX1_lookBack_97 : decode cX1_lookBack 97 = .ok (.iload 5, 2) := by decide +kernel
theorem dX1_lookBack_99 : decode cX1_lookBack 99 = .ok (.invokevirtual 34, 3) := by decide +kernel
theorem dX1_lookBack_102 : decode cX1_lookBack 102 = .ok (.ifCond .eq 53, 3) := by decide +kernel
theorem dX1_lookBack_105 : decode cX1_lookBack 105 = .ok (.aload_n 1, 1) := by decide +kernel
theorem dX1_lookBack_106 : decode cX1_lookBack 106 = .ok (.iload 5, 2) := by decide +kernel
theorem dX1_lookBack_108 : decode cX1_lookBack 108 = .ok (.aload_n 0, 1) := by decide +kernel
theorem dX1_lookBack_109 : decode cX1_lookBack 109 = .ok (.getfield 18, 3) := by decide +kernel
theorem dX1_lookBack_112 : decode cX1_lookBack 112 = .ok (.iload 4, 2) := by decide +kernel
theorem dX1_lookBack_114 : decode cX1_lookBack 114 = .ok (.iconst 1, 1) := by decide +kernel
theorem dX1_lookBack_115 : decode cX1_lookBack 115 = .ok (.iadd, 1) := by decide +kernel
theorem dX1_lookBack_116 : decode cX1_lookBack 116 = .ok (.aaload, 1) := by decide +kernel
theorem dX1_lookBack_117 : decode cX1_lookBack 117 = .ok (.aload_n 1, 1) := by decide +kernel
theorem dX1_lookBack_118 : decode cX1_lookBack 118 = .ok (.getfield 31, 3) := by decide +kernel
theorem dX1_lookBack_121 : decode cX1_lookBack 121 = .ok (.iload 5, 2) := by decide +kernel
theorem dX1_lookBack_123 : decode cX1_lookBack 123 = .ok (.iaload, 1) := by decide +kernel
theorem dX1_lookBack_124 : decode cX1_lookBack 124 = .ok (.iaload, 1) := by decide +kernel
theorem dX1_lookBack_125 : decode cX1_lookBack 125 = .ok (.invokestatic 48, 3) := by decide +kernel
theorem dX1_lookBack_128 : decode cX1_lookBack 128 = .ok (.istore 7, 2) := by decide +kernel
theorem dX1_lookBack_130 : decode cX1_lookBack 130 = .ok (.aload_n 0, 1) := by decide +kernel
theorem dX1_lookBack_131 : decode cX1_lookBack 131 = .ok (.getfield 18, 3) := by decide +kernel
theorem dX1_lookBack_134 : decode cX1_lookBack 134 = .ok (.iload 4, 2) := by decide +kernel
theorem dX1_lookBack_136 : decode cX1_lookBack 136 = .ok (.aaload, 1) := by decide +kernel
theorem dX1_lookBack_137 : decode cX1_lookBack 137 = .ok (.iload 6, 2) := by decide +kernel
theorem dX1_lookBack_139 : decode cX1_lookBack 139 = .ok (.aload_n 0, 1) := by decide +kernel
theorem dX1_lookBack_140 : decode cX1_lookBack 140 = .ok (.getfield 18, 3) := by decide +kernel
theorem dX1_lookBack_143 : decode cX1_lookBack 143 = .ok (.iload 4, 2) := by decide +kernel
theorem dX1_lookBack_145 : decode cX1_lookBack 145 = .ok (.aaload, 1) := by decide +kernel
theorem dX1_lookBack_146 : decode cX1_lookBack 146 = .ok (.iload 6, 2) := by decide +kernel
theorem dX1_lookBack_148 : decode cX1_lookBack 148 = .ok (.iaload, 1) := by decide +kernel
theorem dX1_lookBack_149 : decode cX1_lookBack 149 = .ok (.iload 7, 2) := by decide +kernel
theorem dX1_lookBack_151 : decode cX1_lookBack 151 = .ok (.invokestatic 52, 3) := by decide +kernel
theorem dX1_lookBack_154 : decode cX1_lookBack 154 = .ok (.iastore, 1) := by decide +kernel
theorem dX1_lookBack_155 : decode cX1_lookBack 155 = .ok (.iinc 5 1, 3) := by decide +kernel
theorem dX1_lookBack_158 : decode cX1_lookBack 158 = .ok (.goto (-86), 3) := by decide +kernel
theorem dX1_lookBack_161 : decode cX1_lookBack 161 = .ok (.iinc 4 (-1), 3) := by decide +kernel
theorem dX1_lookBack_164 : decode cX1_lookBack 164 = .ok (.goto (-151), 3) := by decide +kernel
theorem dX1_lookBack_167 : decode cX1_lookBack 167 = .ok (.return_, 1) := by decide +kernel
theorem dX1_neededAhead_0 : decode cX1_neededAhead 0 = .ok (.aload_n 0, 1) := by decide +kernel
theorem dX1_neededAhead_1 : decode cX1_neededAhead 1 = .ok (.iload_n 1, 1) := by decide +kernel
theorem dX1_neededAhead_2 : decode cX1_neededAhead 2 = .ok (.invokevirtual 55, 3) := by decide +kernel
theorem dX1_neededAhead_5 : decode cX1_neededAhead 5 = .ok (.istore_n 3, 1) := by decide +kernel
theorem dX1_neededAhead_6 : decode cX1_neededAhead 6 = .ok (.iload_n 2, 1) := by decide +kernel
theorem dX1_neededAhead_7 : decode cX1_neededAhead 7 = .ok (.ldc 47, 2) := by decide +kernel
theorem dX1_neededAhead_9 : decode cX1_neededAhead 9 = .ok (.if_icmp .eq 8, 3) := by decide +kernel
theorem dX1_neededAhead_12 : decode cX1_neededAhead 12 = .ok (.iload_n 3, 1) := by decide +kernel
theorem dX1_neededAhead_13 : decode cX1_neededAhead 13 = .ok (.iconst 1, 1) := by decide +kernel
theorem dX1_neededAhead_14 : decode cX1_neededAhead 14 = .ok (.if_icmp .ge 6, 3) := by decide +kernel
theorem dX1_neededAhead_17 : decode cX1_neededAhead 17 = .ok (.ldc 47, 2) := by decide +kernel
theorem dX1_neededAhead_19 : decode cX1_neededAhead 19 = .ok (.ireturn, 1) := by decide +kernel
theorem dX1_neededAhead_20 : decode cX1_neededAhead 20 = .ok (.iload_n 2, 1) := by decide +kernel
theorem dX1_neededAhead_21 : decode cX1_neededAhead 21 = .ok (.iload_n 3, 1) := by decide +kernel
theorem dX1_neededAhead_22 : decode cX1_neededAhead 22 = .ok (.idiv, 1) := by decide +kernel
theorem dX1_neededAhead_23 : decode cX1_neededAhead 23 = .ok (.iload_n 2, 1) := by decide +kernel
theorem dX1_neededAhead_24 : decode cX1_neededAhead 24 = .ok (.iload_n 3, 1) := by decide +kernel
theorem dX1_neededAhead_25 : decode cX1_neededAhead 25 = .ok (.irem, 1) := by decide +kernel
theorem dX1_neededAhead_26 : decode cX1_neededAhead 26 = .ok (.ifCond .ne 7, 3) := by decide +kernel
theorem dX1_neededAhead_29 : decode cX1_neededAhead 29 = .ok (.iconst 0, 1) := by decide +kernel
theorem dX1_neededAhead_30 : decode cX1_neededAhead 30 = .ok (.goto 4, 3) := by decide +kernel
theorem dX1_neededAhead_33 : decode cX1_neededAhead 33 = .ok (.iconst 1, 1) := by decide +kernel
theorem dX1_neededAhead_34 : decode cX1_neededAhead 34 = .ok (.iadd, 1) := by decide +kernel
theorem dX1_neededAhead_35 : decode cX1_neededAhead 35 = .ok (.istore 4, 2) := by decide +kernel
theorem dX1_neededAhead_37 : decode cX1_neededAhead 37 = .ok (.iload 4, 2) := by decide +kernel
theorem dX1_neededAhead_39 : decode cX1_neededAhead 39 = .ok (.aload_n 0, 1) := by decide +kernel
theorem dX1_neededAhead_40 : decode cX1_neededAhead 40 = .ok (.iload_n 1, 1) := by decide +kernel
theorem dX1_neededAhead_41 : decode cX1_neededAhead 41 = .ok (.ldc 59, 2) := by decide +kernel
theorem dX1_neededAhead_43 : decode cX1_neededAhead 43 = .ok (.invokevirtual 60, 3) := by decide +kernel
theorem dX1_neededAhead_46 : decode cX1_neededAhead 46 = .ok (.if_icmp .le 8, 3) := by decide +kernel
theorem dX1_neededAhead_49 : decode cX1_neededAhead 49 = .ok (.ldc 47, 2) := by decide +kernel
theorem dX1_neededAhead_51 : decode cX1_neededAhead 51 = .ok (.goto 12, 3) := by decide +kernel
theorem dX1_neededAhead_54 : decode cX1_neededAhead 54 = .ok (.iload 4, 2) := by decide +kernel
theorem dX1_neededAhead_56 : decode cX1_neededAhead 56 = .ok (.aload_n 0, 1) := by decide +kernel
theorem dX1_neededAhead_57 : decode cX1_neededAhead 57 = .ok (.getfield 63, 3) := by decide +kernel
theorem dX1_neededAhead_60 : decode cX1_neededAhead 60 = .ok (.iload_n 1, 1) := by decide +kernel
theorem dX1_neededAhead_61 : decode cX1_neededAhead 61 = .ok (.iaload, 1) := by decide +kernel
theorem dX1_neededAhead_62 : decode cX1_neededAhead 62 = .ok (.imul, 1) := by decide +kernel
theorem dX1_neededAhead_63 : decode cX1_neededAhead 63 = .ok (.ireturn, 1) := by decide +kernel
theorem dX1_boardOnWay_0 : decode cX1_boardOnWay 0 = .ok (.iload_n 2, 1) := by decide +kernel
theorem dX1_boardOnWay_1 : decode cX1_boardOnWay 1 = .ok (.istore 5, 2) := by decide +kernel
theorem dX1_boardOnWay_3 : decode cX1_boardOnWay 3 = .ok (.iload_n 3, 1) := by decide +kernel
theorem dX1_boardOnWay_4 : decode cX1_boardOnWay 4 = .ok (.istore 6, 2) := by decide +kernel
theorem dX1_boardOnWay_6 : decode cX1_boardOnWay 6 = .ok (.bipush (-6), 2) := by decide +kernel
theorem dX1_boardOnWay_8 : decode cX1_boardOnWay 8 = .ok (.istore 7, 2) := by decide +kernel
theorem dX1_boardOnWay_10 : decode cX1_boardOnWay 10 = .ok (.iconst 0, 1) := by decide +kernel
theorem dX1_boardOnWay_11 : decode cX1_boardOnWay 11 = .ok (.istore 8, 2) := by decide +kernel
theorem dX1_boardOnWay_13 : decode cX1_boardOnWay 13 = .ok (.iload 8, 2) := by decide +kernel
theorem dX1_boardOnWay_15 : decode cX1_boardOnWay 15 = .ok (.iload 4, 2) := by decide +kernel
theorem dX1_boardOnWay_17 : decode cX1_boardOnWay 17 = .ok (.if_icmp .gt 55, 3) := by decide +kernel
theorem dX1_boardOnWay_20 : decode cX1_boardOnWay 20 = .ok (.iload 8, 2) := by decide +kernel
theorem dX1_boardOnWay_22 : decode cX1_boardOnWay 22 = .ok (.iconst 5, 1) := by decide +kernel
theorem dX1_boardOnWay_23 : decode cX1_boardOnWay 23 = .ok (.if_icmp .ge 49, 3) := by decide +kernel
theorem dX1_boardOnWay_26 : decode cX1_boardOnWay 26 = .ok (.aload_n 0, 1) := by decide +kernel
theorem dX1_boardOnWay_27 : decode cX1_boardOnWay 27 = .ok (.aload_n 1, 1) := by decide +kernel
theorem dX1_boardOnWay_28 : decode cX1_boardOnWay 28 = .ok (.iload 5, 2) := by decide +kernel
theorem dX1_boardOnWay_30 : decode cX1_boardOnWay 30 = .ok (.iload 6, 2) := by decide +kernel
theorem dX1_boardOnWay_32 : decode cX1_boardOnWay 32 = .ok (.iload 8, 2) := by decide +kernel
theorem dX1_boardOnWay_34 : decode cX1_boardOnWay 34 = .ok (.invokevirtual 66, 3) := by decide +kernel
theorem dX1_boardOnWay_37 : decode cX1_boardOnWay 37 = .ok (.istore 7, 2) := by decide +kernel
theorem dX1_boardOnWay_39 : decode cX1_boardOnWay 39 = .ok (.iload 7, 2) := by decide +kernel
theorem dX1_boardOnWay_41 : decode cX1_boardOnWay 41 = .ok (.ifCond .ge 6, 3) := by decide +kernel
theorem dX1_boardOnWay_44 : decode cX1_boardOnWay 44 = .ok (.bipush (-6), 2) := by decide +kernel
theorem dX1_boardOnWay_46 : decode cX1_boardOnWay 46 = .ok (.ireturn, 1) := by decide +kernel
theorem dX1_boardOnWay_47 : decode cX1_boardOnWay 47 = .ok (.aload_n 1, 1) := by decide +kernel
theorem dX1_boardOnWay_48 : decode cX1_boardOnWay 48 = .ok (.iload 7, 2) := by decide +kernel
theorem dX1_boardOnWay_50 : decode cX1_boardOnWay 50 = .ok (.iload 6, 2) := by decide +kernel
theorem dX1_boardOnWay_52 : decode cX1_boardOnWay 52 = .ok (.invokevirtual 38, 3) := by decide +kernel
theorem dX1_boardOnWay_55 : decode cX1_boardOnWay 55 = .ok (.istore 6, 2) := by decide +kernel
theorem dX1_boardOnWay_57 : decode cX1_boardOnWay 57 = .ok (.aload_n 1, 1) := by decide +kernel
theorem dX1_boardOnWay_58 : decode cX1_boardOnWay 58 = .ok (.getfield 31, 3) := by decide +kernel
theorem dX1_boardOnWay_61 : decode cX1_boardOnWay 61 = .ok (.iload 7, 2) := by decide +kernel
theorem dX1_boardOnWay_63 : decode cX1_boardOnWay 63 = .ok (.iaload, 1) := by decide +kernel
theorem dX1_boardOnWay_64 : decode cX1_boardOnWay 64 = .ok (.istore 5, 2) := by decide +kernel
theorem dX1_boardOnWay_66 : decode cX1_boardOnWay 66 = .ok (.iinc 8 1, 3) := by decide +kernel
theorem dX1_boardOnWay_69 : decode cX1_boardOnWay 69 = .ok (.goto (-56), 3) := by decide +kernel
theorem dX1_boardOnWay_72 : decode cX1_boardOnWay 72 = .ok (.iload 7, 2) := by decide +kernel
theorem dX1_boardOnWay_74 : decode cX1_boardOnWay 74 = .ok (.ireturn, 1) := by decide +kernel
theorem dX1_firstThatDoes_0 : decode cX1_firstThatDoes 0 = .ok (.iconst 0, 1) := by decide +kernel
theorem dX1_firstThatDoes_1 : decode cX1_firstThatDoes 1 = .ok (.istore 5, 2) := by decide +kernel
theorem dX1_firstThatDoes_3 : decode cX1_firstThatDoes 3 = .ok (.iload 5, 2) := by decide +kernel
theorem dX1_firstThatDoes_5 : decode cX1_firstThatDoes 5 = .ok (.aload_n 1, 1) := by decide +kernel
theorem dX1_firstThatDoes_6 : decode cX1_firstThatDoes 6 = .ok (.getfield 21, 3) := by decide +kernel
theorem dX1_firstThatDoes_9 : decode cX1_firstThatDoes 9 = .ok (.if_icmp .ge 59, 3) := by decide +kernel
theorem dX1_firstThatDoes_12 : decode cX1_firstThatDoes 12 = .ok (.aload_n 1, 1) := by decide +kernel
theorem dX1_firstThatDoes_13 : decode cX1_firstThatDoes 13 = .ok (.getfield 27, 3) := by decide +kernel
theorem dX1_firstThatDoes_16 : decode cX1_firstThatDoes 16 = .ok (.iload 5, 2) := by decide +kernel
theorem dX1_firstThatDoes_18 : decode cX1_firstThatDoes 18 = .ok (.iaload, 1) := by decide +kernel
theorem dX1_firstThatDoes_19 : decode cX1_firstThatDoes 19 = .ok (.iload_n 2, 1) := by decide +kernel
theorem dX1_firstThatDoes_20 : decode cX1_firstThatDoes 20 = .ok (.if_icmp .ne 42, 3) := by decide +kernel
theorem dX1_firstThatDoes_23 : decode cX1_firstThatDoes 23 = .ok (.aload_n 1, 1) := by decide +kernel
theorem dX1_firstThatDoes_24 : decode cX1_firstThatDoes 24 = .ok (.iload 5, 2) := by decide +kernel
theorem dX1_firstThatDoes_26 : decode cX1_firstThatDoes 26 = .ok (.invokevirtual 34, 3) := by decide +kernel
theorem dX1_firstThatDoes_29 : decode cX1_firstThatDoes 29 = .ok (.ifCond .eq 33, 3) := by decide +kernel
theorem dX1_firstThatDoes_32 : decode cX1_firstThatDoes 32 = .ok (.aload_n 1, 1) := by decide +kernel
theorem dX1_firstThatDoes_33 : decode cX1_firstThatDoes 33 = .ok (.iload 5, 2) := by decide +kernel
theorem dX1_firstThatDoes_35 : decode cX1_firstThatDoes 35 = .ok (.iload_n 3, 1) := by decide +kernel
theorem dX1_firstThatDoes_36 : decode cX1_firstThatDoes 36 = .ok (.invokevirtual 38, 3) := by decide +kernel
theorem dX1_firstThatDoes_39 : decode cX1_firstThatDoes 39 = .ok (.aload_n 0, 1) := by decide +kernel
theorem dX1_firstThatDoes_40 : decode cX1_firstThatDoes 40 = .ok (.getfield 18, 3) := by decide +kernel
theorem dX1_firstThatDoes_43 : decode cX1_firstThatDoes 43 = .ok (.iload 4, 2) := by decide +kernel
theorem dX1_firstThatDoes_45 : decode cX1_firstThatDoes 45 = .ok (.iconst 1, 1) := by decide +kernel
theorem dX1_firstThatDoes_46 : decode cX1_firstThatDoes 46 = .ok (.iadd, 1) := by decide +kernel
theorem dX1_firstThatDoes_47 : decode cX1_firstThatDoes 47 = .ok (.aaload, 1) := by decide +kernel
theorem dX1_firstThatDoes_48 : decode cX1_firstThatDoes 48 = .ok (.aload_n 1, 1) := by decide +kernel
theorem dX1_firstThatDoes_49 : decode cX1_firstThatDoes 49 = .ok (.getfield 31, 3) := by decide +kernel
theorem dX1_firstThatDoes_52 : decode cX1_firstThatDoes 52 = .ok (.iload 5, 2) := by decide +kernel
theorem dX1_firstThatDoes_54 : decode cX1_firstThatDoes 54 = .ok (.iaload, 1) := by decide +kernel
theorem dX1_firstThatDoes_55 : decode cX1_firstThatDoes 55 = .ok (.iaload, 1) := by decide +kernel
theorem dX1_firstThatDoes_56 : decode cX1_firstThatDoes 56 = .ok (.if_icmp .lt 6, 3) := by decide +kernel
theorem dX1_firstThatDoes_59 : decode cX1_firstThatDoes 59 = .ok (.iload 5, 2) := by decide +kernel
theorem dX1_firstThatDoes_61 : decode cX1_firstThatDoes 61 = .ok (.ireturn, 1) := by decide +kernel
theorem dX1_firstThatDoes_62 : decode cX1_firstThatDoes 62 = .ok (.iinc 5 1, 3) := by decide +kernel
theorem dX1_firstThatDoes_65 : decode cX1_firstThatDoes 65 = .ok (.goto (-62), 3) := by decide +kernel
theorem dX1_firstThatDoes_68 : decode cX1_firstThatDoes 68 = .ok (.bipush (-6), 2) := by decide +kernel
theorem dX1_firstThatDoes_70 : decode cX1_firstThatDoes 70 = .ok (.ireturn, 1) := by decide +kernel
theorem dX2_init_0 : decode cX2_init 0 = .ok (.aload_n 0, 1) := by decide +kernel
theorem dX2_init_1 : decode cX2_init 1 = .ok (.invokespecial 3, 3) := by decide +kernel
theorem dX2_init_4 : decode cX2_init 4 = .ok (.aload_n 0, 1) := by decide +kernel
theorem dX2_init_5 : decode cX2_init 5 = .ok (.sipush 150, 3) := by decide +kernel
theorem dX2_init_8 : decode cX2_init 8 = .ok (.newarray .long, 2) := by decide +kernel
theorem dX2_init_10 : decode cX2_init 10 = .ok (.putfield 9, 3) := by decide +kernel
theorem dX2_init_13 : decode cX2_init 13 = .ok (.aload_n 0, 1) := by decide +kernel
theorem dX2_init_14 : decode cX2_init 14 = .ok (.sipush 150, 3) := by decide +kernel
theorem dX2_init_17 : decode cX2_init 17 = .ok (.newarray .long, 2) := by decide +kernel
theorem dX2_init_19 : decode cX2_init 19 = .ok (.putfield 15, 3) := by decide +kernel
theorem dX2_init_22 : decode cX2_init 22 = .ok (.aload_n 0, 1) := by decide +kernel
theorem dX2_init_23 : decode cX2_init 23 = .ok (.sipush 150, 3) := by decide +kernel
theorem dX2_init_26 : decode cX2_init 26 = .ok (.newarray .int, 2) := by decide +kernel
theorem dX2_init_28 : decode cX2_init 28 = .ok (.putfield 18, 3) := by decide +kernel
theorem dX2_init_31 : decode cX2_init 31 = .ok (.aload_n 0, 1) := by decide +kernel
theorem dX2_init_32 : decode cX2_init 32 = .ok (.sipush 150, 3) := by decide +kernel
theorem dX2_init_35 : decode cX2_init 35 = .ok (.newarray .int, 2) := by decide +kernel
theorem dX2_init_37 : decode cX2_init 37 = .ok (.putfield 22, 3) := by decide +kernel
theorem dX2_init_40 : decode cX2_init 40 = .ok (.aload_n 0, 1) := by decide +kernel
theorem dX2_init_41 : decode cX2_init 41 = .ok (.bipush 12, 2) := by decide +kernel
theorem dX2_init_43 : decode cX2_init 43 = .ok (.newarray .int, 2) := by decide +kernel
theorem dX2_init_45 : decode cX2_init 45 = .ok (.putfield 25, 3) := by decide +kernel
theorem dX2_init_48 : decode cX2_init 48 = .ok (.aload_n 0, 1) := by decide +kernel
theorem dX2_init_49 : decode cX2_init 49 = .ok (.iconst 0, 1) := by decide +kernel
theorem dX2_init_50 : decode cX2_init 50 = .ok (.putfield 28, 3) := by decide +kernel
theorem dX2_init_53 : decode cX2_init 53 = .ok (.aload_n 0, 1) := by decide +kernel
theorem dX2_init_54 : decode cX2_init 54 = .ok (.iconst 0, 1) := by decide +kernel
theorem dX2_init_55 : decode cX2_init 55 = .ok (.putfield 32, 3) := by decide +kernel
theorem dX2_init_58 : decode cX2_init 58 = .ok (.aload_n 0, 1) := by decide +kernel
theorem dX2_init_59 : decode cX2_init 59 = .ok (.iconst 0, 1) := by decide +kernel
theorem dX2_init_60 : decode cX2_init 60 = .ok (.putfield 35, 3) := by decide +kernel
theorem dX2_init_63 : decode cX2_init 63 = .ok (.return_, 1) := by decide +kernel
theorem dX2_findAll_0 : decode cX2_findAll 0 = .ok (.aload_n 0, 1) := by decide +kernel
theorem dX2_findAll_1 : decode cX2_findAll 1 = .ok (.iconst 0, 1) := by decide +kernel
theorem dX2_findAll_2 : decode cX2_findAll 2 = .ok (.putfield 28, 3) := by decide +kernel
theorem dX2_findAll_5 : decode cX2_findAll 5 = .ok (.iconst 0, 1) := by decide +kernel
theorem dX2_findAll_6 : decode cX2_findAll 6 = .ok (.istore_n 2, 1) := by decide +kernel
theorem dX2_findAll_7 : decode cX2_findAll 7 = .ok (.iload_n 2, 1) := by decide +kernel
theorem dX2_findAll_8 : decode cX2_findAll 8 = .ok (.bipush 8, 2) := by decide +kernel
theorem dX2_findAll_10 : decode cX2_findAll 10 = .ok (.if_icmp .ge 21, 3) := by decide +kernel
theorem dX2_findAll_13 : decode cX2_findAll 13 = .ok (.aload_n 0, 1) := by decide +kernel
theorem dX2_findAll_14 : decode cX2_findAll 14 = .ok (.aload_n 1, 1) := by decide +kernel
theorem dX2_findAll_15 : decode cX2_findAll 15 = .ok (.iload_n 2, 1) := by decide +kernel
theorem dX2_findAll_16 : decode cX2_findAll 16 = .ok (.iload_n 2, 1) := by decide +kernel
theorem dX2_findAll_17 : decode cX2_findAll 17 = .ok (.iconst 1, 1) := by decide +kernel
theorem dX2_findAll_18 : decode cX2_findAll 18 = .ok (.iload_n 2, 1) := by decide +kernel
theorem dX2_findAll_19 : decode cX2_findAll 19 = .ok (.ishl, 1) := by decide +kernel
theorem dX2_findAll_20 : decode cX2_findAll 20 = .ok (.lconst 0, 1) := by decide +kernel
theorem dX2_findAll_21 : decode cX2_findAll 21 = .ok (.iconst 0, 1) := by decide +kernel
theorem dX2_findAll_22 : decode cX2_findAll 22 = .ok (.invokestatic 39, 3) := by decide +kernel
theorem dX2_findAll_25 : decode cX2_findAll 25 = .ok (.iinc 2 1, 3) := by decide +kernel
theorem dX2_findAll_28 : decode cX2_findAll 28 = .ok (.goto (-21), 3) := by decide +kernel
theorem dX2_findAll_31 : decode cX2_findAll 31 = .ok (.aload_n 0, 1) := by decide +kernel
theorem dX2_findAll_32 : decode cX2_findAll 32 = .ok (.iconst 0, 1) := by decide +kernel
theorem dX2_findAll_33 : decode cX2_findAll 33 = .ok (.putfield 32, 3) := by decide +kernel
theorem dX2_findAll_36 : decode cX2_findAll 36 = .ok (.iconst 0, 1) := by decide +kernel
theorem dX2_findAll_37 : decode cX2_findAll 37 = .ok (.istore_n 2, 1) := by decide +kernel
theorem dX2_findAll_38 : decode cX2_findAll 38 = .ok (.iload_n 2, 1) := by decide +kernel
theorem dX2_findAll_39 : decode cX2_findAll 39 = .ok (.aload_n 0, 1) := by decide +kernel
theorem dX2_findAll_40 : decode cX2_findAll 40 = .ok (.getfield 28, 3) := by decide +kernel
theorem dX2_findAll_43 : decode cX2_findAll 43 = .ok (.if_icmp .ge 47, 3) := by decide +kernel
theorem dX2_findAll_46 : decode cX2_findAll 46 = .ok (.aload_n 0, 1) := by decide +kernel
theorem dX2_findAll_47 : decode cX2_findAll 47 = .ok (.iload_n 2, 1) := by decide +kernel
theorem dX2_findAll_48 : decode cX2_findAll 48 = .ok (.aload_n 1, 1) := by decide +kernel
theorem dX2_findAll_49 : decode cX2_findAll 49 = .ok (.getfield 43, 3) := by decide +kernel
theorem dX2_findAll_52 : decode cX2_findAll 52 = .ok (.aload_n 1, 1) := by decide +kernel
theorem dX2_findAll_53 : decode cX2_findAll 53 = .ok (.getfield 48, 3) := by decide +kernel
theorem dX2_findAll_56 : decode cX2_findAll 56 = .ok (.iconst 0, 1) := by decide +kernel
theorem dX2_findAll_57 : decode cX2_findAll 57 = .ok (.iaload, 1) := by decide +kernel
theorem dX2_findAll_58 : decode cX2_findAll 58 = .ok (.invokevirtual 51, 3) := by decide +kernel
theorem dX2_findAll_61 : decode cX2_findAll 61 = .ok (.ifCond .eq 23, 3) := by decide +kernel
theorem dX2_findAll_64 : decode cX2_findAll 64 = .ok (.aload_n 0, 1) := by decide +kernel
theorem dX2_findAll_65 : decode cX2_findAll 65 = .ok (.getfield 22, 3) := by decide +kernel
theorem dX2_findAll_68 : decode cX2_findAll 68 = .ok (.aload_n 0, 1) := by decide +kernel
theorem dX2_findAll_69 : decode cX2_findAll 69 = .ok (.getfield 32, 3) := by decide +kernel
theorem dX2_findAll_72 : decode cX2_findAll 72 = .ok (.iload_n 2, 1) := by decide +kernel
theorem dX2_findAll_73 : decode cX2_findAll 73 = .ok (.iastore, 1) := by decide +kernel
theorem dX2_findAll_74 : decode cX2_findAll 74 = .ok (.aload_n 0, 1) := by decide +kernel
theorem dX2_findAll_75 : decode cX2_findAll 75 = .ok (.dup, 1) := by decide +kernel
theorem dX2_findAll_76 : decode cX2_findAll 76 = .ok (.getfield 32, 3) := by decide +kernel
theorem dX2_findAll_79 : decode cX2_findAll 79 = .ok (.iconst 1, 1) := by decide +kernel
theorem dX2_findAll_80 : decode cX2_findAll 80 = .ok (.iadd, 1) := by decide +kernel
theorem dX2_findAll_81 : decode cX2_findAll 81 = .ok (.putfield 32, 3) := by decide +kernel
theorem dX2_findAll_84 : decode cX2_findAll 84 = .ok (.iinc 2 1, 3) := by decide +kernel
theorem dX2_findAll_87 : decode cX2_findAll 87 = .ok (.goto (-49), 3) := by decide +kernel
theorem dX2_findAll_90 : decode cX2_findAll 90 = .ok (.aload_n 0, 1) := by decide +kernel
theorem dX2_findAll_91 : decode cX2_findAll 91 = .ok (.iconst 1, 1) := by decide +kernel
theorem dX2_findAll_92 : decode cX2_findAll 92 = .ok (.putfield 35, 3) := by decide +kernel
theorem dX2_findAll_95 : decode cX2_findAll 95 = .ok (.return_, 1) := by decide +kernel
theorem dX2_goOn_0 : decode cX2_goOn 0 = .ok (.iload 7, 2) := by decide +kernel
theorem dX2_goOn_2 : decode cX2_goOn 2 = .ok (.bipush 8, 2) := by decide +kernel
theorem dX2_goOn_4 : decode cX2_goOn 4 = .ok (.if_icmp .lt 4, 3) := by decide +kernel
theorem dX2_goOn_7 : decode cX2_goOn 7 = .ok (.return_, 1) := by decide +kernel
theorem dX2_goOn_8 : decode cX2_goOn 8 = .ok (.iconst 0, 1) := by decide +kernel
theorem dX2_goOn_9 : decode cX2_goOn 9 = .ok (.istore 8, 2) := by decide +kernel
theorem dX2_goOn_11 : decode cX2_goOn 11 = .ok (.iload 8, 2) := by decide +kernel
theorem dX2_goOn_13 : decode cX2_goOn 13 = .ok (.aload_n 1, 1) := by decide +kernel
theorem dX2_goOn_14 : decode cX2_goOn 14 = .ok (.getfield 55, 3) := by decide +kernel
theorem dX2_goOn_17 : decode cX2_goOn 17 = .ok (.if_icmp .ge 109, 3) := by decide +kernel
theorem dX2_goOn_20 : decode cX2_goOn 20 = .ok (.aload_n 1, 1) := by decide +kernel
theorem dX2_goOn_21 : decode cX2_goOn 21 = .ok (.getfield 56, 3) := by decide +kernel
theorem dX2_goOn_24 : decode cX2_goOn 24 = .ok (.iload 8, 2) := by decide +kernel
theorem dX2_goOn_26 : decode cX2_goOn 26 = .ok (.iaload, 1) := by decide +kernel
theorem dX2_goOn_27 : decode cX2_goOn 27 = .ok (.iload_n 3, 1) := by decide +kernel
theorem dX2_goOn_28 : decode cX2_goOn 28 = .ok (.if_icmp .ne 92, 3) := by decide +kernel
theorem dX2_goOn_31 : decode cX2_goOn 31 = .ok (.aload_n 1, 1) := by decide +kernel
theorem dX2_goOn_32 : decode cX2_goOn 32 = .ok (.iload 8, 2) := by decide +kernel
theorem dX2_goOn_34 : decode cX2_goOn 34 = .ok (.invokevirtual 59, 3) := by decide +kernel
theorem dX2_goOn_37 : decode cX2_goOn 37 = .ok (.ifCond .ne 6, 3) := by decide +kernel
theorem dX2_goOn_40 : decode cX2_goOn 40 = .ok (.goto 80, 3) := by decide +kernel
theorem dX2_goOn_43 : decode cX2_goOn 43 = .ok (.aload_n 1, 1) := by decide +kernel
theorem dX2_goOn_44 : decode cX2_goOn 44 = .ok (.getfield 63, 3) := by decide +kernel
theorem dX2_goOn_47 : decode cX2_goOn 47 = .ok (.iload 8, 2) := by decide +kernel
theorem dX2_goOn_49 : decode cX2_goOn 49 = .ok (.iaload, 1) := by decide +kernel
theorem dX2_goOn_50 : decode cX2_goOn 50 = .ok (.istore 9, 2) := by decide +kernel
theorem dX2_goOn_52 : decode cX2_goOn 52 = .ok (.lload 5, 2) := by decide +kernel
theorem dX2_goOn_54 : decode cX2_goOn 54 = .ok (.iload 8, 2) := by decide +kernel
theorem dX2_goOn_56 : decode cX2_goOn 56 = .ok (.i2l, 1) := by decide +kernel
theorem dX2_goOn_57 : decode cX2_goOn 57 = .ok (.lconst 1, 1) := by decide +kernel
theorem dX2_goOn_58 : decode cX2_goOn 58 = .ok (.ladd, 1) := by decide +kernel
theorem dX2_goOn_59 : decode cX2_goOn 59 = .ok (.iconst 4, 1) := by decide +kernel
theorem dX2_goOn_60 : decode cX2_goOn 60 = .ok (.iload 7, 2) := by decide +kernel
theorem dX2_goOn_62 : decode cX2_goOn 62 = .ok (.imul, 1) := by decide +kernel
theorem dX2_goOn_63 : decode cX2_goOn 63 = .ok (.lshl, 1) := by decide +kernel
theorem dX2_goOn_64 : decode cX2_goOn 64 = .ok (.lor, 1) := by decide +kernel
theorem dX2_goOn_65 : decode cX2_goOn 65 = .ok (.lstore 10, 2) := by decide +kernel
theorem dX2_goOn_67 : decode cX2_goOn 67 = .ok (.iload 9, 2) := by decide +kernel
theorem dX2_goOn_69 : decode cX2_goOn 69 = .ok (.iload_n 2, 1) := by decide +kernel
theorem dX2_goOn_70 : decode cX2_goOn 70 = .ok (.if_icmp .ne 13, 3) := by decide +kernel
theorem dX2_goOn_73 : decode cX2_goOn 73 = .ok (.aload_n 0, 1) := by decide +kernel
theorem dX2_goOn_74 : decode cX2_goOn 74 = .ok (.aload_n 1, 1) := by decide +kernel
theorem dX2_goOn_75 : decode cX2_goOn 75 = .ok (.lload 10, 2) := by decide +kernel
theorem dX2_goOn_77 : decode cX2_goOn 77 = .ok (.invokevirtual 66, 3) := by decide +kernel
theorem dX2_goOn_80 : decode cX2_goOn 80 = .ok (.goto 40, 3) := by decide +kernel
theorem dX2_goOn_83 : decode cX2_goOn 83 = .ok (.iload 9, 2) := by decide +kernel
theorem dX2_goOn_85 : decode cX2_goOn 85 = .ok (.iload_n 2, 1) := by decide +kernel
theorem dX2_goOn_86 : decode cX2_goOn 86 = .ok (.if_icmp .le 34, 3) := by decide +kernel
theorem dX2_goOn_89 : decode cX2_goOn 89 = .ok (.iload 4, 2) := by decide +kernel
theorem dX2_goOn_91 : decode cX2_goOn 91 = .ok (.iload 9, 2) := by decide +kernel
theorem dX2_goOn_93 : decode cX2_goOn 93 = .ok (.ishr, 1) := by decide +kernel
theorem dX2_goOn_94 : decode cX2_goOn 94 = .ok (.iconst 1, 1) := by decide +kernel
theorem dX2_goOn_95 : decode cX2_goOn 95 = .ok (.iand, 1) := by decide +kernel
theorem dX2_goOn_96 : decode cX2_goOn 96 = .ok (.ifCond .ne 24, 3) := by decide +kernel
theorem dX2_goOn_99 : decode cX2_goOn 99 = .ok (.aload_n 0, 1) := by decide +kernel
theorem dX2_goOn_100 : decode cX2_goOn 100 = .ok (.aload_n 1, 1) := by decide +kernel
theorem dX2_goOn_101 : decode cX2_goOn 101 = .ok (.iload_n 2, 1) := by decide +kernel
theorem dX2_goOn_102 : decode cX2_goOn 102 = .ok (.iload 9, 2) := by decide +kernel
theorem dX2_goOn_104 : decode cX2_goOn 104 = .ok (.iload 4, 2) := by decide +kernel
theorem dX2_goOn_106 : decode cX2_goOn 106 = .ok (.iconst 1, 1) := by decide +kernel
theorem dX2_goOn_107 : decode cX2_goOn 107 = .ok (.iload 9, 2) := by decide +kernel
theorem dX2_goOn_109 : decode cX2_goOn 109 = .ok (.ishl, 1) := by decide +kernel
theorem dX2_goOn_110 : decode cX2_goOn 110 = .ok (.ior, 1) := by decide +kernel
theorem dX2_goOn_111 : decode cX2_goOn 111 = .ok (.lload 10, 2) := by decide +kernel
theorem dX2_goOn_113 : decode cX2_goOn 113 = .ok (.iload 7, 2) := by decide +kernel
theorem dX2_goOn_115 : decode cX2_goOn 115 = .ok (.iconst 1, 1) := by decide +kernel
theorem dX2_goOn_116 : decode cX2_goOn 116 = .ok (.iadd, 1) := by decide +kernel
theorem dX2_goOn_117 : decode cX2_goOn 117 = .ok (.invokestatic 39, 3) := by decide +kernel
theorem dX2_goOn_120 : decode cX2_goOn 120 = .ok (.iinc 8 1, 3) := by decide +kernel
theorem dX2_goOn_123 : decode cX2_goOn 123 = .ok (.goto (-112), 3) := by decide +kernel
theorem dX2_goOn_126 : decode cX2_goOn 126 = .ok (.return_, 1) := by decide +kernel
theorem dX2_keep_0 : decode cX2_keep 0 = .ok (.aload_n 0, 1) := by decide +kernel
theorem dX2_keep_1 : decode cX2_keep 1 = .ok (.getfield 28, 3) := by decide +kernel
theorem dX2_keep_4 : decode cX2_keep 4 = .ok (.sipush 150, 3) := by decide +kernel
theorem dX2_keep_7 : decode cX2_keep 7 = .ok (.if_icmp .lt 4, 3) := by decide +kernel
theorem dX2_keep_10 : decode cX2_keep 10 = .ok (.return_, 1) := by decide +kernel
theorem dX2_keep_11 : decode cX2_keep 11 = .ok (.aload_n 0, 1) := by decide +kernel
theorem dX2_keep_12 : decode cX2_keep 12 = .ok (.getfield 9, 3) := by decide +kernel
theorem dX2_keep_15 : decode cX2_keep 15 = .ok (.aload_n 0, 1) := by decide +kernel
theorem dX2_keep_16 : decode cX2_keep 16 = .ok (.getfield 28, 3) := by decide +kernel
theorem dX2_keep_19 : decode cX2_keep 19 = .ok (.lload_n 2, 1) := by decide +kernel
theorem dX2_keep_20 : decode cX2_keep 20 = .ok (.lastore, 1) := by decide +kernel
theorem dX2_keep_21 : decode cX2_keep 21 = .ok (.aload_n 0, 1) := by decide +kernel
theorem dX2_keep_22 : decode cX2_keep 22 = .ok (.getfield 15, 3) := by decide +kernel
theorem dX2_keep_25 : decode cX2_keep 25 = .ok (.aload_n 0, 1) := by decide +kernel
theorem dX2_keep_26 : decode cX2_keep 26 = .ok (.getfield 28, 3) := by decide +kernel
theorem dX2_keep_29 : decode cX2_keep 29 = .ok (.lconst 1, 1) := by decide +kernel
theorem dX2_keep_30 : decode cX2_keep 30 = .ok (.lastore, 1) := by decide +kernel
theorem dX2_keep_31 : decode cX2_keep 31 = .ok (.aload_n 0, 1) := by decide +kernel
theorem dX2_keep_32 : decode cX2_keep 32 = .ok (.getfield 18, 3) := by decide +kernel
theorem dX2_keep_35 : decode cX2_keep 35 = .ok (.aload_n 0, 1) := by decide +kernel
theorem dX2_keep_36 : decode cX2_keep 36 = .ok (.getfield 28, 3) := by decide +kernel
theorem dX2_keep_39 : decode cX2_keep 39 = .ok (.iconst 0, 1) := by decide +kernel
theorem dX2_keep_40 : decode cX2_keep 40 = .ok (.iastore, 1) := by decide +kernel
theorem dX2_keep_41 : decode cX2_keep 41 = .ok (.iconst 0, 1) := by decide +kernel
theorem dX2_keep_42 : decode cX2_keep 42 = .ok (.istore 4, 2) := by decide +kernel
theorem dX2_keep_44 : decode cX2_keep 44 = .ok (.iload 4, 2) := by decide +kernel
theorem dX2_keep_46 : decode cX2_keep 46 = .ok (.bipush 8, 2) := by decide +kernel
theorem dX2_keep_48 : decode cX2_keep 48 = .ok (.if_icmp .ge 66, 3) := by decide +kernel
theorem dX2_keep_51 : decode cX2_keep 51 = .ok (.aload_n 0, 1) := by decide +kernel
theorem dX2_keep_52 : decode cX2_keep 52 = .ok (.aload_n 0, 1) := by decide +kernel
theorem dX2_keep_53 : decode cX2_keep 53 = .ok (.getfield 28, 3) := by decide +kernel
theorem dX2_keep_56 : decode cX2_keep 56 = .ok (.iload 4, 2) := by decide +kernel
theorem dX2_keep_58 : decode cX2_keep 58 = .ok (.invokevirtual 70, 3) := by decide +kernel
theorem dX2_keep_61 : decode cX2_keep 61 = .ok (.istore 5, 2) := by decide +kernel
theorem dX2_keep_63 : decode cX2_keep 63 = .ok (.aload_n 1, 1) := by decide +kernel
theorem dX2_keep_64 : decode cX2_keep 64 = .ok (.iload 5, 2) := by decide +kernel
theorem dX2_keep_66 : decode cX2_keep 66 = .ok (.invokevirtual 74, 3) := by decide +kernel
theorem dX2_keep_69 : decode cX2_keep 69 = .ok (.ifCond .eq 39, 3) := by decide +kernel
theorem dX2_keep_72 : decode cX2_keep 72 = .ok (.aload_n 0, 1) := by decide +kernel
theorem dX2_keep_73 : decode cX2_keep 73 = .ok (.getfield 15, 3) := by decide +kernel
theorem dX2_keep_76 : decode cX2_keep 76 = .ok (.aload_n 0, 1) := by decide +kernel
theorem dX2_keep_77 : decode cX2_keep 77 = .ok (.getfield 28, 3) := by decide +kernel
theorem dX2_keep_80 : decode cX2_keep 80 = .ok (.dup2, 1) := by decide +kernel
theorem dX2_keep_81 : decode cX2_keep 81 = .ok (.laload, 1) := by decide +kernel
theorem dX2_keep_82 : decode cX2_keep 82 = .ok (.aload_n 1, 1) := by decide +kernel
theorem dX2_keep_83 : decode cX2_keep 83 = .ok (.getfield 77, 3) := by decide +kernel
theorem dX2_keep_86 : decode cX2_keep 86 = .ok (.iload 5, 2) := by decide +kernel
theorem dX2_keep_88 : decode cX2_keep 88 = .ok (.iaload, 1) := by decide +kernel
theorem dX2_keep_89 : decode cX2_keep 89 = .ok (.i2l, 1) := by decide +kernel
theorem dX2_keep_90 : decode cX2_keep 90 = .ok (.lmul, 1) := by decide +kernel
theorem dX2_keep_91 : decode cX2_keep 91 = .ok (.lastore, 1) := by decide +kernel
theorem dX2_keep_92 : decode cX2_keep 92 = .ok (.aload_n 0, 1) := by decide +kernel
theorem dX2_keep_93 : decode cX2_keep 93 = .ok (.getfield 18, 3) := by decide +kernel
theorem dX2_keep_96 : decode cX2_keep 96 = .ok (.aload_n 0, 1) := by decide +kernel
theorem dX2_keep_97 : decode cX2_keep 97 = .ok (.getfield 28, 3) := by decide +kernel
theorem dX2_keep_100 : decode cX2_keep 100 = .ok (.dup2, 1) := by decide +kernel
theorem dX2_keep_101 : decode cX2_keep 101 = .ok (.iaload, 1) := by decide +kernel
theorem dX2_keep_102 : decode cX2_keep 102 = .ok (.iconst 1, 1) := by decide +kernel
theorem dX2_keep_103 : decode cX2_keep 103 = .ok (.iload 5, 2) := by decide +kernel
theorem dX2_keep_105 : decode cX2_keep 105 = .ok (.ishl, 1) := by decide +kernel
theorem dX2_keep_106 : decode cX2_keep 106 = .ok (.ior, 1) := by decide +kernel
theorem dX2_keep_107 : decode cX2_keep 107 = .ok (.iastore, 1) := by decide +kernel
theorem dX2_keep_108 : decode cX2_keep 108 = .ok (.iinc 4 1, 3) := by decide +kernel
theorem dX2_keep_111 : decode cX2_keep 111 = .ok (.goto (-67), 3) := by decide +kernel
theorem dX2_keep_114 : decode cX2_keep 114 = .ok (.aload_n 0, 1) := by decide +kernel
theorem dX2_keep_115 : decode cX2_keep 115 = .ok (.dup, 1) := by decide +kernel
theorem dX2_keep_116 : decode cX2_keep 116 = .ok (.getfield 28, 3) := by decide +kernel
theorem dX2_keep_119 : decode cX2_keep 119 = .ok (.iconst 1, 1) := by decide +kernel
theorem dX2_keep_120 : decode cX2_keep 120 = .ok (.iadd, 1) := by decide +kernel
theorem dX2_keep_121 : decode cX2_keep 121 = .ok (.putfield 28, 3) := by decide +kernel
theorem dX2_keep_124 : decode cX2_keep 124 = .ok (.return_, 1) := by decide +kernel
theorem dX2_boardAt_0 : decode cX2_boardAt 0 = .ok (.aload_n 0, 1) := by decide +kernel
theorem dX2_boardAt_1 : decode cX2_boardAt 1 = .ok (.getfield 9, 3) := by decide +kernel
theorem dX2_boardAt_4 : decode cX2_boardAt 4 = .ok (.iload_n 1, 1) := by decide +kernel
theorem dX2_boardAt_5 : decode cX2_boardAt 5 = .ok (.laload, 1) := by decide +kernel
theorem dX2_boardAt_6 : decode cX2_boardAt 6 = .ok (.iconst 4, 1) := by decide +kernel
theorem dX2_boardAt_7 : decode cX2_boardAt 7 = .ok (.iload_n 2, 1) := by decide +kernel
theorem dX2_boardAt_8 : decode cX2_boardAt 8 = .ok (.imul, 1) := by decide +kernel
theorem dX2_boardAt_9 : decode cX2_boardAt 9 = .ok (.lshr, 1) := by decide +kernel
theorem dX2_boardAt_10 : decode cX2_boardAt 10 = .ok (.ldc2_w 80, 3) := by decide +kernel
theorem dX2_boardAt_13 : decode cX2_boardAt 13 = .ok (.land, 1) := by decide +kernel
theorem dX2_boardAt_14 : decode cX2_boardAt 14 = .ok (.l2i, 1) := by decide +kernel
theorem dX2_boardAt_15 : decode cX2_boardAt 15 = .ok (.iconst 1, 1) := by decide +kernel
theorem dX2_boardAt_16 : decode cX2_boardAt 16 = .ok (.isub, 1) := by decide +kernel
theorem dX2_boardAt_17 : decode cX2_boardAt 17 = .ok (.ireturn, 1) := by decide +kernel
theorem dX2_length_0 : decode cX2_length 0 = .ok (.aload_n 0, 1) := by decide +kernel
theorem dX2_length_1 : decode cX2_length 1 = .ok (.getfield 18, 3) := by decide +kernel
theorem dX2_length_4 : decode cX2_length 4 = .ok (.iload_n 1, 1) := by decide +kernel
theorem dX2_length_5 : decode cX2_length 5 = .ok (.iaload, 1) := by decide +kernel
theorem dX2_length_6 : decode cX2_length 6 = .ok (.invokestatic 82, 3) := by decide +kernel
theorem dX2_length_9 : decode cX2_length 9 = .ok (.ireturn, 1) := by decide +kernel
theorem dX2_upper_0 : decode cX2_upper 0 = .ok (.lconst 1, 1) := by decide +kernel
theorem dX2_upper_1 : decode cX2_upper 1 = .ok (.lstore 4, 2) := by decide +kernel
theorem dX2_upper_3 : decode cX2_upper 3 = .ok (.iconst 0, 1) := by decide +kernel
theorem dX2_upper_4 : decode cX2_upper 4 = .ok (.istore 6, 2) := by decide +kernel
theorem dX2_upper_6 : decode cX2_upper 6 = .ok (.iload 6, 2) := by decide +kernel
theorem dX2_upper_8 : decode cX2_upper 8 = .ok (.bipush 8, 2) := by decide +kernel
theorem dX2_upper_10 : decode cX2_upper 10 = .ok (.if_icmp .ge 47, 3) := by decide +kernel
theorem dX2_upper_13 : decode cX2_upper 13 = .ok (.aload_n 0, 1) := by decide +kernel
theorem dX2_upper_14 : decode cX2_upper 14 = .ok (.iload_n 1, 1) := by decide +kernel
theorem dX2_upper_15 : decode cX2_upper 15 = .ok (.iload 6, 2) := by decide +kernel
theorem dX2_upper_17 : decode cX2_upper 17 = .ok (.invokevirtual 70, 3) := by decide +kernel
theorem dX2_upper_20 : decode cX2_upper 20 = .ok (.istore 7, 2) := by decide +kernel
theorem dX2_upper_22 : decode cX2_upper 22 = .ok (.iload 7, 2) := by decide +kernel
theorem dX2_upper_24 : decode cX2_upper 24 = .ok (.ifCond .lt 33, 3) := by decide +kernel
theorem dX2_upper_27 : decode cX2_upper 27 = .ok (.iload 7, 2) := by decide +kernel
theorem dX2_upper_29 : decode cX2_upper 29 = .ok (.aload_n 2, 1) := by decide +kernel
theorem dX2_upper_30 : decode cX2_upper 30 = .ok (.arraylength, 1) := by decide +kernel
theorem dX2_upper_31 : decode cX2_upper 31 = .ok (.if_icmp .lt 6, 3) := by decide +kernel
theorem dX2_upper_34 : decode cX2_upper 34 = .ok (.goto 23, 3) := by decide +kernel
theorem dX2_upper_37 : decode cX2_upper 37 = .ok (.lload 4, 2) := by decide +kernel
theorem dX2_upper_39 : decode cX2_upper 39 = .ok (.aload_n 2, 1) := by decide +kernel
theorem dX2_upper_40 : decode cX2_upper 40 = .ok (.iload 7, 2) := by decide +kernel
theorem dX2_upper_42 : decode cX2_upper 42 = .ok (.iaload, 1) := by decide +kernel
theorem dX2_upper_43 : decode cX2_upper 43 = .ok (.iload_n 3, 1) := by decide +kernel
theorem dX2_upper_44 : decode cX2_upper 44 = .ok (.invokestatic 88, 3) := by decide +kernel
theorem dX2_upper_47 : decode cX2_upper 47 = .ok (.i2l, 1) := by decide +kernel
theorem dX2_upper_48 : decode cX2_upper 48 = .ok (.lmul, 1) := by decide +kernel
theorem dX2_upper_49 : decode cX2_upper 49 = .ok (.lstore 4, 2) := by decide +kernel
theorem dX2_upper_51 : decode cX2_upper 51 = .ok (.iinc 6 1, 3) := by decide +kernel
theorem dX2_upper_54 : decode cX2_upper 54 = .ok (.goto (-48), 3) := by decide +kernel
theorem dX2_upper_57 : decode cX2_upper 57 = .ok (.lload 4, 2) := by decide +kernel
theorem dX2_upper_59 : decode cX2_upper 59 = .ok (.lreturn, 1) := by decide +kernel
theorem dX2_gains_0 : decode cX2_gains 0 = .ok (.aload_n 0, 1) := by decide +kernel
theorem dX2_gains_1 : decode cX2_gains 1 = .ok (.iload_n 1, 1) := by decide +kernel
theorem dX2_gains_2 : decode cX2_gains 2 = .ok (.aload_n 2, 1) := by decide +kernel
theorem dX2_gains_3 : decode cX2_gains 3 = .ok (.iload_n 3, 1) := by decide +kernel
theorem dX2_gains_4 : decode cX2_gains 4 = .ok (.invokevirtual 91, 3) := by decide +kernel
theorem dX2_gains_7 : decode cX2_gains 7 = .ok (.aload_n 0, 1) := by decide +kernel
theorem dX2_gains_8 : decode cX2_gains 8 = .ok (.getfield 15, 3) := by decide +kernel
theorem dX2_gains_11 : decode cX2_gains 11 = .ok (.iload_n 1, 1) := by decide +kernel
theorem dX2_gains_12 : decode cX2_gains 12 = .ok (.laload, 1) := by decide +kernel
theorem dX2_gains_13 : decode cX2_gains 13 = .ok (.lcmp, 1) := by decide +kernel
theorem dX2_gains_14 : decode cX2_gains 14 = .ok (.ifCond .le 7, 3) := by decide +kernel
theorem dX2_gains_17 : decode cX2_gains 17 = .ok (.iconst 1, 1) := by decide +kernel
theorem dX2_gains_18 : decode cX2_gains 18 = .ok (.goto 4, 3) := by decide +kernel
theorem dX2_gains_21 : decode cX2_gains 21 = .ok (.iconst 0, 1) := by decide +kernel
theorem dX2_gains_22 : decode cX2_gains 22 = .ok (.ireturn, 1) := by decide +kernel
theorem dX2_anyGains_0 : decode cX2_anyGains 0 = .ok (.iconst 0, 1) := by decide +kernel
theorem dX2_anyGains_1 : decode cX2_anyGains 1 = .ok (.istore_n 3, 1) := by decide +kernel
theorem dX2_anyGains_2 : decode cX2_anyGains 2 = .ok (.iload_n 3, 1) := by decide +kernel
theorem dX2_anyGains_3 : decode cX2_anyGains 3 = .ok (.aload_n 0, 1) := by decide +kernel
theorem dX2_anyGains_4 : decode cX2_anyGains 4 = .ok (.getfield 28, 3) := by decide +kernel
theorem dX2_anyGains_7 : decode cX2_anyGains 7 = .ok (.if_icmp .ge 21, 3) := by decide +kernel
theorem dX2_anyGains_10 : decode cX2_anyGains 10 = .ok (.aload_n 0, 1) := by decide +kernel
theorem dX2_anyGains_11 : decode cX2_anyGains 11 = .ok (.iload_n 3, 1) := by decide +kernel
theorem dX2_anyGains_12 : decode cX2_anyGains 12 = .ok (.aload_n 1, 1) := by decide +kernel
theorem dX2_anyGains_13 : decode cX2_anyGains 13 = .ok (.iload_n 2, 1) := by decide +kernel
theorem dX2_anyGains_14 : decode cX2_anyGains 14 = .ok (.invokevirtual 51, 3) := by decide +kernel
theorem dX2_anyGains_17 : decode cX2_anyGains 17 = .ok (.ifCond .eq 5, 3) := by decide +kernel
theorem dX2_anyGains_20 : decode cX2_anyGains 20 = .ok (.iconst 1, 1) := by decide +kernel
theorem dX2_anyGains_21 : decode cX2_anyGains 21 = .ok (.ireturn, 1) := by decide +kernel
theorem dX2_anyGains_22 : decode cX2_anyGains 22 = .ok (.iinc 3 1, 3) := by decide +kernel
theorem dX2_anyGains_25 : decode cX2_anyGains 25 = .ok (.goto (-23), 3) := by decide +kernel
theorem dX2_anyGains_28 : decode cX2_anyGains 28 = .ok (.iconst 0, 1) := by decide +kernel
theorem dX2_anyGains_29 : decode cX2_anyGains 29 = .ok (.ireturn, 1) := by decide +kernel
theorem dX2_hasGainer_0 : decode cX2_hasGainer 0 = .ok (.iload_n 1, 1) := by decide +kernel
theorem dX2_hasGainer_1 : decode cX2_hasGainer 1 = .ok (.ifCond .lt 15, 3) := by decide +kernel
theorem dX2_hasGainer_4 : decode cX2_hasGainer 4 = .ok (.iload_n 1, 1) := by decide +kernel
theorem dX2_hasGainer_5 : decode cX2_hasGainer 5 = .ok (.aload_n 0, 1) := by decide +kernel
theorem dX2_hasGainer_6 : decode cX2_hasGainer 6 = .ok (.getfield 32, 3) := by decide +kernel
theorem dX2_hasGainer_9 : decode cX2_hasGainer 9 = .ok (.if_icmp .ge 7, 3) := by decide +kernel
theorem dX2_hasGainer_12 : decode cX2_hasGainer 12 = .ok (.iconst 1, 1) := by decide +kernel
theorem dX2_hasGainer_13 : decode cX2_hasGainer 13 = .ok (.goto 4, 3) := by decide +kernel
theorem dX2_hasGainer_16 : decode cX2_hasGainer 16 = .ok (.iconst 0, 1) := by decide +kernel
theorem dX2_hasGainer_17 : decode cX2_hasGainer 17 = .ok (.ireturn, 1) := by decide +kernel
theorem dX2_numberOfGainer_0 : decode cX2_numberOfGainer 0 = .ok (.iconst 0, 1) := by decide +kernel
theorem dX2_numberOfGainer_1 : decode cX2_numberOfGainer 1 = .ok (.istore_n 2, 1) := by decide +kernel
theorem dX2_numberOfGainer_2 : decode cX2_numberOfGainer 2 = .ok (.iload_n 2, 1) := by decide +kernel
theorem dX2_numberOfGainer_3 : decode cX2_numberOfGainer 3 = .ok (.aload_n 0, 1) := by decide +kernel
theorem dX2_numberOfGainer_4 : decode cX2_numberOfGainer 4 = .ok (.getfield 32, 3) := by decide +kernel
theorem dX2_numberOfGainer_7 : decode cX2_numberOfGainer 7 = .ok (.if_icmp .ge 21, 3) := by decide +kernel
theorem dX2_numberOfGainer_10 : decode cX2_numberOfGainer 10 = .ok (.aload_n 0, 1) := by decide +kernel
theorem dX2_numberOfGainer_11 : decode cX2_numberOfGainer 11 = .ok (.getfield 22, 3) := by decide +kernel
theorem dX2_numberOfGainer_14 : decode cX2_numberOfGainer 14 = .ok (.iload_n 2, 1) := by decide +kernel
theorem dX2_numberOfGainer_15 : decode cX2_numberOfGainer 15 = .ok (.iaload, 1) := by decide +kernel
theorem dX2_numberOfGainer_16 : decode cX2_numberOfGainer 16 = .ok (.iload_n 1, 1) := by decide +kernel
theorem dX2_numberOfGainer_17 : decode cX2_numberOfGainer 17 = .ok (.if_icmp .ne 5, 3) := by decide +kernel
theorem dX2_numberOfGainer_20 : decode cX2_numberOfGainer 20 = .ok (.iload_n 2, 1) := by decide +kernel
theorem dX2_numberOfGainer_21 : decode cX2_numberOfGainer 21 = .ok (.ireturn, 1) := by decide +kernel
theorem dX2_numberOfGainer_22 : decode cX2_numberOfGainer 22 = .ok (.iinc 2 1, 3) := by decide +kernel
theorem dX2_numberOfGainer_25 : decode cX2_numberOfGainer 25 = .ok (.goto (-23), 3) := by decide +kernel
theorem dX2_numberOfGainer_28 : decode cX2_numberOfGainer 28 = .ok (.bipush (-6), 2) := by decide +kernel
theorem dX2_numberOfGainer_30 : decode cX2_numberOfGainer 30 = .ok (.ireturn, 1) := by decide +kernel
theorem dX2_greatest_0 : decode cX2_greatest 0 = .ok (.iconst (-1), 1) := by decide +kernel
theorem dX2_greatest_1 : decode cX2_greatest 1 = .ok (.istore_n 3, 1) := by decide +kernel
theorem dX2_greatest_2 : decode cX2_greatest 2 = .ok (.lconst 1, 1) := by decide +kernel
theorem dX2_greatest_3 : decode cX2_greatest 3 = .ok (.lstore 4, 2) := by decide +kernel
theorem dX2_greatest_5 : decode cX2_greatest 5 = .ok (.lconst 1, 1) := by decide +kernel
theorem dX2_greatest_6 : decode cX2_greatest 6 = .ok (.lstore 6, 2) := by decide +kernel
theorem dX2_greatest_8 : decode cX2_greatest 8 = .ok (.iconst 0, 1) := by decide +kernel
theorem dX2_greatest_9 : decode cX2_greatest 9 = .ok (.istore 8, 2) := by decide +kernel
theorem dX2_greatest_11 : decode cX2_greatest 11 = .ok (.iload 8, 2) := by decide +kernel
theorem dX2_greatest_13 : decode cX2_greatest 13 = .ok (.aload_n 0, 1) := by decide +kernel
theorem dX2_greatest_14 : decode cX2_greatest 14 = .ok (.getfield 28, 3) := by decide +kernel
theorem dX2_greatest_17 : decode cX2_greatest 17 = .ok (.if_icmp .ge 67, 3) := by decide +kernel
theorem dX2_greatest_20 : decode cX2_greatest 20 = .ok (.aload_n 0, 1) := by decide +kernel
theorem dX2_greatest_21 : decode cX2_greatest 21 = .ok (.iload 8, 2) := by decide +kernel
theorem dX2_greatest_23 : decode cX2_greatest 23 = .ok (.aload_n 1, 1) := by decide +kernel
theorem dX2_greatest_24 : decode cX2_greatest 24 = .ok (.iload_n 2, 1) := by decide +kernel
theorem dX2_greatest_25 : decode cX2_greatest 25 = .ok (.invokevirtual 91, 3) := by decide +kernel
theorem dX2_greatest_28 : decode cX2_greatest 28 = .ok (.lstore 9, 2) := by decide +kernel
theorem dX2_greatest_30 : decode cX2_greatest 30 = .ok (.lload 9, 2) := by decide +kernel
theorem dX2_greatest_32 : decode cX2_greatest 32 = .ok (.aload_n 0, 1) := by decide +kernel
theorem dX2_greatest_33 : decode cX2_greatest 33 = .ok (.getfield 15, 3) := by decide +kernel
theorem dX2_greatest_36 : decode cX2_greatest 36 = .ok (.iload 8, 2) := by decide +kernel
theorem dX2_greatest_38 : decode cX2_greatest 38 = .ok (.laload, 1) := by decide +kernel
theorem dX2_greatest_39 : decode cX2_greatest 39 = .ok (.lcmp, 1) := by decide +kernel
theorem dX2_greatest_40 : decode cX2_greatest 40 = .ok (.ifCond .le 38, 3) := by decide +kernel
theorem dX2_greatest_43 : decode cX2_greatest 43 = .ok (.lload 9, 2) := by decide +kernel
theorem dX2_greatest_45 : decode cX2_greatest 45 = .ok (.aload_n 0, 1) := by decide +kernel
theorem dX2_greatest_46 : decode cX2_greatest 46 = .ok (.getfield 15, 3) := by decide +kernel
theorem dX2_greatest_49 : decode cX2_greatest 49 = .ok (.iload 8, 2) := by decide +kernel
theorem dX2_greatest_51 : decode cX2_greatest 51 = .ok (.laload, 1) := by decide +kernel
theorem dX2_greatest_52 : decode cX2_greatest 52 = .ok (.lload 4, 2) := by decide +kernel
theorem dX2_greatest_54 : decode cX2_greatest 54 = .ok (.lload 6, 2) := by decide +kernel
theorem dX2_greatest_56 : decode cX2_greatest 56 = .ok (.invokestatic 95, 3) := by decide +kernel
theorem dX2_greatest_59 : decode cX2_greatest 59 = .ok (.ifCond .eq 19, 3) := by decide +kernel
theorem dX2_greatest_62 : decode cX2_greatest 62 = .ok (.iload 8, 2) := by decide +kernel
theorem dX2_greatest_64 : decode cX2_greatest 64 = .ok (.istore_n 3, 1) := by decide +kernel
theorem dX2_greatest_65 : decode cX2_greatest 65 = .ok (.lload 9, 2) := by decide +kernel
theorem dX2_greatest_67 : decode cX2_greatest 67 = .ok (.lstore 4, 2) := by decide +kernel
theorem dX2_greatest_69 : decode cX2_greatest 69 = .ok (.aload_n 0, 1) := by decide +kernel
theorem dX2_greatest_70 : decode cX2_greatest 70 = .ok (.getfield 15, 3) := by decide +kernel
theorem dX2_greatest_73 : decode cX2_greatest 73 = .ok (.iload 8, 2) := by decide +kernel
theorem dX2_greatest_75 : decode cX2_greatest 75 = .ok (.laload, 1) := by decide +kernel
theorem dX2_greatest_76 : decode cX2_greatest 76 = .ok (.lstore 6, 2) := by decide +kernel
theorem dX2_greatest_78 : decode cX2_greatest 78 = .ok (.iinc 8 1, 3) := by decide +kernel
theorem dX2_greatest_81 : decode cX2_greatest 81 = .ok (.goto (-70), 3) := by decide +kernel
theorem dX2_greatest_84 : decode cX2_greatest 84 = .ok (.iload_n 3, 1) := by decide +kernel
theorem dX2_greatest_85 : decode cX2_greatest 85 = .ok (.ireturn, 1) := by decide +kernel
theorem dX2_shortest_0 : decode cX2_shortest 0 = .ok (.iconst (-1), 1) := by decide +kernel
theorem dX2_shortest_1 : decode cX2_shortest 1 = .ok (.istore_n 1, 1) := by decide +kernel
theorem dX2_shortest_2 : decode cX2_shortest 2 = .ok (.bipush 9, 2) := by decide +kernel
theorem dX2_shortest_4 : decode cX2_shortest 4 = .ok (.istore_n 2, 1) := by decide +kernel
theorem dX2_shortest_5 : decode cX2_shortest 5 = .ok (.iconst 0, 1) := by decide +kernel
theorem dX2_shortest_6 : decode cX2_shortest 6 = .ok (.istore_n 3, 1) := by decide +kernel
theorem dX2_shortest_7 : decode cX2_shortest 7 = .ok (.iload_n 3, 1) := by decide +kernel
theorem dX2_shortest_8 : decode cX2_shortest 8 = .ok (.aload_n 0, 1) := by decide +kernel
theorem dX2_shortest_9 : decode cX2_shortest 9 = .ok (.getfield 32, 3) := by decide +kernel
theorem dX2_shortest_12 : decode cX2_shortest 12 = .ok (.if_icmp .ge 36, 3) := by decide +kernel
theorem dX2_shortest_15 : decode cX2_shortest 15 = .ok (.aload_n 0, 1) := by decide +kernel
theorem dX2_shortest_16 : decode cX2_shortest 16 = .ok (.aload_n 0, 1) := by decide +kernel
theorem dX2_shortest_17 : decode cX2_shortest 17 = .ok (.getfield 22, 3) := by decide +kernel
theorem dX2_shortest_20 : decode cX2_shortest 20 = .ok (.iload_n 3, 1) := by decide +kernel
theorem dX2_shortest_21 : decode cX2_shortest 21 = .ok (.iaload, 1) := by decide +kernel
theorem dX2_shortest_22 : decode cX2_shortest 22 = .ok (.invokevirtual 99, 3) := by decide +kernel
theorem dX2_shortest_25 : decode cX2_shortest 25 = .ok (.iload_n 2, 1) := by decide +kernel
theorem dX2_shortest_26 : decode cX2_shortest 26 = .ok (.if_icmp .ge 16, 3) := by decide +kernel
theorem dX2_shortest_29 : decode cX2_shortest 29 = .ok (.aload_n 0, 1) := by decide +kernel
theorem dX2_shortest_30 : decode cX2_shortest 30 = .ok (.getfield 22, 3) := by decide +kernel
theorem dX2_shortest_33 : decode cX2_shortest 33 = .ok (.iload_n 3, 1) := by decide +kernel
theorem dX2_shortest_34 : decode cX2_shortest 34 = .ok (.iaload, 1) := by decide +kernel
theorem dX2_shortest_35 : decode cX2_shortest 35 = .ok (.istore_n 1, 1) := by decide +kernel
theorem dX2_shortest_36 : decode cX2_shortest 36 = .ok (.aload_n 0, 1) := by decide +kernel
theorem dX2_shortest_37 : decode cX2_shortest 37 = .ok (.iload_n 1, 1) := by decide +kernel
theorem dX2_shortest_38 : decode cX2_shortest 38 = .ok (.invokevirtual 99, 3) := by decide +kernel
theorem dX2_shortest_41 : decode cX2_shortest 41 = .ok (.istore_n 2, 1) := by decide +kernel
theorem dX2_shortest_42 : decode cX2_shortest 42 = .ok (.iinc 3 1, 3) := by decide +kernel
theorem dX2_shortest_45 : decode cX2_shortest 45 = .ok (.goto (-38), 3) := by decide +kernel
theorem dX2_shortest_48 : decode cX2_shortest 48 = .ok (.iload_n 1, 1) := by decide +kernel
theorem dX2_shortest_49 : decode cX2_shortest 49 = .ok (.ireturn, 1) := by decide +kernel
theorem dX2_countThrough_0 : decode cX2_countThrough 0 = .ok (.iconst 0, 1) := by decide +kernel
theorem dX2_countThrough_1 : decode cX2_countThrough 1 = .ok (.istore_n 2, 1) := by decide +kernel
theorem dX2_countThrough_2 : decode cX2_countThrough 2 = .ok (.iconst 0, 1) := by decide +kernel
theorem dX2_countThrough_3 : decode cX2_countThrough 3 = .ok (.istore_n 3, 1) := by decide +kernel
theorem dX2_countThrough_4 : decode cX2_countThrough 4 = .ok (.iload_n 3, 1) := by decide +kernel
theorem dX2_countThrough_5 : decode cX2_countThrough 5 = .ok (.aload_n 0, 1) := by decide +kernel
theorem dX2_countThrough_6 : decode cX2_countThrough 6 = .ok (.getfield 32, 3) := by decide +kernel
theorem dX2_countThrough_9 : decode cX2_countThrough 9 = .ok (.if_icmp .ge 27, 3) := by decide +kernel
theorem dX2_countThrough_12 : decode cX2_countThrough 12 = .ok (.iload_n 2, 1) := by decide +kernel
theorem dX2_countThrough_13 : decode cX2_countThrough 13 = .ok (.aload_n 0, 1) := by decide +kernel
theorem dX2_countThrough_14 : decode cX2_countThrough 14 = .ok (.getfield 18, 3) := by decide +kernel
theorem dX2_countThrough_17 : decode cX2_countThrough 17 = .ok (.aload_n 0, 1) := by decide +kernel
theorem dX2_countThrough_18 : decode cX2_countThrough 18 = .ok (.getfield 22, 3) := by decide +kernel
theorem dX2_countThrough_21 : decode cX2_countThrough 21 = .ok (.iload_n 3, 1) := by decide +kernel
theorem dX2_countThrough_22 : decode cX2_countThrough 22 = .ok (.iaload, 1) := by decide +kernel
theorem dX2_countThrough_23 : decode cX2_countThrough 23 = .ok (.iaload, 1) := by decide +kernel
theorem dX2_countThrough_24 : decode cX2_countThrough 24 = .ok (.iload_n 1, 1) := by decide +kernel
theorem dX2_countThrough_25 : decode cX2_countThrough 25 = .ok (.ishr, 1) := by decide +kernel
theorem dX2_countThrough_26 : decode cX2_countThrough 26 = .ok (.iconst 1, 1) := by decide +kernel
theorem dX2_countThrough_27 : decode cX2_countThrough 27 = .ok (.iand, 1) := by decide +kernel
theorem dX2_countThrough_28 : decode cX2_countThrough 28 = .ok (.iadd, 1) := by decide +kernel
theorem dX2_countThrough_29 : decode cX2_countThrough 29 = .ok (.istore_n 2, 1) := by decide +kernel
theorem dX2_countThrough_30 : decode cX2_countThrough 30 = .ok (.iinc 3 1, 3) := by decide +kernel
theorem dX2_countThrough_33 : decode cX2_countThrough 33 = .ok (.goto (-29), 3) := by decide +kernel
theorem dX2_countThrough_36 : decode cX2_countThrough 36 = .ok (.iload_n 2, 1) := by decide +kernel
theorem dX2_countThrough_37 : decode cX2_countThrough 37 = .ok (.ireturn, 1) := by decide +kernel
theorem dX2_commonBits_0 : decode cX2_commonBits 0 = .ok (.aload_n 0, 1) := by decide +kernel
theorem dX2_commonBits_1 : decode cX2_commonBits 1 = .ok (.getfield 32, 3) := by decide +kernel
theorem dX2_commonBits_4 : decode cX2_commonBits 4 = .ok (.ifCond .ne 7, 3) := by decide +kernel
theorem dX2_commonBits_7 : decode cX2_commonBits 7 = .ok (.iconst 0, 1) := by decide +kernel
theorem dX2_commonBits_8 : decode cX2_commonBits 8 = .ok (.goto 4, 3) := by decide +kernel
theorem dX2_commonBits_11 : decode cX2_commonBits 11 = .ok (.iconst (-1), 1) := by decide +kernel
theorem dX2_commonBits_12 : decode cX2_commonBits 12 = .ok (.istore_n 1, 1) := by decide +kernel
theorem dX2_commonBits_13 : decode cX2_commonBits 13 = .ok (.iconst 0, 1) := by decide +kernel
theorem dX2_commonBits_14 : decode cX2_commonBits 14 = .ok (.istore_n 2, 1) := by decide +kernel
theorem dX2_commonBits_15 : decode cX2_commonBits 15 = .ok (.iload_n 2, 1) := by decide +kernel
theorem dX2_commonBits_16 : decode cX2_commonBits 16 = .ok (.aload_n 0, 1) := by decide +kernel
theorem dX2_commonBits_17 : decode cX2_commonBits 17 = .ok (.getfield 32, 3) := by decide +kernel
theorem dX2_commonBits_20 : decode cX2_commonBits 20 = .ok (.if_icmp .ge 23, 3) := by decide +kernel
theorem dX2_commonBits_23 : decode cX2_commonBits 23 = .ok (.iload_n 1, 1) := by decide +kernel
theorem dX2_commonBits_24 : decode cX2_commonBits 24 = .ok (.aload_n 0, 1) := by decide +kernel
theorem dX2_commonBits_25 : decode cX2_commonBits 25 = .ok (.getfield 18, 3) := by decide +kernel
theorem dX2_commonBits_28 : decode cX2_commonBits 28 = .ok (.aload_n 0, 1) := by decide +kernel
theorem dX2_commonBits_29 : decode cX2_commonBits 29 = .ok (.getfield 22, 3) := by decide +kernel
theorem dX2_commonBits_32 : decode cX2_commonBits 32 = .ok (.iload_n 2, 1) := by decide +kernel
theorem dX2_commonBits_33 : decode cX2_commonBits 33 = .ok (.iaload, 1) := by decide +kernel
theorem dX2_commonBits_34 : decode cX2_commonBits 34 = .ok (.iaload, 1) := by decide +kernel
theorem dX2_commonBits_35 : decode cX2_commonBits 35 = .ok (.iand, 1) := by decide +kernel
theorem dX2_commonBits_36 : decode cX2_commonBits 36 = .ok (.istore_n 1, 1) := by decide +kernel
theorem dX2_commonBits_37 : decode cX2_commonBits 37 = .ok (.iinc 2 1, 3) := by decide +kernel
theorem dX2_commonBits_40 : decode cX2_commonBits 40 = .ok (.goto (-25), 3) := by decide +kernel
theorem dX2_commonBits_43 : decode cX2_commonBits 43 = .ok (.iload_n 1, 1) := by decide +kernel
theorem dX2_commonBits_44 : decode cX2_commonBits 44 = .ok (.ireturn, 1) := by decide +kernel
theorem dX2_fewestThatHit_0 : decode cX2_fewestThatHit 0 = .ok (.iload_n 1, 1) := by decide +kernel
theorem dX2_fewestThatHit_1 : decode cX2_fewestThatHit 1 = .ok (.istore_n 2, 1) := by decide +kernel
theorem dX2_fewestThatHit_2 : decode cX2_fewestThatHit 2 = .ok (.iconst 0, 1) := by decide +kernel
theorem dX2_fewestThatHit_3 : decode cX2_fewestThatHit 3 = .ok (.istore_n 3, 1) := by decide +kernel
theorem dX2_fewestThatHit_4 : decode cX2_fewestThatHit 4 = .ok (.iload_n 3, 1) := by decide +kernel
theorem dX2_fewestThatHit_5 : decode cX2_fewestThatHit 5 = .ok (.iload_n 1, 1) := by decide +kernel
theorem dX2_fewestThatHit_6 : decode cX2_fewestThatHit 6 = .ok (.if_icmp .ge 30, 3) := by decide +kernel
theorem dX2_fewestThatHit_9 : decode cX2_fewestThatHit 9 = .ok (.iload_n 3, 1) := by decide +kernel
theorem dX2_fewestThatHit_10 : decode cX2_fewestThatHit 10 = .ok (.invokestatic 82, 3) := by decide +kernel
theorem dX2_fewestThatHit_13 : decode cX2_fewestThatHit 13 = .ok (.iload_n 2, 1) := by decide +kernel
theorem dX2_fewestThatHit_14 : decode cX2_fewestThatHit 14 = .ok (.invokestatic 82, 3) := by decide +kernel
theorem dX2_fewestThatHit_17 : decode cX2_fewestThatHit 17 = .ok (.if_icmp .ge 13, 3) := by decide +kernel
theorem dX2_fewestThatHit_20 : decode cX2_fewestThatHit 20 = .ok (.aload_n 0, 1) := by decide +kernel
theorem dX2_fewestThatHit_21 : decode cX2_fewestThatHit 21 = .ok (.iload_n 3, 1) := by decide +kernel
theorem dX2_fewestThatHit_22 : decode cX2_fewestThatHit 22 = .ok (.invokevirtual 102, 3) := by decide +kernel
theorem dX2_fewestThatHit_25 : decode cX2_fewestThatHit 25 = .ok (.ifCond .eq 5, 3) := by decide +kernel
theorem dX2_fewestThatHit_28 : decode cX2_fewestThatHit 28 = .ok (.iload_n 3, 1) := by decide +kernel
theorem dX2_fewestThatHit_29 : decode cX2_fewestThatHit 29 = .ok (.istore_n 2, 1) := by decide +kernel
theorem dX2_fewestThatHit_30 : decode cX2_fewestThatHit 30 = .ok (.iinc 3 1, 3) := by decide +kernel
theorem dX2_fewestThatHit_33 : decode cX2_fewestThatHit 33 = .ok (.goto (-29), 3) := by decide +kernel
theorem dX2_fewestThatHit_36 : decode cX2_fewestThatHit 36 = .ok (.iload_n 2, 1) := by decide +kernel
theorem dX2_fewestThatHit_37 : decode cX2_fewestThatHit 37 = .ok (.ireturn, 1) := by decide +kernel
theorem dX2_hitsAll_0 : decode cX2_hitsAll 0 = .ok (.iconst 0, 1) := by decide +kernel
theorem dX2_hitsAll_1 : decode cX2_hitsAll 1 = .ok (.istore_n 2, 1) := by decide +kernel
theorem dX2_hitsAll_2 : decode cX2_hitsAll 2 = .ok (.iload_n 2, 1) := by decide +kernel
theorem dX2_hitsAll_3 : decode cX2_hitsAll 3 = .ok (.aload_n 0, 1) := by decide +kernel
theorem dX2_hitsAll_4 : decode cX2_hitsAll 4 = .ok (.getfield 32, 3) := by decide +kernel
theorem dX2_hitsAll_7 : decode cX2_hitsAll 7 = .ok (.if_icmp .ge 27, 3) := by decide +kernel
theorem dX2_hitsAll_10 : decode cX2_hitsAll 10 = .ok (.aload_n 0, 1) := by decide +kernel
theorem dX2_hitsAll_11 : decode cX2_hitsAll 11 = .ok (.getfield 18, 3) := by decide +kernel
theorem dX2_hitsAll_14 : decode cX2_hitsAll 14 = .ok (.aload_n 0, 1) := by decide +kernel
theorem dX2_hitsAll_15 : decode cX2_hitsAll 15 = .ok (.getfield 22, 3) := by decide +kernel
theorem dX2_hitsAll_18 : decode cX2_hitsAll 18 = .ok (.iload_n 2, 1) := by decide +kernel
theorem dX2_hitsAll_19 : decode cX2_hitsAll 19 = .ok (.iaload, 1) := by decide +kernel
theorem dX2_hitsAll_20 : decode cX2_hitsAll 20 = .ok (.iaload, 1) := by decide +kernel
theorem dX2_hitsAll_21 : decode cX2_hitsAll 21 = .ok (.iload_n 1, 1) := by decide +kernel
theorem dX2_hitsAll_22 : decode cX2_hitsAll 22 = .ok (.iand, 1) := by decide +kernel
theorem dX2_hitsAll_23 : decode cX2_hitsAll 23 = .ok (.ifCond .ne 5, 3) := by decide +kernel
theorem dX2_hitsAll_26 : decode cX2_hitsAll 26 = .ok (.iconst 0, 1) := by decide +kernel
theorem dX2_hitsAll_27 : decode cX2_hitsAll 27 = .ok (.ireturn, 1) := by decide +kernel
theorem dX2_hitsAll_28 : decode cX2_hitsAll 28 = .ok (.iinc 2 1, 3) := by decide +kernel
theorem dX2_hitsAll_31 : decode cX2_hitsAll 31 = .ok (.goto (-29), 3) := by decide +kernel
theorem dX2_hitsAll_34 : decode cX2_hitsAll 34 = .ok (.iconst 1, 1) := by decide +kernel
theorem dX2_hitsAll_35 : decode cX2_hitsAll 35 = .ok (.ireturn, 1) := by decide +kernel
theorem dX2_leastMove_0 : decode cX2_leastMove 0 = .ok (.aload_n 1, 1) := by decide +kernel
theorem dX2_leastMove_1 : decode cX2_leastMove 1 = .ok (.iload_n 2, 1) := by decide +kernel
theorem dX2_leastMove_2 : decode cX2_leastMove 2 = .ok (.invokevirtual 74, 3) := by decide +kernel
theorem dX2_leastMove_5 : decode cX2_leastMove 5 = .ok (.ifCond .ne 6, 3) := by decide +kernel
theorem dX2_leastMove_8 : decode cX2_leastMove 8 = .ok (.bipush (-6), 2) := by decide +kernel
theorem dX2_leastMove_10 : decode cX2_leastMove 10 = .ok (.ireturn, 1) := by decide +kernel
theorem dX2_leastMove_11 : decode cX2_leastMove 11 = .ok (.aload_n 1, 1) := by decide +kernel
theorem dX2_leastMove_12 : decode cX2_leastMove 12 = .ok (.getfield 43, 3) := by decide +kernel
theorem dX2_leastMove_15 : decode cX2_leastMove 15 = .ok (.iconst 0, 1) := by decide +kernel
theorem dX2_leastMove_16 : decode cX2_leastMove 16 = .ok (.aload_n 0, 1) := by decide +kernel
theorem dX2_leastMove_17 : decode cX2_leastMove 17 = .ok (.getfield 25, 3) := by decide +kernel
theorem dX2_leastMove_20 : decode cX2_leastMove 20 = .ok (.iconst 0, 1) := by decide +kernel
theorem dX2_leastMove_21 : decode cX2_leastMove 21 = .ok (.bipush 12, 2) := by decide +kernel
theorem dX2_leastMove_23 : decode cX2_leastMove 23 = .ok (.invokestatic 105, 3) := by decide +kernel
theorem dX2_leastMove_26 : decode cX2_leastMove 26 = .ok (.iconst 0, 1) := by decide +kernel
theorem dX2_leastMove_27 : decode cX2_leastMove 27 = .ok (.istore_n 3, 1) := by decide +kernel
theorem dX2_leastMove_28 : decode cX2_leastMove 28 = .ok (.iload_n 3, 1) := by decide +kernel
theorem dX2_leastMove_29 : decode cX2_leastMove 29 = .ok (.aload_n 1, 1) := by decide +kernel
theorem dX2_leastMove_30 : decode cX2_leastMove 30 = .ok (.getfield 43, 3) := by decide +kernel
theorem dX2_leastMove_33 : decode cX2_leastMove 33 = .ok (.iload_n 2, 1) := by decide +kernel
theorem dX2_leastMove_34 : decode cX2_leastMove 34 = .ok (.iaload, 1) := by decide +kernel
theorem dX2_leastMove_35 : decode cX2_leastMove 35 = .ok (.if_icmp .ge 42, 3) := by decide +kernel
theorem dX2_leastMove_38 : decode cX2_leastMove 38 = .ok (.aload_n 0, 1) := by decide +kernel
theorem dX2_leastMove_39 : decode cX2_leastMove 39 = .ok (.getfield 25, 3) := by decide +kernel
theorem dX2_leastMove_42 : decode cX2_leastMove 42 = .ok (.iload_n 2, 1) := by decide +kernel
theorem dX2_leastMove_43 : decode cX2_leastMove 43 = .ok (.aload_n 1, 1) := by decide +kernel
theorem dX2_leastMove_44 : decode cX2_leastMove 44 = .ok (.getfield 43, 3) := by decide +kernel
theorem dX2_leastMove_47 : decode cX2_leastMove 47 = .ok (.iload_n 2, 1) := by decide +kernel
theorem dX2_leastMove_48 : decode cX2_leastMove 48 = .ok (.iaload, 1) := by decide +kernel
theorem dX2_leastMove_49 : decode cX2_leastMove 49 = .ok (.iload_n 3, 1) := by decide +kernel
theorem dX2_leastMove_50 : decode cX2_leastMove 50 = .ok (.isub, 1) := by decide +kernel
theorem dX2_leastMove_51 : decode cX2_leastMove 51 = .ok (.iastore, 1) := by decide +kernel
theorem dX2_leastMove_52 : decode cX2_leastMove 52 = .ok (.aload_n 0, 1) := by decide +kernel
theorem dX2_leastMove_53 : decode cX2_leastMove 53 = .ok (.aload_n 0, 1) := by decide +kernel
theorem dX2_leastMove_54 : decode cX2_leastMove 54 = .ok (.getfield 25, 3) := by decide +kernel
theorem dX2_leastMove_57 : decode cX2_leastMove 57 = .ok (.aload_n 1, 1) := by decide +kernel
theorem dX2_leastMove_58 : decode cX2_leastMove 58 = .ok (.getfield 48, 3) := by decide +kernel
theorem dX2_leastMove_61 : decode cX2_leastMove 61 = .ok (.iconst 0, 1) := by decide +kernel
theorem dX2_leastMove_62 : decode cX2_leastMove 62 = .ok (.iaload, 1) := by decide +kernel
theorem dX2_leastMove_63 : decode cX2_leastMove 63 = .ok (.invokevirtual 111, 3) := by decide +kernel
theorem dX2_leastMove_66 : decode cX2_leastMove 66 = .ok (.ifCond .ne 5, 3) := by decide +kernel
theorem dX2_leastMove_69 : decode cX2_leastMove 69 = .ok (.iload_n 3, 1) := by decide +kernel
theorem dX2_leastMove_70 : decode cX2_leastMove 70 = .ok (.ireturn, 1) := by decide +kernel
theorem dX2_leastMove_71 : decode cX2_leastMove 71 = .ok (.iinc 3 1, 3) := by decide +kernel
theorem dX2_leastMove_74 : decode cX2_leastMove 74 = .ok (.goto (-46), 3) := by decide +kernel
theorem dX2_leastMove_77 : decode cX2_leastMove 77 = .ok (.bipush (-6), 2) := by decide +kernel
theorem dX2_leastMove_79 : decode cX2_leastMove 79 = .ok (.ireturn, 1) := by decide +kernel
theorem dX3_init_0 : decode cX3_init 0 = .ok (.aload_n 0, 1) := by decide +kernel
theorem dX3_init_1 : decode cX3_init 1 = .ok (.invokespecial 3, 3) := by decide +kernel
theorem dX3_init_4 : decode cX3_init 4 = .ok (.aload_n 0, 1) := by decide +kernel
theorem dX3_init_5 : decode cX3_init 5 = .ok (.bipush 80, 2) := by decide +kernel
theorem dX3_init_7 : decode cX3_init 7 = .ok (.newarray .char, 2) := by decide +kernel
theorem dX3_init_9 : decode cX3_init 9 = .ok (.putfield 9, 3) := by decide +kernel
theorem dX3_init_12 : decode cX3_init 12 = .ok (.aload_n 0, 1) := by decide +kernel
theorem dX3_init_13 : decode cX3_init 13 = .ok (.iconst 0, 1) := by decide +kernel
theorem dX3_init_14 : decode cX3_init 14 = .ok (.putfield 15, 3) := by decide +kernel
theorem dX3_init_17 : decode cX3_init 17 = .ok (.aload_n 0, 1) := by decide +kernel
theorem dX3_init_18 : decode cX3_init 18 = .ok (.iconst 0, 1) := by decide +kernel
theorem dX3_init_19 : decode cX3_init 19 = .ok (.putfield 19, 3) := by decide +kernel
theorem dX3_init_22 : decode cX3_init 22 = .ok (.aload_n 0, 1) := by decide +kernel
theorem dX3_init_23 : decode cX3_init 23 = .ok (.iconst 0, 1) := by decide +kernel
theorem dX3_init_24 : decode cX3_init 24 = .ok (.putfield 22, 3) := by decide +kernel
theorem dX3_init_27 : decode cX3_init 27 = .ok (.aload_n 0, 1) := by decide +kernel
theorem dX3_init_28 : decode cX3_init 28 = .ok (.iconst 0, 1) := by decide +kernel
theorem dX3_init_29 : decode cX3_init 29 = .ok (.putfield 25, 3) := by decide +kernel
theorem dX3_init_32 : decode cX3_init 32 = .ok (.aload_n 0, 1) := by decide +kernel
theorem dX3_init_33 : decode cX3_init 33 = .ok (.iconst 0, 1) := by decide +kernel
theorem dX3_init_34 : decode cX3_init 34 = .ok (.putfield 28, 3) := by decide +kernel
theorem dX3_init_37 : decode cX3_init 37 = .ok (.aload_n 0, 1) := by decide +kernel
theorem dX3_init_38 : decode cX3_init 38 = .ok (.iconst 0, 1) := by decide +kernel
theorem dX3_init_39 : decode cX3_init 39 = .ok (.putfield 31, 3) := by decide +kernel
theorem dX3_init_42 : decode cX3_init 42 = .ok (.return_, 1) := by decide +kernel
theorem dX3_add_0 : decode cX3_add 0 = .ok (.aload_n 0, 1) := by decide +kernel
theorem dX3_add_1 : decode cX3_add 1 = .ok (.getfield 15, 3) := by decide +kernel
theorem dX3_add_4 : decode cX3_add 4 = .ok (.bipush 80, 2) := by decide +kernel
theorem dX3_add_6 : decode cX3_add 6 = .ok (.if_icmp .ge 24, 3) := by decide +kernel
theorem dX3_add_9 : decode cX3_add 9 = .ok (.aload_n 0, 1) := by decide +kernel
theorem dX3_add_10 : decode cX3_add 10 = .ok (.getfield 9, 3) := by decide +kernel
theorem dX3_add_13 : decode cX3_add 13 = .ok (.aload_n 0, 1) := by decide +kernel
theorem dX3_add_14 : decode cX3_add 14 = .ok (.getfield 15, 3) := by decide +kernel
theorem dX3_add_17 : decode cX3_add 17 = .ok (.iload_n 1, 1) := by decide +kernel
theorem dX3_add_18 : decode cX3_add 18 = .ok (.i2c, 1) := by decide +kernel
theorem dX3_add_19 : decode cX3_add 19 = .ok (.castore, 1) := by decide +kernel
theorem dX3_add_20 : decode cX3_add 20 = .ok (.aload_n 0, 1) := by decide +kernel
theorem dX3_add_21 : decode cX3_add 21 = .ok (.dup, 1) := by decide +kernel
theorem dX3_add_22 : decode cX3_add 22 = .ok (.getfield 15, 3) := by decide +kernel
theorem dX3_add_25 : decode cX3_add 25 = .ok (.iconst 1, 1) := by decide +kernel
theorem dX3_add_26 : decode cX3_add 26 = .ok (.iadd, 1) := by decide +kernel
theorem dX3_add_27 : decode cX3_add 27 = .ok (.putfield 15, 3) := by decide +kernel
theorem dX3_add_30 : decode cX3_add 30 = .ok (.return_, 1) := by decide +kernel
theorem dX3_faultPlace_0 : decode cX3_faultPlace 0 = .ok (.aload_n 0, 1) := by decide +kernel
theorem dX3_faultPlace_1 : decode cX3_faultPlace 1 = .ok (.iconst 0, 1) := by decide +kernel
theorem dX3_faultPlace_2 : decode cX3_faultPlace 2 = .ok (.putfield 19, 3) := by decide +kernel
theorem dX3_faultPlace_5 : decode cX3_faultPlace 5 = .ok (.iconst 0, 1) := by decide +kernel
theorem dX3_faultPlace_6 : decode cX3_faultPlace 6 = .ok (.istore_n 1, 1) := by decide +kernel
theorem dX3_faultPlace_7 : decode cX3_faultPlace 7 = .ok (.iload_n 1, 1) := by decide +kernel
theorem dX3_faultPlace_8 : decode cX3_faultPlace 8 = .ok (.bipush 80, 2) := by decide +kernel
theorem dX3_faultPlace_10 : decode cX3_faultPlace 10 = .ok (.if_icmp .gt 51, 3) := by decide +kernel
theorem dX3_faultPlace_13 : decode cX3_faultPlace 13 = .ok (.aload_n 0, 1) := by decide +kernel
theorem dX3_faultPlace_14 : decode cX3_faultPlace 14 = .ok (.invokevirtual 34, 3) := by decide +kernel
theorem dX3_faultPlace_17 : decode cX3_faultPlace 17 = .ok (.ifCond .ne 8, 3) := by decide +kernel
theorem dX3_faultPlace_20 : decode cX3_faultPlace 20 = .ok (.aload_n 0, 1) := by decide +kernel
theorem dX3_faultPlace_21 : decode cX3_faultPlace 21 = .ok (.getfield 19, 3) := by decide +kernel
theorem dX3_faultPlace_24 : decode cX3_faultPlace 24 = .ok (.ireturn, 1) := by decide +kernel
theorem dX3_faultPlace_25 : decode cX3_faultPlace 25 = .ok (.aload_n 0, 1) := by decide +kernel
theorem dX3_faultPlace_26 : decode cX3_faultPlace 26 = .ok (.getfield 19, 3) := by decide +kernel
theorem dX3_faultPlace_29 : decode cX3_faultPlace 29 = .ok (.aload_n 0, 1) := by decide +kernel
theorem dX3_faultPlace_30 : decode cX3_faultPlace 30 = .ok (.getfield 15, 3) := by decide +kernel
theorem dX3_faultPlace_33 : decode cX3_faultPlace 33 = .ok (.if_icmp .ne 6, 3) := by decide +kernel
theorem dX3_faultPlace_36 : decode cX3_faultPlace 36 = .ok (.bipush (-6), 2) := by decide +kernel
theorem dX3_faultPlace_38 : decode cX3_faultPlace 38 = .ok (.ireturn, 1) := by decide +kernel
theorem dX3_faultPlace_39 : decode cX3_faultPlace 39 = .ok (.aload_n 0, 1) := by decide +kernel
theorem dX3_faultPlace_40 : decode cX3_faultPlace 40 = .ok (.bipush 59, 2) := by decide +kernel
theorem dX3_faultPlace_42 : decode cX3_faultPlace 42 = .ok (.bipush 59, 2) := by decide +kernel
theorem dX3_faultPlace_44 : decode cX3_faultPlace 44 = .ok (.invokevirtual 38, 3) := by decide +kernel
theorem dX3_faultPlace_47 : decode cX3_faultPlace 47 = .ok (.ifCond .ne 8, 3) := by decide +kernel
theorem dX3_faultPlace_50 : decode cX3_faultPlace 50 = .ok (.aload_n 0, 1) := by decide +kernel
theorem dX3_faultPlace_51 : decode cX3_faultPlace 51 = .ok (.getfield 19, 3) := by decide +kernel
theorem dX3_faultPlace_54 : decode cX3_faultPlace 54 = .ok (.ireturn, 1) := by decide +kernel
theorem dX3_faultPlace_55 : decode cX3_faultPlace 55 = .ok (.iinc 1 1, 3) := by decide +kernel
theorem dX3_faultPlace_58 : decode cX3_faultPlace 58 = .ok (.goto (-51), 3) := by decide +kernel
theorem dX3_faultPlace_61 : decode cX3_faultPlace 61 = .ok (.aload_n 0, 1) := by decide +kernel
theorem dX3_faultPlace_62 : decode cX3_faultPlace 62 = .ok (.getfield 19, 3) := by decide +kernel
theorem dX3_faultPlace_65 : decode cX3_faultPlace 65 = .ok (.ireturn, 1) := by decide +kernel
theorem dX3_countBoards_0 : decode cX3_countBoards 0 = .ok (.iconst 1, 1) := by decide +kernel
theorem dX3_countBoards_1 : decode cX3_countBoards 1 = .ok (.istore_n 1, 1) := by decide +kernel
theorem dX3_countBoards_2 : decode cX3_countBoards 2 = .ok (.iconst 0, 1) := by decide +kernel
theorem dX3_countBoards_3 : decode cX3_countBoards 3 = .ok (.istore_n 2, 1) := by decide +kernel
theorem dX3_countBoards_4 : decode cX3_countBoards 4 = .ok (.iload_n 2, 1) := by decide +kernel
theorem dX3_countBoards_5 : decode cX3_countBoards 5 = .ok (.aload_n 0, 1) := by decide +kernel
theorem dX3_countBoards_6 : decode cX3_countBoards 6 = .ok (.getfield 15, 3) := by decide +kernel
theorem dX3_countBoards_9 : decode cX3_countBoards 9 = .ok (.if_icmp .ge 23, 3) := by decide +kernel
theorem dX3_countBoards_12 : decode cX3_countBoards 12 = .ok (.aload_n 0, 1) := by decide +kernel
theorem dX3_countBoards_13 : decode cX3_countBoards 13 = .ok (.getfield 9, 3) := by decide +kernel
theorem dX3_countBoards_16 : decode cX3_countBoards 16 = .ok (.iload_n 2, 1) := by decide +kernel
theorem dX3_countBoards_17 : decode cX3_countBoards 17 = .ok (.caload, 1) := by decide +kernel
theorem dX3_countBoards_18 : decode cX3_countBoards 18 = .ok (.bipush 59, 2) := by decide +kernel
theorem dX3_countBoards_20 : decode cX3_countBoards 20 = .ok (.if_icmp .ne 6, 3) := by decide +kernel
theorem dX3_countBoards_23 : decode cX3_countBoards 23 = .ok (.iinc 1 1, 3) := by decide +kernel
theorem dX3_countBoards_26 : decode cX3_countBoards 26 = .ok (.iinc 2 1, 3) := by decide +kernel
theorem dX3_countBoards_29 : decode cX3_countBoards 29 = .ok (.goto (-25), 3) := by decide +kernel
theorem dX3_countBoards_32 : decode cX3_countBoards 32 = .ok (.iload_n 1, 1) := by decide +kernel
end
section
theorem dX3_countBoards_33 : decode cX3_countBoards 33 = .ok (.ireturn, 1) := by decide +kernel
theorem dX3_hangUp_0 : decode cX3_hangUp 0 = .ok (.aload_n 0, 1) := by decide +kernel
theorem dX3_hangUp_1 : decode cX3_hangUp 1 = .ok (.iconst 0, 1) := by decide +kernel
theorem dX3_hangUp_2 : decode cX3_hangUp 2 = .ok (.putfield 19, 3) := by decide +kernel
theorem dX3_hangUp_5 : decode cX3_hangUp 5 = .ok (.iconst 0, 1) := by decide +kernel
theorem dX3_hangUp_6 : decode cX3_hangUp 6 = .ok (.istore_n 3, 1) := by decide +kernel
theorem dX3_hangUp_7 : decode cX3_hangUp 7 = .ok (.iload_n 3, 1) := by decide +kernel
theorem dX3_hangUp_8 : decode cX3_hangUp 8 = .ok (.iload_n 2, 1) := by decide +kernel
theorem dX3_hangUp_9 : decode cX3_hangUp 9 = .ok (.if_icmp .ge 45, 3) := by decide +kernel
theorem dX3_hangUp_12 : decode cX3_hangUp 12 = .ok (.aload_n 0, 1) := by decide +kernel
theorem dX3_hangUp_13 : decode cX3_hangUp 13 = .ok (.invokevirtual 34, 3) := by decide +kernel
theorem dX3_hangUp_16 : decode cX3_hangUp 16 = .ok (.ifCond .eq 38, 3) := by decide +kernel
theorem dX3_hangUp_19 : decode cX3_hangUp 19 = .ok (.aload_n 1, 1) := by decide +kernel
theorem dX3_hangUp_20 : decode cX3_hangUp 20 = .ok (.aload_n 0, 1) := by decide +kernel
theorem dX3_hangUp_21 : decode cX3_hangUp 21 = .ok (.getfield 31, 3) := by decide +kernel
theorem dX3_hangUp_24 : decode cX3_hangUp 24 = .ok (.aload_n 0, 1) := by decide +kernel
theorem dX3_hangUp_25 : decode cX3_hangUp 25 = .ok (.getfield 28, 3) := by decide +kernel
theorem dX3_hangUp_28 : decode cX3_hangUp 28 = .ok (.aload_n 0, 1) := by decide +kernel
theorem dX3_hangUp_29 : decode cX3_hangUp 29 = .ok (.getfield 25, 3) := by decide +kernel
theorem dX3_hangUp_32 : decode cX3_hangUp 32 = .ok (.aload_n 0, 1) := by decide +kernel
theorem dX3_hangUp_33 : decode cX3_hangUp 33 = .ok (.getfield 22, 3) := by decide +kernel
theorem dX3_hangUp_36 : decode cX3_hangUp 36 = .ok (.invokevirtual 42, 3) := by decide +kernel
theorem dX3_hangUp_39 : decode cX3_hangUp 39 = .ok (.aload_n 0, 1) := by decide +kernel
theorem dX3_hangUp_40 : decode cX3_hangUp 40 = .ok (.bipush 59, 2) := by decide +kernel
theorem dX3_hangUp_42 : decode cX3_hangUp 42 = .ok (.bipush 59, 2) := by decide +kernel
theorem dX3_hangUp_44 : decode cX3_hangUp 44 = .ok (.invokevirtual 38, 3) := by decide +kernel
theorem dX3_hangUp_47 : decode cX3_hangUp 47 = .ok (.pop, 1) := by decide +kernel
theorem dX3_hangUp_48 : decode cX3_hangUp 48 = .ok (.iinc 3 1, 3) := by decide +kernel
theorem dX3_hangUp_51 : decode cX3_hangUp 51 = .ok (.goto (-44), 3) := by decide +kernel
theorem dX3_hangUp_54 : decode cX3_hangUp 54 = .ok (.return_, 1) := by decide +kernel
theorem dX3_passBoard_0 : decode cX3_passBoard 0 = .ok (.aload_n 0, 1) := by decide +kernel
theorem dX3_passBoard_1 : decode cX3_passBoard 1 = .ok (.iconst (-1), 1) := by decide +kernel
theorem dX3_passBoard_2 : decode cX3_passBoard 2 = .ok (.invokevirtual 48, 3) := by decide +kernel
theorem dX3_passBoard_5 : decode cX3_passBoard 5 = .ok (.ifCond .ne 5, 3) := by decide +kernel
theorem dX3_passBoard_8 : decode cX3_passBoard 8 = .ok (.iconst 0, 1) := by decide +kernel
theorem dX3_passBoard_9 : decode cX3_passBoard 9 = .ok (.ireturn, 1) := by decide +kernel
theorem dX3_passBoard_10 : decode cX3_passBoard 10 = .ok (.aload_n 0, 1) := by decide +kernel
theorem dX3_passBoard_11 : decode cX3_passBoard 11 = .ok (.aload_n 0, 1) := by decide +kernel
theorem dX3_passBoard_12 : decode cX3_passBoard 12 = .ok (.getfield 22, 3) := by decide +kernel
theorem dX3_passBoard_15 : decode cX3_passBoard 15 = .ok (.putfield 28, 3) := by decide +kernel
theorem dX3_passBoard_18 : decode cX3_passBoard 18 = .ok (.aload_n 0, 1) := by decide +kernel
theorem dX3_passBoard_19 : decode cX3_passBoard 19 = .ok (.aload_n 0, 1) := by decide +kernel
theorem dX3_passBoard_20 : decode cX3_passBoard 20 = .ok (.getfield 25, 3) := by decide +kernel
theorem dX3_passBoard_23 : decode cX3_passBoard 23 = .ok (.putfield 31, 3) := by decide +kernel
theorem dX3_passBoard_26 : decode cX3_passBoard 26 = .ok (.aload_n 0, 1) := by decide +kernel
theorem dX3_passBoard_27 : decode cX3_passBoard 27 = .ok (.bipush 62, 2) := by decide +kernel
theorem dX3_passBoard_29 : decode cX3_passBoard 29 = .ok (.bipush 62, 2) := by decide +kernel
theorem dX3_passBoard_31 : decode cX3_passBoard 31 = .ok (.invokevirtual 38, 3) := by decide +kernel
theorem dX3_passBoard_34 : decode cX3_passBoard 34 = .ok (.ifCond .eq 18, 3) := by decide +kernel
theorem dX3_passBoard_37 : decode cX3_passBoard 37 = .ok (.aload_n 0, 1) := by decide +kernel
theorem dX3_passBoard_38 : decode cX3_passBoard 38 = .ok (.aload_n 0, 1) := by decide +kernel
theorem dX3_passBoard_39 : decode cX3_passBoard 39 = .ok (.getfield 31, 3) := by decide +kernel
theorem dX3_passBoard_42 : decode cX3_passBoard 42 = .ok (.invokevirtual 48, 3) := by decide +kernel
theorem dX3_passBoard_45 : decode cX3_passBoard 45 = .ok (.ifCond .eq 7, 3) := by decide +kernel
theorem dX3_passBoard_48 : decode cX3_passBoard 48 = .ok (.iconst 1, 1) := by decide +kernel
theorem dX3_passBoard_49 : decode cX3_passBoard 49 = .ok (.goto 4, 3) := by decide +kernel
theorem dX3_passBoard_52 : decode cX3_passBoard 52 = .ok (.iconst 0, 1) := by decide +kernel
theorem dX3_passBoard_53 : decode cX3_passBoard 53 = .ok (.ireturn, 1) := by decide +kernel
theorem dX3_passCoins_0 : decode cX3_passCoins 0 = .ok (.aload_n 0, 1) := by decide +kernel
theorem dX3_passCoins_1 : decode cX3_passCoins 1 = .ok (.bipush 49, 2) := by decide +kernel
theorem dX3_passCoins_3 : decode cX3_passCoins 3 = .ok (.bipush 57, 2) := by decide +kernel
theorem dX3_passCoins_5 : decode cX3_passCoins 5 = .ok (.invokevirtual 38, 3) := by decide +kernel
theorem dX3_passCoins_8 : decode cX3_passCoins 8 = .ok (.ifCond .ne 5, 3) := by decide +kernel
theorem dX3_passCoins_11 : decode cX3_passCoins 11 = .ok (.iconst 0, 1) := by decide +kernel
theorem dX3_passCoins_12 : decode cX3_passCoins 12 = .ok (.ireturn, 1) := by decide +kernel
theorem dX3_passCoins_13 : decode cX3_passCoins 13 = .ok (.aload_n 0, 1) := by decide +kernel
theorem dX3_passCoins_14 : decode cX3_passCoins 14 = .ok (.aload_n 0, 1) := by decide +kernel
theorem dX3_passCoins_15 : decode cX3_passCoins 15 = .ok (.getfield 9, 3) := by decide +kernel
theorem dX3_passCoins_18 : decode cX3_passCoins 18 = .ok (.aload_n 0, 1) := by decide +kernel
theorem dX3_passCoins_19 : decode cX3_passCoins 19 = .ok (.getfield 19, 3) := by decide +kernel
theorem dX3_passCoins_22 : decode cX3_passCoins 22 = .ok (.iconst 1, 1) := by decide +kernel
theorem dX3_passCoins_23 : decode cX3_passCoins 23 = .ok (.isub, 1) := by decide +kernel
theorem dX3_passCoins_24 : decode cX3_passCoins 24 = .ok (.caload, 1) := by decide +kernel
theorem dX3_passCoins_25 : decode cX3_passCoins 25 = .ok (.bipush 48, 2) := by decide +kernel
theorem dX3_passCoins_27 : decode cX3_passCoins 27 = .ok (.isub, 1) := by decide +kernel
theorem dX3_passCoins_28 : decode cX3_passCoins 28 = .ok (.putfield 22, 3) := by decide +kernel
theorem dX3_passCoins_31 : decode cX3_passCoins 31 = .ok (.aload_n 0, 1) := by decide +kernel
theorem dX3_passCoins_32 : decode cX3_passCoins 32 = .ok (.bipush 48, 2) := by decide +kernel
theorem dX3_passCoins_34 : decode cX3_passCoins 34 = .ok (.bipush 57, 2) := by decide +kernel
theorem dX3_passCoins_36 : decode cX3_passCoins 36 = .ok (.invokevirtual 38, 3) := by decide +kernel
theorem dX3_passCoins_39 : decode cX3_passCoins 39 = .ok (.ifCond .eq 29, 3) := by decide +kernel
theorem dX3_passCoins_42 : decode cX3_passCoins 42 = .ok (.aload_n 0, 1) := by decide +kernel
theorem dX3_passCoins_43 : decode cX3_passCoins 43 = .ok (.bipush 10, 2) := by decide +kernel
theorem dX3_passCoins_45 : decode cX3_passCoins 45 = .ok (.aload_n 0, 1) := by decide +kernel
theorem dX3_passCoins_46 : decode cX3_passCoins 46 = .ok (.getfield 22, 3) := by decide +kernel
theorem dX3_passCoins_49 : decode cX3_passCoins 49 = .ok (.imul, 1) := by decide +kernel
theorem dX3_passCoins_50 : decode cX3_passCoins 50 = .ok (.aload_n 0, 1) := by decide +kernel
theorem dX3_passCoins_51 : decode cX3_passCoins 51 = .ok (.getfield 9, 3) := by decide +kernel
theorem dX3_passCoins_54 : decode cX3_passCoins 54 = .ok (.aload_n 0, 1) := by decide +kernel
theorem dX3_passCoins_55 : decode cX3_passCoins 55 = .ok (.getfield 19, 3) := by decide +kernel
theorem dX3_passCoins_58 : decode cX3_passCoins 58 = .ok (.iconst 1, 1) := by decide +kernel
theorem dX3_passCoins_59 : decode cX3_passCoins 59 = .ok (.isub, 1) := by decide +kernel
theorem dX3_passCoins_60 : decode cX3_passCoins 60 = .ok (.caload, 1) := by decide +kernel
theorem dX3_passCoins_61 : decode cX3_passCoins 61 = .ok (.iadd, 1) := by decide +kernel
theorem dX3_passCoins_62 : decode cX3_passCoins 62 = .ok (.bipush 48, 2) := by decide +kernel
theorem dX3_passCoins_64 : decode cX3_passCoins 64 = .ok (.isub, 1) := by decide +kernel
theorem dX3_passCoins_65 : decode cX3_passCoins 65 = .ok (.putfield 22, 3) := by decide +kernel
theorem dX3_passCoins_68 : decode cX3_passCoins 68 = .ok (.aload_n 0, 1) := by decide +kernel
theorem dX3_passCoins_69 : decode cX3_passCoins 69 = .ok (.getfield 19, 3) := by decide +kernel
theorem dX3_passCoins_72 : decode cX3_passCoins 72 = .ok (.aload_n 0, 1) := by decide +kernel
theorem dX3_passCoins_73 : decode cX3_passCoins 73 = .ok (.getfield 15, 3) := by decide +kernel
theorem dX3_passCoins_76 : decode cX3_passCoins 76 = .ok (.if_icmp .ge 21, 3) := by decide +kernel
theorem dX3_passCoins_79 : decode cX3_passCoins 79 = .ok (.aload_n 0, 1) := by decide +kernel
theorem dX3_passCoins_80 : decode cX3_passCoins 80 = .ok (.getfield 9, 3) := by decide +kernel
theorem dX3_passCoins_83 : decode cX3_passCoins 83 = .ok (.aload_n 0, 1) := by decide +kernel
theorem dX3_passCoins_84 : decode cX3_passCoins 84 = .ok (.getfield 19, 3) := by decide +kernel
theorem dX3_passCoins_87 : decode cX3_passCoins 87 = .ok (.caload, 1) := by decide +kernel
theorem dX3_passCoins_88 : decode cX3_passCoins 88 = .ok (.bipush 97, 2) := by decide +kernel
theorem dX3_passCoins_90 : decode cX3_passCoins 90 = .ok (.isub, 1) := by decide +kernel
theorem dX3_passCoins_91 : decode cX3_passCoins 91 = .ok (.iload_n 1, 1) := by decide +kernel
theorem dX3_passCoins_92 : decode cX3_passCoins 92 = .ok (.if_icmp .ne 5, 3) := by decide +kernel
theorem dX3_passCoins_95 : decode cX3_passCoins 95 = .ok (.iconst 0, 1) := by decide +kernel
theorem dX3_passCoins_96 : decode cX3_passCoins 96 = .ok (.ireturn, 1) := by decide +kernel
theorem dX3_passCoins_97 : decode cX3_passCoins 97 = .ok (.aload_n 0, 1) := by decide +kernel
theorem dX3_passCoins_98 : decode cX3_passCoins 98 = .ok (.bipush 97, 2) := by decide +kernel
theorem dX3_passCoins_100 : decode cX3_passCoins 100 = .ok (.bipush 104, 2) := by decide +kernel
theorem dX3_passCoins_102 : decode cX3_passCoins 102 = .ok (.invokevirtual 38, 3) := by decide +kernel
theorem dX3_passCoins_105 : decode cX3_passCoins 105 = .ok (.ifCond .ne 5, 3) := by decide +kernel
theorem dX3_passCoins_108 : decode cX3_passCoins 108 = .ok (.iconst 0, 1) := by decide +kernel
theorem dX3_passCoins_109 : decode cX3_passCoins 109 = .ok (.ireturn, 1) := by decide +kernel
theorem dX3_passCoins_110 : decode cX3_passCoins 110 = .ok (.aload_n 0, 1) := by decide +kernel
theorem dX3_passCoins_111 : decode cX3_passCoins 111 = .ok (.aload_n 0, 1) := by decide +kernel
theorem dX3_passCoins_112 : decode cX3_passCoins 112 = .ok (.getfield 9, 3) := by decide +kernel
theorem dX3_passCoins_115 : decode cX3_passCoins 115 = .ok (.aload_n 0, 1) := by decide +kernel
theorem dX3_passCoins_116 : decode cX3_passCoins 116 = .ok (.getfield 19, 3) := by decide +kernel
theorem dX3_passCoins_119 : decode cX3_passCoins 119 = .ok (.iconst 1, 1) := by decide +kernel
theorem dX3_passCoins_120 : decode cX3_passCoins 120 = .ok (.isub, 1) := by decide +kernel
theorem dX3_passCoins_121 : decode cX3_passCoins 121 = .ok (.caload, 1) := by decide +kernel
theorem dX3_passCoins_122 : decode cX3_passCoins 122 = .ok (.bipush 97, 2) := by decide +kernel
theorem dX3_passCoins_124 : decode cX3_passCoins 124 = .ok (.isub, 1) := by decide +kernel
theorem dX3_passCoins_125 : decode cX3_passCoins 125 = .ok (.putfield 25, 3) := by decide +kernel
theorem dX3_passCoins_128 : decode cX3_passCoins 128 = .ok (.iconst 1, 1) := by decide +kernel
theorem dX3_passCoins_129 : decode cX3_passCoins 129 = .ok (.ireturn, 1) := by decide +kernel
theorem dX3_passOneOf_0 : decode cX3_passOneOf 0 = .ok (.aload_n 0, 1) := by decide +kernel
theorem dX3_passOneOf_1 : decode cX3_passOneOf 1 = .ok (.getfield 19, 3) := by decide +kernel
theorem dX3_passOneOf_4 : decode cX3_passOneOf 4 = .ok (.ifCond .lt 40, 3) := by decide +kernel
theorem dX3_passOneOf_7 : decode cX3_passOneOf 7 = .ok (.aload_n 0, 1) := by decide +kernel
theorem dX3_passOneOf_8 : decode cX3_passOneOf 8 = .ok (.getfield 19, 3) := by decide +kernel
theorem dX3_passOneOf_11 : decode cX3_passOneOf 11 = .ok (.aload_n 0, 1) := by decide +kernel
theorem dX3_passOneOf_12 : decode cX3_passOneOf 12 = .ok (.getfield 15, 3) := by decide +kernel
theorem dX3_passOneOf_15 : decode cX3_passOneOf 15 = .ok (.if_icmp .ge 29, 3) := by decide +kernel
theorem dX3_passOneOf_18 : decode cX3_passOneOf 18 = .ok (.aload_n 0, 1) := by decide +kernel
theorem dX3_passOneOf_19 : decode cX3_passOneOf 19 = .ok (.getfield 9, 3) := by decide +kernel
theorem dX3_passOneOf_22 : decode cX3_passOneOf 22 = .ok (.aload_n 0, 1) := by decide +kernel
theorem dX3_passOneOf_23 : decode cX3_passOneOf 23 = .ok (.getfield 19, 3) := by decide +kernel
theorem dX3_passOneOf_26 : decode cX3_passOneOf 26 = .ok (.caload, 1) := by decide +kernel
theorem dX3_passOneOf_27 : decode cX3_passOneOf 27 = .ok (.iload_n 1, 1) := by decide +kernel
theorem dX3_passOneOf_28 : decode cX3_passOneOf 28 = .ok (.if_icmp .lt 16, 3) := by decide +kernel
theorem dX3_passOneOf_31 : decode cX3_passOneOf 31 = .ok (.aload_n 0, 1) := by decide +kernel
theorem dX3_passOneOf_32 : decode cX3_passOneOf 32 = .ok (.getfield 9, 3) := by decide +kernel
theorem dX3_passOneOf_35 : decode cX3_passOneOf 35 = .ok (.aload_n 0, 1) := by decide +kernel
theorem dX3_passOneOf_36 : decode cX3_passOneOf 36 = .ok (.getfield 19, 3) := by decide +kernel
theorem dX3_passOneOf_39 : decode cX3_passOneOf 39 = .ok (.caload, 1) := by decide +kernel
theorem dX3_passOneOf_40 : decode cX3_passOneOf 40 = .ok (.iload_n 2, 1) := by decide +kernel
theorem dX3_passOneOf_41 : decode cX3_passOneOf 41 = .ok (.if_icmp .le 5, 3) := by decide +kernel
theorem dX3_passOneOf_44 : decode cX3_passOneOf 44 = .ok (.iconst 0, 1) := by decide +kernel
theorem dX3_passOneOf_45 : decode cX3_passOneOf 45 = .ok (.ireturn, 1) := by decide +kernel
theorem dX3_passOneOf_46 : decode cX3_passOneOf 46 = .ok (.aload_n 0, 1) := by decide +kernel
theorem dX3_passOneOf_47 : decode cX3_passOneOf 47 = .ok (.dup, 1) := by decide +kernel
theorem dX3_passOneOf_48 : decode cX3_passOneOf 48 = .ok (.getfield 19, 3) := by decide +kernel
theorem dX3_passOneOf_51 : decode cX3_passOneOf 51 = .ok (.iconst 1, 1) := by decide +kernel
theorem dX3_passOneOf_52 : decode cX3_passOneOf 52 = .ok (.iadd, 1) := by decide +kernel
theorem dX3_passOneOf_53 : decode cX3_passOneOf 53 = .ok (.putfield 19, 3) := by decide +kernel
theorem dX3_passOneOf_56 : decode cX3_passOneOf 56 = .ok (.iconst 1, 1) := by decide +kernel
theorem dX3_passOneOf_57 : decode cX3_passOneOf 57 = .ok (.ireturn, 1) := by decide +kernel
theorem dX4_init_0 : decode cX4_init 0 = .ok (.aload_n 0, 1) := by decide +kernel
theorem dX4_init_1 : decode cX4_init 1 = .ok (.invokespecial 3, 3) := by decide +kernel
theorem dX4_init_4 : decode cX4_init 4 = .ok (.aload_n 0, 1) := by decide +kernel
theorem dX4_init_5 : decode cX4_init 5 = .ok (.bipush 12, 2) := by decide +kernel
theorem dX4_init_7 : decode cX4_init 7 = .ok (.newarray .int, 2) := by decide +kernel
theorem dX4_init_9 : decode cX4_init 9 = .ok (.putfield 9, 3) := by decide +kernel
theorem dX4_init_12 : decode cX4_init 12 = .ok (.aload_n 0, 1) := by decide +kernel
theorem dX4_init_13 : decode cX4_init 13 = .ok (.iconst 0, 1) := by decide +kernel
theorem dX4_init_14 : decode cX4_init 14 = .ok (.putfield 15, 3) := by decide +kernel
theorem dX4_init_17 : decode cX4_init 17 = .ok (.aload_n 0, 1) := by decide +kernel
theorem dX4_init_18 : decode cX4_init 18 = .ok (.iconst 0, 1) := by decide +kernel
theorem dX4_init_19 : decode cX4_init 19 = .ok (.putfield 19, 3) := by decide +kernel
theorem dX4_init_22 : decode cX4_init 22 = .ok (.return_, 1) := by decide +kernel
theorem dX4_send_0 : decode cX4_send 0 = .ok (.aload_n 1, 1) := by decide +kernel
theorem dX4_send_1 : decode cX4_send 1 = .ok (.getfield 23, 3) := by decide +kernel
theorem dX4_send_4 : decode cX4_send 4 = .ok (.iconst 0, 1) := by decide +kernel
theorem dX4_send_5 : decode cX4_send 5 = .ok (.aload_n 0, 1) := by decide +kernel
theorem dX4_send_6 : decode cX4_send 6 = .ok (.getfield 9, 3) := by decide +kernel
theorem dX4_send_9 : decode cX4_send 9 = .ok (.iconst 0, 1) := by decide +kernel
theorem dX4_send_10 : decode cX4_send 10 = .ok (.bipush 12, 2) := by decide +kernel
theorem dX4_send_12 : decode cX4_send 12 = .ok (.invokestatic 26, 3) := by decide +kernel
theorem dX4_send_15 : decode cX4_send 15 = .ok (.aload_n 0, 1) := by decide +kernel
theorem dX4_send_16 : decode cX4_send 16 = .ok (.iconst 0, 1) := by decide +kernel
theorem dX4_send_17 : decode cX4_send 17 = .ok (.putfield 15, 3) := by decide +kernel
theorem dX4_send_20 : decode cX4_send 20 = .ok (.iconst 0, 1) := by decide +kernel
theorem dX4_send_21 : decode cX4_send 21 = .ok (.istore_n 3, 1) := by decide +kernel
theorem dX4_send_22 : decode cX4_send 22 = .ok (.iload_n 3, 1) := by decide +kernel
theorem dX4_send_23 : decode cX4_send 23 = .ok (.sipush 1176, 3) := by decide +kernel
theorem dX4_send_26 : decode cX4_send 26 = .ok (.if_icmp .ge 60, 3) := by decide +kernel
theorem dX4_send_29 : decode cX4_send 29 = .ok (.aload_n 2, 1) := by decide +kernel
theorem dX4_send_30 : decode cX4_send 30 = .ok (.aload_n 0, 1) := by decide +kernel
theorem dX4_send_31 : decode cX4_send 31 = .ok (.getfield 9, 3) := by decide +kernel
theorem dX4_send_34 : decode cX4_send 34 = .ok (.aload_n 1, 1) := by decide +kernel
theorem dX4_send_35 : decode cX4_send 35 = .ok (.getfield 32, 3) := by decide +kernel
theorem dX4_send_38 : decode cX4_send 38 = .ok (.iconst 0, 1) := by decide +kernel
theorem dX4_send_39 : decode cX4_send 39 = .ok (.iaload, 1) := by decide +kernel
theorem dX4_send_40 : decode cX4_send 40 = .ok (.invokevirtual 35, 3) := by decide +kernel
theorem dX4_send_43 : decode cX4_send 43 = .ok (.istore 4, 2) := by decide +kernel
theorem dX4_send_45 : decode cX4_send 45 = .ok (.iload 4, 2) := by decide +kernel
theorem dX4_send_47 : decode cX4_send 47 = .ok (.ifCond .ge 6, 3) := by decide +kernel
theorem dX4_send_50 : decode cX4_send 50 = .ok (.goto 36, 3) := by decide +kernel
theorem dX4_send_53 : decode cX4_send 53 = .ok (.aload_n 0, 1) := by decide +kernel
theorem dX4_send_54 : decode cX4_send 54 = .ok (.aload_n 2, 1) := by decide +kernel
theorem dX4_send_55 : decode cX4_send 55 = .ok (.getfield 41, 3) := by decide +kernel
theorem dX4_send_58 : decode cX4_send 58 = .ok (.iload 4, 2) := by decide +kernel
theorem dX4_send_60 : decode cX4_send 60 = .ok (.iaload, 1) := by decide +kernel
theorem dX4_send_61 : decode cX4_send 61 = .ok (.aload_n 1, 1) := by decide +kernel
theorem dX4_send_62 : decode cX4_send 62 = .ok (.getfield 32, 3) := by decide +kernel
theorem dX4_send_65 : decode cX4_send 65 = .ok (.iconst 2, 1) := by decide +kernel
theorem dX4_send_66 : decode cX4_send 66 = .ok (.iaload, 1) := by decide +kernel
theorem dX4_send_67 : decode cX4_send 67 = .ok (.invokevirtual 44, 3) := by decide +kernel
theorem dX4_send_70 : decode cX4_send 70 = .ok (.aload_n 0, 1) := by decide +kernel
theorem dX4_send_71 : decode cX4_send 71 = .ok (.dup, 1) := by decide +kernel
theorem dX4_send_72 : decode cX4_send 72 = .ok (.getfield 15, 3) := by decide +kernel
theorem dX4_send_75 : decode cX4_send 75 = .ok (.iconst 1, 1) := by decide +kernel
theorem dX4_send_76 : decode cX4_send 76 = .ok (.iadd, 1) := by decide +kernel
theorem dX4_send_77 : decode cX4_send 77 = .ok (.putfield 15, 3) := by decide +kernel
theorem dX4_send_80 : decode cX4_send 80 = .ok (.iinc 3 1, 3) := by decide +kernel
theorem dX4_send_83 : decode cX4_send 83 = .ok (.goto (-61), 3) := by decide +kernel
theorem dX4_send_86 : decode cX4_send 86 = .ok (.aload_n 0, 1) := by decide +kernel
theorem dX4_send_87 : decode cX4_send 87 = .ok (.iconst 1, 1) := by decide +kernel
theorem dX4_send_88 : decode cX4_send 88 = .ok (.putfield 19, 3) := by decide +kernel
theorem dX4_send_91 : decode cX4_send 91 = .ok (.return_, 1) := by decide +kernel
theorem dX4_wearOut_0 : decode cX4_wearOut 0 = .ok (.iconst 0, 1) := by decide +kernel
theorem dX4_wearOut_1 : decode cX4_wearOut 1 = .ok (.istore_n 3, 1) := by decide +kernel
theorem dX4_wearOut_2 : decode cX4_wearOut 2 = .ok (.iload_n 3, 1) := by decide +kernel
theorem dX4_wearOut_3 : decode cX4_wearOut 3 = .ok (.bipush 12, 2) := by decide +kernel
theorem dX4_wearOut_5 : decode cX4_wearOut 5 = .ok (.if_icmp .ge 36, 3) := by decide +kernel
theorem dX4_wearOut_8 : decode cX4_wearOut 8 = .ok (.iload_n 1, 1) := by decide +kernel
theorem dX4_wearOut_9 : decode cX4_wearOut 9 = .ok (.iload_n 3, 1) := by decide +kernel
theorem dX4_wearOut_10 : decode cX4_wearOut 10 = .ok (.ishr, 1) := by decide +kernel
theorem dX4_wearOut_11 : decode cX4_wearOut 11 = .ok (.iconst 1, 1) := by decide +kernel
theorem dX4_wearOut_12 : decode cX4_wearOut 12 = .ok (.iand, 1) := by decide +kernel
theorem dX4_wearOut_13 : decode cX4_wearOut 13 = .ok (.iconst 1, 1) := by decide +kernel
theorem dX4_wearOut_14 : decode cX4_wearOut 14 = .ok (.if_icmp .ne 21, 3) := by decide +kernel
theorem dX4_wearOut_17 : decode cX4_wearOut 17 = .ok (.aload_n 0, 1) := by decide +kernel
theorem dX4_wearOut_18 : decode cX4_wearOut 18 = .ok (.getfield 9, 3) := by decide +kernel
theorem dX4_wearOut_21 : decode cX4_wearOut 21 = .ok (.iload_n 3, 1) := by decide +kernel
theorem dX4_wearOut_22 : decode cX4_wearOut 22 = .ok (.iconst 1, 1) := by decide +kernel
theorem dX4_wearOut_23 : decode cX4_wearOut 23 = .ok (.aload_n 0, 1) := by decide +kernel
theorem dX4_wearOut_24 : decode cX4_wearOut 24 = .ok (.getfield 9, 3) := by decide +kernel
theorem dX4_wearOut_27 : decode cX4_wearOut 27 = .ok (.iload_n 3, 1) := by decide +kernel
theorem dX4_wearOut_28 : decode cX4_wearOut 28 = .ok (.iaload, 1) := by decide +kernel
theorem dX4_wearOut_29 : decode cX4_wearOut 29 = .ok (.iload_n 2, 1) := by decide +kernel
theorem dX4_wearOut_30 : decode cX4_wearOut 30 = .ok (.isub, 1) := by decide +kernel
theorem dX4_wearOut_31 : decode cX4_wearOut 31 = .ok (.invokestatic 48, 3) := by decide +kernel
theorem dX4_wearOut_34 : decode cX4_wearOut 34 = .ok (.iastore, 1) := by decide +kernel
theorem dX4_wearOut_35 : decode cX4_wearOut 35 = .ok (.iinc 3 1, 3) := by decide +kernel
theorem dX4_wearOut_38 : decode cX4_wearOut 38 = .ok (.goto (-36), 3) := by decide +kernel
theorem dX4_wearOut_41 : decode cX4_wearOut 41 = .ok (.return_, 1) := by decide +kernel
theorem dX5_init_0 : decode cX5_init 0 = .ok (.aload_n 0, 1) := by decide +kernel
theorem dX5_init_1 : decode cX5_init 1 = .ok (.invokespecial 3, 3) := by decide +kernel
theorem dX5_init_4 : decode cX5_init 4 = .ok (.aload_n 0, 1) := by decide +kernel
theorem dX5_init_5 : decode cX5_init 5 = .ok (.bipush 8, 2) := by decide +kernel
theorem dX5_init_7 : decode cX5_init 7 = .ok (.newarray .long, 2) := by decide +kernel
theorem dX5_init_9 : decode cX5_init 9 = .ok (.putfield 9, 3) := by decide +kernel
theorem dX5_init_12 : decode cX5_init 12 = .ok (.aload_n 0, 1) := by decide +kernel
theorem dX5_init_13 : decode cX5_init 13 = .ok (.bipush 8, 2) := by decide +kernel
theorem dX5_init_15 : decode cX5_init 15 = .ok (.newarray .long, 2) := by decide +kernel
theorem dX5_init_17 : decode cX5_init 17 = .ok (.putfield 15, 3) := by decide +kernel
theorem dX5_init_20 : decode cX5_init 20 = .ok (.aload_n 0, 1) := by decide +kernel
theorem dX5_init_21 : decode cX5_init 21 = .ok (.bipush 8, 2) := by decide +kernel
theorem dX5_init_23 : decode cX5_init 23 = .ok (.newarray .int, 2) := by decide +kernel
theorem dX5_init_25 : decode cX5_init 25 = .ok (.putfield 18, 3) := by decide +kernel
theorem dX5_init_28 : decode cX5_init 28 = .ok (.return_, 1) := by decide +kernel
theorem dX5_spread_0 : decode cX5_spread 0 = .ok (.iconst 0, 1) := by decide +kernel
theorem dX5_spread_1 : decode cX5_spread 1 = .ok (.istore_n 3, 1) := by decide +kernel
theorem dX5_spread_2 : decode cX5_spread 2 = .ok (.iload_n 3, 1) := by decide +kernel
theorem dX5_spread_3 : decode cX5_spread 3 = .ok (.bipush 8, 2) := by decide +kernel
theorem dX5_spread_5 : decode cX5_spread 5 = .ok (.if_icmp .ge 32, 3) := by decide +kernel
theorem dX5_spread_8 : decode cX5_spread 8 = .ok (.aload_n 0, 1) := by decide +kernel
theorem dX5_spread_9 : decode cX5_spread 9 = .ok (.getfield 9, 3) := by decide +kernel
theorem dX5_spread_12 : decode cX5_spread 12 = .ok (.iload_n 3, 1) := by decide +kernel
theorem dX5_spread_13 : decode cX5_spread 13 = .ok (.iload_n 3, 1) := by decide +kernel
theorem dX5_spread_14 : decode cX5_spread 14 = .ok (.iload_n 2, 1) := by decide +kernel
theorem dX5_spread_15 : decode cX5_spread 15 = .ok (.if_icmp .ne 7, 3) := by decide +kernel
theorem dX5_spread_18 : decode cX5_spread 18 = .ok (.lconst 1, 1) := by decide +kernel
theorem dX5_spread_19 : decode cX5_spread 19 = .ok (.goto 4, 3) := by decide +kernel
theorem dX5_spread_22 : decode cX5_spread 22 = .ok (.lconst 0, 1) := by decide +kernel
theorem dX5_spread_23 : decode cX5_spread 23 = .ok (.lastore, 1) := by decide +kernel
theorem dX5_spread_24 : decode cX5_spread 24 = .ok (.aload_n 0, 1) := by decide +kernel
theorem dX5_spread_25 : decode cX5_spread 25 = .ok (.getfield 15, 3) := by decide +kernel
theorem dX5_spread_28 : decode cX5_spread 28 = .ok (.iload_n 3, 1) := by decide +kernel
theorem dX5_spread_29 : decode cX5_spread 29 = .ok (.lconst 1, 1) := by decide +kernel
theorem dX5_spread_30 : decode cX5_spread 30 = .ok (.lastore, 1) := by decide +kernel
theorem dX5_spread_31 : decode cX5_spread 31 = .ok (.iinc 3 1, 3) := by decide +kernel
theorem dX5_spread_34 : decode cX5_spread 34 = .ok (.goto (-32), 3) := by decide +kernel
theorem dX5_spread_37 : decode cX5_spread 37 = .ok (.iconst 1, 1) := by decide +kernel
theorem dX5_spread_38 : decode cX5_spread 38 = .ok (.istore_n 3, 1) := by decide +kernel
theorem dX5_spread_39 : decode cX5_spread 39 = .ok (.iload_n 3, 1) := by decide +kernel
theorem dX5_spread_40 : decode cX5_spread 40 = .ok (.bipush 8, 2) := by decide +kernel
theorem dX5_spread_42 : decode cX5_spread 42 = .ok (.if_icmp .ge 43, 3) := by decide +kernel
theorem dX5_spread_45 : decode cX5_spread 45 = .ok (.iconst 0, 1) := by decide +kernel
theorem dX5_spread_46 : decode cX5_spread 46 = .ok (.istore 4, 2) := by decide +kernel
theorem dX5_spread_48 : decode cX5_spread 48 = .ok (.iload 4, 2) := by decide +kernel
theorem dX5_spread_50 : decode cX5_spread 50 = .ok (.aload_n 1, 1) := by decide +kernel
theorem dX5_spread_51 : decode cX5_spread 51 = .ok (.getfield 22, 3) := by decide +kernel
theorem dX5_spread_54 : decode cX5_spread 54 = .ok (.if_icmp .ge 25, 3) := by decide +kernel
theorem dX5_spread_57 : decode cX5_spread 57 = .ok (.aload_n 1, 1) := by decide +kernel
theorem dX5_spread_58 : decode cX5_spread 58 = .ok (.iload 4, 2) := by decide +kernel
theorem dX5_spread_60 : decode cX5_spread 60 = .ok (.invokevirtual 28, 3) := by decide +kernel
theorem dX5_spread_63 : decode cX5_spread 63 = .ok (.ifCond .eq 10, 3) := by decide +kernel
theorem dX5_spread_66 : decode cX5_spread 66 = .ok (.aload_n 0, 1) := by decide +kernel
theorem dX5_spread_67 : decode cX5_spread 67 = .ok (.aload_n 1, 1) := by decide +kernel
theorem dX5_spread_68 : decode cX5_spread 68 = .ok (.iload 4, 2) := by decide +kernel
theorem dX5_spread_70 : decode cX5_spread 70 = .ok (.invokevirtual 32, 3) := by decide +kernel
theorem dX5_spread_73 : decode cX5_spread 73 = .ok (.iinc 4 1, 3) := by decide +kernel
theorem dX5_spread_76 : decode cX5_spread 76 = .ok (.goto (-28), 3) := by decide +kernel
theorem dX5_spread_79 : decode cX5_spread 79 = .ok (.iinc 3 1, 3) := by decide +kernel
theorem dX5_spread_82 : decode cX5_spread 82 = .ok (.goto (-43), 3) := by decide +kernel
theorem dX5_spread_85 : decode cX5_spread 85 = .ok (.return_, 1) := by decide +kernel
theorem dX5_goOver_0 : decode cX5_goOver 0 = .ok (.aload_n 1, 1) := by decide +kernel
theorem dX5_goOver_1 : decode cX5_goOver 1 = .ok (.getfield 36, 3) := by decide +kernel
theorem dX5_goOver_4 : decode cX5_goOver 4 = .ok (.iload_n 2, 1) := by decide +kernel
theorem dX5_goOver_5 : decode cX5_goOver 5 = .ok (.iaload, 1) := by decide +kernel
theorem dX5_goOver_6 : decode cX5_goOver 6 = .ok (.istore_n 3, 1) := by decide +kernel
theorem dX5_goOver_7 : decode cX5_goOver 7 = .ok (.aload_n 1, 1) := by decide +kernel
theorem dX5_goOver_8 : decode cX5_goOver 8 = .ok (.getfield 39, 3) := by decide +kernel
theorem dX5_goOver_11 : decode cX5_goOver 11 = .ok (.iload_n 2, 1) := by decide +kernel
theorem dX5_goOver_12 : decode cX5_goOver 12 = .ok (.iaload, 1) := by decide +kernel
theorem dX5_goOver_13 : decode cX5_goOver 13 = .ok (.istore 4, 2) := by decide +kernel
theorem dX5_goOver_15 : decode cX5_goOver 15 = .ok (.aload_n 0, 1) := by decide +kernel
theorem dX5_goOver_16 : decode cX5_goOver 16 = .ok (.getfield 9, 3) := by decide +kernel
theorem dX5_goOver_19 : decode cX5_goOver 19 = .ok (.iload_n 3, 1) := by decide +kernel
theorem dX5_goOver_20 : decode cX5_goOver 20 = .ok (.laload, 1) := by decide +kernel
theorem dX5_goOver_21 : decode cX5_goOver 21 = .ok (.aload_n 1, 1) := by decide +kernel
theorem dX5_goOver_22 : decode cX5_goOver 22 = .ok (.iload_n 2, 1) := by decide +kernel
theorem dX5_goOver_23 : decode cX5_goOver 23 = .ok (.invokevirtual 42, 3) := by decide +kernel
theorem dX5_goOver_26 : decode cX5_goOver 26 = .ok (.i2l, 1) := by decide +kernel
theorem dX5_goOver_27 : decode cX5_goOver 27 = .ok (.lmul, 1) := by decide +kernel
theorem dX5_goOver_28 : decode cX5_goOver 28 = .ok (.lstore 5, 2) := by decide +kernel
theorem dX5_goOver_30 : decode cX5_goOver 30 = .ok (.aload_n 0, 1) := by decide +kernel
theorem dX5_goOver_31 : decode cX5_goOver 31 = .ok (.getfield 15, 3) := by decide +kernel
theorem dX5_goOver_34 : decode cX5_goOver 34 = .ok (.iload_n 3, 1) := by decide +kernel
theorem dX5_goOver_35 : decode cX5_goOver 35 = .ok (.laload, 1) := by decide +kernel
theorem dX5_goOver_36 : decode cX5_goOver 36 = .ok (.aload_n 1, 1) := by decide +kernel
theorem dX5_goOver_37 : decode cX5_goOver 37 = .ok (.getfield 45, 3) := by decide +kernel
theorem dX5_goOver_40 : decode cX5_goOver 40 = .ok (.iload_n 2, 1) := by decide +kernel
theorem dX5_goOver_41 : decode cX5_goOver 41 = .ok (.iaload, 1) := by decide +kernel
theorem dX5_goOver_42 : decode cX5_goOver 42 = .ok (.i2l, 1) := by decide +kernel
theorem dX5_goOver_43 : decode cX5_goOver 43 = .ok (.lmul, 1) := by decide +kernel
theorem dX5_goOver_44 : decode cX5_goOver 44 = .ok (.lstore 7, 2) := by decide +kernel
theorem dX5_goOver_46 : decode cX5_goOver 46 = .ok (.lload 5, 2) := by decide +kernel
theorem dX5_goOver_48 : decode cX5_goOver 48 = .ok (.lload 7, 2) := by decide +kernel
theorem dX5_goOver_50 : decode cX5_goOver 50 = .ok (.aload_n 0, 1) := by decide +kernel
theorem dX5_goOver_51 : decode cX5_goOver 51 = .ok (.getfield 9, 3) := by decide +kernel
theorem dX5_goOver_54 : decode cX5_goOver 54 = .ok (.iload 4, 2) := by decide +kernel
theorem dX5_goOver_56 : decode cX5_goOver 56 = .ok (.laload, 1) := by decide +kernel
theorem dX5_goOver_57 : decode cX5_goOver 57 = .ok (.aload_n 0, 1) := by decide +kernel
theorem dX5_goOver_58 : decode cX5_goOver 58 = .ok (.getfield 15, 3) := by decide +kernel
theorem dX5_goOver_61 : decode cX5_goOver 61 = .ok (.iload 4, 2) := by decide +kernel
theorem dX5_goOver_63 : decode cX5_goOver 63 = .ok (.laload, 1) := by decide +kernel
theorem dX5_goOver_64 : decode cX5_goOver 64 = .ok (.invokestatic 48, 3) := by decide +kernel
theorem dX5_goOver_67 : decode cX5_goOver 67 = .ok (.ifCond .eq 40, 3) := by decide +kernel
theorem dX5_goOver_70 : decode cX5_goOver 70 = .ok (.lload 5, 2) := by decide +kernel
theorem dX5_goOver_72 : decode cX5_goOver 72 = .ok (.lload 7, 2) := by decide +kernel
theorem dX5_goOver_74 : decode cX5_goOver 74 = .ok (.invokestatic 52, 3) := by decide +kernel
theorem dX5_goOver_77 : decode cX5_goOver 77 = .ok (.lstore 9, 2) := by decide +kernel
theorem dX5_goOver_79 : decode cX5_goOver 79 = .ok (.aload_n 0, 1) := by decide +kernel
theorem dX5_goOver_80 : decode cX5_goOver 80 = .ok (.getfield 9, 3) := by decide +kernel
theorem dX5_goOver_83 : decode cX5_goOver 83 = .ok (.iload 4, 2) := by decide +kernel
theorem dX5_goOver_85 : decode cX5_goOver 85 = .ok (.lload 5, 2) := by decide +kernel
theorem dX5_goOver_87 : decode cX5_goOver 87 = .ok (.lload 9, 2) := by decide +kernel
theorem dX5_goOver_89 : decode cX5_goOver 89 = .ok (.invokestatic 56, 3) := by decide +kernel
theorem dX5_goOver_92 : decode cX5_goOver 92 = .ok (.lastore, 1) := by decide +kernel
theorem dX5_goOver_93 : decode cX5_goOver 93 = .ok (.aload_n 0, 1) := by decide +kernel
theorem dX5_goOver_94 : decode cX5_goOver 94 = .ok (.getfield 15, 3) := by decide +kernel
theorem dX5_goOver_97 : decode cX5_goOver 97 = .ok (.iload 4, 2) := by decide +kernel
theorem dX5_goOver_99 : decode cX5_goOver 99 = .ok (.lload 7, 2) := by decide +kernel
theorem dX5_goOver_101 : decode cX5_goOver 101 = .ok (.lload 9, 2) := by decide +kernel
theorem dX5_goOver_103 : decode cX5_goOver 103 = .ok (.invokestatic 56, 3) := by decide +kernel
theorem dX5_goOver_106 : decode cX5_goOver 106 = .ok (.lastore, 1) := by decide +kernel
theorem dX5_goOver_107 : decode cX5_goOver 107 = .ok (.return_, 1) := by decide +kernel
theorem dX5_reachOut_0 : decode cX5_reachOut 0 = .ok (.iconst 0, 1) := by decide +kernel
theorem dX5_reachOut_1 : decode cX5_reachOut 1 = .ok (.istore_n 2, 1) := by decide +kernel
theorem dX5_reachOut_2 : decode cX5_reachOut 2 = .ok (.iload_n 2, 1) := by decide +kernel
theorem dX5_reachOut_3 : decode cX5_reachOut 3 = .ok (.bipush 8, 2) := by decide +kernel
theorem dX5_reachOut_5 : decode cX5_reachOut 5 = .ok (.if_icmp .ge 18, 3) := by decide +kernel
theorem dX5_reachOut_8 : decode cX5_reachOut 8 = .ok (.aload_n 0, 1) := by decide +kernel
theorem dX5_reachOut_9 : decode cX5_reachOut 9 = .ok (.getfield 18, 3) := by decide +kernel
theorem dX5_reachOut_12 : decode cX5_reachOut 12 = .ok (.iload_n 2, 1) := by decide +kernel
theorem dX5_reachOut_13 : decode cX5_reachOut 13 = .ok (.iconst 1, 1) := by decide +kernel
theorem dX5_reachOut_14 : decode cX5_reachOut 14 = .ok (.iload_n 2, 1) := by decide +kernel
theorem dX5_reachOut_15 : decode cX5_reachOut 15 = .ok (.ishl, 1) := by decide +kernel
theorem dX5_reachOut_16 : decode cX5_reachOut 16 = .ok (.iastore, 1) := by decide +kernel
theorem dX5_reachOut_17 : decode cX5_reachOut 17 = .ok (.iinc 2 1, 3) := by decide +kernel
theorem dX5_reachOut_20 : decode cX5_reachOut 20 = .ok (.goto (-18), 3) := by decide +kernel
theorem dX5_reachOut_23 : decode cX5_reachOut 23 = .ok (.iconst 1, 1) := by decide +kernel
theorem dX5_reachOut_24 : decode cX5_reachOut 24 = .ok (.istore_n 2, 1) := by decide +kernel
theorem dX5_reachOut_25 : decode cX5_reachOut 25 = .ok (.iload_n 2, 1) := by decide +kernel
theorem dX5_reachOut_26 : decode cX5_reachOut 26 = .ok (.bipush 8, 2) := by decide +kernel
theorem dX5_reachOut_28 : decode cX5_reachOut 28 = .ok (.if_icmp .ge 58, 3) := by decide +kernel
theorem dX5_reachOut_31 : decode cX5_reachOut 31 = .ok (.iconst 0, 1) := by decide +kernel
theorem dX5_reachOut_32 : decode cX5_reachOut 32 = .ok (.istore_n 3, 1) := by decide +kernel
theorem dX5_reachOut_33 : decode cX5_reachOut 33 = .ok (.iload_n 3, 1) := by decide +kernel
theorem dX5_reachOut_34 : decode cX5_reachOut 34 = .ok (.aload_n 1, 1) := by decide +kernel
theorem dX5_reachOut_35 : decode cX5_reachOut 35 = .ok (.getfield 22, 3) := by decide +kernel
theorem dX5_reachOut_38 : decode cX5_reachOut 38 = .ok (.if_icmp .ge 42, 3) := by decide +kernel
theorem dX5_reachOut_41 : decode cX5_reachOut 41 = .ok (.aload_n 1, 1) := by decide +kernel
theorem dX5_reachOut_42 : decode cX5_reachOut 42 = .ok (.iload_n 3, 1) := by decide +kernel
theorem dX5_reachOut_43 : decode cX5_reachOut 43 = .ok (.invokevirtual 28, 3) := by decide +kernel
theorem dX5_reachOut_46 : decode cX5_reachOut 46 = .ok (.ifCond .eq 28, 3) := by decide +kernel
theorem dX5_reachOut_49 : decode cX5_reachOut 49 = .ok (.aload_n 0, 1) := by decide +kernel
theorem dX5_reachOut_50 : decode cX5_reachOut 50 = .ok (.getfield 18, 3) := by decide +kernel
theorem dX5_reachOut_53 : decode cX5_reachOut 53 = .ok (.aload_n 1, 1) := by decide +kernel
theorem dX5_reachOut_54 : decode cX5_reachOut 54 = .ok (.getfield 36, 3) := by decide +kernel
theorem dX5_reachOut_57 : decode cX5_reachOut 57 = .ok (.iload_n 3, 1) := by decide +kernel
theorem dX5_reachOut_58 : decode cX5_reachOut 58 = .ok (.iaload, 1) := by decide +kernel
theorem dX5_reachOut_59 : decode cX5_reachOut 59 = .ok (.dup2, 1) := by decide +kernel
theorem dX5_reachOut_60 : decode cX5_reachOut 60 = .ok (.iaload, 1) := by decide +kernel
theorem dX5_reachOut_61 : decode cX5_reachOut 61 = .ok (.aload_n 0, 1) := by decide +kernel
theorem dX5_reachOut_62 : decode cX5_reachOut 62 = .ok (.getfield 18, 3) := by decide +kernel
theorem dX5_reachOut_65 : decode cX5_reachOut 65 = .ok (.aload_n 1, 1) := by decide +kernel
theorem dX5_reachOut_66 : decode cX5_reachOut 66 = .ok (.getfield 39, 3) := by decide +kernel
theorem dX5_reachOut_69 : decode cX5_reachOut 69 = .ok (.iload_n 3, 1) := by decide +kernel
theorem dX5_reachOut_70 : decode cX5_reachOut 70 = .ok (.iaload, 1) := by decide +kernel
theorem dX5_reachOut_71 : decode cX5_reachOut 71 = .ok (.iaload, 1) := by decide +kernel
theorem dX5_reachOut_72 : decode cX5_reachOut 72 = .ok (.ior, 1) := by decide +kernel
theorem dX5_reachOut_73 : decode cX5_reachOut 73 = .ok (.iastore, 1) := by decide +kernel
theorem dX5_reachOut_74 : decode cX5_reachOut 74 = .ok (.iinc 3 1, 3) := by decide +kernel
theorem dX5_reachOut_77 : decode cX5_reachOut 77 = .ok (.goto (-44), 3) := by decide +kernel
theorem dX5_reachOut_80 : decode cX5_reachOut 80 = .ok (.iinc 2 1, 3) := by decide +kernel
theorem dX5_reachOut_83 : decode cX5_reachOut 83 = .ok (.goto (-58), 3) := by decide +kernel
theorem dX5_reachOut_86 : decode cX5_reachOut 86 = .ok (.return_, 1) := by decide +kernel
theorem dX5_joinedBits_0 : decode cX5_joinedBits 0 = .ok (.iconst 0, 1) := by decide +kernel
theorem dX5_joinedBits_1 : decode cX5_joinedBits 1 = .ok (.istore_n 2, 1) := by decide +kernel
theorem dX5_joinedBits_2 : decode cX5_joinedBits 2 = .ok (.iconst 0, 1) := by decide +kernel
theorem dX5_joinedBits_3 : decode cX5_joinedBits 3 = .ok (.istore_n 3, 1) := by decide +kernel
theorem dX5_joinedBits_4 : decode cX5_joinedBits 4 = .ok (.iload_n 3, 1) := by decide +kernel
theorem dX5_joinedBits_5 : decode cX5_joinedBits 5 = .ok (.bipush 8, 2) := by decide +kernel
theorem dX5_joinedBits_7 : decode cX5_joinedBits 7 = .ok (.if_icmp .ge 43, 3) := by decide +kernel
theorem dX5_joinedBits_10 : decode cX5_joinedBits 10 = .ok (.aload_n 0, 1) := by decide +kernel
theorem dX5_joinedBits_11 : decode cX5_joinedBits 11 = .ok (.getfield 18, 3) := by decide +kernel
theorem dX5_joinedBits_14 : decode cX5_joinedBits 14 = .ok (.iload_n 1, 1) := by decide +kernel
theorem dX5_joinedBits_15 : decode cX5_joinedBits 15 = .ok (.iaload, 1) := by decide +kernel
theorem dX5_joinedBits_16 : decode cX5_joinedBits 16 = .ok (.iload_n 3, 1) := by decide +kernel
theorem dX5_joinedBits_17 : decode cX5_joinedBits 17 = .ok (.ishr, 1) := by decide +kernel
theorem dX5_joinedBits_18 : decode cX5_joinedBits 18 = .ok (.iconst 1, 1) := by decide +kernel
theorem dX5_joinedBits_19 : decode cX5_joinedBits 19 = .ok (.iand, 1) := by decide +kernel
theorem dX5_joinedBits_20 : decode cX5_joinedBits 20 = .ok (.iconst 1, 1) := by decide +kernel
theorem dX5_joinedBits_21 : decode cX5_joinedBits 21 = .ok (.if_icmp .ne 23, 3) := by decide +kernel
theorem dX5_joinedBits_24 : decode cX5_joinedBits 24 = .ok (.aload_n 0, 1) := by decide +kernel
theorem dX5_joinedBits_25 : decode cX5_joinedBits 25 = .ok (.getfield 18, 3) := by decide +kernel
theorem dX5_joinedBits_28 : decode cX5_joinedBits 28 = .ok (.iload_n 3, 1) := by decide +kernel
theorem dX5_joinedBits_29 : decode cX5_joinedBits 29 = .ok (.iaload, 1) := by decide +kernel
theorem dX5_joinedBits_30 : decode cX5_joinedBits 30 = .ok (.iload_n 1, 1) := by decide +kernel
theorem dX5_joinedBits_31 : decode cX5_joinedBits 31 = .ok (.ishr, 1) := by decide +kernel
theorem dX5_joinedBits_32 : decode cX5_joinedBits 32 = .ok (.iconst 1, 1) := by decide +kernel
theorem dX5_joinedBits_33 : decode cX5_joinedBits 33 = .ok (.iand, 1) := by decide +kernel
theorem dX5_joinedBits_34 : decode cX5_joinedBits 34 = .ok (.iconst 1, 1) := by decide +kernel
theorem dX5_joinedBits_35 : decode cX5_joinedBits 35 = .ok (.if_icmp .ne 9, 3) := by decide +kernel
theorem dX5_joinedBits_38 : decode cX5_joinedBits 38 = .ok (.iload_n 2, 1) := by decide +kernel
theorem dX5_joinedBits_39 : decode cX5_joinedBits 39 = .ok (.iconst 1, 1) := by decide +kernel
theorem dX5_joinedBits_40 : decode cX5_joinedBits 40 = .ok (.iload_n 3, 1) := by decide +kernel
theorem dX5_joinedBits_41 : decode cX5_joinedBits 41 = .ok (.ishl, 1) := by decide +kernel
theorem dX5_joinedBits_42 : decode cX5_joinedBits 42 = .ok (.ior, 1) := by decide +kernel
theorem dX5_joinedBits_43 : decode cX5_joinedBits 43 = .ok (.istore_n 2, 1) := by decide +kernel
theorem dX5_joinedBits_44 : decode cX5_joinedBits 44 = .ok (.iinc 3 1, 3) := by decide +kernel
theorem dX5_joinedBits_47 : decode cX5_joinedBits 47 = .ok (.goto (-43), 3) := by decide +kernel
theorem dX5_joinedBits_50 : decode cX5_joinedBits 50 = .ok (.iload_n 2, 1) := by decide +kernel
theorem dX5_joinedBits_51 : decode cX5_joinedBits 51 = .ok (.ireturn, 1) := by decide +kernel
theorem dX5_countSets_0 : decode cX5_countSets 0 = .ok (.iconst 0, 1) := by decide +kernel
theorem dX5_countSets_1 : decode cX5_countSets 1 = .ok (.istore_n 1, 1) := by decide +kernel
theorem dX5_countSets_2 : decode cX5_countSets 2 = .ok (.iconst 0, 1) := by decide +kernel
theorem dX5_countSets_3 : decode cX5_countSets 3 = .ok (.istore_n 2, 1) := by decide +kernel
theorem dX5_countSets_4 : decode cX5_countSets 4 = .ok (.iload_n 2, 1) := by decide +kernel
theorem dX5_countSets_5 : decode cX5_countSets 5 = .ok (.bipush 8, 2) := by decide +kernel
theorem dX5_countSets_7 : decode cX5_countSets 7 = .ok (.if_icmp .ge 26, 3) := by decide +kernel
theorem dX5_countSets_10 : decode cX5_countSets 10 = .ok (.aload_n 0, 1) := by decide +kernel
theorem dX5_countSets_11 : decode cX5_countSets 11 = .ok (.iload_n 2, 1) := by decide +kernel
theorem dX5_countSets_12 : decode cX5_countSets 12 = .ok (.invokevirtual 59, 3) := by decide +kernel
theorem dX5_countSets_15 : decode cX5_countSets 15 = .ok (.invokestatic 62, 3) := by decide +kernel
theorem dX5_countSets_18 : decode cX5_countSets 18 = .ok (.iconst 1, 1) := by decide +kernel
theorem dX5_countSets_19 : decode cX5_countSets 19 = .ok (.iload_n 2, 1) := by decide +kernel
theorem dX5_countSets_20 : decode cX5_countSets 20 = .ok (.ishl, 1) := by decide +kernel
theorem dX5_countSets_21 : decode cX5_countSets 21 = .ok (.if_icmp .ne 6, 3) := by decide +kernel
theorem dX5_countSets_24 : decode cX5_countSets 24 = .ok (.iinc 1 1, 3) := by decide +kernel
theorem dX5_countSets_27 : decode cX5_countSets 27 = .ok (.iinc 2 1, 3) := by decide +kernel
theorem dX5_countSets_30 : decode cX5_countSets 30 = .ok (.goto (-26), 3) := by decide +kernel
theorem dX5_countSets_33 : decode cX5_countSets 33 = .ok (.iload_n 1, 1) := by decide +kernel
theorem dX5_countSets_34 : decode cX5_countSets 34 = .ok (.ireturn, 1) := by decide +kernel
theorem dX6_init_0 : decode cX6_init 0 = .ok (.aload_n 0, 1) := by decide +kernel
theorem dX6_init_1 : decode cX6_init 1 = .ok (.invokespecial 3, 3) := by decide +kernel
theorem dX6_init_4 : decode cX6_init 4 = .ok (.aload_n 0, 1) := by decide +kernel
theorem dX6_init_5 : decode cX6_init 5 = .ok (.new 9, 3) := by decide +kernel
theorem dX6_init_8 : decode cX6_init 8 = .ok (.dup, 1) := by decide +kernel
theorem dX6_init_9 : decode cX6_init 9 = .ok (.invokespecial 11, 3) := by decide +kernel
theorem dX6_init_12 : decode cX6_init 12 = .ok (.putfield 12, 3) := by decide +kernel
theorem dX6_init_15 : decode cX6_init 15 = .ok (.aload_n 0, 1) := by decide +kernel
theorem dX6_init_16 : decode cX6_init 16 = .ok (.new 16, 3) := by decide +kernel
theorem dX6_init_19 : decode cX6_init 19 = .ok (.dup, 1) := by decide +kernel
theorem dX6_init_20 : decode cX6_init 20 = .ok (.invokespecial 18, 3) := by decide +kernel
theorem dX6_init_23 : decode cX6_init 23 = .ok (.putfield 19, 3) := by decide +kernel
theorem dX6_init_26 : decode cX6_init 26 = .ok (.aload_n 0, 1) := by decide +kernel
theorem dX6_init_27 : decode cX6_init 27 = .ok (.new 23, 3) := by decide +kernel
theorem dX6_init_30 : decode cX6_init 30 = .ok (.dup, 1) := by decide +kernel
theorem dX6_init_31 : decode cX6_init 31 = .ok (.invokespecial 25, 3) := by decide +kernel
theorem dX6_init_34 : decode cX6_init 34 = .ok (.putfield 26, 3) := by decide +kernel
theorem dX6_init_37 : decode cX6_init 37 = .ok (.aload_n 0, 1) := by decide +kernel
theorem dX6_init_38 : decode cX6_init 38 = .ok (.new 30, 3) := by decide +kernel
theorem dX6_init_41 : decode cX6_init 41 = .ok (.dup, 1) := by decide +kernel
theorem dX6_init_42 : decode cX6_init 42 = .ok (.invokespecial 32, 3) := by decide +kernel
theorem dX6_init_45 : decode cX6_init 45 = .ok (.putfield 33, 3) := by decide +kernel
theorem dX6_init_48 : decode cX6_init 48 = .ok (.aload_n 0, 1) := by decide +kernel
theorem dX6_init_49 : decode cX6_init 49 = .ok (.new 37, 3) := by decide +kernel
theorem dX6_init_52 : decode cX6_init 52 = .ok (.dup, 1) := by decide +kernel
theorem dX6_init_53 : decode cX6_init 53 = .ok (.invokespecial 39, 3) := by decide +kernel
theorem dX6_init_56 : decode cX6_init 56 = .ok (.putfield 40, 3) := by decide +kernel
theorem dX6_init_59 : decode cX6_init 59 = .ok (.aload_n 0, 1) := by decide +kernel
theorem dX6_init_60 : decode cX6_init 60 = .ok (.new 44, 3) := by decide +kernel
theorem dX6_init_63 : decode cX6_init 63 = .ok (.dup, 1) := by decide +kernel
theorem dX6_init_64 : decode cX6_init 64 = .ok (.invokespecial 46, 3) := by decide +kernel
theorem dX6_init_67 : decode cX6_init 67 = .ok (.putfield 47, 3) := by decide +kernel
theorem dX6_init_70 : decode cX6_init 70 = .ok (.aload_n 0, 1) := by decide +kernel
theorem dX6_init_71 : decode cX6_init 71 = .ok (.bipush 8, 2) := by decide +kernel
theorem dX6_init_73 : decode cX6_init 73 = .ok (.newarray .int, 2) := by decide +kernel
theorem dX6_init_75 : decode cX6_init 75 = .ok (.putfield 51, 3) := by decide +kernel
theorem dX6_init_78 : decode cX6_init 78 = .ok (.iconst 0, 1) := by decide +kernel
theorem dX6_init_79 : decode cX6_init 79 = .ok (.istore_n 1, 1) := by decide +kernel
theorem dX6_init_80 : decode cX6_init 80 = .ok (.iload_n 1, 1) := by decide +kernel
theorem dX6_init_81 : decode cX6_init 81 = .ok (.bipush 8, 2) := by decide +kernel
theorem dX6_init_83 : decode cX6_init 83 = .ok (.if_icmp .ge 16, 3) := by decide +kernel
theorem dX6_init_86 : decode cX6_init 86 = .ok (.aload_n 0, 1) := by decide +kernel
theorem dX6_init_87 : decode cX6_init 87 = .ok (.getfield 51, 3) := by decide +kernel
theorem dX6_init_90 : decode cX6_init 90 = .ok (.iload_n 1, 1) := by decide +kernel
theorem dX6_init_91 : decode cX6_init 91 = .ok (.iconst 1, 1) := by decide +kernel
theorem dX6_init_92 : decode cX6_init 92 = .ok (.iastore, 1) := by decide +kernel
theorem dX6_init_93 : decode cX6_init 93 = .ok (.iinc 1 1, 3) := by decide +kernel
theorem dX6_init_96 : decode cX6_init 96 = .ok (.goto (-16), 3) := by decide +kernel
theorem dX6_init_99 : decode cX6_init 99 = .ok (.return_, 1) := by decide +kernel
theorem dX6_board_0 : decode cX6_board 0 = .ok (.iload_n 1, 1) := by decide +kernel
theorem dX6_board_1 : decode cX6_board 1 = .ok (.invokestatic 55, 3) := by decide +kernel
theorem dX6_board_4 : decode cX6_board 4 = .ok (.ifCond .eq 15, 3) := by decide +kernel
theorem dX6_board_7 : decode cX6_board 7 = .ok (.iload_n 3, 1) := by decide +kernel
theorem dX6_board_8 : decode cX6_board 8 = .ok (.invokestatic 55, 3) := by decide +kernel
theorem dX6_board_11 : decode cX6_board 11 = .ok (.ifCond .eq 8, 3) := by decide +kernel
theorem dX6_board_14 : decode cX6_board 14 = .ok (.iload_n 1, 1) := by decide +kernel
theorem dX6_board_15 : decode cX6_board 15 = .ok (.iload_n 3, 1) := by decide +kernel
theorem dX6_board_16 : decode cX6_board 16 = .ok (.if_icmp .ne 5, 3) := by decide +kernel
theorem dX6_board_19 : decode cX6_board 19 = .ok (.iconst (-1), 1) := by decide +kernel
theorem dX6_board_20 : decode cX6_board 20 = .ok (.ireturn, 1) := by decide +kernel
theorem dX6_board_21 : decode cX6_board 21 = .ok (.iload_n 2, 1) := by decide +kernel
theorem dX6_board_22 : decode cX6_board 22 = .ok (.iconst 1, 1) := by decide +kernel
theorem dX6_board_23 : decode cX6_board 23 = .ok (.bipush 99, 2) := by decide +kernel
theorem dX6_board_25 : decode cX6_board 25 = .ok (.invokestatic 59, 3) := by decide +kernel
theorem dX6_board_28 : decode cX6_board 28 = .ok (.ifCond .eq 14, 3) := by decide +kernel
theorem dX6_board_31 : decode cX6_board 31 = .ok (.iload 4, 2) := by decide +kernel
theorem dX6_board_33 : decode cX6_board 33 = .ok (.iconst 1, 1) := by decide +kernel
theorem dX6_board_34 : decode cX6_board 34 = .ok (.bipush 99, 2) := by decide +kernel
theorem dX6_board_36 : decode cX6_board 36 = .ok (.invokestatic 59, 3) := by decide +kernel
theorem dX6_board_39 : decode cX6_board 39 = .ok (.ifCond .ne 6, 3) := by decide +kernel
theorem dX6_board_42 : decode cX6_board 42 = .ok (.bipush (-2), 2) := by decide +kernel
theorem dX6_board_44 : decode cX6_board 44 = .ok (.ireturn, 1) := by decide +kernel
theorem dX6_board_45 : decode cX6_board 45 = .ok (.aload_n 0, 1) := by decide +kernel
theorem dX6_board_46 : decode cX6_board 46 = .ok (.getfield 12, 3) := by decide +kernel
theorem dX6_board_49 : decode cX6_board 49 = .ok (.getfield 63, 3) := by decide +kernel
theorem dX6_board_52 : decode cX6_board 52 = .ok (.bipush 12, 2) := by decide +kernel
theorem dX6_board_54 : decode cX6_board 54 = .ok (.if_icmp .lt 6, 3) := by decide +kernel
theorem dX6_board_57 : decode cX6_board 57 = .ok (.bipush (-4), 2) := by decide +kernel
theorem dX6_board_59 : decode cX6_board 59 = .ok (.ireturn, 1) := by decide +kernel
theorem dX6_board_60 : decode cX6_board 60 = .ok (.aload_n 0, 1) := by decide +kernel
theorem dX6_board_61 : decode cX6_board 61 = .ok (.invokevirtual 67, 3) := by decide +kernel
theorem dX6_board_64 : decode cX6_board 64 = .ok (.aload_n 0, 1) := by decide +kernel
theorem dX6_board_65 : decode cX6_board 65 = .ok (.getfield 12, 3) := by decide +kernel
theorem dX6_board_68 : decode cX6_board 68 = .ok (.iload_n 1, 1) := by decide +kernel
theorem dX6_board_69 : decode cX6_board 69 = .ok (.iload_n 2, 1) := by decide +kernel
theorem dX6_board_70 : decode cX6_board 70 = .ok (.iload_n 3, 1) := by decide +kernel
theorem dX6_board_71 : decode cX6_board 71 = .ok (.iload 4, 2) := by decide +kernel
theorem dX6_board_73 : decode cX6_board 73 = .ok (.invokevirtual 70, 3) := by decide +kernel
theorem dX6_board_76 : decode cX6_board 76 = .ok (.aload_n 0, 1) := by decide +kernel
theorem dX6_board_77 : decode cX6_board 77 = .ok (.getfield 12, 3) := by decide +kernel
theorem dX6_board_80 : decode cX6_board 80 = .ok (.getfield 63, 3) := by decide +kernel
theorem dX6_board_83 : decode cX6_board 83 = .ok (.iconst 1, 1) := by decide +kernel
theorem dX6_board_84 : decode cX6_board 84 = .ok (.isub, 1) := by decide +kernel
theorem dX6_board_85 : decode cX6_board 85 = .ok (.ireturn, 1) := by decide +kernel
theorem dX6_of_0 : decode cX6_of 0 = .ok (.aload_n 0, 1) := by decide +kernel
theorem dX6_of_1 : decode cX6_of 1 = .ok (.getfield 12, 3) := by decide +kernel
theorem dX6_of_4 : decode cX6_of 4 = .ok (.iload_n 1, 1) := by decide +kernel
theorem dX6_of_5 : decode cX6_of 5 = .ok (.invokevirtual 74, 3) := by decide +kernel
theorem dX6_of_8 : decode cX6_of 8 = .ok (.ifCond .ne 5, 3) := by decide +kernel
theorem dX6_of_11 : decode cX6_of 11 = .ok (.iconst (-1), 1) := by decide +kernel
theorem dX6_of_12 : decode cX6_of 12 = .ok (.ireturn, 1) := by decide +kernel
theorem dX6_of_13 : decode cX6_of 13 = .ok (.iload_n 2, 1) := by decide +kernel
theorem dX6_of_14 : decode cX6_of 14 = .ok (.tableswitch 146 0 8 #[50, 60, 70, 80, 90, 100, 110, 120, 137], 50) := by decide +kernel
theorem dX6_of_64 : decode cX6_of 64 = .ok (.aload_n 0, 1) := by decide +kernel
theorem dX6_of_65 : decode cX6_of 65 = .ok (.getfield 12, 3) := by decide +kernel
theorem dX6_of_68 : decode cX6_of 68 = .ok (.getfield 77, 3) := by decide +kernel
theorem dX6_of_71 : decode cX6_of 71 = .ok (.iload_n 1, 1) := by decide +kernel
theorem dX6_of_72 : decode cX6_of 72 = .ok (.iaload, 1) := by decide +kernel
theorem dX6_of_73 : decode cX6_of 73 = .ok (.ireturn, 1) := by decide +kernel
theorem dX6_of_74 : decode cX6_of 74 = .ok (.aload_n 0, 1) := by decide +kernel
theorem dX6_of_75 : decode cX6_of 75 = .ok (.getfield 12, 3) := by decide +kernel
theorem dX6_of_78 : decode cX6_of 78 = .ok (.getfield 80, 3) := by decide +kernel
theorem dX6_of_81 : decode cX6_of 81 = .ok (.iload_n 1, 1) := by decide +kernel
theorem dX6_of_82 : decode cX6_of 82 = .ok (.iaload, 1) := by decide +kernel
theorem dX6_of_83 : decode cX6_of 83 = .ok (.ireturn, 1) := by decide +kernel
theorem dX6_of_84 : decode cX6_of 84 = .ok (.aload_n 0, 1) := by decide +kernel
theorem dX6_of_85 : decode cX6_of 85 = .ok (.getfield 12, 3) := by decide +kernel
theorem dX6_of_88 : decode cX6_of 88 = .ok (.getfield 83, 3) := by decide +kernel
theorem dX6_of_91 : decode cX6_of 91 = .ok (.iload_n 1, 1) := by decide +kernel
theorem dX6_of_92 : decode cX6_of 92 = .ok (.iaload, 1) := by decide +kernel
theorem dX6_of_93 : decode cX6_of 93 = .ok (.ireturn, 1) := by decide +kernel
theorem dX6_of_94 : decode cX6_of 94 = .ok (.aload_n 0, 1) := by decide +kernel
theorem dX6_of_95 : decode cX6_of 95 = .ok (.getfield 12, 3) := by decide +kernel
theorem dX6_of_98 : decode cX6_of 98 = .ok (.getfield 86, 3) := by decide +kernel
theorem dX6_of_101 : decode cX6_of 101 = .ok (.iload_n 1, 1) := by decide +kernel
theorem dX6_of_102 : decode cX6_of 102 = .ok (.iaload, 1) := by decide +kernel
theorem dX6_of_103 : decode cX6_of 103 = .ok (.ireturn, 1) := by decide +kernel
theorem dX6_of_104 : decode cX6_of 104 = .ok (.aload_n 0, 1) := by decide +kernel
theorem dX6_of_105 : decode cX6_of 105 = .ok (.getfield 12, 3) := by decide +kernel
theorem dX6_of_108 : decode cX6_of 108 = .ok (.getfield 89, 3) := by decide +kernel
theorem dX6_of_111 : decode cX6_of 111 = .ok (.iload_n 1, 1) := by decide +kernel
theorem dX6_of_112 : decode cX6_of 112 = .ok (.iaload, 1) := by decide +kernel
theorem dX6_of_113 : decode cX6_of 113 = .ok (.ireturn, 1) := by decide +kernel
theorem dX6_of_114 : decode cX6_of 114 = .ok (.aload_n 0, 1) := by decide +kernel
theorem dX6_of_115 : decode cX6_of 115 = .ok (.getfield 12, 3) := by decide +kernel
theorem dX6_of_118 : decode cX6_of 118 = .ok (.getfield 92, 3) := by decide +kernel
theorem dX6_of_121 : decode cX6_of 121 = .ok (.iload_n 1, 1) := by decide +kernel
theorem dX6_of_122 : decode cX6_of 122 = .ok (.iaload, 1) := by decide +kernel
theorem dX6_of_123 : decode cX6_of 123 = .ok (.ireturn, 1) := by decide +kernel
theorem dX6_of_124 : decode cX6_of 124 = .ok (.aload_n 0, 1) := by decide +kernel
theorem dX6_of_125 : decode cX6_of 125 = .ok (.getfield 12, 3) := by decide +kernel
theorem dX6_of_128 : decode cX6_of 128 = .ok (.getfield 95, 3) := by decide +kernel
theorem dX6_of_131 : decode cX6_of 131 = .ok (.iload_n 1, 1) := by decide +kernel
theorem dX6_of_132 : decode cX6_of 132 = .ok (.iaload, 1) := by decide +kernel
theorem dX6_of_133 : decode cX6_of 133 = .ok (.ireturn, 1) := by decide +kernel
theorem dX6_of_134 : decode cX6_of 134 = .ok (.aload_n 0, 1) := by decide +kernel
theorem dX6_of_135 : decode cX6_of 135 = .ok (.getfield 12, 3) := by decide +kernel
theorem dX6_of_138 : decode cX6_of 138 = .ok (.iload_n 1, 1) := by decide +kernel
theorem dX6_of_139 : decode cX6_of 139 = .ok (.invokevirtual 98, 3) := by decide +kernel
theorem dX6_of_142 : decode cX6_of 142 = .ok (.ifCond .eq 7, 3) := by decide +kernel
theorem dX6_of_145 : decode cX6_of 145 = .ok (.iconst 1, 1) := by decide +kernel
theorem dX6_of_146 : decode cX6_of 146 = .ok (.goto 4, 3) := by decide +kernel
theorem dX6_of_149 : decode cX6_of 149 = .ok (.iconst 0, 1) := by decide +kernel
theorem dX6_of_150 : decode cX6_of 150 = .ok (.ireturn, 1) := by decide +kernel
theorem dX6_of_151 : decode cX6_of 151 = .ok (.aload_n 0, 1) := by decide +kernel
theorem dX6_of_152 : decode cX6_of 152 = .ok (.getfield 12, 3) := by decide +kernel
theorem dX6_of_155 : decode cX6_of 155 = .ok (.iload_n 1, 1) := by decide +kernel
theorem dX6_of_156 : decode cX6_of 156 = .ok (.invokevirtual 101, 3) := by decide +kernel
theorem dX6_of_159 : decode cX6_of 159 = .ok (.ireturn, 1) := by decide +kernel
theorem dX6_of_160 : decode cX6_of 160 = .ok (.bipush (-2), 2) := by decide +kernel
theorem dX6_of_162 : decode cX6_of 162 = .ok (.ireturn, 1) := by decide +kernel
theorem dX6_change_0 : decode cX6_change 0 = .ok (.aload_n 0, 1) := by decide +kernel
theorem dX6_change_1 : decode cX6_change 1 = .ok (.getfield 12, 3) := by decide +kernel
theorem dX6_change_4 : decode cX6_change 4 = .ok (.iload_n 1, 1) := by decide +kernel
theorem dX6_change_5 : decode cX6_change 5 = .ok (.invokevirtual 74, 3) := by decide +kernel
theorem dX6_change_8 : decode cX6_change 8 = .ok (.ifCond .ne 5, 3) := by decide +kernel
theorem dX6_change_11 : decode cX6_change 11 = .ok (.iconst (-1), 1) := by decide +kernel
theorem dX6_change_12 : decode cX6_change 12 = .ok (.ireturn, 1) := by decide +kernel
theorem dX6_change_13 : decode cX6_change 13 = .ok (.iload_n 2, 1) := by decide +kernel
theorem dX6_change_14 : decode cX6_change 14 = .ok (.iconst 0, 1) := by decide +kernel
theorem dX6_change_15 : decode cX6_change 15 = .ok (.iconst 1, 1) := by decide +kernel
theorem dX6_change_16 : decode cX6_change 16 = .ok (.invokestatic 59, 3) := by decide +kernel
theorem dX6_change_19 : decode cX6_change 19 = .ok (.ifCond .eq 22, 3) := by decide +kernel
theorem dX6_change_22 : decode cX6_change 22 = .ok (.iload_n 3, 1) := by decide +kernel
theorem dX6_change_23 : decode cX6_change 23 = .ok (.iconst 1, 1) := by decide +kernel
theorem dX6_change_24 : decode cX6_change 24 = .ok (.iload_n 2, 1) := by decide +kernel
theorem dX6_change_25 : decode cX6_change 25 = .ok (.ifCond .ne 8, 3) := by decide +kernel
theorem dX6_change_28 : decode cX6_change 28 = .ok (.bipush 99, 2) := by decide +kernel
theorem dX6_change_30 : decode cX6_change 30 = .ok (.goto 5, 3) := by decide +kernel
theorem dX6_change_33 : decode cX6_change 33 = .ok (.ldc 105, 2) := by decide +kernel
theorem dX6_change_35 : decode cX6_change 35 = .ok (.invokestatic 59, 3) := by decide +kernel
theorem dX6_change_38 : decode cX6_change 38 = .ok (.ifCond .ne 6, 3) := by decide +kernel
theorem dX6_change_41 : decode cX6_change 41 = .ok (.bipush (-2), 2) := by decide +kernel
theorem dX6_change_43 : decode cX6_change 43 = .ok (.ireturn, 1) := by decide +kernel
theorem dX6_change_44 : decode cX6_change 44 = .ok (.aload_n 0, 1) := by decide +kernel
theorem dX6_change_45 : decode cX6_change 45 = .ok (.invokevirtual 67, 3) := by decide +kernel
theorem dX6_change_48 : decode cX6_change 48 = .ok (.iload_n 2, 1) := by decide +kernel
theorem dX6_change_49 : decode cX6_change 49 = .ok (.ifCond .ne 13, 3) := by decide +kernel
theorem dX6_change_52 : decode cX6_change 52 = .ok (.aload_n 0, 1) := by decide +kernel
theorem dX6_change_53 : decode cX6_change 53 = .ok (.getfield 12, 3) := by decide +kernel
theorem dX6_change_56 : decode cX6_change 56 = .ok (.getfield 86, 3) := by decide +kernel
theorem dX6_change_59 : decode cX6_change 59 = .ok (.goto 10, 3) := by decide +kernel
theorem dX6_change_62 : decode cX6_change 62 = .ok (.aload_n 0, 1) := by decide +kernel
theorem dX6_change_63 : decode cX6_change 63 = .ok (.getfield 12, 3) := by decide +kernel
theorem dX6_change_66 : decode cX6_change 66 = .ok (.getfield 95, 3) := by decide +kernel
theorem dX6_change_69 : decode cX6_change 69 = .ok (.astore 4, 2) := by decide +kernel
theorem dX6_change_71 : decode cX6_change 71 = .ok (.aload 4, 2) := by decide +kernel
theorem dX6_change_73 : decode cX6_change 73 = .ok (.iload_n 1, 1) := by decide +kernel
theorem dX6_change_74 : decode cX6_change 74 = .ok (.iaload, 1) := by decide +kernel
theorem dX6_change_75 : decode cX6_change 75 = .ok (.istore 5, 2) := by decide +kernel
theorem dX6_change_77 : decode cX6_change 77 = .ok (.aload 4, 2) := by decide +kernel
theorem dX6_change_79 : decode cX6_change 79 = .ok (.iload_n 1, 1) := by decide +kernel
theorem dX6_change_80 : decode cX6_change 80 = .ok (.iload_n 3, 1) := by decide +kernel
theorem dX6_change_81 : decode cX6_change 81 = .ok (.iastore, 1) := by decide +kernel
theorem dX6_change_82 : decode cX6_change 82 = .ok (.iload 5, 2) := by decide +kernel
theorem dX6_change_84 : decode cX6_change 84 = .ok (.ireturn, 1) := by decide +kernel
theorem dX6_hours_0 : decode cX6_hours 0 = .ok (.aload_n 0, 1) := by decide +kernel
theorem dX6_hours_1 : decode cX6_hours 1 = .ok (.getfield 12, 3) := by decide +kernel
theorem dX6_hours_4 : decode cX6_hours 4 = .ok (.iload_n 1, 1) := by decide +kernel
theorem dX6_hours_5 : decode cX6_hours 5 = .ok (.invokevirtual 74, 3) := by decide +kernel
theorem dX6_hours_8 : decode cX6_hours 8 = .ok (.ifCond .ne 5, 3) := by decide +kernel
theorem dX6_hours_11 : decode cX6_hours 11 = .ok (.iconst (-1), 1) := by decide +kernel
theorem dX6_hours_12 : decode cX6_hours 12 = .ok (.ireturn, 1) := by decide +kernel
theorem dX6_hours_13 : decode cX6_hours 13 = .ok (.iload_n 3, 1) := by decide +kernel
theorem dX6_hours_14 : decode cX6_hours 14 = .ok (.iconst 0, 1) := by decide +kernel
theorem dX6_hours_15 : decode cX6_hours 15 = .ok (.bipush 99, 2) := by decide +kernel
theorem dX6_hours_17 : decode cX6_hours 17 = .ok (.invokestatic 59, 3) := by decide +kernel
theorem dX6_hours_20 : decode cX6_hours 20 = .ok (.ifCond .eq 12, 3) := by decide +kernel
theorem dX6_hours_23 : decode cX6_hours 23 = .ok (.iload_n 2, 1) := by decide +kernel
theorem dX6_hours_24 : decode cX6_hours 24 = .ok (.iconst 0, 1) := by decide +kernel
theorem dX6_hours_25 : decode cX6_hours 25 = .ok (.iload_n 3, 1) := by decide +kernel
theorem dX6_hours_26 : decode cX6_hours 26 = .ok (.invokestatic 59, 3) := by decide +kernel
theorem dX6_hours_29 : decode cX6_hours 29 = .ok (.ifCond .ne 6, 3) := by decide +kernel
theorem dX6_hours_32 : decode cX6_hours 32 = .ok (.bipush (-2), 2) := by decide +kernel
theorem dX6_hours_34 : decode cX6_hours 34 = .ok (.ireturn, 1) := by decide +kernel
theorem dX6_hours_35 : decode cX6_hours 35 = .ok (.aload_n 0, 1) := by decide +kernel
theorem dX6_hours_36 : decode cX6_hours 36 = .ok (.invokevirtual 67, 3) := by decide +kernel
theorem dX6_hours_39 : decode cX6_hours 39 = .ok (.aload_n 0, 1) := by decide +kernel
theorem dX6_hours_40 : decode cX6_hours 40 = .ok (.getfield 12, 3) := by decide +kernel
theorem dX6_hours_43 : decode cX6_hours 43 = .ok (.getfield 89, 3) := by decide +kernel
theorem dX6_hours_46 : decode cX6_hours 46 = .ok (.iload_n 1, 1) := by decide +kernel
theorem dX6_hours_47 : decode cX6_hours 47 = .ok (.iload_n 2, 1) := by decide +kernel
theorem dX6_hours_48 : decode cX6_hours 48 = .ok (.iastore, 1) := by decide +kernel
theorem dX6_hours_49 : decode cX6_hours 49 = .ok (.aload_n 0, 1) := by decide +kernel
theorem dX6_hours_50 : decode cX6_hours 50 = .ok (.getfield 12, 3) := by decide +kernel
theorem dX6_hours_53 : decode cX6_hours 53 = .ok (.getfield 92, 3) := by decide +kernel
theorem dX6_hours_56 : decode cX6_hours 56 = .ok (.iload_n 1, 1) := by decide +kernel
theorem dX6_hours_57 : decode cX6_hours 57 = .ok (.iload_n 3, 1) := by decide +kernel
theorem dX6_hours_58 : decode cX6_hours 58 = .ok (.iastore, 1) := by decide +kernel
theorem dX6_hours_59 : decode cX6_hours 59 = .ok (.iconst 1, 1) := by decide +kernel
theorem dX6_hours_60 : decode cX6_hours 60 = .ok (.ireturn, 1) := by decide +kernel
theorem dX6_set_0 : decode cX6_set 0 = .ok (.iload_n 1, 1) := by decide +kernel
theorem dX6_set_1 : decode cX6_set 1 = .ok (.iconst 0, 1) := by decide +kernel
theorem dX6_set_2 : decode cX6_set 2 = .ok (.iconst 2, 1) := by decide +kernel
theorem dX6_set_3 : decode cX6_set 3 = .ok (.invokestatic 59, 3) := by decide +kernel
theorem dX6_set_6 : decode cX6_set 6 = .ok (.ifCond .eq 20, 3) := by decide +kernel
theorem dX6_set_9 : decode cX6_set 9 = .ok (.iload_n 2, 1) := by decide +kernel
theorem dX6_set_10 : decode cX6_set 10 = .ok (.getstatic 106, 3) := by decide +kernel
theorem dX6_set_13 : decode cX6_set 13 = .ok (.iload_n 1, 1) := by decide +kernel
theorem dX6_set_14 : decode cX6_set 14 = .ok (.iaload, 1) := by decide +kernel
theorem dX6_set_15 : decode cX6_set 15 = .ok (.getstatic 109, 3) := by decide +kernel
theorem dX6_set_18 : decode cX6_set 18 = .ok (.iload_n 1, 1) := by decide +kernel
theorem dX6_set_19 : decode cX6_set 19 = .ok (.iaload, 1) := by decide +kernel
theorem dX6_set_20 : decode cX6_set 20 = .ok (.invokestatic 59, 3) := by decide +kernel
theorem dX6_set_23 : decode cX6_set 23 = .ok (.ifCond .ne 6, 3) := by decide +kernel
theorem dX6_set_26 : decode cX6_set 26 = .ok (.bipush (-2), 2) := by decide +kernel
theorem dX6_set_28 : decode cX6_set 28 = .ok (.ireturn, 1) := by decide +kernel
theorem dX6_set_29 : decode cX6_set 29 = .ok (.aload_n 0, 1) := by decide +kernel
theorem dX6_set_30 : decode cX6_set 30 = .ok (.invokevirtual 67, 3) := by decide +kernel
theorem dX6_set_33 : decode cX6_set 33 = .ok (.aload_n 0, 1) := by decide +kernel
theorem dX6_set_34 : decode cX6_set 34 = .ok (.getfield 12, 3) := by decide +kernel
theorem dX6_set_37 : decode cX6_set 37 = .ok (.getfield 112, 3) := by decide +kernel
theorem dX6_set_40 : decode cX6_set 40 = .ok (.iload_n 1, 1) := by decide +kernel
theorem dX6_set_41 : decode cX6_set 41 = .ok (.iaload, 1) := by decide +kernel
theorem dX6_set_42 : decode cX6_set 42 = .ok (.istore_n 3, 1) := by decide +kernel
theorem dX6_set_43 : decode cX6_set 43 = .ok (.aload_n 0, 1) := by decide +kernel
theorem dX6_set_44 : decode cX6_set 44 = .ok (.getfield 12, 3) := by decide +kernel
theorem dX6_set_47 : decode cX6_set 47 = .ok (.getfield 112, 3) := by decide +kernel
theorem dX6_set_50 : decode cX6_set 50 = .ok (.iload_n 1, 1) := by decide +kernel
theorem dX6_set_51 : decode cX6_set 51 = .ok (.iload_n 2, 1) := by decide +kernel
theorem dX6_set_52 : decode cX6_set 52 = .ok (.iastore, 1) := by decide +kernel
theorem dX6_set_53 : decode cX6_set 53 = .ok (.iload_n 3, 1) := by decide +kernel
theorem dX6_set_54 : decode cX6_set 54 = .ok (.ireturn, 1) := by decide +kernel
theorem dX6_say_0 : decode cX6_say 0 = .ok (.iload_n 1, 1) := by decide +kernel
theorem dX6_say_1 : decode cX6_say 1 = .ok (.bipush 33, 2) := by decide +kernel
theorem dX6_say_3 : decode cX6_say 3 = .ok (.bipush 126, 2) := by decide +kernel
theorem dX6_say_5 : decode cX6_say 5 = .ok (.invokestatic 59, 3) := by decide +kernel
theorem dX6_say_8 : decode cX6_say 8 = .ok (.ifCond .ne 6, 3) := by decide +kernel
theorem dX6_say_11 : decode cX6_say 11 = .ok (.bipush (-2), 2) := by decide +kernel
theorem dX6_say_13 : decode cX6_say 13 = .ok (.ireturn, 1) := by decide +kernel
theorem dX6_say_14 : decode cX6_say 14 = .ok (.aload_n 0, 1) := by decide +kernel
theorem dX6_say_15 : decode cX6_say 15 = .ok (.getfield 19, 3) := by decide +kernel
theorem dX6_say_18 : decode cX6_say 18 = .ok (.getfield 115, 3) := by decide +kernel
theorem dX6_say_21 : decode cX6_say 21 = .ok (.bipush 80, 2) := by decide +kernel
theorem dX6_say_23 : decode cX6_say 23 = .ok (.if_icmp .lt 6, 3) := by decide +kernel
theorem dX6_say_26 : decode cX6_say 26 = .ok (.bipush (-4), 2) := by decide +kernel
theorem dX6_say_28 : decode cX6_say 28 = .ok (.ireturn, 1) := by decide +kernel
theorem dX6_say_29 : decode cX6_say 29 = .ok (.aload_n 0, 1) := by decide +kernel
theorem dX6_say_30 : decode cX6_say 30 = .ok (.getfield 19, 3) := by decide +kernel
theorem dX6_say_33 : decode cX6_say 33 = .ok (.iload_n 1, 1) := by decide +kernel
theorem dX6_say_34 : decode cX6_say 34 = .ok (.invokevirtual 116, 3) := by decide +kernel
theorem dX6_say_37 : decode cX6_say 37 = .ok (.aload_n 0, 1) := by decide +kernel
theorem dX6_say_38 : decode cX6_say 38 = .ok (.getfield 19, 3) := by decide +kernel
theorem dX6_say_41 : decode cX6_say 41 = .ok (.getfield 115, 3) := by decide +kernel
theorem dX6_say_44 : decode cX6_say 44 = .ok (.ireturn, 1) := by decide +kernel
theorem dX6_wipe_0 : decode cX6_wipe 0 = .ok (.aload_n 0, 1) := by decide +kernel
theorem dX6_wipe_1 : decode cX6_wipe 1 = .ok (.getfield 19, 3) := by decide +kernel
theorem dX6_wipe_4 : decode cX6_wipe 4 = .ok (.getfield 115, 3) := by decide +kernel
theorem dX6_wipe_7 : decode cX6_wipe 7 = .ok (.istore_n 1, 1) := by decide +kernel
theorem dX6_wipe_8 : decode cX6_wipe 8 = .ok (.aload_n 0, 1) := by decide +kernel
theorem dX6_wipe_9 : decode cX6_wipe 9 = .ok (.getfield 19, 3) := by decide +kernel
theorem dX6_wipe_12 : decode cX6_wipe 12 = .ok (.iconst 0, 1) := by decide +kernel
theorem dX6_wipe_13 : decode cX6_wipe 13 = .ok (.putfield 115, 3) := by decide +kernel
theorem dX6_wipe_16 : decode cX6_wipe 16 = .ok (.iload_n 1, 1) := by decide +kernel
theorem dX6_wipe_17 : decode cX6_wipe 17 = .ok (.ireturn, 1) := by decide +kernel
theorem dX6_fault_0 : decode cX6_fault 0 = .ok (.aload_n 0, 1) := by decide +kernel
theorem dX6_fault_1 : decode cX6_fault 1 = .ok (.getfield 19, 3) := by decide +kernel
theorem dX6_fault_4 : decode cX6_fault 4 = .ok (.invokevirtual 119, 3) := by decide +kernel
theorem dX6_fault_7 : decode cX6_fault 7 = .ok (.ireturn, 1) := by decide +kernel
theorem dX6_read_0 : decode cX6_read 0 = .ok (.aload_n 0, 1) := by decide +kernel
theorem dX6_read_1 : decode cX6_read 1 = .ok (.getfield 19, 3) := by decide +kernel
theorem dX6_read_4 : decode cX6_read 4 = .ok (.invokevirtual 119, 3) := by decide +kernel
theorem dX6_read_7 : decode cX6_read 7 = .ok (.bipush (-6), 2) := by decide +kernel
theorem dX6_read_9 : decode cX6_read 9 = .ok (.if_icmp .eq 6, 3) := by decide +kernel
theorem dX6_read_12 : decode cX6_read 12 = .ok (.bipush (-5), 2) := by decide +kernel
theorem dX6_read_14 : decode cX6_read 14 = .ok (.ireturn, 1) := by decide +kernel
theorem dX6_read_15 : decode cX6_read 15 = .ok (.aload_n 0, 1) := by decide +kernel
theorem dX6_read_16 : decode cX6_read 16 = .ok (.getfield 19, 3) := by decide +kernel
theorem dX6_read_19 : decode cX6_read 19 = .ok (.invokevirtual 123, 3) := by decide +kernel
theorem dX6_read_22 : decode cX6_read 22 = .ok (.istore_n 1, 1) := by decide +kernel
theorem dX6_read_23 : decode cX6_read 23 = .ok (.aload_n 0, 1) := by decide +kernel
theorem dX6_read_24 : decode cX6_read 24 = .ok (.getfield 12, 3) := by decide +kernel
theorem dX6_read_27 : decode cX6_read 27 = .ok (.getfield 63, 3) := by decide +kernel
theorem dX6_read_30 : decode cX6_read 30 = .ok (.iload_n 1, 1) := by decide +kernel
theorem dX6_read_31 : decode cX6_read 31 = .ok (.iadd, 1) := by decide +kernel
theorem dX6_read_32 : decode cX6_read 32 = .ok (.bipush 12, 2) := by decide +kernel
theorem dX6_read_34 : decode cX6_read 34 = .ok (.if_icmp .le 6, 3) := by decide +kernel
theorem dX6_read_37 : decode cX6_read 37 = .ok (.bipush (-4), 2) := by decide +kernel
theorem dX6_read_39 : decode cX6_read 39 = .ok (.ireturn, 1) := by decide +kernel
theorem dX6_read_40 : decode cX6_read 40 = .ok (.aload_n 0, 1) := by decide +kernel
theorem dX6_read_41 : decode cX6_read 41 = .ok (.invokevirtual 67, 3) := by decide +kernel
theorem dX6_read_44 : decode cX6_read 44 = .ok (.aload_n 0, 1) := by decide +kernel
theorem dX6_read_45 : decode cX6_read 45 = .ok (.getfield 19, 3) := by decide +kernel
theorem dX6_read_48 : decode cX6_read 48 = .ok (.aload_n 0, 1) := by decide +kernel
theorem dX6_read_49 : decode cX6_read 49 = .ok (.getfield 12, 3) := by decide +kernel
theorem dX6_read_52 : decode cX6_read 52 = .ok (.iload_n 1, 1) := by decide +kernel
theorem dX6_read_53 : decode cX6_read 53 = .ok (.invokevirtual 126, 3) := by decide +kernel
theorem dX6_read_56 : decode cX6_read 56 = .ok (.aload_n 0, 1) := by decide +kernel
theorem dX6_read_57 : decode cX6_read 57 = .ok (.getfield 19, 3) := by decide +kernel
theorem dX6_read_60 : decode cX6_read 60 = .ok (.iconst 0, 1) := by decide +kernel
theorem dX6_read_61 : decode cX6_read 61 = .ok (.putfield 115, 3) := by decide +kernel
theorem dX6_read_64 : decode cX6_read 64 = .ok (.aload_n 0, 1) := by decide +kernel
theorem dX6_read_65 : decode cX6_read 65 = .ok (.getfield 12, 3) := by decide +kernel
theorem dX6_read_68 : decode cX6_read 68 = .ok (.getfield 63, 3) := by decide +kernel
theorem dX6_read_71 : decode cX6_read 71 = .ok (.ireturn, 1) := by decide +kernel
theorem dX6_rounds_0 : decode cX6_rounds 0 = .ok (.iload_n 1, 1) := by decide +kernel
theorem dX6_rounds_1 : decode cX6_rounds 1 = .ok (.iconst 0, 1) := by decide +kernel
theorem dX6_rounds_2 : decode cX6_rounds 2 = .ok (.iconst 1, 1) := by decide +kernel
theorem dX6_rounds_3 : decode cX6_rounds 3 = .ok (.invokestatic 59, 3) := by decide +kernel
theorem dX6_rounds_6 : decode cX6_rounds 6 = .ok (.ifCond .ne 6, 3) := by decide +kernel
theorem dX6_rounds_9 : decode cX6_rounds 9 = .ok (.bipush (-2), 2) := by decide +kernel
theorem dX6_rounds_11 : decode cX6_rounds 11 = .ok (.ireturn, 1) := by decide +kernel
theorem dX6_rounds_12 : decode cX6_rounds 12 = .ok (.aload_n 0, 1) := by decide +kernel
theorem dX6_rounds_13 : decode cX6_rounds 13 = .ok (.invokevirtual 130, 3) := by decide +kernel
theorem dX6_rounds_16 : decode cX6_rounds 16 = .ok (.iload_n 1, 1) := by decide +kernel
theorem dX6_rounds_17 : decode cX6_rounds 17 = .ok (.ifCond .ne 13, 3) := by decide +kernel
theorem dX6_rounds_20 : decode cX6_rounds 20 = .ok (.aload_n 0, 1) := by decide +kernel
theorem dX6_rounds_21 : decode cX6_rounds 21 = .ok (.getfield 26, 3) := by decide +kernel
theorem dX6_rounds_24 : decode cX6_rounds 24 = .ok (.getfield 133, 3) := by decide +kernel
theorem dX6_rounds_27 : decode cX6_rounds 27 = .ok (.goto 10, 3) := by decide +kernel
theorem dX6_rounds_30 : decode cX6_rounds 30 = .ok (.aload_n 0, 1) := by decide +kernel
theorem dX6_rounds_31 : decode cX6_rounds 31 = .ok (.getfield 26, 3) := by decide +kernel
theorem dX6_rounds_34 : decode cX6_rounds 34 = .ok (.getfield 134, 3) := by decide +kernel
theorem dX6_rounds_37 : decode cX6_rounds 37 = .ok (.ireturn, 1) := by decide +kernel
theorem dX6_round_0 : decode cX6_round 0 = .ok (.aload_n 0, 1) := by decide +kernel
theorem dX6_round_1 : decode cX6_round 1 = .ok (.invokevirtual 130, 3) := by decide +kernel
theorem dX6_round_4 : decode cX6_round 4 = .ok (.aload_n 0, 1) := by decide +kernel
theorem dX6_round_5 : decode cX6_round 5 = .ok (.getfield 26, 3) := by decide +kernel
theorem dX6_round_8 : decode cX6_round 8 = .ok (.iload_n 1, 1) := by decide +kernel
theorem dX6_round_9 : decode cX6_round 9 = .ok (.invokevirtual 137, 3) := by decide +kernel
theorem dX6_round_12 : decode cX6_round 12 = .ok (.ifCond .ne 5, 3) := by decide +kernel
theorem dX6_round_15 : decode cX6_round 15 = .ok (.iconst (-1), 1) := by decide +kernel
theorem dX6_round_16 : decode cX6_round 16 = .ok (.ireturn, 1) := by decide +kernel
theorem dX6_round_17 : decode cX6_round 17 = .ok (.aload_n 0, 1) := by decide +kernel
theorem dX6_round_18 : decode cX6_round 18 = .ok (.getfield 26, 3) := by decide +kernel
theorem dX6_round_21 : decode cX6_round 21 = .ok (.getfield 140, 3) := by decide +kernel
theorem dX6_round_24 : decode cX6_round 24 = .ok (.iload_n 1, 1) := by decide +kernel
theorem dX6_round_25 : decode cX6_round 25 = .ok (.iaload, 1) := by decide +kernel
theorem dX6_round_26 : decode cX6_round 26 = .ok (.istore_n 3, 1) := by decide +kernel
theorem dX6_round_27 : decode cX6_round 27 = .ok (.iload_n 2, 1) := by decide +kernel
theorem dX6_round_28 : decode cX6_round 28 = .ok (.iconst (-1), 1) := by decide +kernel
theorem dX6_round_29 : decode cX6_round 29 = .ok (.if_icmp .ne 12, 3) := by decide +kernel
theorem dX6_round_32 : decode cX6_round 32 = .ok (.aload_n 0, 1) := by decide +kernel
theorem dX6_round_33 : decode cX6_round 33 = .ok (.getfield 26, 3) := by decide +kernel
theorem dX6_round_36 : decode cX6_round 36 = .ok (.iload_n 3, 1) := by decide +kernel
theorem dX6_round_37 : decode cX6_round 37 = .ok (.invokevirtual 143, 3) := by decide +kernel
theorem dX6_round_40 : decode cX6_round 40 = .ok (.ireturn, 1) := by decide +kernel
theorem dX6_round_41 : decode cX6_round 41 = .ok (.iload_n 2, 1) := by decide +kernel
theorem dX6_round_42 : decode cX6_round 42 = .ok (.ifCond .lt 21, 3) := by decide +kernel
theorem dX6_round_45 : decode cX6_round 45 = .ok (.iload_n 2, 1) := by decide +kernel
theorem dX6_round_46 : decode cX6_round 46 = .ok (.bipush 8, 2) := by decide +kernel
theorem dX6_round_48 : decode cX6_round 48 = .ok (.if_icmp .ge 15, 3) := by decide +kernel
theorem dX6_round_51 : decode cX6_round 51 = .ok (.aload_n 0, 1) := by decide +kernel
theorem dX6_round_52 : decode cX6_round 52 = .ok (.getfield 26, 3) := by decide +kernel
theorem dX6_round_55 : decode cX6_round 55 = .ok (.iload_n 3, 1) := by decide +kernel
theorem dX6_round_56 : decode cX6_round 56 = .ok (.iload_n 2, 1) := by decide +kernel
theorem dX6_round_57 : decode cX6_round 57 = .ok (.invokevirtual 146, 3) := by decide +kernel
theorem dX6_round_60 : decode cX6_round 60 = .ok (.goto 4, 3) := by decide +kernel
theorem dX6_round_63 : decode cX6_round 63 = .ok (.iconst (-1), 1) := by decide +kernel
theorem dX6_round_64 : decode cX6_round 64 = .ok (.istore 4, 2) := by decide +kernel
theorem dX6_round_66 : decode cX6_round 66 = .ok (.iload 4, 2) := by decide +kernel
theorem dX6_round_68 : decode cX6_round 68 = .ok (.ifCond .ge 8, 3) := by decide +kernel
theorem dX6_round_71 : decode cX6_round 71 = .ok (.bipush (-6), 2) := by decide +kernel
theorem dX6_round_73 : decode cX6_round 73 = .ok (.goto 5, 3) := by decide +kernel
theorem dX6_round_76 : decode cX6_round 76 = .ok (.iload 4, 2) := by decide +kernel
theorem dX6_round_78 : decode cX6_round 78 = .ok (.ireturn, 1) := by decide +kernel
theorem dX6_product_0 : decode cX6_product 0 = .ok (.aload_n 0, 1) := by decide +kernel
theorem dX6_product_1 : decode cX6_product 1 = .ok (.invokevirtual 130, 3) := by decide +kernel
theorem dX6_product_4 : decode cX6_product 4 = .ok (.aload_n 0, 1) := by decide +kernel
theorem dX6_product_5 : decode cX6_product 5 = .ok (.getfield 26, 3) := by decide +kernel
theorem dX6_product_8 : decode cX6_product 8 = .ok (.iload_n 1, 1) := by decide +kernel
theorem dX6_product_9 : decode cX6_product 9 = .ok (.invokevirtual 137, 3) := by decide +kernel
theorem dX6_product_12 : decode cX6_product 12 = .ok (.ifCond .ne 7, 3) := by decide +kernel
theorem dX6_product_15 : decode cX6_product 15 = .ok (.ldc2_w 150, 3) := by decide +kernel
theorem dX6_product_18 : decode cX6_product 18 = .ok (.lreturn, 1) := by decide +kernel
theorem dX6_product_19 : decode cX6_product 19 = .ok (.iload_n 2, 1) := by decide +kernel
theorem dX6_product_20 : decode cX6_product 20 = .ok (.iconst 0, 1) := by decide +kernel
theorem dX6_product_21 : decode cX6_product 21 = .ok (.iconst 1, 1) := by decide +kernel
theorem dX6_product_22 : decode cX6_product 22 = .ok (.invokestatic 59, 3) := by decide +kernel
theorem dX6_product_25 : decode cX6_product 25 = .ok (.ifCond .ne 7, 3) := by decide +kernel
theorem dX6_product_28 : decode cX6_product 28 = .ok (.ldc2_w 152, 3) := by decide +kernel
theorem dX6_product_31 : decode cX6_product 31 = .ok (.lreturn, 1) := by decide +kernel
theorem dX6_product_32 : decode cX6_product 32 = .ok (.aload_n 0, 1) := by decide +kernel
theorem dX6_product_33 : decode cX6_product 33 = .ok (.getfield 26, 3) := by decide +kernel
theorem dX6_product_36 : decode cX6_product 36 = .ok (.getfield 140, 3) := by decide +kernel
theorem dX6_product_39 : decode cX6_product 39 = .ok (.iload_n 1, 1) := by decide +kernel
theorem dX6_product_40 : decode cX6_product 40 = .ok (.iaload, 1) := by decide +kernel
theorem dX6_product_41 : decode cX6_product 41 = .ok (.istore_n 3, 1) := by decide +kernel
theorem dX6_product_42 : decode cX6_product 42 = .ok (.aload_n 0, 1) := by decide +kernel
theorem dX6_product_43 : decode cX6_product 43 = .ok (.getfield 26, 3) := by decide +kernel
theorem dX6_product_46 : decode cX6_product 46 = .ok (.iload_n 3, 1) := by decide +kernel
theorem dX6_product_47 : decode cX6_product 47 = .ok (.aload_n 0, 1) := by decide +kernel
theorem dX6_product_48 : decode cX6_product 48 = .ok (.getfield 12, 3) := by decide +kernel
theorem dX6_product_51 : decode cX6_product 51 = .ok (.getfield 86, 3) := by decide +kernel
theorem dX6_product_54 : decode cX6_product 54 = .ok (.aload_n 0, 1) := by decide +kernel
theorem dX6_product_55 : decode cX6_product 55 = .ok (.getfield 12, 3) := by decide +kernel
theorem dX6_product_58 : decode cX6_product 58 = .ok (.getfield 112, 3) := by decide +kernel
theorem dX6_product_61 : decode cX6_product 61 = .ok (.iconst 0, 1) := by decide +kernel
theorem dX6_product_62 : decode cX6_product 62 = .ok (.iaload, 1) := by decide +kernel
theorem dX6_product_63 : decode cX6_product 63 = .ok (.invokevirtual 154, 3) := by decide +kernel
theorem dX6_product_66 : decode cX6_product 66 = .ok (.lstore 4, 2) := by decide +kernel
theorem dX6_product_68 : decode cX6_product 68 = .ok (.aload_n 0, 1) := by decide +kernel
theorem dX6_product_69 : decode cX6_product 69 = .ok (.getfield 26, 3) := by decide +kernel
theorem dX6_product_72 : decode cX6_product 72 = .ok (.getfield 157, 3) := by decide +kernel
theorem dX6_product_75 : decode cX6_product 75 = .ok (.iload_n 3, 1) := by decide +kernel
theorem dX6_product_76 : decode cX6_product 76 = .ok (.laload, 1) := by decide +kernel
theorem dX6_product_77 : decode cX6_product 77 = .ok (.lstore 6, 2) := by decide +kernel
theorem dX6_product_79 : decode cX6_product 79 = .ok (.iload_n 2, 1) := by decide +kernel
theorem dX6_product_80 : decode cX6_product 80 = .ok (.ifCond .ne 8, 3) := by decide +kernel
theorem dX6_product_83 : decode cX6_product 83 = .ok (.lload 4, 2) := by decide +kernel
theorem dX6_product_85 : decode cX6_product 85 = .ok (.goto 5, 3) := by decide +kernel
theorem dX6_product_88 : decode cX6_product 88 = .ok (.lload 6, 2) := by decide +kernel
theorem dX6_product_90 : decode cX6_product 90 = .ok (.lload 4, 2) := by decide +kernel
theorem dX6_product_92 : decode cX6_product 92 = .ok (.lload 6, 2) := by decide +kernel
theorem dX6_product_94 : decode cX6_product 94 = .ok (.invokestatic 161, 3) := by decide +kernel
theorem dX6_product_97 : decode cX6_product 97 = .ok (.invokestatic 165, 3) := by decide +kernel
theorem dX6_product_100 : decode cX6_product 100 = .ok (.lreturn, 1) := by decide +kernel
theorem dX6_best_0 : decode cX6_best 0 = .ok (.iload_n 1, 1) := by decide +kernel
theorem dX6_best_1 : decode cX6_best 1 = .ok (.iconst 0, 1) := by decide +kernel
theorem dX6_best_2 : decode cX6_best 2 = .ok (.iconst 1, 1) := by decide +kernel
theorem dX6_best_3 : decode cX6_best 3 = .ok (.invokestatic 59, 3) := by decide +kernel
theorem dX6_best_6 : decode cX6_best 6 = .ok (.ifCond .ne 6, 3) := by decide +kernel
theorem dX6_best_9 : decode cX6_best 9 = .ok (.bipush (-2), 2) := by decide +kernel
theorem dX6_best_11 : decode cX6_best 11 = .ok (.ireturn, 1) := by decide +kernel
theorem dX6_best_12 : decode cX6_best 12 = .ok (.aload_n 0, 1) := by decide +kernel
theorem dX6_best_13 : decode cX6_best 13 = .ok (.invokevirtual 130, 3) := by decide +kernel
theorem dX6_best_16 : decode cX6_best 16 = .ok (.iload_n 1, 1) := by decide +kernel
theorem dX6_best_17 : decode cX6_best 17 = .ok (.ifCond .ne 29, 3) := by decide +kernel
theorem dX6_best_20 : decode cX6_best 20 = .ok (.aload_n 0, 1) := by decide +kernel
theorem dX6_best_21 : decode cX6_best 21 = .ok (.getfield 26, 3) := by decide +kernel
theorem dX6_best_24 : decode cX6_best 24 = .ok (.aload_n 0, 1) := by decide +kernel
theorem dX6_best_25 : decode cX6_best 25 = .ok (.getfield 12, 3) := by decide +kernel
theorem dX6_best_28 : decode cX6_best 28 = .ok (.getfield 86, 3) := by decide +kernel
theorem dX6_best_31 : decode cX6_best 31 = .ok (.aload_n 0, 1) := by decide +kernel
theorem dX6_best_32 : decode cX6_best 32 = .ok (.getfield 12, 3) := by decide +kernel
theorem dX6_best_35 : decode cX6_best 35 = .ok (.getfield 112, 3) := by decide +kernel
theorem dX6_best_38 : decode cX6_best 38 = .ok (.iconst 0, 1) := by decide +kernel
theorem dX6_best_39 : decode cX6_best 39 = .ok (.iaload, 1) := by decide +kernel
theorem dX6_best_40 : decode cX6_best 40 = .ok (.invokevirtual 168, 3) := by decide +kernel
theorem dX6_best_43 : decode cX6_best 43 = .ok (.goto 10, 3) := by decide +kernel
theorem dX6_best_46 : decode cX6_best 46 = .ok (.aload_n 0, 1) := by decide +kernel
theorem dX6_best_47 : decode cX6_best 47 = .ok (.getfield 26, 3) := by decide +kernel
theorem dX6_best_50 : decode cX6_best 50 = .ok (.invokevirtual 172, 3) := by decide +kernel
theorem dX6_best_53 : decode cX6_best 53 = .ok (.istore_n 2, 1) := by decide +kernel
theorem dX6_best_54 : decode cX6_best 54 = .ok (.aload_n 0, 1) := by decide +kernel
theorem dX6_best_55 : decode cX6_best 55 = .ok (.getfield 26, 3) := by decide +kernel
theorem dX6_best_58 : decode cX6_best 58 = .ok (.iload_n 2, 1) := by decide +kernel
theorem dX6_best_59 : decode cX6_best 59 = .ok (.invokevirtual 175, 3) := by decide +kernel
theorem dX6_best_62 : decode cX6_best 62 = .ok (.ireturn, 1) := by decide +kernel
theorem dX6_through_0 : decode cX6_through 0 = .ok (.aload_n 0, 1) := by decide +kernel
theorem dX6_through_1 : decode cX6_through 1 = .ok (.getfield 12, 3) := by decide +kernel
theorem dX6_through_4 : decode cX6_through 4 = .ok (.iload_n 1, 1) := by decide +kernel
theorem dX6_through_5 : decode cX6_through 5 = .ok (.invokevirtual 74, 3) := by decide +kernel
theorem dX6_through_8 : decode cX6_through 8 = .ok (.ifCond .ne 5, 3) := by decide +kernel
theorem dX6_through_11 : decode cX6_through 11 = .ok (.iconst (-1), 1) := by decide +kernel
theorem dX6_through_12 : decode cX6_through 12 = .ok (.ireturn, 1) := by decide +kernel
theorem dX6_through_13 : decode cX6_through 13 = .ok (.aload_n 0, 1) := by decide +kernel
theorem dX6_through_14 : decode cX6_through 14 = .ok (.invokevirtual 130, 3) := by decide +kernel
theorem dX6_through_17 : decode cX6_through 17 = .ok (.aload_n 0, 1) := by decide +kernel
theorem dX6_through_18 : decode cX6_through 18 = .ok (.getfield 26, 3) := by decide +kernel
theorem dX6_through_21 : decode cX6_through 21 = .ok (.iload_n 1, 1) := by decide +kernel
theorem dX6_through_22 : decode cX6_through 22 = .ok (.invokevirtual 178, 3) := by decide +kernel
theorem dX6_through_25 : decode cX6_through 25 = .ok (.ireturn, 1) := by decide +kernel
theorem dX6_blamed_0 : decode cX6_blamed 0 = .ok (.aload_n 0, 1) := by decide +kernel
theorem dX6_blamed_1 : decode cX6_blamed 1 = .ok (.invokevirtual 130, 3) := by decide +kernel
theorem dX6_blamed_4 : decode cX6_blamed 4 = .ok (.aload_n 0, 1) := by decide +kernel
theorem dX6_blamed_5 : decode cX6_blamed 5 = .ok (.getfield 26, 3) := by decide +kernel
theorem dX6_blamed_8 : decode cX6_blamed 8 = .ok (.invokevirtual 181, 3) := by decide +kernel
theorem dX6_blamed_11 : decode cX6_blamed 11 = .ok (.ireturn, 1) := by decide +kernel
theorem dX6_cut_0 : decode cX6_cut 0 = .ok (.aload_n 0, 1) := by decide +kernel
theorem dX6_cut_1 : decode cX6_cut 1 = .ok (.invokevirtual 130, 3) := by decide +kernel
theorem dX6_cut_4 : decode cX6_cut 4 = .ok (.aload_n 0, 1) := by decide +kernel
theorem dX6_cut_5 : decode cX6_cut 5 = .ok (.getfield 26, 3) := by decide +kernel
theorem dX6_cut_8 : decode cX6_cut 8 = .ok (.aload_n 0, 1) := by decide +kernel
theorem dX6_cut_9 : decode cX6_cut 9 = .ok (.getfield 12, 3) := by decide +kernel
theorem dX6_cut_12 : decode cX6_cut 12 = .ok (.invokevirtual 184, 3) := by decide +kernel
theorem dX6_cut_15 : decode cX6_cut 15 = .ok (.invokevirtual 187, 3) := by decide +kernel
theorem dX6_cut_18 : decode cX6_cut 18 = .ok (.ireturn, 1) := by decide +kernel
theorem dX6_move_0 : decode cX6_move 0 = .ok (.aload_n 0, 1) := by decide +kernel
theorem dX6_move_1 : decode cX6_move 1 = .ok (.getfield 12, 3) := by decide +kernel
theorem dX6_move_4 : decode cX6_move 4 = .ok (.iload_n 1, 1) := by decide +kernel
theorem dX6_move_5 : decode cX6_move 5 = .ok (.invokevirtual 74, 3) := by decide +kernel
theorem dX6_move_8 : decode cX6_move 8 = .ok (.ifCond .ne 5, 3) := by decide +kernel
theorem dX6_move_11 : decode cX6_move 11 = .ok (.iconst (-1), 1) := by decide +kernel
theorem dX6_move_12 : decode cX6_move 12 = .ok (.ireturn, 1) := by decide +kernel
theorem dX6_move_13 : decode cX6_move 13 = .ok (.aload_n 0, 1) := by decide +kernel
theorem dX6_move_14 : decode cX6_move 14 = .ok (.getfield 12, 3) := by decide +kernel
theorem dX6_move_17 : decode cX6_move 17 = .ok (.iload_n 1, 1) := by decide +kernel
theorem dX6_move_18 : decode cX6_move 18 = .ok (.invokevirtual 98, 3) := by decide +kernel
theorem dX6_move_21 : decode cX6_move 21 = .ok (.ifCond .ne 6, 3) := by decide +kernel
theorem dX6_move_24 : decode cX6_move 24 = .ok (.bipush (-3), 2) := by decide +kernel
theorem dX6_move_26 : decode cX6_move 26 = .ok (.ireturn, 1) := by decide +kernel
theorem dX6_move_27 : decode cX6_move 27 = .ok (.aload_n 0, 1) := by decide +kernel
theorem dX6_move_28 : decode cX6_move 28 = .ok (.invokevirtual 130, 3) := by decide +kernel
theorem dX6_move_31 : decode cX6_move 31 = .ok (.aload_n 0, 1) := by decide +kernel
theorem dX6_move_32 : decode cX6_move 32 = .ok (.getfield 26, 3) := by decide +kernel
theorem dX6_move_35 : decode cX6_move 35 = .ok (.aload_n 0, 1) := by decide +kernel
theorem dX6_move_36 : decode cX6_move 36 = .ok (.getfield 12, 3) := by decide +kernel
theorem dX6_move_39 : decode cX6_move 39 = .ok (.iload_n 1, 1) := by decide +kernel
theorem dX6_move_40 : decode cX6_move 40 = .ok (.invokevirtual 190, 3) := by decide +kernel
theorem dX6_move_43 : decode cX6_move 43 = .ok (.ireturn, 1) := by decide +kernel
theorem dX6_edge_0 : decode cX6_edge 0 = .ok (.aload_n 0, 1) := by decide +kernel
theorem dX6_edge_1 : decode cX6_edge 1 = .ok (.invokevirtual 130, 3) := by decide +kernel
theorem dX6_edge_4 : decode cX6_edge 4 = .ok (.getstatic 106, 3) := by decide +kernel
theorem dX6_edge_7 : decode cX6_edge 7 = .ok (.iconst 0, 1) := by decide +kernel
theorem dX6_edge_8 : decode cX6_edge 8 = .ok (.iaload, 1) := by decide +kernel
theorem dX6_edge_9 : decode cX6_edge 9 = .ok (.istore_n 1, 1) := by decide +kernel
theorem dX6_edge_10 : decode cX6_edge 10 = .ok (.iload_n 1, 1) := by decide +kernel
theorem dX6_edge_11 : decode cX6_edge 11 = .ok (.getstatic 109, 3) := by decide +kernel
theorem dX6_edge_14 : decode cX6_edge 14 = .ok (.iconst 0, 1) := by decide +kernel
theorem dX6_edge_15 : decode cX6_edge 15 = .ok (.iaload, 1) := by decide +kernel
theorem dX6_edge_16 : decode cX6_edge 16 = .ok (.if_icmp .gt 29, 3) := by decide +kernel
theorem dX6_edge_19 : decode cX6_edge 19 = .ok (.aload_n 0, 1) := by decide +kernel
theorem dX6_edge_20 : decode cX6_edge 20 = .ok (.getfield 26, 3) := by decide +kernel
theorem dX6_edge_23 : decode cX6_edge 23 = .ok (.aload_n 0, 1) := by decide +kernel
theorem dX6_edge_24 : decode cX6_edge 24 = .ok (.getfield 12, 3) := by decide +kernel
theorem dX6_edge_27 : decode cX6_edge 27 = .ok (.getfield 86, 3) := by decide +kernel
theorem dX6_edge_30 : decode cX6_edge 30 = .ok (.iload_n 1, 1) := by decide +kernel
theorem dX6_edge_31 : decode cX6_edge 31 = .ok (.invokevirtual 194, 3) := by decide +kernel
theorem dX6_edge_34 : decode cX6_edge 34 = .ok (.ifCond .ne 5, 3) := by decide +kernel
theorem dX6_edge_37 : decode cX6_edge 37 = .ok (.iload_n 1, 1) := by decide +kernel
theorem dX6_edge_38 : decode cX6_edge 38 = .ok (.ireturn, 1) := by decide +kernel
theorem dX6_edge_39 : decode cX6_edge 39 = .ok (.iinc 1 1, 3) := by decide +kernel
theorem dX6_edge_42 : decode cX6_edge 42 = .ok (.goto (-32), 3) := by decide +kernel
theorem dX6_edge_45 : decode cX6_edge 45 = .ok (.bipush (-6), 2) := by decide +kernel
theorem dX6_edge_47 : decode cX6_edge 47 = .ok (.ireturn, 1) := by decide +kernel
theorem dX6_gets_0 : decode cX6_gets 0 = .ok (.aload_n 0, 1) := by decide +kernel
theorem dX6_gets_1 : decode cX6_gets 1 = .ok (.iload_n 1, 1) := by decide +kernel
theorem dX6_gets_2 : decode cX6_gets 2 = .ok (.iload_n 2, 1) := by decide +kernel
theorem dX6_gets_3 : decode cX6_gets 3 = .ok (.iconst 0, 1) := by decide +kernel
theorem dX6_gets_4 : decode cX6_gets 4 = .ok (.iload_n 3, 1) := by decide +kernel
theorem dX6_gets_5 : decode cX6_gets 5 = .ok (.invokevirtual 198, 3) := by decide +kernel
theorem dX6_gets_8 : decode cX6_gets 8 = .ok (.istore 4, 2) := by decide +kernel
theorem dX6_gets_10 : decode cX6_gets 10 = .ok (.iload 4, 2) := by decide +kernel
theorem dX6_gets_12 : decode cX6_gets 12 = .ok (.ifCond .eq 11, 3) := by decide +kernel
theorem dX6_gets_15 : decode cX6_gets 15 = .ok (.ldc2_w 202, 3) := by decide +kernel
theorem dX6_gets_18 : decode cX6_gets 18 = .ok (.iload 4, 2) := by decide +kernel
theorem dX6_gets_20 : decode cX6_gets 20 = .ok (.i2l, 1) := by decide +kernel
theorem dX6_gets_21 : decode cX6_gets 21 = .ok (.ladd, 1) := by decide +kernel
theorem dX6_gets_22 : decode cX6_gets 22 = .ok (.lreturn, 1) := by decide +kernel
theorem dX6_gets_23 : decode cX6_gets 23 = .ok (.aload_n 0, 1) := by decide +kernel
theorem dX6_gets_24 : decode cX6_gets 24 = .ok (.getfield 33, 3) := by decide +kernel
theorem dX6_gets_27 : decode cX6_gets 27 = .ok (.aload_n 0, 1) := by decide +kernel
theorem dX6_gets_28 : decode cX6_gets 28 = .ok (.getfield 12, 3) := by decide +kernel
theorem dX6_gets_31 : decode cX6_gets 31 = .ok (.iload_n 1, 1) := by decide +kernel
theorem dX6_gets_32 : decode cX6_gets 32 = .ok (.invokevirtual 204, 3) := by decide +kernel
theorem dX6_gets_35 : decode cX6_gets 35 = .ok (.iload_n 3, 1) := by decide +kernel
theorem dX6_gets_36 : decode cX6_gets 36 = .ok (.ifCond .ne 15, 3) := by decide +kernel
theorem dX6_gets_39 : decode cX6_gets 39 = .ok (.aload_n 0, 1) := by decide +kernel
theorem dX6_gets_40 : decode cX6_gets 40 = .ok (.getfield 33, 3) := by decide +kernel
theorem dX6_gets_43 : decode cX6_gets 43 = .ok (.getfield 207, 3) := by decide +kernel
theorem dX6_gets_46 : decode cX6_gets 46 = .ok (.iload_n 2, 1) := by decide +kernel
theorem dX6_gets_47 : decode cX6_gets 47 = .ok (.laload, 1) := by decide +kernel
theorem dX6_gets_48 : decode cX6_gets 48 = .ok (.goto 12, 3) := by decide +kernel
theorem dX6_gets_51 : decode cX6_gets 51 = .ok (.aload_n 0, 1) := by decide +kernel
theorem dX6_gets_52 : decode cX6_gets 52 = .ok (.getfield 33, 3) := by decide +kernel
theorem dX6_gets_55 : decode cX6_gets 55 = .ok (.getfield 209, 3) := by decide +kernel
theorem dX6_gets_58 : decode cX6_gets 58 = .ok (.iload_n 2, 1) := by decide +kernel
theorem dX6_gets_59 : decode cX6_gets 59 = .ok (.laload, 1) := by decide +kernel
theorem dX6_gets_60 : decode cX6_gets 60 = .ok (.lreturn, 1) := by decide +kernel
theorem dX6_span_0 : decode cX6_span 0 = .ok (.aload_n 0, 1) := by decide +kernel
theorem dX6_span_1 : decode cX6_span 1 = .ok (.iload_n 1, 1) := by decide +kernel
theorem dX6_span_2 : decode cX6_span 2 = .ok (.iload_n 2, 1) := by decide +kernel
theorem dX6_span_3 : decode cX6_span 3 = .ok (.iload_n 3, 1) := by decide +kernel
theorem dX6_span_4 : decode cX6_span 4 = .ok (.iload 4, 2) := by decide +kernel
theorem dX6_span_6 : decode cX6_span 6 = .ok (.invokevirtual 198, 3) := by decide +kernel
theorem dX6_span_9 : decode cX6_span 9 = .ok (.istore 5, 2) := by decide +kernel
theorem dX6_span_11 : decode cX6_span 11 = .ok (.iload 5, 2) := by decide +kernel
theorem dX6_span_13 : decode cX6_span 13 = .ok (.ifCond .eq 11, 3) := by decide +kernel
theorem dX6_span_16 : decode cX6_span 16 = .ok (.ldc2_w 202, 3) := by decide +kernel
theorem dX6_span_19 : decode cX6_span 19 = .ok (.iload 5, 2) := by decide +kernel
theorem dX6_span_21 : decode cX6_span 21 = .ok (.i2l, 1) := by decide +kernel
theorem dX6_span_22 : decode cX6_span 22 = .ok (.ladd, 1) := by decide +kernel
theorem dX6_span_23 : decode cX6_span 23 = .ok (.lreturn, 1) := by decide +kernel
theorem dX6_span_24 : decode cX6_span 24 = .ok (.iload_n 3, 1) := by decide +kernel
theorem dX6_span_25 : decode cX6_span 25 = .ok (.ifCond .ne 12, 3) := by decide +kernel
theorem dX6_span_28 : decode cX6_span 28 = .ok (.aload_n 0, 1) := by decide +kernel
theorem dX6_span_29 : decode cX6_span 29 = .ok (.iload_n 1, 1) := by decide +kernel
theorem dX6_span_30 : decode cX6_span 30 = .ok (.iload_n 2, 1) := by decide +kernel
theorem dX6_span_31 : decode cX6_span 31 = .ok (.iload 4, 2) := by decide +kernel
theorem dX6_span_33 : decode cX6_span 33 = .ok (.invokevirtual 210, 3) := by decide +kernel
theorem dX6_span_36 : decode cX6_span 36 = .ok (.lreturn, 1) := by decide +kernel
theorem dX6_span_37 : decode cX6_span 37 = .ok (.aload_n 0, 1) := by decide +kernel
theorem dX6_span_38 : decode cX6_span 38 = .ok (.iload_n 2, 1) := by decide +kernel
theorem dX6_span_39 : decode cX6_span 39 = .ok (.iload_n 1, 1) := by decide +kernel
theorem dX6_span_40 : decode cX6_span 40 = .ok (.iconst 0, 1) := by decide +kernel
theorem dX6_span_41 : decode cX6_span 41 = .ok (.invokevirtual 210, 3) := by decide +kernel
theorem dX6_span_44 : decode cX6_span 44 = .ok (.lconst 0, 1) := by decide +kernel
theorem dX6_span_45 : decode cX6_span 45 = .ok (.lcmp, 1) := by decide +kernel
theorem dX6_span_46 : decode cX6_span 46 = .ok (.ifCond .ne 7, 3) := by decide +kernel
theorem dX6_span_49 : decode cX6_span 49 = .ok (.iconst 1, 1) := by decide +kernel
theorem dX6_span_50 : decode cX6_span 50 = .ok (.goto 4, 3) := by decide +kernel
theorem dX6_span_53 : decode cX6_span 53 = .ok (.iconst 0, 1) := by decide +kernel
theorem dX6_span_54 : decode cX6_span 54 = .ok (.istore 6, 2) := by decide +kernel
theorem dX6_span_56 : decode cX6_span 56 = .ok (.iload 6, 2) := by decide +kernel
theorem dX6_span_58 : decode cX6_span 58 = .ok (.ifCond .eq 9, 3) := by decide +kernel
theorem dX6_span_61 : decode cX6_span 61 = .ok (.iload 4, 2) := by decide +kernel
theorem dX6_span_63 : decode cX6_span 63 = .ok (.i2l, 1) := by decide +kernel
theorem dX6_span_64 : decode cX6_span 64 = .ok (.goto 13, 3) := by decide +kernel
theorem dX6_span_67 : decode cX6_span 67 = .ok (.aload_n 0, 1) := by decide +kernel
theorem dX6_span_68 : decode cX6_span 68 = .ok (.iload_n 2, 1) := by decide +kernel
theorem dX6_span_69 : decode cX6_span 69 = .ok (.iload_n 1, 1) := by decide +kernel
theorem dX6_span_70 : decode cX6_span 70 = .ok (.iconst 1, 1) := by decide +kernel
theorem dX6_span_71 : decode cX6_span 71 = .ok (.iload 4, 2) := by decide +kernel
theorem dX6_span_73 : decode cX6_span 73 = .ok (.isub, 1) := by decide +kernel
theorem dX6_span_74 : decode cX6_span 74 = .ok (.invokevirtual 210, 3) := by decide +kernel
theorem dX6_span_77 : decode cX6_span 77 = .ok (.lreturn, 1) := by decide +kernel
theorem dX6_joined_0 : decode cX6_joined 0 = .ok (.iload_n 1, 1) := by decide +kernel
theorem dX6_joined_1 : decode cX6_joined 1 = .ok (.invokestatic 55, 3) := by decide +kernel
theorem dX6_joined_4 : decode cX6_joined 4 = .ok (.ifCond .ne 5, 3) := by decide +kernel
theorem dX6_joined_7 : decode cX6_joined 7 = .ok (.iconst (-1), 1) := by decide +kernel
theorem dX6_joined_8 : decode cX6_joined 8 = .ok (.ireturn, 1) := by decide +kernel
theorem dX6_joined_9 : decode cX6_joined 9 = .ok (.aload_n 0, 1) := by decide +kernel
theorem dX6_joined_10 : decode cX6_joined 10 = .ok (.invokevirtual 130, 3) := by decide +kernel
theorem dX6_joined_13 : decode cX6_joined 13 = .ok (.aload_n 0, 1) := by decide +kernel
theorem dX6_joined_14 : decode cX6_joined 14 = .ok (.getfield 26, 3) := by decide +kernel
theorem dX6_joined_17 : decode cX6_joined 17 = .ok (.getfield 134, 3) := by decide +kernel
theorem dX6_joined_20 : decode cX6_joined 20 = .ok (.ifCond .le 6, 3) := by decide +kernel
theorem dX6_joined_23 : decode cX6_joined 23 = .ok (.bipush (-3), 2) := by decide +kernel
theorem dX6_joined_25 : decode cX6_joined 25 = .ok (.ireturn, 1) := by decide +kernel
theorem dX6_joined_26 : decode cX6_joined 26 = .ok (.aload_n 0, 1) := by decide +kernel
theorem dX6_joined_27 : decode cX6_joined 27 = .ok (.getfield 33, 3) := by decide +kernel
theorem dX6_joined_30 : decode cX6_joined 30 = .ok (.aload_n 0, 1) := by decide +kernel
theorem dX6_joined_31 : decode cX6_joined 31 = .ok (.getfield 12, 3) := by decide +kernel
theorem dX6_joined_34 : decode cX6_joined 34 = .ok (.invokevirtual 214, 3) := by decide +kernel
theorem dX6_joined_37 : decode cX6_joined 37 = .ok (.aload_n 0, 1) := by decide +kernel
theorem dX6_joined_38 : decode cX6_joined 38 = .ok (.getfield 33, 3) := by decide +kernel
theorem dX6_joined_41 : decode cX6_joined 41 = .ok (.iload_n 1, 1) := by decide +kernel
theorem dX6_joined_42 : decode cX6_joined 42 = .ok (.invokevirtual 218, 3) := by decide +kernel
theorem dX6_joined_45 : decode cX6_joined 45 = .ok (.ireturn, 1) := by decide +kernel
theorem dX6_parts_0 : decode cX6_parts 0 = .ok (.aload_n 0, 1) := by decide +kernel
theorem dX6_parts_1 : decode cX6_parts 1 = .ok (.invokevirtual 130, 3) := by decide +kernel
theorem dX6_parts_4 : decode cX6_parts 4 = .ok (.aload_n 0, 1) := by decide +kernel
theorem dX6_parts_5 : decode cX6_parts 5 = .ok (.getfield 26, 3) := by decide +kernel
theorem dX6_parts_8 : decode cX6_parts 8 = .ok (.getfield 134, 3) := by decide +kernel
theorem dX6_parts_11 : decode cX6_parts 11 = .ok (.ifCond .le 6, 3) := by decide +kernel
theorem dX6_parts_14 : decode cX6_parts 14 = .ok (.bipush (-3), 2) := by decide +kernel
theorem dX6_parts_16 : decode cX6_parts 16 = .ok (.ireturn, 1) := by decide +kernel
theorem dX6_parts_17 : decode cX6_parts 17 = .ok (.aload_n 0, 1) := by decide +kernel
theorem dX6_parts_18 : decode cX6_parts 18 = .ok (.getfield 33, 3) := by decide +kernel
theorem dX6_parts_21 : decode cX6_parts 21 = .ok (.aload_n 0, 1) := by decide +kernel
theorem dX6_parts_22 : decode cX6_parts 22 = .ok (.getfield 12, 3) := by decide +kernel
theorem dX6_parts_25 : decode cX6_parts 25 = .ok (.invokevirtual 214, 3) := by decide +kernel
theorem dX6_parts_28 : decode cX6_parts 28 = .ok (.aload_n 0, 1) := by decide +kernel
theorem dX6_parts_29 : decode cX6_parts 29 = .ok (.getfield 33, 3) := by decide +kernel
theorem dX6_parts_32 : decode cX6_parts 32 = .ok (.invokevirtual 221, 3) := by decide +kernel
theorem dX6_parts_35 : decode cX6_parts 35 = .ok (.ireturn, 1) := by decide +kernel
theorem dX6_worth_0 : decode cX6_worth 0 = .ok (.iload_n 1, 1) := by decide +kernel
theorem dX6_worth_1 : decode cX6_worth 1 = .ok (.invokestatic 55, 3) := by decide +kernel
theorem dX6_worth_4 : decode cX6_worth 4 = .ok (.ifCond .ne 5, 3) := by decide +kernel
theorem dX6_worth_7 : decode cX6_worth 7 = .ok (.iconst (-1), 1) := by decide +kernel
theorem dX6_worth_8 : decode cX6_worth 8 = .ok (.ireturn, 1) := by decide +kernel
theorem dX6_worth_9 : decode cX6_worth 9 = .ok (.iload_n 2, 1) := by decide +kernel
theorem dX6_worth_10 : decode cX6_worth 10 = .ok (.iconst 1, 1) := by decide +kernel
theorem dX6_worth_11 : decode cX6_worth 11 = .ok (.ldc 105, 2) := by decide +kernel
theorem dX6_worth_13 : decode cX6_worth 13 = .ok (.invokestatic 59, 3) := by decide +kernel
theorem dX6_worth_16 : decode cX6_worth 16 = .ok (.ifCond .ne 6, 3) := by decide +kernel
theorem dX6_worth_19 : decode cX6_worth 19 = .ok (.bipush (-2), 2) := by decide +kernel
theorem dX6_worth_21 : decode cX6_worth 21 = .ok (.ireturn, 1) := by decide +kernel
theorem dX6_worth_22 : decode cX6_worth 22 = .ok (.aload_n 0, 1) := by decide +kernel
theorem dX6_worth_23 : decode cX6_worth 23 = .ok (.getfield 51, 3) := by decide +kernel
theorem dX6_worth_26 : decode cX6_worth 26 = .ok (.iload_n 1, 1) := by decide +kernel
theorem dX6_worth_27 : decode cX6_worth 27 = .ok (.iaload, 1) := by decide +kernel
theorem dX6_worth_28 : decode cX6_worth 28 = .ok (.istore_n 3, 1) := by decide +kernel
theorem dX6_worth_29 : decode cX6_worth 29 = .ok (.aload_n 0, 1) := by decide +kernel
theorem dX6_worth_30 : decode cX6_worth 30 = .ok (.getfield 51, 3) := by decide +kernel
theorem dX6_worth_33 : decode cX6_worth 33 = .ok (.iload_n 1, 1) := by decide +kernel
theorem dX6_worth_34 : decode cX6_worth 34 = .ok (.iload_n 2, 1) := by decide +kernel
theorem dX6_worth_35 : decode cX6_worth 35 = .ok (.iastore, 1) := by decide +kernel
theorem dX6_worth_36 : decode cX6_worth 36 = .ok (.iload_n 3, 1) := by decide +kernel
theorem dX6_worth_37 : decode cX6_worth 37 = .ok (.ireturn, 1) := by decide +kernel
theorem dX6_off_0 : decode cX6_off 0 = .ok (.iload_n 1, 1) := by decide +kernel
theorem dX6_off_1 : decode cX6_off 1 = .ok (.iconst 0, 1) := by decide +kernel
theorem dX6_off_2 : decode cX6_off 2 = .ok (.iconst 3, 1) := by decide +kernel
end
section
theorem dX6_off_3 : decode cX6_off 3 = .ok (.invokestatic 59, 3) := by decide +kernel
theorem dX6_off_6 : decode cX6_off 6 = .ok (.ifCond .ne 6, 3) := by decide +kernel
theorem dX6_off_9 : decode cX6_off 9 = .ok (.bipush (-2), 2) := by decide +kernel
theorem dX6_off_11 : decode cX6_off 11 = .ok (.ireturn, 1) := by decide +kernel
theorem dX6_off_12 : decode cX6_off 12 = .ok (.iconst 0, 1) := by decide +kernel
theorem dX6_off_13 : decode cX6_off 13 = .ok (.istore_n 2, 1) := by decide +kernel
theorem dX6_off_14 : decode cX6_off 14 = .ok (.bipush (-6), 2) := by decide +kernel
theorem dX6_off_16 : decode cX6_off 16 = .ok (.istore_n 3, 1) := by decide +kernel
theorem dX6_off_17 : decode cX6_off 17 = .ok (.iconst 0, 1) := by decide +kernel
theorem dX6_off_18 : decode cX6_off 18 = .ok (.istore 4, 2) := by decide +kernel
theorem dX6_off_20 : decode cX6_off 20 = .ok (.iconst 0, 1) := by decide +kernel
theorem dX6_off_21 : decode cX6_off 21 = .ok (.istore 5, 2) := by decide +kernel
theorem dX6_off_23 : decode cX6_off 23 = .ok (.iload 5, 2) := by decide +kernel
theorem dX6_off_25 : decode cX6_off 25 = .ok (.aload_n 0, 1) := by decide +kernel
theorem dX6_off_26 : decode cX6_off 26 = .ok (.getfield 12, 3) := by decide +kernel
theorem dX6_off_29 : decode cX6_off 29 = .ok (.getfield 63, 3) := by decide +kernel
theorem dX6_off_32 : decode cX6_off 32 = .ok (.if_icmp .ge 59, 3) := by decide +kernel
theorem dX6_off_35 : decode cX6_off 35 = .ok (.aload_n 0, 1) := by decide +kernel
theorem dX6_off_36 : decode cX6_off 36 = .ok (.getfield 12, 3) := by decide +kernel
theorem dX6_off_39 : decode cX6_off 39 = .ok (.iload 5, 2) := by decide +kernel
theorem dX6_off_41 : decode cX6_off 41 = .ok (.invokevirtual 98, 3) := by decide +kernel
theorem dX6_off_44 : decode cX6_off 44 = .ok (.ifCond .eq 12, 3) := by decide +kernel
theorem dX6_off_47 : decode cX6_off 47 = .ok (.aload_n 0, 1) := by decide +kernel
theorem dX6_off_48 : decode cX6_off 48 = .ok (.iload 5, 2) := by decide +kernel
theorem dX6_off_50 : decode cX6_off 50 = .ok (.invokevirtual 224, 3) := by decide +kernel
theorem dX6_off_53 : decode cX6_off 53 = .ok (.goto 4, 3) := by decide +kernel
theorem dX6_off_56 : decode cX6_off 56 = .ok (.iconst 0, 1) := by decide +kernel
theorem dX6_off_57 : decode cX6_off 57 = .ok (.istore 6, 2) := by decide +kernel
theorem dX6_off_59 : decode cX6_off 59 = .ok (.iload 6, 2) := by decide +kernel
theorem dX6_off_61 : decode cX6_off 61 = .ok (.ifCond .le 12, 3) := by decide +kernel
theorem dX6_off_64 : decode cX6_off 64 = .ok (.iload 4, 2) := by decide +kernel
theorem dX6_off_66 : decode cX6_off 66 = .ok (.iconst 1, 1) := by decide +kernel
theorem dX6_off_67 : decode cX6_off 67 = .ok (.iload 5, 2) := by decide +kernel
theorem dX6_off_69 : decode cX6_off 69 = .ok (.ishl, 1) := by decide +kernel
theorem dX6_off_70 : decode cX6_off 70 = .ok (.ior, 1) := by decide +kernel
theorem dX6_off_71 : decode cX6_off 71 = .ok (.istore 4, 2) := by decide +kernel
theorem dX6_off_73 : decode cX6_off 73 = .ok (.iload 6, 2) := by decide +kernel
theorem dX6_off_75 : decode cX6_off 75 = .ok (.iload_n 2, 1) := by decide +kernel
theorem dX6_off_76 : decode cX6_off 76 = .ok (.if_icmp .le 9, 3) := by decide +kernel
theorem dX6_off_79 : decode cX6_off 79 = .ok (.iload 6, 2) := by decide +kernel
theorem dX6_off_81 : decode cX6_off 81 = .ok (.istore_n 2, 1) := by decide +kernel
theorem dX6_off_82 : decode cX6_off 82 = .ok (.iload 5, 2) := by decide +kernel
theorem dX6_off_84 : decode cX6_off 84 = .ok (.istore_n 3, 1) := by decide +kernel
theorem dX6_off_85 : decode cX6_off 85 = .ok (.iinc 5 1, 3) := by decide +kernel
theorem dX6_off_88 : decode cX6_off 88 = .ok (.goto (-65), 3) := by decide +kernel
theorem dX6_off_91 : decode cX6_off 91 = .ok (.iload_n 1, 1) := by decide +kernel
theorem dX6_off_92 : decode cX6_off 92 = .ok (.tableswitch 43 0 2 #[28, 30, 32], 28) := by decide +kernel
theorem dX6_off_120 : decode cX6_off 120 = .ok (.iload_n 2, 1) := by decide +kernel
theorem dX6_off_121 : decode cX6_off 121 = .ok (.ireturn, 1) := by decide +kernel
theorem dX6_off_122 : decode cX6_off 122 = .ok (.iload_n 3, 1) := by decide +kernel
theorem dX6_off_123 : decode cX6_off 123 = .ok (.ireturn, 1) := by decide +kernel
theorem dX6_off_124 : decode cX6_off 124 = .ok (.iload 4, 2) := by decide +kernel
theorem dX6_off_126 : decode cX6_off 126 = .ok (.ifCond .ne 7, 3) := by decide +kernel
theorem dX6_off_129 : decode cX6_off 129 = .ok (.iconst 1, 1) := by decide +kernel
theorem dX6_off_130 : decode cX6_off 130 = .ok (.goto 4, 3) := by decide +kernel
theorem dX6_off_133 : decode cX6_off 133 = .ok (.iconst 0, 1) := by decide +kernel
theorem dX6_off_134 : decode cX6_off 134 = .ok (.ireturn, 1) := by decide +kernel
theorem dX6_off_135 : decode cX6_off 135 = .ok (.iload 4, 2) := by decide +kernel
theorem dX6_off_137 : decode cX6_off 137 = .ok (.ireturn, 1) := by decide +kernel
theorem dX6_walk_0 : decode cX6_walk 0 = .ok (.iload_n 1, 1) := by decide +kernel
theorem dX6_walk_1 : decode cX6_walk 1 = .ok (.invokestatic 55, 3) := by decide +kernel
theorem dX6_walk_4 : decode cX6_walk 4 = .ok (.ifCond .eq 10, 3) := by decide +kernel
theorem dX6_walk_7 : decode cX6_walk 7 = .ok (.iload_n 3, 1) := by decide +kernel
theorem dX6_walk_8 : decode cX6_walk 8 = .ok (.invokestatic 55, 3) := by decide +kernel
theorem dX6_walk_11 : decode cX6_walk 11 = .ok (.ifCond .ne 5, 3) := by decide +kernel
theorem dX6_walk_14 : decode cX6_walk 14 = .ok (.iconst (-1), 1) := by decide +kernel
theorem dX6_walk_15 : decode cX6_walk 15 = .ok (.ireturn, 1) := by decide +kernel
theorem dX6_walk_16 : decode cX6_walk 16 = .ok (.iload_n 2, 1) := by decide +kernel
theorem dX6_walk_17 : decode cX6_walk 17 = .ok (.iconst 0, 1) := by decide +kernel
theorem dX6_walk_18 : decode cX6_walk 18 = .ok (.ldc 105, 2) := by decide +kernel
theorem dX6_walk_20 : decode cX6_walk 20 = .ok (.invokestatic 59, 3) := by decide +kernel
theorem dX6_walk_23 : decode cX6_walk 23 = .ok (.ifCond .eq 13, 3) := by decide +kernel
theorem dX6_walk_26 : decode cX6_walk 26 = .ok (.iload 4, 2) := by decide +kernel
theorem dX6_walk_28 : decode cX6_walk 28 = .ok (.iconst 0, 1) := by decide +kernel
theorem dX6_walk_29 : decode cX6_walk 29 = .ok (.iconst 5, 1) := by decide +kernel
theorem dX6_walk_30 : decode cX6_walk 30 = .ok (.invokestatic 59, 3) := by decide +kernel
theorem dX6_walk_33 : decode cX6_walk 33 = .ok (.ifCond .ne 6, 3) := by decide +kernel
theorem dX6_walk_36 : decode cX6_walk 36 = .ok (.bipush (-2), 2) := by decide +kernel
theorem dX6_walk_38 : decode cX6_walk 38 = .ok (.ireturn, 1) := by decide +kernel
theorem dX6_walk_39 : decode cX6_walk 39 = .ok (.aload_n 0, 1) := by decide +kernel
theorem dX6_walk_40 : decode cX6_walk 40 = .ok (.getfield 40, 3) := by decide +kernel
theorem dX6_walk_43 : decode cX6_walk 43 = .ok (.aload_n 0, 1) := by decide +kernel
theorem dX6_walk_44 : decode cX6_walk 44 = .ok (.getfield 12, 3) := by decide +kernel
theorem dX6_walk_47 : decode cX6_walk 47 = .ok (.iload_n 1, 1) := by decide +kernel
theorem dX6_walk_48 : decode cX6_walk 48 = .ok (.iload_n 2, 1) := by decide +kernel
theorem dX6_walk_49 : decode cX6_walk 49 = .ok (.iload 4, 2) := by decide +kernel
theorem dX6_walk_51 : decode cX6_walk 51 = .ok (.invokevirtual 227, 3) := by decide +kernel
theorem dX6_walk_54 : decode cX6_walk 54 = .ok (.aload_n 0, 1) := by decide +kernel
theorem dX6_walk_55 : decode cX6_walk 55 = .ok (.getfield 40, 3) := by decide +kernel
theorem dX6_walk_58 : decode cX6_walk 58 = .ok (.iload_n 3, 1) := by decide +kernel
theorem dX6_walk_59 : decode cX6_walk 59 = .ok (.iload 4, 2) := by decide +kernel
theorem dX6_walk_61 : decode cX6_walk 61 = .ok (.invokevirtual 231, 3) := by decide +kernel
theorem dX6_walk_64 : decode cX6_walk 64 = .ok (.istore 6, 2) := by decide +kernel
theorem dX6_walk_66 : decode cX6_walk 66 = .ok (.iload 5, 2) := by decide +kernel
theorem dX6_walk_68 : decode cX6_walk 68 = .ok (.iconst (-1), 1) := by decide +kernel
theorem dX6_walk_69 : decode cX6_walk 69 = .ok (.if_icmp .ne 25, 3) := by decide +kernel
theorem dX6_walk_72 : decode cX6_walk 72 = .ok (.iload 6, 2) := by decide +kernel
theorem dX6_walk_74 : decode cX6_walk 74 = .ok (.ifCond .ge 7, 3) := by decide +kernel
theorem dX6_walk_77 : decode cX6_walk 77 = .ok (.iconst 0, 1) := by decide +kernel
theorem dX6_walk_78 : decode cX6_walk 78 = .ok (.goto 15, 3) := by decide +kernel
theorem dX6_walk_81 : decode cX6_walk 81 = .ok (.aload_n 0, 1) := by decide +kernel
theorem dX6_walk_82 : decode cX6_walk 82 = .ok (.getfield 40, 3) := by decide +kernel
theorem dX6_walk_85 : decode cX6_walk 85 = .ok (.getfield 234, 3) := by decide +kernel
theorem dX6_walk_88 : decode cX6_walk 88 = .ok (.iload 6, 2) := by decide +kernel
theorem dX6_walk_90 : decode cX6_walk 90 = .ok (.aaload, 1) := by decide +kernel
theorem dX6_walk_91 : decode cX6_walk 91 = .ok (.iload_n 3, 1) := by decide +kernel
theorem dX6_walk_92 : decode cX6_walk 92 = .ok (.iaload, 1) := by decide +kernel
theorem dX6_walk_93 : decode cX6_walk 93 = .ok (.ireturn, 1) := by decide +kernel
theorem dX6_walk_94 : decode cX6_walk 94 = .ok (.iload 5, 2) := by decide +kernel
theorem dX6_walk_96 : decode cX6_walk 96 = .ok (.bipush (-2), 2) := by decide +kernel
theorem dX6_walk_98 : decode cX6_walk 98 = .ok (.if_icmp .ne 16, 3) := by decide +kernel
theorem dX6_walk_101 : decode cX6_walk 101 = .ok (.iload 6, 2) := by decide +kernel
theorem dX6_walk_103 : decode cX6_walk 103 = .ok (.ifCond .ge 8, 3) := by decide +kernel
theorem dX6_walk_106 : decode cX6_walk 106 = .ok (.bipush (-6), 2) := by decide +kernel
theorem dX6_walk_108 : decode cX6_walk 108 = .ok (.goto 5, 3) := by decide +kernel
theorem dX6_walk_111 : decode cX6_walk 111 = .ok (.iload 6, 2) := by decide +kernel
theorem dX6_walk_113 : decode cX6_walk 113 = .ok (.ireturn, 1) := by decide +kernel
theorem dX6_walk_114 : decode cX6_walk 114 = .ok (.iload 5, 2) := by decide +kernel
theorem dX6_walk_116 : decode cX6_walk 116 = .ok (.ifCond .lt 10, 3) := by decide +kernel
theorem dX6_walk_119 : decode cX6_walk 119 = .ok (.iload 5, 2) := by decide +kernel
theorem dX6_walk_121 : decode cX6_walk 121 = .ok (.iload 6, 2) := by decide +kernel
theorem dX6_walk_123 : decode cX6_walk 123 = .ok (.if_icmp .lt 6, 3) := by decide +kernel
theorem dX6_walk_126 : decode cX6_walk 126 = .ok (.bipush (-6), 2) := by decide +kernel
theorem dX6_walk_128 : decode cX6_walk 128 = .ok (.ireturn, 1) := by decide +kernel
theorem dX6_walk_129 : decode cX6_walk 129 = .ok (.aload_n 0, 1) := by decide +kernel
theorem dX6_walk_130 : decode cX6_walk 130 = .ok (.getfield 40, 3) := by decide +kernel
theorem dX6_walk_133 : decode cX6_walk 133 = .ok (.aload_n 0, 1) := by decide +kernel
theorem dX6_walk_134 : decode cX6_walk 134 = .ok (.getfield 12, 3) := by decide +kernel
theorem dX6_walk_137 : decode cX6_walk 137 = .ok (.iload_n 3, 1) := by decide +kernel
theorem dX6_walk_138 : decode cX6_walk 138 = .ok (.iload 6, 2) := by decide +kernel
theorem dX6_walk_140 : decode cX6_walk 140 = .ok (.invokevirtual 237, 3) := by decide +kernel
theorem dX6_walk_143 : decode cX6_walk 143 = .ok (.aload_n 0, 1) := by decide +kernel
theorem dX6_walk_144 : decode cX6_walk 144 = .ok (.getfield 40, 3) := by decide +kernel
theorem dX6_walk_147 : decode cX6_walk 147 = .ok (.aload_n 0, 1) := by decide +kernel
theorem dX6_walk_148 : decode cX6_walk 148 = .ok (.getfield 12, 3) := by decide +kernel
theorem dX6_walk_151 : decode cX6_walk 151 = .ok (.iload_n 1, 1) := by decide +kernel
theorem dX6_walk_152 : decode cX6_walk 152 = .ok (.iload_n 2, 1) := by decide +kernel
theorem dX6_walk_153 : decode cX6_walk 153 = .ok (.iload 5, 2) := by decide +kernel
theorem dX6_walk_155 : decode cX6_walk 155 = .ok (.invokevirtual 241, 3) := by decide +kernel
theorem dX6_walk_158 : decode cX6_walk 158 = .ok (.ireturn, 1) := by decide +kernel
theorem dX6_walkers_0 : decode cX6_walkers 0 = .ok (.iload_n 1, 1) := by decide +kernel
theorem dX6_walkers_1 : decode cX6_walkers 1 = .ok (.iconst (-1), 1) := by decide +kernel
theorem dX6_walkers_2 : decode cX6_walkers 2 = .ok (.if_icmp .eq 16, 3) := by decide +kernel
theorem dX6_walkers_5 : decode cX6_walkers 5 = .ok (.aload_n 0, 1) := by decide +kernel
theorem dX6_walkers_6 : decode cX6_walkers 6 = .ok (.getfield 12, 3) := by decide +kernel
theorem dX6_walkers_9 : decode cX6_walkers 9 = .ok (.iload_n 1, 1) := by decide +kernel
theorem dX6_walkers_10 : decode cX6_walkers 10 = .ok (.invokevirtual 74, 3) := by decide +kernel
theorem dX6_walkers_13 : decode cX6_walkers 13 = .ok (.ifCond .ne 5, 3) := by decide +kernel
theorem dX6_walkers_16 : decode cX6_walkers 16 = .ok (.iconst (-1), 1) := by decide +kernel
theorem dX6_walkers_17 : decode cX6_walkers 17 = .ok (.ireturn, 1) := by decide +kernel
theorem dX6_walkers_18 : decode cX6_walkers 18 = .ok (.aload_n 0, 1) := by decide +kernel
theorem dX6_walkers_19 : decode cX6_walkers 19 = .ok (.invokevirtual 130, 3) := by decide +kernel
theorem dX6_walkers_22 : decode cX6_walkers 22 = .ok (.aload_n 0, 1) := by decide +kernel
theorem dX6_walkers_23 : decode cX6_walkers 23 = .ok (.getfield 47, 3) := by decide +kernel
theorem dX6_walkers_26 : decode cX6_walkers 26 = .ok (.getfield 245, 3) := by decide +kernel
theorem dX6_walkers_29 : decode cX6_walkers 29 = .ok (.ifCond .ne 18, 3) := by decide +kernel
theorem dX6_walkers_32 : decode cX6_walkers 32 = .ok (.aload_n 0, 1) := by decide +kernel
theorem dX6_walkers_33 : decode cX6_walkers 33 = .ok (.getfield 47, 3) := by decide +kernel
theorem dX6_walkers_36 : decode cX6_walkers 36 = .ok (.aload_n 0, 1) := by decide +kernel
theorem dX6_walkers_37 : decode cX6_walkers 37 = .ok (.getfield 12, 3) := by decide +kernel
theorem dX6_walkers_40 : decode cX6_walkers 40 = .ok (.aload_n 0, 1) := by decide +kernel
theorem dX6_walkers_41 : decode cX6_walkers 41 = .ok (.getfield 26, 3) := by decide +kernel
theorem dX6_walkers_44 : decode cX6_walkers 44 = .ok (.invokevirtual 249, 3) := by decide +kernel
theorem dX6_walkers_47 : decode cX6_walkers 47 = .ok (.iload_n 1, 1) := by decide +kernel
theorem dX6_walkers_48 : decode cX6_walkers 48 = .ok (.iconst (-1), 1) := by decide +kernel
theorem dX6_walkers_49 : decode cX6_walkers 49 = .ok (.if_icmp .ne 13, 3) := by decide +kernel
theorem dX6_walkers_52 : decode cX6_walkers 52 = .ok (.aload_n 0, 1) := by decide +kernel
theorem dX6_walkers_53 : decode cX6_walkers 53 = .ok (.getfield 47, 3) := by decide +kernel
theorem dX6_walkers_56 : decode cX6_walkers 56 = .ok (.getfield 253, 3) := by decide +kernel
theorem dX6_walkers_59 : decode cX6_walkers 59 = .ok (.goto 12, 3) := by decide +kernel
theorem dX6_walkers_62 : decode cX6_walkers 62 = .ok (.aload_n 0, 1) := by decide +kernel
theorem dX6_walkers_63 : decode cX6_walkers 63 = .ok (.getfield 47, 3) := by decide +kernel
theorem dX6_walkers_66 : decode cX6_walkers 66 = .ok (.getfield 256, 3) := by decide +kernel
theorem dX6_walkers_69 : decode cX6_walkers 69 = .ok (.iload_n 1, 1) := by decide +kernel
theorem dX6_walkers_70 : decode cX6_walkers 70 = .ok (.iaload, 1) := by decide +kernel
theorem dX6_walkers_71 : decode cX6_walkers 71 = .ok (.ireturn, 1) := by decide +kernel
theorem dX6_told_0 : decode cX6_told 0 = .ok (.iload_n 1, 1) := by decide +kernel
theorem dX6_told_1 : decode cX6_told 1 = .ok (.tableswitch 93 0 5 #[39, 47, 55, 63, 73, 83], 39) := by decide +kernel
theorem dX6_told_40 : decode cX6_told 40 = .ok (.aload_n 0, 1) := by decide +kernel
theorem dX6_told_41 : decode cX6_told 41 = .ok (.getfield 12, 3) := by decide +kernel
theorem dX6_told_44 : decode cX6_told 44 = .ok (.getfield 63, 3) := by decide +kernel
theorem dX6_told_47 : decode cX6_told 47 = .ok (.ireturn, 1) := by decide +kernel
theorem dX6_told_48 : decode cX6_told 48 = .ok (.aload_n 0, 1) := by decide +kernel
theorem dX6_told_49 : decode cX6_told 49 = .ok (.getfield 19, 3) := by decide +kernel
theorem dX6_told_52 : decode cX6_told 52 = .ok (.getfield 115, 3) := by decide +kernel
theorem dX6_told_55 : decode cX6_told 55 = .ok (.ireturn, 1) := by decide +kernel
theorem dX6_told_56 : decode cX6_told 56 = .ok (.aload_n 0, 1) := by decide +kernel
theorem dX6_told_57 : decode cX6_told 57 = .ok (.getfield 12, 3) := by decide +kernel
theorem dX6_told_60 : decode cX6_told 60 = .ok (.invokevirtual 184, 3) := by decide +kernel
theorem dX6_told_63 : decode cX6_told 63 = .ok (.ireturn, 1) := by decide +kernel
theorem dX6_told_64 : decode cX6_told 64 = .ok (.aload_n 0, 1) := by decide +kernel
theorem dX6_told_65 : decode cX6_told 65 = .ok (.getfield 12, 3) := by decide +kernel
theorem dX6_told_68 : decode cX6_told 68 = .ok (.getfield 112, 3) := by decide +kernel
theorem dX6_told_71 : decode cX6_told 71 = .ok (.iconst 0, 1) := by decide +kernel
theorem dX6_told_72 : decode cX6_told 72 = .ok (.iaload, 1) := by decide +kernel
theorem dX6_told_73 : decode cX6_told 73 = .ok (.ireturn, 1) := by decide +kernel
theorem dX6_told_74 : decode cX6_told 74 = .ok (.aload_n 0, 1) := by decide +kernel
theorem dX6_told_75 : decode cX6_told 75 = .ok (.getfield 12, 3) := by decide +kernel
theorem dX6_told_78 : decode cX6_told 78 = .ok (.getfield 112, 3) := by decide +kernel
theorem dX6_told_81 : decode cX6_told 81 = .ok (.iconst 1, 1) := by decide +kernel
theorem dX6_told_82 : decode cX6_told 82 = .ok (.iaload, 1) := by decide +kernel
theorem dX6_told_83 : decode cX6_told 83 = .ok (.ireturn, 1) := by decide +kernel
theorem dX6_told_84 : decode cX6_told 84 = .ok (.aload_n 0, 1) := by decide +kernel
theorem dX6_told_85 : decode cX6_told 85 = .ok (.getfield 12, 3) := by decide +kernel
theorem dX6_told_88 : decode cX6_told 88 = .ok (.getfield 112, 3) := by decide +kernel
theorem dX6_told_91 : decode cX6_told 91 = .ok (.iconst 2, 1) := by decide +kernel
theorem dX6_told_92 : decode cX6_told 92 = .ok (.iaload, 1) := by decide +kernel
theorem dX6_told_93 : decode cX6_told 93 = .ok (.ireturn, 1) := by decide +kernel
theorem dX6_told_94 : decode cX6_told 94 = .ok (.bipush (-2), 2) := by decide +kernel
theorem dX6_told_96 : decode cX6_told 96 = .ok (.ireturn, 1) := by decide +kernel
theorem dX6_isCoin_0 : decode cX6_isCoin 0 = .ok (.iload_n 0, 1) := by decide +kernel
theorem dX6_isCoin_1 : decode cX6_isCoin 1 = .ok (.ifCond .lt 13, 3) := by decide +kernel
theorem dX6_isCoin_4 : decode cX6_isCoin 4 = .ok (.iload_n 0, 1) := by decide +kernel
theorem dX6_isCoin_5 : decode cX6_isCoin 5 = .ok (.bipush 8, 2) := by decide +kernel
theorem dX6_isCoin_7 : decode cX6_isCoin 7 = .ok (.if_icmp .ge 7, 3) := by decide +kernel
theorem dX6_isCoin_10 : decode cX6_isCoin 10 = .ok (.iconst 1, 1) := by decide +kernel
theorem dX6_isCoin_11 : decode cX6_isCoin 11 = .ok (.goto 4, 3) := by decide +kernel
theorem dX6_isCoin_14 : decode cX6_isCoin 14 = .ok (.iconst 0, 1) := by decide +kernel
theorem dX6_isCoin_15 : decode cX6_isCoin 15 = .ok (.ireturn, 1) := by decide +kernel
theorem dX6_isWithin_0 : decode cX6_isWithin 0 = .ok (.iload_n 0, 1) := by decide +kernel
theorem dX6_isWithin_1 : decode cX6_isWithin 1 = .ok (.iload_n 1, 1) := by decide +kernel
theorem dX6_isWithin_2 : decode cX6_isWithin 2 = .ok (.if_icmp .lt 12, 3) := by decide +kernel
theorem dX6_isWithin_5 : decode cX6_isWithin 5 = .ok (.iload_n 0, 1) := by decide +kernel
theorem dX6_isWithin_6 : decode cX6_isWithin 6 = .ok (.iload_n 2, 1) := by decide +kernel
theorem dX6_isWithin_7 : decode cX6_isWithin 7 = .ok (.if_icmp .gt 7, 3) := by decide +kernel
theorem dX6_isWithin_10 : decode cX6_isWithin 10 = .ok (.iconst 1, 1) := by decide +kernel
theorem dX6_isWithin_11 : decode cX6_isWithin 11 = .ok (.goto 4, 3) := by decide +kernel
theorem dX6_isWithin_14 : decode cX6_isWithin 14 = .ok (.iconst 0, 1) := by decide +kernel
theorem dX6_isWithin_15 : decode cX6_isWithin 15 = .ok (.ireturn, 1) := by decide +kernel
theorem dX6_rateUpper_0 : decode cX6_rateUpper 0 = .ok (.iload_n 0, 1) := by decide +kernel
theorem dX6_rateUpper_1 : decode cX6_rateUpper 1 = .ok (.iload_n 1, 1) := by decide +kernel
theorem dX6_rateUpper_2 : decode cX6_rateUpper 2 = .ok (.isub, 1) := by decide +kernel
theorem dX6_rateUpper_3 : decode cX6_rateUpper 3 = .ok (.iconst 1, 1) := by decide +kernel
theorem dX6_rateUpper_4 : decode cX6_rateUpper 4 = .ok (.if_icmp .ge 7, 3) := by decide +kernel
theorem dX6_rateUpper_7 : decode cX6_rateUpper 7 = .ok (.iconst 1, 1) := by decide +kernel
theorem dX6_rateUpper_8 : decode cX6_rateUpper 8 = .ok (.goto 6, 3) := by decide +kernel
theorem dX6_rateUpper_11 : decode cX6_rateUpper 11 = .ok (.iload_n 0, 1) := by decide +kernel
theorem dX6_rateUpper_12 : decode cX6_rateUpper 12 = .ok (.iload_n 1, 1) := by decide +kernel
theorem dX6_rateUpper_13 : decode cX6_rateUpper 13 = .ok (.isub, 1) := by decide +kernel
theorem dX6_rateUpper_14 : decode cX6_rateUpper 14 = .ok (.ireturn, 1) := by decide +kernel
theorem dX6_greatestDivisor_0 : decode cX6_greatestDivisor 0 = .ok (.iconst 0, 1) := by decide +kernel
theorem dX6_greatestDivisor_1 : decode cX6_greatestDivisor 1 = .ok (.istore 4, 2) := by decide +kernel
theorem dX6_greatestDivisor_3 : decode cX6_greatestDivisor 3 = .ok (.iload 4, 2) := by decide +kernel
theorem dX6_greatestDivisor_5 : decode cX6_greatestDivisor 5 = .ok (.bipush 100, 2) := by decide +kernel
theorem dX6_greatestDivisor_7 : decode cX6_greatestDivisor 7 = .ok (.if_icmp .ge 25, 3) := by decide +kernel
theorem dX6_greatestDivisor_10 : decode cX6_greatestDivisor 10 = .ok (.lload_n 2, 1) := by decide +kernel
theorem dX6_greatestDivisor_11 : decode cX6_greatestDivisor 11 = .ok (.lconst 0, 1) := by decide +kernel
theorem dX6_greatestDivisor_12 : decode cX6_greatestDivisor 12 = .ok (.lcmp, 1) := by decide +kernel
theorem dX6_greatestDivisor_13 : decode cX6_greatestDivisor 13 = .ok (.ifCond .eq 19, 3) := by decide +kernel
theorem dX6_greatestDivisor_16 : decode cX6_greatestDivisor 16 = .ok (.lload_n 0, 1) := by decide +kernel
theorem dX6_greatestDivisor_17 : decode cX6_greatestDivisor 17 = .ok (.lload_n 2, 1) := by decide +kernel
theorem dX6_greatestDivisor_18 : decode cX6_greatestDivisor 18 = .ok (.lrem, 1) := by decide +kernel
theorem dX6_greatestDivisor_19 : decode cX6_greatestDivisor 19 = .ok (.lstore 5, 2) := by decide +kernel
theorem dX6_greatestDivisor_21 : decode cX6_greatestDivisor 21 = .ok (.lload_n 2, 1) := by decide +kernel
theorem dX6_greatestDivisor_22 : decode cX6_greatestDivisor 22 = .ok (.lstore_n 0, 1) := by decide +kernel
theorem dX6_greatestDivisor_23 : decode cX6_greatestDivisor 23 = .ok (.lload 5, 2) := by decide +kernel
theorem dX6_greatestDivisor_25 : decode cX6_greatestDivisor 25 = .ok (.lstore_n 2, 1) := by decide +kernel
theorem dX6_greatestDivisor_26 : decode cX6_greatestDivisor 26 = .ok (.iinc 4 1, 3) := by decide +kernel
theorem dX6_greatestDivisor_29 : decode cX6_greatestDivisor 29 = .ok (.goto (-26), 3) := by decide +kernel
theorem dX6_greatestDivisor_32 : decode cX6_greatestDivisor 32 = .ok (.lload_n 0, 1) := by decide +kernel
theorem dX6_greatestDivisor_33 : decode cX6_greatestDivisor 33 = .ok (.lreturn, 1) := by decide +kernel
theorem dX6_inLowestTerms_0 : decode cX6_inLowestTerms 0 = .ok (.lload_n 2, 1) := by decide +kernel
theorem dX6_inLowestTerms_1 : decode cX6_inLowestTerms 1 = .ok (.lconst 1, 1) := by decide +kernel
theorem dX6_inLowestTerms_2 : decode cX6_inLowestTerms 2 = .ok (.lcmp, 1) := by decide +kernel
theorem dX6_inLowestTerms_3 : decode cX6_inLowestTerms 3 = .ok (.ifCond .ge 7, 3) := by decide +kernel
theorem dX6_inLowestTerms_6 : decode cX6_inLowestTerms 6 = .ok (.lload_n 0, 1) := by decide +kernel
theorem dX6_inLowestTerms_7 : decode cX6_inLowestTerms 7 = .ok (.goto 6, 3) := by decide +kernel
theorem dX6_inLowestTerms_10 : decode cX6_inLowestTerms 10 = .ok (.lload_n 0, 1) := by decide +kernel
theorem dX6_inLowestTerms_11 : decode cX6_inLowestTerms 11 = .ok (.lload_n 2, 1) := by decide +kernel
theorem dX6_inLowestTerms_12 : decode cX6_inLowestTerms 12 = .ok (.ldiv, 1) := by decide +kernel
theorem dX6_inLowestTerms_13 : decode cX6_inLowestTerms 13 = .ok (.lreturn, 1) := by decide +kernel
theorem dX6_isAbove_0 : decode cX6_isAbove 0 = .ok (.iconst 0, 1) := by decide +kernel
theorem dX6_isAbove_1 : decode cX6_isAbove 1 = .ok (.istore 8, 2) := by decide +kernel
theorem dX6_isAbove_3 : decode cX6_isAbove 3 = .ok (.iconst 0, 1) := by decide +kernel
theorem dX6_isAbove_4 : decode cX6_isAbove 4 = .ok (.istore 9, 2) := by decide +kernel
theorem dX6_isAbove_6 : decode cX6_isAbove 6 = .ok (.iload 9, 2) := by decide +kernel
theorem dX6_isAbove_8 : decode cX6_isAbove 8 = .ok (.bipush 100, 2) := by decide +kernel
theorem dX6_isAbove_10 : decode cX6_isAbove 10 = .ok (.if_icmp .ge 109, 3) := by decide +kernel
theorem dX6_isAbove_13 : decode cX6_isAbove 13 = .ok (.lload_n 2, 1) := by decide +kernel
theorem dX6_isAbove_14 : decode cX6_isAbove 14 = .ok (.lconst 0, 1) := by decide +kernel
theorem dX6_isAbove_15 : decode cX6_isAbove 15 = .ok (.lcmp, 1) := by decide +kernel
theorem dX6_isAbove_16 : decode cX6_isAbove 16 = .ok (.ifCond .eq 103, 3) := by decide +kernel
theorem dX6_isAbove_19 : decode cX6_isAbove 19 = .ok (.lload 6, 2) := by decide +kernel
theorem dX6_isAbove_21 : decode cX6_isAbove 21 = .ok (.lconst 0, 1) := by decide +kernel
theorem dX6_isAbove_22 : decode cX6_isAbove 22 = .ok (.lcmp, 1) := by decide +kernel
theorem dX6_isAbove_23 : decode cX6_isAbove 23 = .ok (.ifCond .eq 96, 3) := by decide +kernel
theorem dX6_isAbove_26 : decode cX6_isAbove 26 = .ok (.lload_n 0, 1) := by decide +kernel
theorem dX6_isAbove_27 : decode cX6_isAbove 27 = .ok (.lload_n 2, 1) := by decide +kernel
theorem dX6_isAbove_28 : decode cX6_isAbove 28 = .ok (.ldiv, 1) := by decide +kernel
theorem dX6_isAbove_29 : decode cX6_isAbove 29 = .ok (.lstore 10, 2) := by decide +kernel
theorem dX6_isAbove_31 : decode cX6_isAbove 31 = .ok (.lload 4, 2) := by decide +kernel
theorem dX6_isAbove_33 : decode cX6_isAbove 33 = .ok (.lload 6, 2) := by decide +kernel
theorem dX6_isAbove_35 : decode cX6_isAbove 35 = .ok (.ldiv, 1) := by decide +kernel
theorem dX6_isAbove_36 : decode cX6_isAbove 36 = .ok (.lstore 12, 2) := by decide +kernel
theorem dX6_isAbove_38 : decode cX6_isAbove 38 = .ok (.lload 10, 2) := by decide +kernel
theorem dX6_isAbove_40 : decode cX6_isAbove 40 = .ok (.lload 12, 2) := by decide +kernel
theorem dX6_isAbove_42 : decode cX6_isAbove 42 = .ok (.lcmp, 1) := by decide +kernel
theorem dX6_isAbove_43 : decode cX6_isAbove 43 = .ok (.ifCond .eq 27, 3) := by decide +kernel
theorem dX6_isAbove_46 : decode cX6_isAbove 46 = .ok (.lload 10, 2) := by decide +kernel
theorem dX6_isAbove_48 : decode cX6_isAbove 48 = .ok (.lload 12, 2) := by decide +kernel
theorem dX6_isAbove_50 : decode cX6_isAbove 50 = .ok (.lcmp, 1) := by decide +kernel
theorem dX6_isAbove_51 : decode cX6_isAbove 51 = .ok (.ifCond .le 7, 3) := by decide +kernel
theorem dX6_isAbove_54 : decode cX6_isAbove 54 = .ok (.iconst 1, 1) := by decide +kernel
theorem dX6_isAbove_55 : decode cX6_isAbove 55 = .ok (.goto 4, 3) := by decide +kernel
theorem dX6_isAbove_58 : decode cX6_isAbove 58 = .ok (.iconst 0, 1) := by decide +kernel
theorem dX6_isAbove_59 : decode cX6_isAbove 59 = .ok (.iload 8, 2) := by decide +kernel
theorem dX6_isAbove_61 : decode cX6_isAbove 61 = .ok (.if_icmp .eq 7, 3) := by decide +kernel
theorem dX6_isAbove_64 : decode cX6_isAbove 64 = .ok (.iconst 1, 1) := by decide +kernel
theorem dX6_isAbove_65 : decode cX6_isAbove 65 = .ok (.goto 4, 3) := by decide +kernel
theorem dX6_isAbove_68 : decode cX6_isAbove 68 = .ok (.iconst 0, 1) := by decide +kernel
theorem dX6_isAbove_69 : decode cX6_isAbove 69 = .ok (.ireturn, 1) := by decide +kernel
theorem dX6_isAbove_70 : decode cX6_isAbove 70 = .ok (.lload_n 0, 1) := by decide +kernel
theorem dX6_isAbove_71 : decode cX6_isAbove 71 = .ok (.lload 10, 2) := by decide +kernel
theorem dX6_isAbove_73 : decode cX6_isAbove 73 = .ok (.lload_n 2, 1) := by decide +kernel
theorem dX6_isAbove_74 : decode cX6_isAbove 74 = .ok (.lmul, 1) := by decide +kernel
theorem dX6_isAbove_75 : decode cX6_isAbove 75 = .ok (.lsub, 1) := by decide +kernel
theorem dX6_isAbove_76 : decode cX6_isAbove 76 = .ok (.lstore 14, 2) := by decide +kernel
theorem dX6_isAbove_78 : decode cX6_isAbove 78 = .ok (.lload 4, 2) := by decide +kernel
theorem dX6_isAbove_80 : decode cX6_isAbove 80 = .ok (.lload 12, 2) := by decide +kernel
theorem dX6_isAbove_82 : decode cX6_isAbove 82 = .ok (.lload 6, 2) := by decide +kernel
theorem dX6_isAbove_84 : decode cX6_isAbove 84 = .ok (.lmul, 1) := by decide +kernel
theorem dX6_isAbove_85 : decode cX6_isAbove 85 = .ok (.lsub, 1) := by decide +kernel
theorem dX6_isAbove_86 : decode cX6_isAbove 86 = .ok (.lstore 16, 2) := by decide +kernel
theorem dX6_isAbove_88 : decode cX6_isAbove 88 = .ok (.lload_n 2, 1) := by decide +kernel
theorem dX6_isAbove_89 : decode cX6_isAbove 89 = .ok (.lstore_n 0, 1) := by decide +kernel
theorem dX6_isAbove_90 : decode cX6_isAbove 90 = .ok (.lload 14, 2) := by decide +kernel
theorem dX6_isAbove_92 : decode cX6_isAbove 92 = .ok (.lstore_n 2, 1) := by decide +kernel
theorem dX6_isAbove_93 : decode cX6_isAbove 93 = .ok (.lload 6, 2) := by decide +kernel
theorem dX6_isAbove_95 : decode cX6_isAbove 95 = .ok (.lstore 4, 2) := by decide +kernel
theorem dX6_isAbove_97 : decode cX6_isAbove 97 = .ok (.lload 16, 2) := by decide +kernel
theorem dX6_isAbove_99 : decode cX6_isAbove 99 = .ok (.lstore 6, 2) := by decide +kernel
theorem dX6_isAbove_101 : decode cX6_isAbove 101 = .ok (.iload 8, 2) := by decide +kernel
theorem dX6_isAbove_103 : decode cX6_isAbove 103 = .ok (.ifCond .ne 7, 3) := by decide +kernel
theorem dX6_isAbove_106 : decode cX6_isAbove 106 = .ok (.iconst 1, 1) := by decide +kernel
theorem dX6_isAbove_107 : decode cX6_isAbove 107 = .ok (.goto 4, 3) := by decide +kernel
theorem dX6_isAbove_110 : decode cX6_isAbove 110 = .ok (.iconst 0, 1) := by decide +kernel
theorem dX6_isAbove_111 : decode cX6_isAbove 111 = .ok (.istore 8, 2) := by decide +kernel
theorem dX6_isAbove_113 : decode cX6_isAbove 113 = .ok (.iinc 9 1, 3) := by decide +kernel
theorem dX6_isAbove_116 : decode cX6_isAbove 116 = .ok (.goto (-110), 3) := by decide +kernel
theorem dX6_isAbove_119 : decode cX6_isAbove 119 = .ok (.lload_n 2, 1) := by decide +kernel
theorem dX6_isAbove_120 : decode cX6_isAbove 120 = .ok (.lload 6, 2) := by decide +kernel
theorem dX6_isAbove_122 : decode cX6_isAbove 122 = .ok (.lcmp, 1) := by decide +kernel
theorem dX6_isAbove_123 : decode cX6_isAbove 123 = .ok (.ifCond .eq 23, 3) := by decide +kernel
theorem dX6_isAbove_126 : decode cX6_isAbove 126 = .ok (.lload_n 2, 1) := by decide +kernel
theorem dX6_isAbove_127 : decode cX6_isAbove 127 = .ok (.lconst 0, 1) := by decide +kernel
theorem dX6_isAbove_128 : decode cX6_isAbove 128 = .ok (.lcmp, 1) := by decide +kernel
theorem dX6_isAbove_129 : decode cX6_isAbove 129 = .ok (.ifCond .ne 7, 3) := by decide +kernel
theorem dX6_isAbove_132 : decode cX6_isAbove 132 = .ok (.iconst 1, 1) := by decide +kernel
theorem dX6_isAbove_133 : decode cX6_isAbove 133 = .ok (.goto 4, 3) := by decide +kernel
theorem dX6_isAbove_136 : decode cX6_isAbove 136 = .ok (.iconst 0, 1) := by decide +kernel
theorem dX6_isAbove_137 : decode cX6_isAbove 137 = .ok (.iload 8, 2) := by decide +kernel
theorem dX6_isAbove_139 : decode cX6_isAbove 139 = .ok (.if_icmp .eq 7, 3) := by decide +kernel
theorem dX6_isAbove_142 : decode cX6_isAbove 142 = .ok (.iconst 1, 1) := by decide +kernel
theorem dX6_isAbove_143 : decode cX6_isAbove 143 = .ok (.goto 4, 3) := by decide +kernel
theorem dX6_isAbove_146 : decode cX6_isAbove 146 = .ok (.iconst 0, 1) := by decide +kernel
theorem dX6_isAbove_147 : decode cX6_isAbove 147 = .ok (.ireturn, 1) := by decide +kernel
theorem dX6_forget_0 : decode cX6_forget 0 = .ok (.aload_n 0, 1) := by decide +kernel
theorem dX6_forget_1 : decode cX6_forget 1 = .ok (.getfield 26, 3) := by decide +kernel
theorem dX6_forget_4 : decode cX6_forget 4 = .ok (.iconst 0, 1) := by decide +kernel
theorem dX6_forget_5 : decode cX6_forget 5 = .ok (.putfield 257, 3) := by decide +kernel
theorem dX6_forget_8 : decode cX6_forget 8 = .ok (.aload_n 0, 1) := by decide +kernel
theorem dX6_forget_9 : decode cX6_forget 9 = .ok (.getfield 47, 3) := by decide +kernel
theorem dX6_forget_12 : decode cX6_forget 12 = .ok (.iconst 0, 1) := by decide +kernel
theorem dX6_forget_13 : decode cX6_forget 13 = .ok (.putfield 245, 3) := by decide +kernel
theorem dX6_forget_16 : decode cX6_forget 16 = .ok (.return_, 1) := by decide +kernel
theorem dX6_lookAround_0 : decode cX6_lookAround 0 = .ok (.aload_n 0, 1) := by decide +kernel
theorem dX6_lookAround_1 : decode cX6_lookAround 1 = .ok (.getfield 26, 3) := by decide +kernel
theorem dX6_lookAround_4 : decode cX6_lookAround 4 = .ok (.getfield 257, 3) := by decide +kernel
theorem dX6_lookAround_7 : decode cX6_lookAround 7 = .ok (.ifCond .ne 14, 3) := by decide +kernel
theorem dX6_lookAround_10 : decode cX6_lookAround 10 = .ok (.aload_n 0, 1) := by decide +kernel
theorem dX6_lookAround_11 : decode cX6_lookAround 11 = .ok (.getfield 26, 3) := by decide +kernel
theorem dX6_lookAround_14 : decode cX6_lookAround 14 = .ok (.aload_n 0, 1) := by decide +kernel
theorem dX6_lookAround_15 : decode cX6_lookAround 15 = .ok (.getfield 12, 3) := by decide +kernel
theorem dX6_lookAround_18 : decode cX6_lookAround 18 = .ok (.invokevirtual 258, 3) := by decide +kernel
theorem dX6_lookAround_21 : decode cX6_lookAround 21 = .ok (.return_, 1) := by decide +kernel
theorem dX6_refuseFraction_0 : decode cX6_refuseFraction 0 = .ok (.iload_n 1, 1) := by decide +kernel
theorem dX6_refuseFraction_1 : decode cX6_refuseFraction 1 = .ok (.invokestatic 55, 3) := by decide +kernel
theorem dX6_refuseFraction_4 : decode cX6_refuseFraction 4 = .ok (.ifCond .eq 10, 3) := by decide +kernel
theorem dX6_refuseFraction_7 : decode cX6_refuseFraction 7 = .ok (.iload_n 2, 1) := by decide +kernel
theorem dX6_refuseFraction_8 : decode cX6_refuseFraction 8 = .ok (.invokestatic 55, 3) := by decide +kernel
theorem dX6_refuseFraction_11 : decode cX6_refuseFraction 11 = .ok (.ifCond .ne 5, 3) := by decide +kernel
theorem dX6_refuseFraction_14 : decode cX6_refuseFraction 14 = .ok (.iconst (-1), 1) := by decide +kernel
theorem dX6_refuseFraction_15 : decode cX6_refuseFraction 15 = .ok (.ireturn, 1) := by decide +kernel
theorem dX6_refuseFraction_16 : decode cX6_refuseFraction 16 = .ok (.iload_n 3, 1) := by decide +kernel
theorem dX6_refuseFraction_17 : decode cX6_refuseFraction 17 = .ok (.iconst 0, 1) := by decide +kernel
theorem dX6_refuseFraction_18 : decode cX6_refuseFraction 18 = .ok (.iconst 1, 1) := by decide +kernel
theorem dX6_refuseFraction_19 : decode cX6_refuseFraction 19 = .ok (.invokestatic 59, 3) := by decide +kernel
theorem dX6_refuseFraction_22 : decode cX6_refuseFraction 22 = .ok (.ifCond .eq 13, 3) := by decide +kernel
theorem dX6_refuseFraction_25 : decode cX6_refuseFraction 25 = .ok (.iload 4, 2) := by decide +kernel
theorem dX6_refuseFraction_27 : decode cX6_refuseFraction 27 = .ok (.iconst 0, 1) := by decide +kernel
theorem dX6_refuseFraction_28 : decode cX6_refuseFraction 28 = .ok (.iconst 1, 1) := by decide +kernel
theorem dX6_refuseFraction_29 : decode cX6_refuseFraction 29 = .ok (.invokestatic 59, 3) := by decide +kernel
theorem dX6_refuseFraction_32 : decode cX6_refuseFraction 32 = .ok (.ifCond .ne 6, 3) := by decide +kernel
theorem dX6_refuseFraction_35 : decode cX6_refuseFraction 35 = .ok (.bipush (-2), 2) := by decide +kernel
theorem dX6_refuseFraction_37 : decode cX6_refuseFraction 37 = .ok (.ireturn, 1) := by decide +kernel
theorem dX6_refuseFraction_38 : decode cX6_refuseFraction 38 = .ok (.aload_n 0, 1) := by decide +kernel
theorem dX6_refuseFraction_39 : decode cX6_refuseFraction 39 = .ok (.invokevirtual 130, 3) := by decide +kernel
theorem dX6_refuseFraction_42 : decode cX6_refuseFraction 42 = .ok (.aload_n 0, 1) := by decide +kernel
theorem dX6_refuseFraction_43 : decode cX6_refuseFraction 43 = .ok (.getfield 26, 3) := by decide +kernel
theorem dX6_refuseFraction_46 : decode cX6_refuseFraction 46 = .ok (.getfield 134, 3) := by decide +kernel
theorem dX6_refuseFraction_49 : decode cX6_refuseFraction 49 = .ok (.ifCond .le 8, 3) := by decide +kernel
theorem dX6_refuseFraction_52 : decode cX6_refuseFraction 52 = .ok (.bipush (-3), 2) := by decide +kernel
theorem dX6_refuseFraction_54 : decode cX6_refuseFraction 54 = .ok (.goto 4, 3) := by decide +kernel
theorem dX6_refuseFraction_57 : decode cX6_refuseFraction 57 = .ok (.iconst 0, 1) := by decide +kernel
theorem dX6_refuseFraction_58 : decode cX6_refuseFraction 58 = .ok (.ireturn, 1) := by decide +kernel
theorem dX6_excess_0 : decode cX6_excess 0 = .ok (.aload_n 0, 1) := by decide +kernel
theorem dX6_excess_1 : decode cX6_excess 1 = .ok (.getfield 12, 3) := by decide +kernel
theorem dX6_excess_4 : decode cX6_excess 4 = .ok (.iload_n 1, 1) := by decide +kernel
theorem dX6_excess_5 : decode cX6_excess 5 = .ok (.invokevirtual 101, 3) := by decide +kernel
theorem dX6_excess_8 : decode cX6_excess 8 = .ok (.aload_n 0, 1) := by decide +kernel
theorem dX6_excess_9 : decode cX6_excess 9 = .ok (.getfield 51, 3) := by decide +kernel
theorem dX6_excess_12 : decode cX6_excess 12 = .ok (.aload_n 0, 1) := by decide +kernel
theorem dX6_excess_13 : decode cX6_excess 13 = .ok (.getfield 12, 3) := by decide +kernel
theorem dX6_excess_16 : decode cX6_excess 16 = .ok (.getfield 83, 3) := by decide +kernel
theorem dX6_excess_19 : decode cX6_excess 19 = .ok (.iload_n 1, 1) := by decide +kernel
theorem dX6_excess_20 : decode cX6_excess 20 = .ok (.iaload, 1) := by decide +kernel
theorem dX6_excess_21 : decode cX6_excess 21 = .ok (.iaload, 1) := by decide +kernel
theorem dX6_excess_22 : decode cX6_excess 22 = .ok (.imul, 1) := by decide +kernel
theorem dX6_excess_23 : decode cX6_excess 23 = .ok (.aload_n 0, 1) := by decide +kernel
theorem dX6_excess_24 : decode cX6_excess 24 = .ok (.getfield 12, 3) := by decide +kernel
theorem dX6_excess_27 : decode cX6_excess 27 = .ok (.getfield 80, 3) := by decide +kernel
theorem dX6_excess_30 : decode cX6_excess 30 = .ok (.iload_n 1, 1) := by decide +kernel
theorem dX6_excess_31 : decode cX6_excess 31 = .ok (.iaload, 1) := by decide +kernel
theorem dX6_excess_32 : decode cX6_excess 32 = .ok (.aload_n 0, 1) := by decide +kernel
theorem dX6_excess_33 : decode cX6_excess 33 = .ok (.getfield 51, 3) := by decide +kernel
theorem dX6_excess_36 : decode cX6_excess 36 = .ok (.aload_n 0, 1) := by decide +kernel
theorem dX6_excess_37 : decode cX6_excess 37 = .ok (.getfield 12, 3) := by decide +kernel
theorem dX6_excess_40 : decode cX6_excess 40 = .ok (.getfield 77, 3) := by decide +kernel
theorem dX6_excess_43 : decode cX6_excess 43 = .ok (.iload_n 1, 1) := by decide +kernel
theorem dX6_excess_44 : decode cX6_excess 44 = .ok (.iaload, 1) := by decide +kernel
theorem dX6_excess_45 : decode cX6_excess 45 = .ok (.iaload, 1) := by decide +kernel
theorem dX6_excess_46 : decode cX6_excess 46 = .ok (.imul, 1) := by decide +kernel
theorem dX6_excess_47 : decode cX6_excess 47 = .ok (.isub, 1) := by decide +kernel
theorem dX6_excess_48 : decode cX6_excess 48 = .ok (.ireturn, 1) := by decide +kernel
theorem dX7_init_0 : decode cX7_init 0 = .ok (.aload_n 0, 1) := by decide +kernel
theorem dX7_init_1 : decode cX7_init 1 = .ok (.invokespecial 1, 3) := by decide +kernel
theorem dX7_init_4 : decode cX7_init 4 = .ok (.aload_n 0, 1) := by decide +kernel
theorem dX7_init_5 : decode cX7_init 5 = .ok (.bipush 12, 2) := by decide +kernel
theorem dX7_init_7 : decode cX7_init 7 = .ok (.newarray .int, 2) := by decide +kernel
theorem dX7_init_9 : decode cX7_init 9 = .ok (.putfield 7, 3) := by decide +kernel
theorem dX7_init_12 : decode cX7_init 12 = .ok (.aload_n 0, 1) := by decide +kernel
theorem dX7_init_13 : decode cX7_init 13 = .ok (.bipush 12, 2) := by decide +kernel
theorem dX7_init_15 : decode cX7_init 15 = .ok (.newarray .int, 2) := by decide +kernel
theorem dX7_init_17 : decode cX7_init 17 = .ok (.putfield 13, 3) := by decide +kernel
theorem dX7_init_20 : decode cX7_init 20 = .ok (.aload_n 0, 1) := by decide +kernel
theorem dX7_init_21 : decode cX7_init 21 = .ok (.bipush 12, 2) := by decide +kernel
theorem dX7_init_23 : decode cX7_init 23 = .ok (.newarray .int, 2) := by decide +kernel
theorem dX7_init_25 : decode cX7_init 25 = .ok (.putfield 16, 3) := by decide +kernel
theorem dX7_init_28 : decode cX7_init 28 = .ok (.aload_n 0, 1) := by decide +kernel
theorem dX7_init_29 : decode cX7_init 29 = .ok (.bipush 12, 2) := by decide +kernel
theorem dX7_init_31 : decode cX7_init 31 = .ok (.newarray .int, 2) := by decide +kernel
theorem dX7_init_33 : decode cX7_init 33 = .ok (.putfield 19, 3) := by decide +kernel
theorem dX7_init_36 : decode cX7_init 36 = .ok (.aload_n 0, 1) := by decide +kernel
theorem dX7_init_37 : decode cX7_init 37 = .ok (.bipush 12, 2) := by decide +kernel
theorem dX7_init_39 : decode cX7_init 39 = .ok (.newarray .int, 2) := by decide +kernel
theorem dX7_init_41 : decode cX7_init 41 = .ok (.putfield 22, 3) := by decide +kernel
theorem dX7_init_44 : decode cX7_init 44 = .ok (.aload_n 0, 1) := by decide +kernel
theorem dX7_init_45 : decode cX7_init 45 = .ok (.bipush 12, 2) := by decide +kernel
theorem dX7_init_47 : decode cX7_init 47 = .ok (.newarray .int, 2) := by decide +kernel
theorem dX7_init_49 : decode cX7_init 49 = .ok (.putfield 25, 3) := by decide +kernel
theorem dX7_init_52 : decode cX7_init 52 = .ok (.aload_n 0, 1) := by decide +kernel
theorem dX7_init_53 : decode cX7_init 53 = .ok (.bipush 12, 2) := by decide +kernel
theorem dX7_init_55 : decode cX7_init 55 = .ok (.newarray .int, 2) := by decide +kernel
theorem dX7_init_57 : decode cX7_init 57 = .ok (.putfield 28, 3) := by decide +kernel
theorem dX7_init_60 : decode cX7_init 60 = .ok (.aload_n 0, 1) := by decide +kernel
theorem dX7_init_61 : decode cX7_init 61 = .ok (.iconst 3, 1) := by decide +kernel
theorem dX7_init_62 : decode cX7_init 62 = .ok (.newarray .int, 2) := by decide +kernel
theorem dX7_init_64 : decode cX7_init 64 = .ok (.putfield 31, 3) := by decide +kernel
theorem dX7_init_67 : decode cX7_init 67 = .ok (.aload_n 0, 1) := by decide +kernel
theorem dX7_init_68 : decode cX7_init 68 = .ok (.bipush 80, 2) := by decide +kernel
theorem dX7_init_70 : decode cX7_init 70 = .ok (.newarray .int, 2) := by decide +kernel
theorem dX7_init_72 : decode cX7_init 72 = .ok (.putfield 34, 3) := by decide +kernel
theorem dX7_init_75 : decode cX7_init 75 = .ok (.aload_n 0, 1) := by decide +kernel
theorem dX7_init_76 : decode cX7_init 76 = .ok (.bipush 8, 2) := by decide +kernel
theorem dX7_init_78 : decode cX7_init 78 = .ok (.newarray .int, 2) := by decide +kernel
theorem dX7_init_80 : decode cX7_init 80 = .ok (.putfield 37, 3) := by decide +kernel
theorem dX7_init_83 : decode cX7_init 83 = .ok (.aload_n 0, 1) := by decide +kernel
theorem dX7_init_84 : decode cX7_init 84 = .ok (.sipush 400, 3) := by decide +kernel
theorem dX7_init_87 : decode cX7_init 87 = .ok (.newarray .int, 2) := by decide +kernel
theorem dX7_init_89 : decode cX7_init 89 = .ok (.putfield 40, 3) := by decide +kernel
theorem dX7_init_92 : decode cX7_init 92 = .ok (.aload_n 0, 1) := by decide +kernel
theorem dX7_init_93 : decode cX7_init 93 = .ok (.sipush 400, 3) := by decide +kernel
theorem dX7_init_96 : decode cX7_init 96 = .ok (.newarray .int, 2) := by decide +kernel
theorem dX7_init_98 : decode cX7_init 98 = .ok (.putfield 43, 3) := by decide +kernel
theorem dX7_init_101 : decode cX7_init 101 = .ok (.aload_n 0, 1) := by decide +kernel
theorem dX7_init_102 : decode cX7_init 102 = .ok (.sipush 3200, 3) := by decide +kernel
theorem dX7_init_105 : decode cX7_init 105 = .ok (.newarray .int, 2) := by decide +kernel
theorem dX7_init_107 : decode cX7_init 107 = .ok (.putfield 46, 3) := by decide +kernel
theorem dX7_init_110 : decode cX7_init 110 = .ok (.aload_n 0, 1) := by decide +kernel
theorem dX7_init_111 : decode cX7_init 111 = .ok (.sipush 400, 3) := by decide +kernel
theorem dX7_init_114 : decode cX7_init 114 = .ok (.newarray .long, 2) := by decide +kernel
theorem dX7_init_116 : decode cX7_init 116 = .ok (.putfield 49, 3) := by decide +kernel
theorem dX7_init_119 : decode cX7_init 119 = .ok (.aload_n 0, 1) := by decide +kernel
theorem dX7_init_120 : decode cX7_init 120 = .ok (.sipush 400, 3) := by decide +kernel
theorem dX7_init_123 : decode cX7_init 123 = .ok (.newarray .long, 2) := by decide +kernel
theorem dX7_init_125 : decode cX7_init 125 = .ok (.putfield 53, 3) := by decide +kernel
theorem dX7_init_128 : decode cX7_init 128 = .ok (.aload_n 0, 1) := by decide +kernel
theorem dX7_init_129 : decode cX7_init 129 = .ok (.bipush 8, 2) := by decide +kernel
theorem dX7_init_131 : decode cX7_init 131 = .ok (.newarray .int, 2) := by decide +kernel
theorem dX7_init_133 : decode cX7_init 133 = .ok (.putfield 56, 3) := by decide +kernel
theorem dX7_init_136 : decode cX7_init 136 = .ok (.aload_n 0, 1) := by decide +kernel
theorem dX7_init_137 : decode cX7_init 137 = .ok (.bipush 9, 2) := by decide +kernel
theorem dX7_init_139 : decode cX7_init 139 = .ok (.newarray .long, 2) := by decide +kernel
theorem dX7_init_141 : decode cX7_init 141 = .ok (.putfield 59, 3) := by decide +kernel
theorem dX7_init_144 : decode cX7_init 144 = .ok (.aload_n 0, 1) := by decide +kernel
theorem dX7_init_145 : decode cX7_init 145 = .ok (.bipush 9, 2) := by decide +kernel
theorem dX7_init_147 : decode cX7_init 147 = .ok (.newarray .long, 2) := by decide +kernel
theorem dX7_init_149 : decode cX7_init 149 = .ok (.putfield 62, 3) := by decide +kernel
theorem dX7_init_152 : decode cX7_init 152 = .ok (.aload_n 0, 1) := by decide +kernel
theorem dX7_init_153 : decode cX7_init 153 = .ok (.iconst 5, 1) := by decide +kernel
theorem dX7_init_154 : decode cX7_init 154 = .ok (.newarray .int, 2) := by decide +kernel
theorem dX7_init_156 : decode cX7_init 156 = .ok (.putfield 65, 3) := by decide +kernel
theorem dX7_init_159 : decode cX7_init 159 = .ok (.aload_n 0, 1) := by decide +kernel
theorem dX7_init_160 : decode cX7_init 160 = .ok (.bipush 6, 2) := by decide +kernel
theorem dX7_init_162 : decode cX7_init 162 = .ok (.newarray .int, 2) := by decide +kernel
theorem dX7_init_164 : decode cX7_init 164 = .ok (.putfield 68, 3) := by decide +kernel
theorem dX7_init_167 : decode cX7_init 167 = .ok (.aload_n 0, 1) := by decide +kernel
theorem dX7_init_168 : decode cX7_init 168 = .ok (.bipush 6, 2) := by decide +kernel
theorem dX7_init_170 : decode cX7_init 170 = .ok (.newarray .int, 2) := by decide +kernel
theorem dX7_init_172 : decode cX7_init 172 = .ok (.putfield 71, 3) := by decide +kernel
theorem dX7_init_175 : decode cX7_init 175 = .ok (.aload_n 0, 1) := by decide +kernel
theorem dX7_init_176 : decode cX7_init 176 = .ok (.bipush 12, 2) := by decide +kernel
theorem dX7_init_178 : decode cX7_init 178 = .ok (.newarray .int, 2) := by decide +kernel
theorem dX7_init_180 : decode cX7_init 180 = .ok (.putfield 74, 3) := by decide +kernel
theorem dX7_init_183 : decode cX7_init 183 = .ok (.aload_n 0, 1) := by decide +kernel
theorem dX7_init_184 : decode cX7_init 184 = .ok (.getfield 31, 3) := by decide +kernel
theorem dX7_init_187 : decode cX7_init 187 = .ok (.iconst 2, 1) := by decide +kernel
theorem dX7_init_188 : decode cX7_init 188 = .ok (.iconst 1, 1) := by decide +kernel
theorem dX7_init_189 : decode cX7_init 189 = .ok (.iastore, 1) := by decide +kernel
theorem dX7_init_190 : decode cX7_init 190 = .ok (.iconst 0, 1) := by decide +kernel
theorem dX7_init_191 : decode cX7_init 191 = .ok (.istore_n 1, 1) := by decide +kernel
theorem dX7_init_192 : decode cX7_init 192 = .ok (.iload_n 1, 1) := by decide +kernel
theorem dX7_init_193 : decode cX7_init 193 = .ok (.bipush 8, 2) := by decide +kernel
theorem dX7_init_195 : decode cX7_init 195 = .ok (.if_icmp .ge 16, 3) := by decide +kernel
theorem dX7_init_198 : decode cX7_init 198 = .ok (.aload_n 0, 1) := by decide +kernel
theorem dX7_init_199 : decode cX7_init 199 = .ok (.getfield 37, 3) := by decide +kernel
theorem dX7_init_202 : decode cX7_init 202 = .ok (.iload_n 1, 1) := by decide +kernel
theorem dX7_init_203 : decode cX7_init 203 = .ok (.iconst 1, 1) := by decide +kernel
theorem dX7_init_204 : decode cX7_init 204 = .ok (.iastore, 1) := by decide +kernel
theorem dX7_init_205 : decode cX7_init 205 = .ok (.iinc 1 1, 3) := by decide +kernel
theorem dX7_init_208 : decode cX7_init 208 = .ok (.goto (-16), 3) := by decide +kernel
theorem dX7_init_211 : decode cX7_init 211 = .ok (.return_, 1) := by decide +kernel
theorem dX7_in_0 : decode cX7_in 0 = .ok (.iload_n 0, 1) := by decide +kernel
theorem dX7_in_1 : decode cX7_in 1 = .ok (.iload_n 1, 1) := by decide +kernel
theorem dX7_in_2 : decode cX7_in 2 = .ok (.if_icmp .lt 12, 3) := by decide +kernel
theorem dX7_in_5 : decode cX7_in 5 = .ok (.iload_n 0, 1) := by decide +kernel
theorem dX7_in_6 : decode cX7_in 6 = .ok (.iload_n 2, 1) := by decide +kernel
theorem dX7_in_7 : decode cX7_in 7 = .ok (.if_icmp .gt 7, 3) := by decide +kernel
theorem dX7_in_10 : decode cX7_in 10 = .ok (.iconst 1, 1) := by decide +kernel
theorem dX7_in_11 : decode cX7_in 11 = .ok (.goto 4, 3) := by decide +kernel
theorem dX7_in_14 : decode cX7_in 14 = .ok (.iconst 0, 1) := by decide +kernel
theorem dX7_in_15 : decode cX7_in 15 = .ok (.ireturn, 1) := by decide +kernel
theorem dX7_isCoin_0 : decode cX7_isCoin 0 = .ok (.iload_n 0, 1) := by decide +kernel
theorem dX7_isCoin_1 : decode cX7_isCoin 1 = .ok (.iconst 0, 1) := by decide +kernel
theorem dX7_isCoin_2 : decode cX7_isCoin 2 = .ok (.bipush 7, 2) := by decide +kernel
theorem dX7_isCoin_4 : decode cX7_isCoin 4 = .ok (.invokestatic 77, 3) := by decide +kernel
theorem dX7_isCoin_7 : decode cX7_isCoin 7 = .ok (.ireturn, 1) := by decide +kernel
theorem dX7_isBoard_0 : decode cX7_isBoard 0 = .ok (.iload_n 1, 1) := by decide +kernel
theorem dX7_isBoard_1 : decode cX7_isBoard 1 = .ok (.iconst 0, 1) := by decide +kernel
theorem dX7_isBoard_2 : decode cX7_isBoard 2 = .ok (.aload_n 0, 1) := by decide +kernel
theorem dX7_isBoard_3 : decode cX7_isBoard 3 = .ok (.getfield 81, 3) := by decide +kernel
theorem dX7_isBoard_6 : decode cX7_isBoard 6 = .ok (.iconst 1, 1) := by decide +kernel
theorem dX7_isBoard_7 : decode cX7_isBoard 7 = .ok (.isub, 1) := by decide +kernel
theorem dX7_isBoard_8 : decode cX7_isBoard 8 = .ok (.invokestatic 77, 3) := by decide +kernel
theorem dX7_isBoard_11 : decode cX7_isBoard 11 = .ok (.ireturn, 1) := by decide +kernel
theorem dX7_add_0 : decode cX7_add 0 = .ok (.aload_n 0, 1) := by decide +kernel
theorem dX7_add_1 : decode cX7_add 1 = .ok (.getfield 7, 3) := by decide +kernel
theorem dX7_add_4 : decode cX7_add 4 = .ok (.aload_n 0, 1) := by decide +kernel
theorem dX7_add_5 : decode cX7_add 5 = .ok (.getfield 81, 3) := by decide +kernel
theorem dX7_add_8 : decode cX7_add 8 = .ok (.iload_n 1, 1) := by decide +kernel
theorem dX7_add_9 : decode cX7_add 9 = .ok (.iastore, 1) := by decide +kernel
theorem dX7_add_10 : decode cX7_add 10 = .ok (.aload_n 0, 1) := by decide +kernel
theorem dX7_add_11 : decode cX7_add 11 = .ok (.getfield 13, 3) := by decide +kernel
theorem dX7_add_14 : decode cX7_add 14 = .ok (.aload_n 0, 1) := by decide +kernel
theorem dX7_add_15 : decode cX7_add 15 = .ok (.getfield 81, 3) := by decide +kernel
theorem dX7_add_18 : decode cX7_add 18 = .ok (.iload_n 2, 1) := by decide +kernel
theorem dX7_add_19 : decode cX7_add 19 = .ok (.iastore, 1) := by decide +kernel
theorem dX7_add_20 : decode cX7_add 20 = .ok (.aload_n 0, 1) := by decide +kernel
theorem dX7_add_21 : decode cX7_add 21 = .ok (.getfield 16, 3) := by decide +kernel
theorem dX7_add_24 : decode cX7_add 24 = .ok (.aload_n 0, 1) := by decide +kernel
theorem dX7_add_25 : decode cX7_add 25 = .ok (.getfield 81, 3) := by decide +kernel
theorem dX7_add_28 : decode cX7_add 28 = .ok (.iload_n 3, 1) := by decide +kernel
theorem dX7_add_29 : decode cX7_add 29 = .ok (.iastore, 1) := by decide +kernel
theorem dX7_add_30 : decode cX7_add 30 = .ok (.aload_n 0, 1) := by decide +kernel
theorem dX7_add_31 : decode cX7_add 31 = .ok (.getfield 19, 3) := by decide +kernel
theorem dX7_add_34 : decode cX7_add 34 = .ok (.aload_n 0, 1) := by decide +kernel
theorem dX7_add_35 : decode cX7_add 35 = .ok (.getfield 81, 3) := by decide +kernel
theorem dX7_add_38 : decode cX7_add 38 = .ok (.iload 4, 2) := by decide +kernel
theorem dX7_add_40 : decode cX7_add 40 = .ok (.iastore, 1) := by decide +kernel
theorem dX7_add_41 : decode cX7_add 41 = .ok (.aload_n 0, 1) := by decide +kernel
theorem dX7_add_42 : decode cX7_add 42 = .ok (.getfield 22, 3) := by decide +kernel
theorem dX7_add_45 : decode cX7_add 45 = .ok (.aload_n 0, 1) := by decide +kernel
theorem dX7_add_46 : decode cX7_add 46 = .ok (.getfield 81, 3) := by decide +kernel
theorem dX7_add_49 : decode cX7_add 49 = .ok (.iconst 0, 1) := by decide +kernel
theorem dX7_add_50 : decode cX7_add 50 = .ok (.iastore, 1) := by decide +kernel
theorem dX7_add_51 : decode cX7_add 51 = .ok (.aload_n 0, 1) := by decide +kernel
theorem dX7_add_52 : decode cX7_add 52 = .ok (.getfield 25, 3) := by decide +kernel
theorem dX7_add_55 : decode cX7_add 55 = .ok (.aload_n 0, 1) := by decide +kernel
theorem dX7_add_56 : decode cX7_add 56 = .ok (.getfield 81, 3) := by decide +kernel
theorem dX7_add_59 : decode cX7_add 59 = .ok (.bipush 99, 2) := by decide +kernel
theorem dX7_add_61 : decode cX7_add 61 = .ok (.iastore, 1) := by decide +kernel
theorem dX7_add_62 : decode cX7_add 62 = .ok (.aload_n 0, 1) := by decide +kernel
theorem dX7_add_63 : decode cX7_add 63 = .ok (.getfield 28, 3) := by decide +kernel
theorem dX7_add_66 : decode cX7_add 66 = .ok (.aload_n 0, 1) := by decide +kernel
theorem dX7_add_67 : decode cX7_add 67 = .ok (.getfield 81, 3) := by decide +kernel
theorem dX7_add_70 : decode cX7_add 70 = .ok (.ldc 85, 2) := by decide +kernel
theorem dX7_add_72 : decode cX7_add 72 = .ok (.iastore, 1) := by decide +kernel
theorem dX7_add_73 : decode cX7_add 73 = .ok (.aload_n 0, 1) := by decide +kernel
theorem dX7_add_74 : decode cX7_add 74 = .ok (.dup, 1) := by decide +kernel
theorem dX7_add_75 : decode cX7_add 75 = .ok (.getfield 81, 3) := by decide +kernel
theorem dX7_add_78 : decode cX7_add 78 = .ok (.iconst 1, 1) := by decide +kernel
theorem dX7_add_79 : decode cX7_add 79 = .ok (.iadd, 1) := by decide +kernel
theorem dX7_add_80 : decode cX7_add 80 = .ok (.putfield 81, 3) := by decide +kernel
theorem dX7_add_83 : decode cX7_add 83 = .ok (.aload_n 0, 1) := by decide +kernel
theorem dX7_add_84 : decode cX7_add 84 = .ok (.getfield 81, 3) := by decide +kernel
theorem dX7_add_87 : decode cX7_add 87 = .ok (.iconst 1, 1) := by decide +kernel
theorem dX7_add_88 : decode cX7_add 88 = .ok (.isub, 1) := by decide +kernel
theorem dX7_add_89 : decode cX7_add 89 = .ok (.ireturn, 1) := by decide +kernel
theorem dX7_board_0 : decode cX7_board 0 = .ok (.iload_n 1, 1) := by decide +kernel
theorem dX7_board_1 : decode cX7_board 1 = .ok (.invokestatic 86, 3) := by decide +kernel
theorem dX7_board_4 : decode cX7_board 4 = .ok (.ifCond .eq 15, 3) := by decide +kernel
theorem dX7_board_7 : decode cX7_board 7 = .ok (.iload_n 3, 1) := by decide +kernel
theorem dX7_board_8 : decode cX7_board 8 = .ok (.invokestatic 86, 3) := by decide +kernel
theorem dX7_board_11 : decode cX7_board 11 = .ok (.ifCond .eq 8, 3) := by decide +kernel
theorem dX7_board_14 : decode cX7_board 14 = .ok (.iload_n 1, 1) := by decide +kernel
theorem dX7_board_15 : decode cX7_board 15 = .ok (.iload_n 3, 1) := by decide +kernel
theorem dX7_board_16 : decode cX7_board 16 = .ok (.if_icmp .ne 5, 3) := by decide +kernel
theorem dX7_board_19 : decode cX7_board 19 = .ok (.iconst (-1), 1) := by decide +kernel
theorem dX7_board_20 : decode cX7_board 20 = .ok (.ireturn, 1) := by decide +kernel
theorem dX7_board_21 : decode cX7_board 21 = .ok (.iload_n 2, 1) := by decide +kernel
theorem dX7_board_22 : decode cX7_board 22 = .ok (.iconst 1, 1) := by decide +kernel
theorem dX7_board_23 : decode cX7_board 23 = .ok (.bipush 99, 2) := by decide +kernel
theorem dX7_board_25 : decode cX7_board 25 = .ok (.invokestatic 77, 3) := by decide +kernel
theorem dX7_board_28 : decode cX7_board 28 = .ok (.ifCond .eq 14, 3) := by decide +kernel
theorem dX7_board_31 : decode cX7_board 31 = .ok (.iload 4, 2) := by decide +kernel
theorem dX7_board_33 : decode cX7_board 33 = .ok (.iconst 1, 1) := by decide +kernel
theorem dX7_board_34 : decode cX7_board 34 = .ok (.bipush 99, 2) := by decide +kernel
theorem dX7_board_36 : decode cX7_board 36 = .ok (.invokestatic 77, 3) := by decide +kernel
theorem dX7_board_39 : decode cX7_board 39 = .ok (.ifCond .ne 6, 3) := by decide +kernel
theorem dX7_board_42 : decode cX7_board 42 = .ok (.bipush (-2), 2) := by decide +kernel
theorem dX7_board_44 : decode cX7_board 44 = .ok (.ireturn, 1) := by decide +kernel
theorem dX7_board_45 : decode cX7_board 45 = .ok (.aload_n 0, 1) := by decide +kernel
theorem dX7_board_46 : decode cX7_board 46 = .ok (.getfield 81, 3) := by decide +kernel
theorem dX7_board_49 : decode cX7_board 49 = .ok (.bipush 12, 2) := by decide +kernel
theorem dX7_board_51 : decode cX7_board 51 = .ok (.if_icmp .ne 8, 3) := by decide +kernel
theorem dX7_board_54 : decode cX7_board 54 = .ok (.bipush (-4), 2) := by decide +kernel
theorem dX7_board_56 : decode cX7_board 56 = .ok (.goto 12, 3) := by decide +kernel
theorem dX7_board_59 : decode cX7_board 59 = .ok (.aload_n 0, 1) := by decide +kernel
theorem dX7_board_60 : decode cX7_board 60 = .ok (.iload_n 1, 1) := by decide +kernel
theorem dX7_board_61 : decode cX7_board 61 = .ok (.iload_n 2, 1) := by decide +kernel
theorem dX7_board_62 : decode cX7_board 62 = .ok (.iload_n 3, 1) := by decide +kernel
theorem dX7_board_63 : decode cX7_board 63 = .ok (.iload 4, 2) := by decide +kernel
theorem dX7_board_65 : decode cX7_board 65 = .ok (.invokevirtual 90, 3) := by decide +kernel
theorem dX7_board_68 : decode cX7_board 68 = .ok (.ireturn, 1) := by decide +kernel
theorem dX7_isOpen_0 : decode cX7_isOpen 0 = .ok (.aload_n 0, 1) := by decide +kernel
theorem dX7_isOpen_1 : decode cX7_isOpen 1 = .ok (.getfield 31, 3) := by decide +kernel
theorem dX7_isOpen_4 : decode cX7_isOpen 4 = .ok (.iconst 1, 1) := by decide +kernel
theorem dX7_isOpen_5 : decode cX7_isOpen 5 = .ok (.iaload, 1) := by decide +kernel
theorem dX7_isOpen_6 : decode cX7_isOpen 6 = .ok (.aload_n 0, 1) := by decide +kernel
theorem dX7_isOpen_7 : decode cX7_isOpen 7 = .ok (.getfield 22, 3) := by decide +kernel
theorem dX7_isOpen_10 : decode cX7_isOpen 10 = .ok (.iload_n 1, 1) := by decide +kernel
theorem dX7_isOpen_11 : decode cX7_isOpen 11 = .ok (.iaload, 1) := by decide +kernel
theorem dX7_isOpen_12 : decode cX7_isOpen 12 = .ok (.aload_n 0, 1) := by decide +kernel
theorem dX7_isOpen_13 : decode cX7_isOpen 13 = .ok (.getfield 25, 3) := by decide +kernel
theorem dX7_isOpen_16 : decode cX7_isOpen 16 = .ok (.iload_n 1, 1) := by decide +kernel
theorem dX7_isOpen_17 : decode cX7_isOpen 17 = .ok (.iaload, 1) := by decide +kernel
theorem dX7_isOpen_18 : decode cX7_isOpen 18 = .ok (.invokestatic 77, 3) := by decide +kernel
theorem dX7_isOpen_21 : decode cX7_isOpen 21 = .ok (.ireturn, 1) := by decide +kernel
theorem dX7_upper_0 : decode cX7_upper 0 = .ok (.aload_n 0, 1) := by decide +kernel
theorem dX7_upper_1 : decode cX7_upper 1 = .ok (.getfield 19, 3) := by decide +kernel
theorem dX7_upper_4 : decode cX7_upper 4 = .ok (.iload_n 1, 1) := by decide +kernel
theorem dX7_upper_5 : decode cX7_upper 5 = .ok (.iaload, 1) := by decide +kernel
theorem dX7_upper_6 : decode cX7_upper 6 = .ok (.aload_n 0, 1) := by decide +kernel
theorem dX7_upper_7 : decode cX7_upper 7 = .ok (.getfield 31, 3) := by decide +kernel
theorem dX7_upper_10 : decode cX7_upper 10 = .ok (.iconst 0, 1) := by decide +kernel
theorem dX7_upper_11 : decode cX7_upper 11 = .ok (.iaload, 1) := by decide +kernel
theorem dX7_upper_12 : decode cX7_upper 12 = .ok (.isub, 1) := by decide +kernel
theorem dX7_upper_13 : decode cX7_upper 13 = .ok (.iconst 1, 1) := by decide +kernel
theorem dX7_upper_14 : decode cX7_upper 14 = .ok (.if_icmp .ge 7, 3) := by decide +kernel
theorem dX7_upper_17 : decode cX7_upper 17 = .ok (.iconst 1, 1) := by decide +kernel
theorem dX7_upper_18 : decode cX7_upper 18 = .ok (.goto 16, 3) := by decide +kernel
theorem dX7_upper_21 : decode cX7_upper 21 = .ok (.aload_n 0, 1) := by decide +kernel
theorem dX7_upper_22 : decode cX7_upper 22 = .ok (.getfield 19, 3) := by decide +kernel
theorem dX7_upper_25 : decode cX7_upper 25 = .ok (.iload_n 1, 1) := by decide +kernel
theorem dX7_upper_26 : decode cX7_upper 26 = .ok (.iaload, 1) := by decide +kernel
theorem dX7_upper_27 : decode cX7_upper 27 = .ok (.aload_n 0, 1) := by decide +kernel
theorem dX7_upper_28 : decode cX7_upper 28 = .ok (.getfield 31, 3) := by decide +kernel
theorem dX7_upper_31 : decode cX7_upper 31 = .ok (.iconst 0, 1) := by decide +kernel
theorem dX7_upper_32 : decode cX7_upper 32 = .ok (.iaload, 1) := by decide +kernel
theorem dX7_upper_33 : decode cX7_upper 33 = .ok (.isub, 1) := by decide +kernel
theorem dX7_upper_34 : decode cX7_upper 34 = .ok (.ireturn, 1) := by decide +kernel
theorem dX7_of_0 : decode cX7_of 0 = .ok (.aload_n 0, 1) := by decide +kernel
theorem dX7_of_1 : decode cX7_of 1 = .ok (.iload_n 1, 1) := by decide +kernel
theorem dX7_of_2 : decode cX7_of 2 = .ok (.invokevirtual 94, 3) := by decide +kernel
theorem dX7_of_5 : decode cX7_of 5 = .ok (.ifCond .ne 5, 3) := by decide +kernel
theorem dX7_of_8 : decode cX7_of 8 = .ok (.iconst (-1), 1) := by decide +kernel
theorem dX7_of_9 : decode cX7_of 9 = .ok (.ireturn, 1) := by decide +kernel
theorem dX7_of_10 : decode cX7_of 10 = .ok (.iload_n 2, 1) := by decide +kernel
theorem dX7_of_11 : decode cX7_of 11 = .ok (.tableswitch 118 0 8 #[49, 56, 63, 70, 77, 84, 91, 98, 112], 49) := by decide +kernel
theorem dX7_of_60 : decode cX7_of 60 = .ok (.aload_n 0, 1) := by decide +kernel
theorem dX7_of_61 : decode cX7_of 61 = .ok (.getfield 7, 3) := by decide +kernel
theorem dX7_of_64 : decode cX7_of 64 = .ok (.iload_n 1, 1) := by decide +kernel
theorem dX7_of_65 : decode cX7_of 65 = .ok (.iaload, 1) := by decide +kernel
theorem dX7_of_66 : decode cX7_of 66 = .ok (.ireturn, 1) := by decide +kernel
theorem dX7_of_67 : decode cX7_of 67 = .ok (.aload_n 0, 1) := by decide +kernel
theorem dX7_of_68 : decode cX7_of 68 = .ok (.getfield 13, 3) := by decide +kernel
theorem dX7_of_71 : decode cX7_of 71 = .ok (.iload_n 1, 1) := by decide +kernel
theorem dX7_of_72 : decode cX7_of 72 = .ok (.iaload, 1) := by decide +kernel
theorem dX7_of_73 : decode cX7_of 73 = .ok (.ireturn, 1) := by decide +kernel
theorem dX7_of_74 : decode cX7_of 74 = .ok (.aload_n 0, 1) := by decide +kernel
theorem dX7_of_75 : decode cX7_of 75 = .ok (.getfield 16, 3) := by decide +kernel
theorem dX7_of_78 : decode cX7_of 78 = .ok (.iload_n 1, 1) := by decide +kernel
theorem dX7_of_79 : decode cX7_of 79 = .ok (.iaload, 1) := by decide +kernel
theorem dX7_of_80 : decode cX7_of 80 = .ok (.ireturn, 1) := by decide +kernel
theorem dX7_of_81 : decode cX7_of 81 = .ok (.aload_n 0, 1) := by decide +kernel
theorem dX7_of_82 : decode cX7_of 82 = .ok (.getfield 19, 3) := by decide +kernel
theorem dX7_of_85 : decode cX7_of 85 = .ok (.iload_n 1, 1) := by decide +kernel
theorem dX7_of_86 : decode cX7_of 86 = .ok (.iaload, 1) := by decide +kernel
theorem dX7_of_87 : decode cX7_of 87 = .ok (.ireturn, 1) := by decide +kernel
theorem dX7_of_88 : decode cX7_of 88 = .ok (.aload_n 0, 1) := by decide +kernel
theorem dX7_of_89 : decode cX7_of 89 = .ok (.getfield 22, 3) := by decide +kernel
theorem dX7_of_92 : decode cX7_of 92 = .ok (.iload_n 1, 1) := by decide +kernel
theorem dX7_of_93 : decode cX7_of 93 = .ok (.iaload, 1) := by decide +kernel
theorem dX7_of_94 : decode cX7_of 94 = .ok (.ireturn, 1) := by decide +kernel
theorem dX7_of_95 : decode cX7_of 95 = .ok (.aload_n 0, 1) := by decide +kernel
theorem dX7_of_96 : decode cX7_of 96 = .ok (.getfield 25, 3) := by decide +kernel
theorem dX7_of_99 : decode cX7_of 99 = .ok (.iload_n 1, 1) := by decide +kernel
theorem dX7_of_100 : decode cX7_of 100 = .ok (.iaload, 1) := by decide +kernel
theorem dX7_of_101 : decode cX7_of 101 = .ok (.ireturn, 1) := by decide +kernel
theorem dX7_of_102 : decode cX7_of 102 = .ok (.aload_n 0, 1) := by decide +kernel
theorem dX7_of_103 : decode cX7_of 103 = .ok (.getfield 28, 3) := by decide +kernel
theorem dX7_of_106 : decode cX7_of 106 = .ok (.iload_n 1, 1) := by decide +kernel
theorem dX7_of_107 : decode cX7_of 107 = .ok (.iaload, 1) := by decide +kernel
theorem dX7_of_108 : decode cX7_of 108 = .ok (.ireturn, 1) := by decide +kernel
theorem dX7_of_109 : decode cX7_of 109 = .ok (.aload_n 0, 1) := by decide +kernel
theorem dX7_of_110 : decode cX7_of 110 = .ok (.iload_n 1, 1) := by decide +kernel
theorem dX7_of_111 : decode cX7_of 111 = .ok (.invokevirtual 97, 3) := by decide +kernel
theorem dX7_of_114 : decode cX7_of 114 = .ok (.ifCond .eq 7, 3) := by decide +kernel
theorem dX7_of_117 : decode cX7_of 117 = .ok (.iconst 1, 1) := by decide +kernel
theorem dX7_of_118 : decode cX7_of 118 = .ok (.goto 4, 3) := by decide +kernel
theorem dX7_of_121 : decode cX7_of 121 = .ok (.iconst 0, 1) := by decide +kernel
theorem dX7_of_122 : decode cX7_of 122 = .ok (.ireturn, 1) := by decide +kernel
theorem dX7_of_123 : decode cX7_of 123 = .ok (.aload_n 0, 1) := by decide +kernel
theorem dX7_of_124 : decode cX7_of 124 = .ok (.iload_n 1, 1) := by decide +kernel
theorem dX7_of_125 : decode cX7_of 125 = .ok (.invokevirtual 100, 3) := by decide +kernel
theorem dX7_of_128 : decode cX7_of 128 = .ok (.ireturn, 1) := by decide +kernel
theorem dX7_of_129 : decode cX7_of 129 = .ok (.bipush (-2), 2) := by decide +kernel
theorem dX7_of_131 : decode cX7_of 131 = .ok (.ireturn, 1) := by decide +kernel
theorem dX7_change_0 : decode cX7_change 0 = .ok (.aload_n 0, 1) := by decide +kernel
theorem dX7_change_1 : decode cX7_change 1 = .ok (.iload_n 1, 1) := by decide +kernel
theorem dX7_change_2 : decode cX7_change 2 = .ok (.invokevirtual 94, 3) := by decide +kernel
theorem dX7_change_5 : decode cX7_change 5 = .ok (.ifCond .ne 5, 3) := by decide +kernel
theorem dX7_change_8 : decode cX7_change 8 = .ok (.iconst (-1), 1) := by decide +kernel
theorem dX7_change_9 : decode cX7_change 9 = .ok (.ireturn, 1) := by decide +kernel
theorem dX7_change_10 : decode cX7_change 10 = .ok (.iload_n 2, 1) := by decide +kernel
theorem dX7_change_11 : decode cX7_change 11 = .ok (.iconst 0, 1) := by decide +kernel
theorem dX7_change_12 : decode cX7_change 12 = .ok (.iconst 1, 1) := by decide +kernel
theorem dX7_change_13 : decode cX7_change 13 = .ok (.invokestatic 77, 3) := by decide +kernel
theorem dX7_change_16 : decode cX7_change 16 = .ok (.ifCond .eq 22, 3) := by decide +kernel
theorem dX7_change_19 : decode cX7_change 19 = .ok (.iload_n 3, 1) := by decide +kernel
theorem dX7_change_20 : decode cX7_change 20 = .ok (.iconst 1, 1) := by decide +kernel
theorem dX7_change_21 : decode cX7_change 21 = .ok (.iload_n 2, 1) := by decide +kernel
theorem dX7_change_22 : decode cX7_change 22 = .ok (.ifCond .ne 8, 3) := by decide +kernel
theorem dX7_change_25 : decode cX7_change 25 = .ok (.bipush 99, 2) := by decide +kernel
theorem dX7_change_27 : decode cX7_change 27 = .ok (.goto 5, 3) := by decide +kernel
theorem dX7_change_30 : decode cX7_change 30 = .ok (.ldc 85, 2) := by decide +kernel
theorem dX7_change_32 : decode cX7_change 32 = .ok (.invokestatic 77, 3) := by decide +kernel
theorem dX7_change_35 : decode cX7_change 35 = .ok (.ifCond .ne 6, 3) := by decide +kernel
theorem dX7_change_38 : decode cX7_change 38 = .ok (.bipush (-2), 2) := by decide +kernel
theorem dX7_change_40 : decode cX7_change 40 = .ok (.ireturn, 1) := by decide +kernel
theorem dX7_change_41 : decode cX7_change 41 = .ok (.iload_n 2, 1) := by decide +kernel
theorem dX7_change_42 : decode cX7_change 42 = .ok (.ifCond .ne 12, 3) := by decide +kernel
theorem dX7_change_45 : decode cX7_change 45 = .ok (.aload_n 0, 1) := by decide +kernel
theorem dX7_change_46 : decode cX7_change 46 = .ok (.getfield 19, 3) := by decide +kernel
theorem dX7_change_49 : decode cX7_change 49 = .ok (.iload_n 1, 1) := by decide +kernel
theorem dX7_change_50 : decode cX7_change 50 = .ok (.iaload, 1) := by decide +kernel
theorem dX7_change_51 : decode cX7_change 51 = .ok (.goto 9, 3) := by decide +kernel
theorem dX7_change_54 : decode cX7_change 54 = .ok (.aload_n 0, 1) := by decide +kernel
theorem dX7_change_55 : decode cX7_change 55 = .ok (.getfield 28, 3) := by decide +kernel
theorem dX7_change_58 : decode cX7_change 58 = .ok (.iload_n 1, 1) := by decide +kernel
theorem dX7_change_59 : decode cX7_change 59 = .ok (.iaload, 1) := by decide +kernel
theorem dX7_change_60 : decode cX7_change 60 = .ok (.istore 4, 2) := by decide +kernel
theorem dX7_change_62 : decode cX7_change 62 = .ok (.iload_n 2, 1) := by decide +kernel
theorem dX7_change_63 : decode cX7_change 63 = .ok (.ifCond .ne 13, 3) := by decide +kernel
theorem dX7_change_66 : decode cX7_change 66 = .ok (.aload_n 0, 1) := by decide +kernel
theorem dX7_change_67 : decode cX7_change 67 = .ok (.getfield 19, 3) := by decide +kernel
theorem dX7_change_70 : decode cX7_change 70 = .ok (.iload_n 1, 1) := by decide +kernel
theorem dX7_change_71 : decode cX7_change 71 = .ok (.iload_n 3, 1) := by decide +kernel
theorem dX7_change_72 : decode cX7_change 72 = .ok (.iastore, 1) := by decide +kernel
theorem dX7_change_73 : decode cX7_change 73 = .ok (.goto 10, 3) := by decide +kernel
theorem dX7_change_76 : decode cX7_change 76 = .ok (.aload_n 0, 1) := by decide +kernel
theorem dX7_change_77 : decode cX7_change 77 = .ok (.getfield 28, 3) := by decide +kernel
theorem dX7_change_80 : decode cX7_change 80 = .ok (.iload_n 1, 1) := by decide +kernel
theorem dX7_change_81 : decode cX7_change 81 = .ok (.iload_n 3, 1) := by decide +kernel
theorem dX7_change_82 : decode cX7_change 82 = .ok (.iastore, 1) := by decide +kernel
theorem dX7_change_83 : decode cX7_change 83 = .ok (.iload 4, 2) := by decide +kernel
theorem dX7_change_85 : decode cX7_change 85 = .ok (.ireturn, 1) := by decide +kernel
theorem dX7_isHour_0 : decode cX7_isHour 0 = .ok (.iload_n 0, 1) := by decide +kernel
theorem dX7_isHour_1 : decode cX7_isHour 1 = .ok (.iconst 0, 1) := by decide +kernel
theorem dX7_isHour_2 : decode cX7_isHour 2 = .ok (.bipush 99, 2) := by decide +kernel
theorem dX7_isHour_4 : decode cX7_isHour 4 = .ok (.invokestatic 77, 3) := by decide +kernel
theorem dX7_isHour_7 : decode cX7_isHour 7 = .ok (.ireturn, 1) := by decide +kernel
theorem dX7_hours_0 : decode cX7_hours 0 = .ok (.aload_n 0, 1) := by decide +kernel
theorem dX7_hours_1 : decode cX7_hours 1 = .ok (.iload_n 1, 1) := by decide +kernel
theorem dX7_hours_2 : decode cX7_hours 2 = .ok (.invokevirtual 94, 3) := by decide +kernel
theorem dX7_hours_5 : decode cX7_hours 5 = .ok (.ifCond .ne 5, 3) := by decide +kernel
theorem dX7_hours_8 : decode cX7_hours 8 = .ok (.iconst (-1), 1) := by decide +kernel
theorem dX7_hours_9 : decode cX7_hours 9 = .ok (.ireturn, 1) := by decide +kernel
theorem dX7_hours_10 : decode cX7_hours 10 = .ok (.iload_n 2, 1) := by decide +kernel
theorem dX7_hours_11 : decode cX7_hours 11 = .ok (.invokestatic 104, 3) := by decide +kernel
theorem dX7_hours_14 : decode cX7_hours 14 = .ok (.ifCond .eq 15, 3) := by decide +kernel
theorem dX7_hours_17 : decode cX7_hours 17 = .ok (.iload_n 3, 1) := by decide +kernel
theorem dX7_hours_18 : decode cX7_hours 18 = .ok (.invokestatic 104, 3) := by decide +kernel
theorem dX7_hours_21 : decode cX7_hours 21 = .ok (.ifCond .eq 8, 3) := by decide +kernel
theorem dX7_hours_24 : decode cX7_hours 24 = .ok (.iload_n 2, 1) := by decide +kernel
theorem dX7_hours_25 : decode cX7_hours 25 = .ok (.iload_n 3, 1) := by decide +kernel
theorem dX7_hours_26 : decode cX7_hours 26 = .ok (.if_icmp .le 6, 3) := by decide +kernel
theorem dX7_hours_29 : decode cX7_hours 29 = .ok (.bipush (-2), 2) := by decide +kernel
theorem dX7_hours_31 : decode cX7_hours 31 = .ok (.ireturn, 1) := by decide +kernel
theorem dX7_hours_32 : decode cX7_hours 32 = .ok (.aload_n 0, 1) := by decide +kernel
theorem dX7_hours_33 : decode cX7_hours 33 = .ok (.getfield 22, 3) := by decide +kernel
theorem dX7_hours_36 : decode cX7_hours 36 = .ok (.iload_n 1, 1) := by decide +kernel
theorem dX7_hours_37 : decode cX7_hours 37 = .ok (.iload_n 2, 1) := by decide +kernel
theorem dX7_hours_38 : decode cX7_hours 38 = .ok (.iastore, 1) := by decide +kernel
theorem dX7_hours_39 : decode cX7_hours 39 = .ok (.aload_n 0, 1) := by decide +kernel
theorem dX7_hours_40 : decode cX7_hours 40 = .ok (.getfield 25, 3) := by decide +kernel
theorem dX7_hours_43 : decode cX7_hours 43 = .ok (.iload_n 1, 1) := by decide +kernel
theorem dX7_hours_44 : decode cX7_hours 44 = .ok (.iload_n 3, 1) := by decide +kernel
theorem dX7_hours_45 : decode cX7_hours 45 = .ok (.iastore, 1) := by decide +kernel
theorem dX7_hours_46 : decode cX7_hours 46 = .ok (.iconst 1, 1) := by decide +kernel
theorem dX7_hours_47 : decode cX7_hours 47 = .ok (.ireturn, 1) := by decide +kernel
theorem dX7_set_0 : decode cX7_set 0 = .ok (.iload_n 1, 1) := by decide +kernel
theorem dX7_set_1 : decode cX7_set 1 = .ok (.iconst 0, 1) := by decide +kernel
theorem dX7_set_2 : decode cX7_set 2 = .ok (.iconst 2, 1) := by decide +kernel
theorem dX7_set_3 : decode cX7_set 3 = .ok (.invokestatic 77, 3) := by decide +kernel
theorem dX7_set_6 : decode cX7_set 6 = .ok (.ifCond .ne 6, 3) := by decide +kernel
theorem dX7_set_9 : decode cX7_set 9 = .ok (.bipush (-2), 2) := by decide +kernel
theorem dX7_set_11 : decode cX7_set 11 = .ok (.ireturn, 1) := by decide +kernel
theorem dX7_set_12 : decode cX7_set 12 = .ok (.iload_n 2, 1) := by decide +kernel
theorem dX7_set_13 : decode cX7_set 13 = .ok (.iload_n 1, 1) := by decide +kernel
theorem dX7_set_14 : decode cX7_set 14 = .ok (.iconst 2, 1) := by decide +kernel
theorem dX7_set_15 : decode cX7_set 15 = .ok (.if_icmp .ne 7, 3) := by decide +kernel
theorem dX7_set_18 : decode cX7_set 18 = .ok (.iconst 1, 1) := by decide +kernel
theorem dX7_set_19 : decode cX7_set 19 = .ok (.goto 4, 3) := by decide +kernel
theorem dX7_set_22 : decode cX7_set 22 = .ok (.iconst 0, 1) := by decide +kernel
theorem dX7_set_23 : decode cX7_set 23 = .ok (.iload_n 1, 1) := by decide +kernel
theorem dX7_set_24 : decode cX7_set 24 = .ok (.iconst 1, 1) := by decide +kernel
theorem dX7_set_25 : decode cX7_set 25 = .ok (.if_icmp .ne 8, 3) := by decide +kernel
theorem dX7_set_28 : decode cX7_set 28 = .ok (.bipush 99, 2) := by decide +kernel
theorem dX7_set_30 : decode cX7_set 30 = .ok (.goto 5, 3) := by decide +kernel
theorem dX7_set_33 : decode cX7_set 33 = .ok (.bipush 98, 2) := by decide +kernel
theorem dX7_set_35 : decode cX7_set 35 = .ok (.invokestatic 77, 3) := by decide +kernel
theorem dX7_set_38 : decode cX7_set 38 = .ok (.ifCond .ne 6, 3) := by decide +kernel
theorem dX7_set_41 : decode cX7_set 41 = .ok (.bipush (-2), 2) := by decide +kernel
theorem dX7_set_43 : decode cX7_set 43 = .ok (.ireturn, 1) := by decide +kernel
theorem dX7_set_44 : decode cX7_set 44 = .ok (.aload_n 0, 1) := by decide +kernel
theorem dX7_set_45 : decode cX7_set 45 = .ok (.getfield 31, 3) := by decide +kernel
theorem dX7_set_48 : decode cX7_set 48 = .ok (.iload_n 1, 1) := by decide +kernel
theorem dX7_set_49 : decode cX7_set 49 = .ok (.iaload, 1) := by decide +kernel
theorem dX7_set_50 : decode cX7_set 50 = .ok (.istore_n 3, 1) := by decide +kernel
theorem dX7_set_51 : decode cX7_set 51 = .ok (.aload_n 0, 1) := by decide +kernel
theorem dX7_set_52 : decode cX7_set 52 = .ok (.getfield 31, 3) := by decide +kernel
theorem dX7_set_55 : decode cX7_set 55 = .ok (.iload_n 1, 1) := by decide +kernel
theorem dX7_set_56 : decode cX7_set 56 = .ok (.iload_n 2, 1) := by decide +kernel
theorem dX7_set_57 : decode cX7_set 57 = .ok (.iastore, 1) := by decide +kernel
theorem dX7_set_58 : decode cX7_set 58 = .ok (.iload_n 3, 1) := by decide +kernel
theorem dX7_set_59 : decode cX7_set 59 = .ok (.ireturn, 1) := by decide +kernel
theorem dX7_say_0 : decode cX7_say 0 = .ok (.iload_n 1, 1) := by decide +kernel
theorem dX7_say_1 : decode cX7_say 1 = .ok (.bipush 33, 2) := by decide +kernel
theorem dX7_say_3 : decode cX7_say 3 = .ok (.bipush 126, 2) := by decide +kernel
theorem dX7_say_5 : decode cX7_say 5 = .ok (.invokestatic 77, 3) := by decide +kernel
theorem dX7_say_8 : decode cX7_say 8 = .ok (.ifCond .ne 6, 3) := by decide +kernel
theorem dX7_say_11 : decode cX7_say 11 = .ok (.bipush (-2), 2) := by decide +kernel
theorem dX7_say_13 : decode cX7_say 13 = .ok (.ireturn, 1) := by decide +kernel
theorem dX7_say_14 : decode cX7_say 14 = .ok (.aload_n 0, 1) := by decide +kernel
theorem dX7_say_15 : decode cX7_say 15 = .ok (.getfield 107, 3) := by decide +kernel
theorem dX7_say_18 : decode cX7_say 18 = .ok (.bipush 80, 2) := by decide +kernel
theorem dX7_say_20 : decode cX7_say 20 = .ok (.if_icmp .ne 6, 3) := by decide +kernel
theorem dX7_say_23 : decode cX7_say 23 = .ok (.bipush (-4), 2) := by decide +kernel
theorem dX7_say_25 : decode cX7_say 25 = .ok (.ireturn, 1) := by decide +kernel
theorem dX7_say_26 : decode cX7_say 26 = .ok (.aload_n 0, 1) := by decide +kernel
theorem dX7_say_27 : decode cX7_say 27 = .ok (.getfield 34, 3) := by decide +kernel
theorem dX7_say_30 : decode cX7_say 30 = .ok (.aload_n 0, 1) := by decide +kernel
theorem dX7_say_31 : decode cX7_say 31 = .ok (.getfield 107, 3) := by decide +kernel
theorem dX7_say_34 : decode cX7_say 34 = .ok (.iload_n 1, 1) := by decide +kernel
theorem dX7_say_35 : decode cX7_say 35 = .ok (.iastore, 1) := by decide +kernel
theorem dX7_say_36 : decode cX7_say 36 = .ok (.aload_n 0, 1) := by decide +kernel
theorem dX7_say_37 : decode cX7_say 37 = .ok (.dup, 1) := by decide +kernel
theorem dX7_say_38 : decode cX7_say 38 = .ok (.getfield 107, 3) := by decide +kernel
theorem dX7_say_41 : decode cX7_say 41 = .ok (.iconst 1, 1) := by decide +kernel
theorem dX7_say_42 : decode cX7_say 42 = .ok (.iadd, 1) := by decide +kernel
theorem dX7_say_43 : decode cX7_say 43 = .ok (.putfield 107, 3) := by decide +kernel
theorem dX7_say_46 : decode cX7_say 46 = .ok (.aload_n 0, 1) := by decide +kernel
theorem dX7_say_47 : decode cX7_say 47 = .ok (.getfield 107, 3) := by decide +kernel
theorem dX7_say_50 : decode cX7_say 50 = .ok (.ireturn, 1) := by decide +kernel
theorem dX7_wipe_0 : decode cX7_wipe 0 = .ok (.aload_n 0, 1) := by decide +kernel
theorem dX7_wipe_1 : decode cX7_wipe 1 = .ok (.getfield 107, 3) := by decide +kernel
theorem dX7_wipe_4 : decode cX7_wipe 4 = .ok (.istore_n 1, 1) := by decide +kernel
theorem dX7_wipe_5 : decode cX7_wipe 5 = .ok (.aload_n 0, 1) := by decide +kernel
theorem dX7_wipe_6 : decode cX7_wipe 6 = .ok (.iconst 0, 1) := by decide +kernel
theorem dX7_wipe_7 : decode cX7_wipe 7 = .ok (.putfield 107, 3) := by decide +kernel
theorem dX7_wipe_10 : decode cX7_wipe 10 = .ok (.iload_n 1, 1) := by decide +kernel
theorem dX7_wipe_11 : decode cX7_wipe 11 = .ok (.ireturn, 1) := by decide +kernel
theorem dX7_faultOf_0 : decode cX7_faultOf 0 = .ok (.iconst 0, 1) := by decide +kernel
theorem dX7_faultOf_1 : decode cX7_faultOf 1 = .ok (.istore_n 1, 1) := by decide +kernel
theorem dX7_faultOf_2 : decode cX7_faultOf 2 = .ok (.iconst 0, 1) := by decide +kernel
theorem dX7_faultOf_3 : decode cX7_faultOf 3 = .ok (.istore_n 2, 1) := by decide +kernel
theorem dX7_faultOf_4 : decode cX7_faultOf 4 = .ok (.iconst 0, 1) := by decide +kernel
theorem dX7_faultOf_5 : decode cX7_faultOf 5 = .ok (.istore_n 3, 1) := by decide +kernel
theorem dX7_faultOf_6 : decode cX7_faultOf 6 = .ok (.iload_n 3, 1) := by decide +kernel
theorem dX7_faultOf_7 : decode cX7_faultOf 7 = .ok (.aload_n 0, 1) := by decide +kernel
theorem dX7_faultOf_8 : decode cX7_faultOf 8 = .ok (.getfield 107, 3) := by decide +kernel
theorem dX7_faultOf_11 : decode cX7_faultOf 11 = .ok (.if_icmp .ge 163, 3) := by decide +kernel
theorem dX7_faultOf_14 : decode cX7_faultOf 14 = .ok (.aload_n 0, 1) := by decide +kernel
theorem dX7_faultOf_15 : decode cX7_faultOf 15 = .ok (.getfield 34, 3) := by decide +kernel
theorem dX7_faultOf_18 : decode cX7_faultOf 18 = .ok (.iload_n 3, 1) := by decide +kernel
theorem dX7_faultOf_19 : decode cX7_faultOf 19 = .ok (.iaload, 1) := by decide +kernel
theorem dX7_faultOf_20 : decode cX7_faultOf 20 = .ok (.istore 4, 2) := by decide +kernel
theorem dX7_faultOf_22 : decode cX7_faultOf 22 = .ok (.iload_n 1, 1) := by decide +kernel
theorem dX7_faultOf_23 : decode cX7_faultOf 23 = .ok (.iconst 4, 1) := by decide +kernel
theorem dX7_faultOf_24 : decode cX7_faultOf 24 = .ok (.irem, 1) := by decide +kernel
theorem dX7_faultOf_25 : decode cX7_faultOf 25 = .ok (.istore 5, 2) := by decide +kernel
theorem dX7_faultOf_27 : decode cX7_faultOf 27 = .ok (.bipush (-6), 2) := by decide +kernel
theorem dX7_faultOf_29 : decode cX7_faultOf 29 = .ok (.istore 6, 2) := by decide +kernel
theorem dX7_faultOf_31 : decode cX7_faultOf 31 = .ok (.iload_n 1, 1) := by decide +kernel
theorem dX7_faultOf_32 : decode cX7_faultOf 32 = .ok (.iconst 3, 1) := by decide +kernel
theorem dX7_faultOf_33 : decode cX7_faultOf 33 = .ok (.if_icmp .ne 21, 3) := by decide +kernel
theorem dX7_faultOf_36 : decode cX7_faultOf 36 = .ok (.iload 4, 2) := by decide +kernel
theorem dX7_faultOf_38 : decode cX7_faultOf 38 = .ok (.bipush 62, 2) := by decide +kernel
theorem dX7_faultOf_40 : decode cX7_faultOf 40 = .ok (.if_icmp .ne 7, 3) := by decide +kernel
theorem dX7_faultOf_43 : decode cX7_faultOf 43 = .ok (.iconst 4, 1) := by decide +kernel
theorem dX7_faultOf_44 : decode cX7_faultOf 44 = .ok (.goto 5, 3) := by decide +kernel
theorem dX7_faultOf_47 : decode cX7_faultOf 47 = .ok (.bipush (-6), 2) := by decide +kernel
theorem dX7_faultOf_49 : decode cX7_faultOf 49 = .ok (.istore 6, 2) := by decide +kernel
theorem dX7_faultOf_51 : decode cX7_faultOf 51 = .ok (.goto 107, 3) := by decide +kernel
theorem dX7_faultOf_54 : decode cX7_faultOf 54 = .ok (.iload_n 1, 1) := by decide +kernel
theorem dX7_faultOf_55 : decode cX7_faultOf 55 = .ok (.bipush 7, 2) := by decide +kernel
theorem dX7_faultOf_57 : decode cX7_faultOf 57 = .ok (.if_icmp .ne 21, 3) := by decide +kernel
theorem dX7_faultOf_60 : decode cX7_faultOf 60 = .ok (.iload 4, 2) := by decide +kernel
theorem dX7_faultOf_62 : decode cX7_faultOf 62 = .ok (.bipush 59, 2) := by decide +kernel
theorem dX7_faultOf_64 : decode cX7_faultOf 64 = .ok (.if_icmp .ne 7, 3) := by decide +kernel
theorem dX7_faultOf_67 : decode cX7_faultOf 67 = .ok (.iconst 0, 1) := by decide +kernel
theorem dX7_faultOf_68 : decode cX7_faultOf 68 = .ok (.goto 5, 3) := by decide +kernel
theorem dX7_faultOf_71 : decode cX7_faultOf 71 = .ok (.bipush (-6), 2) := by decide +kernel
theorem dX7_faultOf_73 : decode cX7_faultOf 73 = .ok (.istore 6, 2) := by decide +kernel
theorem dX7_faultOf_75 : decode cX7_faultOf 75 = .ok (.goto 83, 3) := by decide +kernel
theorem dX7_faultOf_78 : decode cX7_faultOf 78 = .ok (.iload 5, 2) := by decide +kernel
theorem dX7_faultOf_80 : decode cX7_faultOf 80 = .ok (.iconst 2, 1) := by decide +kernel
theorem dX7_faultOf_81 : decode cX7_faultOf 81 = .ok (.if_icmp .ge 33, 3) := by decide +kernel
theorem dX7_faultOf_84 : decode cX7_faultOf 84 = .ok (.iload 4, 2) := by decide +kernel
theorem dX7_faultOf_86 : decode cX7_faultOf 86 = .ok (.iload 5, 2) := by decide +kernel
theorem dX7_faultOf_88 : decode cX7_faultOf 88 = .ok (.ifCond .ne 8, 3) := by decide +kernel
theorem dX7_faultOf_91 : decode cX7_faultOf 91 = .ok (.bipush 49, 2) := by decide +kernel
theorem dX7_faultOf_93 : decode cX7_faultOf 93 = .ok (.goto 5, 3) := by decide +kernel
theorem dX7_faultOf_96 : decode cX7_faultOf 96 = .ok (.bipush 48, 2) := by decide +kernel
theorem dX7_faultOf_98 : decode cX7_faultOf 98 = .ok (.bipush 57, 2) := by decide +kernel
theorem dX7_faultOf_100 : decode cX7_faultOf 100 = .ok (.invokestatic 77, 3) := by decide +kernel
theorem dX7_faultOf_103 : decode cX7_faultOf 103 = .ok (.ifCond .eq 11, 3) := by decide +kernel
theorem dX7_faultOf_106 : decode cX7_faultOf 106 = .ok (.iload_n 1, 1) := by decide +kernel
theorem dX7_faultOf_107 : decode cX7_faultOf 107 = .ok (.iconst 1, 1) := by decide +kernel
theorem dX7_faultOf_108 : decode cX7_faultOf 108 = .ok (.iadd, 1) := by decide +kernel
theorem dX7_faultOf_109 : decode cX7_faultOf 109 = .ok (.istore 6, 2) := by decide +kernel
theorem dX7_faultOf_111 : decode cX7_faultOf 111 = .ok (.goto 47, 3) := by decide +kernel
theorem dX7_faultOf_114 : decode cX7_faultOf 114 = .ok (.iload 5, 2) := by decide +kernel
theorem dX7_faultOf_116 : decode cX7_faultOf 116 = .ok (.ifCond .le 42, 3) := by decide +kernel
theorem dX7_faultOf_119 : decode cX7_faultOf 119 = .ok (.iload 4, 2) := by decide +kernel
theorem dX7_faultOf_121 : decode cX7_faultOf 121 = .ok (.bipush 97, 2) := by decide +kernel
theorem dX7_faultOf_123 : decode cX7_faultOf 123 = .ok (.bipush 104, 2) := by decide +kernel
theorem dX7_faultOf_125 : decode cX7_faultOf 125 = .ok (.invokestatic 77, 3) := by decide +kernel
theorem dX7_faultOf_128 : decode cX7_faultOf 128 = .ok (.ifCond .eq 30, 3) := by decide +kernel
theorem dX7_faultOf_131 : decode cX7_faultOf 131 = .ok (.iload_n 1, 1) := by decide +kernel
theorem dX7_faultOf_132 : decode cX7_faultOf 132 = .ok (.iconst 4, 1) := by decide +kernel
theorem dX7_faultOf_133 : decode cX7_faultOf 133 = .ok (.if_icmp .lt 9, 3) := by decide +kernel
theorem dX7_faultOf_136 : decode cX7_faultOf 136 = .ok (.iload 4, 2) := by decide +kernel
theorem dX7_faultOf_138 : decode cX7_faultOf 138 = .ok (.iload_n 2, 1) := by decide +kernel
theorem dX7_faultOf_139 : decode cX7_faultOf 139 = .ok (.if_icmp .eq 19, 3) := by decide +kernel
theorem dX7_faultOf_142 : decode cX7_faultOf 142 = .ok (.iload_n 1, 1) := by decide +kernel
theorem dX7_faultOf_143 : decode cX7_faultOf 143 = .ok (.iconst 4, 1) := by decide +kernel
theorem dX7_faultOf_144 : decode cX7_faultOf 144 = .ok (.if_icmp .ge 7, 3) := by decide +kernel
theorem dX7_faultOf_147 : decode cX7_faultOf 147 = .ok (.iconst 3, 1) := by decide +kernel
theorem dX7_faultOf_148 : decode cX7_faultOf 148 = .ok (.goto 5, 3) := by decide +kernel
theorem dX7_faultOf_151 : decode cX7_faultOf 151 = .ok (.bipush 7, 2) := by decide +kernel
theorem dX7_faultOf_153 : decode cX7_faultOf 153 = .ok (.istore 6, 2) := by decide +kernel
theorem dX7_faultOf_155 : decode cX7_faultOf 155 = .ok (.iload 4, 2) := by decide +kernel
theorem dX7_faultOf_157 : decode cX7_faultOf 157 = .ok (.istore_n 2, 1) := by decide +kernel
theorem dX7_faultOf_158 : decode cX7_faultOf 158 = .ok (.iload 6, 2) := by decide +kernel
theorem dX7_faultOf_160 : decode cX7_faultOf 160 = .ok (.ifCond .ge 5, 3) := by decide +kernel
theorem dX7_faultOf_163 : decode cX7_faultOf 163 = .ok (.iload_n 3, 1) := by decide +kernel
theorem dX7_faultOf_164 : decode cX7_faultOf 164 = .ok (.ireturn, 1) := by decide +kernel
theorem dX7_faultOf_165 : decode cX7_faultOf 165 = .ok (.iload 6, 2) := by decide +kernel
theorem dX7_faultOf_167 : decode cX7_faultOf 167 = .ok (.istore_n 1, 1) := by decide +kernel
theorem dX7_faultOf_168 : decode cX7_faultOf 168 = .ok (.iinc 3 1, 3) := by decide +kernel
theorem dX7_faultOf_171 : decode cX7_faultOf 171 = .ok (.goto (-165), 3) := by decide +kernel
theorem dX7_faultOf_174 : decode cX7_faultOf 174 = .ok (.iload_n 1, 1) := by decide +kernel
theorem dX7_faultOf_175 : decode cX7_faultOf 175 = .ok (.bipush 7, 2) := by decide +kernel
theorem dX7_faultOf_177 : decode cX7_faultOf 177 = .ok (.if_icmp .ne 8, 3) := by decide +kernel
theorem dX7_faultOf_180 : decode cX7_faultOf 180 = .ok (.bipush (-6), 2) := by decide +kernel
theorem dX7_faultOf_182 : decode cX7_faultOf 182 = .ok (.goto 7, 3) := by decide +kernel
theorem dX7_faultOf_185 : decode cX7_faultOf 185 = .ok (.aload_n 0, 1) := by decide +kernel
theorem dX7_faultOf_186 : decode cX7_faultOf 186 = .ok (.getfield 107, 3) := by decide +kernel
theorem dX7_faultOf_189 : decode cX7_faultOf 189 = .ok (.ireturn, 1) := by decide +kernel
theorem dX7_fault_0 : decode cX7_fault 0 = .ok (.aload_n 0, 1) := by decide +kernel
theorem dX7_fault_1 : decode cX7_fault 1 = .ok (.invokevirtual 110, 3) := by decide +kernel
theorem dX7_fault_4 : decode cX7_fault 4 = .ok (.ireturn, 1) := by decide +kernel
theorem dX7_read_0 : decode cX7_read 0 = .ok (.aload_n 0, 1) := by decide +kernel
theorem dX7_read_1 : decode cX7_read 1 = .ok (.invokevirtual 110, 3) := by decide +kernel
theorem dX7_read_4 : decode cX7_read 4 = .ok (.ifCond .lt 6, 3) := by decide +kernel
theorem dX7_read_7 : decode cX7_read 7 = .ok (.bipush (-5), 2) := by decide +kernel
theorem dX7_read_9 : decode cX7_read 9 = .ok (.ireturn, 1) := by decide +kernel
theorem dX7_read_10 : decode cX7_read 10 = .ok (.iconst 1, 1) := by decide +kernel
theorem dX7_read_11 : decode cX7_read 11 = .ok (.istore_n 1, 1) := by decide +kernel
theorem dX7_read_12 : decode cX7_read 12 = .ok (.iconst 0, 1) := by decide +kernel
theorem dX7_read_13 : decode cX7_read 13 = .ok (.istore_n 2, 1) := by decide +kernel
theorem dX7_read_14 : decode cX7_read 14 = .ok (.iload_n 2, 1) := by decide +kernel
theorem dX7_read_15 : decode cX7_read 15 = .ok (.aload_n 0, 1) := by decide +kernel
theorem dX7_read_16 : decode cX7_read 16 = .ok (.getfield 107, 3) := by decide +kernel
theorem dX7_read_19 : decode cX7_read 19 = .ok (.if_icmp .ge 28, 3) := by decide +kernel
theorem dX7_read_22 : decode cX7_read 22 = .ok (.iload_n 1, 1) := by decide +kernel
theorem dX7_read_23 : decode cX7_read 23 = .ok (.aload_n 0, 1) := by decide +kernel
theorem dX7_read_24 : decode cX7_read 24 = .ok (.getfield 34, 3) := by decide +kernel
theorem dX7_read_27 : decode cX7_read 27 = .ok (.iload_n 2, 1) := by decide +kernel
theorem dX7_read_28 : decode cX7_read 28 = .ok (.iaload, 1) := by decide +kernel
theorem dX7_read_29 : decode cX7_read 29 = .ok (.bipush 59, 2) := by decide +kernel
theorem dX7_read_31 : decode cX7_read 31 = .ok (.if_icmp .ne 7, 3) := by decide +kernel
theorem dX7_read_34 : decode cX7_read 34 = .ok (.iconst 1, 1) := by decide +kernel
theorem dX7_read_35 : decode cX7_read 35 = .ok (.goto 4, 3) := by decide +kernel
theorem dX7_read_38 : decode cX7_read 38 = .ok (.iconst 0, 1) := by decide +kernel
theorem dX7_read_39 : decode cX7_read 39 = .ok (.iadd, 1) := by decide +kernel
theorem dX7_read_40 : decode cX7_read 40 = .ok (.istore_n 1, 1) := by decide +kernel
theorem dX7_read_41 : decode cX7_read 41 = .ok (.iinc 2 1, 3) := by decide +kernel
theorem dX7_read_44 : decode cX7_read 44 = .ok (.goto (-30), 3) := by decide +kernel
theorem dX7_read_47 : decode cX7_read 47 = .ok (.aload_n 0, 1) := by decide +kernel
theorem dX7_read_48 : decode cX7_read 48 = .ok (.getfield 81, 3) := by decide +kernel
theorem dX7_read_51 : decode cX7_read 51 = .ok (.iload_n 1, 1) := by decide +kernel
theorem dX7_read_52 : decode cX7_read 52 = .ok (.iadd, 1) := by decide +kernel
theorem dX7_read_53 : decode cX7_read 53 = .ok (.bipush 12, 2) := by decide +kernel
theorem dX7_read_55 : decode cX7_read 55 = .ok (.if_icmp .le 6, 3) := by decide +kernel
theorem dX7_read_58 : decode cX7_read 58 = .ok (.bipush (-4), 2) := by decide +kernel
theorem dX7_read_60 : decode cX7_read 60 = .ok (.ireturn, 1) := by decide +kernel
theorem dX7_read_61 : decode cX7_read 61 = .ok (.iconst 0, 1) := by decide +kernel
theorem dX7_read_62 : decode cX7_read 62 = .ok (.istore_n 2, 1) := by decide +kernel
theorem dX7_read_63 : decode cX7_read 63 = .ok (.iconst 0, 1) := by decide +kernel
theorem dX7_read_64 : decode cX7_read 64 = .ok (.istore_n 3, 1) := by decide +kernel
theorem dX7_read_65 : decode cX7_read 65 = .ok (.iconst 0, 1) := by decide +kernel
theorem dX7_read_66 : decode cX7_read 66 = .ok (.istore 4, 2) := by decide +kernel
theorem dX7_read_68 : decode cX7_read 68 = .ok (.iconst 0, 1) := by decide +kernel
theorem dX7_read_69 : decode cX7_read 69 = .ok (.istore 5, 2) := by decide +kernel
theorem dX7_read_71 : decode cX7_read 71 = .ok (.iload 5, 2) := by decide +kernel
theorem dX7_read_73 : decode cX7_read 73 = .ok (.aload_n 0, 1) := by decide +kernel
theorem dX7_read_74 : decode cX7_read 74 = .ok (.getfield 107, 3) := by decide +kernel
theorem dX7_read_77 : decode cX7_read 77 = .ok (.if_icmp .gt 120, 3) := by decide +kernel
theorem dX7_read_80 : decode cX7_read 80 = .ok (.iload 5, 2) := by decide +kernel
theorem dX7_read_82 : decode cX7_read 82 = .ok (.aload_n 0, 1) := by decide +kernel
theorem dX7_read_83 : decode cX7_read 83 = .ok (.getfield 107, 3) := by decide +kernel
theorem dX7_read_86 : decode cX7_read 86 = .ok (.if_icmp .ge 13, 3) := by decide +kernel
theorem dX7_read_89 : decode cX7_read 89 = .ok (.aload_n 0, 1) := by decide +kernel
theorem dX7_read_90 : decode cX7_read 90 = .ok (.getfield 34, 3) := by decide +kernel
theorem dX7_read_93 : decode cX7_read 93 = .ok (.iload 5, 2) := by decide +kernel
theorem dX7_read_95 : decode cX7_read 95 = .ok (.iaload, 1) := by decide +kernel
theorem dX7_read_96 : decode cX7_read 96 = .ok (.goto 5, 3) := by decide +kernel
theorem dX7_read_99 : decode cX7_read 99 = .ok (.bipush 59, 2) := by decide +kernel
theorem dX7_read_101 : decode cX7_read 101 = .ok (.istore 6, 2) := by decide +kernel
theorem dX7_read_103 : decode cX7_read 103 = .ok (.iload 6, 2) := by decide +kernel
theorem dX7_read_105 : decode cX7_read 105 = .ok (.bipush 48, 2) := by decide +kernel
theorem dX7_read_107 : decode cX7_read 107 = .ok (.bipush 57, 2) := by decide +kernel
theorem dX7_read_109 : decode cX7_read 109 = .ok (.invokestatic 77, 3) := by decide +kernel
theorem dX7_read_112 : decode cX7_read 112 = .ok (.ifCond .eq 19, 3) := by decide +kernel
theorem dX7_read_115 : decode cX7_read 115 = .ok (.bipush 10, 2) := by decide +kernel
theorem dX7_read_117 : decode cX7_read 117 = .ok (.iload 4, 2) := by decide +kernel
theorem dX7_read_119 : decode cX7_read 119 = .ok (.imul, 1) := by decide +kernel
theorem dX7_read_120 : decode cX7_read 120 = .ok (.iload 6, 2) := by decide +kernel
theorem dX7_read_122 : decode cX7_read 122 = .ok (.iadd, 1) := by decide +kernel
theorem dX7_read_123 : decode cX7_read 123 = .ok (.bipush 48, 2) := by decide +kernel
theorem dX7_read_125 : decode cX7_read 125 = .ok (.isub, 1) := by decide +kernel
theorem dX7_read_126 : decode cX7_read 126 = .ok (.istore 4, 2) := by decide +kernel
theorem dX7_read_128 : decode cX7_read 128 = .ok (.goto 63, 3) := by decide +kernel
theorem dX7_read_131 : decode cX7_read 131 = .ok (.iload 6, 2) := by decide +kernel
theorem dX7_read_133 : decode cX7_read 133 = .ok (.bipush 62, 2) := by decide +kernel
theorem dX7_read_135 : decode cX7_read 135 = .ok (.if_icmp .ne 25, 3) := by decide +kernel
theorem dX7_read_138 : decode cX7_read 138 = .ok (.iload 4, 2) := by decide +kernel
theorem dX7_read_140 : decode cX7_read 140 = .ok (.istore_n 2, 1) := by decide +kernel
theorem dX7_read_141 : decode cX7_read 141 = .ok (.aload_n 0, 1) := by decide +kernel
theorem dX7_read_142 : decode cX7_read 142 = .ok (.getfield 34, 3) := by decide +kernel
theorem dX7_read_145 : decode cX7_read 145 = .ok (.iload 5, 2) := by decide +kernel
theorem dX7_read_147 : decode cX7_read 147 = .ok (.iconst 1, 1) := by decide +kernel
theorem dX7_read_148 : decode cX7_read 148 = .ok (.isub, 1) := by decide +kernel
theorem dX7_read_149 : decode cX7_read 149 = .ok (.iaload, 1) := by decide +kernel
theorem dX7_read_150 : decode cX7_read 150 = .ok (.bipush 97, 2) := by decide +kernel
theorem dX7_read_152 : decode cX7_read 152 = .ok (.isub, 1) := by decide +kernel
theorem dX7_read_153 : decode cX7_read 153 = .ok (.istore_n 3, 1) := by decide +kernel
theorem dX7_read_154 : decode cX7_read 154 = .ok (.iconst 0, 1) := by decide +kernel
theorem dX7_read_155 : decode cX7_read 155 = .ok (.istore 4, 2) := by decide +kernel
theorem dX7_read_157 : decode cX7_read 157 = .ok (.goto 34, 3) := by decide +kernel
theorem dX7_read_160 : decode cX7_read 160 = .ok (.iload 6, 2) := by decide +kernel
theorem dX7_read_162 : decode cX7_read 162 = .ok (.bipush 59, 2) := by decide +kernel
theorem dX7_read_164 : decode cX7_read 164 = .ok (.if_icmp .ne 27, 3) := by decide +kernel
theorem dX7_read_167 : decode cX7_read 167 = .ok (.aload_n 0, 1) := by decide +kernel
theorem dX7_read_168 : decode cX7_read 168 = .ok (.iload_n 3, 1) := by decide +kernel
theorem dX7_read_169 : decode cX7_read 169 = .ok (.iload_n 2, 1) := by decide +kernel
theorem dX7_read_170 : decode cX7_read 170 = .ok (.aload_n 0, 1) := by decide +kernel
theorem dX7_read_171 : decode cX7_read 171 = .ok (.getfield 34, 3) := by decide +kernel
theorem dX7_read_174 : decode cX7_read 174 = .ok (.iload 5, 2) := by decide +kernel
theorem dX7_read_176 : decode cX7_read 176 = .ok (.iconst 1, 1) := by decide +kernel
theorem dX7_read_177 : decode cX7_read 177 = .ok (.isub, 1) := by decide +kernel
theorem dX7_read_178 : decode cX7_read 178 = .ok (.iaload, 1) := by decide +kernel
theorem dX7_read_179 : decode cX7_read 179 = .ok (.bipush 97, 2) := by decide +kernel
theorem dX7_read_181 : decode cX7_read 181 = .ok (.isub, 1) := by decide +kernel
theorem dX7_read_182 : decode cX7_read 182 = .ok (.iload 4, 2) := by decide +kernel
theorem dX7_read_184 : decode cX7_read 184 = .ok (.invokevirtual 90, 3) := by decide +kernel
theorem dX7_read_187 : decode cX7_read 187 = .ok (.pop, 1) := by decide +kernel
theorem dX7_read_188 : decode cX7_read 188 = .ok (.iconst 0, 1) := by decide +kernel
theorem dX7_read_189 : decode cX7_read 189 = .ok (.istore 4, 2) := by decide +kernel
theorem dX7_read_191 : decode cX7_read 191 = .ok (.iinc 5 1, 3) := by decide +kernel
theorem dX7_read_194 : decode cX7_read 194 = .ok (.goto (-123), 3) := by decide +kernel
theorem dX7_read_197 : decode cX7_read 197 = .ok (.aload_n 0, 1) := by decide +kernel
theorem dX7_read_198 : decode cX7_read 198 = .ok (.iconst 0, 1) := by decide +kernel
theorem dX7_read_199 : decode cX7_read 199 = .ok (.putfield 107, 3) := by decide +kernel
theorem dX7_read_202 : decode cX7_read 202 = .ok (.aload_n 0, 1) := by decide +kernel
theorem dX7_read_203 : decode cX7_read 203 = .ok (.getfield 81, 3) := by decide +kernel
theorem dX7_read_206 : decode cX7_read 206 = .ok (.ireturn, 1) := by decide +kernel
theorem dX7_held_0 : decode cX7_held 0 = .ok (.lload_n 0, 1) := by decide +kernel
theorem dX7_held_1 : decode cX7_held 1 = .ok (.lstore 8, 2) := by decide +kernel
theorem dX7_held_3 : decode cX7_held 3 = .ok (.lload_n 2, 1) := by decide +kernel
theorem dX7_held_4 : decode cX7_held 4 = .ok (.lstore 10, 2) := by decide +kernel
theorem dX7_held_6 : decode cX7_held 6 = .ok (.lload 4, 2) := by decide +kernel
theorem dX7_held_8 : decode cX7_held 8 = .ok (.lstore 12, 2) := by decide +kernel
theorem dX7_held_10 : decode cX7_held 10 = .ok (.lload 6, 2) := by decide +kernel
theorem dX7_held_12 : decode cX7_held 12 = .ok (.lstore 14, 2) := by decide +kernel
theorem dX7_held_14 : decode cX7_held 14 = .ok (.iconst 1, 1) := by decide +kernel
theorem dX7_held_15 : decode cX7_held 15 = .ok (.istore 16, 2) := by decide +kernel
theorem dX7_held_17 : decode cX7_held 17 = .ok (.lload 10, 2) := by decide +kernel
theorem dX7_held_19 : decode cX7_held 19 = .ok (.lconst 0, 1) := by decide +kernel
theorem dX7_held_20 : decode cX7_held 20 = .ok (.lcmp, 1) := by decide +kernel
theorem dX7_held_21 : decode cX7_held 21 = .ok (.ifCond .eq 10, 3) := by decide +kernel
theorem dX7_held_24 : decode cX7_held 24 = .ok (.lload 14, 2) := by decide +kernel
theorem dX7_held_26 : decode cX7_held 26 = .ok (.lconst 0, 1) := by decide +kernel
theorem dX7_held_27 : decode cX7_held 27 = .ok (.lcmp, 1) := by decide +kernel
theorem dX7_held_28 : decode cX7_held 28 = .ok (.ifCond .ne 31, 3) := by decide +kernel
theorem dX7_held_31 : decode cX7_held 31 = .ok (.lload 10, 2) := by decide +kernel
theorem dX7_held_33 : decode cX7_held 33 = .ok (.lload 14, 2) := by decide +kernel
theorem dX7_held_35 : decode cX7_held 35 = .ok (.lcmp, 1) := by decide +kernel
theorem dX7_held_36 : decode cX7_held 36 = .ok (.ifCond .ne 7, 3) := by decide +kernel
theorem dX7_held_39 : decode cX7_held 39 = .ok (.iconst 0, 1) := by decide +kernel
theorem dX7_held_40 : decode cX7_held 40 = .ok (.goto 18, 3) := by decide +kernel
theorem dX7_held_43 : decode cX7_held 43 = .ok (.lload 10, 2) := by decide +kernel
theorem dX7_held_45 : decode cX7_held 45 = .ok (.lconst 0, 1) := by decide +kernel
theorem dX7_held_46 : decode cX7_held 46 = .ok (.lcmp, 1) := by decide +kernel
theorem dX7_held_47 : decode cX7_held 47 = .ok (.ifCond .ne 8, 3) := by decide +kernel
theorem dX7_held_50 : decode cX7_held 50 = .ok (.iload 16, 2) := by decide +kernel
theorem dX7_held_52 : decode cX7_held 52 = .ok (.goto 6, 3) := by decide +kernel
theorem dX7_held_55 : decode cX7_held 55 = .ok (.iload 16, 2) := by decide +kernel
theorem dX7_held_57 : decode cX7_held 57 = .ok (.ineg, 1) := by decide +kernel
theorem dX7_held_58 : decode cX7_held 58 = .ok (.ireturn, 1) := by decide +kernel
theorem dX7_held_59 : decode cX7_held 59 = .ok (.lload 8, 2) := by decide +kernel
theorem dX7_held_61 : decode cX7_held 61 = .ok (.lload 10, 2) := by decide +kernel
theorem dX7_held_63 : decode cX7_held 63 = .ok (.ldiv, 1) := by decide +kernel
theorem dX7_held_64 : decode cX7_held 64 = .ok (.lstore 17, 2) := by decide +kernel
theorem dX7_held_66 : decode cX7_held 66 = .ok (.lload 12, 2) := by decide +kernel
theorem dX7_held_68 : decode cX7_held 68 = .ok (.lload 14, 2) := by decide +kernel
theorem dX7_held_70 : decode cX7_held 70 = .ok (.ldiv, 1) := by decide +kernel
theorem dX7_held_71 : decode cX7_held 71 = .ok (.lstore 19, 2) := by decide +kernel
theorem dX7_held_73 : decode cX7_held 73 = .ok (.lload 17, 2) := by decide +kernel
theorem dX7_held_75 : decode cX7_held 75 = .ok (.lload 19, 2) := by decide +kernel
theorem dX7_held_77 : decode cX7_held 77 = .ok (.lcmp, 1) := by decide +kernel
theorem dX7_held_78 : decode cX7_held 78 = .ok (.ifCond .eq 20, 3) := by decide +kernel
theorem dX7_held_81 : decode cX7_held 81 = .ok (.lload 17, 2) := by decide +kernel
theorem dX7_held_83 : decode cX7_held 83 = .ok (.lload 19, 2) := by decide +kernel
theorem dX7_held_85 : decode cX7_held 85 = .ok (.lcmp, 1) := by decide +kernel
theorem dX7_held_86 : decode cX7_held 86 = .ok (.ifCond .le 8, 3) := by decide +kernel
theorem dX7_held_89 : decode cX7_held 89 = .ok (.iload 16, 2) := by decide +kernel
theorem dX7_held_91 : decode cX7_held 91 = .ok (.goto 6, 3) := by decide +kernel
theorem dX7_held_94 : decode cX7_held 94 = .ok (.iload 16, 2) := by decide +kernel
theorem dX7_held_96 : decode cX7_held 96 = .ok (.ineg, 1) := by decide +kernel
theorem dX7_held_97 : decode cX7_held 97 = .ok (.ireturn, 1) := by decide +kernel
theorem dX7_held_98 : decode cX7_held 98 = .ok (.lload 8, 2) := by decide +kernel
theorem dX7_held_100 : decode cX7_held 100 = .ok (.lload 10, 2) := by decide +kernel
theorem dX7_held_102 : decode cX7_held 102 = .ok (.lrem, 1) := by decide +kernel
theorem dX7_held_103 : decode cX7_held 103 = .ok (.lstore 21, 2) := by decide +kernel
theorem dX7_held_105 : decode cX7_held 105 = .ok (.lload 12, 2) := by decide +kernel
theorem dX7_held_107 : decode cX7_held 107 = .ok (.lload 14, 2) := by decide +kernel
theorem dX7_held_109 : decode cX7_held 109 = .ok (.lrem, 1) := by decide +kernel
theorem dX7_held_110 : decode cX7_held 110 = .ok (.lstore 23, 2) := by decide +kernel
theorem dX7_held_112 : decode cX7_held 112 = .ok (.lload 10, 2) := by decide +kernel
theorem dX7_held_114 : decode cX7_held 114 = .ok (.lstore 8, 2) := by decide +kernel
theorem dX7_held_116 : decode cX7_held 116 = .ok (.lload 21, 2) := by decide +kernel
theorem dX7_held_118 : decode cX7_held 118 = .ok (.lstore 10, 2) := by decide +kernel
theorem dX7_held_120 : decode cX7_held 120 = .ok (.lload 14, 2) := by decide +kernel
theorem dX7_held_122 : decode cX7_held 122 = .ok (.lstore 12, 2) := by decide +kernel
theorem dX7_held_124 : decode cX7_held 124 = .ok (.lload 23, 2) := by decide +kernel
theorem dX7_held_126 : decode cX7_held 126 = .ok (.lstore 14, 2) := by decide +kernel
theorem dX7_held_128 : decode cX7_held 128 = .ok (.iload 16, 2) := by decide +kernel
theorem dX7_held_130 : decode cX7_held 130 = .ok (.ineg, 1) := by decide +kernel
theorem dX7_held_131 : decode cX7_held 131 = .ok (.istore 16, 2) := by decide +kernel
theorem dX7_held_133 : decode cX7_held 133 = .ok (.goto (-116), 3) := by decide +kernel
theorem dX7_keepRound_0 : decode cX7_keepRound 0 = .ok (.aload_n 0, 1) := by decide +kernel
theorem dX7_keepRound_1 : decode cX7_keepRound 1 = .ok (.dup, 1) := by decide +kernel
theorem dX7_keepRound_2 : decode cX7_keepRound 2 = .ok (.getfield 114, 3) := by decide +kernel
theorem dX7_keepRound_5 : decode cX7_keepRound 5 = .ok (.iconst 1, 1) := by decide +kernel
theorem dX7_keepRound_6 : decode cX7_keepRound 6 = .ok (.iadd, 1) := by decide +kernel
theorem dX7_keepRound_7 : decode cX7_keepRound 7 = .ok (.putfield 114, 3) := by decide +kernel
end
section
theorem dX7_keepRound_10 : decode cX7_keepRound 10 = .ok (.aload_n 0, 1) := by decide +kernel
theorem dX7_keepRound_11 : decode cX7_keepRound 11 = .ok (.getfield 59, 3) := by decide +kernel
theorem dX7_keepRound_14 : decode cX7_keepRound 14 = .ok (.iload_n 1, 1) := by decide +kernel
theorem dX7_keepRound_15 : decode cX7_keepRound 15 = .ok (.laload, 1) := by decide +kernel
theorem dX7_keepRound_16 : decode cX7_keepRound 16 = .ok (.aload_n 0, 1) := by decide +kernel
theorem dX7_keepRound_17 : decode cX7_keepRound 17 = .ok (.getfield 62, 3) := by decide +kernel
theorem dX7_keepRound_20 : decode cX7_keepRound 20 = .ok (.iload_n 1, 1) := by decide +kernel
theorem dX7_keepRound_21 : decode cX7_keepRound 21 = .ok (.laload, 1) := by decide +kernel
theorem dX7_keepRound_22 : decode cX7_keepRound 22 = .ok (.lcmp, 1) := by decide +kernel
theorem dX7_keepRound_23 : decode cX7_keepRound 23 = .ok (.ifCond .le 116, 3) := by decide +kernel
theorem dX7_keepRound_26 : decode cX7_keepRound 26 = .ok (.aload_n 0, 1) := by decide +kernel
theorem dX7_keepRound_27 : decode cX7_keepRound 27 = .ok (.getfield 40, 3) := by decide +kernel
theorem dX7_keepRound_30 : decode cX7_keepRound 30 = .ok (.aload_n 0, 1) := by decide +kernel
theorem dX7_keepRound_31 : decode cX7_keepRound 31 = .ok (.getfield 117, 3) := by decide +kernel
theorem dX7_keepRound_34 : decode cX7_keepRound 34 = .ok (.iload_n 1, 1) := by decide +kernel
theorem dX7_keepRound_35 : decode cX7_keepRound 35 = .ok (.iastore, 1) := by decide +kernel
theorem dX7_keepRound_36 : decode cX7_keepRound 36 = .ok (.aload_n 0, 1) := by decide +kernel
theorem dX7_keepRound_37 : decode cX7_keepRound 37 = .ok (.getfield 43, 3) := by decide +kernel
theorem dX7_keepRound_40 : decode cX7_keepRound 40 = .ok (.aload_n 0, 1) := by decide +kernel
theorem dX7_keepRound_41 : decode cX7_keepRound 41 = .ok (.getfield 117, 3) := by decide +kernel
theorem dX7_keepRound_44 : decode cX7_keepRound 44 = .ok (.iconst 0, 1) := by decide +kernel
theorem dX7_keepRound_45 : decode cX7_keepRound 45 = .ok (.iastore, 1) := by decide +kernel
theorem dX7_keepRound_46 : decode cX7_keepRound 46 = .ok (.iconst 0, 1) := by decide +kernel
theorem dX7_keepRound_47 : decode cX7_keepRound 47 = .ok (.istore_n 2, 1) := by decide +kernel
theorem dX7_keepRound_48 : decode cX7_keepRound 48 = .ok (.iload_n 2, 1) := by decide +kernel
theorem dX7_keepRound_49 : decode cX7_keepRound 49 = .ok (.iload_n 1, 1) := by decide +kernel
theorem dX7_keepRound_50 : decode cX7_keepRound 50 = .ok (.if_icmp .ge 49, 3) := by decide +kernel
theorem dX7_keepRound_53 : decode cX7_keepRound 53 = .ok (.aload_n 0, 1) := by decide +kernel
theorem dX7_keepRound_54 : decode cX7_keepRound 54 = .ok (.getfield 46, 3) := by decide +kernel
theorem dX7_keepRound_57 : decode cX7_keepRound 57 = .ok (.bipush 8, 2) := by decide +kernel
theorem dX7_keepRound_59 : decode cX7_keepRound 59 = .ok (.aload_n 0, 1) := by decide +kernel
theorem dX7_keepRound_60 : decode cX7_keepRound 60 = .ok (.getfield 117, 3) := by decide +kernel
theorem dX7_keepRound_63 : decode cX7_keepRound 63 = .ok (.imul, 1) := by decide +kernel
theorem dX7_keepRound_64 : decode cX7_keepRound 64 = .ok (.iload_n 2, 1) := by decide +kernel
theorem dX7_keepRound_65 : decode cX7_keepRound 65 = .ok (.iadd, 1) := by decide +kernel
theorem dX7_keepRound_66 : decode cX7_keepRound 66 = .ok (.aload_n 0, 1) := by decide +kernel
theorem dX7_keepRound_67 : decode cX7_keepRound 67 = .ok (.getfield 56, 3) := by decide +kernel
theorem dX7_keepRound_70 : decode cX7_keepRound 70 = .ok (.iload_n 2, 1) := by decide +kernel
theorem dX7_keepRound_71 : decode cX7_keepRound 71 = .ok (.iaload, 1) := by decide +kernel
theorem dX7_keepRound_72 : decode cX7_keepRound 72 = .ok (.iastore, 1) := by decide +kernel
theorem dX7_keepRound_73 : decode cX7_keepRound 73 = .ok (.aload_n 0, 1) := by decide +kernel
theorem dX7_keepRound_74 : decode cX7_keepRound 74 = .ok (.getfield 43, 3) := by decide +kernel
theorem dX7_keepRound_77 : decode cX7_keepRound 77 = .ok (.aload_n 0, 1) := by decide +kernel
theorem dX7_keepRound_78 : decode cX7_keepRound 78 = .ok (.getfield 117, 3) := by decide +kernel
theorem dX7_keepRound_81 : decode cX7_keepRound 81 = .ok (.dup2, 1) := by decide +kernel
theorem dX7_keepRound_82 : decode cX7_keepRound 82 = .ok (.iaload, 1) := by decide +kernel
theorem dX7_keepRound_83 : decode cX7_keepRound 83 = .ok (.iconst 1, 1) := by decide +kernel
theorem dX7_keepRound_84 : decode cX7_keepRound 84 = .ok (.aload_n 0, 1) := by decide +kernel
theorem dX7_keepRound_85 : decode cX7_keepRound 85 = .ok (.getfield 56, 3) := by decide +kernel
theorem dX7_keepRound_88 : decode cX7_keepRound 88 = .ok (.iload_n 2, 1) := by decide +kernel
theorem dX7_keepRound_89 : decode cX7_keepRound 89 = .ok (.iaload, 1) := by decide +kernel
theorem dX7_keepRound_90 : decode cX7_keepRound 90 = .ok (.ishl, 1) := by decide +kernel
theorem dX7_keepRound_91 : decode cX7_keepRound 91 = .ok (.ior, 1) := by decide +kernel
theorem dX7_keepRound_92 : decode cX7_keepRound 92 = .ok (.iastore, 1) := by decide +kernel
theorem dX7_keepRound_93 : decode cX7_keepRound 93 = .ok (.iinc 2 1, 3) := by decide +kernel
theorem dX7_keepRound_96 : decode cX7_keepRound 96 = .ok (.goto (-48), 3) := by decide +kernel
theorem dX7_keepRound_99 : decode cX7_keepRound 99 = .ok (.aload_n 0, 1) := by decide +kernel
theorem dX7_keepRound_100 : decode cX7_keepRound 100 = .ok (.getfield 49, 3) := by decide +kernel
theorem dX7_keepRound_103 : decode cX7_keepRound 103 = .ok (.aload_n 0, 1) := by decide +kernel
theorem dX7_keepRound_104 : decode cX7_keepRound 104 = .ok (.getfield 117, 3) := by decide +kernel
theorem dX7_keepRound_107 : decode cX7_keepRound 107 = .ok (.aload_n 0, 1) := by decide +kernel
theorem dX7_keepRound_108 : decode cX7_keepRound 108 = .ok (.getfield 59, 3) := by decide +kernel
theorem dX7_keepRound_111 : decode cX7_keepRound 111 = .ok (.iload_n 1, 1) := by decide +kernel
theorem dX7_keepRound_112 : decode cX7_keepRound 112 = .ok (.laload, 1) := by decide +kernel
theorem dX7_keepRound_113 : decode cX7_keepRound 113 = .ok (.lastore, 1) := by decide +kernel
theorem dX7_keepRound_114 : decode cX7_keepRound 114 = .ok (.aload_n 0, 1) := by decide +kernel
theorem dX7_keepRound_115 : decode cX7_keepRound 115 = .ok (.getfield 53, 3) := by decide +kernel
theorem dX7_keepRound_118 : decode cX7_keepRound 118 = .ok (.aload_n 0, 1) := by decide +kernel
theorem dX7_keepRound_119 : decode cX7_keepRound 119 = .ok (.getfield 117, 3) := by decide +kernel
theorem dX7_keepRound_122 : decode cX7_keepRound 122 = .ok (.aload_n 0, 1) := by decide +kernel
theorem dX7_keepRound_123 : decode cX7_keepRound 123 = .ok (.getfield 62, 3) := by decide +kernel
theorem dX7_keepRound_126 : decode cX7_keepRound 126 = .ok (.iload_n 1, 1) := by decide +kernel
theorem dX7_keepRound_127 : decode cX7_keepRound 127 = .ok (.laload, 1) := by decide +kernel
theorem dX7_keepRound_128 : decode cX7_keepRound 128 = .ok (.lastore, 1) := by decide +kernel
theorem dX7_keepRound_129 : decode cX7_keepRound 129 = .ok (.aload_n 0, 1) := by decide +kernel
theorem dX7_keepRound_130 : decode cX7_keepRound 130 = .ok (.dup, 1) := by decide +kernel
theorem dX7_keepRound_131 : decode cX7_keepRound 131 = .ok (.getfield 117, 3) := by decide +kernel
theorem dX7_keepRound_134 : decode cX7_keepRound 134 = .ok (.iconst 1, 1) := by decide +kernel
theorem dX7_keepRound_135 : decode cX7_keepRound 135 = .ok (.iadd, 1) := by decide +kernel
theorem dX7_keepRound_136 : decode cX7_keepRound 136 = .ok (.putfield 117, 3) := by decide +kernel
theorem dX7_keepRound_139 : decode cX7_keepRound 139 = .ok (.return_, 1) := by decide +kernel
theorem dX7_layRounds_0 : decode cX7_layRounds 0 = .ok (.aload_n 0, 1) := by decide +kernel
theorem dX7_layRounds_1 : decode cX7_layRounds 1 = .ok (.iconst 0, 1) := by decide +kernel
theorem dX7_layRounds_2 : decode cX7_layRounds 2 = .ok (.putfield 114, 3) := by decide +kernel
theorem dX7_layRounds_5 : decode cX7_layRounds 5 = .ok (.aload_n 0, 1) := by decide +kernel
theorem dX7_layRounds_6 : decode cX7_layRounds 6 = .ok (.iconst 0, 1) := by decide +kernel
theorem dX7_layRounds_7 : decode cX7_layRounds 7 = .ok (.putfield 117, 3) := by decide +kernel
theorem dX7_layRounds_10 : decode cX7_layRounds 10 = .ok (.aload_n 0, 1) := by decide +kernel
theorem dX7_layRounds_11 : decode cX7_layRounds 11 = .ok (.getfield 59, 3) := by decide +kernel
theorem dX7_layRounds_14 : decode cX7_layRounds 14 = .ok (.iconst 0, 1) := by decide +kernel
theorem dX7_layRounds_15 : decode cX7_layRounds 15 = .ok (.lconst 1, 1) := by decide +kernel
theorem dX7_layRounds_16 : decode cX7_layRounds 16 = .ok (.lastore, 1) := by decide +kernel
theorem dX7_layRounds_17 : decode cX7_layRounds 17 = .ok (.aload_n 0, 1) := by decide +kernel
theorem dX7_layRounds_18 : decode cX7_layRounds 18 = .ok (.getfield 62, 3) := by decide +kernel
theorem dX7_layRounds_21 : decode cX7_layRounds 21 = .ok (.iconst 0, 1) := by decide +kernel
theorem dX7_layRounds_22 : decode cX7_layRounds 22 = .ok (.lconst 1, 1) := by decide +kernel
theorem dX7_layRounds_23 : decode cX7_layRounds 23 = .ok (.lastore, 1) := by decide +kernel
theorem dX7_layRounds_24 : decode cX7_layRounds 24 = .ok (.iconst 0, 1) := by decide +kernel
theorem dX7_layRounds_25 : decode cX7_layRounds 25 = .ok (.istore_n 2, 1) := by decide +kernel
theorem dX7_layRounds_26 : decode cX7_layRounds 26 = .ok (.iload_n 2, 1) := by decide +kernel
theorem dX7_layRounds_27 : decode cX7_layRounds 27 = .ok (.bipush 8, 2) := by decide +kernel
theorem dX7_layRounds_29 : decode cX7_layRounds 29 = .ok (.if_icmp .ge 335, 3) := by decide +kernel
theorem dX7_layRounds_32 : decode cX7_layRounds 32 = .ok (.iconst 0, 1) := by decide +kernel
theorem dX7_layRounds_33 : decode cX7_layRounds 33 = .ok (.istore_n 3, 1) := by decide +kernel
theorem dX7_layRounds_34 : decode cX7_layRounds 34 = .ok (.iconst 1, 1) := by decide +kernel
theorem dX7_layRounds_35 : decode cX7_layRounds 35 = .ok (.iload_n 2, 1) := by decide +kernel
theorem dX7_layRounds_36 : decode cX7_layRounds 36 = .ok (.ishl, 1) := by decide +kernel
theorem dX7_layRounds_37 : decode cX7_layRounds 37 = .ok (.istore 4, 2) := by decide +kernel
theorem dX7_layRounds_39 : decode cX7_layRounds 39 = .ok (.iload_n 2, 1) := by decide +kernel
theorem dX7_layRounds_40 : decode cX7_layRounds 40 = .ok (.istore 5, 2) := by decide +kernel
theorem dX7_layRounds_42 : decode cX7_layRounds 42 = .ok (.iconst 0, 1) := by decide +kernel
theorem dX7_layRounds_43 : decode cX7_layRounds 43 = .ok (.istore 6, 2) := by decide +kernel
theorem dX7_layRounds_45 : decode cX7_layRounds 45 = .ok (.iconst 1, 1) := by decide +kernel
theorem dX7_layRounds_46 : decode cX7_layRounds 46 = .ok (.istore 7, 2) := by decide +kernel
theorem dX7_layRounds_48 : decode cX7_layRounds 48 = .ok (.iload 7, 2) := by decide +kernel
theorem dX7_layRounds_50 : decode cX7_layRounds 50 = .ok (.ifCond .eq 308, 3) := by decide +kernel
theorem dX7_layRounds_53 : decode cX7_layRounds 53 = .ok (.iload 6, 2) := by decide +kernel
theorem dX7_layRounds_55 : decode cX7_layRounds 55 = .ok (.aload_n 0, 1) := by decide +kernel
theorem dX7_layRounds_56 : decode cX7_layRounds 56 = .ok (.getfield 81, 3) := by decide +kernel
theorem dX7_layRounds_59 : decode cX7_layRounds 59 = .ok (.if_icmp .ne 88, 3) := by decide +kernel
theorem dX7_layRounds_62 : decode cX7_layRounds 62 = .ok (.iload_n 3, 1) := by decide +kernel
theorem dX7_layRounds_63 : decode cX7_layRounds 63 = .ok (.ifCond .le 7, 3) := by decide +kernel
theorem dX7_layRounds_66 : decode cX7_layRounds 66 = .ok (.iconst 1, 1) := by decide +kernel
theorem dX7_layRounds_67 : decode cX7_layRounds 67 = .ok (.goto 4, 3) := by decide +kernel
theorem dX7_layRounds_70 : decode cX7_layRounds 70 = .ok (.iconst 0, 1) := by decide +kernel
theorem dX7_layRounds_71 : decode cX7_layRounds 71 = .ok (.istore 7, 2) := by decide +kernel
theorem dX7_layRounds_73 : decode cX7_layRounds 73 = .ok (.iload 7, 2) := by decide +kernel
theorem dX7_layRounds_75 : decode cX7_layRounds 75 = .ok (.ifCond .eq (-27), 3) := by decide +kernel
theorem dX7_layRounds_78 : decode cX7_layRounds 78 = .ok (.iinc 3 (-1), 3) := by decide +kernel
theorem dX7_layRounds_81 : decode cX7_layRounds 81 = .ok (.aload_n 0, 1) := by decide +kernel
theorem dX7_layRounds_82 : decode cX7_layRounds 82 = .ok (.getfield 56, 3) := by decide +kernel
theorem dX7_layRounds_85 : decode cX7_layRounds 85 = .ok (.iload_n 3, 1) := by decide +kernel
theorem dX7_layRounds_86 : decode cX7_layRounds 86 = .ok (.iaload, 1) := by decide +kernel
theorem dX7_layRounds_87 : decode cX7_layRounds 87 = .ok (.iconst 1, 1) := by decide +kernel
theorem dX7_layRounds_88 : decode cX7_layRounds 88 = .ok (.iadd, 1) := by decide +kernel
theorem dX7_layRounds_89 : decode cX7_layRounds 89 = .ok (.istore 6, 2) := by decide +kernel
theorem dX7_layRounds_91 : decode cX7_layRounds 91 = .ok (.aload_n 0, 1) := by decide +kernel
theorem dX7_layRounds_92 : decode cX7_layRounds 92 = .ok (.getfield 7, 3) := by decide +kernel
theorem dX7_layRounds_95 : decode cX7_layRounds 95 = .ok (.aload_n 0, 1) := by decide +kernel
theorem dX7_layRounds_96 : decode cX7_layRounds 96 = .ok (.getfield 56, 3) := by decide +kernel
theorem dX7_layRounds_99 : decode cX7_layRounds 99 = .ok (.iload_n 3, 1) := by decide +kernel
theorem dX7_layRounds_100 : decode cX7_layRounds 100 = .ok (.iaload, 1) := by decide +kernel
theorem dX7_layRounds_101 : decode cX7_layRounds 101 = .ok (.iaload, 1) := by decide +kernel
theorem dX7_layRounds_102 : decode cX7_layRounds 102 = .ok (.istore 5, 2) := by decide +kernel
theorem dX7_layRounds_104 : decode cX7_layRounds 104 = .ok (.aload_n 0, 1) := by decide +kernel
theorem dX7_layRounds_105 : decode cX7_layRounds 105 = .ok (.getfield 16, 3) := by decide +kernel
theorem dX7_layRounds_108 : decode cX7_layRounds 108 = .ok (.aload_n 0, 1) := by decide +kernel
theorem dX7_layRounds_109 : decode cX7_layRounds 109 = .ok (.getfield 56, 3) := by decide +kernel
theorem dX7_layRounds_112 : decode cX7_layRounds 112 = .ok (.iload_n 3, 1) := by decide +kernel
theorem dX7_layRounds_113 : decode cX7_layRounds 113 = .ok (.iaload, 1) := by decide +kernel
theorem dX7_layRounds_114 : decode cX7_layRounds 114 = .ok (.iaload, 1) := by decide +kernel
theorem dX7_layRounds_115 : decode cX7_layRounds 115 = .ok (.iload_n 2, 1) := by decide +kernel
theorem dX7_layRounds_116 : decode cX7_layRounds 116 = .ok (.if_icmp .ne 8, 3) := by decide +kernel
theorem dX7_layRounds_119 : decode cX7_layRounds 119 = .ok (.iload 4, 2) := by decide +kernel
theorem dX7_layRounds_121 : decode cX7_layRounds 121 = .ok (.goto 21, 3) := by decide +kernel
theorem dX7_layRounds_124 : decode cX7_layRounds 124 = .ok (.iload 4, 2) := by decide +kernel
theorem dX7_layRounds_126 : decode cX7_layRounds 126 = .ok (.iconst 1, 1) := by decide +kernel
theorem dX7_layRounds_127 : decode cX7_layRounds 127 = .ok (.aload_n 0, 1) := by decide +kernel
theorem dX7_layRounds_128 : decode cX7_layRounds 128 = .ok (.getfield 16, 3) := by decide +kernel
theorem dX7_layRounds_131 : decode cX7_layRounds 131 = .ok (.aload_n 0, 1) := by decide +kernel
theorem dX7_layRounds_132 : decode cX7_layRounds 132 = .ok (.getfield 56, 3) := by decide +kernel
theorem dX7_layRounds_135 : decode cX7_layRounds 135 = .ok (.iload_n 3, 1) := by decide +kernel
theorem dX7_layRounds_136 : decode cX7_layRounds 136 = .ok (.iaload, 1) := by decide +kernel
theorem dX7_layRounds_137 : decode cX7_layRounds 137 = .ok (.iaload, 1) := by decide +kernel
theorem dX7_layRounds_138 : decode cX7_layRounds 138 = .ok (.ishl, 1) := by decide +kernel
theorem dX7_layRounds_139 : decode cX7_layRounds 139 = .ok (.iconst (-1), 1) := by decide +kernel
theorem dX7_layRounds_140 : decode cX7_layRounds 140 = .ok (.ixor, 1) := by decide +kernel
theorem dX7_layRounds_141 : decode cX7_layRounds 141 = .ok (.iand, 1) := by decide +kernel
theorem dX7_layRounds_142 : decode cX7_layRounds 142 = .ok (.istore 4, 2) := by decide +kernel
theorem dX7_layRounds_144 : decode cX7_layRounds 144 = .ok (.goto (-96), 3) := by decide +kernel
theorem dX7_layRounds_147 : decode cX7_layRounds 147 = .ok (.aload_n 0, 1) := by decide +kernel
theorem dX7_layRounds_148 : decode cX7_layRounds 148 = .ok (.getfield 7, 3) := by decide +kernel
theorem dX7_layRounds_151 : decode cX7_layRounds 151 = .ok (.iload 6, 2) := by decide +kernel
theorem dX7_layRounds_153 : decode cX7_layRounds 153 = .ok (.iaload, 1) := by decide +kernel
theorem dX7_layRounds_154 : decode cX7_layRounds 154 = .ok (.iload 5, 2) := by decide +kernel
theorem dX7_layRounds_156 : decode cX7_layRounds 156 = .ok (.if_icmp .ne 25, 3) := by decide +kernel
theorem dX7_layRounds_159 : decode cX7_layRounds 159 = .ok (.iload_n 1, 1) := by decide +kernel
theorem dX7_layRounds_160 : decode cX7_layRounds 160 = .ok (.iload 6, 2) := by decide +kernel
theorem dX7_layRounds_162 : decode cX7_layRounds 162 = .ok (.ishr, 1) := by decide +kernel
theorem dX7_layRounds_163 : decode cX7_layRounds 163 = .ok (.iconst 1, 1) := by decide +kernel
theorem dX7_layRounds_164 : decode cX7_layRounds 164 = .ok (.iand, 1) := by decide +kernel
theorem dX7_layRounds_165 : decode cX7_layRounds 165 = .ok (.ifCond .ne 16, 3) := by decide +kernel
theorem dX7_layRounds_168 : decode cX7_layRounds 168 = .ok (.aload_n 0, 1) := by decide +kernel
theorem dX7_layRounds_169 : decode cX7_layRounds 169 = .ok (.iload 6, 2) := by decide +kernel
theorem dX7_layRounds_171 : decode cX7_layRounds 171 = .ok (.invokevirtual 97, 3) := by decide +kernel
theorem dX7_layRounds_174 : decode cX7_layRounds 174 = .ok (.ifCond .eq 7, 3) := by decide +kernel
theorem dX7_layRounds_177 : decode cX7_layRounds 177 = .ok (.iconst 1, 1) := by decide +kernel
theorem dX7_layRounds_178 : decode cX7_layRounds 178 = .ok (.goto 4, 3) := by decide +kernel
theorem dX7_layRounds_181 : decode cX7_layRounds 181 = .ok (.iconst 0, 1) := by decide +kernel
theorem dX7_layRounds_182 : decode cX7_layRounds 182 = .ok (.istore 8, 2) := by decide +kernel
theorem dX7_layRounds_184 : decode cX7_layRounds 184 = .ok (.iload 8, 2) := by decide +kernel
theorem dX7_layRounds_186 : decode cX7_layRounds 186 = .ok (.ifCond .eq 18, 3) := by decide +kernel
theorem dX7_layRounds_189 : decode cX7_layRounds 189 = .ok (.aload_n 0, 1) := by decide +kernel
theorem dX7_layRounds_190 : decode cX7_layRounds 190 = .ok (.getfield 16, 3) := by decide +kernel
theorem dX7_layRounds_193 : decode cX7_layRounds 193 = .ok (.iload 6, 2) := by decide +kernel
theorem dX7_layRounds_195 : decode cX7_layRounds 195 = .ok (.iaload, 1) := by decide +kernel
theorem dX7_layRounds_196 : decode cX7_layRounds 196 = .ok (.iload_n 2, 1) := by decide +kernel
theorem dX7_layRounds_197 : decode cX7_layRounds 197 = .ok (.if_icmp .ne 7, 3) := by decide +kernel
theorem dX7_layRounds_200 : decode cX7_layRounds 200 = .ok (.iconst 1, 1) := by decide +kernel
theorem dX7_layRounds_201 : decode cX7_layRounds 201 = .ok (.goto 4, 3) := by decide +kernel
theorem dX7_layRounds_204 : decode cX7_layRounds 204 = .ok (.iconst 0, 1) := by decide +kernel
theorem dX7_layRounds_205 : decode cX7_layRounds 205 = .ok (.istore 9, 2) := by decide +kernel
theorem dX7_layRounds_207 : decode cX7_layRounds 207 = .ok (.iload 8, 2) := by decide +kernel
theorem dX7_layRounds_209 : decode cX7_layRounds 209 = .ok (.ifCond .eq 33, 3) := by decide +kernel
theorem dX7_layRounds_212 : decode cX7_layRounds 212 = .ok (.aload_n 0, 1) := by decide +kernel
theorem dX7_layRounds_213 : decode cX7_layRounds 213 = .ok (.getfield 16, 3) := by decide +kernel
theorem dX7_layRounds_216 : decode cX7_layRounds 216 = .ok (.iload 6, 2) := by decide +kernel
theorem dX7_layRounds_218 : decode cX7_layRounds 218 = .ok (.iaload, 1) := by decide +kernel
theorem dX7_layRounds_219 : decode cX7_layRounds 219 = .ok (.iload_n 2, 1) := by decide +kernel
theorem dX7_layRounds_220 : decode cX7_layRounds 220 = .ok (.if_icmp .le 22, 3) := by decide +kernel
theorem dX7_layRounds_223 : decode cX7_layRounds 223 = .ok (.iload 4, 2) := by decide +kernel
theorem dX7_layRounds_225 : decode cX7_layRounds 225 = .ok (.aload_n 0, 1) := by decide +kernel
theorem dX7_layRounds_226 : decode cX7_layRounds 226 = .ok (.getfield 16, 3) := by decide +kernel
theorem dX7_layRounds_229 : decode cX7_layRounds 229 = .ok (.iload 6, 2) := by decide +kernel
theorem dX7_layRounds_231 : decode cX7_layRounds 231 = .ok (.iaload, 1) := by decide +kernel
theorem dX7_layRounds_232 : decode cX7_layRounds 232 = .ok (.ishr, 1) := by decide +kernel
theorem dX7_layRounds_233 : decode cX7_layRounds 233 = .ok (.iconst 1, 1) := by decide +kernel
theorem dX7_layRounds_234 : decode cX7_layRounds 234 = .ok (.iand, 1) := by decide +kernel
theorem dX7_layRounds_235 : decode cX7_layRounds 235 = .ok (.ifCond .ne 7, 3) := by decide +kernel
theorem dX7_layRounds_238 : decode cX7_layRounds 238 = .ok (.iconst 1, 1) := by decide +kernel
theorem dX7_layRounds_239 : decode cX7_layRounds 239 = .ok (.goto 4, 3) := by decide +kernel
theorem dX7_layRounds_242 : decode cX7_layRounds 242 = .ok (.iconst 0, 1) := by decide +kernel
theorem dX7_layRounds_243 : decode cX7_layRounds 243 = .ok (.istore 10, 2) := by decide +kernel
theorem dX7_layRounds_245 : decode cX7_layRounds 245 = .ok (.iload 9, 2) := by decide +kernel
theorem dX7_layRounds_247 : decode cX7_layRounds 247 = .ok (.ifCond .ne 8, 3) := by decide +kernel
theorem dX7_layRounds_250 : decode cX7_layRounds 250 = .ok (.iload 10, 2) := by decide +kernel
theorem dX7_layRounds_252 : decode cX7_layRounds 252 = .ok (.ifCond .eq 56, 3) := by decide +kernel
theorem dX7_layRounds_255 : decode cX7_layRounds 255 = .ok (.aload_n 0, 1) := by decide +kernel
theorem dX7_layRounds_256 : decode cX7_layRounds 256 = .ok (.getfield 56, 3) := by decide +kernel
theorem dX7_layRounds_259 : decode cX7_layRounds 259 = .ok (.iload_n 3, 1) := by decide +kernel
theorem dX7_layRounds_260 : decode cX7_layRounds 260 = .ok (.iload 6, 2) := by decide +kernel
theorem dX7_layRounds_262 : decode cX7_layRounds 262 = .ok (.iastore, 1) := by decide +kernel
theorem dX7_layRounds_263 : decode cX7_layRounds 263 = .ok (.aload_n 0, 1) := by decide +kernel
theorem dX7_layRounds_264 : decode cX7_layRounds 264 = .ok (.getfield 59, 3) := by decide +kernel
theorem dX7_layRounds_267 : decode cX7_layRounds 267 = .ok (.iload_n 3, 1) := by decide +kernel
theorem dX7_layRounds_268 : decode cX7_layRounds 268 = .ok (.iconst 1, 1) := by decide +kernel
theorem dX7_layRounds_269 : decode cX7_layRounds 269 = .ok (.iadd, 1) := by decide +kernel
theorem dX7_layRounds_270 : decode cX7_layRounds 270 = .ok (.aload_n 0, 1) := by decide +kernel
theorem dX7_layRounds_271 : decode cX7_layRounds 271 = .ok (.getfield 59, 3) := by decide +kernel
theorem dX7_layRounds_274 : decode cX7_layRounds 274 = .ok (.iload_n 3, 1) := by decide +kernel
theorem dX7_layRounds_275 : decode cX7_layRounds 275 = .ok (.laload, 1) := by decide +kernel
theorem dX7_layRounds_276 : decode cX7_layRounds 276 = .ok (.aload_n 0, 1) := by decide +kernel
theorem dX7_layRounds_277 : decode cX7_layRounds 277 = .ok (.iload 6, 2) := by decide +kernel
theorem dX7_layRounds_279 : decode cX7_layRounds 279 = .ok (.invokevirtual 100, 3) := by decide +kernel
theorem dX7_layRounds_282 : decode cX7_layRounds 282 = .ok (.i2l, 1) := by decide +kernel
theorem dX7_layRounds_283 : decode cX7_layRounds 283 = .ok (.lmul, 1) := by decide +kernel
theorem dX7_layRounds_284 : decode cX7_layRounds 284 = .ok (.lastore, 1) := by decide +kernel
theorem dX7_layRounds_285 : decode cX7_layRounds 285 = .ok (.aload_n 0, 1) := by decide +kernel
theorem dX7_layRounds_286 : decode cX7_layRounds 286 = .ok (.getfield 62, 3) := by decide +kernel
theorem dX7_layRounds_289 : decode cX7_layRounds 289 = .ok (.iload_n 3, 1) := by decide +kernel
theorem dX7_layRounds_290 : decode cX7_layRounds 290 = .ok (.iconst 1, 1) := by decide +kernel
theorem dX7_layRounds_291 : decode cX7_layRounds 291 = .ok (.iadd, 1) := by decide +kernel
theorem dX7_layRounds_292 : decode cX7_layRounds 292 = .ok (.aload_n 0, 1) := by decide +kernel
theorem dX7_layRounds_293 : decode cX7_layRounds 293 = .ok (.getfield 62, 3) := by decide +kernel
theorem dX7_layRounds_296 : decode cX7_layRounds 296 = .ok (.iload_n 3, 1) := by decide +kernel
theorem dX7_layRounds_297 : decode cX7_layRounds 297 = .ok (.laload, 1) := by decide +kernel
theorem dX7_layRounds_298 : decode cX7_layRounds 298 = .ok (.aload_n 0, 1) := by decide +kernel
theorem dX7_layRounds_299 : decode cX7_layRounds 299 = .ok (.getfield 13, 3) := by decide +kernel
theorem dX7_layRounds_302 : decode cX7_layRounds 302 = .ok (.iload 6, 2) := by decide +kernel
theorem dX7_layRounds_304 : decode cX7_layRounds 304 = .ok (.iaload, 1) := by decide +kernel
theorem dX7_layRounds_305 : decode cX7_layRounds 305 = .ok (.i2l, 1) := by decide +kernel
theorem dX7_layRounds_306 : decode cX7_layRounds 306 = .ok (.lmul, 1) := by decide +kernel
theorem dX7_layRounds_307 : decode cX7_layRounds 307 = .ok (.lastore, 1) := by decide +kernel
theorem dX7_layRounds_308 : decode cX7_layRounds 308 = .ok (.iload 9, 2) := by decide +kernel
theorem dX7_layRounds_310 : decode cX7_layRounds 310 = .ok (.ifCond .eq 10, 3) := by decide +kernel
theorem dX7_layRounds_313 : decode cX7_layRounds 313 = .ok (.aload_n 0, 1) := by decide +kernel
theorem dX7_layRounds_314 : decode cX7_layRounds 314 = .ok (.iload_n 3, 1) := by decide +kernel
theorem dX7_layRounds_315 : decode cX7_layRounds 315 = .ok (.iconst 1, 1) := by decide +kernel
theorem dX7_layRounds_316 : decode cX7_layRounds 316 = .ok (.iadd, 1) := by decide +kernel
theorem dX7_layRounds_317 : decode cX7_layRounds 317 = .ok (.invokevirtual 120, 3) := by decide +kernel
theorem dX7_layRounds_320 : decode cX7_layRounds 320 = .ok (.iload 10, 2) := by decide +kernel
theorem dX7_layRounds_322 : decode cX7_layRounds 322 = .ok (.ifCond .eq 30, 3) := by decide +kernel
theorem dX7_layRounds_325 : decode cX7_layRounds 325 = .ok (.aload_n 0, 1) := by decide +kernel
theorem dX7_layRounds_326 : decode cX7_layRounds 326 = .ok (.getfield 16, 3) := by decide +kernel
theorem dX7_layRounds_329 : decode cX7_layRounds 329 = .ok (.iload 6, 2) := by decide +kernel
theorem dX7_layRounds_331 : decode cX7_layRounds 331 = .ok (.iaload, 1) := by decide +kernel
theorem dX7_layRounds_332 : decode cX7_layRounds 332 = .ok (.istore 5, 2) := by decide +kernel
theorem dX7_layRounds_334 : decode cX7_layRounds 334 = .ok (.iload 4, 2) := by decide +kernel
theorem dX7_layRounds_336 : decode cX7_layRounds 336 = .ok (.iconst 1, 1) := by decide +kernel
theorem dX7_layRounds_337 : decode cX7_layRounds 337 = .ok (.iload 5, 2) := by decide +kernel
theorem dX7_layRounds_339 : decode cX7_layRounds 339 = .ok (.ishl, 1) := by decide +kernel
theorem dX7_layRounds_340 : decode cX7_layRounds 340 = .ok (.ior, 1) := by decide +kernel
theorem dX7_layRounds_341 : decode cX7_layRounds 341 = .ok (.istore 4, 2) := by decide +kernel
theorem dX7_layRounds_343 : decode cX7_layRounds 343 = .ok (.iinc 3 1, 3) := by decide +kernel
theorem dX7_layRounds_346 : decode cX7_layRounds 346 = .ok (.iconst 0, 1) := by decide +kernel
theorem dX7_layRounds_347 : decode cX7_layRounds 347 = .ok (.istore 6, 2) := by decide +kernel
theorem dX7_layRounds_349 : decode cX7_layRounds 349 = .ok (.goto 6, 3) := by decide +kernel
theorem dX7_layRounds_352 : decode cX7_layRounds 352 = .ok (.iinc 6 1, 3) := by decide +kernel
theorem dX7_layRounds_355 : decode cX7_layRounds 355 = .ok (.goto (-307), 3) := by decide +kernel
theorem dX7_layRounds_358 : decode cX7_layRounds 358 = .ok (.iinc 2 1, 3) := by decide +kernel
theorem dX7_layRounds_361 : decode cX7_layRounds 361 = .ok (.goto (-335), 3) := by decide +kernel
theorem dX7_layRounds_364 : decode cX7_layRounds 364 = .ok (.return_, 1) := by decide +kernel
theorem dX7_rounds_0 : decode cX7_rounds 0 = .ok (.iload_n 1, 1) := by decide +kernel
theorem dX7_rounds_1 : decode cX7_rounds 1 = .ok (.iconst 0, 1) := by decide +kernel
theorem dX7_rounds_2 : decode cX7_rounds 2 = .ok (.iconst 1, 1) := by decide +kernel
theorem dX7_rounds_3 : decode cX7_rounds 3 = .ok (.invokestatic 77, 3) := by decide +kernel
theorem dX7_rounds_6 : decode cX7_rounds 6 = .ok (.ifCond .ne 6, 3) := by decide +kernel
theorem dX7_rounds_9 : decode cX7_rounds 9 = .ok (.bipush (-2), 2) := by decide +kernel
theorem dX7_rounds_11 : decode cX7_rounds 11 = .ok (.ireturn, 1) := by decide +kernel
theorem dX7_rounds_12 : decode cX7_rounds 12 = .ok (.aload_n 0, 1) := by decide +kernel
theorem dX7_rounds_13 : decode cX7_rounds 13 = .ok (.iconst 0, 1) := by decide +kernel
theorem dX7_rounds_14 : decode cX7_rounds 14 = .ok (.invokevirtual 124, 3) := by decide +kernel
theorem dX7_rounds_17 : decode cX7_rounds 17 = .ok (.iload_n 1, 1) := by decide +kernel
theorem dX7_rounds_18 : decode cX7_rounds 18 = .ok (.ifCond .ne 10, 3) := by decide +kernel
theorem dX7_rounds_21 : decode cX7_rounds 21 = .ok (.aload_n 0, 1) := by decide +kernel
theorem dX7_rounds_22 : decode cX7_rounds 22 = .ok (.getfield 114, 3) := by decide +kernel
theorem dX7_rounds_25 : decode cX7_rounds 25 = .ok (.goto 7, 3) := by decide +kernel
theorem dX7_rounds_28 : decode cX7_rounds 28 = .ok (.aload_n 0, 1) := by decide +kernel
theorem dX7_rounds_29 : decode cX7_rounds 29 = .ok (.getfield 117, 3) := by decide +kernel
theorem dX7_rounds_32 : decode cX7_rounds 32 = .ok (.ireturn, 1) := by decide +kernel
theorem dX7_round_0 : decode cX7_round 0 = .ok (.aload_n 0, 1) := by decide +kernel
theorem dX7_round_1 : decode cX7_round 1 = .ok (.iconst 0, 1) := by decide +kernel
theorem dX7_round_2 : decode cX7_round 2 = .ok (.invokevirtual 124, 3) := by decide +kernel
theorem dX7_round_5 : decode cX7_round 5 = .ok (.iload_n 1, 1) := by decide +kernel
theorem dX7_round_6 : decode cX7_round 6 = .ok (.iconst 0, 1) := by decide +kernel
theorem dX7_round_7 : decode cX7_round 7 = .ok (.aload_n 0, 1) := by decide +kernel
theorem dX7_round_8 : decode cX7_round 8 = .ok (.getfield 117, 3) := by decide +kernel
theorem dX7_round_11 : decode cX7_round 11 = .ok (.iconst 1, 1) := by decide +kernel
theorem dX7_round_12 : decode cX7_round 12 = .ok (.isub, 1) := by decide +kernel
theorem dX7_round_13 : decode cX7_round 13 = .ok (.invokestatic 77, 3) := by decide +kernel
theorem dX7_round_16 : decode cX7_round 16 = .ok (.ifCond .ne 5, 3) := by decide +kernel
theorem dX7_round_19 : decode cX7_round 19 = .ok (.iconst (-1), 1) := by decide +kernel
theorem dX7_round_20 : decode cX7_round 20 = .ok (.ireturn, 1) := by decide +kernel
theorem dX7_round_21 : decode cX7_round 21 = .ok (.iload_n 2, 1) := by decide +kernel
theorem dX7_round_22 : decode cX7_round 22 = .ok (.iconst (-1), 1) := by decide +kernel
theorem dX7_round_23 : decode cX7_round 23 = .ok (.if_icmp .ne 12, 3) := by decide +kernel
theorem dX7_round_26 : decode cX7_round 26 = .ok (.aload_n 0, 1) := by decide +kernel
theorem dX7_round_27 : decode cX7_round 27 = .ok (.getfield 40, 3) := by decide +kernel
theorem dX7_round_30 : decode cX7_round 30 = .ok (.iload_n 1, 1) := by decide +kernel
theorem dX7_round_31 : decode cX7_round 31 = .ok (.iaload, 1) := by decide +kernel
theorem dX7_round_32 : decode cX7_round 32 = .ok (.goto 35, 3) := by decide +kernel
theorem dX7_round_35 : decode cX7_round 35 = .ok (.iload_n 2, 1) := by decide +kernel
theorem dX7_round_36 : decode cX7_round 36 = .ok (.iconst 0, 1) := by decide +kernel
theorem dX7_round_37 : decode cX7_round 37 = .ok (.aload_n 0, 1) := by decide +kernel
theorem dX7_round_38 : decode cX7_round 38 = .ok (.getfield 40, 3) := by decide +kernel
theorem dX7_round_41 : decode cX7_round 41 = .ok (.iload_n 1, 1) := by decide +kernel
theorem dX7_round_42 : decode cX7_round 42 = .ok (.iaload, 1) := by decide +kernel
theorem dX7_round_43 : decode cX7_round 43 = .ok (.iconst 1, 1) := by decide +kernel
theorem dX7_round_44 : decode cX7_round 44 = .ok (.isub, 1) := by decide +kernel
theorem dX7_round_45 : decode cX7_round 45 = .ok (.invokestatic 77, 3) := by decide +kernel
theorem dX7_round_48 : decode cX7_round 48 = .ok (.ifCond .eq 17, 3) := by decide +kernel
theorem dX7_round_51 : decode cX7_round 51 = .ok (.aload_n 0, 1) := by decide +kernel
theorem dX7_round_52 : decode cX7_round 52 = .ok (.getfield 46, 3) := by decide +kernel
theorem dX7_round_55 : decode cX7_round 55 = .ok (.bipush 8, 2) := by decide +kernel
theorem dX7_round_57 : decode cX7_round 57 = .ok (.iload_n 1, 1) := by decide +kernel
theorem dX7_round_58 : decode cX7_round 58 = .ok (.imul, 1) := by decide +kernel
theorem dX7_round_59 : decode cX7_round 59 = .ok (.iload_n 2, 1) := by decide +kernel
theorem dX7_round_60 : decode cX7_round 60 = .ok (.iadd, 1) := by decide +kernel
theorem dX7_round_61 : decode cX7_round 61 = .ok (.iaload, 1) := by decide +kernel
theorem dX7_round_62 : decode cX7_round 62 = .ok (.goto 5, 3) := by decide +kernel
theorem dX7_round_65 : decode cX7_round 65 = .ok (.bipush (-6), 2) := by decide +kernel
theorem dX7_round_67 : decode cX7_round 67 = .ok (.ireturn, 1) := by decide +kernel
theorem dX7_term_0 : decode cX7_term 0 = .ok (.lload_n 0, 1) := by decide +kernel
theorem dX7_term_1 : decode cX7_term 1 = .ok (.lstore 5, 2) := by decide +kernel
theorem dX7_term_3 : decode cX7_term 3 = .ok (.lload_n 2, 1) := by decide +kernel
theorem dX7_term_4 : decode cX7_term 4 = .ok (.lstore 7, 2) := by decide +kernel
theorem dX7_term_6 : decode cX7_term 6 = .ok (.lload 7, 2) := by decide +kernel
theorem dX7_term_8 : decode cX7_term 8 = .ok (.lconst 0, 1) := by decide +kernel
theorem dX7_term_9 : decode cX7_term 9 = .ok (.lcmp, 1) := by decide +kernel
theorem dX7_term_10 : decode cX7_term 10 = .ok (.ifCond .eq 21, 3) := by decide +kernel
theorem dX7_term_13 : decode cX7_term 13 = .ok (.lload 5, 2) := by decide +kernel
theorem dX7_term_15 : decode cX7_term 15 = .ok (.lload 7, 2) := by decide +kernel
theorem dX7_term_17 : decode cX7_term 17 = .ok (.lrem, 1) := by decide +kernel
theorem dX7_term_18 : decode cX7_term 18 = .ok (.lstore 9, 2) := by decide +kernel
theorem dX7_term_20 : decode cX7_term 20 = .ok (.lload 7, 2) := by decide +kernel
theorem dX7_term_22 : decode cX7_term 22 = .ok (.lstore 5, 2) := by decide +kernel
theorem dX7_term_24 : decode cX7_term 24 = .ok (.lload 9, 2) := by decide +kernel
theorem dX7_term_26 : decode cX7_term 26 = .ok (.lstore 7, 2) := by decide +kernel
theorem dX7_term_28 : decode cX7_term 28 = .ok (.goto (-22), 3) := by decide +kernel
theorem dX7_term_31 : decode cX7_term 31 = .ok (.iload 4, 2) := by decide +kernel
theorem dX7_term_33 : decode cX7_term 33 = .ok (.ifCond .ne 10, 3) := by decide +kernel
theorem dX7_term_36 : decode cX7_term 36 = .ok (.lload_n 0, 1) := by decide +kernel
theorem dX7_term_37 : decode cX7_term 37 = .ok (.lload 5, 2) := by decide +kernel
theorem dX7_term_39 : decode cX7_term 39 = .ok (.ldiv, 1) := by decide +kernel
theorem dX7_term_40 : decode cX7_term 40 = .ok (.goto 7, 3) := by decide +kernel
theorem dX7_term_43 : decode cX7_term 43 = .ok (.lload_n 2, 1) := by decide +kernel
theorem dX7_term_44 : decode cX7_term 44 = .ok (.lload 5, 2) := by decide +kernel
theorem dX7_term_46 : decode cX7_term 46 = .ok (.ldiv, 1) := by decide +kernel
theorem dX7_term_47 : decode cX7_term 47 = .ok (.lreturn, 1) := by decide +kernel
theorem dX7_product_0 : decode cX7_product 0 = .ok (.aload_n 0, 1) := by decide +kernel
theorem dX7_product_1 : decode cX7_product 1 = .ok (.iconst 0, 1) := by decide +kernel
theorem dX7_product_2 : decode cX7_product 2 = .ok (.invokevirtual 124, 3) := by decide +kernel
theorem dX7_product_5 : decode cX7_product 5 = .ok (.iload_n 1, 1) := by decide +kernel
theorem dX7_product_6 : decode cX7_product 6 = .ok (.iconst 0, 1) := by decide +kernel
theorem dX7_product_7 : decode cX7_product 7 = .ok (.aload_n 0, 1) := by decide +kernel
theorem dX7_product_8 : decode cX7_product 8 = .ok (.getfield 117, 3) := by decide +kernel
theorem dX7_product_11 : decode cX7_product 11 = .ok (.iconst 1, 1) := by decide +kernel
theorem dX7_product_12 : decode cX7_product 12 = .ok (.isub, 1) := by decide +kernel
theorem dX7_product_13 : decode cX7_product 13 = .ok (.invokestatic 77, 3) := by decide +kernel
theorem dX7_product_16 : decode cX7_product 16 = .ok (.ifCond .ne 7, 3) := by decide +kernel
theorem dX7_product_19 : decode cX7_product 19 = .ok (.ldc2_w 127, 3) := by decide +kernel
theorem dX7_product_22 : decode cX7_product 22 = .ok (.lreturn, 1) := by decide +kernel
theorem dX7_product_23 : decode cX7_product 23 = .ok (.iload_n 2, 1) := by decide +kernel
theorem dX7_product_24 : decode cX7_product 24 = .ok (.iconst 0, 1) := by decide +kernel
theorem dX7_product_25 : decode cX7_product 25 = .ok (.iconst 1, 1) := by decide +kernel
theorem dX7_product_26 : decode cX7_product 26 = .ok (.invokestatic 77, 3) := by decide +kernel
theorem dX7_product_29 : decode cX7_product 29 = .ok (.ifCond .eq 22, 3) := by decide +kernel
theorem dX7_product_32 : decode cX7_product 32 = .ok (.aload_n 0, 1) := by decide +kernel
theorem dX7_product_33 : decode cX7_product 33 = .ok (.getfield 49, 3) := by decide +kernel
theorem dX7_product_36 : decode cX7_product 36 = .ok (.iload_n 1, 1) := by decide +kernel
theorem dX7_product_37 : decode cX7_product 37 = .ok (.laload, 1) := by decide +kernel
theorem dX7_product_38 : decode cX7_product 38 = .ok (.aload_n 0, 1) := by decide +kernel
theorem dX7_product_39 : decode cX7_product 39 = .ok (.getfield 53, 3) := by decide +kernel
theorem dX7_product_42 : decode cX7_product 42 = .ok (.iload_n 1, 1) := by decide +kernel
theorem dX7_product_43 : decode cX7_product 43 = .ok (.laload, 1) := by decide +kernel
theorem dX7_product_44 : decode cX7_product 44 = .ok (.iload_n 2, 1) := by decide +kernel
theorem dX7_product_45 : decode cX7_product 45 = .ok (.invokestatic 129, 3) := by decide +kernel
theorem dX7_product_48 : decode cX7_product 48 = .ok (.goto 6, 3) := by decide +kernel
theorem dX7_product_51 : decode cX7_product 51 = .ok (.ldc2_w 133, 3) := by decide +kernel
theorem dX7_product_54 : decode cX7_product 54 = .ok (.lreturn, 1) := by decide +kernel
theorem dX7_mostOf_0 : decode cX7_mostOf 0 = .ok (.bipush (-6), 2) := by decide +kernel
theorem dX7_mostOf_2 : decode cX7_mostOf 2 = .ok (.istore_n 1, 1) := by decide +kernel
theorem dX7_mostOf_3 : decode cX7_mostOf 3 = .ok (.iconst 0, 1) := by decide +kernel
theorem dX7_mostOf_4 : decode cX7_mostOf 4 = .ok (.istore_n 2, 1) := by decide +kernel
theorem dX7_mostOf_5 : decode cX7_mostOf 5 = .ok (.iload_n 2, 1) := by decide +kernel
theorem dX7_mostOf_6 : decode cX7_mostOf 6 = .ok (.aload_n 0, 1) := by decide +kernel
theorem dX7_mostOf_7 : decode cX7_mostOf 7 = .ok (.getfield 117, 3) := by decide +kernel
theorem dX7_mostOf_10 : decode cX7_mostOf 10 = .ok (.if_icmp .ge 49, 3) := by decide +kernel
theorem dX7_mostOf_13 : decode cX7_mostOf 13 = .ok (.iload_n 1, 1) := by decide +kernel
theorem dX7_mostOf_14 : decode cX7_mostOf 14 = .ok (.ifCond .lt 33, 3) := by decide +kernel
theorem dX7_mostOf_17 : decode cX7_mostOf 17 = .ok (.aload_n 0, 1) := by decide +kernel
theorem dX7_mostOf_18 : decode cX7_mostOf 18 = .ok (.getfield 49, 3) := by decide +kernel
theorem dX7_mostOf_21 : decode cX7_mostOf 21 = .ok (.iload_n 2, 1) := by decide +kernel
theorem dX7_mostOf_22 : decode cX7_mostOf 22 = .ok (.laload, 1) := by decide +kernel
theorem dX7_mostOf_23 : decode cX7_mostOf 23 = .ok (.aload_n 0, 1) := by decide +kernel
theorem dX7_mostOf_24 : decode cX7_mostOf 24 = .ok (.getfield 53, 3) := by decide +kernel
theorem dX7_mostOf_27 : decode cX7_mostOf 27 = .ok (.iload_n 2, 1) := by decide +kernel
theorem dX7_mostOf_28 : decode cX7_mostOf 28 = .ok (.laload, 1) := by decide +kernel
theorem dX7_mostOf_29 : decode cX7_mostOf 29 = .ok (.aload_n 0, 1) := by decide +kernel
theorem dX7_mostOf_30 : decode cX7_mostOf 30 = .ok (.getfield 49, 3) := by decide +kernel
theorem dX7_mostOf_33 : decode cX7_mostOf 33 = .ok (.iload_n 1, 1) := by decide +kernel
theorem dX7_mostOf_34 : decode cX7_mostOf 34 = .ok (.laload, 1) := by decide +kernel
theorem dX7_mostOf_35 : decode cX7_mostOf 35 = .ok (.aload_n 0, 1) := by decide +kernel
theorem dX7_mostOf_36 : decode cX7_mostOf 36 = .ok (.getfield 53, 3) := by decide +kernel
theorem dX7_mostOf_39 : decode cX7_mostOf 39 = .ok (.iload_n 1, 1) := by decide +kernel
theorem dX7_mostOf_40 : decode cX7_mostOf 40 = .ok (.laload, 1) := by decide +kernel
theorem dX7_mostOf_41 : decode cX7_mostOf 41 = .ok (.invokestatic 135, 3) := by decide +kernel
theorem dX7_mostOf_44 : decode cX7_mostOf 44 = .ok (.ifCond .le 7, 3) := by decide +kernel
theorem dX7_mostOf_47 : decode cX7_mostOf 47 = .ok (.iload_n 2, 1) := by decide +kernel
theorem dX7_mostOf_48 : decode cX7_mostOf 48 = .ok (.goto 4, 3) := by decide +kernel
theorem dX7_mostOf_51 : decode cX7_mostOf 51 = .ok (.iload_n 1, 1) := by decide +kernel
theorem dX7_mostOf_52 : decode cX7_mostOf 52 = .ok (.istore_n 1, 1) := by decide +kernel
theorem dX7_mostOf_53 : decode cX7_mostOf 53 = .ok (.iinc 2 1, 3) := by decide +kernel
theorem dX7_mostOf_56 : decode cX7_mostOf 56 = .ok (.goto (-51), 3) := by decide +kernel
theorem dX7_mostOf_59 : decode cX7_mostOf 59 = .ok (.iload_n 1, 1) := by decide +kernel
theorem dX7_mostOf_60 : decode cX7_mostOf 60 = .ok (.ireturn, 1) := by decide +kernel
theorem dX7_best_0 : decode cX7_best 0 = .ok (.iload_n 1, 1) := by decide +kernel
theorem dX7_best_1 : decode cX7_best 1 = .ok (.iconst 0, 1) := by decide +kernel
theorem dX7_best_2 : decode cX7_best 2 = .ok (.iconst 1, 1) := by decide +kernel
theorem dX7_best_3 : decode cX7_best 3 = .ok (.invokestatic 77, 3) := by decide +kernel
theorem dX7_best_6 : decode cX7_best 6 = .ok (.ifCond .ne 6, 3) := by decide +kernel
theorem dX7_best_9 : decode cX7_best 9 = .ok (.bipush (-2), 2) := by decide +kernel
theorem dX7_best_11 : decode cX7_best 11 = .ok (.ireturn, 1) := by decide +kernel
theorem dX7_best_12 : decode cX7_best 12 = .ok (.aload_n 0, 1) := by decide +kernel
theorem dX7_best_13 : decode cX7_best 13 = .ok (.iconst 0, 1) := by decide +kernel
theorem dX7_best_14 : decode cX7_best 14 = .ok (.invokevirtual 124, 3) := by decide +kernel
theorem dX7_best_17 : decode cX7_best 17 = .ok (.bipush (-6), 2) := by decide +kernel
theorem dX7_best_19 : decode cX7_best 19 = .ok (.istore_n 2, 1) := by decide +kernel
theorem dX7_best_20 : decode cX7_best 20 = .ok (.iconst 0, 1) := by decide +kernel
theorem dX7_best_21 : decode cX7_best 21 = .ok (.istore_n 3, 1) := by decide +kernel
theorem dX7_best_22 : decode cX7_best 22 = .ok (.iload_n 3, 1) := by decide +kernel
theorem dX7_best_23 : decode cX7_best 23 = .ok (.aload_n 0, 1) := by decide +kernel
theorem dX7_best_24 : decode cX7_best 24 = .ok (.getfield 117, 3) := by decide +kernel
theorem dX7_best_27 : decode cX7_best 27 = .ok (.if_icmp .ge 34, 3) := by decide +kernel
theorem dX7_best_30 : decode cX7_best 30 = .ok (.iload_n 2, 1) := by decide +kernel
theorem dX7_best_31 : decode cX7_best 31 = .ok (.ifCond .lt 18, 3) := by decide +kernel
theorem dX7_best_34 : decode cX7_best 34 = .ok (.aload_n 0, 1) := by decide +kernel
theorem dX7_best_35 : decode cX7_best 35 = .ok (.getfield 40, 3) := by decide +kernel
theorem dX7_best_38 : decode cX7_best 38 = .ok (.iload_n 3, 1) := by decide +kernel
theorem dX7_best_39 : decode cX7_best 39 = .ok (.iaload, 1) := by decide +kernel
theorem dX7_best_40 : decode cX7_best 40 = .ok (.aload_n 0, 1) := by decide +kernel
theorem dX7_best_41 : decode cX7_best 41 = .ok (.getfield 40, 3) := by decide +kernel
theorem dX7_best_44 : decode cX7_best 44 = .ok (.iload_n 2, 1) := by decide +kernel
theorem dX7_best_45 : decode cX7_best 45 = .ok (.iaload, 1) := by decide +kernel
theorem dX7_best_46 : decode cX7_best 46 = .ok (.if_icmp .ge 7, 3) := by decide +kernel
theorem dX7_best_49 : decode cX7_best 49 = .ok (.iload_n 3, 1) := by decide +kernel
theorem dX7_best_50 : decode cX7_best 50 = .ok (.goto 4, 3) := by decide +kernel
theorem dX7_best_53 : decode cX7_best 53 = .ok (.iload_n 2, 1) := by decide +kernel
theorem dX7_best_54 : decode cX7_best 54 = .ok (.istore_n 2, 1) := by decide +kernel
theorem dX7_best_55 : decode cX7_best 55 = .ok (.iinc 3 1, 3) := by decide +kernel
theorem dX7_best_58 : decode cX7_best 58 = .ok (.goto (-36), 3) := by decide +kernel
theorem dX7_best_61 : decode cX7_best 61 = .ok (.iload_n 1, 1) := by decide +kernel
theorem dX7_best_62 : decode cX7_best 62 = .ok (.ifCond .ne 10, 3) := by decide +kernel
theorem dX7_best_65 : decode cX7_best 65 = .ok (.aload_n 0, 1) := by decide +kernel
theorem dX7_best_66 : decode cX7_best 66 = .ok (.invokevirtual 139, 3) := by decide +kernel
theorem dX7_best_69 : decode cX7_best 69 = .ok (.goto 4, 3) := by decide +kernel
theorem dX7_best_72 : decode cX7_best 72 = .ok (.iload_n 2, 1) := by decide +kernel
theorem dX7_best_73 : decode cX7_best 73 = .ok (.ireturn, 1) := by decide +kernel
theorem dX7_through_0 : decode cX7_through 0 = .ok (.aload_n 0, 1) := by decide +kernel
theorem dX7_through_1 : decode cX7_through 1 = .ok (.iload_n 1, 1) := by decide +kernel
theorem dX7_through_2 : decode cX7_through 2 = .ok (.invokevirtual 94, 3) := by decide +kernel
theorem dX7_through_5 : decode cX7_through 5 = .ok (.ifCond .ne 5, 3) := by decide +kernel
theorem dX7_through_8 : decode cX7_through 8 = .ok (.iconst (-1), 1) := by decide +kernel
theorem dX7_through_9 : decode cX7_through 9 = .ok (.ireturn, 1) := by decide +kernel
theorem dX7_through_10 : decode cX7_through 10 = .ok (.aload_n 0, 1) := by decide +kernel
theorem dX7_through_11 : decode cX7_through 11 = .ok (.iconst 0, 1) := by decide +kernel
theorem dX7_through_12 : decode cX7_through 12 = .ok (.invokevirtual 124, 3) := by decide +kernel
theorem dX7_through_15 : decode cX7_through 15 = .ok (.iconst 0, 1) := by decide +kernel
theorem dX7_through_16 : decode cX7_through 16 = .ok (.istore_n 2, 1) := by decide +kernel
theorem dX7_through_17 : decode cX7_through 17 = .ok (.iconst 0, 1) := by decide +kernel
theorem dX7_through_18 : decode cX7_through 18 = .ok (.istore_n 3, 1) := by decide +kernel
theorem dX7_through_19 : decode cX7_through 19 = .ok (.iload_n 3, 1) := by decide +kernel
theorem dX7_through_20 : decode cX7_through 20 = .ok (.aload_n 0, 1) := by decide +kernel
theorem dX7_through_21 : decode cX7_through 21 = .ok (.getfield 117, 3) := by decide +kernel
theorem dX7_through_24 : decode cX7_through 24 = .ok (.if_icmp .ge 22, 3) := by decide +kernel
theorem dX7_through_27 : decode cX7_through 27 = .ok (.iload_n 2, 1) := by decide +kernel
theorem dX7_through_28 : decode cX7_through 28 = .ok (.aload_n 0, 1) := by decide +kernel
theorem dX7_through_29 : decode cX7_through 29 = .ok (.getfield 43, 3) := by decide +kernel
theorem dX7_through_32 : decode cX7_through 32 = .ok (.iload_n 3, 1) := by decide +kernel
theorem dX7_through_33 : decode cX7_through 33 = .ok (.iaload, 1) := by decide +kernel
theorem dX7_through_34 : decode cX7_through 34 = .ok (.iload_n 1, 1) := by decide +kernel
theorem dX7_through_35 : decode cX7_through 35 = .ok (.ishr, 1) := by decide +kernel
theorem dX7_through_36 : decode cX7_through 36 = .ok (.iconst 1, 1) := by decide +kernel
theorem dX7_through_37 : decode cX7_through 37 = .ok (.iand, 1) := by decide +kernel
theorem dX7_through_38 : decode cX7_through 38 = .ok (.iadd, 1) := by decide +kernel
theorem dX7_through_39 : decode cX7_through 39 = .ok (.istore_n 2, 1) := by decide +kernel
theorem dX7_through_40 : decode cX7_through 40 = .ok (.iinc 3 1, 3) := by decide +kernel
theorem dX7_through_43 : decode cX7_through 43 = .ok (.goto (-24), 3) := by decide +kernel
theorem dX7_through_46 : decode cX7_through 46 = .ok (.iload_n 2, 1) := by decide +kernel
theorem dX7_through_47 : decode cX7_through 47 = .ok (.ireturn, 1) := by decide +kernel
theorem dX7_blamed_0 : decode cX7_blamed 0 = .ok (.aload_n 0, 1) := by decide +kernel
theorem dX7_blamed_1 : decode cX7_blamed 1 = .ok (.iconst 0, 1) := by decide +kernel
theorem dX7_blamed_2 : decode cX7_blamed 2 = .ok (.invokevirtual 124, 3) := by decide +kernel
theorem dX7_blamed_5 : decode cX7_blamed 5 = .ok (.aload_n 0, 1) := by decide +kernel
theorem dX7_blamed_6 : decode cX7_blamed 6 = .ok (.getfield 117, 3) := by decide +kernel
theorem dX7_blamed_9 : decode cX7_blamed 9 = .ok (.ifCond .ne 7, 3) := by decide +kernel
theorem dX7_blamed_12 : decode cX7_blamed 12 = .ok (.iconst 0, 1) := by decide +kernel
theorem dX7_blamed_13 : decode cX7_blamed 13 = .ok (.goto 9, 3) := by decide +kernel
theorem dX7_blamed_16 : decode cX7_blamed 16 = .ok (.aload_n 0, 1) := by decide +kernel
theorem dX7_blamed_17 : decode cX7_blamed 17 = .ok (.getfield 43, 3) := by decide +kernel
theorem dX7_blamed_20 : decode cX7_blamed 20 = .ok (.iconst 0, 1) := by decide +kernel
theorem dX7_blamed_21 : decode cX7_blamed 21 = .ok (.iaload, 1) := by decide +kernel
theorem dX7_blamed_22 : decode cX7_blamed 22 = .ok (.istore_n 1, 1) := by decide +kernel
theorem dX7_blamed_23 : decode cX7_blamed 23 = .ok (.iconst 0, 1) := by decide +kernel
theorem dX7_blamed_24 : decode cX7_blamed 24 = .ok (.istore_n 2, 1) := by decide +kernel
theorem dX7_blamed_25 : decode cX7_blamed 25 = .ok (.iload_n 2, 1) := by decide +kernel
theorem dX7_blamed_26 : decode cX7_blamed 26 = .ok (.aload_n 0, 1) := by decide +kernel
theorem dX7_blamed_27 : decode cX7_blamed 27 = .ok (.getfield 117, 3) := by decide +kernel
theorem dX7_blamed_30 : decode cX7_blamed 30 = .ok (.if_icmp .ge 18, 3) := by decide +kernel
theorem dX7_blamed_33 : decode cX7_blamed 33 = .ok (.iload_n 1, 1) := by decide +kernel
theorem dX7_blamed_34 : decode cX7_blamed 34 = .ok (.aload_n 0, 1) := by decide +kernel
theorem dX7_blamed_35 : decode cX7_blamed 35 = .ok (.getfield 43, 3) := by decide +kernel
theorem dX7_blamed_38 : decode cX7_blamed 38 = .ok (.iload_n 2, 1) := by decide +kernel
theorem dX7_blamed_39 : decode cX7_blamed 39 = .ok (.iaload, 1) := by decide +kernel
theorem dX7_blamed_40 : decode cX7_blamed 40 = .ok (.iand, 1) := by decide +kernel
theorem dX7_blamed_41 : decode cX7_blamed 41 = .ok (.istore_n 1, 1) := by decide +kernel
theorem dX7_blamed_42 : decode cX7_blamed 42 = .ok (.iinc 2 1, 3) := by decide +kernel
theorem dX7_blamed_45 : decode cX7_blamed 45 = .ok (.goto (-20), 3) := by decide +kernel
theorem dX7_blamed_48 : decode cX7_blamed 48 = .ok (.iload_n 1, 1) := by decide +kernel
theorem dX7_blamed_49 : decode cX7_blamed 49 = .ok (.ireturn, 1) := by decide +kernel
theorem dX7_bits_0 : decode cX7_bits 0 = .ok (.iconst 0, 1) := by decide +kernel
theorem dX7_bits_1 : decode cX7_bits 1 = .ok (.istore_n 1, 1) := by decide +kernel
theorem dX7_bits_2 : decode cX7_bits 2 = .ok (.iconst 0, 1) := by decide +kernel
theorem dX7_bits_3 : decode cX7_bits 3 = .ok (.istore_n 2, 1) := by decide +kernel
theorem dX7_bits_4 : decode cX7_bits 4 = .ok (.iload_n 2, 1) := by decide +kernel
theorem dX7_bits_5 : decode cX7_bits 5 = .ok (.bipush 12, 2) := by decide +kernel
theorem dX7_bits_7 : decode cX7_bits 7 = .ok (.if_icmp .ge 17, 3) := by decide +kernel
theorem dX7_bits_10 : decode cX7_bits 10 = .ok (.iload_n 1, 1) := by decide +kernel
theorem dX7_bits_11 : decode cX7_bits 11 = .ok (.iload_n 0, 1) := by decide +kernel
theorem dX7_bits_12 : decode cX7_bits 12 = .ok (.iload_n 2, 1) := by decide +kernel
theorem dX7_bits_13 : decode cX7_bits 13 = .ok (.ishr, 1) := by decide +kernel
theorem dX7_bits_14 : decode cX7_bits 14 = .ok (.iconst 1, 1) := by decide +kernel
theorem dX7_bits_15 : decode cX7_bits 15 = .ok (.iand, 1) := by decide +kernel
theorem dX7_bits_16 : decode cX7_bits 16 = .ok (.iadd, 1) := by decide +kernel
theorem dX7_bits_17 : decode cX7_bits 17 = .ok (.istore_n 1, 1) := by decide +kernel
theorem dX7_bits_18 : decode cX7_bits 18 = .ok (.iinc 2 1, 3) := by decide +kernel
theorem dX7_bits_21 : decode cX7_bits 21 = .ok (.goto (-17), 3) := by decide +kernel
theorem dX7_bits_24 : decode cX7_bits 24 = .ok (.iload_n 1, 1) := by decide +kernel
theorem dX7_bits_25 : decode cX7_bits 25 = .ok (.ireturn, 1) := by decide +kernel
theorem dX7_cut_0 : decode cX7_cut 0 = .ok (.aload_n 0, 1) := by decide +kernel
theorem dX7_cut_1 : decode cX7_cut 1 = .ok (.iconst 0, 1) := by decide +kernel
theorem dX7_cut_2 : decode cX7_cut 2 = .ok (.invokevirtual 124, 3) := by decide +kernel
theorem dX7_cut_5 : decode cX7_cut 5 = .ok (.bipush (-6), 2) := by decide +kernel
theorem dX7_cut_7 : decode cX7_cut 7 = .ok (.istore_n 1, 1) := by decide +kernel
theorem dX7_cut_8 : decode cX7_cut 8 = .ok (.iconst 0, 1) := by decide +kernel
theorem dX7_cut_9 : decode cX7_cut 9 = .ok (.istore_n 2, 1) := by decide +kernel
theorem dX7_cut_10 : decode cX7_cut 10 = .ok (.iload_n 2, 1) := by decide +kernel
theorem dX7_cut_11 : decode cX7_cut 11 = .ok (.iconst 1, 1) := by decide +kernel
theorem dX7_cut_12 : decode cX7_cut 12 = .ok (.aload_n 0, 1) := by decide +kernel
theorem dX7_cut_13 : decode cX7_cut 13 = .ok (.getfield 81, 3) := by decide +kernel
theorem dX7_cut_16 : decode cX7_cut 16 = .ok (.ishl, 1) := by decide +kernel
theorem dX7_cut_17 : decode cX7_cut 17 = .ok (.if_icmp .ge 80, 3) := by decide +kernel
theorem dX7_cut_20 : decode cX7_cut 20 = .ok (.iload_n 1, 1) := by decide +kernel
theorem dX7_cut_21 : decode cX7_cut 21 = .ok (.ifCond .lt 14, 3) := by decide +kernel
theorem dX7_cut_24 : decode cX7_cut 24 = .ok (.iload_n 2, 1) := by decide +kernel
theorem dX7_cut_25 : decode cX7_cut 25 = .ok (.invokestatic 142, 3) := by decide +kernel
theorem dX7_cut_28 : decode cX7_cut 28 = .ok (.iload_n 1, 1) := by decide +kernel
theorem dX7_cut_29 : decode cX7_cut 29 = .ok (.invokestatic 142, 3) := by decide +kernel
theorem dX7_cut_32 : decode cX7_cut 32 = .ok (.if_icmp .ge 7, 3) := by decide +kernel
theorem dX7_cut_35 : decode cX7_cut 35 = .ok (.iconst 1, 1) := by decide +kernel
theorem dX7_cut_36 : decode cX7_cut 36 = .ok (.goto 4, 3) := by decide +kernel
theorem dX7_cut_39 : decode cX7_cut 39 = .ok (.iconst 0, 1) := by decide +kernel
theorem dX7_cut_40 : decode cX7_cut 40 = .ok (.istore_n 3, 1) := by decide +kernel
theorem dX7_cut_41 : decode cX7_cut 41 = .ok (.iconst 0, 1) := by decide +kernel
theorem dX7_cut_42 : decode cX7_cut 42 = .ok (.istore 4, 2) := by decide +kernel
theorem dX7_cut_44 : decode cX7_cut 44 = .ok (.iload 4, 2) := by decide +kernel
theorem dX7_cut_46 : decode cX7_cut 46 = .ok (.aload_n 0, 1) := by decide +kernel
theorem dX7_cut_47 : decode cX7_cut 47 = .ok (.getfield 117, 3) := by decide +kernel
theorem dX7_cut_50 : decode cX7_cut 50 = .ok (.if_icmp .ge 31, 3) := by decide +kernel
theorem dX7_cut_53 : decode cX7_cut 53 = .ok (.iload_n 3, 1) := by decide +kernel
theorem dX7_cut_54 : decode cX7_cut 54 = .ok (.ifCond .eq 27, 3) := by decide +kernel
theorem dX7_cut_57 : decode cX7_cut 57 = .ok (.aload_n 0, 1) := by decide +kernel
theorem dX7_cut_58 : decode cX7_cut 58 = .ok (.getfield 43, 3) := by decide +kernel
theorem dX7_cut_61 : decode cX7_cut 61 = .ok (.iload 4, 2) := by decide +kernel
theorem dX7_cut_63 : decode cX7_cut 63 = .ok (.iaload, 1) := by decide +kernel
theorem dX7_cut_64 : decode cX7_cut 64 = .ok (.iload_n 2, 1) := by decide +kernel
theorem dX7_cut_65 : decode cX7_cut 65 = .ok (.iand, 1) := by decide +kernel
theorem dX7_cut_66 : decode cX7_cut 66 = .ok (.ifCond .eq 7, 3) := by decide +kernel
theorem dX7_cut_69 : decode cX7_cut 69 = .ok (.iconst 1, 1) := by decide +kernel
theorem dX7_cut_70 : decode cX7_cut 70 = .ok (.goto 4, 3) := by decide +kernel
theorem dX7_cut_73 : decode cX7_cut 73 = .ok (.iconst 0, 1) := by decide +kernel
theorem dX7_cut_74 : decode cX7_cut 74 = .ok (.istore_n 3, 1) := by decide +kernel
theorem dX7_cut_75 : decode cX7_cut 75 = .ok (.iinc 4 1, 3) := by decide +kernel
theorem dX7_cut_78 : decode cX7_cut 78 = .ok (.goto (-34), 3) := by decide +kernel
theorem dX7_cut_81 : decode cX7_cut 81 = .ok (.iload_n 3, 1) := by decide +kernel
theorem dX7_cut_82 : decode cX7_cut 82 = .ok (.ifCond .eq 7, 3) := by decide +kernel
theorem dX7_cut_85 : decode cX7_cut 85 = .ok (.iload_n 2, 1) := by decide +kernel
theorem dX7_cut_86 : decode cX7_cut 86 = .ok (.goto 4, 3) := by decide +kernel
theorem dX7_cut_89 : decode cX7_cut 89 = .ok (.iload_n 1, 1) := by decide +kernel
theorem dX7_cut_90 : decode cX7_cut 90 = .ok (.istore_n 1, 1) := by decide +kernel
theorem dX7_cut_91 : decode cX7_cut 91 = .ok (.iinc 2 1, 3) := by decide +kernel
theorem dX7_cut_94 : decode cX7_cut 94 = .ok (.goto (-84), 3) := by decide +kernel
theorem dX7_cut_97 : decode cX7_cut 97 = .ok (.iload_n 1, 1) := by decide +kernel
theorem dX7_cut_98 : decode cX7_cut 98 = .ok (.ireturn, 1) := by decide +kernel
theorem dX7_move_0 : decode cX7_move 0 = .ok (.aload_n 0, 1) := by decide +kernel
theorem dX7_move_1 : decode cX7_move 1 = .ok (.iload_n 1, 1) := by decide +kernel
theorem dX7_move_2 : decode cX7_move 2 = .ok (.invokevirtual 94, 3) := by decide +kernel
theorem dX7_move_5 : decode cX7_move 5 = .ok (.ifCond .ne 5, 3) := by decide +kernel
theorem dX7_move_8 : decode cX7_move 8 = .ok (.iconst (-1), 1) := by decide +kernel
theorem dX7_move_9 : decode cX7_move 9 = .ok (.ireturn, 1) := by decide +kernel
theorem dX7_move_10 : decode cX7_move 10 = .ok (.aload_n 0, 1) := by decide +kernel
theorem dX7_move_11 : decode cX7_move 11 = .ok (.iload_n 1, 1) := by decide +kernel
theorem dX7_move_12 : decode cX7_move 12 = .ok (.invokevirtual 97, 3) := by decide +kernel
theorem dX7_move_15 : decode cX7_move 15 = .ok (.ifCond .ne 6, 3) := by decide +kernel
theorem dX7_move_18 : decode cX7_move 18 = .ok (.bipush (-3), 2) := by decide +kernel
theorem dX7_move_20 : decode cX7_move 20 = .ok (.ireturn, 1) := by decide +kernel
theorem dX7_move_21 : decode cX7_move 21 = .ok (.aload_n 0, 1) := by decide +kernel
theorem dX7_move_22 : decode cX7_move 22 = .ok (.getfield 19, 3) := by decide +kernel
theorem dX7_move_25 : decode cX7_move 25 = .ok (.iload_n 1, 1) := by decide +kernel
theorem dX7_move_26 : decode cX7_move 26 = .ok (.iaload, 1) := by decide +kernel
theorem dX7_move_27 : decode cX7_move 27 = .ok (.istore_n 2, 1) := by decide +kernel
theorem dX7_move_28 : decode cX7_move 28 = .ok (.iconst 0, 1) := by decide +kernel
theorem dX7_move_29 : decode cX7_move 29 = .ok (.istore_n 3, 1) := by decide +kernel
theorem dX7_move_30 : decode cX7_move 30 = .ok (.iconst 1, 1) := by decide +kernel
theorem dX7_move_31 : decode cX7_move 31 = .ok (.istore 4, 2) := by decide +kernel
theorem dX7_move_33 : decode cX7_move 33 = .ok (.iload 4, 2) := by decide +kernel
theorem dX7_move_35 : decode cX7_move 35 = .ok (.ifCond .eq 54, 3) := by decide +kernel
theorem dX7_move_38 : decode cX7_move 38 = .ok (.aload_n 0, 1) := by decide +kernel
theorem dX7_move_39 : decode cX7_move 39 = .ok (.getfield 19, 3) := by decide +kernel
theorem dX7_move_42 : decode cX7_move 42 = .ok (.iload_n 1, 1) := by decide +kernel
theorem dX7_move_43 : decode cX7_move 43 = .ok (.iload_n 2, 1) := by decide +kernel
theorem dX7_move_44 : decode cX7_move 44 = .ok (.iload_n 3, 1) := by decide +kernel
theorem dX7_move_45 : decode cX7_move 45 = .ok (.isub, 1) := by decide +kernel
theorem dX7_move_46 : decode cX7_move 46 = .ok (.iastore, 1) := by decide +kernel
theorem dX7_move_47 : decode cX7_move 47 = .ok (.aload_n 0, 1) := by decide +kernel
theorem dX7_move_48 : decode cX7_move 48 = .ok (.iconst 0, 1) := by decide +kernel
theorem dX7_move_49 : decode cX7_move 49 = .ok (.invokevirtual 124, 3) := by decide +kernel
theorem dX7_move_52 : decode cX7_move 52 = .ok (.aload_n 0, 1) := by decide +kernel
theorem dX7_move_53 : decode cX7_move 53 = .ok (.getfield 117, 3) := by decide +kernel
theorem dX7_move_56 : decode cX7_move 56 = .ok (.ifCond .le 14, 3) := by decide +kernel
theorem dX7_move_59 : decode cX7_move 59 = .ok (.iload_n 3, 1) := by decide +kernel
theorem dX7_move_60 : decode cX7_move 60 = .ok (.iload_n 2, 1) := by decide +kernel
theorem dX7_move_61 : decode cX7_move 61 = .ok (.iconst 1, 1) := by decide +kernel
theorem dX7_move_62 : decode cX7_move 62 = .ok (.isub, 1) := by decide +kernel
theorem dX7_move_63 : decode cX7_move 63 = .ok (.if_icmp .ge 7, 3) := by decide +kernel
theorem dX7_move_66 : decode cX7_move 66 = .ok (.iconst 1, 1) := by decide +kernel
theorem dX7_move_67 : decode cX7_move 67 = .ok (.goto 4, 3) := by decide +kernel
theorem dX7_move_70 : decode cX7_move 70 = .ok (.iconst 0, 1) := by decide +kernel
theorem dX7_move_71 : decode cX7_move 71 = .ok (.istore 4, 2) := by decide +kernel
theorem dX7_move_73 : decode cX7_move 73 = .ok (.iload_n 3, 1) := by decide +kernel
theorem dX7_move_74 : decode cX7_move 74 = .ok (.iload 4, 2) := by decide +kernel
theorem dX7_move_76 : decode cX7_move 76 = .ok (.ifCond .eq 7, 3) := by decide +kernel
theorem dX7_move_79 : decode cX7_move 79 = .ok (.iconst 1, 1) := by decide +kernel
theorem dX7_move_80 : decode cX7_move 80 = .ok (.goto 4, 3) := by decide +kernel
theorem dX7_move_83 : decode cX7_move 83 = .ok (.iconst 0, 1) := by decide +kernel
theorem dX7_move_84 : decode cX7_move 84 = .ok (.iadd, 1) := by decide +kernel
theorem dX7_move_85 : decode cX7_move 85 = .ok (.istore_n 3, 1) := by decide +kernel
theorem dX7_move_86 : decode cX7_move 86 = .ok (.goto (-53), 3) := by decide +kernel
theorem dX7_move_89 : decode cX7_move 89 = .ok (.aload_n 0, 1) := by decide +kernel
theorem dX7_move_90 : decode cX7_move 90 = .ok (.getfield 19, 3) := by decide +kernel
theorem dX7_move_93 : decode cX7_move 93 = .ok (.iload_n 1, 1) := by decide +kernel
theorem dX7_move_94 : decode cX7_move 94 = .ok (.iload_n 2, 1) := by decide +kernel
theorem dX7_move_95 : decode cX7_move 95 = .ok (.iastore, 1) := by decide +kernel
theorem dX7_move_96 : decode cX7_move 96 = .ok (.aload_n 0, 1) := by decide +kernel
theorem dX7_move_97 : decode cX7_move 97 = .ok (.getfield 117, 3) := by decide +kernel
theorem dX7_move_100 : decode cX7_move 100 = .ok (.ifCond .le 8, 3) := by decide +kernel
theorem dX7_move_103 : decode cX7_move 103 = .ok (.bipush (-6), 2) := by decide +kernel
theorem dX7_move_105 : decode cX7_move 105 = .ok (.goto 4, 3) := by decide +kernel
theorem dX7_move_108 : decode cX7_move 108 = .ok (.iload_n 3, 1) := by decide +kernel
theorem dX7_move_109 : decode cX7_move 109 = .ok (.ireturn, 1) := by decide +kernel
theorem dX7_edge_0 : decode cX7_edge 0 = .ok (.aload_n 0, 1) := by decide +kernel
theorem dX7_edge_1 : decode cX7_edge 1 = .ok (.getfield 31, 3) := by decide +kernel
theorem dX7_edge_4 : decode cX7_edge 4 = .ok (.iconst 0, 1) := by decide +kernel
theorem dX7_edge_5 : decode cX7_edge 5 = .ok (.iaload, 1) := by decide +kernel
theorem dX7_edge_6 : decode cX7_edge 6 = .ok (.istore_n 1, 1) := by decide +kernel
theorem dX7_edge_7 : decode cX7_edge 7 = .ok (.iconst 0, 1) := by decide +kernel
theorem dX7_edge_8 : decode cX7_edge 8 = .ok (.istore_n 2, 1) := by decide +kernel
theorem dX7_edge_9 : decode cX7_edge 9 = .ok (.iconst 1, 1) := by decide +kernel
theorem dX7_edge_10 : decode cX7_edge 10 = .ok (.istore_n 3, 1) := by decide +kernel
theorem dX7_edge_11 : decode cX7_edge 11 = .ok (.iload_n 3, 1) := by decide +kernel
theorem dX7_edge_12 : decode cX7_edge 12 = .ok (.ifCond .eq 49, 3) := by decide +kernel
theorem dX7_edge_15 : decode cX7_edge 15 = .ok (.aload_n 0, 1) := by decide +kernel
theorem dX7_edge_16 : decode cX7_edge 16 = .ok (.getfield 31, 3) := by decide +kernel
theorem dX7_edge_19 : decode cX7_edge 19 = .ok (.iconst 0, 1) := by decide +kernel
theorem dX7_edge_20 : decode cX7_edge 20 = .ok (.iload_n 2, 1) := by decide +kernel
theorem dX7_edge_21 : decode cX7_edge 21 = .ok (.iastore, 1) := by decide +kernel
theorem dX7_edge_22 : decode cX7_edge 22 = .ok (.aload_n 0, 1) := by decide +kernel
theorem dX7_edge_23 : decode cX7_edge 23 = .ok (.iconst 0, 1) := by decide +kernel
theorem dX7_edge_24 : decode cX7_edge 24 = .ok (.invokevirtual 124, 3) := by decide +kernel
theorem dX7_edge_27 : decode cX7_edge 27 = .ok (.aload_n 0, 1) := by decide +kernel
theorem dX7_edge_28 : decode cX7_edge 28 = .ok (.getfield 117, 3) := by decide +kernel
theorem dX7_edge_31 : decode cX7_edge 31 = .ok (.ifCond .le 13, 3) := by decide +kernel
theorem dX7_edge_34 : decode cX7_edge 34 = .ok (.iload_n 2, 1) := by decide +kernel
theorem dX7_edge_35 : decode cX7_edge 35 = .ok (.bipush 98, 2) := by decide +kernel
theorem dX7_edge_37 : decode cX7_edge 37 = .ok (.if_icmp .ge 7, 3) := by decide +kernel
theorem dX7_edge_40 : decode cX7_edge 40 = .ok (.iconst 1, 1) := by decide +kernel
theorem dX7_edge_41 : decode cX7_edge 41 = .ok (.goto 4, 3) := by decide +kernel
theorem dX7_edge_44 : decode cX7_edge 44 = .ok (.iconst 0, 1) := by decide +kernel
theorem dX7_edge_45 : decode cX7_edge 45 = .ok (.istore_n 3, 1) := by decide +kernel
theorem dX7_edge_46 : decode cX7_edge 46 = .ok (.iload_n 2, 1) := by decide +kernel
theorem dX7_edge_47 : decode cX7_edge 47 = .ok (.iload_n 3, 1) := by decide +kernel
theorem dX7_edge_48 : decode cX7_edge 48 = .ok (.ifCond .eq 7, 3) := by decide +kernel
theorem dX7_edge_51 : decode cX7_edge 51 = .ok (.iconst 1, 1) := by decide +kernel
theorem dX7_edge_52 : decode cX7_edge 52 = .ok (.goto 4, 3) := by decide +kernel
theorem dX7_edge_55 : decode cX7_edge 55 = .ok (.iconst 0, 1) := by decide +kernel
theorem dX7_edge_56 : decode cX7_edge 56 = .ok (.iadd, 1) := by decide +kernel
theorem dX7_edge_57 : decode cX7_edge 57 = .ok (.istore_n 2, 1) := by decide +kernel
theorem dX7_edge_58 : decode cX7_edge 58 = .ok (.goto (-47), 3) := by decide +kernel
theorem dX7_edge_61 : decode cX7_edge 61 = .ok (.aload_n 0, 1) := by decide +kernel
theorem dX7_edge_62 : decode cX7_edge 62 = .ok (.getfield 31, 3) := by decide +kernel
theorem dX7_edge_65 : decode cX7_edge 65 = .ok (.iconst 0, 1) := by decide +kernel
theorem dX7_edge_66 : decode cX7_edge 66 = .ok (.iload_n 1, 1) := by decide +kernel
theorem dX7_edge_67 : decode cX7_edge 67 = .ok (.iastore, 1) := by decide +kernel
theorem dX7_edge_68 : decode cX7_edge 68 = .ok (.aload_n 0, 1) := by decide +kernel
theorem dX7_edge_69 : decode cX7_edge 69 = .ok (.getfield 117, 3) := by decide +kernel
theorem dX7_edge_72 : decode cX7_edge 72 = .ok (.ifCond .le 8, 3) := by decide +kernel
theorem dX7_edge_75 : decode cX7_edge 75 = .ok (.bipush (-6), 2) := by decide +kernel
theorem dX7_edge_77 : decode cX7_edge 77 = .ok (.goto 4, 3) := by decide +kernel
theorem dX7_edge_80 : decode cX7_edge 80 = .ok (.iload_n 2, 1) := by decide +kernel
theorem dX7_edge_81 : decode cX7_edge 81 = .ok (.ireturn, 1) := by decide +kernel
theorem dX7_layGets_0 : decode cX7_layGets 0 = .ok (.aload_n 0, 1) := by decide +kernel
theorem dX7_layGets_1 : decode cX7_layGets 1 = .ok (.iload_n 1, 1) := by decide +kernel
theorem dX7_layGets_2 : decode cX7_layGets 2 = .ok (.iload_n 2, 1) := by decide +kernel
theorem dX7_layGets_3 : decode cX7_layGets 3 = .ok (.if_icmp .ne 7, 3) := by decide +kernel
theorem dX7_layGets_6 : decode cX7_layGets 6 = .ok (.lconst 1, 1) := by decide +kernel
theorem dX7_layGets_7 : decode cX7_layGets 7 = .ok (.goto 4, 3) := by decide +kernel
theorem dX7_layGets_10 : decode cX7_layGets 10 = .ok (.lconst 0, 1) := by decide +kernel
theorem dX7_layGets_11 : decode cX7_layGets 11 = .ok (.putfield 145, 3) := by decide +kernel
theorem dX7_layGets_14 : decode cX7_layGets 14 = .ok (.aload_n 0, 1) := by decide +kernel
theorem dX7_layGets_15 : decode cX7_layGets 15 = .ok (.lconst 1, 1) := by decide +kernel
theorem dX7_layGets_16 : decode cX7_layGets 16 = .ok (.putfield 149, 3) := by decide +kernel
theorem dX7_layGets_19 : decode cX7_layGets 19 = .ok (.iconst 0, 1) := by decide +kernel
theorem dX7_layGets_20 : decode cX7_layGets 20 = .ok (.istore_n 3, 1) := by decide +kernel
theorem dX7_layGets_21 : decode cX7_layGets 21 = .ok (.iconst 1, 1) := by decide +kernel
theorem dX7_layGets_22 : decode cX7_layGets 22 = .ok (.iload_n 1, 1) := by decide +kernel
theorem dX7_layGets_23 : decode cX7_layGets 23 = .ok (.ishl, 1) := by decide +kernel
theorem dX7_layGets_24 : decode cX7_layGets 24 = .ok (.istore 4, 2) := by decide +kernel
theorem dX7_layGets_26 : decode cX7_layGets 26 = .ok (.iload_n 1, 1) := by decide +kernel
theorem dX7_layGets_27 : decode cX7_layGets 27 = .ok (.istore 5, 2) := by decide +kernel
theorem dX7_layGets_29 : decode cX7_layGets 29 = .ok (.iconst 0, 1) := by decide +kernel
theorem dX7_layGets_30 : decode cX7_layGets 30 = .ok (.istore 6, 2) := by decide +kernel
theorem dX7_layGets_32 : decode cX7_layGets 32 = .ok (.aload_n 0, 1) := by decide +kernel
theorem dX7_layGets_33 : decode cX7_layGets 33 = .ok (.getfield 59, 3) := by decide +kernel
theorem dX7_layGets_36 : decode cX7_layGets 36 = .ok (.iconst 0, 1) := by decide +kernel
theorem dX7_layGets_37 : decode cX7_layGets 37 = .ok (.lconst 1, 1) := by decide +kernel
theorem dX7_layGets_38 : decode cX7_layGets 38 = .ok (.lastore, 1) := by decide +kernel
theorem dX7_layGets_39 : decode cX7_layGets 39 = .ok (.aload_n 0, 1) := by decide +kernel
theorem dX7_layGets_40 : decode cX7_layGets 40 = .ok (.getfield 62, 3) := by decide +kernel
theorem dX7_layGets_43 : decode cX7_layGets 43 = .ok (.iconst 0, 1) := by decide +kernel
theorem dX7_layGets_44 : decode cX7_layGets 44 = .ok (.lconst 1, 1) := by decide +kernel
theorem dX7_layGets_45 : decode cX7_layGets 45 = .ok (.lastore, 1) := by decide +kernel
theorem dX7_layGets_46 : decode cX7_layGets 46 = .ok (.iload_n 1, 1) := by decide +kernel
theorem dX7_layGets_47 : decode cX7_layGets 47 = .ok (.iload_n 2, 1) := by decide +kernel
theorem dX7_layGets_48 : decode cX7_layGets 48 = .ok (.if_icmp .eq 7, 3) := by decide +kernel
theorem dX7_layGets_51 : decode cX7_layGets 51 = .ok (.iconst 1, 1) := by decide +kernel
theorem dX7_layGets_52 : decode cX7_layGets 52 = .ok (.goto 4, 3) := by decide +kernel
theorem dX7_layGets_55 : decode cX7_layGets 55 = .ok (.iconst 0, 1) := by decide +kernel
theorem dX7_layGets_56 : decode cX7_layGets 56 = .ok (.istore 7, 2) := by decide +kernel
theorem dX7_layGets_58 : decode cX7_layGets 58 = .ok (.iload 7, 2) := by decide +kernel
theorem dX7_layGets_60 : decode cX7_layGets 60 = .ok (.ifCond .eq 297, 3) := by decide +kernel
theorem dX7_layGets_63 : decode cX7_layGets 63 = .ok (.iload 6, 2) := by decide +kernel
theorem dX7_layGets_65 : decode cX7_layGets 65 = .ok (.aload_n 0, 1) := by decide +kernel
theorem dX7_layGets_66 : decode cX7_layGets 66 = .ok (.getfield 81, 3) := by decide +kernel
theorem dX7_layGets_69 : decode cX7_layGets 69 = .ok (.if_icmp .ne 68, 3) := by decide +kernel
theorem dX7_layGets_72 : decode cX7_layGets 72 = .ok (.iload_n 3, 1) := by decide +kernel
theorem dX7_layGets_73 : decode cX7_layGets 73 = .ok (.ifCond .le 7, 3) := by decide +kernel
theorem dX7_layGets_76 : decode cX7_layGets 76 = .ok (.iconst 1, 1) := by decide +kernel
theorem dX7_layGets_77 : decode cX7_layGets 77 = .ok (.goto 4, 3) := by decide +kernel
theorem dX7_layGets_80 : decode cX7_layGets 80 = .ok (.iconst 0, 1) := by decide +kernel
theorem dX7_layGets_81 : decode cX7_layGets 81 = .ok (.istore 7, 2) := by decide +kernel
theorem dX7_layGets_83 : decode cX7_layGets 83 = .ok (.iload 7, 2) := by decide +kernel
theorem dX7_layGets_85 : decode cX7_layGets 85 = .ok (.ifCond .eq (-27), 3) := by decide +kernel
theorem dX7_layGets_88 : decode cX7_layGets 88 = .ok (.iinc 3 (-1), 3) := by decide +kernel
theorem dX7_layGets_91 : decode cX7_layGets 91 = .ok (.aload_n 0, 1) := by decide +kernel
theorem dX7_layGets_92 : decode cX7_layGets 92 = .ok (.getfield 56, 3) := by decide +kernel
theorem dX7_layGets_95 : decode cX7_layGets 95 = .ok (.iload_n 3, 1) := by decide +kernel
theorem dX7_layGets_96 : decode cX7_layGets 96 = .ok (.iaload, 1) := by decide +kernel
theorem dX7_layGets_97 : decode cX7_layGets 97 = .ok (.iconst 1, 1) := by decide +kernel
theorem dX7_layGets_98 : decode cX7_layGets 98 = .ok (.iadd, 1) := by decide +kernel
theorem dX7_layGets_99 : decode cX7_layGets 99 = .ok (.istore 6, 2) := by decide +kernel
theorem dX7_layGets_101 : decode cX7_layGets 101 = .ok (.aload_n 0, 1) := by decide +kernel
theorem dX7_layGets_102 : decode cX7_layGets 102 = .ok (.getfield 7, 3) := by decide +kernel
theorem dX7_layGets_105 : decode cX7_layGets 105 = .ok (.aload_n 0, 1) := by decide +kernel
theorem dX7_layGets_106 : decode cX7_layGets 106 = .ok (.getfield 56, 3) := by decide +kernel
theorem dX7_layGets_109 : decode cX7_layGets 109 = .ok (.iload_n 3, 1) := by decide +kernel
theorem dX7_layGets_110 : decode cX7_layGets 110 = .ok (.iaload, 1) := by decide +kernel
theorem dX7_layGets_111 : decode cX7_layGets 111 = .ok (.iaload, 1) := by decide +kernel
theorem dX7_layGets_112 : decode cX7_layGets 112 = .ok (.istore 5, 2) := by decide +kernel
theorem dX7_layGets_114 : decode cX7_layGets 114 = .ok (.iload 4, 2) := by decide +kernel
theorem dX7_layGets_116 : decode cX7_layGets 116 = .ok (.iconst 1, 1) := by decide +kernel
theorem dX7_layGets_117 : decode cX7_layGets 117 = .ok (.aload_n 0, 1) := by decide +kernel
theorem dX7_layGets_118 : decode cX7_layGets 118 = .ok (.getfield 16, 3) := by decide +kernel
theorem dX7_layGets_121 : decode cX7_layGets 121 = .ok (.aload_n 0, 1) := by decide +kernel
theorem dX7_layGets_122 : decode cX7_layGets 122 = .ok (.getfield 56, 3) := by decide +kernel
theorem dX7_layGets_125 : decode cX7_layGets 125 = .ok (.iload_n 3, 1) := by decide +kernel
theorem dX7_layGets_126 : decode cX7_layGets 126 = .ok (.iaload, 1) := by decide +kernel
theorem dX7_layGets_127 : decode cX7_layGets 127 = .ok (.iaload, 1) := by decide +kernel
theorem dX7_layGets_128 : decode cX7_layGets 128 = .ok (.ishl, 1) := by decide +kernel
theorem dX7_layGets_129 : decode cX7_layGets 129 = .ok (.iconst (-1), 1) := by decide +kernel
theorem dX7_layGets_130 : decode cX7_layGets 130 = .ok (.ixor, 1) := by decide +kernel
theorem dX7_layGets_131 : decode cX7_layGets 131 = .ok (.iand, 1) := by decide +kernel
theorem dX7_layGets_132 : decode cX7_layGets 132 = .ok (.istore 4, 2) := by decide +kernel
theorem dX7_layGets_134 : decode cX7_layGets 134 = .ok (.goto (-76), 3) := by decide +kernel
theorem dX7_layGets_137 : decode cX7_layGets 137 = .ok (.aload_n 0, 1) := by decide +kernel
theorem dX7_layGets_138 : decode cX7_layGets 138 = .ok (.getfield 7, 3) := by decide +kernel
theorem dX7_layGets_141 : decode cX7_layGets 141 = .ok (.iload 6, 2) := by decide +kernel
theorem dX7_layGets_143 : decode cX7_layGets 143 = .ok (.iaload, 1) := by decide +kernel
theorem dX7_layGets_144 : decode cX7_layGets 144 = .ok (.iload 5, 2) := by decide +kernel
theorem dX7_layGets_146 : decode cX7_layGets 146 = .ok (.if_icmp .ne 31, 3) := by decide +kernel
theorem dX7_layGets_149 : decode cX7_layGets 149 = .ok (.aload_n 0, 1) := by decide +kernel
theorem dX7_layGets_150 : decode cX7_layGets 150 = .ok (.iload 6, 2) := by decide +kernel
theorem dX7_layGets_152 : decode cX7_layGets 152 = .ok (.invokevirtual 97, 3) := by decide +kernel
theorem dX7_layGets_155 : decode cX7_layGets 155 = .ok (.ifCond .eq 22, 3) := by decide +kernel
theorem dX7_layGets_158 : decode cX7_layGets 158 = .ok (.iload 4, 2) := by decide +kernel
theorem dX7_layGets_160 : decode cX7_layGets 160 = .ok (.aload_n 0, 1) := by decide +kernel
theorem dX7_layGets_161 : decode cX7_layGets 161 = .ok (.getfield 16, 3) := by decide +kernel
theorem dX7_layGets_164 : decode cX7_layGets 164 = .ok (.iload 6, 2) := by decide +kernel
theorem dX7_layGets_166 : decode cX7_layGets 166 = .ok (.iaload, 1) := by decide +kernel
theorem dX7_layGets_167 : decode cX7_layGets 167 = .ok (.ishr, 1) := by decide +kernel
theorem dX7_layGets_168 : decode cX7_layGets 168 = .ok (.iconst 1, 1) := by decide +kernel
theorem dX7_layGets_169 : decode cX7_layGets 169 = .ok (.iand, 1) := by decide +kernel
theorem dX7_layGets_170 : decode cX7_layGets 170 = .ok (.ifCond .ne 7, 3) := by decide +kernel
theorem dX7_layGets_173 : decode cX7_layGets 173 = .ok (.iconst 1, 1) := by decide +kernel
theorem dX7_layGets_174 : decode cX7_layGets 174 = .ok (.goto 4, 3) := by decide +kernel
theorem dX7_layGets_177 : decode cX7_layGets 177 = .ok (.iconst 0, 1) := by decide +kernel
theorem dX7_layGets_178 : decode cX7_layGets 178 = .ok (.istore 8, 2) := by decide +kernel
theorem dX7_layGets_180 : decode cX7_layGets 180 = .ok (.iload 8, 2) := by decide +kernel
theorem dX7_layGets_182 : decode cX7_layGets 182 = .ok (.ifCond .eq 56, 3) := by decide +kernel
theorem dX7_layGets_185 : decode cX7_layGets 185 = .ok (.aload_n 0, 1) := by decide +kernel
theorem dX7_layGets_186 : decode cX7_layGets 186 = .ok (.getfield 56, 3) := by decide +kernel
theorem dX7_layGets_189 : decode cX7_layGets 189 = .ok (.iload_n 3, 1) := by decide +kernel
theorem dX7_layGets_190 : decode cX7_layGets 190 = .ok (.iload 6, 2) := by decide +kernel
theorem dX7_layGets_192 : decode cX7_layGets 192 = .ok (.iastore, 1) := by decide +kernel
theorem dX7_layGets_193 : decode cX7_layGets 193 = .ok (.aload_n 0, 1) := by decide +kernel
theorem dX7_layGets_194 : decode cX7_layGets 194 = .ok (.getfield 59, 3) := by decide +kernel
theorem dX7_layGets_197 : decode cX7_layGets 197 = .ok (.iload_n 3, 1) := by decide +kernel
theorem dX7_layGets_198 : decode cX7_layGets 198 = .ok (.iconst 1, 1) := by decide +kernel
theorem dX7_layGets_199 : decode cX7_layGets 199 = .ok (.iadd, 1) := by decide +kernel
theorem dX7_layGets_200 : decode cX7_layGets 200 = .ok (.aload_n 0, 1) := by decide +kernel
theorem dX7_layGets_201 : decode cX7_layGets 201 = .ok (.getfield 59, 3) := by decide +kernel
theorem dX7_layGets_204 : decode cX7_layGets 204 = .ok (.iload_n 3, 1) := by decide +kernel
theorem dX7_layGets_205 : decode cX7_layGets 205 = .ok (.laload, 1) := by decide +kernel
theorem dX7_layGets_206 : decode cX7_layGets 206 = .ok (.aload_n 0, 1) := by decide +kernel
theorem dX7_layGets_207 : decode cX7_layGets 207 = .ok (.iload 6, 2) := by decide +kernel
theorem dX7_layGets_209 : decode cX7_layGets 209 = .ok (.invokevirtual 100, 3) := by decide +kernel
theorem dX7_layGets_212 : decode cX7_layGets 212 = .ok (.i2l, 1) := by decide +kernel
theorem dX7_layGets_213 : decode cX7_layGets 213 = .ok (.lmul, 1) := by decide +kernel
theorem dX7_layGets_214 : decode cX7_layGets 214 = .ok (.lastore, 1) := by decide +kernel
theorem dX7_layGets_215 : decode cX7_layGets 215 = .ok (.aload_n 0, 1) := by decide +kernel
theorem dX7_layGets_216 : decode cX7_layGets 216 = .ok (.getfield 62, 3) := by decide +kernel
theorem dX7_layGets_219 : decode cX7_layGets 219 = .ok (.iload_n 3, 1) := by decide +kernel
theorem dX7_layGets_220 : decode cX7_layGets 220 = .ok (.iconst 1, 1) := by decide +kernel
theorem dX7_layGets_221 : decode cX7_layGets 221 = .ok (.iadd, 1) := by decide +kernel
theorem dX7_layGets_222 : decode cX7_layGets 222 = .ok (.aload_n 0, 1) := by decide +kernel
theorem dX7_layGets_223 : decode cX7_layGets 223 = .ok (.getfield 62, 3) := by decide +kernel
theorem dX7_layGets_226 : decode cX7_layGets 226 = .ok (.iload_n 3, 1) := by decide +kernel
theorem dX7_layGets_227 : decode cX7_layGets 227 = .ok (.laload, 1) := by decide +kernel
theorem dX7_layGets_228 : decode cX7_layGets 228 = .ok (.aload_n 0, 1) := by decide +kernel
theorem dX7_layGets_229 : decode cX7_layGets 229 = .ok (.getfield 13, 3) := by decide +kernel
theorem dX7_layGets_232 : decode cX7_layGets 232 = .ok (.iload 6, 2) := by decide +kernel
theorem dX7_layGets_234 : decode cX7_layGets 234 = .ok (.iaload, 1) := by decide +kernel
theorem dX7_layGets_235 : decode cX7_layGets 235 = .ok (.i2l, 1) := by decide +kernel
theorem dX7_layGets_236 : decode cX7_layGets 236 = .ok (.lmul, 1) := by decide +kernel
theorem dX7_layGets_237 : decode cX7_layGets 237 = .ok (.lastore, 1) := by decide +kernel
theorem dX7_layGets_238 : decode cX7_layGets 238 = .ok (.iload 8, 2) := by decide +kernel
theorem dX7_layGets_240 : decode cX7_layGets 240 = .ok (.ifCond .eq 68, 3) := by decide +kernel
theorem dX7_layGets_243 : decode cX7_layGets 243 = .ok (.aload_n 0, 1) := by decide +kernel
theorem dX7_layGets_244 : decode cX7_layGets 244 = .ok (.getfield 16, 3) := by decide +kernel
theorem dX7_layGets_247 : decode cX7_layGets 247 = .ok (.iload 6, 2) := by decide +kernel
theorem dX7_layGets_249 : decode cX7_layGets 249 = .ok (.iaload, 1) := by decide +kernel
theorem dX7_layGets_250 : decode cX7_layGets 250 = .ok (.iload_n 2, 1) := by decide +kernel
theorem dX7_layGets_251 : decode cX7_layGets 251 = .ok (.if_icmp .ne 57, 3) := by decide +kernel
theorem dX7_layGets_254 : decode cX7_layGets 254 = .ok (.aload_n 0, 1) := by decide +kernel
theorem dX7_layGets_255 : decode cX7_layGets 255 = .ok (.getfield 59, 3) := by decide +kernel
theorem dX7_layGets_258 : decode cX7_layGets 258 = .ok (.iload_n 3, 1) := by decide +kernel
theorem dX7_layGets_259 : decode cX7_layGets 259 = .ok (.iconst 1, 1) := by decide +kernel
theorem dX7_layGets_260 : decode cX7_layGets 260 = .ok (.iadd, 1) := by decide +kernel
theorem dX7_layGets_261 : decode cX7_layGets 261 = .ok (.laload, 1) := by decide +kernel
theorem dX7_layGets_262 : decode cX7_layGets 262 = .ok (.aload_n 0, 1) := by decide +kernel
theorem dX7_layGets_263 : decode cX7_layGets 263 = .ok (.getfield 62, 3) := by decide +kernel
theorem dX7_layGets_266 : decode cX7_layGets 266 = .ok (.iload_n 3, 1) := by decide +kernel
theorem dX7_layGets_267 : decode cX7_layGets 267 = .ok (.iconst 1, 1) := by decide +kernel
theorem dX7_layGets_268 : decode cX7_layGets 268 = .ok (.iadd, 1) := by decide +kernel
theorem dX7_layGets_269 : decode cX7_layGets 269 = .ok (.laload, 1) := by decide +kernel
theorem dX7_layGets_270 : decode cX7_layGets 270 = .ok (.aload_n 0, 1) := by decide +kernel
theorem dX7_layGets_271 : decode cX7_layGets 271 = .ok (.getfield 145, 3) := by decide +kernel
theorem dX7_layGets_274 : decode cX7_layGets 274 = .ok (.aload_n 0, 1) := by decide +kernel
theorem dX7_layGets_275 : decode cX7_layGets 275 = .ok (.getfield 149, 3) := by decide +kernel
theorem dX7_layGets_278 : decode cX7_layGets 278 = .ok (.invokestatic 135, 3) := by decide +kernel
theorem dX7_layGets_281 : decode cX7_layGets 281 = .ok (.ifCond .le 27, 3) := by decide +kernel
theorem dX7_layGets_284 : decode cX7_layGets 284 = .ok (.aload_n 0, 1) := by decide +kernel
theorem dX7_layGets_285 : decode cX7_layGets 285 = .ok (.aload_n 0, 1) := by decide +kernel
theorem dX7_layGets_286 : decode cX7_layGets 286 = .ok (.getfield 59, 3) := by decide +kernel
theorem dX7_layGets_289 : decode cX7_layGets 289 = .ok (.iload_n 3, 1) := by decide +kernel
theorem dX7_layGets_290 : decode cX7_layGets 290 = .ok (.iconst 1, 1) := by decide +kernel
theorem dX7_layGets_291 : decode cX7_layGets 291 = .ok (.iadd, 1) := by decide +kernel
theorem dX7_layGets_292 : decode cX7_layGets 292 = .ok (.laload, 1) := by decide +kernel
theorem dX7_layGets_293 : decode cX7_layGets 293 = .ok (.putfield 145, 3) := by decide +kernel
theorem dX7_layGets_296 : decode cX7_layGets 296 = .ok (.aload_n 0, 1) := by decide +kernel
theorem dX7_layGets_297 : decode cX7_layGets 297 = .ok (.aload_n 0, 1) := by decide +kernel
theorem dX7_layGets_298 : decode cX7_layGets 298 = .ok (.getfield 62, 3) := by decide +kernel
theorem dX7_layGets_301 : decode cX7_layGets 301 = .ok (.iload_n 3, 1) := by decide +kernel
theorem dX7_layGets_302 : decode cX7_layGets 302 = .ok (.iconst 1, 1) := by decide +kernel
theorem dX7_layGets_303 : decode cX7_layGets 303 = .ok (.iadd, 1) := by decide +kernel
theorem dX7_layGets_304 : decode cX7_layGets 304 = .ok (.laload, 1) := by decide +kernel
theorem dX7_layGets_305 : decode cX7_layGets 305 = .ok (.putfield 149, 3) := by decide +kernel
theorem dX7_layGets_308 : decode cX7_layGets 308 = .ok (.iload 8, 2) := by decide +kernel
theorem dX7_layGets_310 : decode cX7_layGets 310 = .ok (.ifCond .eq 41, 3) := by decide +kernel
theorem dX7_layGets_313 : decode cX7_layGets 313 = .ok (.aload_n 0, 1) := by decide +kernel
theorem dX7_layGets_314 : decode cX7_layGets 314 = .ok (.getfield 16, 3) := by decide +kernel
theorem dX7_layGets_317 : decode cX7_layGets 317 = .ok (.iload 6, 2) := by decide +kernel
theorem dX7_layGets_319 : decode cX7_layGets 319 = .ok (.iaload, 1) := by decide +kernel
theorem dX7_layGets_320 : decode cX7_layGets 320 = .ok (.iload_n 2, 1) := by decide +kernel
theorem dX7_layGets_321 : decode cX7_layGets 321 = .ok (.if_icmp .eq 30, 3) := by decide +kernel
theorem dX7_layGets_324 : decode cX7_layGets 324 = .ok (.aload_n 0, 1) := by decide +kernel
theorem dX7_layGets_325 : decode cX7_layGets 325 = .ok (.getfield 16, 3) := by decide +kernel
theorem dX7_layGets_328 : decode cX7_layGets 328 = .ok (.iload 6, 2) := by decide +kernel
theorem dX7_layGets_330 : decode cX7_layGets 330 = .ok (.iaload, 1) := by decide +kernel
theorem dX7_layGets_331 : decode cX7_layGets 331 = .ok (.istore 5, 2) := by decide +kernel
theorem dX7_layGets_333 : decode cX7_layGets 333 = .ok (.iload 4, 2) := by decide +kernel
theorem dX7_layGets_335 : decode cX7_layGets 335 = .ok (.iconst 1, 1) := by decide +kernel
theorem dX7_layGets_336 : decode cX7_layGets 336 = .ok (.iload 5, 2) := by decide +kernel
theorem dX7_layGets_338 : decode cX7_layGets 338 = .ok (.ishl, 1) := by decide +kernel
theorem dX7_layGets_339 : decode cX7_layGets 339 = .ok (.ior, 1) := by decide +kernel
theorem dX7_layGets_340 : decode cX7_layGets 340 = .ok (.istore 4, 2) := by decide +kernel
theorem dX7_layGets_342 : decode cX7_layGets 342 = .ok (.iinc 3 1, 3) := by decide +kernel
theorem dX7_layGets_345 : decode cX7_layGets 345 = .ok (.iconst 0, 1) := by decide +kernel
theorem dX7_layGets_346 : decode cX7_layGets 346 = .ok (.istore 6, 2) := by decide +kernel
theorem dX7_layGets_348 : decode cX7_layGets 348 = .ok (.goto 6, 3) := by decide +kernel
theorem dX7_layGets_351 : decode cX7_layGets 351 = .ok (.iinc 6 1, 3) := by decide +kernel
theorem dX7_layGets_354 : decode cX7_layGets 354 = .ok (.goto (-296), 3) := by decide +kernel
theorem dX7_layGets_357 : decode cX7_layGets 357 = .ok (.return_, 1) := by decide +kernel
theorem dX7_someGains_0 : decode cX7_someGains 0 = .ok (.aload_n 0, 1) := by decide +kernel
theorem dX7_someGains_1 : decode cX7_someGains 1 = .ok (.iconst 0, 1) := by decide +kernel
theorem dX7_someGains_2 : decode cX7_someGains 2 = .ok (.invokevirtual 124, 3) := by decide +kernel
theorem dX7_someGains_5 : decode cX7_someGains 5 = .ok (.aload_n 0, 1) := by decide +kernel
theorem dX7_someGains_6 : decode cX7_someGains 6 = .ok (.getfield 117, 3) := by decide +kernel
theorem dX7_someGains_9 : decode cX7_someGains 9 = .ok (.ifCond .le 7, 3) := by decide +kernel
theorem dX7_someGains_12 : decode cX7_someGains 12 = .ok (.iconst 1, 1) := by decide +kernel
theorem dX7_someGains_13 : decode cX7_someGains 13 = .ok (.goto 4, 3) := by decide +kernel
theorem dX7_someGains_16 : decode cX7_someGains 16 = .ok (.iconst 0, 1) := by decide +kernel
theorem dX7_someGains_17 : decode cX7_someGains 17 = .ok (.ireturn, 1) := by decide +kernel
theorem dX7_gets_0 : decode cX7_gets 0 = .ok (.iload_n 1, 1) := by decide +kernel
theorem dX7_gets_1 : decode cX7_gets 1 = .ok (.invokestatic 86, 3) := by decide +kernel
theorem dX7_gets_4 : decode cX7_gets 4 = .ok (.ifCond .eq 10, 3) := by decide +kernel
theorem dX7_gets_7 : decode cX7_gets 7 = .ok (.iload_n 2, 1) := by decide +kernel
theorem dX7_gets_8 : decode cX7_gets 8 = .ok (.invokestatic 86, 3) := by decide +kernel
theorem dX7_gets_11 : decode cX7_gets 11 = .ok (.ifCond .ne 7, 3) := by decide +kernel
theorem dX7_gets_14 : decode cX7_gets 14 = .ok (.ldc2_w 127, 3) := by decide +kernel
theorem dX7_gets_17 : decode cX7_gets 17 = .ok (.lreturn, 1) := by decide +kernel
theorem dX7_gets_18 : decode cX7_gets 18 = .ok (.iload_n 3, 1) := by decide +kernel
theorem dX7_gets_19 : decode cX7_gets 19 = .ok (.iconst 0, 1) := by decide +kernel
theorem dX7_gets_20 : decode cX7_gets 20 = .ok (.iconst 1, 1) := by decide +kernel
theorem dX7_gets_21 : decode cX7_gets 21 = .ok (.invokestatic 77, 3) := by decide +kernel
theorem dX7_gets_24 : decode cX7_gets 24 = .ok (.ifCond .ne 7, 3) := by decide +kernel
theorem dX7_gets_27 : decode cX7_gets 27 = .ok (.ldc2_w 133, 3) := by decide +kernel
theorem dX7_gets_30 : decode cX7_gets 30 = .ok (.lreturn, 1) := by decide +kernel
theorem dX7_gets_31 : decode cX7_gets 31 = .ok (.aload_n 0, 1) := by decide +kernel
theorem dX7_gets_32 : decode cX7_gets 32 = .ok (.invokevirtual 152, 3) := by decide +kernel
theorem dX7_gets_35 : decode cX7_gets 35 = .ok (.ifCond .eq 7, 3) := by decide +kernel
theorem dX7_gets_38 : decode cX7_gets 38 = .ok (.ldc2_w 156, 3) := by decide +kernel
theorem dX7_gets_41 : decode cX7_gets 41 = .ok (.lreturn, 1) := by decide +kernel
theorem dX7_gets_42 : decode cX7_gets 42 = .ok (.aload_n 0, 1) := by decide +kernel
theorem dX7_gets_43 : decode cX7_gets 43 = .ok (.iload_n 1, 1) := by decide +kernel
theorem dX7_gets_44 : decode cX7_gets 44 = .ok (.iload_n 2, 1) := by decide +kernel
theorem dX7_gets_45 : decode cX7_gets 45 = .ok (.invokevirtual 158, 3) := by decide +kernel
theorem dX7_gets_48 : decode cX7_gets 48 = .ok (.aload_n 0, 1) := by decide +kernel
theorem dX7_gets_49 : decode cX7_gets 49 = .ok (.getfield 145, 3) := by decide +kernel
theorem dX7_gets_52 : decode cX7_gets 52 = .ok (.aload_n 0, 1) := by decide +kernel
theorem dX7_gets_53 : decode cX7_gets 53 = .ok (.getfield 149, 3) := by decide +kernel
theorem dX7_gets_56 : decode cX7_gets 56 = .ok (.iload_n 3, 1) := by decide +kernel
theorem dX7_gets_57 : decode cX7_gets 57 = .ok (.invokestatic 129, 3) := by decide +kernel
theorem dX7_gets_60 : decode cX7_gets 60 = .ok (.lreturn, 1) := by decide +kernel
theorem dX7_span_0 : decode cX7_span 0 = .ok (.iload_n 1, 1) := by decide +kernel
theorem dX7_span_1 : decode cX7_span 1 = .ok (.invokestatic 86, 3) := by decide +kernel
theorem dX7_span_4 : decode cX7_span 4 = .ok (.ifCond .eq 10, 3) := by decide +kernel
theorem dX7_span_7 : decode cX7_span 7 = .ok (.iload_n 2, 1) := by decide +kernel
theorem dX7_span_8 : decode cX7_span 8 = .ok (.invokestatic 86, 3) := by decide +kernel
theorem dX7_span_11 : decode cX7_span 11 = .ok (.ifCond .ne 7, 3) := by decide +kernel
theorem dX7_span_14 : decode cX7_span 14 = .ok (.ldc2_w 127, 3) := by decide +kernel
theorem dX7_span_17 : decode cX7_span 17 = .ok (.lreturn, 1) := by decide +kernel
theorem dX7_span_18 : decode cX7_span 18 = .ok (.iload_n 3, 1) := by decide +kernel
theorem dX7_span_19 : decode cX7_span 19 = .ok (.iconst 0, 1) := by decide +kernel
theorem dX7_span_20 : decode cX7_span 20 = .ok (.iconst 1, 1) := by decide +kernel
theorem dX7_span_21 : decode cX7_span 21 = .ok (.invokestatic 77, 3) := by decide +kernel
theorem dX7_span_24 : decode cX7_span 24 = .ok (.ifCond .eq 13, 3) := by decide +kernel
theorem dX7_span_27 : decode cX7_span 27 = .ok (.iload 4, 2) := by decide +kernel
theorem dX7_span_29 : decode cX7_span 29 = .ok (.iconst 0, 1) := by decide +kernel
theorem dX7_span_30 : decode cX7_span 30 = .ok (.iconst 1, 1) := by decide +kernel
theorem dX7_span_31 : decode cX7_span 31 = .ok (.invokestatic 77, 3) := by decide +kernel
theorem dX7_span_34 : decode cX7_span 34 = .ok (.ifCond .ne 7, 3) := by decide +kernel
theorem dX7_span_37 : decode cX7_span 37 = .ok (.ldc2_w 133, 3) := by decide +kernel
theorem dX7_span_40 : decode cX7_span 40 = .ok (.lreturn, 1) := by decide +kernel
theorem dX7_span_41 : decode cX7_span 41 = .ok (.aload_n 0, 1) := by decide +kernel
theorem dX7_span_42 : decode cX7_span 42 = .ok (.invokevirtual 152, 3) := by decide +kernel
theorem dX7_span_45 : decode cX7_span 45 = .ok (.ifCond .eq 7, 3) := by decide +kernel
theorem dX7_span_48 : decode cX7_span 48 = .ok (.ldc2_w 156, 3) := by decide +kernel
theorem dX7_span_51 : decode cX7_span 51 = .ok (.lreturn, 1) := by decide +kernel
theorem dX7_span_52 : decode cX7_span 52 = .ok (.iload_n 3, 1) := by decide +kernel
theorem dX7_span_53 : decode cX7_span 53 = .ok (.ifCond .ne 23, 3) := by decide +kernel
theorem dX7_span_56 : decode cX7_span 56 = .ok (.aload_n 0, 1) := by decide +kernel
theorem dX7_span_57 : decode cX7_span 57 = .ok (.iload_n 1, 1) := by decide +kernel
theorem dX7_span_58 : decode cX7_span 58 = .ok (.iload_n 2, 1) := by decide +kernel
theorem dX7_span_59 : decode cX7_span 59 = .ok (.invokevirtual 158, 3) := by decide +kernel
theorem dX7_span_62 : decode cX7_span 62 = .ok (.aload_n 0, 1) := by decide +kernel
theorem dX7_span_63 : decode cX7_span 63 = .ok (.getfield 145, 3) := by decide +kernel
theorem dX7_span_66 : decode cX7_span 66 = .ok (.aload_n 0, 1) := by decide +kernel
theorem dX7_span_67 : decode cX7_span 67 = .ok (.getfield 149, 3) := by decide +kernel
theorem dX7_span_70 : decode cX7_span 70 = .ok (.iload 4, 2) := by decide +kernel
theorem dX7_span_72 : decode cX7_span 72 = .ok (.invokestatic 129, 3) := by decide +kernel
theorem dX7_span_75 : decode cX7_span 75 = .ok (.lreturn, 1) := by decide +kernel
theorem dX7_span_76 : decode cX7_span 76 = .ok (.aload_n 0, 1) := by decide +kernel
theorem dX7_span_77 : decode cX7_span 77 = .ok (.iload_n 2, 1) := by decide +kernel
theorem dX7_span_78 : decode cX7_span 78 = .ok (.iload_n 1, 1) := by decide +kernel
theorem dX7_span_79 : decode cX7_span 79 = .ok (.invokevirtual 158, 3) := by decide +kernel
theorem dX7_span_82 : decode cX7_span 82 = .ok (.aload_n 0, 1) := by decide +kernel
theorem dX7_span_83 : decode cX7_span 83 = .ok (.getfield 145, 3) := by decide +kernel
theorem dX7_span_86 : decode cX7_span 86 = .ok (.lconst 0, 1) := by decide +kernel
theorem dX7_span_87 : decode cX7_span 87 = .ok (.lcmp, 1) := by decide +kernel
theorem dX7_span_88 : decode cX7_span 88 = .ok (.ifCond .ne 9, 3) := by decide +kernel
theorem dX7_span_91 : decode cX7_span 91 = .ok (.iload 4, 2) := by decide +kernel
theorem dX7_span_93 : decode cX7_span 93 = .ok (.i2l, 1) := by decide +kernel
theorem dX7_span_94 : decode cX7_span 94 = .ok (.goto 16, 3) := by decide +kernel
theorem dX7_span_97 : decode cX7_span 97 = .ok (.aload_n 0, 1) := by decide +kernel
theorem dX7_span_98 : decode cX7_span 98 = .ok (.getfield 149, 3) := by decide +kernel
theorem dX7_span_101 : decode cX7_span 101 = .ok (.aload_n 0, 1) := by decide +kernel
theorem dX7_span_102 : decode cX7_span 102 = .ok (.getfield 145, 3) := by decide +kernel
theorem dX7_span_105 : decode cX7_span 105 = .ok (.iload 4, 2) := by decide +kernel
theorem dX7_span_107 : decode cX7_span 107 = .ok (.invokestatic 129, 3) := by decide +kernel
theorem dX7_span_110 : decode cX7_span 110 = .ok (.lreturn, 1) := by decide +kernel
theorem dX7_reached_0 : decode cX7_reached 0 = .ok (.iconst 1, 1) := by decide +kernel
theorem dX7_reached_1 : decode cX7_reached 1 = .ok (.iload_n 1, 1) := by decide +kernel
theorem dX7_reached_2 : decode cX7_reached 2 = .ok (.ishl, 1) := by decide +kernel
theorem dX7_reached_3 : decode cX7_reached 3 = .ok (.istore_n 2, 1) := by decide +kernel
theorem dX7_reached_4 : decode cX7_reached 4 = .ok (.iconst 0, 1) := by decide +kernel
theorem dX7_reached_5 : decode cX7_reached 5 = .ok (.istore_n 3, 1) := by decide +kernel
theorem dX7_reached_6 : decode cX7_reached 6 = .ok (.iload_n 3, 1) := by decide +kernel
theorem dX7_reached_7 : decode cX7_reached 7 = .ok (.bipush 8, 2) := by decide +kernel
theorem dX7_reached_9 : decode cX7_reached 9 = .ok (.if_icmp .ge 67, 3) := by decide +kernel
theorem dX7_reached_12 : decode cX7_reached 12 = .ok (.iconst 0, 1) := by decide +kernel
theorem dX7_reached_13 : decode cX7_reached 13 = .ok (.istore 4, 2) := by decide +kernel
theorem dX7_reached_15 : decode cX7_reached 15 = .ok (.iload 4, 2) := by decide +kernel
theorem dX7_reached_17 : decode cX7_reached 17 = .ok (.aload_n 0, 1) := by decide +kernel
theorem dX7_reached_18 : decode cX7_reached 18 = .ok (.getfield 81, 3) := by decide +kernel
theorem dX7_reached_21 : decode cX7_reached 21 = .ok (.if_icmp .ge 49, 3) := by decide +kernel
theorem dX7_reached_24 : decode cX7_reached 24 = .ok (.iload_n 2, 1) := by decide +kernel
theorem dX7_reached_25 : decode cX7_reached 25 = .ok (.aload_n 0, 1) := by decide +kernel
theorem dX7_reached_26 : decode cX7_reached 26 = .ok (.iload 4, 2) := by decide +kernel
theorem dX7_reached_28 : decode cX7_reached 28 = .ok (.invokevirtual 97, 3) := by decide +kernel
theorem dX7_reached_31 : decode cX7_reached 31 = .ok (.ifCond .eq 30, 3) := by decide +kernel
theorem dX7_reached_34 : decode cX7_reached 34 = .ok (.iload_n 2, 1) := by decide +kernel
theorem dX7_reached_35 : decode cX7_reached 35 = .ok (.aload_n 0, 1) := by decide +kernel
theorem dX7_reached_36 : decode cX7_reached 36 = .ok (.getfield 7, 3) := by decide +kernel
theorem dX7_reached_39 : decode cX7_reached 39 = .ok (.iload 4, 2) := by decide +kernel
theorem dX7_reached_41 : decode cX7_reached 41 = .ok (.iaload, 1) := by decide +kernel
theorem dX7_reached_42 : decode cX7_reached 42 = .ok (.ishr, 1) := by decide +kernel
theorem dX7_reached_43 : decode cX7_reached 43 = .ok (.iconst 1, 1) := by decide +kernel
theorem dX7_reached_44 : decode cX7_reached 44 = .ok (.iand, 1) := by decide +kernel
theorem dX7_reached_45 : decode cX7_reached 45 = .ok (.iconst 1, 1) := by decide +kernel
theorem dX7_reached_46 : decode cX7_reached 46 = .ok (.if_icmp .ne 15, 3) := by decide +kernel
theorem dX7_reached_49 : decode cX7_reached 49 = .ok (.iconst 1, 1) := by decide +kernel
theorem dX7_reached_50 : decode cX7_reached 50 = .ok (.aload_n 0, 1) := by decide +kernel
theorem dX7_reached_51 : decode cX7_reached 51 = .ok (.getfield 16, 3) := by decide +kernel
theorem dX7_reached_54 : decode cX7_reached 54 = .ok (.iload 4, 2) := by decide +kernel
theorem dX7_reached_56 : decode cX7_reached 56 = .ok (.iaload, 1) := by decide +kernel
theorem dX7_reached_57 : decode cX7_reached 57 = .ok (.ishl, 1) := by decide +kernel
theorem dX7_reached_58 : decode cX7_reached 58 = .ok (.goto 4, 3) := by decide +kernel
theorem dX7_reached_61 : decode cX7_reached 61 = .ok (.iconst 0, 1) := by decide +kernel
theorem dX7_reached_62 : decode cX7_reached 62 = .ok (.ior, 1) := by decide +kernel
theorem dX7_reached_63 : decode cX7_reached 63 = .ok (.istore_n 2, 1) := by decide +kernel
theorem dX7_reached_64 : decode cX7_reached 64 = .ok (.iinc 4 1, 3) := by decide +kernel
theorem dX7_reached_67 : decode cX7_reached 67 = .ok (.goto (-52), 3) := by decide +kernel
theorem dX7_reached_70 : decode cX7_reached 70 = .ok (.iinc 3 1, 3) := by decide +kernel
theorem dX7_reached_73 : decode cX7_reached 73 = .ok (.goto (-67), 3) := by decide +kernel
theorem dX7_reached_76 : decode cX7_reached 76 = .ok (.iload_n 2, 1) := by decide +kernel
theorem dX7_reached_77 : decode cX7_reached 77 = .ok (.ireturn, 1) := by decide +kernel
theorem dX7_joinedOf_0 : decode cX7_joinedOf 0 = .ok (.iconst 0, 1) := by decide +kernel
theorem dX7_joinedOf_1 : decode cX7_joinedOf 1 = .ok (.istore_n 2, 1) := by decide +kernel
theorem dX7_joinedOf_2 : decode cX7_joinedOf 2 = .ok (.aload_n 0, 1) := by decide +kernel
theorem dX7_joinedOf_3 : decode cX7_joinedOf 3 = .ok (.iload_n 1, 1) := by decide +kernel
theorem dX7_joinedOf_4 : decode cX7_joinedOf 4 = .ok (.invokevirtual 162, 3) := by decide +kernel
theorem dX7_joinedOf_7 : decode cX7_joinedOf 7 = .ok (.istore_n 3, 1) := by decide +kernel
theorem dX7_joinedOf_8 : decode cX7_joinedOf 8 = .ok (.iconst 0, 1) := by decide +kernel
theorem dX7_joinedOf_9 : decode cX7_joinedOf 9 = .ok (.istore 4, 2) := by decide +kernel
theorem dX7_joinedOf_11 : decode cX7_joinedOf 11 = .ok (.iload 4, 2) := by decide +kernel
theorem dX7_joinedOf_13 : decode cX7_joinedOf 13 = .ok (.bipush 8, 2) := by decide +kernel
theorem dX7_joinedOf_15 : decode cX7_joinedOf 15 = .ok (.if_icmp .ge 44, 3) := by decide +kernel
theorem dX7_joinedOf_18 : decode cX7_joinedOf 18 = .ok (.iload_n 2, 1) := by decide +kernel
theorem dX7_joinedOf_19 : decode cX7_joinedOf 19 = .ok (.iload_n 3, 1) := by decide +kernel
theorem dX7_joinedOf_20 : decode cX7_joinedOf 20 = .ok (.iload 4, 2) := by decide +kernel
theorem dX7_joinedOf_22 : decode cX7_joinedOf 22 = .ok (.ishr, 1) := by decide +kernel
theorem dX7_joinedOf_23 : decode cX7_joinedOf 23 = .ok (.iconst 1, 1) := by decide +kernel
theorem dX7_joinedOf_24 : decode cX7_joinedOf 24 = .ok (.iand, 1) := by decide +kernel
theorem dX7_joinedOf_25 : decode cX7_joinedOf 25 = .ok (.iconst 1, 1) := by decide +kernel
theorem dX7_joinedOf_26 : decode cX7_joinedOf 26 = .ok (.if_icmp .ne 24, 3) := by decide +kernel
theorem dX7_joinedOf_29 : decode cX7_joinedOf 29 = .ok (.aload_n 0, 1) := by decide +kernel
theorem dX7_joinedOf_30 : decode cX7_joinedOf 30 = .ok (.iload 4, 2) := by decide +kernel
theorem dX7_joinedOf_32 : decode cX7_joinedOf 32 = .ok (.invokevirtual 162, 3) := by decide +kernel
theorem dX7_joinedOf_35 : decode cX7_joinedOf 35 = .ok (.iload_n 1, 1) := by decide +kernel
theorem dX7_joinedOf_36 : decode cX7_joinedOf 36 = .ok (.ishr, 1) := by decide +kernel
theorem dX7_joinedOf_37 : decode cX7_joinedOf 37 = .ok (.iconst 1, 1) := by decide +kernel
theorem dX7_joinedOf_38 : decode cX7_joinedOf 38 = .ok (.iand, 1) := by decide +kernel
theorem dX7_joinedOf_39 : decode cX7_joinedOf 39 = .ok (.iconst 1, 1) := by decide +kernel
theorem dX7_joinedOf_40 : decode cX7_joinedOf 40 = .ok (.if_icmp .ne 10, 3) := by decide +kernel
theorem dX7_joinedOf_43 : decode cX7_joinedOf 43 = .ok (.iconst 1, 1) := by decide +kernel
theorem dX7_joinedOf_44 : decode cX7_joinedOf 44 = .ok (.iload 4, 2) := by decide +kernel
theorem dX7_joinedOf_46 : decode cX7_joinedOf 46 = .ok (.ishl, 1) := by decide +kernel
theorem dX7_joinedOf_47 : decode cX7_joinedOf 47 = .ok (.goto 4, 3) := by decide +kernel
theorem dX7_joinedOf_50 : decode cX7_joinedOf 50 = .ok (.iconst 0, 1) := by decide +kernel
theorem dX7_joinedOf_51 : decode cX7_joinedOf 51 = .ok (.ior, 1) := by decide +kernel
theorem dX7_joinedOf_52 : decode cX7_joinedOf 52 = .ok (.istore_n 2, 1) := by decide +kernel
theorem dX7_joinedOf_53 : decode cX7_joinedOf 53 = .ok (.iinc 4 1, 3) := by decide +kernel
theorem dX7_joinedOf_56 : decode cX7_joinedOf 56 = .ok (.goto (-45), 3) := by decide +kernel
theorem dX7_joinedOf_59 : decode cX7_joinedOf 59 = .ok (.iload_n 2, 1) := by decide +kernel
theorem dX7_joinedOf_60 : decode cX7_joinedOf 60 = .ok (.ireturn, 1) := by decide +kernel
theorem dX7_joined_0 : decode cX7_joined 0 = .ok (.iload_n 1, 1) := by decide +kernel
theorem dX7_joined_1 : decode cX7_joined 1 = .ok (.invokestatic 86, 3) := by decide +kernel
theorem dX7_joined_4 : decode cX7_joined 4 = .ok (.ifCond .ne 7, 3) := by decide +kernel
theorem dX7_joined_7 : decode cX7_joined 7 = .ok (.iconst (-1), 1) := by decide +kernel
theorem dX7_joined_8 : decode cX7_joined 8 = .ok (.goto 20, 3) := by decide +kernel
theorem dX7_joined_11 : decode cX7_joined 11 = .ok (.aload_n 0, 1) := by decide +kernel
theorem dX7_joined_12 : decode cX7_joined 12 = .ok (.invokevirtual 152, 3) := by decide +kernel
theorem dX7_joined_15 : decode cX7_joined 15 = .ok (.ifCond .eq 8, 3) := by decide +kernel
theorem dX7_joined_18 : decode cX7_joined 18 = .ok (.bipush (-3), 2) := by decide +kernel
theorem dX7_joined_20 : decode cX7_joined 20 = .ok (.goto 8, 3) := by decide +kernel
theorem dX7_joined_23 : decode cX7_joined 23 = .ok (.aload_n 0, 1) := by decide +kernel
theorem dX7_joined_24 : decode cX7_joined 24 = .ok (.iload_n 1, 1) := by decide +kernel
theorem dX7_joined_25 : decode cX7_joined 25 = .ok (.invokevirtual 165, 3) := by decide +kernel
theorem dX7_joined_28 : decode cX7_joined 28 = .ok (.ireturn, 1) := by decide +kernel
theorem dX7_parts_0 : decode cX7_parts 0 = .ok (.aload_n 0, 1) := by decide +kernel
theorem dX7_parts_1 : decode cX7_parts 1 = .ok (.invokevirtual 152, 3) := by decide +kernel
theorem dX7_parts_4 : decode cX7_parts 4 = .ok (.ifCond .eq 6, 3) := by decide +kernel
theorem dX7_parts_7 : decode cX7_parts 7 = .ok (.bipush (-3), 2) := by decide +kernel
theorem dX7_parts_9 : decode cX7_parts 9 = .ok (.ireturn, 1) := by decide +kernel
theorem dX7_parts_10 : decode cX7_parts 10 = .ok (.iconst 0, 1) := by decide +kernel
theorem dX7_parts_11 : decode cX7_parts 11 = .ok (.istore_n 1, 1) := by decide +kernel
theorem dX7_parts_12 : decode cX7_parts 12 = .ok (.iconst 0, 1) := by decide +kernel
theorem dX7_parts_13 : decode cX7_parts 13 = .ok (.istore_n 2, 1) := by decide +kernel
theorem dX7_parts_14 : decode cX7_parts 14 = .ok (.iconst 0, 1) := by decide +kernel
theorem dX7_parts_15 : decode cX7_parts 15 = .ok (.istore_n 3, 1) := by decide +kernel
theorem dX7_parts_16 : decode cX7_parts 16 = .ok (.iload_n 3, 1) := by decide +kernel
theorem dX7_parts_17 : decode cX7_parts 17 = .ok (.bipush 8, 2) := by decide +kernel
theorem dX7_parts_19 : decode cX7_parts 19 = .ok (.if_icmp .ge 27, 3) := by decide +kernel
theorem dX7_parts_22 : decode cX7_parts 22 = .ok (.iload_n 1, 1) := by decide +kernel
theorem dX7_parts_23 : decode cX7_parts 23 = .ok (.iload_n 2, 1) := by decide +kernel
theorem dX7_parts_24 : decode cX7_parts 24 = .ok (.iload_n 3, 1) := by decide +kernel
theorem dX7_parts_25 : decode cX7_parts 25 = .ok (.ishr, 1) := by decide +kernel
theorem dX7_parts_26 : decode cX7_parts 26 = .ok (.iconst 1, 1) := by decide +kernel
theorem dX7_parts_27 : decode cX7_parts 27 = .ok (.iand, 1) := by decide +kernel
theorem dX7_parts_28 : decode cX7_parts 28 = .ok (.iconst 1, 1) := by decide +kernel
theorem dX7_parts_29 : decode cX7_parts 29 = .ok (.ixor, 1) := by decide +kernel
theorem dX7_parts_30 : decode cX7_parts 30 = .ok (.iadd, 1) := by decide +kernel
theorem dX7_parts_31 : decode cX7_parts 31 = .ok (.istore_n 1, 1) := by decide +kernel
theorem dX7_parts_32 : decode cX7_parts 32 = .ok (.iload_n 2, 1) := by decide +kernel
theorem dX7_parts_33 : decode cX7_parts 33 = .ok (.aload_n 0, 1) := by decide +kernel
theorem dX7_parts_34 : decode cX7_parts 34 = .ok (.iload_n 3, 1) := by decide +kernel
theorem dX7_parts_35 : decode cX7_parts 35 = .ok (.invokevirtual 165, 3) := by decide +kernel
theorem dX7_parts_38 : decode cX7_parts 38 = .ok (.ior, 1) := by decide +kernel
theorem dX7_parts_39 : decode cX7_parts 39 = .ok (.istore_n 2, 1) := by decide +kernel
theorem dX7_parts_40 : decode cX7_parts 40 = .ok (.iinc 3 1, 3) := by decide +kernel
theorem dX7_parts_43 : decode cX7_parts 43 = .ok (.goto (-27), 3) := by decide +kernel
theorem dX7_parts_46 : decode cX7_parts 46 = .ok (.iload_n 1, 1) := by decide +kernel
theorem dX7_parts_47 : decode cX7_parts 47 = .ok (.ireturn, 1) := by decide +kernel
theorem dX7_worth_0 : decode cX7_worth 0 = .ok (.iload_n 1, 1) := by decide +kernel
theorem dX7_worth_1 : decode cX7_worth 1 = .ok (.invokestatic 86, 3) := by decide +kernel
theorem dX7_worth_4 : decode cX7_worth 4 = .ok (.ifCond .ne 5, 3) := by decide +kernel
theorem dX7_worth_7 : decode cX7_worth 7 = .ok (.iconst (-1), 1) := by decide +kernel
theorem dX7_worth_8 : decode cX7_worth 8 = .ok (.ireturn, 1) := by decide +kernel
theorem dX7_worth_9 : decode cX7_worth 9 = .ok (.iload_n 2, 1) := by decide +kernel
theorem dX7_worth_10 : decode cX7_worth 10 = .ok (.iconst 1, 1) := by decide +kernel
theorem dX7_worth_11 : decode cX7_worth 11 = .ok (.ldc 85, 2) := by decide +kernel
theorem dX7_worth_13 : decode cX7_worth 13 = .ok (.invokestatic 77, 3) := by decide +kernel
theorem dX7_worth_16 : decode cX7_worth 16 = .ok (.ifCond .ne 6, 3) := by decide +kernel
theorem dX7_worth_19 : decode cX7_worth 19 = .ok (.bipush (-2), 2) := by decide +kernel
theorem dX7_worth_21 : decode cX7_worth 21 = .ok (.ireturn, 1) := by decide +kernel
theorem dX7_worth_22 : decode cX7_worth 22 = .ok (.aload_n 0, 1) := by decide +kernel
theorem dX7_worth_23 : decode cX7_worth 23 = .ok (.getfield 37, 3) := by decide +kernel
theorem dX7_worth_26 : decode cX7_worth 26 = .ok (.iload_n 1, 1) := by decide +kernel
theorem dX7_worth_27 : decode cX7_worth 27 = .ok (.iaload, 1) := by decide +kernel
theorem dX7_worth_28 : decode cX7_worth 28 = .ok (.istore_n 3, 1) := by decide +kernel
end
section
theorem dX7_worth_29 : decode cX7_worth 29 = .ok (.aload_n 0, 1) := by decide +kernel
theorem dX7_worth_30 : decode cX7_worth 30 = .ok (.getfield 37, 3) := by decide +kernel
theorem dX7_worth_33 : decode cX7_worth 33 = .ok (.iload_n 1, 1) := by decide +kernel
theorem dX7_worth_34 : decode cX7_worth 34 = .ok (.iload_n 2, 1) := by decide +kernel
theorem dX7_worth_35 : decode cX7_worth 35 = .ok (.iastore, 1) := by decide +kernel
theorem dX7_worth_36 : decode cX7_worth 36 = .ok (.iload_n 3, 1) := by decide +kernel
theorem dX7_worth_37 : decode cX7_worth 37 = .ok (.ireturn, 1) := by decide +kernel
theorem dX7_off_0 : decode cX7_off 0 = .ok (.iload_n 1, 1) := by decide +kernel
theorem dX7_off_1 : decode cX7_off 1 = .ok (.iconst 0, 1) := by decide +kernel
theorem dX7_off_2 : decode cX7_off 2 = .ok (.iconst 3, 1) := by decide +kernel
theorem dX7_off_3 : decode cX7_off 3 = .ok (.invokestatic 77, 3) := by decide +kernel
theorem dX7_off_6 : decode cX7_off 6 = .ok (.ifCond .ne 6, 3) := by decide +kernel
theorem dX7_off_9 : decode cX7_off 9 = .ok (.bipush (-2), 2) := by decide +kernel
theorem dX7_off_11 : decode cX7_off 11 = .ok (.ireturn, 1) := by decide +kernel
theorem dX7_off_12 : decode cX7_off 12 = .ok (.iconst 0, 1) := by decide +kernel
theorem dX7_off_13 : decode cX7_off 13 = .ok (.istore_n 2, 1) := by decide +kernel
theorem dX7_off_14 : decode cX7_off 14 = .ok (.bipush (-6), 2) := by decide +kernel
theorem dX7_off_16 : decode cX7_off 16 = .ok (.istore_n 3, 1) := by decide +kernel
theorem dX7_off_17 : decode cX7_off 17 = .ok (.iconst 0, 1) := by decide +kernel
theorem dX7_off_18 : decode cX7_off 18 = .ok (.istore 4, 2) := by decide +kernel
theorem dX7_off_20 : decode cX7_off 20 = .ok (.iconst 0, 1) := by decide +kernel
theorem dX7_off_21 : decode cX7_off 21 = .ok (.istore 5, 2) := by decide +kernel
theorem dX7_off_23 : decode cX7_off 23 = .ok (.iload 5, 2) := by decide +kernel
theorem dX7_off_25 : decode cX7_off 25 = .ok (.aload_n 0, 1) := by decide +kernel
theorem dX7_off_26 : decode cX7_off 26 = .ok (.getfield 81, 3) := by decide +kernel
theorem dX7_off_29 : decode cX7_off 29 = .ok (.if_icmp .ge 108, 3) := by decide +kernel
theorem dX7_off_32 : decode cX7_off 32 = .ok (.aload_n 0, 1) := by decide +kernel
theorem dX7_off_33 : decode cX7_off 33 = .ok (.iload 5, 2) := by decide +kernel
theorem dX7_off_35 : decode cX7_off 35 = .ok (.invokevirtual 97, 3) := by decide +kernel
theorem dX7_off_38 : decode cX7_off 38 = .ok (.ifCond .eq 46, 3) := by decide +kernel
theorem dX7_off_41 : decode cX7_off 41 = .ok (.aload_n 0, 1) := by decide +kernel
theorem dX7_off_42 : decode cX7_off 42 = .ok (.iload 5, 2) := by decide +kernel
theorem dX7_off_44 : decode cX7_off 44 = .ok (.invokevirtual 100, 3) := by decide +kernel
theorem dX7_off_47 : decode cX7_off 47 = .ok (.aload_n 0, 1) := by decide +kernel
theorem dX7_off_48 : decode cX7_off 48 = .ok (.getfield 37, 3) := by decide +kernel
theorem dX7_off_51 : decode cX7_off 51 = .ok (.aload_n 0, 1) := by decide +kernel
theorem dX7_off_52 : decode cX7_off 52 = .ok (.getfield 16, 3) := by decide +kernel
theorem dX7_off_55 : decode cX7_off 55 = .ok (.iload 5, 2) := by decide +kernel
theorem dX7_off_57 : decode cX7_off 57 = .ok (.iaload, 1) := by decide +kernel
theorem dX7_off_58 : decode cX7_off 58 = .ok (.iaload, 1) := by decide +kernel
theorem dX7_off_59 : decode cX7_off 59 = .ok (.imul, 1) := by decide +kernel
theorem dX7_off_60 : decode cX7_off 60 = .ok (.aload_n 0, 1) := by decide +kernel
theorem dX7_off_61 : decode cX7_off 61 = .ok (.getfield 13, 3) := by decide +kernel
theorem dX7_off_64 : decode cX7_off 64 = .ok (.iload 5, 2) := by decide +kernel
theorem dX7_off_66 : decode cX7_off 66 = .ok (.iaload, 1) := by decide +kernel
theorem dX7_off_67 : decode cX7_off 67 = .ok (.aload_n 0, 1) := by decide +kernel
theorem dX7_off_68 : decode cX7_off 68 = .ok (.getfield 37, 3) := by decide +kernel
theorem dX7_off_71 : decode cX7_off 71 = .ok (.aload_n 0, 1) := by decide +kernel
theorem dX7_off_72 : decode cX7_off 72 = .ok (.getfield 7, 3) := by decide +kernel
theorem dX7_off_75 : decode cX7_off 75 = .ok (.iload 5, 2) := by decide +kernel
theorem dX7_off_77 : decode cX7_off 77 = .ok (.iaload, 1) := by decide +kernel
theorem dX7_off_78 : decode cX7_off 78 = .ok (.iaload, 1) := by decide +kernel
theorem dX7_off_79 : decode cX7_off 79 = .ok (.imul, 1) := by decide +kernel
theorem dX7_off_80 : decode cX7_off 80 = .ok (.isub, 1) := by decide +kernel
theorem dX7_off_81 : decode cX7_off 81 = .ok (.goto 4, 3) := by decide +kernel
theorem dX7_off_84 : decode cX7_off 84 = .ok (.iconst 0, 1) := by decide +kernel
theorem dX7_off_85 : decode cX7_off 85 = .ok (.istore 6, 2) := by decide +kernel
theorem dX7_off_87 : decode cX7_off 87 = .ok (.iload 4, 2) := by decide +kernel
theorem dX7_off_89 : decode cX7_off 89 = .ok (.iload 6, 2) := by decide +kernel
theorem dX7_off_91 : decode cX7_off 91 = .ok (.ifCond .le 10, 3) := by decide +kernel
theorem dX7_off_94 : decode cX7_off 94 = .ok (.iconst 1, 1) := by decide +kernel
theorem dX7_off_95 : decode cX7_off 95 = .ok (.iload 5, 2) := by decide +kernel
theorem dX7_off_97 : decode cX7_off 97 = .ok (.ishl, 1) := by decide +kernel
theorem dX7_off_98 : decode cX7_off 98 = .ok (.goto 4, 3) := by decide +kernel
theorem dX7_off_101 : decode cX7_off 101 = .ok (.iconst 0, 1) := by decide +kernel
theorem dX7_off_102 : decode cX7_off 102 = .ok (.ior, 1) := by decide +kernel
theorem dX7_off_103 : decode cX7_off 103 = .ok (.istore 4, 2) := by decide +kernel
theorem dX7_off_105 : decode cX7_off 105 = .ok (.iload 6, 2) := by decide +kernel
theorem dX7_off_107 : decode cX7_off 107 = .ok (.iload_n 2, 1) := by decide +kernel
theorem dX7_off_108 : decode cX7_off 108 = .ok (.if_icmp .le 8, 3) := by decide +kernel
theorem dX7_off_111 : decode cX7_off 111 = .ok (.iload 5, 2) := by decide +kernel
theorem dX7_off_113 : decode cX7_off 113 = .ok (.goto 4, 3) := by decide +kernel
theorem dX7_off_116 : decode cX7_off 116 = .ok (.iload_n 3, 1) := by decide +kernel
theorem dX7_off_117 : decode cX7_off 117 = .ok (.istore_n 3, 1) := by decide +kernel
theorem dX7_off_118 : decode cX7_off 118 = .ok (.iload 6, 2) := by decide +kernel
theorem dX7_off_120 : decode cX7_off 120 = .ok (.iload_n 2, 1) := by decide +kernel
theorem dX7_off_121 : decode cX7_off 121 = .ok (.if_icmp .le 8, 3) := by decide +kernel
theorem dX7_off_124 : decode cX7_off 124 = .ok (.iload 6, 2) := by decide +kernel
theorem dX7_off_126 : decode cX7_off 126 = .ok (.goto 4, 3) := by decide +kernel
theorem dX7_off_129 : decode cX7_off 129 = .ok (.iload_n 2, 1) := by decide +kernel
theorem dX7_off_130 : decode cX7_off 130 = .ok (.istore_n 2, 1) := by decide +kernel
theorem dX7_off_131 : decode cX7_off 131 = .ok (.iinc 5 1, 3) := by decide +kernel
theorem dX7_off_134 : decode cX7_off 134 = .ok (.goto (-111), 3) := by decide +kernel
theorem dX7_off_137 : decode cX7_off 137 = .ok (.iload_n 1, 1) := by decide +kernel
theorem dX7_off_138 : decode cX7_off 138 = .ok (.ifCond .ne 7, 3) := by decide +kernel
theorem dX7_off_141 : decode cX7_off 141 = .ok (.iload_n 2, 1) := by decide +kernel
theorem dX7_off_142 : decode cX7_off 142 = .ok (.goto 32, 3) := by decide +kernel
theorem dX7_off_145 : decode cX7_off 145 = .ok (.iload_n 1, 1) := by decide +kernel
theorem dX7_off_146 : decode cX7_off 146 = .ok (.iconst 1, 1) := by decide +kernel
theorem dX7_off_147 : decode cX7_off 147 = .ok (.if_icmp .ne 7, 3) := by decide +kernel
theorem dX7_off_150 : decode cX7_off 150 = .ok (.iload_n 3, 1) := by decide +kernel
theorem dX7_off_151 : decode cX7_off 151 = .ok (.goto 23, 3) := by decide +kernel
theorem dX7_off_154 : decode cX7_off 154 = .ok (.iload_n 1, 1) := by decide +kernel
theorem dX7_off_155 : decode cX7_off 155 = .ok (.iconst 2, 1) := by decide +kernel
theorem dX7_off_156 : decode cX7_off 156 = .ok (.if_icmp .ne 16, 3) := by decide +kernel
theorem dX7_off_159 : decode cX7_off 159 = .ok (.iload 4, 2) := by decide +kernel
theorem dX7_off_161 : decode cX7_off 161 = .ok (.ifCond .ne 7, 3) := by decide +kernel
theorem dX7_off_164 : decode cX7_off 164 = .ok (.iconst 1, 1) := by decide +kernel
theorem dX7_off_165 : decode cX7_off 165 = .ok (.goto 9, 3) := by decide +kernel
theorem dX7_off_168 : decode cX7_off 168 = .ok (.iconst 0, 1) := by decide +kernel
theorem dX7_off_169 : decode cX7_off 169 = .ok (.goto 5, 3) := by decide +kernel
theorem dX7_off_172 : decode cX7_off 172 = .ok (.iload 4, 2) := by decide +kernel
theorem dX7_off_174 : decode cX7_off 174 = .ok (.ireturn, 1) := by decide +kernel
theorem dX7_look_0 : decode cX7_look 0 = .ok (.aload_n 0, 1) := by decide +kernel
theorem dX7_look_1 : decode cX7_look 1 = .ok (.getfield 71, 3) := by decide +kernel
theorem dX7_look_4 : decode cX7_look 4 = .ok (.iload_n 1, 1) := by decide +kernel
theorem dX7_look_5 : decode cX7_look 5 = .ok (.iaload, 1) := by decide +kernel
theorem dX7_look_6 : decode cX7_look 6 = .ok (.iload_n 2, 1) := by decide +kernel
theorem dX7_look_7 : decode cX7_look 7 = .ok (.if_icmp .ne 84, 3) := by decide +kernel
theorem dX7_look_10 : decode cX7_look 10 = .ok (.aload_n 0, 1) := by decide +kernel
theorem dX7_look_11 : decode cX7_look 11 = .ok (.getfield 168, 3) := by decide +kernel
theorem dX7_look_14 : decode cX7_look 14 = .ok (.ifCond .lt 37, 3) := by decide +kernel
theorem dX7_look_17 : decode cX7_look 17 = .ok (.aload_n 0, 1) := by decide +kernel
theorem dX7_look_18 : decode cX7_look 18 = .ok (.getfield 68, 3) := by decide +kernel
theorem dX7_look_21 : decode cX7_look 21 = .ok (.iload_n 1, 1) := by decide +kernel
theorem dX7_look_22 : decode cX7_look 22 = .ok (.iaload, 1) := by decide +kernel
theorem dX7_look_23 : decode cX7_look 23 = .ok (.aload_n 0, 1) := by decide +kernel
theorem dX7_look_24 : decode cX7_look 24 = .ok (.getfield 171, 3) := by decide +kernel
theorem dX7_look_27 : decode cX7_look 27 = .ok (.if_icmp .gt 24, 3) := by decide +kernel
theorem dX7_look_30 : decode cX7_look 30 = .ok (.aload_n 0, 1) := by decide +kernel
theorem dX7_look_31 : decode cX7_look 31 = .ok (.getfield 68, 3) := by decide +kernel
theorem dX7_look_34 : decode cX7_look 34 = .ok (.iload_n 1, 1) := by decide +kernel
theorem dX7_look_35 : decode cX7_look 35 = .ok (.iaload, 1) := by decide +kernel
theorem dX7_look_36 : decode cX7_look 36 = .ok (.aload_n 0, 1) := by decide +kernel
theorem dX7_look_37 : decode cX7_look 37 = .ok (.getfield 171, 3) := by decide +kernel
theorem dX7_look_40 : decode cX7_look 40 = .ok (.if_icmp .ne 51, 3) := by decide +kernel
theorem dX7_look_43 : decode cX7_look 43 = .ok (.iload_n 1, 1) := by decide +kernel
theorem dX7_look_44 : decode cX7_look 44 = .ok (.aload_n 0, 1) := by decide +kernel
theorem dX7_look_45 : decode cX7_look 45 = .ok (.getfield 168, 3) := by decide +kernel
theorem dX7_look_48 : decode cX7_look 48 = .ok (.if_icmp .ge 43, 3) := by decide +kernel
theorem dX7_look_51 : decode cX7_look 51 = .ok (.aload_n 0, 1) := by decide +kernel
theorem dX7_look_52 : decode cX7_look 52 = .ok (.aload_n 0, 1) := by decide +kernel
theorem dX7_look_53 : decode cX7_look 53 = .ok (.getfield 68, 3) := by decide +kernel
theorem dX7_look_56 : decode cX7_look 56 = .ok (.iload_n 1, 1) := by decide +kernel
theorem dX7_look_57 : decode cX7_look 57 = .ok (.iaload, 1) := by decide +kernel
theorem dX7_look_58 : decode cX7_look 58 = .ok (.putfield 171, 3) := by decide +kernel
theorem dX7_look_61 : decode cX7_look 61 = .ok (.aload_n 0, 1) := by decide +kernel
theorem dX7_look_62 : decode cX7_look 62 = .ok (.iload_n 1, 1) := by decide +kernel
theorem dX7_look_63 : decode cX7_look 63 = .ok (.putfield 168, 3) := by decide +kernel
theorem dX7_look_66 : decode cX7_look 66 = .ok (.iconst 0, 1) := by decide +kernel
theorem dX7_look_67 : decode cX7_look 67 = .ok (.istore_n 3, 1) := by decide +kernel
theorem dX7_look_68 : decode cX7_look 68 = .ok (.iload_n 3, 1) := by decide +kernel
theorem dX7_look_69 : decode cX7_look 69 = .ok (.iload_n 1, 1) := by decide +kernel
theorem dX7_look_70 : decode cX7_look 70 = .ok (.if_icmp .ge 21, 3) := by decide +kernel
theorem dX7_look_73 : decode cX7_look 73 = .ok (.aload_n 0, 1) := by decide +kernel
theorem dX7_look_74 : decode cX7_look 74 = .ok (.getfield 65, 3) := by decide +kernel
theorem dX7_look_77 : decode cX7_look 77 = .ok (.iload_n 3, 1) := by decide +kernel
theorem dX7_look_78 : decode cX7_look 78 = .ok (.aload_n 0, 1) := by decide +kernel
theorem dX7_look_79 : decode cX7_look 79 = .ok (.getfield 56, 3) := by decide +kernel
theorem dX7_look_82 : decode cX7_look 82 = .ok (.iload_n 3, 1) := by decide +kernel
theorem dX7_look_83 : decode cX7_look 83 = .ok (.iaload, 1) := by decide +kernel
theorem dX7_look_84 : decode cX7_look 84 = .ok (.iastore, 1) := by decide +kernel
theorem dX7_look_85 : decode cX7_look 85 = .ok (.iinc 3 1, 3) := by decide +kernel
theorem dX7_look_88 : decode cX7_look 88 = .ok (.goto (-20), 3) := by decide +kernel
theorem dX7_look_91 : decode cX7_look 91 = .ok (.return_, 1) := by decide +kernel
theorem dX7_layWalk_0 : decode cX7_layWalk 0 = .ok (.aload_n 0, 1) := by decide +kernel
theorem dX7_layWalk_1 : decode cX7_layWalk 1 = .ok (.bipush (-6), 2) := by decide +kernel
theorem dX7_layWalk_3 : decode cX7_layWalk 3 = .ok (.putfield 168, 3) := by decide +kernel
theorem dX7_layWalk_6 : decode cX7_layWalk 6 = .ok (.aload_n 0, 1) := by decide +kernel
theorem dX7_layWalk_7 : decode cX7_layWalk 7 = .ok (.iconst 0, 1) := by decide +kernel
theorem dX7_layWalk_8 : decode cX7_layWalk 8 = .ok (.putfield 171, 3) := by decide +kernel
theorem dX7_layWalk_11 : decode cX7_layWalk 11 = .ok (.aload_n 0, 1) := by decide +kernel
theorem dX7_layWalk_12 : decode cX7_layWalk 12 = .ok (.getfield 68, 3) := by decide +kernel
theorem dX7_layWalk_15 : decode cX7_layWalk 15 = .ok (.iconst 0, 1) := by decide +kernel
theorem dX7_layWalk_16 : decode cX7_layWalk 16 = .ok (.iload_n 2, 1) := by decide +kernel
theorem dX7_layWalk_17 : decode cX7_layWalk 17 = .ok (.iastore, 1) := by decide +kernel
theorem dX7_layWalk_18 : decode cX7_layWalk 18 = .ok (.aload_n 0, 1) := by decide +kernel
theorem dX7_layWalk_19 : decode cX7_layWalk 19 = .ok (.getfield 71, 3) := by decide +kernel
theorem dX7_layWalk_22 : decode cX7_layWalk 22 = .ok (.iconst 0, 1) := by decide +kernel
theorem dX7_layWalk_23 : decode cX7_layWalk 23 = .ok (.iload_n 1, 1) := by decide +kernel
theorem dX7_layWalk_24 : decode cX7_layWalk 24 = .ok (.iastore, 1) := by decide +kernel
theorem dX7_layWalk_25 : decode cX7_layWalk 25 = .ok (.aload_n 0, 1) := by decide +kernel
theorem dX7_layWalk_26 : decode cX7_layWalk 26 = .ok (.iconst 0, 1) := by decide +kernel
theorem dX7_layWalk_27 : decode cX7_layWalk 27 = .ok (.iload_n 3, 1) := by decide +kernel
theorem dX7_layWalk_28 : decode cX7_layWalk 28 = .ok (.invokevirtual 174, 3) := by decide +kernel
theorem dX7_layWalk_31 : decode cX7_layWalk 31 = .ok (.iconst 0, 1) := by decide +kernel
theorem dX7_layWalk_32 : decode cX7_layWalk 32 = .ok (.istore 5, 2) := by decide +kernel
theorem dX7_layWalk_34 : decode cX7_layWalk 34 = .ok (.iload 4, 2) := by decide +kernel
theorem dX7_layWalk_36 : decode cX7_layWalk 36 = .ok (.ifCond .ne 10, 3) := by decide +kernel
theorem dX7_layWalk_39 : decode cX7_layWalk 39 = .ok (.aload_n 0, 1) := by decide +kernel
theorem dX7_layWalk_40 : decode cX7_layWalk 40 = .ok (.getfield 81, 3) := by decide +kernel
theorem dX7_layWalk_43 : decode cX7_layWalk 43 = .ok (.goto 4, 3) := by decide +kernel
theorem dX7_layWalk_46 : decode cX7_layWalk 46 = .ok (.iconst 0, 1) := by decide +kernel
theorem dX7_layWalk_47 : decode cX7_layWalk 47 = .ok (.istore 6, 2) := by decide +kernel
theorem dX7_layWalk_49 : decode cX7_layWalk 49 = .ok (.iconst 1, 1) := by decide +kernel
theorem dX7_layWalk_50 : decode cX7_layWalk 50 = .ok (.istore 7, 2) := by decide +kernel
theorem dX7_layWalk_52 : decode cX7_layWalk 52 = .ok (.iload 7, 2) := by decide +kernel
theorem dX7_layWalk_54 : decode cX7_layWalk 54 = .ok (.ifCond .eq 195, 3) := by decide +kernel
theorem dX7_layWalk_57 : decode cX7_layWalk 57 = .ok (.iload 6, 2) := by decide +kernel
theorem dX7_layWalk_59 : decode cX7_layWalk 59 = .ok (.aload_n 0, 1) := by decide +kernel
theorem dX7_layWalk_60 : decode cX7_layWalk 60 = .ok (.getfield 81, 3) := by decide +kernel
theorem dX7_layWalk_63 : decode cX7_layWalk 63 = .ok (.if_icmp .ne 37, 3) := by decide +kernel
theorem dX7_layWalk_66 : decode cX7_layWalk 66 = .ok (.iload 5, 2) := by decide +kernel
theorem dX7_layWalk_68 : decode cX7_layWalk 68 = .ok (.ifCond .le 7, 3) := by decide +kernel
theorem dX7_layWalk_71 : decode cX7_layWalk 71 = .ok (.iconst 1, 1) := by decide +kernel
theorem dX7_layWalk_72 : decode cX7_layWalk 72 = .ok (.goto 4, 3) := by decide +kernel
theorem dX7_layWalk_75 : decode cX7_layWalk 75 = .ok (.iconst 0, 1) := by decide +kernel
theorem dX7_layWalk_76 : decode cX7_layWalk 76 = .ok (.istore 7, 2) := by decide +kernel
theorem dX7_layWalk_78 : decode cX7_layWalk 78 = .ok (.iload 7, 2) := by decide +kernel
theorem dX7_layWalk_80 : decode cX7_layWalk 80 = .ok (.ifCond .eq (-28), 3) := by decide +kernel
theorem dX7_layWalk_83 : decode cX7_layWalk 83 = .ok (.iinc 5 (-1), 3) := by decide +kernel
theorem dX7_layWalk_86 : decode cX7_layWalk 86 = .ok (.aload_n 0, 1) := by decide +kernel
theorem dX7_layWalk_87 : decode cX7_layWalk 87 = .ok (.getfield 56, 3) := by decide +kernel
theorem dX7_layWalk_90 : decode cX7_layWalk 90 = .ok (.iload 5, 2) := by decide +kernel
theorem dX7_layWalk_92 : decode cX7_layWalk 92 = .ok (.iaload, 1) := by decide +kernel
theorem dX7_layWalk_93 : decode cX7_layWalk 93 = .ok (.iconst 1, 1) := by decide +kernel
theorem dX7_layWalk_94 : decode cX7_layWalk 94 = .ok (.iadd, 1) := by decide +kernel
theorem dX7_layWalk_95 : decode cX7_layWalk 95 = .ok (.istore 6, 2) := by decide +kernel
theorem dX7_layWalk_97 : decode cX7_layWalk 97 = .ok (.goto (-45), 3) := by decide +kernel
theorem dX7_layWalk_100 : decode cX7_layWalk 100 = .ok (.aload_n 0, 1) := by decide +kernel
theorem dX7_layWalk_101 : decode cX7_layWalk 101 = .ok (.getfield 7, 3) := by decide +kernel
theorem dX7_layWalk_104 : decode cX7_layWalk 104 = .ok (.iload 6, 2) := by decide +kernel
theorem dX7_layWalk_106 : decode cX7_layWalk 106 = .ok (.iaload, 1) := by decide +kernel
theorem dX7_layWalk_107 : decode cX7_layWalk 107 = .ok (.aload_n 0, 1) := by decide +kernel
theorem dX7_layWalk_108 : decode cX7_layWalk 108 = .ok (.getfield 71, 3) := by decide +kernel
theorem dX7_layWalk_111 : decode cX7_layWalk 111 = .ok (.iload 5, 2) := by decide +kernel
theorem dX7_layWalk_113 : decode cX7_layWalk 113 = .ok (.iaload, 1) := by decide +kernel
theorem dX7_layWalk_114 : decode cX7_layWalk 114 = .ok (.if_icmp .ne 129, 3) := by decide +kernel
theorem dX7_layWalk_117 : decode cX7_layWalk 117 = .ok (.aload_n 0, 1) := by decide +kernel
theorem dX7_layWalk_118 : decode cX7_layWalk 118 = .ok (.iload 6, 2) := by decide +kernel
theorem dX7_layWalk_120 : decode cX7_layWalk 120 = .ok (.invokevirtual 97, 3) := by decide +kernel
theorem dX7_layWalk_123 : decode cX7_layWalk 123 = .ok (.ifCond .eq 120, 3) := by decide +kernel
theorem dX7_layWalk_126 : decode cX7_layWalk 126 = .ok (.aload_n 0, 1) := by decide +kernel
theorem dX7_layWalk_127 : decode cX7_layWalk 127 = .ok (.getfield 68, 3) := by decide +kernel
theorem dX7_layWalk_130 : decode cX7_layWalk 130 = .ok (.iload 5, 2) := by decide +kernel
theorem dX7_layWalk_132 : decode cX7_layWalk 132 = .ok (.iaload, 1) := by decide +kernel
theorem dX7_layWalk_133 : decode cX7_layWalk 133 = .ok (.aload_n 0, 1) := by decide +kernel
theorem dX7_layWalk_134 : decode cX7_layWalk 134 = .ok (.getfield 28, 3) := by decide +kernel
theorem dX7_layWalk_137 : decode cX7_layWalk 137 = .ok (.iload 6, 2) := by decide +kernel
theorem dX7_layWalk_139 : decode cX7_layWalk 139 = .ok (.iaload, 1) := by decide +kernel
theorem dX7_layWalk_140 : decode cX7_layWalk 140 = .ok (.if_icmp .ge 13, 3) := by decide +kernel
theorem dX7_layWalk_143 : decode cX7_layWalk 143 = .ok (.aload_n 0, 1) := by decide +kernel
theorem dX7_layWalk_144 : decode cX7_layWalk 144 = .ok (.getfield 68, 3) := by decide +kernel
theorem dX7_layWalk_147 : decode cX7_layWalk 147 = .ok (.iload 5, 2) := by decide +kernel
theorem dX7_layWalk_149 : decode cX7_layWalk 149 = .ok (.iaload, 1) := by decide +kernel
theorem dX7_layWalk_150 : decode cX7_layWalk 150 = .ok (.goto 10, 3) := by decide +kernel
theorem dX7_layWalk_153 : decode cX7_layWalk 153 = .ok (.aload_n 0, 1) := by decide +kernel
theorem dX7_layWalk_154 : decode cX7_layWalk 154 = .ok (.getfield 28, 3) := by decide +kernel
theorem dX7_layWalk_157 : decode cX7_layWalk 157 = .ok (.iload 6, 2) := by decide +kernel
theorem dX7_layWalk_159 : decode cX7_layWalk 159 = .ok (.iaload, 1) := by decide +kernel
theorem dX7_layWalk_160 : decode cX7_layWalk 160 = .ok (.istore 8, 2) := by decide +kernel
theorem dX7_layWalk_162 : decode cX7_layWalk 162 = .ok (.aload_n 0, 1) := by decide +kernel
theorem dX7_layWalk_163 : decode cX7_layWalk 163 = .ok (.getfield 56, 3) := by decide +kernel
theorem dX7_layWalk_166 : decode cX7_layWalk 166 = .ok (.iload 5, 2) := by decide +kernel
theorem dX7_layWalk_168 : decode cX7_layWalk 168 = .ok (.iload 6, 2) := by decide +kernel
theorem dX7_layWalk_170 : decode cX7_layWalk 170 = .ok (.iastore, 1) := by decide +kernel
theorem dX7_layWalk_171 : decode cX7_layWalk 171 = .ok (.aload_n 0, 1) := by decide +kernel
theorem dX7_layWalk_172 : decode cX7_layWalk 172 = .ok (.getfield 68, 3) := by decide +kernel
theorem dX7_layWalk_175 : decode cX7_layWalk 175 = .ok (.iload 5, 2) := by decide +kernel
theorem dX7_layWalk_177 : decode cX7_layWalk 177 = .ok (.iconst 1, 1) := by decide +kernel
theorem dX7_layWalk_178 : decode cX7_layWalk 178 = .ok (.iadd, 1) := by decide +kernel
theorem dX7_layWalk_179 : decode cX7_layWalk 179 = .ok (.iload 8, 2) := by decide +kernel
theorem dX7_layWalk_181 : decode cX7_layWalk 181 = .ok (.aload_n 0, 1) := by decide +kernel
theorem dX7_layWalk_182 : decode cX7_layWalk 182 = .ok (.getfield 13, 3) := by decide +kernel
theorem dX7_layWalk_185 : decode cX7_layWalk 185 = .ok (.iload 6, 2) := by decide +kernel
theorem dX7_layWalk_187 : decode cX7_layWalk 187 = .ok (.iaload, 1) := by decide +kernel
theorem dX7_layWalk_188 : decode cX7_layWalk 188 = .ok (.idiv, 1) := by decide +kernel
theorem dX7_layWalk_189 : decode cX7_layWalk 189 = .ok (.aload_n 0, 1) := by decide +kernel
theorem dX7_layWalk_190 : decode cX7_layWalk 190 = .ok (.iload 6, 2) := by decide +kernel
theorem dX7_layWalk_192 : decode cX7_layWalk 192 = .ok (.invokevirtual 100, 3) := by decide +kernel
theorem dX7_layWalk_195 : decode cX7_layWalk 195 = .ok (.imul, 1) := by decide +kernel
theorem dX7_layWalk_196 : decode cX7_layWalk 196 = .ok (.iastore, 1) := by decide +kernel
theorem dX7_layWalk_197 : decode cX7_layWalk 197 = .ok (.aload_n 0, 1) := by decide +kernel
theorem dX7_layWalk_198 : decode cX7_layWalk 198 = .ok (.getfield 71, 3) := by decide +kernel
theorem dX7_layWalk_201 : decode cX7_layWalk 201 = .ok (.iload 5, 2) := by decide +kernel
theorem dX7_layWalk_203 : decode cX7_layWalk 203 = .ok (.iconst 1, 1) := by decide +kernel
theorem dX7_layWalk_204 : decode cX7_layWalk 204 = .ok (.iadd, 1) := by decide +kernel
theorem dX7_layWalk_205 : decode cX7_layWalk 205 = .ok (.aload_n 0, 1) := by decide +kernel
theorem dX7_layWalk_206 : decode cX7_layWalk 206 = .ok (.getfield 16, 3) := by decide +kernel
theorem dX7_layWalk_209 : decode cX7_layWalk 209 = .ok (.iload 6, 2) := by decide +kernel
theorem dX7_layWalk_211 : decode cX7_layWalk 211 = .ok (.iaload, 1) := by decide +kernel
theorem dX7_layWalk_212 : decode cX7_layWalk 212 = .ok (.iastore, 1) := by decide +kernel
theorem dX7_layWalk_213 : decode cX7_layWalk 213 = .ok (.iinc 5 1, 3) := by decide +kernel
theorem dX7_layWalk_216 : decode cX7_layWalk 216 = .ok (.aload_n 0, 1) := by decide +kernel
theorem dX7_layWalk_217 : decode cX7_layWalk 217 = .ok (.iload 5, 2) := by decide +kernel
theorem dX7_layWalk_219 : decode cX7_layWalk 219 = .ok (.iload_n 3, 1) := by decide +kernel
theorem dX7_layWalk_220 : decode cX7_layWalk 220 = .ok (.invokevirtual 174, 3) := by decide +kernel
theorem dX7_layWalk_223 : decode cX7_layWalk 223 = .ok (.iload 5, 2) := by decide +kernel
theorem dX7_layWalk_225 : decode cX7_layWalk 225 = .ok (.iload 4, 2) := by decide +kernel
theorem dX7_layWalk_227 : decode cX7_layWalk 227 = .ok (.if_icmp .ne 10, 3) := by decide +kernel
theorem dX7_layWalk_230 : decode cX7_layWalk 230 = .ok (.aload_n 0, 1) := by decide +kernel
theorem dX7_layWalk_231 : decode cX7_layWalk 231 = .ok (.getfield 81, 3) := by decide +kernel
theorem dX7_layWalk_234 : decode cX7_layWalk 234 = .ok (.goto 4, 3) := by decide +kernel
theorem dX7_layWalk_237 : decode cX7_layWalk 237 = .ok (.iconst 0, 1) := by decide +kernel
theorem dX7_layWalk_238 : decode cX7_layWalk 238 = .ok (.istore 6, 2) := by decide +kernel
theorem dX7_layWalk_240 : decode cX7_layWalk 240 = .ok (.goto (-188), 3) := by decide +kernel
theorem dX7_layWalk_243 : decode cX7_layWalk 243 = .ok (.iinc 6 1, 3) := by decide +kernel
theorem dX7_layWalk_246 : decode cX7_layWalk 246 = .ok (.goto (-194), 3) := by decide +kernel
theorem dX7_layWalk_249 : decode cX7_layWalk 249 = .ok (.return_, 1) := by decide +kernel
theorem dX7_walk_0 : decode cX7_walk 0 = .ok (.iload_n 1, 1) := by decide +kernel
theorem dX7_walk_1 : decode cX7_walk 1 = .ok (.invokestatic 86, 3) := by decide +kernel
theorem dX7_walk_4 : decode cX7_walk 4 = .ok (.ifCond .eq 10, 3) := by decide +kernel
theorem dX7_walk_7 : decode cX7_walk 7 = .ok (.iload_n 3, 1) := by decide +kernel
theorem dX7_walk_8 : decode cX7_walk 8 = .ok (.invokestatic 86, 3) := by decide +kernel
theorem dX7_walk_11 : decode cX7_walk 11 = .ok (.ifCond .ne 5, 3) := by decide +kernel
theorem dX7_walk_14 : decode cX7_walk 14 = .ok (.iconst (-1), 1) := by decide +kernel
theorem dX7_walk_15 : decode cX7_walk 15 = .ok (.ireturn, 1) := by decide +kernel
theorem dX7_walk_16 : decode cX7_walk 16 = .ok (.iload_n 2, 1) := by decide +kernel
theorem dX7_walk_17 : decode cX7_walk 17 = .ok (.iconst 0, 1) := by decide +kernel
theorem dX7_walk_18 : decode cX7_walk 18 = .ok (.ldc 85, 2) := by decide +kernel
theorem dX7_walk_20 : decode cX7_walk 20 = .ok (.invokestatic 77, 3) := by decide +kernel
theorem dX7_walk_23 : decode cX7_walk 23 = .ok (.ifCond .eq 13, 3) := by decide +kernel
theorem dX7_walk_26 : decode cX7_walk 26 = .ok (.iload 4, 2) := by decide +kernel
theorem dX7_walk_28 : decode cX7_walk 28 = .ok (.iconst 0, 1) := by decide +kernel
theorem dX7_walk_29 : decode cX7_walk 29 = .ok (.iconst 5, 1) := by decide +kernel
theorem dX7_walk_30 : decode cX7_walk 30 = .ok (.invokestatic 77, 3) := by decide +kernel
theorem dX7_walk_33 : decode cX7_walk 33 = .ok (.ifCond .ne 6, 3) := by decide +kernel
theorem dX7_walk_36 : decode cX7_walk 36 = .ok (.bipush (-2), 2) := by decide +kernel
theorem dX7_walk_38 : decode cX7_walk 38 = .ok (.ireturn, 1) := by decide +kernel
theorem dX7_walk_39 : decode cX7_walk 39 = .ok (.aload_n 0, 1) := by decide +kernel
theorem dX7_walk_40 : decode cX7_walk 40 = .ok (.iload_n 1, 1) := by decide +kernel
theorem dX7_walk_41 : decode cX7_walk 41 = .ok (.iload_n 2, 1) := by decide +kernel
theorem dX7_walk_42 : decode cX7_walk 42 = .ok (.iload_n 3, 1) := by decide +kernel
theorem dX7_walk_43 : decode cX7_walk 43 = .ok (.iload 4, 2) := by decide +kernel
theorem dX7_walk_45 : decode cX7_walk 45 = .ok (.invokevirtual 177, 3) := by decide +kernel
theorem dX7_walk_48 : decode cX7_walk 48 = .ok (.iload 5, 2) := by decide +kernel
theorem dX7_walk_50 : decode cX7_walk 50 = .ok (.iconst (-1), 1) := by decide +kernel
theorem dX7_walk_51 : decode cX7_walk 51 = .ok (.if_icmp .ne 10, 3) := by decide +kernel
theorem dX7_walk_54 : decode cX7_walk 54 = .ok (.aload_n 0, 1) := by decide +kernel
theorem dX7_walk_55 : decode cX7_walk 55 = .ok (.getfield 171, 3) := by decide +kernel
theorem dX7_walk_58 : decode cX7_walk 58 = .ok (.goto 56, 3) := by decide +kernel
theorem dX7_walk_61 : decode cX7_walk 61 = .ok (.aload_n 0, 1) := by decide +kernel
theorem dX7_walk_62 : decode cX7_walk 62 = .ok (.getfield 168, 3) := by decide +kernel
theorem dX7_walk_65 : decode cX7_walk 65 = .ok (.ifCond .ge 8, 3) := by decide +kernel
theorem dX7_walk_68 : decode cX7_walk 68 = .ok (.bipush (-6), 2) := by decide +kernel
theorem dX7_walk_70 : decode cX7_walk 70 = .ok (.goto 44, 3) := by decide +kernel
theorem dX7_walk_73 : decode cX7_walk 73 = .ok (.iload 5, 2) := by decide +kernel
theorem dX7_walk_75 : decode cX7_walk 75 = .ok (.bipush (-2), 2) := by decide +kernel
theorem dX7_walk_77 : decode cX7_walk 77 = .ok (.if_icmp .ne 10, 3) := by decide +kernel
theorem dX7_walk_80 : decode cX7_walk 80 = .ok (.aload_n 0, 1) := by decide +kernel
theorem dX7_walk_81 : decode cX7_walk 81 = .ok (.getfield 168, 3) := by decide +kernel
theorem dX7_walk_84 : decode cX7_walk 84 = .ok (.goto 30, 3) := by decide +kernel
theorem dX7_walk_87 : decode cX7_walk 87 = .ok (.iload 5, 2) := by decide +kernel
theorem dX7_walk_89 : decode cX7_walk 89 = .ok (.iconst 0, 1) := by decide +kernel
theorem dX7_walk_90 : decode cX7_walk 90 = .ok (.aload_n 0, 1) := by decide +kernel
theorem dX7_walk_91 : decode cX7_walk 91 = .ok (.getfield 168, 3) := by decide +kernel
theorem dX7_walk_94 : decode cX7_walk 94 = .ok (.iconst 1, 1) := by decide +kernel
theorem dX7_walk_95 : decode cX7_walk 95 = .ok (.isub, 1) := by decide +kernel
theorem dX7_walk_96 : decode cX7_walk 96 = .ok (.invokestatic 77, 3) := by decide +kernel
theorem dX7_walk_99 : decode cX7_walk 99 = .ok (.ifCond .eq 13, 3) := by decide +kernel
theorem dX7_walk_102 : decode cX7_walk 102 = .ok (.aload_n 0, 1) := by decide +kernel
theorem dX7_walk_103 : decode cX7_walk 103 = .ok (.getfield 65, 3) := by decide +kernel
theorem dX7_walk_106 : decode cX7_walk 106 = .ok (.iload 5, 2) := by decide +kernel
theorem dX7_walk_108 : decode cX7_walk 108 = .ok (.iaload, 1) := by decide +kernel
theorem dX7_walk_109 : decode cX7_walk 109 = .ok (.goto 5, 3) := by decide +kernel
theorem dX7_walk_112 : decode cX7_walk 112 = .ok (.bipush (-6), 2) := by decide +kernel
theorem dX7_walk_114 : decode cX7_walk 114 = .ok (.ireturn, 1) := by decide +kernel
theorem dX7_walkers_0 : decode cX7_walkers 0 = .ok (.iload_n 1, 1) := by decide +kernel
theorem dX7_walkers_1 : decode cX7_walkers 1 = .ok (.iconst (-1), 1) := by decide +kernel
theorem dX7_walkers_2 : decode cX7_walkers 2 = .ok (.if_icmp .eq 13, 3) := by decide +kernel
theorem dX7_walkers_5 : decode cX7_walkers 5 = .ok (.aload_n 0, 1) := by decide +kernel
theorem dX7_walkers_6 : decode cX7_walkers 6 = .ok (.iload_n 1, 1) := by decide +kernel
theorem dX7_walkers_7 : decode cX7_walkers 7 = .ok (.invokevirtual 94, 3) := by decide +kernel
theorem dX7_walkers_10 : decode cX7_walkers 10 = .ok (.ifCond .ne 5, 3) := by decide +kernel
theorem dX7_walkers_13 : decode cX7_walkers 13 = .ok (.iconst (-1), 1) := by decide +kernel
theorem dX7_walkers_14 : decode cX7_walkers 14 = .ok (.ireturn, 1) := by decide +kernel
theorem dX7_walkers_15 : decode cX7_walkers 15 = .ok (.iconst 0, 1) := by decide +kernel
theorem dX7_walkers_16 : decode cX7_walkers 16 = .ok (.istore_n 2, 1) := by decide +kernel
theorem dX7_walkers_17 : decode cX7_walkers 17 = .ok (.iload_n 2, 1) := by decide +kernel
theorem dX7_walkers_18 : decode cX7_walkers 18 = .ok (.aload_n 0, 1) := by decide +kernel
theorem dX7_walkers_19 : decode cX7_walkers 19 = .ok (.getfield 81, 3) := by decide +kernel
theorem dX7_walkers_22 : decode cX7_walkers 22 = .ok (.if_icmp .ge 21, 3) := by decide +kernel
theorem dX7_walkers_25 : decode cX7_walkers 25 = .ok (.aload_n 0, 1) := by decide +kernel
theorem dX7_walkers_26 : decode cX7_walkers 26 = .ok (.getfield 74, 3) := by decide +kernel
theorem dX7_walkers_29 : decode cX7_walkers 29 = .ok (.iload_n 2, 1) := by decide +kernel
theorem dX7_walkers_30 : decode cX7_walkers 30 = .ok (.aload_n 0, 1) := by decide +kernel
theorem dX7_walkers_31 : decode cX7_walkers 31 = .ok (.getfield 19, 3) := by decide +kernel
theorem dX7_walkers_34 : decode cX7_walkers 34 = .ok (.iload_n 2, 1) := by decide +kernel
theorem dX7_walkers_35 : decode cX7_walkers 35 = .ok (.iaload, 1) := by decide +kernel
theorem dX7_walkers_36 : decode cX7_walkers 36 = .ok (.iastore, 1) := by decide +kernel
theorem dX7_walkers_37 : decode cX7_walkers 37 = .ok (.iinc 2 1, 3) := by decide +kernel
theorem dX7_walkers_40 : decode cX7_walkers 40 = .ok (.goto (-23), 3) := by decide +kernel
theorem dX7_walkers_43 : decode cX7_walkers 43 = .ok (.iconst 0, 1) := by decide +kernel
theorem dX7_walkers_44 : decode cX7_walkers 44 = .ok (.istore_n 2, 1) := by decide +kernel
theorem dX7_walkers_45 : decode cX7_walkers 45 = .ok (.aload_n 0, 1) := by decide +kernel
theorem dX7_walkers_46 : decode cX7_walkers 46 = .ok (.iconst 0, 1) := by decide +kernel
theorem dX7_walkers_47 : decode cX7_walkers 47 = .ok (.invokevirtual 124, 3) := by decide +kernel
theorem dX7_walkers_50 : decode cX7_walkers 50 = .ok (.aload_n 0, 1) := by decide +kernel
theorem dX7_walkers_51 : decode cX7_walkers 51 = .ok (.getfield 117, 3) := by decide +kernel
theorem dX7_walkers_54 : decode cX7_walkers 54 = .ok (.ifCond .le 109, 3) := by decide +kernel
theorem dX7_walkers_57 : decode cX7_walkers 57 = .ok (.aload_n 0, 1) := by decide +kernel
theorem dX7_walkers_58 : decode cX7_walkers 58 = .ok (.getfield 43, 3) := by decide +kernel
theorem dX7_walkers_61 : decode cX7_walkers 61 = .ok (.aload_n 0, 1) := by decide +kernel
theorem dX7_walkers_62 : decode cX7_walkers 62 = .ok (.invokevirtual 139, 3) := by decide +kernel
theorem dX7_walkers_65 : decode cX7_walkers 65 = .ok (.iaload, 1) := by decide +kernel
theorem dX7_walkers_66 : decode cX7_walkers 66 = .ok (.istore_n 3, 1) := by decide +kernel
theorem dX7_walkers_67 : decode cX7_walkers 67 = .ok (.iconst 0, 1) := by decide +kernel
theorem dX7_walkers_68 : decode cX7_walkers 68 = .ok (.istore 4, 2) := by decide +kernel
theorem dX7_walkers_70 : decode cX7_walkers 70 = .ok (.iload 4, 2) := by decide +kernel
theorem dX7_walkers_72 : decode cX7_walkers 72 = .ok (.aload_n 0, 1) := by decide +kernel
theorem dX7_walkers_73 : decode cX7_walkers 73 = .ok (.getfield 81, 3) := by decide +kernel
theorem dX7_walkers_76 : decode cX7_walkers 76 = .ok (.if_icmp .ge 76, 3) := by decide +kernel
theorem dX7_walkers_79 : decode cX7_walkers 79 = .ok (.aload_n 0, 1) := by decide +kernel
theorem dX7_walkers_80 : decode cX7_walkers 80 = .ok (.getfield 19, 3) := by decide +kernel
theorem dX7_walkers_83 : decode cX7_walkers 83 = .ok (.iload 4, 2) := by decide +kernel
theorem dX7_walkers_85 : decode cX7_walkers 85 = .ok (.iaload, 1) := by decide +kernel
theorem dX7_walkers_86 : decode cX7_walkers 86 = .ok (.aload_n 0, 1) := by decide +kernel
theorem dX7_walkers_87 : decode cX7_walkers 87 = .ok (.getfield 31, 3) := by decide +kernel
theorem dX7_walkers_90 : decode cX7_walkers 90 = .ok (.iconst 2, 1) := by decide +kernel
theorem dX7_walkers_91 : decode cX7_walkers 91 = .ok (.iaload, 1) := by decide +kernel
theorem dX7_walkers_92 : decode cX7_walkers 92 = .ok (.isub, 1) := by decide +kernel
theorem dX7_walkers_93 : decode cX7_walkers 93 = .ok (.iconst 1, 1) := by decide +kernel
theorem dX7_walkers_94 : decode cX7_walkers 94 = .ok (.if_icmp .ge 7, 3) := by decide +kernel
theorem dX7_walkers_97 : decode cX7_walkers 97 = .ok (.iconst 1, 1) := by decide +kernel
theorem dX7_walkers_98 : decode cX7_walkers 98 = .ok (.goto 17, 3) := by decide +kernel
theorem dX7_walkers_101 : decode cX7_walkers 101 = .ok (.aload_n 0, 1) := by decide +kernel
theorem dX7_walkers_102 : decode cX7_walkers 102 = .ok (.getfield 19, 3) := by decide +kernel
theorem dX7_walkers_105 : decode cX7_walkers 105 = .ok (.iload 4, 2) := by decide +kernel
theorem dX7_walkers_107 : decode cX7_walkers 107 = .ok (.iaload, 1) := by decide +kernel
theorem dX7_walkers_108 : decode cX7_walkers 108 = .ok (.aload_n 0, 1) := by decide +kernel
theorem dX7_walkers_109 : decode cX7_walkers 109 = .ok (.getfield 31, 3) := by decide +kernel
theorem dX7_walkers_112 : decode cX7_walkers 112 = .ok (.iconst 2, 1) := by decide +kernel
theorem dX7_walkers_113 : decode cX7_walkers 113 = .ok (.iaload, 1) := by decide +kernel
theorem dX7_walkers_114 : decode cX7_walkers 114 = .ok (.isub, 1) := by decide +kernel
theorem dX7_walkers_115 : decode cX7_walkers 115 = .ok (.istore 5, 2) := by decide +kernel
theorem dX7_walkers_117 : decode cX7_walkers 117 = .ok (.aload_n 0, 1) := by decide +kernel
theorem dX7_walkers_118 : decode cX7_walkers 118 = .ok (.getfield 19, 3) := by decide +kernel
theorem dX7_walkers_121 : decode cX7_walkers 121 = .ok (.iload 4, 2) := by decide +kernel
theorem dX7_walkers_123 : decode cX7_walkers 123 = .ok (.iload_n 3, 1) := by decide +kernel
theorem dX7_walkers_124 : decode cX7_walkers 124 = .ok (.iload 4, 2) := by decide +kernel
theorem dX7_walkers_126 : decode cX7_walkers 126 = .ok (.ishr, 1) := by decide +kernel
theorem dX7_walkers_127 : decode cX7_walkers 127 = .ok (.iconst 1, 1) := by decide +kernel
theorem dX7_walkers_128 : decode cX7_walkers 128 = .ok (.iand, 1) := by decide +kernel
theorem dX7_walkers_129 : decode cX7_walkers 129 = .ok (.iconst 1, 1) := by decide +kernel
theorem dX7_walkers_130 : decode cX7_walkers 130 = .ok (.if_icmp .ne 8, 3) := by decide +kernel
theorem dX7_walkers_133 : decode cX7_walkers 133 = .ok (.iload 5, 2) := by decide +kernel
theorem dX7_walkers_135 : decode cX7_walkers 135 = .ok (.goto 10, 3) := by decide +kernel
theorem dX7_walkers_138 : decode cX7_walkers 138 = .ok (.aload_n 0, 1) := by decide +kernel
theorem dX7_walkers_139 : decode cX7_walkers 139 = .ok (.getfield 19, 3) := by decide +kernel
theorem dX7_walkers_142 : decode cX7_walkers 142 = .ok (.iload 4, 2) := by decide +kernel
theorem dX7_walkers_144 : decode cX7_walkers 144 = .ok (.iaload, 1) := by decide +kernel
theorem dX7_walkers_145 : decode cX7_walkers 145 = .ok (.iastore, 1) := by decide +kernel
theorem dX7_walkers_146 : decode cX7_walkers 146 = .ok (.iinc 4 1, 3) := by decide +kernel
theorem dX7_walkers_149 : decode cX7_walkers 149 = .ok (.goto (-79), 3) := by decide +kernel
theorem dX7_walkers_152 : decode cX7_walkers 152 = .ok (.iinc 2 1, 3) := by decide +kernel
theorem dX7_walkers_155 : decode cX7_walkers 155 = .ok (.aload_n 0, 1) := by decide +kernel
theorem dX7_walkers_156 : decode cX7_walkers 156 = .ok (.iconst 0, 1) := by decide +kernel
theorem dX7_walkers_157 : decode cX7_walkers 157 = .ok (.invokevirtual 124, 3) := by decide +kernel
theorem dX7_walkers_160 : decode cX7_walkers 160 = .ok (.goto (-110), 3) := by decide +kernel
theorem dX7_walkers_163 : decode cX7_walkers 163 = .ok (.iload_n 1, 1) := by decide +kernel
theorem dX7_walkers_164 : decode cX7_walkers 164 = .ok (.ifCond .ge 7, 3) := by decide +kernel
theorem dX7_walkers_167 : decode cX7_walkers 167 = .ok (.iload_n 2, 1) := by decide +kernel
theorem dX7_walkers_168 : decode cX7_walkers 168 = .ok (.goto 9, 3) := by decide +kernel
theorem dX7_walkers_171 : decode cX7_walkers 171 = .ok (.aload_n 0, 1) := by decide +kernel
theorem dX7_walkers_172 : decode cX7_walkers 172 = .ok (.getfield 19, 3) := by decide +kernel
theorem dX7_walkers_175 : decode cX7_walkers 175 = .ok (.iload_n 1, 1) := by decide +kernel
theorem dX7_walkers_176 : decode cX7_walkers 176 = .ok (.iaload, 1) := by decide +kernel
theorem dX7_walkers_177 : decode cX7_walkers 177 = .ok (.istore_n 3, 1) := by decide +kernel
theorem dX7_walkers_178 : decode cX7_walkers 178 = .ok (.iconst 0, 1) := by decide +kernel
theorem dX7_walkers_179 : decode cX7_walkers 179 = .ok (.istore 4, 2) := by decide +kernel
theorem dX7_walkers_181 : decode cX7_walkers 181 = .ok (.iload 4, 2) := by decide +kernel
theorem dX7_walkers_183 : decode cX7_walkers 183 = .ok (.aload_n 0, 1) := by decide +kernel
theorem dX7_walkers_184 : decode cX7_walkers 184 = .ok (.getfield 81, 3) := by decide +kernel
theorem dX7_walkers_187 : decode cX7_walkers 187 = .ok (.if_icmp .ge 23, 3) := by decide +kernel
theorem dX7_walkers_190 : decode cX7_walkers 190 = .ok (.aload_n 0, 1) := by decide +kernel
theorem dX7_walkers_191 : decode cX7_walkers 191 = .ok (.getfield 19, 3) := by decide +kernel
theorem dX7_walkers_194 : decode cX7_walkers 194 = .ok (.iload 4, 2) := by decide +kernel
theorem dX7_walkers_196 : decode cX7_walkers 196 = .ok (.aload_n 0, 1) := by decide +kernel
theorem dX7_walkers_197 : decode cX7_walkers 197 = .ok (.getfield 74, 3) := by decide +kernel
theorem dX7_walkers_200 : decode cX7_walkers 200 = .ok (.iload 4, 2) := by decide +kernel
theorem dX7_walkers_202 : decode cX7_walkers 202 = .ok (.iaload, 1) := by decide +kernel
theorem dX7_walkers_203 : decode cX7_walkers 203 = .ok (.iastore, 1) := by decide +kernel
theorem dX7_walkers_204 : decode cX7_walkers 204 = .ok (.iinc 4 1, 3) := by decide +kernel
theorem dX7_walkers_207 : decode cX7_walkers 207 = .ok (.goto (-26), 3) := by decide +kernel
theorem dX7_walkers_210 : decode cX7_walkers 210 = .ok (.iload_n 3, 1) := by decide +kernel
theorem dX7_walkers_211 : decode cX7_walkers 211 = .ok (.ireturn, 1) := by decide +kernel
theorem dX7_told_0 : decode cX7_told 0 = .ok (.iconst 0, 1) := by decide +kernel
theorem dX7_told_1 : decode cX7_told 1 = .ok (.istore_n 2, 1) := by decide +kernel
theorem dX7_told_2 : decode cX7_told 2 = .ok (.iconst 0, 1) := by decide +kernel
theorem dX7_told_3 : decode cX7_told 3 = .ok (.istore_n 3, 1) := by decide +kernel
theorem dX7_told_4 : decode cX7_told 4 = .ok (.iload_n 3, 1) := by decide +kernel
theorem dX7_told_5 : decode cX7_told 5 = .ok (.aload_n 0, 1) := by decide +kernel
theorem dX7_told_6 : decode cX7_told 6 = .ok (.getfield 81, 3) := by decide +kernel
theorem dX7_told_9 : decode cX7_told 9 = .ok (.if_icmp .ge 27, 3) := by decide +kernel
theorem dX7_told_12 : decode cX7_told 12 = .ok (.iload_n 2, 1) := by decide +kernel
theorem dX7_told_13 : decode cX7_told 13 = .ok (.aload_n 0, 1) := by decide +kernel
theorem dX7_told_14 : decode cX7_told 14 = .ok (.iload_n 3, 1) := by decide +kernel
theorem dX7_told_15 : decode cX7_told 15 = .ok (.invokevirtual 97, 3) := by decide +kernel
theorem dX7_told_18 : decode cX7_told 18 = .ok (.ifCond .eq 9, 3) := by decide +kernel
theorem dX7_told_21 : decode cX7_told 21 = .ok (.iconst 1, 1) := by decide +kernel
theorem dX7_told_22 : decode cX7_told 22 = .ok (.iload_n 3, 1) := by decide +kernel
theorem dX7_told_23 : decode cX7_told 23 = .ok (.ishl, 1) := by decide +kernel
theorem dX7_told_24 : decode cX7_told 24 = .ok (.goto 4, 3) := by decide +kernel
theorem dX7_told_27 : decode cX7_told 27 = .ok (.iconst 0, 1) := by decide +kernel
theorem dX7_told_28 : decode cX7_told 28 = .ok (.ior, 1) := by decide +kernel
theorem dX7_told_29 : decode cX7_told 29 = .ok (.istore_n 2, 1) := by decide +kernel
theorem dX7_told_30 : decode cX7_told 30 = .ok (.iinc 3 1, 3) := by decide +kernel
theorem dX7_told_33 : decode cX7_told 33 = .ok (.goto (-29), 3) := by decide +kernel
theorem dX7_told_36 : decode cX7_told 36 = .ok (.iload_n 1, 1) := by decide +kernel
theorem dX7_told_37 : decode cX7_told 37 = .ok (.ifCond .ne 10, 3) := by decide +kernel
theorem dX7_told_40 : decode cX7_told 40 = .ok (.aload_n 0, 1) := by decide +kernel
theorem dX7_told_41 : decode cX7_told 41 = .ok (.getfield 81, 3) := by decide +kernel
theorem dX7_told_44 : decode cX7_told 44 = .ok (.goto 46, 3) := by decide +kernel
theorem dX7_told_47 : decode cX7_told 47 = .ok (.iload_n 1, 1) := by decide +kernel
theorem dX7_told_48 : decode cX7_told 48 = .ok (.iconst 1, 1) := by decide +kernel
theorem dX7_told_49 : decode cX7_told 49 = .ok (.if_icmp .ne 10, 3) := by decide +kernel
theorem dX7_told_52 : decode cX7_told 52 = .ok (.aload_n 0, 1) := by decide +kernel
theorem dX7_told_53 : decode cX7_told 53 = .ok (.getfield 107, 3) := by decide +kernel
theorem dX7_told_56 : decode cX7_told 56 = .ok (.goto 34, 3) := by decide +kernel
theorem dX7_told_59 : decode cX7_told 59 = .ok (.iload_n 1, 1) := by decide +kernel
theorem dX7_told_60 : decode cX7_told 60 = .ok (.iconst 2, 1) := by decide +kernel
theorem dX7_told_61 : decode cX7_told 61 = .ok (.if_icmp .ne 7, 3) := by decide +kernel
theorem dX7_told_64 : decode cX7_told 64 = .ok (.iload_n 2, 1) := by decide +kernel
theorem dX7_told_65 : decode cX7_told 65 = .ok (.goto 25, 3) := by decide +kernel
theorem dX7_told_68 : decode cX7_told 68 = .ok (.iload_n 1, 1) := by decide +kernel
theorem dX7_told_69 : decode cX7_told 69 = .ok (.iconst 3, 1) := by decide +kernel
theorem dX7_told_70 : decode cX7_told 70 = .ok (.iconst 5, 1) := by decide +kernel
theorem dX7_told_71 : decode cX7_told 71 = .ok (.invokestatic 77, 3) := by decide +kernel
theorem dX7_told_74 : decode cX7_told 74 = .ok (.ifCond .eq 14, 3) := by decide +kernel
theorem dX7_told_77 : decode cX7_told 77 = .ok (.aload_n 0, 1) := by decide +kernel
theorem dX7_told_78 : decode cX7_told 78 = .ok (.getfield 31, 3) := by decide +kernel
theorem dX7_told_81 : decode cX7_told 81 = .ok (.iload_n 1, 1) := by decide +kernel
theorem dX7_told_82 : decode cX7_told 82 = .ok (.iconst 3, 1) := by decide +kernel
theorem dX7_told_83 : decode cX7_told 83 = .ok (.isub, 1) := by decide +kernel
theorem dX7_told_84 : decode cX7_told 84 = .ok (.iaload, 1) := by decide +kernel
theorem dX7_told_85 : decode cX7_told 85 = .ok (.goto 5, 3) := by decide +kernel
theorem dX7_told_88 : decode cX7_told 88 = .ok (.bipush (-2), 2) := by decide +kernel
theorem dX7_told_90 : decode cX7_told 90 = .ok (.ireturn, 1) := by decide +kernel
theorem dJ6_lowestOneBit_0f7a4_0 : decode cJ6_lowestOneBit_0f7a4 0 = .ok (.iload_n 0, 1) := by decide +kernel
theorem dJ6_lowestOneBit_0f7a4_1 : decode cJ6_lowestOneBit_0f7a4 1 = .ok (.iload_n 0, 1) := by decide +kernel
theorem dJ6_lowestOneBit_0f7a4_2 : decode cJ6_lowestOneBit_0f7a4 2 = .ok (.ineg, 1) := by decide +kernel
theorem dJ6_lowestOneBit_0f7a4_3 : decode cJ6_lowestOneBit_0f7a4 3 = .ok (.iand, 1) := by decide +kernel
theorem dJ6_lowestOneBit_0f7a4_4 : decode cJ6_lowestOneBit_0f7a4 4 = .ok (.ireturn, 1) := by decide +kernel
theorem dJ6_bitCount_0f7a4_0 : decode cJ6_bitCount_0f7a4 0 = .ok (.iload_n 0, 1) := by decide +kernel
theorem dJ6_bitCount_0f7a4_1 : decode cJ6_bitCount_0f7a4 1 = .ok (.iload_n 0, 1) := by decide +kernel
theorem dJ6_bitCount_0f7a4_2 : decode cJ6_bitCount_0f7a4 2 = .ok (.iconst 1, 1) := by decide +kernel
theorem dJ6_bitCount_0f7a4_3 : decode cJ6_bitCount_0f7a4 3 = .ok (.iushr, 1) := by decide +kernel
theorem dJ6_bitCount_0f7a4_4 : decode cJ6_bitCount_0f7a4 4 = .ok (.ldc_w 265, 3) := by decide +kernel
theorem dJ6_bitCount_0f7a4_7 : decode cJ6_bitCount_0f7a4 7 = .ok (.iand, 1) := by decide +kernel
theorem dJ6_bitCount_0f7a4_8 : decode cJ6_bitCount_0f7a4 8 = .ok (.isub, 1) := by decide +kernel
theorem dJ6_bitCount_0f7a4_9 : decode cJ6_bitCount_0f7a4 9 = .ok (.istore_n 0, 1) := by decide +kernel
theorem dJ6_bitCount_0f7a4_10 : decode cJ6_bitCount_0f7a4 10 = .ok (.iload_n 0, 1) := by decide +kernel
theorem dJ6_bitCount_0f7a4_11 : decode cJ6_bitCount_0f7a4 11 = .ok (.ldc_w 266, 3) := by decide +kernel
theorem dJ6_bitCount_0f7a4_14 : decode cJ6_bitCount_0f7a4 14 = .ok (.iand, 1) := by decide +kernel
theorem dJ6_bitCount_0f7a4_15 : decode cJ6_bitCount_0f7a4 15 = .ok (.iload_n 0, 1) := by decide +kernel
theorem dJ6_bitCount_0f7a4_16 : decode cJ6_bitCount_0f7a4 16 = .ok (.iconst 2, 1) := by decide +kernel
theorem dJ6_bitCount_0f7a4_17 : decode cJ6_bitCount_0f7a4 17 = .ok (.iushr, 1) := by decide +kernel
theorem dJ6_bitCount_0f7a4_18 : decode cJ6_bitCount_0f7a4 18 = .ok (.ldc_w 266, 3) := by decide +kernel
theorem dJ6_bitCount_0f7a4_21 : decode cJ6_bitCount_0f7a4 21 = .ok (.iand, 1) := by decide +kernel
theorem dJ6_bitCount_0f7a4_22 : decode cJ6_bitCount_0f7a4 22 = .ok (.iadd, 1) := by decide +kernel
theorem dJ6_bitCount_0f7a4_23 : decode cJ6_bitCount_0f7a4 23 = .ok (.istore_n 0, 1) := by decide +kernel
theorem dJ6_bitCount_0f7a4_24 : decode cJ6_bitCount_0f7a4 24 = .ok (.iload_n 0, 1) := by decide +kernel
theorem dJ6_bitCount_0f7a4_25 : decode cJ6_bitCount_0f7a4 25 = .ok (.iload_n 0, 1) := by decide +kernel
theorem dJ6_bitCount_0f7a4_26 : decode cJ6_bitCount_0f7a4 26 = .ok (.iconst 4, 1) := by decide +kernel
theorem dJ6_bitCount_0f7a4_27 : decode cJ6_bitCount_0f7a4 27 = .ok (.iushr, 1) := by decide +kernel
theorem dJ6_bitCount_0f7a4_28 : decode cJ6_bitCount_0f7a4 28 = .ok (.iadd, 1) := by decide +kernel
theorem dJ6_bitCount_0f7a4_29 : decode cJ6_bitCount_0f7a4 29 = .ok (.ldc_w 267, 3) := by decide +kernel
theorem dJ6_bitCount_0f7a4_32 : decode cJ6_bitCount_0f7a4 32 = .ok (.iand, 1) := by decide +kernel
theorem dJ6_bitCount_0f7a4_33 : decode cJ6_bitCount_0f7a4 33 = .ok (.istore_n 0, 1) := by decide +kernel
theorem dJ6_bitCount_0f7a4_34 : decode cJ6_bitCount_0f7a4 34 = .ok (.iload_n 0, 1) := by decide +kernel
theorem dJ6_bitCount_0f7a4_35 : decode cJ6_bitCount_0f7a4 35 = .ok (.iload_n 0, 1) := by decide +kernel
theorem dJ6_bitCount_0f7a4_36 : decode cJ6_bitCount_0f7a4 36 = .ok (.bipush 8, 2) := by decide +kernel
theorem dJ6_bitCount_0f7a4_38 : decode cJ6_bitCount_0f7a4 38 = .ok (.iushr, 1) := by decide +kernel
theorem dJ6_bitCount_0f7a4_39 : decode cJ6_bitCount_0f7a4 39 = .ok (.iadd, 1) := by decide +kernel
theorem dJ6_bitCount_0f7a4_40 : decode cJ6_bitCount_0f7a4 40 = .ok (.istore_n 0, 1) := by decide +kernel
theorem dJ6_bitCount_0f7a4_41 : decode cJ6_bitCount_0f7a4 41 = .ok (.iload_n 0, 1) := by decide +kernel
theorem dJ6_bitCount_0f7a4_42 : decode cJ6_bitCount_0f7a4 42 = .ok (.iload_n 0, 1) := by decide +kernel
theorem dJ6_bitCount_0f7a4_43 : decode cJ6_bitCount_0f7a4 43 = .ok (.bipush 16, 2) := by decide +kernel
theorem dJ6_bitCount_0f7a4_45 : decode cJ6_bitCount_0f7a4 45 = .ok (.iushr, 1) := by decide +kernel
theorem dJ6_bitCount_0f7a4_46 : decode cJ6_bitCount_0f7a4 46 = .ok (.iadd, 1) := by decide +kernel
theorem dJ6_bitCount_0f7a4_47 : decode cJ6_bitCount_0f7a4 47 = .ok (.istore_n 0, 1) := by decide +kernel
theorem dJ6_bitCount_0f7a4_48 : decode cJ6_bitCount_0f7a4 48 = .ok (.iload_n 0, 1) := by decide +kernel
theorem dJ6_bitCount_0f7a4_49 : decode cJ6_bitCount_0f7a4 49 = .ok (.bipush 63, 2) := by decide +kernel
theorem dJ6_bitCount_0f7a4_51 : decode cJ6_bitCount_0f7a4 51 = .ok (.iand, 1) := by decide +kernel
theorem dJ6_bitCount_0f7a4_52 : decode cJ6_bitCount_0f7a4 52 = .ok (.ireturn, 1) := by decide +kernel
theorem dJ9_max_7cf53_0 : decode cJ9_max_7cf53 0 = .ok (.iload_n 0, 1) := by decide +kernel
theorem dJ9_max_7cf53_1 : decode cJ9_max_7cf53 1 = .ok (.iload_n 1, 1) := by decide +kernel
theorem dJ9_max_7cf53_2 : decode cJ9_max_7cf53 2 = .ok (.if_icmp .lt 7, 3) := by decide +kernel
theorem dJ9_max_7cf53_5 : decode cJ9_max_7cf53 5 = .ok (.iload_n 0, 1) := by decide +kernel
theorem dJ9_max_7cf53_6 : decode cJ9_max_7cf53 6 = .ok (.goto 4, 3) := by decide +kernel
theorem dJ9_max_7cf53_9 : decode cJ9_max_7cf53 9 = .ok (.iload_n 1, 1) := by decide +kernel
theorem dJ9_max_7cf53_10 : decode cJ9_max_7cf53 10 = .ok (.ireturn, 1) := by decide +kernel
theorem dJ9_min_7cf53_0 : decode cJ9_min_7cf53 0 = .ok (.iload_n 0, 1) := by decide +kernel
theorem dJ9_min_7cf53_1 : decode cJ9_min_7cf53 1 = .ok (.iload_n 1, 1) := by decide +kernel
theorem dJ9_min_7cf53_2 : decode cJ9_min_7cf53 2 = .ok (.if_icmp .gt 7, 3) := by decide +kernel
theorem dJ9_min_7cf53_5 : decode cJ9_min_7cf53 5 = .ok (.iload_n 0, 1) := by decide +kernel
theorem dJ9_min_7cf53_6 : decode cJ9_min_7cf53 6 = .ok (.goto 4, 3) := by decide +kernel
theorem dJ9_min_7cf53_9 : decode cJ9_min_7cf53 9 = .ok (.iload_n 1, 1) := by decide +kernel
theorem dJ9_min_7cf53_10 : decode cJ9_min_7cf53 10 = .ok (.ireturn, 1) := by decide +kernel
theorem dL_law_0 : decode cL_law 0 = .ok (.new 7, 3) := by decide +kernel
theorem dL_law_3 : decode cL_law 3 = .ok (.dup, 1) := by decide +kernel
theorem dL_law_4 : decode cL_law 4 = .ok (.invokespecial 9, 3) := by decide +kernel
theorem dL_law_7 : decode cL_law 7 = .ok (.astore_n 1, 1) := by decide +kernel
theorem dL_law_8 : decode cL_law 8 = .ok (.new 10, 3) := by decide +kernel
theorem dL_law_11 : decode cL_law 11 = .ok (.dup, 1) := by decide +kernel
theorem dL_law_12 : decode cL_law 12 = .ok (.invokespecial 12, 3) := by decide +kernel
theorem dL_law_15 : decode cL_law 15 = .ok (.astore_n 2, 1) := by decide +kernel
theorem dL_law_16 : decode cL_law 16 = .ok (.iconst 0, 1) := by decide +kernel
theorem dL_law_17 : decode cL_law 17 = .ok (.istore_n 3, 1) := by decide +kernel
theorem dL_law_18 : decode cL_law 18 = .ok (.iload_n 3, 1) := by decide +kernel
theorem dL_law_19 : decode cL_law 19 = .ok (.aload_n 0, 1) := by decide +kernel
theorem dL_law_20 : decode cL_law 20 = .ok (.arraylength, 1) := by decide +kernel
theorem dL_law_21 : decode cL_law 21 = .ok (.bipush 6, 2) := by decide +kernel
theorem dL_law_23 : decode cL_law 23 = .ok (.isub, 1) := by decide +kernel
theorem dL_law_24 : decode cL_law 24 = .ok (.if_icmp .gt 902, 3) := by decide +kernel
theorem dL_law_27 : decode cL_law 27 = .ok (.aload_n 0, 1) := by decide +kernel
theorem dL_law_28 : decode cL_law 28 = .ok (.iload_n 3, 1) := by decide +kernel
theorem dL_law_29 : decode cL_law 29 = .ok (.iaload, 1) := by decide +kernel
theorem dL_law_30 : decode cL_law 30 = .ok (.bipush 31, 2) := by decide +kernel
theorem dL_law_32 : decode cL_law 32 = .ok (.iand, 1) := by decide +kernel
theorem dL_law_33 : decode cL_law 33 = .ok (.tableswitch 887 0 26 #[123, 176, 209, 252, 295, 328, 351, 364, 377, 390, 413, 446, 480, 503, 526, 539, 552, 575, 588, 632, 686, 709, 722, 755, 778, 841, 864], 123) := by decide +kernel
theorem dL_law_156 : decode cL_law 156 = .ok (.aload_n 1, 1) := by decide +kernel
theorem dL_law_157 : decode cL_law 157 = .ok (.aload_n 0, 1) := by decide +kernel
theorem dL_law_158 : decode cL_law 158 = .ok (.iload_n 3, 1) := by decide +kernel
theorem dL_law_159 : decode cL_law 159 = .ok (.iconst 1, 1) := by decide +kernel
theorem dL_law_160 : decode cL_law 160 = .ok (.iadd, 1) := by decide +kernel
theorem dL_law_161 : decode cL_law 161 = .ok (.iaload, 1) := by decide +kernel
theorem dL_law_162 : decode cL_law 162 = .ok (.aload_n 0, 1) := by decide +kernel
theorem dL_law_163 : decode cL_law 163 = .ok (.iload_n 3, 1) := by decide +kernel
theorem dL_law_164 : decode cL_law 164 = .ok (.iconst 2, 1) := by decide +kernel
theorem dL_law_165 : decode cL_law 165 = .ok (.iadd, 1) := by decide +kernel
theorem dL_law_166 : decode cL_law 166 = .ok (.iaload, 1) := by decide +kernel
theorem dL_law_167 : decode cL_law 167 = .ok (.aload_n 0, 1) := by decide +kernel
theorem dL_law_168 : decode cL_law 168 = .ok (.iload_n 3, 1) := by decide +kernel
theorem dL_law_169 : decode cL_law 169 = .ok (.iconst 3, 1) := by decide +kernel
theorem dL_law_170 : decode cL_law 170 = .ok (.iadd, 1) := by decide +kernel
theorem dL_law_171 : decode cL_law 171 = .ok (.iaload, 1) := by decide +kernel
theorem dL_law_172 : decode cL_law 172 = .ok (.aload_n 0, 1) := by decide +kernel
theorem dL_law_173 : decode cL_law 173 = .ok (.iload_n 3, 1) := by decide +kernel
theorem dL_law_174 : decode cL_law 174 = .ok (.iconst 4, 1) := by decide +kernel
theorem dL_law_175 : decode cL_law 175 = .ok (.iadd, 1) := by decide +kernel
theorem dL_law_176 : decode cL_law 176 = .ok (.iaload, 1) := by decide +kernel
theorem dL_law_177 : decode cL_law 177 = .ok (.invokevirtual 13, 3) := by decide +kernel
theorem dL_law_180 : decode cL_law 180 = .ok (.aload_n 2, 1) := by decide +kernel
theorem dL_law_181 : decode cL_law 181 = .ok (.aload_n 0, 1) := by decide +kernel
theorem dL_law_182 : decode cL_law 182 = .ok (.iload_n 3, 1) := by decide +kernel
theorem dL_law_183 : decode cL_law 183 = .ok (.iconst 1, 1) := by decide +kernel
theorem dL_law_184 : decode cL_law 184 = .ok (.iadd, 1) := by decide +kernel
theorem dL_law_185 : decode cL_law 185 = .ok (.iaload, 1) := by decide +kernel
theorem dL_law_186 : decode cL_law 186 = .ok (.aload_n 0, 1) := by decide +kernel
theorem dL_law_187 : decode cL_law 187 = .ok (.iload_n 3, 1) := by decide +kernel
theorem dL_law_188 : decode cL_law 188 = .ok (.iconst 2, 1) := by decide +kernel
theorem dL_law_189 : decode cL_law 189 = .ok (.iadd, 1) := by decide +kernel
theorem dL_law_190 : decode cL_law 190 = .ok (.iaload, 1) := by decide +kernel
theorem dL_law_191 : decode cL_law 191 = .ok (.aload_n 0, 1) := by decide +kernel
theorem dL_law_192 : decode cL_law 192 = .ok (.iload_n 3, 1) := by decide +kernel
theorem dL_law_193 : decode cL_law 193 = .ok (.iconst 3, 1) := by decide +kernel
theorem dL_law_194 : decode cL_law 194 = .ok (.iadd, 1) := by decide +kernel
theorem dL_law_195 : decode cL_law 195 = .ok (.iaload, 1) := by decide +kernel
theorem dL_law_196 : decode cL_law 196 = .ok (.aload_n 0, 1) := by decide +kernel
theorem dL_law_197 : decode cL_law 197 = .ok (.iload_n 3, 1) := by decide +kernel
theorem dL_law_198 : decode cL_law 198 = .ok (.iconst 4, 1) := by decide +kernel
theorem dL_law_199 : decode cL_law 199 = .ok (.iadd, 1) := by decide +kernel
theorem dL_law_200 : decode cL_law 200 = .ok (.iaload, 1) := by decide +kernel
theorem dL_law_201 : decode cL_law 201 = .ok (.invokevirtual 17, 3) := by decide +kernel
theorem dL_law_204 : decode cL_law 204 = .ok (.if_icmp .eq 716, 3) := by decide +kernel
theorem dL_law_207 : decode cL_law 207 = .ok (.iconst 0, 1) := by decide +kernel
theorem dL_law_208 : decode cL_law 208 = .ok (.ireturn, 1) := by decide +kernel
theorem dL_law_209 : decode cL_law 209 = .ok (.aload_n 1, 1) := by decide +kernel
theorem dL_law_210 : decode cL_law 210 = .ok (.aload_n 0, 1) := by decide +kernel
theorem dL_law_211 : decode cL_law 211 = .ok (.iload_n 3, 1) := by decide +kernel
theorem dL_law_212 : decode cL_law 212 = .ok (.iconst 1, 1) := by decide +kernel
theorem dL_law_213 : decode cL_law 213 = .ok (.iadd, 1) := by decide +kernel
theorem dL_law_214 : decode cL_law 214 = .ok (.iaload, 1) := by decide +kernel
theorem dL_law_215 : decode cL_law 215 = .ok (.aload_n 0, 1) := by decide +kernel
theorem dL_law_216 : decode cL_law 216 = .ok (.iload_n 3, 1) := by decide +kernel
theorem dL_law_217 : decode cL_law 217 = .ok (.iconst 2, 1) := by decide +kernel
theorem dL_law_218 : decode cL_law 218 = .ok (.iadd, 1) := by decide +kernel
theorem dL_law_219 : decode cL_law 219 = .ok (.iaload, 1) := by decide +kernel
theorem dL_law_220 : decode cL_law 220 = .ok (.invokevirtual 18, 3) := by decide +kernel
theorem dL_law_223 : decode cL_law 223 = .ok (.aload_n 2, 1) := by decide +kernel
theorem dL_law_224 : decode cL_law 224 = .ok (.aload_n 0, 1) := by decide +kernel
theorem dL_law_225 : decode cL_law 225 = .ok (.iload_n 3, 1) := by decide +kernel
theorem dL_law_226 : decode cL_law 226 = .ok (.iconst 1, 1) := by decide +kernel
theorem dL_law_227 : decode cL_law 227 = .ok (.iadd, 1) := by decide +kernel
theorem dL_law_228 : decode cL_law 228 = .ok (.iaload, 1) := by decide +kernel
theorem dL_law_229 : decode cL_law 229 = .ok (.aload_n 0, 1) := by decide +kernel
theorem dL_law_230 : decode cL_law 230 = .ok (.iload_n 3, 1) := by decide +kernel
theorem dL_law_231 : decode cL_law 231 = .ok (.iconst 2, 1) := by decide +kernel
theorem dL_law_232 : decode cL_law 232 = .ok (.iadd, 1) := by decide +kernel
theorem dL_law_233 : decode cL_law 233 = .ok (.iaload, 1) := by decide +kernel
theorem dL_law_234 : decode cL_law 234 = .ok (.invokevirtual 22, 3) := by decide +kernel
theorem dL_law_237 : decode cL_law 237 = .ok (.if_icmp .eq 683, 3) := by decide +kernel
theorem dL_law_240 : decode cL_law 240 = .ok (.iconst 0, 1) := by decide +kernel
theorem dL_law_241 : decode cL_law 241 = .ok (.ireturn, 1) := by decide +kernel
theorem dL_law_242 : decode cL_law 242 = .ok (.aload_n 1, 1) := by decide +kernel
theorem dL_law_243 : decode cL_law 243 = .ok (.aload_n 0, 1) := by decide +kernel
theorem dL_law_244 : decode cL_law 244 = .ok (.iload_n 3, 1) := by decide +kernel
theorem dL_law_245 : decode cL_law 245 = .ok (.iconst 1, 1) := by decide +kernel
theorem dL_law_246 : decode cL_law 246 = .ok (.iadd, 1) := by decide +kernel
theorem dL_law_247 : decode cL_law 247 = .ok (.iaload, 1) := by decide +kernel
theorem dL_law_248 : decode cL_law 248 = .ok (.aload_n 0, 1) := by decide +kernel
theorem dL_law_249 : decode cL_law 249 = .ok (.iload_n 3, 1) := by decide +kernel
theorem dL_law_250 : decode cL_law 250 = .ok (.iconst 2, 1) := by decide +kernel
theorem dL_law_251 : decode cL_law 251 = .ok (.iadd, 1) := by decide +kernel
theorem dL_law_252 : decode cL_law 252 = .ok (.iaload, 1) := by decide +kernel
theorem dL_law_253 : decode cL_law 253 = .ok (.aload_n 0, 1) := by decide +kernel
theorem dL_law_254 : decode cL_law 254 = .ok (.iload_n 3, 1) := by decide +kernel
theorem dL_law_255 : decode cL_law 255 = .ok (.iconst 3, 1) := by decide +kernel
theorem dL_law_256 : decode cL_law 256 = .ok (.iadd, 1) := by decide +kernel
theorem dL_law_257 : decode cL_law 257 = .ok (.iaload, 1) := by decide +kernel
theorem dL_law_258 : decode cL_law 258 = .ok (.invokevirtual 23, 3) := by decide +kernel
theorem dL_law_261 : decode cL_law 261 = .ok (.aload_n 2, 1) := by decide +kernel
theorem dL_law_262 : decode cL_law 262 = .ok (.aload_n 0, 1) := by decide +kernel
theorem dL_law_263 : decode cL_law 263 = .ok (.iload_n 3, 1) := by decide +kernel
theorem dL_law_264 : decode cL_law 264 = .ok (.iconst 1, 1) := by decide +kernel
theorem dL_law_265 : decode cL_law 265 = .ok (.iadd, 1) := by decide +kernel
theorem dL_law_266 : decode cL_law 266 = .ok (.iaload, 1) := by decide +kernel
theorem dL_law_267 : decode cL_law 267 = .ok (.aload_n 0, 1) := by decide +kernel
theorem dL_law_268 : decode cL_law 268 = .ok (.iload_n 3, 1) := by decide +kernel
theorem dL_law_269 : decode cL_law 269 = .ok (.iconst 2, 1) := by decide +kernel
theorem dL_law_270 : decode cL_law 270 = .ok (.iadd, 1) := by decide +kernel
theorem dL_law_271 : decode cL_law 271 = .ok (.iaload, 1) := by decide +kernel
theorem dL_law_272 : decode cL_law 272 = .ok (.aload_n 0, 1) := by decide +kernel
theorem dL_law_273 : decode cL_law 273 = .ok (.iload_n 3, 1) := by decide +kernel
theorem dL_law_274 : decode cL_law 274 = .ok (.iconst 3, 1) := by decide +kernel
theorem dL_law_275 : decode cL_law 275 = .ok (.iadd, 1) := by decide +kernel
theorem dL_law_276 : decode cL_law 276 = .ok (.iaload, 1) := by decide +kernel
theorem dL_law_277 : decode cL_law 277 = .ok (.invokevirtual 27, 3) := by decide +kernel
theorem dL_law_280 : decode cL_law 280 = .ok (.if_icmp .eq 640, 3) := by decide +kernel
theorem dL_law_283 : decode cL_law 283 = .ok (.iconst 0, 1) := by decide +kernel
theorem dL_law_284 : decode cL_law 284 = .ok (.ireturn, 1) := by decide +kernel
theorem dL_law_285 : decode cL_law 285 = .ok (.aload_n 1, 1) := by decide +kernel
theorem dL_law_286 : decode cL_law 286 = .ok (.aload_n 0, 1) := by decide +kernel
theorem dL_law_287 : decode cL_law 287 = .ok (.iload_n 3, 1) := by decide +kernel
theorem dL_law_288 : decode cL_law 288 = .ok (.iconst 1, 1) := by decide +kernel
theorem dL_law_289 : decode cL_law 289 = .ok (.iadd, 1) := by decide +kernel
theorem dL_law_290 : decode cL_law 290 = .ok (.iaload, 1) := by decide +kernel
theorem dL_law_291 : decode cL_law 291 = .ok (.aload_n 0, 1) := by decide +kernel
theorem dL_law_292 : decode cL_law 292 = .ok (.iload_n 3, 1) := by decide +kernel
theorem dL_law_293 : decode cL_law 293 = .ok (.iconst 2, 1) := by decide +kernel
theorem dL_law_294 : decode cL_law 294 = .ok (.iadd, 1) := by decide +kernel
theorem dL_law_295 : decode cL_law 295 = .ok (.iaload, 1) := by decide +kernel
theorem dL_law_296 : decode cL_law 296 = .ok (.aload_n 0, 1) := by decide +kernel
theorem dL_law_297 : decode cL_law 297 = .ok (.iload_n 3, 1) := by decide +kernel
theorem dL_law_298 : decode cL_law 298 = .ok (.iconst 3, 1) := by decide +kernel
theorem dL_law_299 : decode cL_law 299 = .ok (.iadd, 1) := by decide +kernel
theorem dL_law_300 : decode cL_law 300 = .ok (.iaload, 1) := by decide +kernel
theorem dL_law_301 : decode cL_law 301 = .ok (.invokevirtual 28, 3) := by decide +kernel
theorem dL_law_304 : decode cL_law 304 = .ok (.aload_n 2, 1) := by decide +kernel
theorem dL_law_305 : decode cL_law 305 = .ok (.aload_n 0, 1) := by decide +kernel
theorem dL_law_306 : decode cL_law 306 = .ok (.iload_n 3, 1) := by decide +kernel
theorem dL_law_307 : decode cL_law 307 = .ok (.iconst 1, 1) := by decide +kernel
theorem dL_law_308 : decode cL_law 308 = .ok (.iadd, 1) := by decide +kernel
theorem dL_law_309 : decode cL_law 309 = .ok (.iaload, 1) := by decide +kernel
theorem dL_law_310 : decode cL_law 310 = .ok (.aload_n 0, 1) := by decide +kernel
theorem dL_law_311 : decode cL_law 311 = .ok (.iload_n 3, 1) := by decide +kernel
theorem dL_law_312 : decode cL_law 312 = .ok (.iconst 2, 1) := by decide +kernel
theorem dL_law_313 : decode cL_law 313 = .ok (.iadd, 1) := by decide +kernel
theorem dL_law_314 : decode cL_law 314 = .ok (.iaload, 1) := by decide +kernel
theorem dL_law_315 : decode cL_law 315 = .ok (.aload_n 0, 1) := by decide +kernel
theorem dL_law_316 : decode cL_law 316 = .ok (.iload_n 3, 1) := by decide +kernel
theorem dL_law_317 : decode cL_law 317 = .ok (.iconst 3, 1) := by decide +kernel
theorem dL_law_318 : decode cL_law 318 = .ok (.iadd, 1) := by decide +kernel
theorem dL_law_319 : decode cL_law 319 = .ok (.iaload, 1) := by decide +kernel
theorem dL_law_320 : decode cL_law 320 = .ok (.invokevirtual 31, 3) := by decide +kernel
theorem dL_law_323 : decode cL_law 323 = .ok (.if_icmp .eq 597, 3) := by decide +kernel
theorem dL_law_326 : decode cL_law 326 = .ok (.iconst 0, 1) := by decide +kernel
theorem dL_law_327 : decode cL_law 327 = .ok (.ireturn, 1) := by decide +kernel
theorem dL_law_328 : decode cL_law 328 = .ok (.aload_n 1, 1) := by decide +kernel
theorem dL_law_329 : decode cL_law 329 = .ok (.aload_n 0, 1) := by decide +kernel
theorem dL_law_330 : decode cL_law 330 = .ok (.iload_n 3, 1) := by decide +kernel
theorem dL_law_331 : decode cL_law 331 = .ok (.iconst 1, 1) := by decide +kernel
theorem dL_law_332 : decode cL_law 332 = .ok (.iadd, 1) := by decide +kernel
theorem dL_law_333 : decode cL_law 333 = .ok (.iaload, 1) := by decide +kernel
theorem dL_law_334 : decode cL_law 334 = .ok (.aload_n 0, 1) := by decide +kernel
theorem dL_law_335 : decode cL_law 335 = .ok (.iload_n 3, 1) := by decide +kernel
theorem dL_law_336 : decode cL_law 336 = .ok (.iconst 2, 1) := by decide +kernel
theorem dL_law_337 : decode cL_law 337 = .ok (.iadd, 1) := by decide +kernel
theorem dL_law_338 : decode cL_law 338 = .ok (.iaload, 1) := by decide +kernel
theorem dL_law_339 : decode cL_law 339 = .ok (.invokevirtual 32, 3) := by decide +kernel
theorem dL_law_342 : decode cL_law 342 = .ok (.aload_n 2, 1) := by decide +kernel
theorem dL_law_343 : decode cL_law 343 = .ok (.aload_n 0, 1) := by decide +kernel
theorem dL_law_344 : decode cL_law 344 = .ok (.iload_n 3, 1) := by decide +kernel
theorem dL_law_345 : decode cL_law 345 = .ok (.iconst 1, 1) := by decide +kernel
theorem dL_law_346 : decode cL_law 346 = .ok (.iadd, 1) := by decide +kernel
theorem dL_law_347 : decode cL_law 347 = .ok (.iaload, 1) := by decide +kernel
theorem dL_law_348 : decode cL_law 348 = .ok (.aload_n 0, 1) := by decide +kernel
theorem dL_law_349 : decode cL_law 349 = .ok (.iload_n 3, 1) := by decide +kernel
theorem dL_law_350 : decode cL_law 350 = .ok (.iconst 2, 1) := by decide +kernel
theorem dL_law_351 : decode cL_law 351 = .ok (.iadd, 1) := by decide +kernel
theorem dL_law_352 : decode cL_law 352 = .ok (.iaload, 1) := by decide +kernel
theorem dL_law_353 : decode cL_law 353 = .ok (.invokevirtual 35, 3) := by decide +kernel
theorem dL_law_356 : decode cL_law 356 = .ok (.if_icmp .eq 564, 3) := by decide +kernel
theorem dL_law_359 : decode cL_law 359 = .ok (.iconst 0, 1) := by decide +kernel
theorem dL_law_360 : decode cL_law 360 = .ok (.ireturn, 1) := by decide +kernel
theorem dL_law_361 : decode cL_law 361 = .ok (.aload_n 1, 1) := by decide +kernel
theorem dL_law_362 : decode cL_law 362 = .ok (.aload_n 0, 1) := by decide +kernel
theorem dL_law_363 : decode cL_law 363 = .ok (.iload_n 3, 1) := by decide +kernel
theorem dL_law_364 : decode cL_law 364 = .ok (.iconst 1, 1) := by decide +kernel
theorem dL_law_365 : decode cL_law 365 = .ok (.iadd, 1) := by decide +kernel
theorem dL_law_366 : decode cL_law 366 = .ok (.iaload, 1) := by decide +kernel
theorem dL_law_367 : decode cL_law 367 = .ok (.invokevirtual 36, 3) := by decide +kernel
theorem dL_law_370 : decode cL_law 370 = .ok (.aload_n 2, 1) := by decide +kernel
theorem dL_law_371 : decode cL_law 371 = .ok (.aload_n 0, 1) := by decide +kernel
theorem dL_law_372 : decode cL_law 372 = .ok (.iload_n 3, 1) := by decide +kernel
theorem dL_law_373 : decode cL_law 373 = .ok (.iconst 1, 1) := by decide +kernel
theorem dL_law_374 : decode cL_law 374 = .ok (.iadd, 1) := by decide +kernel
theorem dL_law_375 : decode cL_law 375 = .ok (.iaload, 1) := by decide +kernel
theorem dL_law_376 : decode cL_law 376 = .ok (.invokevirtual 40, 3) := by decide +kernel
theorem dL_law_379 : decode cL_law 379 = .ok (.if_icmp .eq 541, 3) := by decide +kernel
theorem dL_law_382 : decode cL_law 382 = .ok (.iconst 0, 1) := by decide +kernel
theorem dL_law_383 : decode cL_law 383 = .ok (.ireturn, 1) := by decide +kernel
theorem dL_law_384 : decode cL_law 384 = .ok (.aload_n 1, 1) := by decide +kernel
theorem dL_law_385 : decode cL_law 385 = .ok (.invokevirtual 41, 3) := by decide +kernel
theorem dL_law_388 : decode cL_law 388 = .ok (.aload_n 2, 1) := by decide +kernel
theorem dL_law_389 : decode cL_law 389 = .ok (.invokevirtual 45, 3) := by decide +kernel
theorem dL_law_392 : decode cL_law 392 = .ok (.if_icmp .eq 528, 3) := by decide +kernel
theorem dL_law_395 : decode cL_law 395 = .ok (.iconst 0, 1) := by decide +kernel
theorem dL_law_396 : decode cL_law 396 = .ok (.ireturn, 1) := by decide +kernel
theorem dL_law_397 : decode cL_law 397 = .ok (.aload_n 1, 1) := by decide +kernel
theorem dL_law_398 : decode cL_law 398 = .ok (.invokevirtual 46, 3) := by decide +kernel
theorem dL_law_401 : decode cL_law 401 = .ok (.aload_n 2, 1) := by decide +kernel
theorem dL_law_402 : decode cL_law 402 = .ok (.invokevirtual 49, 3) := by decide +kernel
theorem dL_law_405 : decode cL_law 405 = .ok (.if_icmp .eq 515, 3) := by decide +kernel
theorem dL_law_408 : decode cL_law 408 = .ok (.iconst 0, 1) := by decide +kernel
theorem dL_law_409 : decode cL_law 409 = .ok (.ireturn, 1) := by decide +kernel
theorem dL_law_410 : decode cL_law 410 = .ok (.aload_n 1, 1) := by decide +kernel
theorem dL_law_411 : decode cL_law 411 = .ok (.invokevirtual 50, 3) := by decide +kernel
theorem dL_law_414 : decode cL_law 414 = .ok (.aload_n 2, 1) := by decide +kernel
theorem dL_law_415 : decode cL_law 415 = .ok (.invokevirtual 53, 3) := by decide +kernel
theorem dL_law_418 : decode cL_law 418 = .ok (.if_icmp .eq 502, 3) := by decide +kernel
theorem dL_law_421 : decode cL_law 421 = .ok (.iconst 0, 1) := by decide +kernel
theorem dL_law_422 : decode cL_law 422 = .ok (.ireturn, 1) := by decide +kernel
theorem dL_law_423 : decode cL_law 423 = .ok (.aload_n 1, 1) := by decide +kernel
theorem dL_law_424 : decode cL_law 424 = .ok (.aload_n 0, 1) := by decide +kernel
theorem dL_law_425 : decode cL_law 425 = .ok (.iload_n 3, 1) := by decide +kernel
theorem dL_law_426 : decode cL_law 426 = .ok (.iconst 1, 1) := by decide +kernel
theorem dL_law_427 : decode cL_law 427 = .ok (.iadd, 1) := by decide +kernel
theorem dL_law_428 : decode cL_law 428 = .ok (.iaload, 1) := by decide +kernel
theorem dL_law_429 : decode cL_law 429 = .ok (.invokevirtual 54, 3) := by decide +kernel
theorem dL_law_432 : decode cL_law 432 = .ok (.aload_n 2, 1) := by decide +kernel
theorem dL_law_433 : decode cL_law 433 = .ok (.aload_n 0, 1) := by decide +kernel
theorem dL_law_434 : decode cL_law 434 = .ok (.iload_n 3, 1) := by decide +kernel
theorem dL_law_435 : decode cL_law 435 = .ok (.iconst 1, 1) := by decide +kernel
theorem dL_law_436 : decode cL_law 436 = .ok (.iadd, 1) := by decide +kernel
theorem dL_law_437 : decode cL_law 437 = .ok (.iaload, 1) := by decide +kernel
theorem dL_law_438 : decode cL_law 438 = .ok (.invokevirtual 57, 3) := by decide +kernel
theorem dL_law_441 : decode cL_law 441 = .ok (.if_icmp .eq 479, 3) := by decide +kernel
theorem dL_law_444 : decode cL_law 444 = .ok (.iconst 0, 1) := by decide +kernel
theorem dL_law_445 : decode cL_law 445 = .ok (.ireturn, 1) := by decide +kernel
theorem dL_law_446 : decode cL_law 446 = .ok (.aload_n 1, 1) := by decide +kernel
theorem dL_law_447 : decode cL_law 447 = .ok (.aload_n 0, 1) := by decide +kernel
theorem dL_law_448 : decode cL_law 448 = .ok (.iload_n 3, 1) := by decide +kernel
theorem dL_law_449 : decode cL_law 449 = .ok (.iconst 1, 1) := by decide +kernel
theorem dL_law_450 : decode cL_law 450 = .ok (.iadd, 1) := by decide +kernel
theorem dL_law_451 : decode cL_law 451 = .ok (.iaload, 1) := by decide +kernel
theorem dL_law_452 : decode cL_law 452 = .ok (.aload_n 0, 1) := by decide +kernel
theorem dL_law_453 : decode cL_law 453 = .ok (.iload_n 3, 1) := by decide +kernel
theorem dL_law_454 : decode cL_law 454 = .ok (.iconst 2, 1) := by decide +kernel
theorem dL_law_455 : decode cL_law 455 = .ok (.iadd, 1) := by decide +kernel
theorem dL_law_456 : decode cL_law 456 = .ok (.iaload, 1) := by decide +kernel
theorem dL_law_457 : decode cL_law 457 = .ok (.invokevirtual 58, 3) := by decide +kernel
theorem dL_law_460 : decode cL_law 460 = .ok (.aload_n 2, 1) := by decide +kernel
theorem dL_law_461 : decode cL_law 461 = .ok (.aload_n 0, 1) := by decide +kernel
theorem dL_law_462 : decode cL_law 462 = .ok (.iload_n 3, 1) := by decide +kernel
theorem dL_law_463 : decode cL_law 463 = .ok (.iconst 1, 1) := by decide +kernel
theorem dL_law_464 : decode cL_law 464 = .ok (.iadd, 1) := by decide +kernel
theorem dL_law_465 : decode cL_law 465 = .ok (.iaload, 1) := by decide +kernel
theorem dL_law_466 : decode cL_law 466 = .ok (.aload_n 0, 1) := by decide +kernel
theorem dL_law_467 : decode cL_law 467 = .ok (.iload_n 3, 1) := by decide +kernel
theorem dL_law_468 : decode cL_law 468 = .ok (.iconst 2, 1) := by decide +kernel
theorem dL_law_469 : decode cL_law 469 = .ok (.iadd, 1) := by decide +kernel
theorem dL_law_470 : decode cL_law 470 = .ok (.iaload, 1) := by decide +kernel
theorem dL_law_471 : decode cL_law 471 = .ok (.invokevirtual 61, 3) := by decide +kernel
theorem dL_law_474 : decode cL_law 474 = .ok (.if_icmp .eq 446, 3) := by decide +kernel
theorem dL_law_477 : decode cL_law 477 = .ok (.iconst 0, 1) := by decide +kernel
theorem dL_law_478 : decode cL_law 478 = .ok (.ireturn, 1) := by decide +kernel
theorem dL_law_479 : decode cL_law 479 = .ok (.aload_n 1, 1) := by decide +kernel
theorem dL_law_480 : decode cL_law 480 = .ok (.aload_n 0, 1) := by decide +kernel
theorem dL_law_481 : decode cL_law 481 = .ok (.iload_n 3, 1) := by decide +kernel
theorem dL_law_482 : decode cL_law 482 = .ok (.iconst 1, 1) := by decide +kernel
theorem dL_law_483 : decode cL_law 483 = .ok (.iadd, 1) := by decide +kernel
theorem dL_law_484 : decode cL_law 484 = .ok (.iaload, 1) := by decide +kernel
theorem dL_law_485 : decode cL_law 485 = .ok (.aload_n 0, 1) := by decide +kernel
theorem dL_law_486 : decode cL_law 486 = .ok (.iload_n 3, 1) := by decide +kernel
theorem dL_law_487 : decode cL_law 487 = .ok (.iconst 2, 1) := by decide +kernel
theorem dL_law_488 : decode cL_law 488 = .ok (.iadd, 1) := by decide +kernel
theorem dL_law_489 : decode cL_law 489 = .ok (.iaload, 1) := by decide +kernel
theorem dL_law_490 : decode cL_law 490 = .ok (.invokevirtual 62, 3) := by decide +kernel
theorem dL_law_493 : decode cL_law 493 = .ok (.aload_n 2, 1) := by decide +kernel
theorem dL_law_494 : decode cL_law 494 = .ok (.aload_n 0, 1) := by decide +kernel
theorem dL_law_495 : decode cL_law 495 = .ok (.iload_n 3, 1) := by decide +kernel
theorem dL_law_496 : decode cL_law 496 = .ok (.iconst 1, 1) := by decide +kernel
theorem dL_law_497 : decode cL_law 497 = .ok (.iadd, 1) := by decide +kernel
theorem dL_law_498 : decode cL_law 498 = .ok (.iaload, 1) := by decide +kernel
theorem dL_law_499 : decode cL_law 499 = .ok (.aload_n 0, 1) := by decide +kernel
theorem dL_law_500 : decode cL_law 500 = .ok (.iload_n 3, 1) := by decide +kernel
theorem dL_law_501 : decode cL_law 501 = .ok (.iconst 2, 1) := by decide +kernel
theorem dL_law_502 : decode cL_law 502 = .ok (.iadd, 1) := by decide +kernel
theorem dL_law_503 : decode cL_law 503 = .ok (.iaload, 1) := by decide +kernel
theorem dL_law_504 : decode cL_law 504 = .ok (.invokevirtual 66, 3) := by decide +kernel
theorem dL_law_507 : decode cL_law 507 = .ok (.lcmp, 1) := by decide +kernel
theorem dL_law_508 : decode cL_law 508 = .ok (.ifCond .eq 412, 3) := by decide +kernel
theorem dL_law_511 : decode cL_law 511 = .ok (.iconst 0, 1) := by decide +kernel
theorem dL_law_512 : decode cL_law 512 = .ok (.ireturn, 1) := by decide +kernel
theorem dL_law_513 : decode cL_law 513 = .ok (.aload_n 1, 1) := by decide +kernel
theorem dL_law_514 : decode cL_law 514 = .ok (.aload_n 0, 1) := by decide +kernel
theorem dL_law_515 : decode cL_law 515 = .ok (.iload_n 3, 1) := by decide +kernel
theorem dL_law_516 : decode cL_law 516 = .ok (.iconst 1, 1) := by decide +kernel
theorem dL_law_517 : decode cL_law 517 = .ok (.iadd, 1) := by decide +kernel
theorem dL_law_518 : decode cL_law 518 = .ok (.iaload, 1) := by decide +kernel
theorem dL_law_519 : decode cL_law 519 = .ok (.invokevirtual 67, 3) := by decide +kernel
theorem dL_law_522 : decode cL_law 522 = .ok (.aload_n 2, 1) := by decide +kernel
theorem dL_law_523 : decode cL_law 523 = .ok (.aload_n 0, 1) := by decide +kernel
theorem dL_law_524 : decode cL_law 524 = .ok (.iload_n 3, 1) := by decide +kernel
theorem dL_law_525 : decode cL_law 525 = .ok (.iconst 1, 1) := by decide +kernel
theorem dL_law_526 : decode cL_law 526 = .ok (.iadd, 1) := by decide +kernel
theorem dL_law_527 : decode cL_law 527 = .ok (.iaload, 1) := by decide +kernel
theorem dL_law_528 : decode cL_law 528 = .ok (.invokevirtual 70, 3) := by decide +kernel
theorem dL_law_531 : decode cL_law 531 = .ok (.if_icmp .eq 389, 3) := by decide +kernel
theorem dL_law_534 : decode cL_law 534 = .ok (.iconst 0, 1) := by decide +kernel
theorem dL_law_535 : decode cL_law 535 = .ok (.ireturn, 1) := by decide +kernel
theorem dL_law_536 : decode cL_law 536 = .ok (.aload_n 1, 1) := by decide +kernel
theorem dL_law_537 : decode cL_law 537 = .ok (.aload_n 0, 1) := by decide +kernel
theorem dL_law_538 : decode cL_law 538 = .ok (.iload_n 3, 1) := by decide +kernel
theorem dL_law_539 : decode cL_law 539 = .ok (.iconst 1, 1) := by decide +kernel
theorem dL_law_540 : decode cL_law 540 = .ok (.iadd, 1) := by decide +kernel
theorem dL_law_541 : decode cL_law 541 = .ok (.iaload, 1) := by decide +kernel
theorem dL_law_542 : decode cL_law 542 = .ok (.invokevirtual 71, 3) := by decide +kernel
theorem dL_law_545 : decode cL_law 545 = .ok (.aload_n 2, 1) := by decide +kernel
theorem dL_law_546 : decode cL_law 546 = .ok (.aload_n 0, 1) := by decide +kernel
theorem dL_law_547 : decode cL_law 547 = .ok (.iload_n 3, 1) := by decide +kernel
theorem dL_law_548 : decode cL_law 548 = .ok (.iconst 1, 1) := by decide +kernel
theorem dL_law_549 : decode cL_law 549 = .ok (.iadd, 1) := by decide +kernel
theorem dL_law_550 : decode cL_law 550 = .ok (.iaload, 1) := by decide +kernel
theorem dL_law_551 : decode cL_law 551 = .ok (.invokevirtual 74, 3) := by decide +kernel
theorem dL_law_554 : decode cL_law 554 = .ok (.if_icmp .eq 366, 3) := by decide +kernel
theorem dL_law_557 : decode cL_law 557 = .ok (.iconst 0, 1) := by decide +kernel
theorem dL_law_558 : decode cL_law 558 = .ok (.ireturn, 1) := by decide +kernel
theorem dL_law_559 : decode cL_law 559 = .ok (.aload_n 1, 1) := by decide +kernel
theorem dL_law_560 : decode cL_law 560 = .ok (.invokevirtual 75, 3) := by decide +kernel
theorem dL_law_563 : decode cL_law 563 = .ok (.aload_n 2, 1) := by decide +kernel
theorem dL_law_564 : decode cL_law 564 = .ok (.invokevirtual 78, 3) := by decide +kernel
theorem dL_law_567 : decode cL_law 567 = .ok (.if_icmp .eq 353, 3) := by decide +kernel
theorem dL_law_570 : decode cL_law 570 = .ok (.iconst 0, 1) := by decide +kernel
theorem dL_law_571 : decode cL_law 571 = .ok (.ireturn, 1) := by decide +kernel
theorem dL_law_572 : decode cL_law 572 = .ok (.aload_n 1, 1) := by decide +kernel
theorem dL_law_573 : decode cL_law 573 = .ok (.invokevirtual 79, 3) := by decide +kernel
theorem dL_law_576 : decode cL_law 576 = .ok (.aload_n 2, 1) := by decide +kernel
theorem dL_law_577 : decode cL_law 577 = .ok (.invokevirtual 82, 3) := by decide +kernel
theorem dL_law_580 : decode cL_law 580 = .ok (.if_icmp .eq 340, 3) := by decide +kernel
theorem dL_law_583 : decode cL_law 583 = .ok (.iconst 0, 1) := by decide +kernel
theorem dL_law_584 : decode cL_law 584 = .ok (.ireturn, 1) := by decide +kernel
theorem dL_law_585 : decode cL_law 585 = .ok (.aload_n 1, 1) := by decide +kernel
theorem dL_law_586 : decode cL_law 586 = .ok (.aload_n 0, 1) := by decide +kernel
theorem dL_law_587 : decode cL_law 587 = .ok (.iload_n 3, 1) := by decide +kernel
theorem dL_law_588 : decode cL_law 588 = .ok (.iconst 1, 1) := by decide +kernel
theorem dL_law_589 : decode cL_law 589 = .ok (.iadd, 1) := by decide +kernel
theorem dL_law_590 : decode cL_law 590 = .ok (.iaload, 1) := by decide +kernel
theorem dL_law_591 : decode cL_law 591 = .ok (.invokevirtual 83, 3) := by decide +kernel
theorem dL_law_594 : decode cL_law 594 = .ok (.aload_n 2, 1) := by decide +kernel
theorem dL_law_595 : decode cL_law 595 = .ok (.aload_n 0, 1) := by decide +kernel
theorem dL_law_596 : decode cL_law 596 = .ok (.iload_n 3, 1) := by decide +kernel
theorem dL_law_597 : decode cL_law 597 = .ok (.iconst 1, 1) := by decide +kernel
theorem dL_law_598 : decode cL_law 598 = .ok (.iadd, 1) := by decide +kernel
theorem dL_law_599 : decode cL_law 599 = .ok (.iaload, 1) := by decide +kernel
theorem dL_law_600 : decode cL_law 600 = .ok (.invokevirtual 86, 3) := by decide +kernel
theorem dL_law_603 : decode cL_law 603 = .ok (.if_icmp .eq 317, 3) := by decide +kernel
theorem dL_law_606 : decode cL_law 606 = .ok (.iconst 0, 1) := by decide +kernel
theorem dL_law_607 : decode cL_law 607 = .ok (.ireturn, 1) := by decide +kernel
theorem dL_law_608 : decode cL_law 608 = .ok (.aload_n 1, 1) := by decide +kernel
theorem dL_law_609 : decode cL_law 609 = .ok (.invokevirtual 87, 3) := by decide +kernel
theorem dL_law_612 : decode cL_law 612 = .ok (.aload_n 2, 1) := by decide +kernel
theorem dL_law_613 : decode cL_law 613 = .ok (.invokevirtual 90, 3) := by decide +kernel
theorem dL_law_616 : decode cL_law 616 = .ok (.if_icmp .eq 304, 3) := by decide +kernel
theorem dL_law_619 : decode cL_law 619 = .ok (.iconst 0, 1) := by decide +kernel
theorem dL_law_620 : decode cL_law 620 = .ok (.ireturn, 1) := by decide +kernel
theorem dL_law_621 : decode cL_law 621 = .ok (.aload_n 1, 1) := by decide +kernel
theorem dL_law_622 : decode cL_law 622 = .ok (.aload_n 0, 1) := by decide +kernel
theorem dL_law_623 : decode cL_law 623 = .ok (.iload_n 3, 1) := by decide +kernel
theorem dL_law_624 : decode cL_law 624 = .ok (.iconst 1, 1) := by decide +kernel
theorem dL_law_625 : decode cL_law 625 = .ok (.iadd, 1) := by decide +kernel
theorem dL_law_626 : decode cL_law 626 = .ok (.iaload, 1) := by decide +kernel
theorem dL_law_627 : decode cL_law 627 = .ok (.aload_n 0, 1) := by decide +kernel
theorem dL_law_628 : decode cL_law 628 = .ok (.iload_n 3, 1) := by decide +kernel
theorem dL_law_629 : decode cL_law 629 = .ok (.iconst 2, 1) := by decide +kernel
theorem dL_law_630 : decode cL_law 630 = .ok (.iadd, 1) := by decide +kernel
theorem dL_law_631 : decode cL_law 631 = .ok (.iaload, 1) := by decide +kernel
theorem dL_law_632 : decode cL_law 632 = .ok (.aload_n 0, 1) := by decide +kernel
theorem dL_law_633 : decode cL_law 633 = .ok (.iload_n 3, 1) := by decide +kernel
theorem dL_law_634 : decode cL_law 634 = .ok (.iconst 3, 1) := by decide +kernel
theorem dL_law_635 : decode cL_law 635 = .ok (.iadd, 1) := by decide +kernel
theorem dL_law_636 : decode cL_law 636 = .ok (.iaload, 1) := by decide +kernel
theorem dL_law_637 : decode cL_law 637 = .ok (.invokevirtual 91, 3) := by decide +kernel
theorem dL_law_640 : decode cL_law 640 = .ok (.aload_n 2, 1) := by decide +kernel
theorem dL_law_641 : decode cL_law 641 = .ok (.aload_n 0, 1) := by decide +kernel
theorem dL_law_642 : decode cL_law 642 = .ok (.iload_n 3, 1) := by decide +kernel
theorem dL_law_643 : decode cL_law 643 = .ok (.iconst 1, 1) := by decide +kernel
theorem dL_law_644 : decode cL_law 644 = .ok (.iadd, 1) := by decide +kernel
theorem dL_law_645 : decode cL_law 645 = .ok (.iaload, 1) := by decide +kernel
theorem dL_law_646 : decode cL_law 646 = .ok (.aload_n 0, 1) := by decide +kernel
theorem dL_law_647 : decode cL_law 647 = .ok (.iload_n 3, 1) := by decide +kernel
theorem dL_law_648 : decode cL_law 648 = .ok (.iconst 2, 1) := by decide +kernel
theorem dL_law_649 : decode cL_law 649 = .ok (.iadd, 1) := by decide +kernel
theorem dL_law_650 : decode cL_law 650 = .ok (.iaload, 1) := by decide +kernel
theorem dL_law_651 : decode cL_law 651 = .ok (.aload_n 0, 1) := by decide +kernel
theorem dL_law_652 : decode cL_law 652 = .ok (.iload_n 3, 1) := by decide +kernel
theorem dL_law_653 : decode cL_law 653 = .ok (.iconst 3, 1) := by decide +kernel
theorem dL_law_654 : decode cL_law 654 = .ok (.iadd, 1) := by decide +kernel
theorem dL_law_655 : decode cL_law 655 = .ok (.iaload, 1) := by decide +kernel
theorem dL_law_656 : decode cL_law 656 = .ok (.invokevirtual 95, 3) := by decide +kernel
theorem dL_law_659 : decode cL_law 659 = .ok (.lcmp, 1) := by decide +kernel
theorem dL_law_660 : decode cL_law 660 = .ok (.ifCond .eq 260, 3) := by decide +kernel
theorem dL_law_663 : decode cL_law 663 = .ok (.iconst 0, 1) := by decide +kernel
theorem dL_law_664 : decode cL_law 664 = .ok (.ireturn, 1) := by decide +kernel
theorem dL_law_665 : decode cL_law 665 = .ok (.aload_n 1, 1) := by decide +kernel
theorem dL_law_666 : decode cL_law 666 = .ok (.aload_n 0, 1) := by decide +kernel
theorem dL_law_667 : decode cL_law 667 = .ok (.iload_n 3, 1) := by decide +kernel
theorem dL_law_668 : decode cL_law 668 = .ok (.iconst 1, 1) := by decide +kernel
theorem dL_law_669 : decode cL_law 669 = .ok (.iadd, 1) := by decide +kernel
theorem dL_law_670 : decode cL_law 670 = .ok (.iaload, 1) := by decide +kernel
theorem dL_law_671 : decode cL_law 671 = .ok (.aload_n 0, 1) := by decide +kernel
theorem dL_law_672 : decode cL_law 672 = .ok (.iload_n 3, 1) := by decide +kernel
theorem dL_law_673 : decode cL_law 673 = .ok (.iconst 2, 1) := by decide +kernel
theorem dL_law_674 : decode cL_law 674 = .ok (.iadd, 1) := by decide +kernel
theorem dL_law_675 : decode cL_law 675 = .ok (.iaload, 1) := by decide +kernel
theorem dL_law_676 : decode cL_law 676 = .ok (.aload_n 0, 1) := by decide +kernel
theorem dL_law_677 : decode cL_law 677 = .ok (.iload_n 3, 1) := by decide +kernel
theorem dL_law_678 : decode cL_law 678 = .ok (.iconst 3, 1) := by decide +kernel
theorem dL_law_679 : decode cL_law 679 = .ok (.iadd, 1) := by decide +kernel
theorem dL_law_680 : decode cL_law 680 = .ok (.iaload, 1) := by decide +kernel
theorem dL_law_681 : decode cL_law 681 = .ok (.aload_n 0, 1) := by decide +kernel
theorem dL_law_682 : decode cL_law 682 = .ok (.iload_n 3, 1) := by decide +kernel
theorem dL_law_683 : decode cL_law 683 = .ok (.iconst 4, 1) := by decide +kernel
theorem dL_law_684 : decode cL_law 684 = .ok (.iadd, 1) := by decide +kernel
theorem dL_law_685 : decode cL_law 685 = .ok (.iaload, 1) := by decide +kernel
theorem dL_law_686 : decode cL_law 686 = .ok (.invokevirtual 96, 3) := by decide +kernel
theorem dL_law_689 : decode cL_law 689 = .ok (.aload_n 2, 1) := by decide +kernel
theorem dL_law_690 : decode cL_law 690 = .ok (.aload_n 0, 1) := by decide +kernel
theorem dL_law_691 : decode cL_law 691 = .ok (.iload_n 3, 1) := by decide +kernel
theorem dL_law_692 : decode cL_law 692 = .ok (.iconst 1, 1) := by decide +kernel
theorem dL_law_693 : decode cL_law 693 = .ok (.iadd, 1) := by decide +kernel
theorem dL_law_694 : decode cL_law 694 = .ok (.iaload, 1) := by decide +kernel
theorem dL_law_695 : decode cL_law 695 = .ok (.aload_n 0, 1) := by decide +kernel
theorem dL_law_696 : decode cL_law 696 = .ok (.iload_n 3, 1) := by decide +kernel
theorem dL_law_697 : decode cL_law 697 = .ok (.iconst 2, 1) := by decide +kernel
theorem dL_law_698 : decode cL_law 698 = .ok (.iadd, 1) := by decide +kernel
theorem dL_law_699 : decode cL_law 699 = .ok (.iaload, 1) := by decide +kernel
theorem dL_law_700 : decode cL_law 700 = .ok (.aload_n 0, 1) := by decide +kernel
theorem dL_law_701 : decode cL_law 701 = .ok (.iload_n 3, 1) := by decide +kernel
theorem dL_law_702 : decode cL_law 702 = .ok (.iconst 3, 1) := by decide +kernel
theorem dL_law_703 : decode cL_law 703 = .ok (.iadd, 1) := by decide +kernel
theorem dL_law_704 : decode cL_law 704 = .ok (.iaload, 1) := by decide +kernel
theorem dL_law_705 : decode cL_law 705 = .ok (.aload_n 0, 1) := by decide +kernel
theorem dL_law_706 : decode cL_law 706 = .ok (.iload_n 3, 1) := by decide +kernel
theorem dL_law_707 : decode cL_law 707 = .ok (.iconst 4, 1) := by decide +kernel
theorem dL_law_708 : decode cL_law 708 = .ok (.iadd, 1) := by decide +kernel
theorem dL_law_709 : decode cL_law 709 = .ok (.iaload, 1) := by decide +kernel
theorem dL_law_710 : decode cL_law 710 = .ok (.invokevirtual 100, 3) := by decide +kernel
theorem dL_law_713 : decode cL_law 713 = .ok (.lcmp, 1) := by decide +kernel
theorem dL_law_714 : decode cL_law 714 = .ok (.ifCond .eq 206, 3) := by decide +kernel
theorem dL_law_717 : decode cL_law 717 = .ok (.iconst 0, 1) := by decide +kernel
theorem dL_law_718 : decode cL_law 718 = .ok (.ireturn, 1) := by decide +kernel
theorem dL_law_719 : decode cL_law 719 = .ok (.aload_n 1, 1) := by decide +kernel
theorem dL_law_720 : decode cL_law 720 = .ok (.aload_n 0, 1) := by decide +kernel
theorem dL_law_721 : decode cL_law 721 = .ok (.iload_n 3, 1) := by decide +kernel
theorem dL_law_722 : decode cL_law 722 = .ok (.iconst 1, 1) := by decide +kernel
theorem dL_law_723 : decode cL_law 723 = .ok (.iadd, 1) := by decide +kernel
theorem dL_law_724 : decode cL_law 724 = .ok (.iaload, 1) := by decide +kernel
theorem dL_law_725 : decode cL_law 725 = .ok (.invokevirtual 101, 3) := by decide +kernel
theorem dL_law_728 : decode cL_law 728 = .ok (.aload_n 2, 1) := by decide +kernel
theorem dL_law_729 : decode cL_law 729 = .ok (.aload_n 0, 1) := by decide +kernel
theorem dL_law_730 : decode cL_law 730 = .ok (.iload_n 3, 1) := by decide +kernel
theorem dL_law_731 : decode cL_law 731 = .ok (.iconst 1, 1) := by decide +kernel
theorem dL_law_732 : decode cL_law 732 = .ok (.iadd, 1) := by decide +kernel
theorem dL_law_733 : decode cL_law 733 = .ok (.iaload, 1) := by decide +kernel
theorem dL_law_734 : decode cL_law 734 = .ok (.invokevirtual 104, 3) := by decide +kernel
theorem dL_law_737 : decode cL_law 737 = .ok (.if_icmp .eq 183, 3) := by decide +kernel
theorem dL_law_740 : decode cL_law 740 = .ok (.iconst 0, 1) := by decide +kernel
theorem dL_law_741 : decode cL_law 741 = .ok (.ireturn, 1) := by decide +kernel
theorem dL_law_742 : decode cL_law 742 = .ok (.aload_n 1, 1) := by decide +kernel
theorem dL_law_743 : decode cL_law 743 = .ok (.invokevirtual 105, 3) := by decide +kernel
theorem dL_law_746 : decode cL_law 746 = .ok (.aload_n 2, 1) := by decide +kernel
theorem dL_law_747 : decode cL_law 747 = .ok (.invokevirtual 108, 3) := by decide +kernel
theorem dL_law_750 : decode cL_law 750 = .ok (.if_icmp .eq 170, 3) := by decide +kernel
theorem dL_law_753 : decode cL_law 753 = .ok (.iconst 0, 1) := by decide +kernel
theorem dL_law_754 : decode cL_law 754 = .ok (.ireturn, 1) := by decide +kernel
theorem dL_law_755 : decode cL_law 755 = .ok (.aload_n 1, 1) := by decide +kernel
theorem dL_law_756 : decode cL_law 756 = .ok (.aload_n 0, 1) := by decide +kernel
theorem dL_law_757 : decode cL_law 757 = .ok (.iload_n 3, 1) := by decide +kernel
theorem dL_law_758 : decode cL_law 758 = .ok (.iconst 1, 1) := by decide +kernel
theorem dL_law_759 : decode cL_law 759 = .ok (.iadd, 1) := by decide +kernel
theorem dL_law_760 : decode cL_law 760 = .ok (.iaload, 1) := by decide +kernel
theorem dL_law_761 : decode cL_law 761 = .ok (.aload_n 0, 1) := by decide +kernel
theorem dL_law_762 : decode cL_law 762 = .ok (.iload_n 3, 1) := by decide +kernel
theorem dL_law_763 : decode cL_law 763 = .ok (.iconst 2, 1) := by decide +kernel
theorem dL_law_764 : decode cL_law 764 = .ok (.iadd, 1) := by decide +kernel
theorem dL_law_765 : decode cL_law 765 = .ok (.iaload, 1) := by decide +kernel
theorem dL_law_766 : decode cL_law 766 = .ok (.invokevirtual 109, 3) := by decide +kernel
theorem dL_law_769 : decode cL_law 769 = .ok (.aload_n 2, 1) := by decide +kernel
theorem dL_law_770 : decode cL_law 770 = .ok (.aload_n 0, 1) := by decide +kernel
theorem dL_law_771 : decode cL_law 771 = .ok (.iload_n 3, 1) := by decide +kernel
theorem dL_law_772 : decode cL_law 772 = .ok (.iconst 1, 1) := by decide +kernel
theorem dL_law_773 : decode cL_law 773 = .ok (.iadd, 1) := by decide +kernel
theorem dL_law_774 : decode cL_law 774 = .ok (.iaload, 1) := by decide +kernel
theorem dL_law_775 : decode cL_law 775 = .ok (.aload_n 0, 1) := by decide +kernel
theorem dL_law_776 : decode cL_law 776 = .ok (.iload_n 3, 1) := by decide +kernel
theorem dL_law_777 : decode cL_law 777 = .ok (.iconst 2, 1) := by decide +kernel
theorem dL_law_778 : decode cL_law 778 = .ok (.iadd, 1) := by decide +kernel
theorem dL_law_779 : decode cL_law 779 = .ok (.iaload, 1) := by decide +kernel
theorem dL_law_780 : decode cL_law 780 = .ok (.invokevirtual 112, 3) := by decide +kernel
theorem dL_law_783 : decode cL_law 783 = .ok (.if_icmp .eq 137, 3) := by decide +kernel
theorem dL_law_786 : decode cL_law 786 = .ok (.iconst 0, 1) := by decide +kernel
theorem dL_law_787 : decode cL_law 787 = .ok (.ireturn, 1) := by decide +kernel
theorem dL_law_788 : decode cL_law 788 = .ok (.aload_n 1, 1) := by decide +kernel
theorem dL_law_789 : decode cL_law 789 = .ok (.aload_n 0, 1) := by decide +kernel
theorem dL_law_790 : decode cL_law 790 = .ok (.iload_n 3, 1) := by decide +kernel
theorem dL_law_791 : decode cL_law 791 = .ok (.iconst 1, 1) := by decide +kernel
theorem dL_law_792 : decode cL_law 792 = .ok (.iadd, 1) := by decide +kernel
theorem dL_law_793 : decode cL_law 793 = .ok (.iaload, 1) := by decide +kernel
theorem dL_law_794 : decode cL_law 794 = .ok (.invokevirtual 113, 3) := by decide +kernel
theorem dL_law_797 : decode cL_law 797 = .ok (.aload_n 2, 1) := by decide +kernel
theorem dL_law_798 : decode cL_law 798 = .ok (.aload_n 0, 1) := by decide +kernel
theorem dL_law_799 : decode cL_law 799 = .ok (.iload_n 3, 1) := by decide +kernel
theorem dL_law_800 : decode cL_law 800 = .ok (.iconst 1, 1) := by decide +kernel
theorem dL_law_801 : decode cL_law 801 = .ok (.iadd, 1) := by decide +kernel
theorem dL_law_802 : decode cL_law 802 = .ok (.iaload, 1) := by decide +kernel
theorem dL_law_803 : decode cL_law 803 = .ok (.invokevirtual 116, 3) := by decide +kernel
theorem dL_law_806 : decode cL_law 806 = .ok (.if_icmp .eq 114, 3) := by decide +kernel
theorem dL_law_809 : decode cL_law 809 = .ok (.iconst 0, 1) := by decide +kernel
theorem dL_law_810 : decode cL_law 810 = .ok (.ireturn, 1) := by decide +kernel
theorem dL_law_811 : decode cL_law 811 = .ok (.aload_n 1, 1) := by decide +kernel
theorem dL_law_812 : decode cL_law 812 = .ok (.aload_n 0, 1) := by decide +kernel
theorem dL_law_813 : decode cL_law 813 = .ok (.iload_n 3, 1) := by decide +kernel
theorem dL_law_814 : decode cL_law 814 = .ok (.iconst 1, 1) := by decide +kernel
theorem dL_law_815 : decode cL_law 815 = .ok (.iadd, 1) := by decide +kernel
theorem dL_law_816 : decode cL_law 816 = .ok (.iaload, 1) := by decide +kernel
theorem dL_law_817 : decode cL_law 817 = .ok (.aload_n 0, 1) := by decide +kernel
theorem dL_law_818 : decode cL_law 818 = .ok (.iload_n 3, 1) := by decide +kernel
theorem dL_law_819 : decode cL_law 819 = .ok (.iconst 2, 1) := by decide +kernel
theorem dL_law_820 : decode cL_law 820 = .ok (.iadd, 1) := by decide +kernel
theorem dL_law_821 : decode cL_law 821 = .ok (.iaload, 1) := by decide +kernel
theorem dL_law_822 : decode cL_law 822 = .ok (.aload_n 0, 1) := by decide +kernel
theorem dL_law_823 : decode cL_law 823 = .ok (.iload_n 3, 1) := by decide +kernel
theorem dL_law_824 : decode cL_law 824 = .ok (.iconst 3, 1) := by decide +kernel
theorem dL_law_825 : decode cL_law 825 = .ok (.iadd, 1) := by decide +kernel
theorem dL_law_826 : decode cL_law 826 = .ok (.iaload, 1) := by decide +kernel
theorem dL_law_827 : decode cL_law 827 = .ok (.aload_n 0, 1) := by decide +kernel
theorem dL_law_828 : decode cL_law 828 = .ok (.iload_n 3, 1) := by decide +kernel
theorem dL_law_829 : decode cL_law 829 = .ok (.iconst 4, 1) := by decide +kernel
theorem dL_law_830 : decode cL_law 830 = .ok (.iadd, 1) := by decide +kernel
theorem dL_law_831 : decode cL_law 831 = .ok (.iaload, 1) := by decide +kernel
theorem dL_law_832 : decode cL_law 832 = .ok (.aload_n 0, 1) := by decide +kernel
theorem dL_law_833 : decode cL_law 833 = .ok (.iload_n 3, 1) := by decide +kernel
theorem dL_law_834 : decode cL_law 834 = .ok (.iconst 5, 1) := by decide +kernel
theorem dL_law_835 : decode cL_law 835 = .ok (.iadd, 1) := by decide +kernel
theorem dL_law_836 : decode cL_law 836 = .ok (.iaload, 1) := by decide +kernel
theorem dL_law_837 : decode cL_law 837 = .ok (.invokevirtual 117, 3) := by decide +kernel
theorem dL_law_840 : decode cL_law 840 = .ok (.aload_n 2, 1) := by decide +kernel
theorem dL_law_841 : decode cL_law 841 = .ok (.aload_n 0, 1) := by decide +kernel
theorem dL_law_842 : decode cL_law 842 = .ok (.iload_n 3, 1) := by decide +kernel
theorem dL_law_843 : decode cL_law 843 = .ok (.iconst 1, 1) := by decide +kernel
theorem dL_law_844 : decode cL_law 844 = .ok (.iadd, 1) := by decide +kernel
theorem dL_law_845 : decode cL_law 845 = .ok (.iaload, 1) := by decide +kernel
theorem dL_law_846 : decode cL_law 846 = .ok (.aload_n 0, 1) := by decide +kernel
theorem dL_law_847 : decode cL_law 847 = .ok (.iload_n 3, 1) := by decide +kernel
theorem dL_law_848 : decode cL_law 848 = .ok (.iconst 2, 1) := by decide +kernel
theorem dL_law_849 : decode cL_law 849 = .ok (.iadd, 1) := by decide +kernel
theorem dL_law_850 : decode cL_law 850 = .ok (.iaload, 1) := by decide +kernel
theorem dL_law_851 : decode cL_law 851 = .ok (.aload_n 0, 1) := by decide +kernel
theorem dL_law_852 : decode cL_law 852 = .ok (.iload_n 3, 1) := by decide +kernel
theorem dL_law_853 : decode cL_law 853 = .ok (.iconst 3, 1) := by decide +kernel
theorem dL_law_854 : decode cL_law 854 = .ok (.iadd, 1) := by decide +kernel
theorem dL_law_855 : decode cL_law 855 = .ok (.iaload, 1) := by decide +kernel
theorem dL_law_856 : decode cL_law 856 = .ok (.aload_n 0, 1) := by decide +kernel
theorem dL_law_857 : decode cL_law 857 = .ok (.iload_n 3, 1) := by decide +kernel
theorem dL_law_858 : decode cL_law 858 = .ok (.iconst 4, 1) := by decide +kernel
theorem dL_law_859 : decode cL_law 859 = .ok (.iadd, 1) := by decide +kernel
theorem dL_law_860 : decode cL_law 860 = .ok (.iaload, 1) := by decide +kernel
theorem dL_law_861 : decode cL_law 861 = .ok (.aload_n 0, 1) := by decide +kernel
theorem dL_law_862 : decode cL_law 862 = .ok (.iload_n 3, 1) := by decide +kernel
theorem dL_law_863 : decode cL_law 863 = .ok (.iconst 5, 1) := by decide +kernel
theorem dL_law_864 : decode cL_law 864 = .ok (.iadd, 1) := by decide +kernel
theorem dL_law_865 : decode cL_law 865 = .ok (.iaload, 1) := by decide +kernel
theorem dL_law_866 : decode cL_law 866 = .ok (.invokevirtual 121, 3) := by decide +kernel
theorem dL_law_869 : decode cL_law 869 = .ok (.if_icmp .eq 51, 3) := by decide +kernel
theorem dL_law_872 : decode cL_law 872 = .ok (.iconst 0, 1) := by decide +kernel
theorem dL_law_873 : decode cL_law 873 = .ok (.ireturn, 1) := by decide +kernel
theorem dL_law_874 : decode cL_law 874 = .ok (.aload_n 1, 1) := by decide +kernel
theorem dL_law_875 : decode cL_law 875 = .ok (.aload_n 0, 1) := by decide +kernel
theorem dL_law_876 : decode cL_law 876 = .ok (.iload_n 3, 1) := by decide +kernel
theorem dL_law_877 : decode cL_law 877 = .ok (.iconst 1, 1) := by decide +kernel
theorem dL_law_878 : decode cL_law 878 = .ok (.iadd, 1) := by decide +kernel
theorem dL_law_879 : decode cL_law 879 = .ok (.iaload, 1) := by decide +kernel
theorem dL_law_880 : decode cL_law 880 = .ok (.invokevirtual 122, 3) := by decide +kernel
theorem dL_law_883 : decode cL_law 883 = .ok (.aload_n 2, 1) := by decide +kernel
theorem dL_law_884 : decode cL_law 884 = .ok (.aload_n 0, 1) := by decide +kernel
theorem dL_law_885 : decode cL_law 885 = .ok (.iload_n 3, 1) := by decide +kernel
theorem dL_law_886 : decode cL_law 886 = .ok (.iconst 1, 1) := by decide +kernel
theorem dL_law_887 : decode cL_law 887 = .ok (.iadd, 1) := by decide +kernel
theorem dL_law_888 : decode cL_law 888 = .ok (.iaload, 1) := by decide +kernel
theorem dL_law_889 : decode cL_law 889 = .ok (.invokevirtual 125, 3) := by decide +kernel
theorem dL_law_892 : decode cL_law 892 = .ok (.if_icmp .eq 28, 3) := by decide +kernel
theorem dL_law_895 : decode cL_law 895 = .ok (.iconst 0, 1) := by decide +kernel
theorem dL_law_896 : decode cL_law 896 = .ok (.ireturn, 1) := by decide +kernel
theorem dL_law_897 : decode cL_law 897 = .ok (.aload_n 1, 1) := by decide +kernel
theorem dL_law_898 : decode cL_law 898 = .ok (.aload_n 0, 1) := by decide +kernel
theorem dL_law_899 : decode cL_law 899 = .ok (.iload_n 3, 1) := by decide +kernel
theorem dL_law_900 : decode cL_law 900 = .ok (.iconst 1, 1) := by decide +kernel
theorem dL_law_901 : decode cL_law 901 = .ok (.iadd, 1) := by decide +kernel
theorem dL_law_902 : decode cL_law 902 = .ok (.iaload, 1) := by decide +kernel
theorem dL_law_903 : decode cL_law 903 = .ok (.invokevirtual 126, 3) := by decide +kernel
theorem dL_law_906 : decode cL_law 906 = .ok (.aload_n 2, 1) := by decide +kernel
theorem dL_law_907 : decode cL_law 907 = .ok (.aload_n 0, 1) := by decide +kernel
theorem dL_law_908 : decode cL_law 908 = .ok (.iload_n 3, 1) := by decide +kernel
theorem dL_law_909 : decode cL_law 909 = .ok (.iconst 1, 1) := by decide +kernel
theorem dL_law_910 : decode cL_law 910 = .ok (.iadd, 1) := by decide +kernel
theorem dL_law_911 : decode cL_law 911 = .ok (.iaload, 1) := by decide +kernel
theorem dL_law_912 : decode cL_law 912 = .ok (.invokevirtual 129, 3) := by decide +kernel
end
section
theorem dL_law_915 : decode cL_law 915 = .ok (.if_icmp .eq 5, 3) := by decide +kernel
theorem dL_law_918 : decode cL_law 918 = .ok (.iconst 0, 1) := by decide +kernel
theorem dL_law_919 : decode cL_law 919 = .ok (.ireturn, 1) := by decide +kernel
theorem dL_law_920 : decode cL_law 920 = .ok (.iinc 3 6, 3) := by decide +kernel
theorem dL_law_923 : decode cL_law 923 = .ok (.goto (-905), 3) := by decide +kernel
theorem dL_law_926 : decode cL_law 926 = .ok (.iconst 1, 1) := by decide +kernel
theorem dL_law_927 : decode cL_law 927 = .ok (.ireturn, 1) := by decide +kernel
end
section
/-! THE WORLD: 63 cells by fixed numbers, all references among them fixed; what changes is ints (first function) and longs (second), by cell and place. References 1000, 1001: the two static rows; 1002: the script. -/
abbrev Mem : Type := (Nat → Nat → Int32) × (Nat → Nat → Int64)
abbrev ShE : Type := (Nat × Nat × Nat) ⊕ (Nat × List Nat)
/-- a row: (kind 0 int, 1 long, 2 char, 3 rows of ints; its length; its first row's number); an object: (its class's number; its fields: 0 int, 1 long, 10 + k a reference to k) -/
def SHl : List ShE := [
  .inr (6, [11, 20, 22, 28, 32, 47, 49]),
  .inr (0, [12, 13, 14, 15, 16, 17, 18, 19, 0]),
  .inl (0, 12, 0), .inl (0, 12, 0), .inl (0, 12, 0), .inl (0, 12, 0), .inl (0, 12, 0), .inl (0, 12, 0), .inl (0, 12, 0), .inl (0, 3, 0),
  .inr (3, [21, 0, 0, 0, 0, 0, 0]),
  .inl (2, 80, 0),
  .inr (2, [23, 24, 25, 26, 27, 0, 0, 0]),
  .inl (1, 150, 0), .inl (1, 150, 0), .inl (0, 150, 0), .inl (0, 150, 0), .inl (0, 12, 0),
  .inr (5, [29, 30, 31]),
  .inl (1, 8, 0), .inl (1, 8, 0), .inl (0, 8, 0),
  .inr (1, [33, 40]),
  .inl (3, 6, 24), .inl (0, 8, 0), .inl (0, 8, 0), .inl (0, 8, 0), .inl (0, 8, 0), .inl (0, 8, 0), .inl (0, 8, 0),
  .inl (3, 6, 31), .inl (0, 8, 0), .inl (0, 8, 0), .inl (0, 8, 0), .inl (0, 8, 0), .inl (0, 8, 0), .inl (0, 8, 0),
  .inr (4, [48, 0, 0]),
  .inl (0, 12, 0),
  .inl (0, 8, 0),
  .inr (7, [0, 51, 52, 53, 54, 55, 56, 57, 58, 0, 59, 60, 0, 0, 61, 62, 63, 64, 65, 66, 67, 68, 1, 1, 0, 0, 69, 70, 71, 72]),
  .inl (0, 12, 0), .inl (0, 12, 0), .inl (0, 12, 0), .inl (0, 12, 0), .inl (0, 12, 0), .inl (0, 12, 0), .inl (0, 12, 0), .inl (0, 3, 0),
  .inl (0, 80, 0), .inl (0, 8, 0),
  .inl (0, 400, 0), .inl (0, 400, 0), .inl (0, 3200, 0), .inl (1, 400, 0), .inl (1, 400, 0),
  .inl (0, 8, 0), .inl (1, 9, 0), .inl (1, 9, 0),
  .inl (0, 5, 0), .inl (0, 6, 0), .inl (0, 6, 0), .inl (0, 12, 0)]
theorem SHl_len : SHl.length = 63 := rfl
theorem SHl_lt {k : Nat} {x : ShE} (h : SHl[k]? = some x) : k < 63 := by
  have := (List.getElem?_eq_some_iff.mp h).1
  rw [SHl_len] at this
  exact this
/-- a field's value by its code -/
def fvl (ad : Nat → Nat) (μ : Mem) (k j c : Nat) : Value := if c = 0 then .int (μ.1 k j) else if c = 1 then .long (μ.2 k j) else .ref (ad (c - 10))
def fv (ad : Nat → Nat) (μ : Mem) (k : Nat) : Nat → List Nat → List Value
  | _, [] => []
  | j, c :: t => fvl ad μ k j c :: fv ad μ k (j + 1) t
theorem fv_get (ad : Nat → Nat) (μ : Mem) (k : Nat) : ∀ (fl : List Nat) (j0 j : Nat), (fv ad μ k j0 fl)[j]? = (fl[j]?).map (fun c => fvl ad μ k (j0 + j) c)
  | [], j0, j => by simp [fv]
  | c :: t, j0, 0 => by simp [fv]
  | c :: t, j0, j + 1 => by
    rw [fv, List.getElem?_cons_succ, List.getElem?_cons_succ, fv_get ad μ k t (j0 + 1) j, show j0 + 1 + j = j0 + (j + 1) by omega]
theorem fv_len (ad : Nat → Nat) (μ : Mem) (k : Nat) : ∀ (fl : List Nat) (j0 : Nat), (fv ad μ k j0 fl).length = fl.length
  | [], j0 => rfl
  | c :: t, j0 => by rw [fv, List.length_cons, List.length_cons, fv_len ad μ k t (j0 + 1)]
/-- a cell as the kit has it -/
def ceA (ad : Nat → Nat) (μ : Mem) (k t n b : Nat) : (Nat → Int32) ⊕ (Nat → Int64) ⊕ (Nat → UInt32) ⊕ (Nat → UInt64) ⊕ (Nat → Option Nat) :=
  if t = 1 then .inr (.inl (μ.2 k)) else if t = 3 then .inr (.inr (.inr (.inr (fun j => if j < n then some (ad (b + j)) else none)))) else .inl (μ.1 k)
def ce (ad : Nat → Nat) (ca : Nat → ClassId) (μ : Mem) (k : Nat) : va_E := match SHl[k]? with
  | some (.inl (t, n, b)) => .inl (ca k, n, ceA ad μ k t n b)
  | some (.inr (ci, fl)) => .inr (ci, fv ad μ k 0 fl)
  | none => .inr (0, [])
def wsO (ad : Nat → Nat) (ca : Nat → ClassId) (μ : Mem) : va_W := (List.range 63).map (fun k => (ad k, ce ad ca μ k))
theorem wsO_get {ad : Nat → Nat} {ca : Nat → ClassId} {μ : Mem} {k : Nat} (hk : k < 63) : (wsO ad ca μ)[k]? = some (ad k, ce ad ca μ k) := by
  simp [wsO, hk]
theorem wsO_some {ad : Nat → Nat} {ca : Nat → ClassId} {μ : Mem} {k : Nat} {q : Nat × va_E} (h : (wsO ad ca μ)[k]? = some q) : k < 63 ∧ q = (ad k, ce ad ca μ k) := by
  have hl : k < 63 := by
    have := (List.getElem?_eq_some_iff.mp h).1
    simpa [wsO] using this
  rw [wsO_get hl] at h
  exact ⟨hl, (Option.some.inj h).symm⟩
theorem wsO_set {ad : Nat → Nat} {ca : Nat → ClassId} {μ μ' : Mem} {k : Nat} (h : ∀ j, j ≠ k → ce ad ca μ' j = ce ad ca μ j) : (wsO ad ca μ).set k (ad k, ce ad ca μ' k) = wsO ad ca μ' := by
  apply List.ext_getElem?
  intro i
  by_cases hi : i < 63
  · rw [List.getElem?_set, wsO_get hi, wsO_get hi]
    by_cases e : k = i
    · subst e
      simp [wsO, hi]
    · rw [if_neg e, h i (fun q => e q.symm)]
  · rw [List.getElem?_eq_none (by simp [wsO]; omega), List.getElem?_eq_none (by simp [wsO]; omega)]
theorem ce_row {ad : Nat → Nat} {ca : Nat → ClassId} {μ : Mem} {k t n b : Nat} (h : SHl[k]? = some (.inl (t, n, b))) : ce ad ca μ k = .inl (ca k, n, ceA ad μ k t n b) := by
  unfold ce
  rw [h]
theorem ce_obj {ad : Nat → Nat} {ca : Nat → ClassId} {μ : Mem} {k ci : Nat} {fl : List Nat} (h : SHl[k]? = some (.inr (ci, fl))) : ce ad ca μ k = .inr (ci, fv ad μ k 0 fl) := by
  unfold ce
  rw [h]
/-- one int, one long anew -/
def setI (μ : Mem) (k j : Nat) (v : Int32) : Mem := (fun a => if a = k then upd (μ.1 k) j v else μ.1 a, μ.2)
def setL (μ : Mem) (k j : Nat) (v : Int64) : Mem := (μ.1, fun a => if a = k then vp_updL (μ.2 k) j v else μ.2 a)
theorem fv_cong {ad : Nat → Nat} {μ μ' : Mem} {k : Nat} (h1 : μ'.1 k = μ.1 k) (h2 : μ'.2 k = μ.2 k) : ∀ (fl : List Nat) (j : Nat), fv ad μ' k j fl = fv ad μ k j fl
  | [], j => rfl
  | c :: t, j => by
    rw [fv, fv, fv_cong h1 h2 t (j + 1)]
    unfold fvl
    rw [h1, h2]
theorem ce_cong {ad : Nat → Nat} {ca : Nat → ClassId} {μ μ' : Mem} {k : Nat} (h1 : μ'.1 k = μ.1 k) (h2 : μ'.2 k = μ.2 k) : ce ad ca μ' k = ce ad ca μ k := by
  unfold ce
  split
  · unfold ceA
    rw [h1, h2]
  · rw [fv_cong h1 h2]
  · rfl
theorem ce_setI {ad : Nat → Nat} {ca : Nat → ClassId} {μ : Mem} {k i : Nat} {v : Int32} : ∀ j, j ≠ k → ce ad ca (setI μ k i v) j = ce ad ca μ j := fun j hj => ce_cong (by simp [setI, hj]) rfl
theorem ce_setL {ad : Nat → Nat} {ca : Nat → ClassId} {μ : Mem} {k i : Nat} {v : Int64} : ∀ j, j ≠ k → ce ad ca (setL μ k i v) j = ce ad ca μ j := fun j hj => ce_cong rfl (by simp [setL, hj])
theorem fv_set_gen {ad : Nat → Nat} {μ μ' : Mem} {k : Nat} : ∀ (fl : List Nat) (j0 j : Nat) (v : Value), (∀ i c, fl[i]? = some c → fvl ad μ' k (j0 + i) c = if i = j then v else fvl ad μ k (j0 + i) c) → (fv ad μ k j0 fl).set j v = fv ad μ' k j0 fl
  | [], j0, j, v, h => by simp [fv]
  | c :: t, j0, 0, v, h => by
    rw [fv, fv, List.set_cons_zero]
    have h0 := h 0 c rfl
    rw [if_pos rfl, Nat.add_zero] at h0
    rw [h0]
    congr 1
    have := fv_set_gen (μ := μ) (μ' := μ') (k := k) (ad := ad) t (j0 + 1) t.length v (fun i c hc => by
      have := h (i + 1) c (by rw [List.getElem?_cons_succ]; exact hc)
      rw [if_neg (by omega), show j0 + (i + 1) = j0 + 1 + i by omega] at this
      rw [this, if_neg (by have := (List.getElem?_eq_some_iff.mp hc).1; omega)])
    rw [← this, List.set_eq_of_length_le (by rw [fv_len]; exact Nat.le_refl _)]
  | c :: t, j0, j + 1, v, h => by
    rw [fv, fv, List.set_cons_succ]
    have h0 := h 0 c rfl
    rw [if_neg (by omega), Nat.add_zero] at h0
    rw [h0]
    congr 1
    exact fv_set_gen t (j0 + 1) j v (fun i c hc => by
      have := h (i + 1) c (by rw [List.getElem?_cons_succ]; exact hc)
      rw [show j0 + (i + 1) = j0 + 1 + i by omega] at this
      rw [this]
      by_cases e : i = j
      · rw [if_pos (by omega), if_pos e]
      · rw [if_neg (by omega), if_neg e])
theorem fv_setI {ad : Nat → Nat} {μ : Mem} {k j : Nat} {v : Int32} {fl : List Nat} (hc : fl[j]? = some 0) : (fv ad μ k 0 fl).set j (.int v) = fv ad (setI μ k j v) k 0 fl := by
  refine fv_set_gen fl 0 j _ (fun i c hi => ?_)
  rw [Nat.zero_add]
  by_cases e : i = j
  · subst e
    rw [hc] at hi
    cases hi
    simp [fvl, setI, upd]
  · rw [if_neg e]
    unfold fvl setI upd
    simp [e]
theorem fv_setL {ad : Nat → Nat} {μ : Mem} {k j : Nat} {v : Int64} {fl : List Nat} (hc : fl[j]? = some 1) : (fv ad μ k 0 fl).set j (.long v) = fv ad (setL μ k j v) k 0 fl := by
  refine fv_set_gen fl 0 j _ (fun i c hi => ?_)
  rw [Nat.zero_add]
  by_cases e : i = j
  · subst e
    rw [hc] at hi
    cases hi
    simp [fvl, setL, vp_updL]
  · rw [if_neg e]
    unfold fvl setL vp_updL
    simp [e]
end
section
/-! THE ENGINE: a judgement WP over the fixed world, a rule an instruction -/
def tyF (t : Nat) : FieldType := if t = 0 then .int else if t = 1 then .long else if t = 2 then .char else .array .int
def lwG : List Cond := lw_tbl.filter goodWord
def lwN : List (String × Nat × MethodName × String) := [(RX0, 45, yX6_isWithin, "FairBoards"), (RX0, 52, yX6_rateUpper, "FairBoards"), (RX2, 88, yX6_rateUpper, "FairBoards"), (RX2, 95, yX6_isAbove, "FairBoards"), (RX5, 48, yX6_isAbove, "FairBoards"), (RX5, 52, yX6_greatestDivisor, "FairBoards"), (RX5, 56, yX6_inLowestTerms, "FairBoards")]
/-- the tables' part of the world -/
def Wk (D : va_G) (ca : Nat → ClassId) (U : State) : Prop :=
  (∀ (c : Nat) (q : vw_C), vwCl[c]? = some q → u_Kn U q.1 q.2.1 q.2.2 (D.1 c) (D.2 c)) ∧
  (∀ (k t n b : Nat), SHl[k]? = some (.inl (t, n, b)) → ArrOfT U (ca k) (tyF t) ∧ va_RA U (ca k) (tyF t)) ∧
  ∀ q ∈ lwN, va_Nw (.methodLinkNest q.1 q.2.1 q.2.2.1 q.2.2.2) U
def cst0 (j : Nat) : Int32 := if j = 2 then 1 else 0
def cst1 (j : Nat) : Int32 := if j = 1 then 99 else 98
/-- the static rows -/
def Wst (ad : Nat → Nat) (A : Nat → Prop) (U : State) (H : Heap) : Prop :=
  (va_Z "FairBoards" "LEAST_SETTING" "[I" (.ref (ad 1000)) A U H ∧ va_T .int (ad 1000) 3 (fun j => .int (cst0 j)) A U H) ∧
  (va_Z "FairBoards" "GREATEST_SETTING" "[I" (.ref (ad 1001)) A U H ∧ va_T .int (ad 1001) 3 (fun j => .int (cst1 j)) A U H)
def Inj (ad : Nat → Nat) : Prop := ∀ i j, i < 63 → j < 63 → ad i = ad j → i = j
def Aad (ad : Nat → Nat) : Nat → Prop := fun q => ∃ k, k < 63 ∧ q = ad k
abbrev Scr : Type := Option (Nat × (Nat → Int32))
def Wsc (sc : Scr) (ad : Nat → Nat) (A : Nat → Prop) (U : State) (H : Heap) : Prop := match sc with
  | none => True
  | some (L, xs) => va_X (ad 1002) L xs U H ∧ ad 1002 < H.size ∧ ¬ A (ad 1002)
theorem Wk.moved {D : va_G} {ca : Nat → ClassId} {u U : State} (hW : u.WarmedH U.vm) (h : Wk D ca u) : Wk D ca U :=
  ⟨fun c q hq => u_Kn_moved hW.alike (h.1 c q hq), fun k t n b hk => ⟨arrOfT_moved hW.alike (h.2.1 k t n b hk).1, (h.2.1 k t n b hk).2.moved hW.alike⟩, fun q hq => va_Nw.warmM hW (h.2.2 q hq)⟩
theorem Wk.K {D : va_G} {ca : Nat → ClassId} {U : State} (h : Wk D ca U) : va_K D vwCl [] U := ⟨h.1, fun k q hk => by simp at hk⟩
theorem Wk.K1 {D : va_G} {ca : Nat → ClassId} {U : State} (h : Wk D ca U) {k t n b : Nat} (hk : SHl[k]? = some (.inl (t, n, b))) : va_K D vwCl [(ca k, tyF t)] U := ⟨h.1, fun j q hj => by
  have h0 : j < 1 := (List.getElem?_eq_some_iff.mp hj).1
  rw [show j = 0 by omega] at hj
  cases hj
  exact h.2.1 k t n b hk⟩
theorem Wk.K2 {D : va_G} {ca : Nat → ClassId} {U : State} (h : Wk D ca U) {k t n b k' t' n' b' : Nat} (hk : SHl[k]? = some (.inl (t, n, b))) (hk' : SHl[k']? = some (.inl (t', n', b'))) : va_K D vwCl [(ca k, tyF t), (ca k', tyF t')] U := (h.K1 hk).app (h.K1 hk')
theorem Wst.moved {ad : Nat → Nat} {A B : Nat → Prop} {u U : State} {H H1 : Heap} (hvm : u.vm.Alike U.vm) (hAB : ∀ q, B q → A q) (hq : ∀ a : Nat, a < H.size → ¬ A a → H1[a]? = H[a]?) (h : Wst ad A u H) : Wst ad B U H1 :=
  ⟨⟨((h.1.1.kept hq).moved hvm).narrow hAB, ((h.1.2.kept hq).moved hvm).narrow hAB⟩, ⟨((h.2.1.kept hq).moved hvm).narrow hAB, ((h.2.2.kept hq).moved hvm).narrow hAB⟩⟩
/-- a value with cells' numbers for references, as the machine has it -/
def cv (ad : Nat → Nat) : Value → Value
  | .ref k => .ref (ad k)
  | v => v
theorem cv_cat (ad : Nat → Nat) (v : Value) : (cv ad v).category = v.category := by cases v <;> rfl
def cvL (ad : Nat → Nat) (l : List (Nat × Value)) : List (Nat × Value) := l.map (fun q => (q.1, cv ad q.2))
def cvS (ad : Nat → Nat) (l : List Value) : List Value := l.map (cv ad)
/-- a method: its class's name, its locals, its answer's type, its depth, the script (the law alone) -/
abbrev Mt : Type := String × Nat × Option FieldType × Nat × Scr
def rmD (d : Nat) : Room := { frames := d, cells := 0, slots := 0, locals := 60 * d }
def Ctx (cc : ByteArray) (mt : Mt) (p : Program) (R : Room) (s : State) (m : MethodId) (args : Array Value) (c : Code) (D : va_G) (ad : Nat → Nat) (ca : Nat → ClassId) (A : Nat → Prop) (cells slots : Nat) : Prop :=
  p.tables.exec = Jvm.exec ∧ c.code = cc ∧ c.maxLocals = mt.2.1 ∧ s.vm.findClass mt.1 = some m.cls ∧ (∀ w ∈ lwG, w.before args s = true) ∧
  Wk D ca s ∧ Wst ad A s s.heap ∧ Inj ad ∧ (∀ k, k < 63 → A (ad k)) ∧ (mt.2.2.2.1 ≤ R.frames ∧ 60 * mt.2.2.2.1 ≤ R.locals) ∧ (cells ≤ R.cells ∧ slots ≤ R.slots) ∧ Wsc mt.2.2.2.2 ad A s s.heap
/-- what may be answered by a method of a type -/
def okR (ret : Option FieldType) (v : Option Value) : Prop := match ret, v with
  | none, none => True
  | some .long, some (.long _) => True
  | some .long, _ => False
  | some ty, some (.int x) => narrow ty (.int x) = .int x ∧ (ty = .int ∨ ty = .boolean)
  | _, _ => False
def rIns (v : Option Value) (cc : ByteArray) (pc : Nat) : Prop := match v with
  | none => decode cc pc = .ok (.return_, 1)
  | some (.int _) => decode cc pc = .ok (.ireturn, 1)
  | some (.long _) => decode cc pc = .ok (.lreturn, 1)
  | _ => False
def WP (cc : ByteArray) (mt : Mt) (pc : Nat) (ls : List (Nat × Value)) (st : List Value) (μ : Mem) (Q : Option Value → Mem → Prop) : Prop :=
  ∀ (p : Program) (l : Launch) (e : Env) (R : Room) (s : State) (m : MethodId) (args : Array Value) (below : List Frame) (meth : Method) (c : Code) (D : va_G) (ad : Nat → Nat) (ca : Nat → ClassId) (A : Nat → Prop) (cells slots : Nat) (Qz : State → Prop),
    Ctx cc mt p R s m args c D ad ca A cells slots →
    (∀ (v : Option Value) (μ' : Mem) (H' : Heap) (locs' : List Loc) (pc' : Nat) (la : Array Slot), Q v μ' → okR mt.2.2.1 v → va_P D vwCl (wsO ad ca μ') H' → va_S A s.heap H' locs' → rIns v cc pc' → W p l e R s m args below meth c H' locs' cells slots Qz (F0 m pc' la v.toList)) →
    ∀ (H : Heap) (locs : List Loc), va_P D vwCl (wsO ad ca μ) H → va_S A s.heap H locs → ∀ la : Array Slot, lv_has la mt.2.1 (cvL ad ls) → W p l e R s m args below meth c H locs cells slots Qz (F0 m pc la (cvS ad st))
theorem wsO_D {ad : Nat → Nat} {ca : Nat → ClassId} {μ : Mem} {A : Nat → Prop} (hi : Inj ad) (hA : ∀ k, k < 63 → A (ad k)) : va_D A (wsO ad ca μ) := by
  refine ⟨fun i j x y hx hy hxy => ?_, fun k q hq => ?_⟩
  · obtain ⟨h1, rfl⟩ := wsO_some hx
    obtain ⟨h2, rfl⟩ := wsO_some hy
    exact hi i j h1 h2 hxy
  · obtain ⟨h1, rfl⟩ := wsO_some hq
    exact hA k h1
/-- the locals: by name, a store -/
def lk : List (Nat × Value) → Nat → Option Value
  | [], _ => none
  | (j, w) :: t, i => if j = i then some w else lk t i
theorem lk_mem : ∀ {l : List (Nat × Value)} {i : Nat} {v : Value}, lk l i = some v → (i, v) ∈ l
  | [], i, v, h => by cases h
  | (j, w) :: t, i, v, h => by
    rw [lk] at h
    by_cases e : j = i
    · rw [if_pos e] at h
      cases h
      rw [e]
      exact List.mem_cons_self
    · rw [if_neg e] at h
      exact List.mem_cons_of_mem _ (lk_mem h)
theorem lk_at {ad : Nat → Nat} {la : Array Slot} {n : Nat} {l : List (Nat × Value)} (h : lv_has la n (cvL ad l)) {i : Nat} {v : Value} (hk : lk l i = some v) : la[i]? = some (.val (cv ad v)) :=
  h.2.2 (i, cv ad v) (List.mem_map.mpr ⟨(i, v), lk_mem hk, rfl⟩)
def lset : List (Nat × Value) → Nat → Value → List (Nat × Value)
  | [], i, v => [(i, v)]
  | (j, w) :: t, i, v => if j = i then (i, v) :: t.filter (fun q => !(q.1 == i)) else (j, w) :: lset t i v
theorem lset_mem : ∀ {l : List (Nat × Value)} {i : Nat} {v : Value} {q : Nat × Value}, q ∈ lset l i v → q = (i, v) ∨ (q ∈ l ∧ q.1 ≠ i)
  | [], i, v, q, h => Or.inl (by simpa [lset] using h)
  | (j, w) :: t, i, v, q, h => by
    rw [lset] at h
    by_cases e : j = i
    · rw [if_pos e] at h
      rcases List.mem_cons.mp h with h | h
      · exact Or.inl h
      · obtain ⟨h1, h2⟩ := List.mem_filter.mp h
        exact Or.inr ⟨List.mem_cons_of_mem _ h1, by simpa using h2⟩
    · rw [if_neg e] at h
      rcases List.mem_cons.mp h with h | h
      · rw [h]
        exact Or.inr ⟨List.mem_cons_self, e⟩
      · rcases lset_mem h with h | h
        · exact Or.inl h
        · exact Or.inr ⟨List.mem_cons_of_mem _ h.1, h.2⟩
/-- a store of one slot; of two -/
def st1 (l : List (Nat × Value)) (i : Nat) (v : Value) : List (Nat × Value) := lset (l.filter (fun q => !(q.1 + 1 == i && q.2.category == 2))) i v
def st2 (l : List (Nat × Value)) (i : Nat) (v : Value) : List (Nat × Value) := lset (l.filter (fun q => !(q.1 == i + 1) && !(q.1 + 1 == i && q.2.category == 2))) i v
theorem st1_has {ad : Nat → Nat} {la : Array Slot} {n : Nat} {l : List (Nat × Value)} {i : Nat} {v : Value} (h : lv_has la n ((i, cv ad v) :: (cvL ad l).filter (fun q => !(q.1 == i) && !(q.1 + 1 == i && q.2.category == 2)))) : lv_has la n (cvL ad (st1 l i v)) := by
  refine ⟨h.1, h.2.1, fun q hq => h.2.2 q ?_⟩
  obtain ⟨x, hx, rfl⟩ := List.mem_map.mp hq
  rcases lset_mem hx with rfl | ⟨hx, hne⟩
  · exact List.mem_cons_self
  · obtain ⟨h1, h2⟩ := List.mem_filter.mp hx
    refine List.mem_cons_of_mem _ (List.mem_filter.mpr ⟨List.mem_map.mpr ⟨x, h1, rfl⟩, ?_⟩)
    simp only [cv_cat]
    simp only [Bool.and_eq_true]
    exact ⟨by simpa using hne, h2⟩
theorem st2_has {ad : Nat → Nat} {la : Array Slot} {n : Nat} {l : List (Nat × Value)} {i : Nat} {v : Value} (h : lv_has la n ((i, cv ad v) :: (cvL ad l).filter (fun q => !(q.1 == i) && (!(q.1 == i + 1) && !(q.1 + 1 == i && q.2.category == 2))))) : lv_has la n (cvL ad (st2 l i v)) := by
  refine ⟨h.1, h.2.1, fun q hq => h.2.2 q ?_⟩
  obtain ⟨x, hx, rfl⟩ := List.mem_map.mp hq
  rcases lset_mem hx with rfl | ⟨hx, hne⟩
  · exact List.mem_cons_self
  · obtain ⟨h1, h2⟩ := List.mem_filter.mp hx
    refine List.mem_cons_of_mem _ (List.mem_filter.mpr ⟨List.mem_map.mpr ⟨x, h1, rfl⟩, ?_⟩)
    simp only [cv_cat]
    rw [Bool.and_eq_true]
    exact ⟨by simpa using hne, h2⟩
section WR
variable {cc : ByteArray} {mt : Mt} {pc : Nat} {ls ls' : List (Nat × Value)} {st : List Value} {μ : Mem} {Q : Option Value → Mem → Prop}
/-- fewer locals -/
theorem r_sub (h : WP cc mt pc ls' st μ Q) (hs : ∀ q ∈ ls', q ∈ ls) : WP cc mt pc ls st μ Q := by
  intro p l e R s m args below meth c D ad ca A cells slots Qz C hR H locs hP hS la hl
  refine h p l e R s m args below meth c D ad ca A cells slots Qz C hR H locs hP hS la ⟨hl.1, hl.2.1, fun q hq => ?_⟩
  obtain ⟨x, hx, rfl⟩ := List.mem_map.mp hq
  exact hl.2.2 _ (List.mem_map.mpr ⟨x, hs x hx, rfl⟩)
/-- another end -/
theorem r_post {Q' : Option Value → Mem → Prop} (h : WP cc mt pc ls st μ Q') (hq : ∀ v μ', Q' v μ' → Q v μ') : WP cc mt pc ls st μ Q := by
  intro p l e R s m args below meth c D ad ca A cells slots Qz C hR H locs hP hS la hl
  exact h p l e R s m args below meth c D ad ca A cells slots Qz C (fun v μ' H' locs' pc' la h1 => hR v μ' H' locs' pc' la (hq v μ' h1)) H locs hP hS la hl
theorem r_ireturn {x : Int32} {ty : FieldType} (hd : decode cc pc = .ok (.ireturn, 1)) (hret : mt.2.2.1 = some ty) (hty : ty = .int ∨ ty = .boolean) (hn : narrow ty (.int x) = .int x) (h : Q (some (.int x)) μ) : WP cc mt pc ls [.int x] μ Q := by
  intro p l e R s m args below meth c D ad ca A cells slots Qz C hR H locs hP hS la hl
  exact hR (some (.int x)) μ H locs pc la h (by rw [hret]; rcases hty with rfl | rfl <;> exact ⟨hn, by simp⟩) hP hS hd
theorem r_lreturn {x : Int64} (hd : decode cc pc = .ok (.lreturn, 1)) (hret : mt.2.2.1 = some .long) (h : Q (some (.long x)) μ) : WP cc mt pc ls [.long x] μ Q := by
  intro p l e R s m args below meth c D ad ca A cells slots Qz C hR H locs hP hS la hl
  exact hR (some (.long x)) μ H locs pc la h (by rw [hret]; trivial) hP hS hd
theorem r_return (hd : decode cc pc = .ok (.return_, 1)) (hret : mt.2.2.1 = none) (h : Q none μ) : WP cc mt pc ls [] μ Q := by
  intro p l e R s m args below meth c D ad ca A cells slots Qz C hR H locs hP hS la hl
  exact hR none μ H locs pc la h (by rw [hret]; trivial) hP hS hd
end WR
end
section
/-! RULES, by program -/
section RU
variable {cc : ByteArray} {mt : Mt} {pc : Nat} {ls ls' : List (Nat × Value)} {st : List Value} {μ : Mem} {Q : Option Value → Mem → Prop}
theorem r_iconst {n : Int} {v : Int32} (hd : decode cc pc = .ok (.iconst n, 1)) (hv : Int32.ofInt n = v) (h : WP cc mt (pc + 1) ls (.int v :: st) μ Q) : WP cc mt pc ls (st) μ Q := by
  intro p l e R s m args below meth c D ad ca A cells slots Qz C hR H locs hP hS la hl
  exact lv_iconst C.1 C.2.1 hd hv (h p l e R s m args below meth c D ad ca A cells slots Qz C hR H locs hP hS la hl)
theorem r_lconst {n : Fin 2} {v : Int64} (hd : decode cc pc = .ok (.lconst n, 1)) (hv : Int64.ofNat n.val = v) (h : WP cc mt (pc + 1) ls (.long v :: st) μ Q) : WP cc mt pc ls (st) μ Q := by
  intro p l e R s m args below meth c D ad ca A cells slots Qz C hR H locs hP hS la hl
  exact lv_lconst C.1 C.2.1 hd hv (h p l e R s m args below meth c D ad ca A cells slots Qz C hR H locs hP hS la hl)
theorem r_iadd {x y : Int32} (hd : decode cc pc = .ok (.iadd, 1))  (h : WP cc mt (pc + 1) ls (.int (x + y) :: st) μ Q) : WP cc mt pc ls (.int y :: .int x :: st) μ Q := by
  intro p l e R s m args below meth c D ad ca A cells slots Qz C hR H locs hP hS la hl
  exact lv_iadd C.1 C.2.1 hd  (h p l e R s m args below meth c D ad ca A cells slots Qz C hR H locs hP hS la hl)
theorem r_isub {x y : Int32} (hd : decode cc pc = .ok (.isub, 1))  (h : WP cc mt (pc + 1) ls (.int (x - y) :: st) μ Q) : WP cc mt pc ls (.int y :: .int x :: st) μ Q := by
  intro p l e R s m args below meth c D ad ca A cells slots Qz C hR H locs hP hS la hl
  exact lv_isub C.1 C.2.1 hd  (h p l e R s m args below meth c D ad ca A cells slots Qz C hR H locs hP hS la hl)
theorem r_imul {x y : Int32} (hd : decode cc pc = .ok (.imul, 1))  (h : WP cc mt (pc + 1) ls (.int (x * y) :: st) μ Q) : WP cc mt pc ls (.int y :: .int x :: st) μ Q := by
  intro p l e R s m args below meth c D ad ca A cells slots Qz C hR H locs hP hS la hl
  exact lv_imul C.1 C.2.1 hd  (h p l e R s m args below meth c D ad ca A cells slots Qz C hR H locs hP hS la hl)
theorem r_iand {x y : Int32} (hd : decode cc pc = .ok (.iand, 1))  (h : WP cc mt (pc + 1) ls (.int (x &&& y) :: st) μ Q) : WP cc mt pc ls (.int y :: .int x :: st) μ Q := by
  intro p l e R s m args below meth c D ad ca A cells slots Qz C hR H locs hP hS la hl
  exact lv_iand C.1 C.2.1 hd  (h p l e R s m args below meth c D ad ca A cells slots Qz C hR H locs hP hS la hl)
theorem r_ior {x y : Int32} (hd : decode cc pc = .ok (.ior, 1))  (h : WP cc mt (pc + 1) ls (.int (x ||| y) :: st) μ Q) : WP cc mt pc ls (.int y :: .int x :: st) μ Q := by
  intro p l e R s m args below meth c D ad ca A cells slots Qz C hR H locs hP hS la hl
  exact lv_ior C.1 C.2.1 hd  (h p l e R s m args below meth c D ad ca A cells slots Qz C hR H locs hP hS la hl)
theorem r_ixor {x y : Int32} (hd : decode cc pc = .ok (.ixor, 1))  (h : WP cc mt (pc + 1) ls (.int (x ^^^ y) :: st) μ Q) : WP cc mt pc ls (.int y :: .int x :: st) μ Q := by
  intro p l e R s m args below meth c D ad ca A cells slots Qz C hR H locs hP hS la hl
  exact lv_ixor C.1 C.2.1 hd  (h p l e R s m args below meth c D ad ca A cells slots Qz C hR H locs hP hS la hl)
theorem r_idiv {x y : Int32} (hd : decode cc pc = .ok (.idiv, 1)) (hne : ¬ y = 0) (h : WP cc mt (pc + 1) ls (.int (x / y) :: st) μ Q) : WP cc mt pc ls (.int y :: .int x :: st) μ Q := by
  intro p l e R s m args below meth c D ad ca A cells slots Qz C hR H locs hP hS la hl
  exact lv_idiv C.1 C.2.1 hd hne (h p l e R s m args below meth c D ad ca A cells slots Qz C hR H locs hP hS la hl)
theorem r_ishl {x y : Int32} (hd : decode cc pc = .ok (.ishl, 1))  (h : WP cc mt (pc + 1) ls (.int (x <<< (y &&& 31)) :: st) μ Q) : WP cc mt pc ls (.int y :: .int x :: st) μ Q := by
  intro p l e R s m args below meth c D ad ca A cells slots Qz C hR H locs hP hS la hl
  exact lv_ishl C.1 C.2.1 hd  (h p l e R s m args below meth c D ad ca A cells slots Qz C hR H locs hP hS la hl)
theorem r_ishr {x y : Int32} (hd : decode cc pc = .ok (.ishr, 1))  (h : WP cc mt (pc + 1) ls (.int (x >>> (y &&& 31)) :: st) μ Q) : WP cc mt pc ls (.int y :: .int x :: st) μ Q := by
  intro p l e R s m args below meth c D ad ca A cells slots Qz C hR H locs hP hS la hl
  exact lv_ishr C.1 C.2.1 hd  (h p l e R s m args below meth c D ad ca A cells slots Qz C hR H locs hP hS la hl)
theorem r_iushr {x y v : Int32} (hd : decode cc pc = .ok (.iushr, 1)) (hv : (x.toUInt32 >>> (y.toUInt32 &&& Int32.toUInt32 31)).toInt32 = v) (h : WP cc mt (pc + 1) ls (.int v :: st) μ Q) : WP cc mt pc ls (.int y :: .int x :: st) μ Q := by
  intro p l e R s m args below meth c D ad ca A cells slots Qz C hR H locs hP hS la hl
  exact lv_iushr C.1 C.2.1 hd hv (h p l e R s m args below meth c D ad ca A cells slots Qz C hR H locs hP hS la hl)
theorem r_ineg {x : Int32} (hd : decode cc pc = .ok (.ineg, 1))  (h : WP cc mt (pc + 1) ls (.int (-x) :: st) μ Q) : WP cc mt pc ls (.int x :: st) μ Q := by
  intro p l e R s m args below meth c D ad ca A cells slots Qz C hR H locs hP hS la hl
  exact lv_ineg C.1 C.2.1 hd  (h p l e R s m args below meth c D ad ca A cells slots Qz C hR H locs hP hS la hl)
theorem r_ladd {x y : Int64} (hd : decode cc pc = .ok (.ladd, 1))  (h : WP cc mt (pc + 1) ls (.long (x + y) :: st) μ Q) : WP cc mt pc ls (.long y :: .long x :: st) μ Q := by
  intro p l e R s m args below meth c D ad ca A cells slots Qz C hR H locs hP hS la hl
  exact lv_ladd C.1 C.2.1 hd  (h p l e R s m args below meth c D ad ca A cells slots Qz C hR H locs hP hS la hl)
theorem r_lsub {x y : Int64} (hd : decode cc pc = .ok (.lsub, 1))  (h : WP cc mt (pc + 1) ls (.long (x - y) :: st) μ Q) : WP cc mt pc ls (.long y :: .long x :: st) μ Q := by
  intro p l e R s m args below meth c D ad ca A cells slots Qz C hR H locs hP hS la hl
  exact lv_lsub C.1 C.2.1 hd  (h p l e R s m args below meth c D ad ca A cells slots Qz C hR H locs hP hS la hl)
theorem r_lmul {x y : Int64} (hd : decode cc pc = .ok (.lmul, 1))  (h : WP cc mt (pc + 1) ls (.long (x * y) :: st) μ Q) : WP cc mt pc ls (.long y :: .long x :: st) μ Q := by
  intro p l e R s m args below meth c D ad ca A cells slots Qz C hR H locs hP hS la hl
  exact lv_lmul C.1 C.2.1 hd  (h p l e R s m args below meth c D ad ca A cells slots Qz C hR H locs hP hS la hl)
theorem r_land {x y : Int64} (hd : decode cc pc = .ok (.land, 1))  (h : WP cc mt (pc + 1) ls (.long (x &&& y) :: st) μ Q) : WP cc mt pc ls (.long y :: .long x :: st) μ Q := by
  intro p l e R s m args below meth c D ad ca A cells slots Qz C hR H locs hP hS la hl
  exact lv_land C.1 C.2.1 hd  (h p l e R s m args below meth c D ad ca A cells slots Qz C hR H locs hP hS la hl)
theorem r_lor {x y : Int64} (hd : decode cc pc = .ok (.lor, 1))  (h : WP cc mt (pc + 1) ls (.long (x ||| y) :: st) μ Q) : WP cc mt pc ls (.long y :: .long x :: st) μ Q := by
  intro p l e R s m args below meth c D ad ca A cells slots Qz C hR H locs hP hS la hl
  exact lv_lor C.1 C.2.1 hd  (h p l e R s m args below meth c D ad ca A cells slots Qz C hR H locs hP hS la hl)
theorem r_ldiv {x y : Int64} (hd : decode cc pc = .ok (.ldiv, 1)) (hne : ¬ y = 0) (h : WP cc mt (pc + 1) ls (.long (x / y) :: st) μ Q) : WP cc mt pc ls (.long y :: .long x :: st) μ Q := by
  intro p l e R s m args below meth c D ad ca A cells slots Qz C hR H locs hP hS la hl
  exact lv_ldiv C.1 C.2.1 hd hne (h p l e R s m args below meth c D ad ca A cells slots Qz C hR H locs hP hS la hl)
theorem r_lshl {x v : Int64} {y : Int32} (hd : decode cc pc = .ok (.lshl, 1)) (hv : x <<< (y.toInt64 &&& 63) = v) (h : WP cc mt (pc + 1) ls (.long v :: st) μ Q) : WP cc mt pc ls (.int y :: .long x :: st) μ Q := by
  intro p l e R s m args below meth c D ad ca A cells slots Qz C hR H locs hP hS la hl
  exact lv_lshl C.1 C.2.1 hd hv (h p l e R s m args below meth c D ad ca A cells slots Qz C hR H locs hP hS la hl)
theorem r_lshr {x v : Int64} {y : Int32} (hd : decode cc pc = .ok (.lshr, 1)) (hv : x >>> (y.toInt64 &&& 63) = v) (h : WP cc mt (pc + 1) ls (.long v :: st) μ Q) : WP cc mt pc ls (.int y :: .long x :: st) μ Q := by
  intro p l e R s m args below meth c D ad ca A cells slots Qz C hR H locs hP hS la hl
  exact lv_lshr C.1 C.2.1 hd hv (h p l e R s m args below meth c D ad ca A cells slots Qz C hR H locs hP hS la hl)
theorem r_i2l {x : Int32} {v : Int64} (hd : decode cc pc = .ok (.i2l, 1)) (hv : x.toInt64 = v) (h : WP cc mt (pc + 1) ls (.long v :: st) μ Q) : WP cc mt pc ls (.int x :: st) μ Q := by
  intro p l e R s m args below meth c D ad ca A cells slots Qz C hR H locs hP hS la hl
  exact lv_i2l C.1 C.2.1 hd hv (h p l e R s m args below meth c D ad ca A cells slots Qz C hR H locs hP hS la hl)
theorem r_l2i {x : Int64} {v : Int32} (hd : decode cc pc = .ok (.l2i, 1)) (hv : x.toInt32 = v) (h : WP cc mt (pc + 1) ls (.int v :: st) μ Q) : WP cc mt pc ls (.long x :: st) μ Q := by
  intro p l e R s m args below meth c D ad ca A cells slots Qz C hR H locs hP hS la hl
  exact lv_l2i C.1 C.2.1 hd hv (h p l e R s m args below meth c D ad ca A cells slots Qz C hR H locs hP hS la hl)
theorem r_i2c {x : Int32} {v : Int32} (hd : decode cc pc = .ok (.i2c, 1)) (hv : (x.toUInt32 % 65536).toInt32 = v) (h : WP cc mt (pc + 1) ls (.int v :: st) μ Q) : WP cc mt pc ls (.int x :: st) μ Q := by
  intro p l e R s m args below meth c D ad ca A cells slots Qz C hR H locs hP hS la hl
  exact lv_i2c C.1 C.2.1 hd hv (h p l e R s m args below meth c D ad ca A cells slots Qz C hR H locs hP hS la hl)
theorem r_lcmp {x y : Int64} (hd : decode cc pc = .ok (.lcmp, 1))  (h : WP cc mt (pc + 1) ls (.int (lg_cmp x y) :: st) μ Q) : WP cc mt pc ls (.long y :: .long x :: st) μ Q := by
  intro p l e R s m args below meth c D ad ca A cells slots Qz C hR H locs hP hS la hl
  exact W.lcmp C.1 C.2.1 hd  (h p l e R s m args below meth c D ad ca A cells slots Qz C hR H locs hP hS la hl)
theorem r_dup_i {x : Int32} (hd : decode cc pc = .ok (.dup, 1))  (h : WP cc mt (pc + 1) ls (.int x :: .int x :: st) μ Q) : WP cc mt pc ls (.int x :: st) μ Q := by
  intro p l e R s m args below meth c D ad ca A cells slots Qz C hR H locs hP hS la hl
  exact lv_dup C.1 C.2.1 hd rfl (h p l e R s m args below meth c D ad ca A cells slots Qz C hR H locs hP hS la hl)
theorem r_dup_r {x : Nat} (hd : decode cc pc = .ok (.dup, 1))  (h : WP cc mt (pc + 1) ls (.ref x :: .ref x :: st) μ Q) : WP cc mt pc ls (.ref x :: st) μ Q := by
  intro p l e R s m args below meth c D ad ca A cells slots Qz C hR H locs hP hS la hl
  exact lv_dup C.1 C.2.1 hd rfl (h p l e R s m args below meth c D ad ca A cells slots Qz C hR H locs hP hS la hl)
theorem r_dup2_ir {x : Int32} {y : Nat} (hd : decode cc pc = .ok (.dup2, 1))  (h : WP cc mt (pc + 1) ls (.int x :: .ref y :: .int x :: .ref y :: st) μ Q) : WP cc mt pc ls (.int x :: .ref y :: st) μ Q := by
  intro p l e R s m args below meth c D ad ca A cells slots Qz C hR H locs hP hS la hl
  exact lv_dup2_11 C.1 C.2.1 hd rfl rfl (h p l e R s m args below meth c D ad ca A cells slots Qz C hR H locs hP hS la hl)
theorem r_pop_i {x : Int32} (hd : decode cc pc = .ok (.pop, 1))  (h : WP cc mt (pc + 1) ls (st) μ Q) : WP cc mt pc ls (.int x :: st) μ Q := by
  intro p l e R s m args below meth c D ad ca A cells slots Qz C hR H locs hP hS la hl
  exact lv_pop C.1 C.2.1 hd rfl (h p l e R s m args below meth c D ad ca A cells slots Qz C hR H locs hP hS la hl)
theorem r_bipush {n : Int} {v : Int32} (hd : decode cc pc = .ok (.bipush n, 2)) (hv : (Int8.ofInt n).toInt32 = v) (h : WP cc mt (pc + 2) ls (.int v :: st) μ Q) : WP cc mt pc ls (st) μ Q := by
  intro p l e R s m args below meth c D ad ca A cells slots Qz C hR H locs hP hS la hl
  exact lv_bipush C.1 C.2.1 hd hv (h p l e R s m args below meth c D ad ca A cells slots Qz C hR H locs hP hS la hl)
theorem r_sipush {n : Int} {v : Int32} (hd : decode cc pc = .ok (.sipush n, 3)) (hv : (Int16.ofInt n).toInt32 = v) (h : WP cc mt (pc + 3) ls (.int v :: st) μ Q) : WP cc mt pc ls (st) μ Q := by
  intro p l e R s m args below meth c D ad ca A cells slots Qz C hR H locs hP hS la hl
  exact lv_sipush C.1 C.2.1 hd hv (h p l e R s m args below meth c D ad ca A cells slots Qz C hR H locs hP hS la hl)
theorem r_irem {x y : Int32} (hd : decode cc pc = .ok (.irem, 1)) (hne : ¬ y = 0) (h : WP cc mt (pc + 1) ls (.int (x - x / y * y) :: st) μ Q) : WP cc mt pc ls (.int y :: .int x :: st) μ Q := by
  intro p l e R s m args below meth c D ad ca A cells slots Qz C hR H locs hP hS la hl
  exact lv_irem C.1 C.2.1 hd hne (h p l e R s m args below meth c D ad ca A cells slots Qz C hR H locs hP hS la hl)
theorem r_lrem {x y : Int64} (hd : decode cc pc = .ok (.lrem, 1)) (hne : ¬ y = 0) (h : WP cc mt (pc + 1) ls (.long (x - x / y * y) :: st) μ Q) : WP cc mt pc ls (.long y :: .long x :: st) μ Q := by
  intro p l e R s m args below meth c D ad ca A cells slots Qz C hR H locs hP hS la hl
  exact lv_lrem C.1 C.2.1 hd hne (h p l e R s m args below meth c D ad ca A cells slots Qz C hR H locs hP hS la hl)
theorem r_iload_n {k : Fin 4} {x : Int32} (hd : decode cc pc = .ok (.iload_n k, 1)) (hk : lk ls k.val = some (.int x)) (h : WP cc mt (pc + 1) ls (.int x :: st) μ Q) : WP cc mt pc ls st μ Q := by
  intro p l e R s m args below meth c D ad ca A cells slots Qz C hR H locs hP hS la hl
  exact lv_iload_n C.1 C.2.1 hd rfl (lk_at hl hk) (h p l e R s m args below meth c D ad ca A cells slots Qz C hR H locs hP hS la hl)
theorem r_iload {k : Nat} {x : Int32} (hd : decode cc pc = .ok (.iload k, 2)) (hk : lk ls k = some (.int x)) (h : WP cc mt (pc + 2) ls (.int x :: st) μ Q) : WP cc mt pc ls st μ Q := by
  intro p l e R s m args below meth c D ad ca A cells slots Qz C hR H locs hP hS la hl
  exact lv_iload C.1 C.2.1 hd (lk_at hl hk) (h p l e R s m args below meth c D ad ca A cells slots Qz C hR H locs hP hS la hl)
theorem r_istore {k : Nat} {x : Int32} (hd : decode cc pc = .ok (.istore k, 2)) (hn : k < mt.2.1) (hs : st1 ls k (.int x) = ls') (h : WP cc mt (pc + 2) ls' st μ Q) : WP cc mt pc ls (.int x :: st) μ Q := by
  intro p l e R s m args below meth c D ad ca A cells slots Qz C hR H locs hP hS la hl
  exact lv_istore C.1 C.2.1 hd hl hn rfl (fun la' hl' => h p l e R s m args below meth c D ad ca A cells slots Qz C hR H locs hP hS la' (by rw [← hs]; exact st1_has (v := .int x) hl'))
theorem r_istore_n {k : Fin 4} {x : Int32} (hd : decode cc pc = .ok (.istore_n k, 1)) (hn : k.val < mt.2.1) (hs : st1 ls k.val (.int x) = ls') (h : WP cc mt (pc + 1) ls' st μ Q) : WP cc mt pc ls (.int x :: st) μ Q := by
  intro p l e R s m args below meth c D ad ca A cells slots Qz C hR H locs hP hS la hl
  exact lv_istore_n C.1 C.2.1 hd rfl hl hn rfl (fun la' hl' => h p l e R s m args below meth c D ad ca A cells slots Qz C hR H locs hP hS la' (by rw [← hs]; exact st1_has (v := .int x) hl'))
theorem r_lload_n {k : Fin 4} {x : Int64} (hd : decode cc pc = .ok (.lload_n k, 1)) (hk : lk ls k.val = some (.long x)) (h : WP cc mt (pc + 1) ls (.long x :: st) μ Q) : WP cc mt pc ls st μ Q := by
  intro p l e R s m args below meth c D ad ca A cells slots Qz C hR H locs hP hS la hl
  exact lv_lload_n C.1 C.2.1 hd rfl (lk_at hl hk) (h p l e R s m args below meth c D ad ca A cells slots Qz C hR H locs hP hS la hl)
theorem r_lload {k : Nat} {x : Int64} (hd : decode cc pc = .ok (.lload k, 2)) (hk : lk ls k = some (.long x)) (h : WP cc mt (pc + 2) ls (.long x :: st) μ Q) : WP cc mt pc ls st μ Q := by
  intro p l e R s m args below meth c D ad ca A cells slots Qz C hR H locs hP hS la hl
  exact lv_lload C.1 C.2.1 hd (lk_at hl hk) (h p l e R s m args below meth c D ad ca A cells slots Qz C hR H locs hP hS la hl)
theorem r_lstore {k : Nat} {x : Int64} (hd : decode cc pc = .ok (.lstore k, 2)) (hn : k + 1 < mt.2.1) (hs : st2 ls k (.long x) = ls') (h : WP cc mt (pc + 2) ls' st μ Q) : WP cc mt pc ls (.long x :: st) μ Q := by
  intro p l e R s m args below meth c D ad ca A cells slots Qz C hR H locs hP hS la hl
  exact lv_lstore C.1 C.2.1 hd hl hn rfl (fun la' hl' => h p l e R s m args below meth c D ad ca A cells slots Qz C hR H locs hP hS la' (by rw [← hs]; exact st2_has (v := .long x) hl'))
theorem r_lstore_n {k : Fin 4} {x : Int64} (hd : decode cc pc = .ok (.lstore_n k, 1)) (hn : k.val + 1 < mt.2.1) (hs : st2 ls k.val (.long x) = ls') (h : WP cc mt (pc + 1) ls' st μ Q) : WP cc mt pc ls (.long x :: st) μ Q := by
  intro p l e R s m args below meth c D ad ca A cells slots Qz C hR H locs hP hS la hl
  exact lv_lstore_n C.1 C.2.1 hd rfl hl hn rfl (fun la' hl' => h p l e R s m args below meth c D ad ca A cells slots Qz C hR H locs hP hS la' (by rw [← hs]; exact st2_has (v := .long x) hl'))
theorem r_aload_n {k : Fin 4} {x : Nat} (hd : decode cc pc = .ok (.aload_n k, 1)) (hk : lk ls k.val = some (.ref x)) (h : WP cc mt (pc + 1) ls (.ref x :: st) μ Q) : WP cc mt pc ls st μ Q := by
  intro p l e R s m args below meth c D ad ca A cells slots Qz C hR H locs hP hS la hl
  exact lv_aload_n C.1 C.2.1 hd rfl (lk_at hl hk) (h p l e R s m args below meth c D ad ca A cells slots Qz C hR H locs hP hS la hl)
theorem r_aload {k : Nat} {x : Nat} (hd : decode cc pc = .ok (.aload k, 2)) (hk : lk ls k = some (.ref x)) (h : WP cc mt (pc + 2) ls (.ref x :: st) μ Q) : WP cc mt pc ls st μ Q := by
  intro p l e R s m args below meth c D ad ca A cells slots Qz C hR H locs hP hS la hl
  exact lv_aload C.1 C.2.1 hd (lk_at hl hk) (h p l e R s m args below meth c D ad ca A cells slots Qz C hR H locs hP hS la hl)
theorem r_astore {k : Nat} {x : Nat} (hd : decode cc pc = .ok (.astore k, 2)) (hn : k < mt.2.1) (hs : st1 ls k (.ref x) = ls') (h : WP cc mt (pc + 2) ls' st μ Q) : WP cc mt pc ls (.ref x :: st) μ Q := by
  intro p l e R s m args below meth c D ad ca A cells slots Qz C hR H locs hP hS la hl
  exact lv_astore C.1 C.2.1 hd hl hn rfl (fun la' hl' => h p l e R s m args below meth c D ad ca A cells slots Qz C hR H locs hP hS la' (by rw [← hs]; exact st1_has (v := .ref x) hl'))
theorem r_astore_n {k : Fin 4} {x : Nat} (hd : decode cc pc = .ok (.astore_n k, 1)) (hn : k.val < mt.2.1) (hs : st1 ls k.val (.ref x) = ls') (h : WP cc mt (pc + 1) ls' st μ Q) : WP cc mt pc ls (.ref x :: st) μ Q := by
  intro p l e R s m args below meth c D ad ca A cells slots Qz C hR H locs hP hS la hl
  exact lv_astore_n C.1 C.2.1 hd rfl hl hn rfl (fun la' hl' => h p l e R s m args below meth c D ad ca A cells slots Qz C hR H locs hP hS la' (by rw [← hs]; exact st1_has (v := .ref x) hl'))
theorem r_iinc {k : Nat} {n : Int} {x v : Int32} (hd : decode cc pc = .ok (.iinc k n, 3)) (hk : lk ls k = some (.int x)) (hv : x + Int32.ofInt n = v) (hn : k < mt.2.1) (hs : st1 ls k (.int v) = ls') (h : WP cc mt (pc + 3) ls' st μ Q) : WP cc mt pc ls st μ Q := by
  intro p l e R s m args below meth c D ad ca A cells slots Qz C hR H locs hP hS la hl
  obtain ⟨i, hi⟩ := List.getElem?_of_mem (List.mem_map.mpr ⟨(k, Value.int x), lk_mem hk, rfl⟩ : (k, Value.int x) ∈ cvL ad ls)
  exact lv_iinc C.1 C.2.1 hd hl hi hv hn rfl (fun la' hl' => h p l e R s m args below meth c D ad ca A cells slots Qz C hR H locs hP hS la' (by rw [← hs]; exact st1_has (v := .int v) hl'))
theorem r_if_eq {x : Int32} {off : Int} {tgt : Nat} (hd : decode cc pc = .ok (.ifCond .eq off, 3)) (ht : (pc : Int) + off = (tgt : Int)) (kt : x = 0 → WP cc mt tgt ls st μ Q) (kf : ¬ (x = 0) → WP cc mt (pc + 3) ls st μ Q) : WP cc mt pc ls (.int x :: st) μ Q := by
  intro p l e R s m args below meth c D ad ca A cells slots Qz C hR H locs hP hS la hl
  exact lv_if_eq C.1 C.2.1 hd ht (fun q => kt q p l e R s m args below meth c D ad ca A cells slots Qz C hR H locs hP hS la hl) (fun q => kf q p l e R s m args below meth c D ad ca A cells slots Qz C hR H locs hP hS la hl)
theorem r_icmp_eq {x y : Int32} {off : Int} {tgt : Nat} (hd : decode cc pc = .ok (.if_icmp .eq off, 3)) (ht : (pc : Int) + off = (tgt : Int)) (kt : x = y → WP cc mt tgt ls st μ Q) (kf : ¬ (x = y) → WP cc mt (pc + 3) ls st μ Q) : WP cc mt pc ls (.int y :: .int x :: st) μ Q := by
  intro p l e R s m args below meth c D ad ca A cells slots Qz C hR H locs hP hS la hl
  exact lv_icmp_eq C.1 C.2.1 hd ht (fun q => kt q p l e R s m args below meth c D ad ca A cells slots Qz C hR H locs hP hS la hl) (fun q => kf q p l e R s m args below meth c D ad ca A cells slots Qz C hR H locs hP hS la hl)
theorem r_if_ne {x : Int32} {off : Int} {tgt : Nat} (hd : decode cc pc = .ok (.ifCond .ne off, 3)) (ht : (pc : Int) + off = (tgt : Int)) (kt : ¬ x = 0 → WP cc mt tgt ls st μ Q) (kf : x = 0 → WP cc mt (pc + 3) ls st μ Q) : WP cc mt pc ls (.int x :: st) μ Q := by
  intro p l e R s m args below meth c D ad ca A cells slots Qz C hR H locs hP hS la hl
  exact lv_if_ne C.1 C.2.1 hd ht (fun q => kt q p l e R s m args below meth c D ad ca A cells slots Qz C hR H locs hP hS la hl) (fun q => kf q p l e R s m args below meth c D ad ca A cells slots Qz C hR H locs hP hS la hl)
theorem r_icmp_ne {x y : Int32} {off : Int} {tgt : Nat} (hd : decode cc pc = .ok (.if_icmp .ne off, 3)) (ht : (pc : Int) + off = (tgt : Int)) (kt : ¬ x = y → WP cc mt tgt ls st μ Q) (kf : x = y → WP cc mt (pc + 3) ls st μ Q) : WP cc mt pc ls (.int y :: .int x :: st) μ Q := by
  intro p l e R s m args below meth c D ad ca A cells slots Qz C hR H locs hP hS la hl
  exact lv_icmp_ne C.1 C.2.1 hd ht (fun q => kt q p l e R s m args below meth c D ad ca A cells slots Qz C hR H locs hP hS la hl) (fun q => kf q p l e R s m args below meth c D ad ca A cells slots Qz C hR H locs hP hS la hl)
theorem r_if_lt {x : Int32} {off : Int} {tgt : Nat} (hd : decode cc pc = .ok (.ifCond .lt off, 3)) (ht : (pc : Int) + off = (tgt : Int)) (kt : x < 0 → WP cc mt tgt ls st μ Q) (kf : ¬ (x < 0) → WP cc mt (pc + 3) ls st μ Q) : WP cc mt pc ls (.int x :: st) μ Q := by
  intro p l e R s m args below meth c D ad ca A cells slots Qz C hR H locs hP hS la hl
  exact lv_if_lt C.1 C.2.1 hd ht (fun q => kt q p l e R s m args below meth c D ad ca A cells slots Qz C hR H locs hP hS la hl) (fun q => kf q p l e R s m args below meth c D ad ca A cells slots Qz C hR H locs hP hS la hl)
theorem r_icmp_lt {x y : Int32} {off : Int} {tgt : Nat} (hd : decode cc pc = .ok (.if_icmp .lt off, 3)) (ht : (pc : Int) + off = (tgt : Int)) (kt : x < y → WP cc mt tgt ls st μ Q) (kf : ¬ (x < y) → WP cc mt (pc + 3) ls st μ Q) : WP cc mt pc ls (.int y :: .int x :: st) μ Q := by
  intro p l e R s m args below meth c D ad ca A cells slots Qz C hR H locs hP hS la hl
  exact lv_icmp_lt C.1 C.2.1 hd ht (fun q => kt q p l e R s m args below meth c D ad ca A cells slots Qz C hR H locs hP hS la hl) (fun q => kf q p l e R s m args below meth c D ad ca A cells slots Qz C hR H locs hP hS la hl)
theorem r_if_ge {x : Int32} {off : Int} {tgt : Nat} (hd : decode cc pc = .ok (.ifCond .ge off, 3)) (ht : (pc : Int) + off = (tgt : Int)) (kt : 0 ≤ x → WP cc mt tgt ls st μ Q) (kf : ¬ (0 ≤ x) → WP cc mt (pc + 3) ls st μ Q) : WP cc mt pc ls (.int x :: st) μ Q := by
  intro p l e R s m args below meth c D ad ca A cells slots Qz C hR H locs hP hS la hl
  exact lv_if_ge C.1 C.2.1 hd ht (fun q => kt q p l e R s m args below meth c D ad ca A cells slots Qz C hR H locs hP hS la hl) (fun q => kf q p l e R s m args below meth c D ad ca A cells slots Qz C hR H locs hP hS la hl)
theorem r_icmp_ge {x y : Int32} {off : Int} {tgt : Nat} (hd : decode cc pc = .ok (.if_icmp .ge off, 3)) (ht : (pc : Int) + off = (tgt : Int)) (kt : y ≤ x → WP cc mt tgt ls st μ Q) (kf : ¬ (y ≤ x) → WP cc mt (pc + 3) ls st μ Q) : WP cc mt pc ls (.int y :: .int x :: st) μ Q := by
  intro p l e R s m args below meth c D ad ca A cells slots Qz C hR H locs hP hS la hl
  exact lv_icmp_ge C.1 C.2.1 hd ht (fun q => kt q p l e R s m args below meth c D ad ca A cells slots Qz C hR H locs hP hS la hl) (fun q => kf q p l e R s m args below meth c D ad ca A cells slots Qz C hR H locs hP hS la hl)
theorem r_if_gt {x : Int32} {off : Int} {tgt : Nat} (hd : decode cc pc = .ok (.ifCond .gt off, 3)) (ht : (pc : Int) + off = (tgt : Int)) (kt : 0 < x → WP cc mt tgt ls st μ Q) (kf : ¬ (0 < x) → WP cc mt (pc + 3) ls st μ Q) : WP cc mt pc ls (.int x :: st) μ Q := by
  intro p l e R s m args below meth c D ad ca A cells slots Qz C hR H locs hP hS la hl
  exact lv_if_gt C.1 C.2.1 hd ht (fun q => kt q p l e R s m args below meth c D ad ca A cells slots Qz C hR H locs hP hS la hl) (fun q => kf q p l e R s m args below meth c D ad ca A cells slots Qz C hR H locs hP hS la hl)
theorem r_icmp_gt {x y : Int32} {off : Int} {tgt : Nat} (hd : decode cc pc = .ok (.if_icmp .gt off, 3)) (ht : (pc : Int) + off = (tgt : Int)) (kt : y < x → WP cc mt tgt ls st μ Q) (kf : ¬ (y < x) → WP cc mt (pc + 3) ls st μ Q) : WP cc mt pc ls (.int y :: .int x :: st) μ Q := by
  intro p l e R s m args below meth c D ad ca A cells slots Qz C hR H locs hP hS la hl
  exact lv_icmp_gt C.1 C.2.1 hd ht (fun q => kt q p l e R s m args below meth c D ad ca A cells slots Qz C hR H locs hP hS la hl) (fun q => kf q p l e R s m args below meth c D ad ca A cells slots Qz C hR H locs hP hS la hl)
theorem r_if_le {x : Int32} {off : Int} {tgt : Nat} (hd : decode cc pc = .ok (.ifCond .le off, 3)) (ht : (pc : Int) + off = (tgt : Int)) (kt : x ≤ 0 → WP cc mt tgt ls st μ Q) (kf : ¬ (x ≤ 0) → WP cc mt (pc + 3) ls st μ Q) : WP cc mt pc ls (.int x :: st) μ Q := by
  intro p l e R s m args below meth c D ad ca A cells slots Qz C hR H locs hP hS la hl
  exact lv_if_le C.1 C.2.1 hd ht (fun q => kt q p l e R s m args below meth c D ad ca A cells slots Qz C hR H locs hP hS la hl) (fun q => kf q p l e R s m args below meth c D ad ca A cells slots Qz C hR H locs hP hS la hl)
theorem r_icmp_le {x y : Int32} {off : Int} {tgt : Nat} (hd : decode cc pc = .ok (.if_icmp .le off, 3)) (ht : (pc : Int) + off = (tgt : Int)) (kt : x ≤ y → WP cc mt tgt ls st μ Q) (kf : ¬ (x ≤ y) → WP cc mt (pc + 3) ls st μ Q) : WP cc mt pc ls (.int y :: .int x :: st) μ Q := by
  intro p l e R s m args below meth c D ad ca A cells slots Qz C hR H locs hP hS la hl
  exact lv_icmp_le C.1 C.2.1 hd ht (fun q => kt q p l e R s m args below meth c D ad ca A cells slots Qz C hR H locs hP hS la hl) (fun q => kf q p l e R s m args below meth c D ad ca A cells slots Qz C hR H locs hP hS la hl)
theorem r_goto {off : Int} {tgt : Nat} (hd : decode cc pc = .ok (.goto off, 3)) (ht : (pc : Int) + off = (tgt : Int)) (h : WP cc mt tgt ls st μ Q) : WP cc mt pc ls st μ Q := by
  intro p l e R s m args below meth c D ad ca A cells slots Qz C hR H locs hP hS la hl
  exact lv_goto C.1 C.2.1 hd ht (h p l e R s m args below meth c D ad ca A cells slots Qz C hR H locs hP hS la hl)
theorem r_tableIn {dflt lo hi : Int} {offs : Array Int} {len : Nat} {x : Int32} {off : Int} {tgt : Nat} (hd : decode cc pc = .ok (.tableswitch dflt lo hi offs, len)) (h1 : ¬ x.toInt < lo) (h2 : ¬ hi < x.toInt) (ho : offs[(x.toInt - lo).toNat]? = some off) (ht : (pc : Int) + off = (tgt : Int)) (h : WP cc mt tgt ls st μ Q) : WP cc mt pc ls (.int x :: st) μ Q := by
  intro p l e R s m args below meth c D ad ca A cells slots Qz C hR H locs hP hS la hl
  exact lv_tableIn C.1 C.2.1 hd h1 h2 ho ht (h p l e R s m args below meth c D ad ca A cells slots Qz C hR H locs hP hS la hl)
theorem r_tableOut {dflt lo hi : Int} {offs : Array Int} {len : Nat} {x : Int32} {tgt : Nat} (hd : decode cc pc = .ok (.tableswitch dflt lo hi offs, len)) (h1 : x.toInt < lo ∨ hi < x.toInt) (ht : (pc : Int) + dflt = (tgt : Int)) (h : WP cc mt tgt ls st μ Q) : WP cc mt pc ls (.int x :: st) μ Q := by
  intro p l e R s m args below meth c D ad ca A cells slots Qz C hR H locs hP hS la hl
  exact lv_tableOut C.1 C.2.1 hd h1 ht (h p l e R s m args below meth c D ad ca A cells slots Qz C hR H locs hP hS la hl)
theorem r_ldc {i : Nat} {v : Int32} (hd : decode cc pc = .ok (.ldc i, 2)) (hc : Cond.constant mt.1 i v ∈ lwG) (h : WP cc mt (pc + 2) ls (.int v :: st) μ Q) : WP cc mt pc ls st μ Q := by
  intro p l e R s m args below meth c D ad ca A cells slots Qz C hR H locs hP hS la hl
  exact lv_ldc C.1 C.2.1 C.2.2.2.1 (C.2.2.2.2.1 _ hc) hd (h p l e R s m args below meth c D ad ca A cells slots Qz C hR H locs hP hS la hl)
theorem r_ldcw {i : Nat} {v : Int32} (hd : decode cc pc = .ok (.ldc_w i, 3)) (hc : Cond.constant mt.1 i v ∈ lwG) (h : WP cc mt (pc + 3) ls (.int v :: st) μ Q) : WP cc mt pc ls st μ Q := by
  intro p l e R s m args below meth c D ad ca A cells slots Qz C hR H locs hP hS la hl
  exact lv_ldcw C.1 C.2.1 C.2.2.2.1 (C.2.2.2.2.1 _ hc) hd (h p l e R s m args below meth c D ad ca A cells slots Qz C hR H locs hP hS la hl)
theorem r_ldc2 {i : Nat} {v : Int64} (hd : decode cc pc = .ok (.ldc2_w i, 3)) (hc : Cond.constantLong mt.1 i v ∈ lwG) (h : WP cc mt (pc + 3) ls (.long v :: st) μ Q) : WP cc mt pc ls st μ Q := by
  intro p l e R s m args below meth c D ad ca A cells slots Qz C hR H locs hP hS la hl
  exact lv_ldc2 C.1 C.2.1 C.2.2.2.1 (C.2.2.2.2.1 _ hc) hd (h p l e R s m args below meth c D ad ca A cells slots Qz C hR H locs hP hS la hl)
theorem r_topi {x : Int32} (k : ∀ y : Int32, y = x → WP cc mt pc ls (.int y :: st) μ Q) : WP cc mt pc ls (.int x :: st) μ Q := k x rfl
theorem r_topl {x : Int64} (k : ∀ y : Int64, y = x → WP cc mt pc ls (.long y :: st) μ Q) : WP cc mt pc ls (.long x :: st) μ Q := k x rfl
theorem r_eqi {x y : Int32} (e : x = y) (k : WP cc mt pc ls (.int y :: st) μ Q) : WP cc mt pc ls (.int x :: st) μ Q := e ▸ k
theorem r_eql {x y : Int64} (e : x = y) (k : WP cc mt pc ls (.long y :: st) μ Q) : WP cc mt pc ls (.long x :: st) μ Q := e ▸ k
theorem r_mem {μ' : Mem} (e : μ = μ') (k : WP cc mt pc ls st μ' Q) : WP cc mt pc ls st μ Q := e ▸ k
theorem r_top {ls' : List (Nat × Value)} (e : ls = ls') (k : WP cc mt pc ls' st μ Q) : WP cc mt pc ls st μ Q := e ▸ k
def FOK (own : String) (idx ci j : Nat) : Prop := ∃ (C : String) (T : u_T) (N : Nat), vwCl[ci]? = some (C, T, N) ∧ (∀ w ∈ u_ws C T N, w ∈ lwG) ∧ j < N ∧ Cond.fieldLink own idx (T j).1 (T j).2.1 (T j).2.2.1 ∈ lwG
def FOKp (own : String) (idx ci j : Nat) (ty : FieldType) : Prop := ∃ (C : String) (T : u_T) (N : Nat) (ty0 : Nat → FieldType), vwCl[ci]? = some (C, T, N) ∧ (∀ w ∈ u_ws C T N, w ∈ lwG) ∧ j < N ∧ Cond.fieldLink own idx (T j).1 (T j).2.1 (T j).2.2.1 ∈ lwG ∧ (∀ k, k < N → parseFieldDescriptor (T k).2.2.1 = some (ty0 k)) ∧ (∀ a, a < N → ∀ b, b < N → a ≠ b → (T a).2.1 ≠ (T b).2.1) ∧ (T j).2.2.2 = false ∧ parseFieldDescriptor (T j).2.2.1 = some ty
theorem r_getI {idx ci j k : Nat} {fl : List Nat} {x : Int32} (hd : decode cc pc = .ok (.getfield idx, 3)) (hF : FOK mt.1 idx ci j) (hk : SHl[k]? = some (.inr (ci, fl))) (hf : fl[j]? = some 0) (hv : μ.1 k j = x) (h : WP cc mt (pc + 3) ls (.int x :: st) μ Q) : WP cc mt pc ls (.ref k :: st) μ Q := by
  intro p l e R s m args below meth c D ad ca A cells slots Qz C hR H locs hP hS la hl
  obtain ⟨Cn, T, N, h1, h2, h3, h4⟩ := hF
  have he : (wsO ad ca μ)[k]? = some (ad k, .inr (ci, fv ad μ k 0 fl)) := by rw [wsO_get (SHl_lt hk), ce_obj hk]
  refine va_get C.1 C.2.1 C.2.2.2.2.1 h2 C.2.2.2.1 C.2.2.2.2.2.1.K hP k he h1 j h3 (C.2.2.2.2.1 _ h4) (fun _ h9 => h9) (v := .int x) ?_ hd (h p l e R s m args below meth c D ad ca A cells slots Qz C hR H locs hP hS la hl)
  rw [fv_get, hf, ← hv]
  simp [fvl]
theorem r_getL {idx ci j k : Nat} {fl : List Nat} {x : Int64} (hd : decode cc pc = .ok (.getfield idx, 3)) (hF : FOK mt.1 idx ci j) (hk : SHl[k]? = some (.inr (ci, fl))) (hf : fl[j]? = some 1) (hv : μ.2 k j = x) (h : WP cc mt (pc + 3) ls (.long x :: st) μ Q) : WP cc mt pc ls (.ref k :: st) μ Q := by
  intro p l e R s m args below meth c D ad ca A cells slots Qz C hR H locs hP hS la hl
  obtain ⟨Cn, T, N, h1, h2, h3, h4⟩ := hF
  have he : (wsO ad ca μ)[k]? = some (ad k, .inr (ci, fv ad μ k 0 fl)) := by rw [wsO_get (SHl_lt hk), ce_obj hk]
  refine va_get C.1 C.2.1 C.2.2.2.2.1 h2 C.2.2.2.1 C.2.2.2.2.2.1.K hP k he h1 j h3 (C.2.2.2.2.1 _ h4) (fun _ h9 => h9) (v := .long x) ?_ hd (h p l e R s m args below meth c D ad ca A cells slots Qz C hR H locs hP hS la hl)
  rw [fv_get, hf, ← hv]
  simp [fvl]
theorem r_getR {idx ci j k r : Nat} {fl : List Nat} (hd : decode cc pc = .ok (.getfield idx, 3)) (hF : FOK mt.1 idx ci j) (hk : SHl[k]? = some (.inr (ci, fl))) (hf : fl[j]? = some (10 + r)) (h : WP cc mt (pc + 3) ls (.ref r :: st) μ Q) : WP cc mt pc ls (.ref k :: st) μ Q := by
  intro p l e R s m args below meth c D ad ca A cells slots Qz C hR H locs hP hS la hl
  obtain ⟨Cn, T, N, h1, h2, h3, h4⟩ := hF
  have he : (wsO ad ca μ)[k]? = some (ad k, .inr (ci, fv ad μ k 0 fl)) := by rw [wsO_get (SHl_lt hk), ce_obj hk]
  refine va_get C.1 C.2.1 C.2.2.2.2.1 h2 C.2.2.2.1 C.2.2.2.2.2.1.K hP k he h1 j h3 (C.2.2.2.2.1 _ h4) (fun _ h9 => h9) (v := .ref (ad r)) ?_ hd (h p l e R s m args below meth c D ad ca A cells slots Qz C hR H locs hP hS la hl)
  rw [fv_get, hf]
  simp [fvl, show ¬ 10 + r = 0 by omega, show ¬ 10 + r = 1 by omega]
theorem r_putI {idx ci j k : Nat} {fl : List Nat} {x : Int32} {ty : FieldType} (hd : decode cc pc = .ok (.putfield idx, 3)) (hF : FOKp mt.1 idx ci j ty) (hk : SHl[k]? = some (.inr (ci, fl))) (hf : fl[j]? = some 0) (hn : narrow ty (.int x) = .int x) (hfit : fits ty (.int x) = true) (h : WP cc mt (pc + 3) ls st (setI μ k j x) Q) : WP cc mt pc ls (.int x :: .ref k :: st) μ Q := by
  intro p l e R s m args below meth c D ad ca A cells slots Qz C hR H locs hP hS la hl
  obtain ⟨Cn, T, N, ty0, h1, h2, h3, h4, h5, h6, h7, h8⟩ := hF
  have he : (wsO ad ca μ)[k]? = some (ad k, .inr (ci, fv ad μ k 0 fl)) := by rw [wsO_get (SHl_lt hk), ce_obj hk]
  refine va_put C.1 C.2.1 C.2.2.2.2.1 h2 ty0 h5 h6 C.2.2.2.1 C.2.2.2.2.2.1.K hP (wsO_D C.2.2.2.2.2.2.2.1 C.2.2.2.2.2.2.2.2.1) hS k he h1 j h3 (C.2.2.2.2.1 _ h4) (fun _ h9 => h9) h7 h8 (v := .int x) hn hfit (by rw [fv_len]; exact (List.getElem?_eq_some_iff.mp hf).1) hd (fun H1 locs1 hP1 hD1 hS1 => ?_)
  exact h p l e R s m args below meth c D ad ca A cells slots Qz C hR H1 locs1 (by have hp1' := hP1; rw [fv_setI hf, ← ce_obj (ad := ad) (ca := ca) hk, wsO_set ce_setI] at hp1'; exact hp1') hS1 la hl
theorem r_putL {idx ci j k : Nat} {fl : List Nat} {x : Int64} {ty : FieldType} (hd : decode cc pc = .ok (.putfield idx, 3)) (hF : FOKp mt.1 idx ci j ty) (hk : SHl[k]? = some (.inr (ci, fl))) (hf : fl[j]? = some 1) (hn : narrow ty (.long x) = .long x) (hfit : fits ty (.long x) = true) (h : WP cc mt (pc + 3) ls st (setL μ k j x) Q) : WP cc mt pc ls (.long x :: .ref k :: st) μ Q := by
  intro p l e R s m args below meth c D ad ca A cells slots Qz C hR H locs hP hS la hl
  obtain ⟨Cn, T, N, ty0, h1, h2, h3, h4, h5, h6, h7, h8⟩ := hF
  have he : (wsO ad ca μ)[k]? = some (ad k, .inr (ci, fv ad μ k 0 fl)) := by rw [wsO_get (SHl_lt hk), ce_obj hk]
  refine va_put C.1 C.2.1 C.2.2.2.2.1 h2 ty0 h5 h6 C.2.2.2.1 C.2.2.2.2.2.1.K hP (wsO_D C.2.2.2.2.2.2.2.1 C.2.2.2.2.2.2.2.2.1) hS k he h1 j h3 (C.2.2.2.2.1 _ h4) (fun _ h9 => h9) h7 h8 (v := .long x) hn hfit (by rw [fv_len]; exact (List.getElem?_eq_some_iff.mp hf).1) hd (fun H1 locs1 hP1 hD1 hS1 => ?_)
  exact h p l e R s m args below meth c D ad ca A cells slots Qz C hR H1 locs1 (by have hp1' := hP1; rw [fv_setL hf, ← ce_obj (ad := ad) (ca := ca) hk, wsO_set ce_setL] at hp1'; exact hp1') hS1 la hl
def shN (x : Option ShE) : Nat := match x with
  | some (.inl (_, n, _)) => n
  | _ => 0
theorem SHl_small {k t n b : Nat} (h : SHl[k]? = some (.inl (t, n, b))) : n < 2 ^ 31 := by
  have hk := SHl_lt h
  have key : ∀ k, k < 63 → shN SHl[k]? < 2 ^ 31 := by decide +kernel
  have := key k hk
  rw [h] at this
  exact this
theorem r_iald {k n b j : Nat} {i : Int32} {x : Int32} (hd : decode cc pc = .ok (.iaload, 1)) (hk : SHl[k]? = some (.inl (0, n, b))) (hi : i = nI j) (hj : j < n) (hv : μ.1 k j = x) (h : WP cc mt (pc + 1) ls (.int x :: st) μ Q) : WP cc mt pc ls (.int i :: .ref k :: st) μ Q := by
  intro p l e R s m args below meth c D ad ca A cells slots Qz C hR H locs hP hS la hl
  have hs := SHl_small hk
  subst hi
  have he := wsO_get (ad := ad) (ca := ca) (μ := μ) (SHl_lt hk)
  rw [ce_row hk] at he
  refine va_iald C.1 C.2.1 (C.2.2.2.2.2.1.K1 hk) hP k 0 he rfl (vp_in_nI hj hs) hd ?_
  rw [nI_clamp (by omega), hv]
  exact h p l e R s m args below meth c D ad ca A cells slots Qz C hR H locs hP hS la hl
theorem r_cald {k n b j : Nat} {i : Int32} {x : Int32} (hd : decode cc pc = .ok (.caload, 1)) (hk : SHl[k]? = some (.inl (2, n, b))) (hi : i = nI j) (hj : j < n) (hv : μ.1 k j = x) (h : WP cc mt (pc + 1) ls (.int x :: st) μ Q) : WP cc mt pc ls (.int i :: .ref k :: st) μ Q := by
  intro p l e R s m args below meth c D ad ca A cells slots Qz C hR H locs hP hS la hl
  have hs := SHl_small hk
  subst hi
  have he := wsO_get (ad := ad) (ca := ca) (μ := μ) (SHl_lt hk)
  rw [ce_row hk] at he
  refine va_cald C.1 C.2.1 (C.2.2.2.2.2.1.K1 hk) hP k 0 he rfl (vp_in_nI hj hs) hd ?_
  rw [nI_clamp (by omega), hv]
  exact h p l e R s m args below meth c D ad ca A cells slots Qz C hR H locs hP hS la hl
theorem r_lald {k n b j : Nat} {i : Int32} {x : Int64} (hd : decode cc pc = .ok (.laload, 1)) (hk : SHl[k]? = some (.inl (1, n, b))) (hi : i = nI j) (hj : j < n) (hv : μ.2 k j = x) (h : WP cc mt (pc + 1) ls (.long x :: st) μ Q) : WP cc mt pc ls (.int i :: .ref k :: st) μ Q := by
  intro p l e R s m args below meth c D ad ca A cells slots Qz C hR H locs hP hS la hl
  have hs := SHl_small hk
  subst hi
  have he := wsO_get (ad := ad) (ca := ca) (μ := μ) (SHl_lt hk)
  rw [ce_row hk] at he
  refine va_lald C.1 C.2.1 (C.2.2.2.2.2.1.K1 hk) hP k 0 he rfl (vp_in_nI hj hs) hd ?_
  rw [nI_clamp (by omega), hv]
  exact h p l e R s m args below meth c D ad ca A cells slots Qz C hR H locs hP hS la hl
theorem r_iast {k n b j : Nat} {i : Int32} {x : Int32} (hd : decode cc pc = .ok (.iastore, 1)) (hk : SHl[k]? = some (.inl (0, n, b))) (hi : i = nI j) (hj : j < n)  (h : WP cc mt (pc + 1) ls st (setI μ k j x) Q) : WP cc mt pc ls (.int x :: .int i :: .ref k :: st) μ Q := by
  intro p l e R s m args below meth c D ad ca A cells slots Qz C hR H locs hP hS la hl
  have hs := SHl_small hk
  subst hi
  have he := wsO_get (ad := ad) (ca := ca) (μ := μ) (SHl_lt hk)
  rw [ce_row hk] at he
  refine va_iast C.1 C.2.1 (C.2.2.2.2.2.1.K1 hk) hP (wsO_D C.2.2.2.2.2.2.2.1 C.2.2.2.2.2.2.2.2.1) hS k 0 he rfl (vp_in_nI hj hs) hd (fun H1 locs1 hP1 hD1 hS1 => ?_)
  refine h p l e R s m args below meth c D ad ca A cells slots Qz C hR H1 locs1 ?_ hS1 la hl
  rw [nI_clamp (by omega)] at hP1
  rw [← wsO_set ce_setI, ce_row hk]
  refine (congrArg (fun z => va_P D vwCl ((wsO ad ca μ).set k (ad k, Sum.inl (ca k, n, z))) H1) ?_).mp hP1
  simp [ceA, setI]
theorem r_cast {k n b j : Nat} {i : Int32} {x : Int32} (hd : decode cc pc = .ok (.castore, 1)) (hk : SHl[k]? = some (.inl (2, n, b))) (hi : i = nI j) (hj : j < n) (hx : vp_nar .char x = x) (h : WP cc mt (pc + 1) ls st (setI μ k j x) Q) : WP cc mt pc ls (.int x :: .int i :: .ref k :: st) μ Q := by
  intro p l e R s m args below meth c D ad ca A cells slots Qz C hR H locs hP hS la hl
  have hs := SHl_small hk
  subst hi
  have he := wsO_get (ad := ad) (ca := ca) (μ := μ) (SHl_lt hk)
  rw [ce_row hk] at he
  refine va_cast C.1 C.2.1 (C.2.2.2.2.2.1.K1 hk) hP (wsO_D C.2.2.2.2.2.2.2.1 C.2.2.2.2.2.2.2.2.1) hS k 0 he rfl (vp_in_nI hj hs) hd (fun H1 locs1 hP1 hD1 hS1 => ?_)
  refine h p l e R s m args below meth c D ad ca A cells slots Qz C hR H1 locs1 ?_ hS1 la hl
  rw [nI_clamp (by omega), hx] at hP1
  rw [← wsO_set ce_setI, ce_row hk]
  refine (congrArg (fun z => va_P D vwCl ((wsO ad ca μ).set k (ad k, Sum.inl (ca k, n, z))) H1) ?_).mp hP1
  simp [ceA, setI]
theorem r_last {k n b j : Nat} {i : Int32} {x : Int64} (hd : decode cc pc = .ok (.lastore, 1)) (hk : SHl[k]? = some (.inl (1, n, b))) (hi : i = nI j) (hj : j < n)  (h : WP cc mt (pc + 1) ls st (setL μ k j x) Q) : WP cc mt pc ls (.long x :: .int i :: .ref k :: st) μ Q := by
  intro p l e R s m args below meth c D ad ca A cells slots Qz C hR H locs hP hS la hl
  have hs := SHl_small hk
  subst hi
  have he := wsO_get (ad := ad) (ca := ca) (μ := μ) (SHl_lt hk)
  rw [ce_row hk] at he
  refine va_last C.1 C.2.1 (C.2.2.2.2.2.1.K1 hk) hP (wsO_D C.2.2.2.2.2.2.2.1 C.2.2.2.2.2.2.2.2.1) hS k 0 he rfl (vp_in_nI hj hs) hd (fun H1 locs1 hP1 hD1 hS1 => ?_)
  refine h p l e R s m args below meth c D ad ca A cells slots Qz C hR H1 locs1 ?_ hS1 la hl
  rw [nI_clamp (by omega)] at hP1
  rw [← wsO_set ce_setL, ce_row hk]
  refine (congrArg (fun z => va_P D vwCl ((wsO ad ca μ).set k (ad k, Sum.inl (ca k, n, z))) H1) ?_).mp hP1
  simp [ceA, setL]
theorem r_aald {k n b j : Nat} {i : Int32} (hd : decode cc pc = .ok (.aaload, 1)) (hk : SHl[k]? = some (.inl (3, n, b))) (hi : i = nI j) (hj : j < n) (h : WP cc mt (pc + 1) ls (.ref (b + j) :: st) μ Q) : WP cc mt pc ls (.int i :: .ref k :: st) μ Q := by
  intro p l e R s m args below meth c D ad ca A cells slots Qz C hR H locs hP hS la hl
  have hs := SHl_small hk
  subst hi
  have he := wsO_get (ad := ad) (ca := ca) (μ := μ) (SHl_lt hk)
  rw [ce_row hk] at he
  have hcl : (nI j).toNatClampNeg = j := nI_clamp (by omega)
  refine W.aald (v := .ref (ad (b + j))) (ty := .array .int) C.1 C.2.1 (hP k _ he) (((C.2.2.2.2.2.1.K1 hk).2 0 _ rfl).1 n (fun q => va_rf (if q < n then some (ad (b + q)) else none))) rfl (fun q => by cases q) (by show ¬ (nI j < 0 ∨ (arrV _ _ _).slots.size ≤ _); rw [arrV_size]; exact vp_in_nI hj hs) (by show (arrV _ _ _).slots[_]? = _; rw [hcl, arrV_read _ _ hj]; simp [hj, va_rf]) rfl rfl hd ?_
  exact h p l e R s m args below meth c D ad ca A cells slots Qz C hR H locs hP hS la hl
theorem r_alen {k n b : Nat} (hd : decode cc pc = .ok (.arraylength, 1)) (hk : SHl[k]? = some (.inl (0, n, b))) (h : WP cc mt (pc + 1) ls (.int (nI n) :: st) μ Q) : WP cc mt pc ls (.ref k :: st) μ Q := by
  intro p l e R s m args below meth c D ad ca A cells slots Qz C hR H locs hP hS la hl
  have he := wsO_get (ad := ad) (ca := ca) (μ := μ) (SHl_lt hk)
  rw [ce_row hk] at he
  exact va_alen C.1 C.2.1 (C.2.2.2.2.2.1.K1 hk) hP k 0 he rfl (v := nI n) rfl hd (h p l e R s m args below meth c D ad ca A cells slots Qz C hR H locs hP hS la hl)
theorem r_gets0 {idx : Nat} (hd : decode cc pc = .ok (.getstatic idx, 3)) (hlk : Cond.fieldLink mt.1 idx "FairBoards" "LEAST_SETTING" "[I" ∈ lwG) (h : WP cc mt (pc + 3) ls (.ref 1000 :: st) μ Q) : WP cc mt pc ls st μ Q := by
  intro p l e R s m args below meth c D ad ca A cells slots Qz C hR H locs hP hS la hl
  exact va_gets C.1 C.2.1 C.2.2.2.2.2.2.1.1.1 hS C.2.2.2.1 (C.2.2.2.2.1 _ hlk) (fun _ h9 => h9) hd (h p l e R s m args below meth c D ad ca A cells slots Qz C hR H locs hP hS la hl)
theorem r_tld0 {j : Nat} {i : Int32} {x : Int32} (hd : decode cc pc = .ok (.iaload, 1)) (hi : i = nI j) (hj : j < 3) (hv : cst0 j = x) (h : WP cc mt (pc + 1) ls (.int x :: st) μ Q) : WP cc mt pc ls (.int i :: .ref 1000 :: st) μ Q := by
  intro p l e R s m args below meth c D ad ca A cells slots Qz C hR H locs hP hS la hl
  subst hi
  exact va_ti C.1 C.2.1 C.2.2.2.2.2.2.1.1.2 hS (vp_in_nI hj (by decide)) (v := .int x) (by rw [nI_clamp (by omega), hv]) hd (h p l e R s m args below meth c D ad ca A cells slots Qz C hR H locs hP hS la hl)
theorem r_gets1 {idx : Nat} (hd : decode cc pc = .ok (.getstatic idx, 3)) (hlk : Cond.fieldLink mt.1 idx "FairBoards" "GREATEST_SETTING" "[I" ∈ lwG) (h : WP cc mt (pc + 3) ls (.ref 1001 :: st) μ Q) : WP cc mt pc ls st μ Q := by
  intro p l e R s m args below meth c D ad ca A cells slots Qz C hR H locs hP hS la hl
  exact va_gets C.1 C.2.1 C.2.2.2.2.2.2.1.2.1 hS C.2.2.2.1 (C.2.2.2.2.1 _ hlk) (fun _ h9 => h9) hd (h p l e R s m args below meth c D ad ca A cells slots Qz C hR H locs hP hS la hl)
theorem r_tld1 {j : Nat} {i : Int32} {x : Int32} (hd : decode cc pc = .ok (.iaload, 1)) (hi : i = nI j) (hj : j < 3) (hv : cst1 j = x) (h : WP cc mt (pc + 1) ls (.int x :: st) μ Q) : WP cc mt pc ls (.int i :: .ref 1001 :: st) μ Q := by
  intro p l e R s m args below meth c D ad ca A cells slots Qz C hR H locs hP hS la hl
  subst hi
  exact va_ti C.1 C.2.1 C.2.2.2.2.2.2.1.2.2 hS (vp_in_nI hj (by decide)) (v := .int x) (by rw [nI_clamp (by omega), hv]) hd (h p l e R s m args below meth c D ad ca A cells slots Qz C hR H locs hP hS la hl)
theorem r_sld {L j : Nat} {xs : Nat → Int32} {i : Int32} (hd : decode cc pc = .ok (.iaload, 1)) (hsc : mt.2.2.2.2 = some (L, xs)) (hL : L < 2 ^ 31) (hi : i = nI j) (hj : j < L) (h : WP cc mt (pc + 1) ls (.int (xs j) :: st) μ Q) : WP cc mt pc ls (.int i :: .ref 1002 :: st) μ Q := by
  intro p l e R s m args below meth c D ad ca A cells slots Qz C hR H locs hP hS la hl
  subst hi
  have hX := C.2.2.2.2.2.2.2.2.2.2.2
  rw [hsc] at hX
  obtain ⟨h1, h2, h3⟩ := hX
  refine va_sld C.1 C.2.1 h1 h2 h3 hS (vp_in_nI hj hL) hd ?_
  rw [nI_clamp (by omega)]
  exact h p l e R s m args below meth c D ad ca A cells slots Qz C hR H locs hP hS la hl
theorem r_slen {L : Nat} {xs : Nat → Int32} (hd : decode cc pc = .ok (.arraylength, 1)) (hsc : mt.2.2.2.2 = some (L, xs)) (h : WP cc mt (pc + 1) ls (.int (nI L) :: st) μ Q) : WP cc mt pc ls (.ref 1002 :: st) μ Q := by
  intro p l e R s m args below meth c D ad ca A cells slots Qz C hR H locs hP hS la hl
  have hX := C.2.2.2.2.2.2.2.2.2.2.2
  rw [hsc] at hX
  obtain ⟨h1, h2, h3⟩ := hX
  exact va_slen C.1 C.2.1 h1 h2 h3 hS hd (h p l e R s m args below meth c D ad ca A cells slots Qz C hR H locs hP hS la hl)
end RU
end
section
/-! CALLS: a method's contract Sp over the fixed world, and the rules that use it -/
abbrev MI : Type := MethodName × ByteArray × Nat × Option FieldType
def okM (I : MI) (n : Nat) : Prop := Cond.code I.1 I.2.1 I.2.2.1 I.2.2.2 ∈ lwG ∧ Cond.initialized I.1.cls ∈ lwG ∧ (I.1.cls ≠ "java/lang/invoke/MethodHandle" ∧ I.1.cls ≠ "java/lang/invoke/VarHandle" ∧ (parseMethodDescriptor I.1.desc).map (fun d => d.parameters.length) = some n) ∧ I.2.2.1 ≤ 41 ∧ plainName I.1.cls = true
def okV (I : MI) (n ci : Nat) : Prop := okM I n ∧ Cond.instanceMethod I.1 ∈ lwG ∧ Cond.selects I.1.cls I.1 I.1 ∈ lwG ∧ ∃ (T : u_T) (N : Nat), vwCl[ci]? = some (I.1.cls, T, N)
def okS (I : MI) (n : Nat) : Prop := okM I n ∧ Cond.static I.1 ∈ lwG
def PcM (D : va_G) (ad : Nat → Nat) (ca : Nat → ClassId) (vs : List Value) (μ : Mem) : Array Value → State → Prop := va_Pc (cvS ad vs) (fun U => Wk D ca U ∧ Wst ad (Aad ad) U U.heap ∧ va_P D vwCl (wsO ad ca μ) U.heap)
def QcM (D : va_G) (ad : Nat → Nat) (ca : Nat → ClassId) (ret : Option FieldType) (Q : Option Value → Mem → Prop) : Array Value → State → Outcome → State → Prop := fun _ st oc t => (∃ (v : Option Value) (μ' : Mem), oc = .returned v ∧ Q v μ' ∧ okR ret v ∧ va_P D vwCl (wsO ad ca μ') t.heap) ∧ va_F (Aad ad) st t
def Sp (I : MI) (d : Nat) (vs : List Value) (μ : Mem) (Q : Option Value → Mem → Prop) : Prop :=
  ∀ (l : Launch) (D : va_G) (ad : Nat → Nat) (ca : Nat → ClassId), Inj ad → Met l I.1 (Cond.code I.1 I.2.1 I.2.2.1 I.2.2.2 :: lwG) (rmD d) (PcM D ad ca vs μ) (QcM D ad ca I.2.2.2 Q) 0 0 (Aad ad)
theorem lg_len (vs : List Value) : (lg_sl vs).length = (vs.map fun v => v.category).sum := by
  induction vs with
  | nil => rfl
  | cons v t ih =>
    show ((if v.category = 2 then [Slot.val v, .second] else [.val v]) ++ lg_sl t).length = _
    rw [List.length_append, ih, List.map_cons, List.sum_cons]
    congr 1
    rcases lv_cat v with h | h <;> simp [h]
theorem cvS_cats (ad : Nat → Nat) (vs : List Value) : (cvS ad vs).map (fun v => v.category) = vs.map fun v => v.category := by
  unfold cvS
  rw [List.map_map]
  exact List.map_congr_left fun v _ => cv_cat ad v
theorem lv_args_cv (ad : Nat → Nat) : ∀ (vs : List Value) (i : Nat), lv_args i (cvS ad vs) = cvL ad (lv_args i vs)
  | [], i => rfl
  | v :: t, i => by
    show (i, cv ad v) :: lv_args (if (cv ad v).category = 2 then i + 2 else i + 1) (cvS ad t) = (i, cv ad v) :: cvL ad (lv_args (if v.category = 2 then i + 2 else i + 1) t)
    rw [cv_cat, lv_args_cv ad t]
theorem okR_cv {ret : Option FieldType} {v : Option Value} (h : okR ret v) (ad : Nat → Nat) : cvS ad v.toList = v.toList := by
  cases v with
  | none => rfl
  | some x =>
    cases x with
    | ref a => cases ret with
      | none => exact absurd h (by simp [okR])
      | some ty => cases ty <;> exact absurd h (by simp [okR])
    | _ => rfl
theorem Sp.of {I : MI} {n d : Nat} {vs : List Value} {μ : Mem} {Q : Option Value → Mem → Prop} (hok : okM I n) (hfit : (vs.map fun v => v.category).sum ≤ I.2.2.1) (h : WP I.2.1 (I.1.cls, I.2.2.1, I.2.2.2, d, none) 0 (lv_args 0 vs) [] μ Q) : Sp I d vs μ Q := by
  intro l D ad ca hi
  refine Met.ofW (cc := I.2.1) (maxL := I.2.2.1) (ret := I.2.2.2) hok.2.2.2.2 rfl ?_
  intro p e s m args below meth c s₁ B hml hv
  obtain ⟨rfl, hWk, hWst, hP⟩ := hv
  have hts := atoms_spec (ws := Cond.code I.1 I.2.1 I.2.2.1 I.2.2.2 :: lwG) B.pre
  have hown : s.vm.findClass I.1.cls = some m.cls := findClass_of_methodNamed B.named
  have hlocks := B.notSynchronized
  have hret := B.returns
  rw [lg_entry_eq]
  refine h p l e _ s m _ below meth c D ad ca (Aad ad) 0 0 _ ⟨B.exec, B.bytes, hml, hown, fun w hw => hts w (List.mem_cons_of_mem _ hw), hWk, hWst, hi, fun k hk => ⟨k, hk, rfl⟩, ⟨Nat.le_refl _, Nat.le_refl _⟩, ⟨Nat.zero_le _, Nat.zero_le _⟩, trivial⟩ ?_ s.heap [] hP va_S.rf _ ?_
  · intro v μ' H' locs' pc' la hq hok' hP' hS' hr
    have hk := hok'
    dsimp only at hok'
    cases v with
    | none =>
      have hn : I.2.2.2 = none := by
        cases hI : I.2.2.2 with
        | none => rfl
        | some ty => rw [hI] at hok'; cases ty <;> exact absurd hok' (by simp [okR])
      exact W.vret B.exec B.bytes (hret.trans hn) (fun t ht hW => ⟨⟨none, μ', rfl, hq, hk, by rw [ht]; exact hP'⟩, hS'.F ht⟩) hS'.2.2 hr
    | some x =>
      cases x with
      | int z =>
        cases hI : I.2.2.2 with
        | none => rw [hI] at hok'; exact absurd hok' (by simp [okR])
        | some ty =>
          rw [hI] at hok'
          have hz : narrow ty (.int z) = .int z := by
            cases ty <;> first | exact hok'.1 | exact absurd hok' (by simp [okR])
          exact W.zret B.exec B.bytes (hret.trans hI) hz (fun t ht hW => ⟨⟨some (.int z), μ', rfl, hq, hok', by rw [ht]; exact hP'⟩, hS'.F ht⟩) hS'.2.2 hr
      | long z =>
        have hn : I.2.2.2 = some .long := by
          cases hI : I.2.2.2 with
          | none => rw [hI] at hok'; exact absurd hok' (by simp [okR])
          | some ty => rw [hI] at hok'; cases ty <;> first | rfl | exact absurd hok' (by simp [okR])
        exact W.lret B.exec B.bytes (hret.trans hn) (fun t ht hW => ⟨⟨some (.long z), μ', rfl, hq, hk, by rw [ht]; exact hP'⟩, hS'.F ht⟩) hS'.2.2 hr
      | _ => exact absurd hr (by simp [rIns])
  · have := lv_entry (cvS ad vs) (n := I.2.2.1) (by rw [lg_len, cvS_cats]; exact hfit)
    rw [lv_args_cv] at this
    exact this
theorem lwG_good : ∀ {y : MethodName} {b : ByteArray} {n : Nat} {r : Option FieldType}, Cond.code y b n r ∈ lwG → GoodIn lwG (Cond.code y b n r :: lwG) := fun h w hw => by
  have hm : w ∈ lwG := by
    rcases List.mem_cons.mp hw with rfl | hw
    · exact h
    · exact hw
  exact ⟨hm, good_of_word (List.mem_filter.mp hm).2⟩
section WC
variable {cc : ByteArray} {mt : Mt} {pc : Nat} {ls : List (Nat × Value)} {st : List Value} {μ : Mem} {Q : Option Value → Mem → Prop}
/-- what is common to all calls: from the run on -/
theorem wc_go {I : MI} {vs rest : List Value} {p : Program} {l : Launch} {e : Env} {R : Room} {s : State} {m : MethodId} {args : Array Value} {below : List Frame} {meth : Method} {c : Code} {D : va_G} {ad : Nat → Nat} {ca : Nat → ClassId} {A : Nat → Prop} {cells slots : Nat} {Qz : State → Prop} {H : Heap} {locs : List Loc} {la : Array Slot} {st0 : List Value}
    (C : Ctx cc mt p R s m args c D ad ca A cells slots)
    (hR : ∀ (v : Option Value) (μ' : Mem) (H' : Heap) (locs' : List Loc) (pc' : Nat) (la : Array Slot), Q v μ' → okR mt.2.2.1 v → va_P D vwCl (wsO ad ca μ') H' → va_S A s.heap H' locs' → rIns v cc pc' → W p l e R s m args below meth c H' locs' cells slots Qz (F0 m pc' la v.toList))
    (hS : va_S A s.heap H locs) (hl : lv_has la mt.2.1 (cvL ad ls))
    (hr : va_Run p l e R s m args below meth c H locs cells slots 0 0 (F0 m pc la st0) (cvS ad rest) (QcM D ad ca I.2.2.2 (fun v μ' => WP cc mt (pc + 3) ls (v.toList ++ rest) μ' Q) (cvS ad vs).toArray) (Aad ad)) :
    W p l e R s m args below meth c H locs cells slots Qz (F0 m pc la st0) := by
  have hsub : ∀ q, Aad ad q → A q := fun q h => by
    obtain ⟨k, hk, rfl⟩ := h
    exact C.2.2.2.2.2.2.2.2.1 k hk
  intro T hT X
  obtain ⟨v, st₀, t, T', L, h0, X', hL, e1, e2, ⟨⟨v', μ', hv, hq, hok, hP'⟩, hz, hk⟩, stp⟩ := hr T hT X
  cases hv
  rw [h0] at hz hk
  have hS' : va_S A s.heap T'.heap (locs ++ L) := ⟨Nat.le_trans hS.1 (by rw [e1]; exact hz), fun q h1 h2 => by rw [e1, hk q (Nat.lt_of_lt_of_le h1 hS.1) (fun z => h2 (hsub q z))]; exact hS.2.1 q h1 h2, fun q hq => by
      rcases List.mem_append.mp hq with h | h
      · exact hS.2.2 q h
      · exact hsub _ (hL q h)⟩
  have hw := hq p l e R s m args below meth c D ad ca A cells slots Qz C hR T'.heap (locs ++ L) (by rw [e1]; exact hP') hS' la hl
  obtain ⟨t2, a1, b1⟩ := hw T' rfl X'
  refine ⟨t2, stp t2 ?_, b1⟩
  have ev : cvS ad (v.toList ++ rest) = v.toList ++ cvS ad rest := by
    show List.map _ _ = _
    rw [List.map_append]
    show cvS ad v.toList ++ cvS ad rest = _
    rw [okR_cv hok]
  rw [ev] at a1
  exact a1
theorem wc_pre {D : va_G} {ad : Nat → Nat} {ca : Nat → ClassId} {A : Nat → Prop} {cells slots : Nat} {p : Program} {R : Room} {s : State} {m : MethodId} {args : Array Value} {c : Code} {H : Heap} {locs : List Loc} {vs : List Value} (C : Ctx cc mt p R s m args c D ad ca A cells slots) (hP : va_P D vwCl (wsO ad ca μ) H) (hS : va_S A s.heap H locs) : FrameBlind (PcM D ad ca vs μ) ∧ ∀ U : State, U.heap = H → s.WarmedH U.vm → PcM D ad ca vs μ (cvS ad vs).toArray U := by
  have hsub : ∀ q, Aad ad q → A q := fun q h => by
    obtain ⟨k, hk, rfl⟩ := h
    exact C.2.2.2.2.2.2.2.2.1 k hk
  refine ⟨fun a U g mk h => ?_, fun U hU hW => ⟨rfl, C.2.2.2.2.2.1.moved hW, ?_, by rw [hU]; exact hP⟩⟩
  · obtain ⟨h1, h2, h3, h4⟩ := h
    refine ⟨h1, ⟨fun c q hq => u_Kn_moved (u := U) (U := U.calling g mk a) (Vm.Alike.refl U.vm) (h2.1 c q hq), fun k t n b hk => ⟨arrOfT_moved (u := U) (E := U.calling g mk a) (Vm.Alike.refl U.vm) (h2.2.1 k t n b hk).1, (h2.2.1 k t n b hk).2.moved (u := U) (U := U.calling g mk a) (Vm.Alike.refl U.vm)⟩, fun q hq => va_Nw.same rfl (u := U) (U := U.calling g mk a) rfl (h2.2.2 q hq)⟩, h3.moved (u := U) (U := U.calling g mk a) (Vm.Alike.refl U.vm) (fun _ h => h) (fun _ _ _ => rfl), h4⟩
  · refine C.2.2.2.2.2.2.1.moved hW.alike hsub (fun a h1 h2 => ?_)
    rw [hU]
    exact hS.2.1 a h1 h2
theorem wc_room {I : MI} {n d' : Nat} {p : Program} {R : Room} {s : State} {m : MethodId} {args : Array Value} {c : Code} {D : va_G} {ad : Nat → Nat} {ca : Nat → ClassId} {A : Nat → Prop} {cells slots : Nat} (C : Ctx cc mt p R s m args c D ad ca A cells slots) (hok : okM I n) (hdd : d' + 1 ≤ mt.2.2.2.1) : (rmD d').frames + 1 ≤ R.frames ∧ 8 + (I.2.2.1 + 11) + (rmD d').locals ≤ R.locals := by
  have h1 := C.2.2.2.2.2.2.2.2.2.1
  have h2 := hok.2.2.2.1
  refine ⟨Nat.le_trans hdd h1.1, ?_⟩
  show 8 + (I.2.2.1 + 11) + 60 * d' ≤ R.locals
  have := h1.2
  omega
theorem r_callV {I : MI} {n d' idx k ci : Nat} {fl : List Nat} {As rest : List Value} (hd : decode cc pc = .ok (.invokevirtual idx, 3)) (hok : okV I n ci) (hlk : Cond.methodLink mt.1 idx I.1 ∈ lwG) (hk : SHl[k]? = some (.inr (ci, fl))) (hn : As.length = n) (hst : As.reverse ++ .ref k :: rest = st) (hrest : (rest.map fun v => v.category).sum ≤ 8) (hdd : d' + 1 ≤ mt.2.2.2.1) (h : Sp I d' (.ref k :: As) μ (fun v μ' => WP cc mt (pc + 3) ls (v.toList ++ rest) μ' Q)) : WP cc mt pc ls st μ Q := by
  subst hst
  intro p l e R s m args below meth c D ad ca A cells slots Qz C hR H locs hP hS la hl
  obtain ⟨hM, hi1, hi2, T, N, hc⟩ := hok
  have he := wsO_get (ad := ad) (ca := ca) (μ := μ) (SHl_lt hk)
  rw [ce_obj hk] at he
  have hts := C.2.2.2.2.1
  have hpre := wc_pre (vs := .ref k :: As) C hP hS
  have hrecv := va_recv C.2.2.2.2.2.1.K hP hc he
  refine wc_go (I := I) (vs := .ref k :: As) C hR hS hl (va_runV (Ts := lwG) (As := cvS ad As) (rest := cvS ad rest) (n := n) ⟨C.1, C.2.1, C.2.2.1, C.2.2.2.1, hts⟩ (h l D ad ca C.2.2.2.2.2.2.2.1) ⟨callB_of n hts (lwG_good hM.1) rfl rfl rfl (hts _ hM.2.1) (hts _ hlk) hM.2.2.1 (wc_room C hM hdd), hts _ hi1, hts _ hi2⟩ ⟨hpre.1, hrecv, hpre.2⟩ rfl (by unfold cvS; rw [List.length_map]; exact hn) hl.1 ?_ (lv_room (by rw [cvS_cats]; exact hrest)) hd ⟨C.2.2.2.2.2.2.2.2.2.2.1.1, C.2.2.2.2.2.2.2.2.2.2.1.2⟩)
  show cvS ad (As.reverse ++ Value.ref k :: rest) = _
  unfold cvS
  rw [List.map_append, List.map_reverse]
  rfl
theorem r_callS {I : MI} {n d' idx : Nat} {As rest : List Value} (hd : decode cc pc = .ok (.invokestatic idx, 3)) (hok : okS I n) (hlk : Cond.methodLink mt.1 idx I.1 ∈ lwG) (hn : As.length = n) (hst : As.reverse ++ rest = st) (hrest : (rest.map fun v => v.category).sum ≤ 8) (hdd : d' + 1 ≤ mt.2.2.2.1) (h : Sp I d' As μ (fun v μ' => WP cc mt (pc + 3) ls (v.toList ++ rest) μ' Q)) : WP cc mt pc ls st μ Q := by
  subst hst
  intro p l e R s m args below meth c D ad ca A cells slots Qz C hR H locs hP hS la hl
  obtain ⟨hM, hi1⟩ := hok
  have hts := C.2.2.2.2.1
  have hpre := wc_pre (vs := As) C hP hS
  refine wc_go (I := I) (vs := As) C hR hS hl (va_runS (Ts := lwG) (As := cvS ad As) (rest := cvS ad rest) (n := n) ⟨C.1, C.2.1, C.2.2.1, C.2.2.2.1, hts⟩ (h l D ad ca C.2.2.2.2.2.2.2.1) ⟨callB_of n hts (lwG_good hM.1) rfl rfl rfl (hts _ hM.2.1) (hts _ hlk) hM.2.2.1 (wc_room C hM hdd), hts _ hi1⟩ hpre rfl (by unfold cvS; rw [List.length_map]; exact hn) hl.1 ?_ (lv_room (by rw [cvS_cats]; exact hrest)) hd ⟨C.2.2.2.2.2.2.2.2.2.2.1.1, C.2.2.2.2.2.2.2.2.2.2.1.2⟩)
  show cvS ad (As.reverse ++ rest) = _
  unfold cvS
  rw [List.map_append, List.map_reverse]
theorem r_callN {I : MI} {n d' idx : Nat} {host : String} {As rest : List Value} (hd : decode cc pc = .ok (.invokestatic idx, 3)) (hok : okS I n) (hlk : (mt.1, idx, I.1, host) ∈ lwN) (hn : As.length = n) (hst : As.reverse ++ rest = st) (hrest : (rest.map fun v => v.category).sum ≤ 8) (hdd : d' + 1 ≤ mt.2.2.2.1) (h : Sp I d' As μ (fun v μ' => WP cc mt (pc + 3) ls (v.toList ++ rest) μ' Q)) : WP cc mt pc ls st μ Q := by
  subst hst
  intro p l e R s m args below meth c D ad ca A cells slots Qz C hR H locs hP hS la hl
  obtain ⟨hM, hi1⟩ := hok
  have hts := C.2.2.2.2.1
  have hpre := wc_pre (vs := As) C hP hS
  refine wc_go (I := I) (vs := As) C hR hS hl (va_runSN (Ts := lwG) (As := cvS ad As) (rest := cvS ad rest) (n := n) ⟨C.1, C.2.1, C.2.2.1, C.2.2.2.1, hts⟩ (h l D ad ca C.2.2.2.2.2.2.2.1) ⟨va_cnB n hts (lwG_good hM.1) rfl rfl rfl (C.2.2.2.2.2.1.2.2 _ hlk) (hts _ hM.2.1) hM.2.2.1 (wc_room C hM hdd), hts _ hi1, trivial⟩ hpre rfl (by unfold cvS; rw [List.length_map]; exact hn) hl.1 ?_ (lv_room (by rw [cvS_cats]; exact hrest)) hd ⟨C.2.2.2.2.2.2.2.2.2.2.1.1, C.2.2.2.2.2.2.2.2.2.2.1.2⟩)
  show cvS ad (As.reverse ++ rest) = _
  unfold cvS
  rw [List.map_append, List.map_reverse]
/-- a row of ints copied whole from 0 on: 12 places -/
def cpyI (μ : Mem) (k k' n : Nat) : Mem := (fun a => if a = k' then va_cpy (μ.1 k) (μ.1 k') 0 0 n else μ.1 a, μ.2)
theorem ce_cpyI {ad : Nat → Nat} {ca : Nat → ClassId} {μ : Mem} {k k' n : Nat} : ∀ j, j ≠ k' → ce ad ca (cpyI μ k k' n) j = ce ad ca μ j := fun j hj => ce_cong (by simp [cpyI, hj]) rfl
theorem r_copy {idx k k' n n0 n1 b0 b1 : Nat} {z0 z1 z2 : Int32} (hd : decode cc pc = .ok (.invokestatic idx, 3)) (hlk : Cond.methodLink mt.1 idx arraycopyName ∈ lwG) (hnat : Cond.native arraycopyName ∈ lwG) (hstat : Cond.static arraycopyName ∈ lwG) (hini : Cond.initialized "java/lang/System" ∈ lwG) (hk : SHl[k]? = some (.inl (0, n0, b0))) (hk' : SHl[k']? = some (.inl (0, n1, b1))) (h0 : z0 = nI 0) (h1 : z1 = nI 0) (h2 : z2 = nI n) (hn0 : n ≤ n0) (hn1 : n ≤ n1) (hrest : (st.map fun v => v.category).sum ≤ 8) (hdd : 1 ≤ mt.2.2.2.1) (h : WP cc mt (pc + 3) ls st (cpyI μ k k' n) Q) : WP cc mt pc ls (.int z2 :: .int z1 :: .ref k' :: .int z0 :: .ref k :: st) μ Q := by
  subst h0; subst h1; subst h2
  intro p l e R s m args below meth c D ad ca A cells slots Qz C hR H locs hP hS la hl
  have he := wsO_get (ad := ad) (ca := ca) (μ := μ) (SHl_lt hk)
  rw [ce_row hk] at he
  have he' := wsO_get (ad := ad) (ca := ca) (μ := μ) (SHl_lt hk')
  rw [ce_row hk'] at he'
  have hs0 := SHl_small hk
  have hts := C.2.2.2.2.1
  have c0 : (nI 0).toNatClampNeg = 0 := nI_clamp (by decide)
  have cn : (nI n).toNatClampNeg = n := nI_clamp (by omega)
  refine va_copyi C.1 C.2.1 (C.2.2.1.trans hl.1.symm) C.2.2.2.1 (hts _ hlk) (hts _ hnat) (hts _ hstat) (hts _ hini) (C.2.2.2.2.2.1.K2 hk hk') hP (wsO_D C.2.2.2.2.2.2.2.1 C.2.2.2.2.2.2.2.2.1) hS k k' 0 1 he he' rfl rfl rfl (nI_pos (by decide)) (nI_pos (by decide)) (nI_pos (by omega)) (by rw [c0, cn]; omega) (by rw [c0, cn]; omega) (fun i _ => rfl) (Nat.le_trans hdd C.2.2.2.2.2.2.2.2.2.1.1) ?_ hd (fun H1 locs1 hP1 hD1 hS1 => ?_)
  · have h1 := C.2.2.2.2.2.2.2.2.2.1.2
    show ((cvS ad st).map fun v => v.category).sum + _ ≤ R.locals
    rw [cvS_cats]
    have : nativeFrameWords "java/lang/System" "arraycopy" 5 + 11 ≤ 50 := by decide +kernel
    omega
  · refine h p l e R s m args below meth c D ad ca A cells slots Qz C hR H1 locs1 ?_ hS1 la hl
    rw [c0, cn] at hP1
    rw [← wsO_set ce_cpyI, ce_row hk']
    refine (congrArg (fun z => va_P D vwCl ((wsO ad ca μ).set k' (ad k', Sum.inl (ca k', n1, z))) H1) ?_).mp hP1
    simp [ceA, cpyI]
end WC
end
section
/-! FACTS out of the tables, by program -/
theorem lwT {w : Cond} (i : Nat) (h : tables_1[i]? = some w) (hg : goodWord w = true) : w ∈ lwG := List.mem_filter.mpr ⟨List.mem_append_right _ (List.mem_of_getElem? h), hg⟩
theorem lwP {w : Cond} (i : Nat) (h : (k2_sels lw_privs)[i]? = some w) (hg : goodWord w = true) : w ∈ lwG := List.mem_filter.mpr ⟨List.mem_append_left _ (List.mem_of_getElem? h), hg⟩
def iX6_board : MI := (yX6_board, cX6_board, 5, (some .int))
theorem vX6_board : okV iX6_board 4 6 := ⟨⟨lwT 226 (by decide +kernel) (by decide +kernel), lwT 1 (by decide +kernel) (by decide +kernel), by decide +kernel, by decide +kernel, by decide +kernel⟩, lwT 224 (by decide +kernel) (by decide +kernel), lwT 225 (by decide +kernel) (by decide +kernel), TX6, 7, rfl⟩
def iX6_isCoin : MI := (yX6_isCoin, cX6_isCoin, 1, (some .boolean))
theorem sX6_isCoin : okS iX6_isCoin 1 := ⟨⟨lwT 229 (by decide +kernel) (by decide +kernel), lwT 1 (by decide +kernel) (by decide +kernel), by decide +kernel, by decide +kernel, by decide +kernel⟩, lwT 228 (by decide +kernel) (by decide +kernel)⟩
def iX6_isWithin : MI := (yX6_isWithin, cX6_isWithin, 3, (some .boolean))
theorem sX6_isWithin : okS iX6_isWithin 3 := ⟨⟨lwT 232 (by decide +kernel) (by decide +kernel), lwT 1 (by decide +kernel) (by decide +kernel), by decide +kernel, by decide +kernel, by decide +kernel⟩, lwT 231 (by decide +kernel) (by decide +kernel)⟩
def iX6_forget : MI := (yX6_forget, cX6_forget, 1, none)
theorem vX6_forget : okV iX6_forget 0 6 := ⟨⟨lwT 236 (by decide +kernel) (by decide +kernel), lwT 1 (by decide +kernel) (by decide +kernel), by decide +kernel, by decide +kernel, by decide +kernel⟩, lwT 235 (by decide +kernel) (by decide +kernel), lwP 0 (by decide +kernel) (by decide +kernel), TX6, 7, rfl⟩
def iX0_add : MI := (yX0_add, cX0_add, 5, none)
theorem vX0_add : okV iX0_add 4 0 := ⟨⟨lwT 240 (by decide +kernel) (by decide +kernel), lwT 2 (by decide +kernel) (by decide +kernel), by decide +kernel, by decide +kernel, by decide +kernel⟩, lwT 238 (by decide +kernel) (by decide +kernel), lwT 239 (by decide +kernel) (by decide +kernel), TX0, 9, rfl⟩
def iX6_of : MI := (yX6_of, cX6_of, 3, (some .int))
theorem vX6_of : okV iX6_of 2 6 := ⟨⟨lwT 245 (by decide +kernel) (by decide +kernel), lwT 1 (by decide +kernel) (by decide +kernel), by decide +kernel, by decide +kernel, by decide +kernel⟩, lwT 243 (by decide +kernel) (by decide +kernel), lwT 244 (by decide +kernel) (by decide +kernel), TX6, 7, rfl⟩
def iX0_has : MI := (yX0_has, cX0_has, 2, (some .boolean))
theorem vX0_has : okV iX0_has 1 0 := ⟨⟨lwT 249 (by decide +kernel) (by decide +kernel), lwT 2 (by decide +kernel) (by decide +kernel), by decide +kernel, by decide +kernel, by decide +kernel⟩, lwT 247 (by decide +kernel) (by decide +kernel), lwT 248 (by decide +kernel) (by decide +kernel), TX0, 9, rfl⟩
def iX0_isOpen : MI := (yX0_isOpen, cX0_isOpen, 2, (some .boolean))
theorem vX0_isOpen : okV iX0_isOpen 1 0 := ⟨⟨lwT 253 (by decide +kernel) (by decide +kernel), lwT 2 (by decide +kernel) (by decide +kernel), by decide +kernel, by decide +kernel, by decide +kernel⟩, lwT 251 (by decide +kernel) (by decide +kernel), lwT 252 (by decide +kernel) (by decide +kernel), TX0, 9, rfl⟩
def iX0_upper : MI := (yX0_upper, cX0_upper, 2, (some .int))
theorem vX0_upper : okV iX0_upper 1 0 := ⟨⟨lwT 259 (by decide +kernel) (by decide +kernel), lwT 2 (by decide +kernel) (by decide +kernel), by decide +kernel, by decide +kernel, by decide +kernel⟩, lwT 257 (by decide +kernel) (by decide +kernel), lwT 258 (by decide +kernel) (by decide +kernel), TX0, 9, rfl⟩
def iX6_rateUpper : MI := (yX6_rateUpper, cX6_rateUpper, 2, (some .int))
theorem sX6_rateUpper : okS iX6_rateUpper 2 := ⟨⟨lwT 262 (by decide +kernel) (by decide +kernel), lwT 1 (by decide +kernel) (by decide +kernel), by decide +kernel, by decide +kernel, by decide +kernel⟩, lwT 261 (by decide +kernel) (by decide +kernel)⟩
def iX6_change : MI := (yX6_change, cX6_change, 6, (some .int))
theorem vX6_change : okV iX6_change 3 6 := ⟨⟨lwT 266 (by decide +kernel) (by decide +kernel), lwT 1 (by decide +kernel) (by decide +kernel), by decide +kernel, by decide +kernel, by decide +kernel⟩, lwT 264 (by decide +kernel) (by decide +kernel), lwT 265 (by decide +kernel) (by decide +kernel), TX6, 7, rfl⟩
def iX6_hours : MI := (yX6_hours, cX6_hours, 4, (some .int))
theorem vX6_hours : okV iX6_hours 3 6 := ⟨⟨lwT 271 (by decide +kernel) (by decide +kernel), lwT 1 (by decide +kernel) (by decide +kernel), by decide +kernel, by decide +kernel, by decide +kernel⟩, lwT 269 (by decide +kernel) (by decide +kernel), lwT 270 (by decide +kernel) (by decide +kernel), TX6, 7, rfl⟩
def iX6_set : MI := (yX6_set, cX6_set, 4, (some .int))
theorem vX6_set : okV iX6_set 2 6 := ⟨⟨lwT 275 (by decide +kernel) (by decide +kernel), lwT 1 (by decide +kernel) (by decide +kernel), by decide +kernel, by decide +kernel, by decide +kernel⟩, lwT 273 (by decide +kernel) (by decide +kernel), lwT 274 (by decide +kernel) (by decide +kernel), TX6, 7, rfl⟩
def iX6_say : MI := (yX6_say, cX6_say, 2, (some .int))
theorem vX6_say : okV iX6_say 1 6 := ⟨⟨lwT 283 (by decide +kernel) (by decide +kernel), lwT 1 (by decide +kernel) (by decide +kernel), by decide +kernel, by decide +kernel, by decide +kernel⟩, lwT 281 (by decide +kernel) (by decide +kernel), lwT 282 (by decide +kernel) (by decide +kernel), TX6, 7, rfl⟩
def iX3_add : MI := (yX3_add, cX3_add, 2, none)
theorem vX3_add : okV iX3_add 1 3 := ⟨⟨lwT 287 (by decide +kernel) (by decide +kernel), lwT 3 (by decide +kernel) (by decide +kernel), by decide +kernel, by decide +kernel, by decide +kernel⟩, lwT 285 (by decide +kernel) (by decide +kernel), lwT 286 (by decide +kernel) (by decide +kernel), TX3, 7, rfl⟩
def iX6_wipe : MI := (yX6_wipe, cX6_wipe, 2, (some .int))
theorem vX6_wipe : okV iX6_wipe 0 6 := ⟨⟨lwT 291 (by decide +kernel) (by decide +kernel), lwT 1 (by decide +kernel) (by decide +kernel), by decide +kernel, by decide +kernel, by decide +kernel⟩, lwT 289 (by decide +kernel) (by decide +kernel), lwT 290 (by decide +kernel) (by decide +kernel), TX6, 7, rfl⟩
def iX6_fault : MI := (yX6_fault, cX6_fault, 1, (some .int))
theorem vX6_fault : okV iX6_fault 0 6 := ⟨⟨lwT 295 (by decide +kernel) (by decide +kernel), lwT 1 (by decide +kernel) (by decide +kernel), by decide +kernel, by decide +kernel, by decide +kernel⟩, lwT 293 (by decide +kernel) (by decide +kernel), lwT 294 (by decide +kernel) (by decide +kernel), TX6, 7, rfl⟩
def iX3_faultPlace : MI := (yX3_faultPlace, cX3_faultPlace, 2, (some .int))
theorem vX3_faultPlace : okV iX3_faultPlace 0 3 := ⟨⟨lwT 299 (by decide +kernel) (by decide +kernel), lwT 3 (by decide +kernel) (by decide +kernel), by decide +kernel, by decide +kernel, by decide +kernel⟩, lwT 297 (by decide +kernel) (by decide +kernel), lwT 298 (by decide +kernel) (by decide +kernel), TX3, 7, rfl⟩
def iX3_passBoard : MI := (yX3_passBoard, cX3_passBoard, 1, (some .boolean))
theorem vX3_passBoard : okV iX3_passBoard 0 3 := ⟨⟨lwT 303 (by decide +kernel) (by decide +kernel), lwT 3 (by decide +kernel) (by decide +kernel), by decide +kernel, by decide +kernel, by decide +kernel⟩, lwT 302 (by decide +kernel) (by decide +kernel), lwP 1 (by decide +kernel) (by decide +kernel), TX3, 7, rfl⟩
def iX3_passCoins : MI := (yX3_passCoins, cX3_passCoins, 2, (some .boolean))
theorem vX3_passCoins : okV iX3_passCoins 1 3 := ⟨⟨lwT 307 (by decide +kernel) (by decide +kernel), lwT 3 (by decide +kernel) (by decide +kernel), by decide +kernel, by decide +kernel, by decide +kernel⟩, lwT 306 (by decide +kernel) (by decide +kernel), lwP 2 (by decide +kernel) (by decide +kernel), TX3, 7, rfl⟩
def iX3_passOneOf : MI := (yX3_passOneOf, cX3_passOneOf, 3, (some .boolean))
theorem vX3_passOneOf : okV iX3_passOneOf 2 3 := ⟨⟨lwT 311 (by decide +kernel) (by decide +kernel), lwT 3 (by decide +kernel) (by decide +kernel), by decide +kernel, by decide +kernel, by decide +kernel⟩, lwT 310 (by decide +kernel) (by decide +kernel), lwP 3 (by decide +kernel) (by decide +kernel), TX3, 7, rfl⟩
def iX6_read : MI := (yX6_read, cX6_read, 2, (some .int))
theorem vX6_read : okV iX6_read 0 6 := ⟨⟨lwT 315 (by decide +kernel) (by decide +kernel), lwT 1 (by decide +kernel) (by decide +kernel), by decide +kernel, by decide +kernel, by decide +kernel⟩, lwT 313 (by decide +kernel) (by decide +kernel), lwT 314 (by decide +kernel) (by decide +kernel), TX6, 7, rfl⟩
def iX3_countBoards : MI := (yX3_countBoards, cX3_countBoards, 3, (some .int))
theorem vX3_countBoards : okV iX3_countBoards 0 3 := ⟨⟨lwT 319 (by decide +kernel) (by decide +kernel), lwT 3 (by decide +kernel) (by decide +kernel), by decide +kernel, by decide +kernel, by decide +kernel⟩, lwT 317 (by decide +kernel) (by decide +kernel), lwT 318 (by decide +kernel) (by decide +kernel), TX3, 7, rfl⟩
def iX3_hangUp : MI := (yX3_hangUp, cX3_hangUp, 4, none)
theorem vX3_hangUp : okV iX3_hangUp 2 3 := ⟨⟨lwT 323 (by decide +kernel) (by decide +kernel), lwT 3 (by decide +kernel) (by decide +kernel), by decide +kernel, by decide +kernel, by decide +kernel⟩, lwT 321 (by decide +kernel) (by decide +kernel), lwT 322 (by decide +kernel) (by decide +kernel), TX3, 7, rfl⟩
def iX6_rounds : MI := (yX6_rounds, cX6_rounds, 2, (some .int))
theorem vX6_rounds : okV iX6_rounds 1 6 := ⟨⟨lwT 328 (by decide +kernel) (by decide +kernel), lwT 1 (by decide +kernel) (by decide +kernel), by decide +kernel, by decide +kernel, by decide +kernel⟩, lwT 326 (by decide +kernel) (by decide +kernel), lwT 327 (by decide +kernel) (by decide +kernel), TX6, 7, rfl⟩
def iX6_lookAround : MI := (yX6_lookAround, cX6_lookAround, 1, none)
theorem vX6_lookAround : okV iX6_lookAround 0 6 := ⟨⟨lwT 332 (by decide +kernel) (by decide +kernel), lwT 1 (by decide +kernel) (by decide +kernel), by decide +kernel, by decide +kernel, by decide +kernel⟩, lwT 331 (by decide +kernel) (by decide +kernel), lwP 4 (by decide +kernel) (by decide +kernel), TX6, 7, rfl⟩
def iX2_findAll : MI := (yX2_findAll, cX2_findAll, 3, none)
theorem vX2_findAll : okV iX2_findAll 1 2 := ⟨⟨lwT 336 (by decide +kernel) (by decide +kernel), lwT 4 (by decide +kernel) (by decide +kernel), by decide +kernel, by decide +kernel, by decide +kernel⟩, lwT 334 (by decide +kernel) (by decide +kernel), lwT 335 (by decide +kernel) (by decide +kernel), TX2, 8, rfl⟩
def iX2_goOn : MI := (yX2_goOn, cX2_goOn, 12, none)
theorem sX2_goOn : okS iX2_goOn 7 := ⟨⟨lwT 339 (by decide +kernel) (by decide +kernel), lwT 4 (by decide +kernel) (by decide +kernel), by decide +kernel, by decide +kernel, by decide +kernel⟩, lwT 338 (by decide +kernel) (by decide +kernel)⟩
def iX2_keep : MI := (yX2_keep, cX2_keep, 6, none)
theorem vX2_keep : okV iX2_keep 2 2 := ⟨⟨lwT 344 (by decide +kernel) (by decide +kernel), lwT 4 (by decide +kernel) (by decide +kernel), by decide +kernel, by decide +kernel, by decide +kernel⟩, lwT 343 (by decide +kernel) (by decide +kernel), lwP 5 (by decide +kernel) (by decide +kernel), TX2, 8, rfl⟩
def iX2_boardAt : MI := (yX2_boardAt, cX2_boardAt, 3, (some .int))
theorem vX2_boardAt : okV iX2_boardAt 2 2 := ⟨⟨lwT 348 (by decide +kernel) (by decide +kernel), lwT 4 (by decide +kernel) (by decide +kernel), by decide +kernel, by decide +kernel, by decide +kernel⟩, lwT 346 (by decide +kernel) (by decide +kernel), lwT 347 (by decide +kernel) (by decide +kernel), TX2, 8, rfl⟩
def iX2_gains : MI := (yX2_gains, cX2_gains, 4, (some .boolean))
theorem vX2_gains : okV iX2_gains 3 2 := ⟨⟨lwT 354 (by decide +kernel) (by decide +kernel), lwT 4 (by decide +kernel) (by decide +kernel), by decide +kernel, by decide +kernel, by decide +kernel⟩, lwT 353 (by decide +kernel) (by decide +kernel), lwP 6 (by decide +kernel) (by decide +kernel), TX2, 8, rfl⟩
def iX2_upper : MI := (yX2_upper, cX2_upper, 8, (some .long))
theorem vX2_upper : okV iX2_upper 3 2 := ⟨⟨lwT 358 (by decide +kernel) (by decide +kernel), lwT 4 (by decide +kernel) (by decide +kernel), by decide +kernel, by decide +kernel, by decide +kernel⟩, lwT 356 (by decide +kernel) (by decide +kernel), lwT 357 (by decide +kernel) (by decide +kernel), TX2, 8, rfl⟩
def iX6_round : MI := (yX6_round, cX6_round, 5, (some .int))
theorem vX6_round : okV iX6_round 2 6 := ⟨⟨lwT 363 (by decide +kernel) (by decide +kernel), lwT 1 (by decide +kernel) (by decide +kernel), by decide +kernel, by decide +kernel, by decide +kernel⟩, lwT 361 (by decide +kernel) (by decide +kernel), lwT 362 (by decide +kernel) (by decide +kernel), TX6, 7, rfl⟩
def iX2_hasGainer : MI := (yX2_hasGainer, cX2_hasGainer, 2, (some .boolean))
theorem vX2_hasGainer : okV iX2_hasGainer 1 2 := ⟨⟨lwT 367 (by decide +kernel) (by decide +kernel), lwT 4 (by decide +kernel) (by decide +kernel), by decide +kernel, by decide +kernel, by decide +kernel⟩, lwT 365 (by decide +kernel) (by decide +kernel), lwT 366 (by decide +kernel) (by decide +kernel), TX2, 8, rfl⟩
def iX2_length : MI := (yX2_length, cX2_length, 2, (some .int))
theorem vX2_length : okV iX2_length 1 2 := ⟨⟨lwT 371 (by decide +kernel) (by decide +kernel), lwT 4 (by decide +kernel) (by decide +kernel), by decide +kernel, by decide +kernel, by decide +kernel⟩, lwT 369 (by decide +kernel) (by decide +kernel), lwT 370 (by decide +kernel) (by decide +kernel), TX2, 8, rfl⟩
def iJ6_bitCount_0f7a4 : MI := (yJ6_bitCount_0f7a4, cJ6_bitCount_0f7a4, 1, (some .int))
theorem sJ6_bitCount_0f7a4 : okS iJ6_bitCount_0f7a4 1 := ⟨⟨lwT 374 (by decide +kernel) (by decide +kernel), lwT 9 (by decide +kernel) (by decide +kernel), by decide +kernel, by decide +kernel, by decide +kernel⟩, lwT 373 (by decide +kernel) (by decide +kernel)⟩
def iX6_product : MI := (yX6_product, cX6_product, 8, (some .long))
theorem vX6_product : okV iX6_product 2 6 := ⟨⟨lwT 382 (by decide +kernel) (by decide +kernel), lwT 1 (by decide +kernel) (by decide +kernel), by decide +kernel, by decide +kernel, by decide +kernel⟩, lwT 380 (by decide +kernel) (by decide +kernel), lwT 381 (by decide +kernel) (by decide +kernel), TX6, 7, rfl⟩
def iX6_greatestDivisor : MI := (yX6_greatestDivisor, cX6_greatestDivisor, 7, (some .long))
theorem sX6_greatestDivisor : okS iX6_greatestDivisor 2 := ⟨⟨lwT 388 (by decide +kernel) (by decide +kernel), lwT 1 (by decide +kernel) (by decide +kernel), by decide +kernel, by decide +kernel, by decide +kernel⟩, lwT 387 (by decide +kernel) (by decide +kernel)⟩
def iX6_inLowestTerms : MI := (yX6_inLowestTerms, cX6_inLowestTerms, 4, (some .long))
theorem sX6_inLowestTerms : okS iX6_inLowestTerms 2 := ⟨⟨lwT 391 (by decide +kernel) (by decide +kernel), lwT 1 (by decide +kernel) (by decide +kernel), by decide +kernel, by decide +kernel, by decide +kernel⟩, lwT 390 (by decide +kernel) (by decide +kernel)⟩
def iX6_best : MI := (yX6_best, cX6_best, 3, (some .int))
theorem vX6_best : okV iX6_best 1 6 := ⟨⟨lwT 395 (by decide +kernel) (by decide +kernel), lwT 1 (by decide +kernel) (by decide +kernel), by decide +kernel, by decide +kernel, by decide +kernel⟩, lwT 393 (by decide +kernel) (by decide +kernel), lwT 394 (by decide +kernel) (by decide +kernel), TX6, 7, rfl⟩
def iX2_greatest : MI := (yX2_greatest, cX2_greatest, 11, (some .int))
theorem vX2_greatest : okV iX2_greatest 2 2 := ⟨⟨lwT 399 (by decide +kernel) (by decide +kernel), lwT 4 (by decide +kernel) (by decide +kernel), by decide +kernel, by decide +kernel, by decide +kernel⟩, lwT 397 (by decide +kernel) (by decide +kernel), lwT 398 (by decide +kernel) (by decide +kernel), TX2, 8, rfl⟩
def iX6_isAbove : MI := (yX6_isAbove, cX6_isAbove, 18, (some .boolean))
theorem sX6_isAbove : okS iX6_isAbove 4 := ⟨⟨lwT 402 (by decide +kernel) (by decide +kernel), lwT 1 (by decide +kernel) (by decide +kernel), by decide +kernel, by decide +kernel, by decide +kernel⟩, lwT 401 (by decide +kernel) (by decide +kernel)⟩
def iX2_shortest : MI := (yX2_shortest, cX2_shortest, 4, (some .int))
theorem vX2_shortest : okV iX2_shortest 0 2 := ⟨⟨lwT 406 (by decide +kernel) (by decide +kernel), lwT 4 (by decide +kernel) (by decide +kernel), by decide +kernel, by decide +kernel, by decide +kernel⟩, lwT 404 (by decide +kernel) (by decide +kernel), lwT 405 (by decide +kernel) (by decide +kernel), TX2, 8, rfl⟩
def iX2_numberOfGainer : MI := (yX2_numberOfGainer, cX2_numberOfGainer, 3, (some .int))
theorem vX2_numberOfGainer : okV iX2_numberOfGainer 1 2 := ⟨⟨lwT 411 (by decide +kernel) (by decide +kernel), lwT 4 (by decide +kernel) (by decide +kernel), by decide +kernel, by decide +kernel, by decide +kernel⟩, lwT 409 (by decide +kernel) (by decide +kernel), lwT 410 (by decide +kernel) (by decide +kernel), TX2, 8, rfl⟩
def iX6_through : MI := (yX6_through, cX6_through, 2, (some .int))
theorem vX6_through : okV iX6_through 1 6 := ⟨⟨lwT 415 (by decide +kernel) (by decide +kernel), lwT 1 (by decide +kernel) (by decide +kernel), by decide +kernel, by decide +kernel, by decide +kernel⟩, lwT 413 (by decide +kernel) (by decide +kernel), lwT 414 (by decide +kernel) (by decide +kernel), TX6, 7, rfl⟩
def iX2_countThrough : MI := (yX2_countThrough, cX2_countThrough, 4, (some .int))
theorem vX2_countThrough : okV iX2_countThrough 1 2 := ⟨⟨lwT 419 (by decide +kernel) (by decide +kernel), lwT 4 (by decide +kernel) (by decide +kernel), by decide +kernel, by decide +kernel, by decide +kernel⟩, lwT 417 (by decide +kernel) (by decide +kernel), lwT 418 (by decide +kernel) (by decide +kernel), TX2, 8, rfl⟩
def iX6_blamed : MI := (yX6_blamed, cX6_blamed, 1, (some .int))
theorem vX6_blamed : okV iX6_blamed 0 6 := ⟨⟨lwT 423 (by decide +kernel) (by decide +kernel), lwT 1 (by decide +kernel) (by decide +kernel), by decide +kernel, by decide +kernel, by decide +kernel⟩, lwT 421 (by decide +kernel) (by decide +kernel), lwT 422 (by decide +kernel) (by decide +kernel), TX6, 7, rfl⟩
def iX2_commonBits : MI := (yX2_commonBits, cX2_commonBits, 3, (some .int))
theorem vX2_commonBits : okV iX2_commonBits 0 2 := ⟨⟨lwT 427 (by decide +kernel) (by decide +kernel), lwT 4 (by decide +kernel) (by decide +kernel), by decide +kernel, by decide +kernel, by decide +kernel⟩, lwT 425 (by decide +kernel) (by decide +kernel), lwT 426 (by decide +kernel) (by decide +kernel), TX2, 8, rfl⟩
def iX6_cut : MI := (yX6_cut, cX6_cut, 1, (some .int))
theorem vX6_cut : okV iX6_cut 0 6 := ⟨⟨lwT 431 (by decide +kernel) (by decide +kernel), lwT 1 (by decide +kernel) (by decide +kernel), by decide +kernel, by decide +kernel, by decide +kernel⟩, lwT 429 (by decide +kernel) (by decide +kernel), lwT 430 (by decide +kernel) (by decide +kernel), TX6, 7, rfl⟩
def iX0_openBits : MI := (yX0_openBits, cX0_openBits, 3, (some .int))
theorem vX0_openBits : okV iX0_openBits 0 0 := ⟨⟨lwT 435 (by decide +kernel) (by decide +kernel), lwT 2 (by decide +kernel) (by decide +kernel), by decide +kernel, by decide +kernel, by decide +kernel⟩, lwT 433 (by decide +kernel) (by decide +kernel), lwT 434 (by decide +kernel) (by decide +kernel), TX0, 9, rfl⟩
def iX2_fewestThatHit : MI := (yX2_fewestThatHit, cX2_fewestThatHit, 4, (some .int))
theorem vX2_fewestThatHit : okV iX2_fewestThatHit 1 2 := ⟨⟨lwT 440 (by decide +kernel) (by decide +kernel), lwT 4 (by decide +kernel) (by decide +kernel), by decide +kernel, by decide +kernel, by decide +kernel⟩, lwT 438 (by decide +kernel) (by decide +kernel), lwT 439 (by decide +kernel) (by decide +kernel), TX2, 8, rfl⟩
def iX2_hitsAll : MI := (yX2_hitsAll, cX2_hitsAll, 3, (some .boolean))
theorem vX2_hitsAll : okV iX2_hitsAll 1 2 := ⟨⟨lwT 444 (by decide +kernel) (by decide +kernel), lwT 4 (by decide +kernel) (by decide +kernel), by decide +kernel, by decide +kernel, by decide +kernel⟩, lwT 443 (by decide +kernel) (by decide +kernel), lwP 7 (by decide +kernel) (by decide +kernel), TX2, 8, rfl⟩
def iX6_move : MI := (yX6_move, cX6_move, 2, (some .int))
theorem vX6_move : okV iX6_move 1 6 := ⟨⟨lwT 448 (by decide +kernel) (by decide +kernel), lwT 1 (by decide +kernel) (by decide +kernel), by decide +kernel, by decide +kernel, by decide +kernel⟩, lwT 446 (by decide +kernel) (by decide +kernel), lwT 447 (by decide +kernel) (by decide +kernel), TX6, 7, rfl⟩
def iX2_leastMove : MI := (yX2_leastMove, cX2_leastMove, 4, (some .int))
theorem vX2_leastMove : okV iX2_leastMove 2 2 := ⟨⟨lwT 452 (by decide +kernel) (by decide +kernel), lwT 4 (by decide +kernel) (by decide +kernel), by decide +kernel, by decide +kernel, by decide +kernel⟩, lwT 450 (by decide +kernel) (by decide +kernel), lwT 451 (by decide +kernel) (by decide +kernel), TX2, 8, rfl⟩
def iX2_anyGains : MI := (yX2_anyGains, cX2_anyGains, 4, (some .boolean))
theorem vX2_anyGains : okV iX2_anyGains 2 2 := ⟨⟨lwT 459 (by decide +kernel) (by decide +kernel), lwT 4 (by decide +kernel) (by decide +kernel), by decide +kernel, by decide +kernel, by decide +kernel⟩, lwT 457 (by decide +kernel) (by decide +kernel), lwT 458 (by decide +kernel) (by decide +kernel), TX2, 8, rfl⟩
def iX6_edge : MI := (yX6_edge, cX6_edge, 2, (some .int))
theorem vX6_edge : okV iX6_edge 0 6 := ⟨⟨lwT 463 (by decide +kernel) (by decide +kernel), lwT 1 (by decide +kernel) (by decide +kernel), by decide +kernel, by decide +kernel, by decide +kernel⟩, lwT 461 (by decide +kernel) (by decide +kernel), lwT 462 (by decide +kernel) (by decide +kernel), TX6, 7, rfl⟩
def iX6_gets : MI := (yX6_gets, cX6_gets, 5, (some .long))
theorem vX6_gets : okV iX6_gets 3 6 := ⟨⟨lwT 468 (by decide +kernel) (by decide +kernel), lwT 1 (by decide +kernel) (by decide +kernel), by decide +kernel, by decide +kernel, by decide +kernel⟩, lwT 466 (by decide +kernel) (by decide +kernel), lwT 467 (by decide +kernel) (by decide +kernel), TX6, 7, rfl⟩
def iX6_refuseFraction : MI := (yX6_refuseFraction, cX6_refuseFraction, 5, (some .int))
theorem vX6_refuseFraction : okV iX6_refuseFraction 4 6 := ⟨⟨lwT 472 (by decide +kernel) (by decide +kernel), lwT 1 (by decide +kernel) (by decide +kernel), by decide +kernel, by decide +kernel, by decide +kernel⟩, lwT 471 (by decide +kernel) (by decide +kernel), lwP 8 (by decide +kernel) (by decide +kernel), TX6, 7, rfl⟩
def iX5_spread : MI := (yX5_spread, cX5_spread, 5, none)
theorem vX5_spread : okV iX5_spread 2 5 := ⟨⟨lwT 477 (by decide +kernel) (by decide +kernel), lwT 5 (by decide +kernel) (by decide +kernel), by decide +kernel, by decide +kernel, by decide +kernel⟩, lwT 475 (by decide +kernel) (by decide +kernel), lwT 476 (by decide +kernel) (by decide +kernel), TX5, 3, rfl⟩
def iX5_goOver : MI := (yX5_goOver, cX5_goOver, 11, none)
theorem vX5_goOver : okV iX5_goOver 2 5 := ⟨⟨lwT 482 (by decide +kernel) (by decide +kernel), lwT 5 (by decide +kernel) (by decide +kernel), by decide +kernel, by decide +kernel, by decide +kernel⟩, lwT 481 (by decide +kernel) (by decide +kernel), lwP 9 (by decide +kernel) (by decide +kernel), TX5, 3, rfl⟩
def iX6_span : MI := (yX6_span, cX6_span, 7, (some .long))
theorem vX6_span : okV iX6_span 4 6 := ⟨⟨lwT 490 (by decide +kernel) (by decide +kernel), lwT 1 (by decide +kernel) (by decide +kernel), by decide +kernel, by decide +kernel, by decide +kernel⟩, lwT 488 (by decide +kernel) (by decide +kernel), lwT 489 (by decide +kernel) (by decide +kernel), TX6, 7, rfl⟩
def iX6_joined : MI := (yX6_joined, cX6_joined, 2, (some .int))
theorem vX6_joined : okV iX6_joined 1 6 := ⟨⟨lwT 495 (by decide +kernel) (by decide +kernel), lwT 1 (by decide +kernel) (by decide +kernel), by decide +kernel, by decide +kernel, by decide +kernel⟩, lwT 493 (by decide +kernel) (by decide +kernel), lwT 494 (by decide +kernel) (by decide +kernel), TX6, 7, rfl⟩
def iX5_reachOut : MI := (yX5_reachOut, cX5_reachOut, 4, none)
theorem vX5_reachOut : okV iX5_reachOut 1 5 := ⟨⟨lwT 499 (by decide +kernel) (by decide +kernel), lwT 5 (by decide +kernel) (by decide +kernel), by decide +kernel, by decide +kernel, by decide +kernel⟩, lwT 497 (by decide +kernel) (by decide +kernel), lwT 498 (by decide +kernel) (by decide +kernel), TX5, 3, rfl⟩
def iX5_joinedBits : MI := (yX5_joinedBits, cX5_joinedBits, 4, (some .int))
theorem vX5_joinedBits : okV iX5_joinedBits 1 5 := ⟨⟨lwT 503 (by decide +kernel) (by decide +kernel), lwT 5 (by decide +kernel) (by decide +kernel), by decide +kernel, by decide +kernel, by decide +kernel⟩, lwT 501 (by decide +kernel) (by decide +kernel), lwT 502 (by decide +kernel) (by decide +kernel), TX5, 3, rfl⟩
def iX6_parts : MI := (yX6_parts, cX6_parts, 1, (some .int))
theorem vX6_parts : okV iX6_parts 0 6 := ⟨⟨lwT 507 (by decide +kernel) (by decide +kernel), lwT 1 (by decide +kernel) (by decide +kernel), by decide +kernel, by decide +kernel, by decide +kernel⟩, lwT 505 (by decide +kernel) (by decide +kernel), lwT 506 (by decide +kernel) (by decide +kernel), TX6, 7, rfl⟩
def iX5_countSets : MI := (yX5_countSets, cX5_countSets, 3, (some .int))
theorem vX5_countSets : okV iX5_countSets 0 5 := ⟨⟨lwT 511 (by decide +kernel) (by decide +kernel), lwT 5 (by decide +kernel) (by decide +kernel), by decide +kernel, by decide +kernel, by decide +kernel⟩, lwT 509 (by decide +kernel) (by decide +kernel), lwT 510 (by decide +kernel) (by decide +kernel), TX5, 3, rfl⟩
def iJ6_lowestOneBit_0f7a4 : MI := (yJ6_lowestOneBit_0f7a4, cJ6_lowestOneBit_0f7a4, 1, (some .int))
theorem sJ6_lowestOneBit_0f7a4 : okS iJ6_lowestOneBit_0f7a4 1 := ⟨⟨lwT 515 (by decide +kernel) (by decide +kernel), lwT 9 (by decide +kernel) (by decide +kernel), by decide +kernel, by decide +kernel, by decide +kernel⟩, lwT 514 (by decide +kernel) (by decide +kernel)⟩
def iX6_worth : MI := (yX6_worth, cX6_worth, 4, (some .int))
theorem vX6_worth : okV iX6_worth 2 6 := ⟨⟨lwT 519 (by decide +kernel) (by decide +kernel), lwT 1 (by decide +kernel) (by decide +kernel), by decide +kernel, by decide +kernel, by decide +kernel⟩, lwT 517 (by decide +kernel) (by decide +kernel), lwT 518 (by decide +kernel) (by decide +kernel), TX6, 7, rfl⟩
def iX6_off : MI := (yX6_off, cX6_off, 7, (some .int))
theorem vX6_off : okV iX6_off 1 6 := ⟨⟨lwT 523 (by decide +kernel) (by decide +kernel), lwT 1 (by decide +kernel) (by decide +kernel), by decide +kernel, by decide +kernel, by decide +kernel⟩, lwT 521 (by decide +kernel) (by decide +kernel), lwT 522 (by decide +kernel) (by decide +kernel), TX6, 7, rfl⟩
def iX6_excess : MI := (yX6_excess, cX6_excess, 2, (some .int))
theorem vX6_excess : okV iX6_excess 1 6 := ⟨⟨lwT 527 (by decide +kernel) (by decide +kernel), lwT 1 (by decide +kernel) (by decide +kernel), by decide +kernel, by decide +kernel, by decide +kernel⟩, lwT 526 (by decide +kernel) (by decide +kernel), lwP 10 (by decide +kernel) (by decide +kernel), TX6, 7, rfl⟩
def iX6_walk : MI := (yX6_walk, cX6_walk, 7, (some .int))
theorem vX6_walk : okV iX6_walk 5 6 := ⟨⟨lwT 531 (by decide +kernel) (by decide +kernel), lwT 1 (by decide +kernel) (by decide +kernel), by decide +kernel, by decide +kernel, by decide +kernel⟩, lwT 529 (by decide +kernel) (by decide +kernel), lwT 530 (by decide +kernel) (by decide +kernel), TX6, 7, rfl⟩
def iX1_goAll : MI := (yX1_goAll, cX1_goAll, 9, none)
theorem vX1_goAll : okV iX1_goAll 4 1 := ⟨⟨lwT 535 (by decide +kernel) (by decide +kernel), lwT 6 (by decide +kernel) (by decide +kernel), by decide +kernel, by decide +kernel, by decide +kernel⟩, lwT 533 (by decide +kernel) (by decide +kernel), lwT 534 (by decide +kernel) (by decide +kernel), TX1, 2, rfl⟩
def iX0_heapBehind : MI := (yX0_heapBehind, cX0_heapBehind, 3, (some .int))
theorem vX0_heapBehind : okV iX0_heapBehind 2 0 := ⟨⟨lwT 540 (by decide +kernel) (by decide +kernel), lwT 2 (by decide +kernel) (by decide +kernel), by decide +kernel, by decide +kernel, by decide +kernel⟩, lwT 538 (by decide +kernel) (by decide +kernel), lwT 539 (by decide +kernel) (by decide +kernel), TX0, 9, rfl⟩
def iX0_wholes : MI := (yX0_wholes, cX0_wholes, 3, (some .int))
theorem vX0_wholes : okV iX0_wholes 2 0 := ⟨⟨lwT 544 (by decide +kernel) (by decide +kernel), lwT 2 (by decide +kernel) (by decide +kernel), by decide +kernel, by decide +kernel, by decide +kernel⟩, lwT 542 (by decide +kernel) (by decide +kernel), lwT 543 (by decide +kernel) (by decide +kernel), TX0, 9, rfl⟩
def iJ9_min_7cf53 : MI := (yJ9_min_7cf53, cJ9_min_7cf53, 2, (some .int))
theorem wJ9_min_7cf53 : Cond.code Lib.Math.min.name Lib.Math.min.code 2 (some .int) ∈ lwG := lwT 547 (by decide +kernel) (by decide +kernel)
theorem tJ9_min_7cf53 : Cond.static Lib.Math.min.name ∈ lwG := lwT 546 (by decide +kernel) (by decide +kernel)
def iJ9_max_7cf53 : MI := (yJ9_max_7cf53, cJ9_max_7cf53, 2, (some .int))
theorem wJ9_max_7cf53 : Cond.code Lib.Math.max.name Lib.Math.max.code 2 (some .int) ∈ lwG := lwT 551 (by decide +kernel) (by decide +kernel)
theorem tJ9_max_7cf53 : Cond.static Lib.Math.max.name ∈ lwG := lwT 550 (by decide +kernel) (by decide +kernel)
def iX1_bestSteps : MI := (yX1_bestSteps, cX1_bestSteps, 6, (some .int))
theorem vX1_bestSteps : okV iX1_bestSteps 2 1 := ⟨⟨lwT 555 (by decide +kernel) (by decide +kernel), lwT 6 (by decide +kernel) (by decide +kernel), by decide +kernel, by decide +kernel, by decide +kernel⟩, lwT 553 (by decide +kernel) (by decide +kernel), lwT 554 (by decide +kernel) (by decide +kernel), TX1, 2, rfl⟩
def iX1_lookBack : MI := (yX1_lookBack, cX1_lookBack, 8, none)
theorem vX1_lookBack : okV iX1_lookBack 3 1 := ⟨⟨lwT 559 (by decide +kernel) (by decide +kernel), lwT 6 (by decide +kernel) (by decide +kernel), by decide +kernel, by decide +kernel, by decide +kernel⟩, lwT 557 (by decide +kernel) (by decide +kernel), lwT 558 (by decide +kernel) (by decide +kernel), TX1, 2, rfl⟩
def iX1_neededAhead : MI := (yX1_neededAhead, cX1_neededAhead, 5, (some .int))
theorem sX1_neededAhead : okS iX1_neededAhead 3 := ⟨⟨lwT 563 (by decide +kernel) (by decide +kernel), lwT 6 (by decide +kernel) (by decide +kernel), by decide +kernel, by decide +kernel, by decide +kernel⟩, lwT 562 (by decide +kernel) (by decide +kernel)⟩
def iX1_boardOnWay : MI := (yX1_boardOnWay, cX1_boardOnWay, 9, (some .int))
theorem vX1_boardOnWay : okV iX1_boardOnWay 4 1 := ⟨⟨lwT 571 (by decide +kernel) (by decide +kernel), lwT 6 (by decide +kernel) (by decide +kernel), by decide +kernel, by decide +kernel, by decide +kernel⟩, lwT 569 (by decide +kernel) (by decide +kernel), lwT 570 (by decide +kernel) (by decide +kernel), TX1, 2, rfl⟩
def iX1_firstThatDoes : MI := (yX1_firstThatDoes, cX1_firstThatDoes, 6, (some .int))
theorem vX1_firstThatDoes : okV iX1_firstThatDoes 4 1 := ⟨⟨lwT 575 (by decide +kernel) (by decide +kernel), lwT 6 (by decide +kernel) (by decide +kernel), by decide +kernel, by decide +kernel, by decide +kernel⟩, lwT 574 (by decide +kernel) (by decide +kernel), lwP 11 (by decide +kernel) (by decide +kernel), TX1, 2, rfl⟩
def iX6_walkers : MI := (yX6_walkers, cX6_walkers, 2, (some .int))
theorem vX6_walkers : okV iX6_walkers 1 6 := ⟨⟨lwT 579 (by decide +kernel) (by decide +kernel), lwT 1 (by decide +kernel) (by decide +kernel), by decide +kernel, by decide +kernel, by decide +kernel⟩, lwT 577 (by decide +kernel) (by decide +kernel), lwT 578 (by decide +kernel) (by decide +kernel), TX6, 7, rfl⟩
def iX4_send : MI := (yX4_send, cX4_send, 5, none)
theorem vX4_send : okV iX4_send 2 4 := ⟨⟨lwT 583 (by decide +kernel) (by decide +kernel), lwT 7 (by decide +kernel) (by decide +kernel), by decide +kernel, by decide +kernel, by decide +kernel⟩, lwT 581 (by decide +kernel) (by decide +kernel), lwT 582 (by decide +kernel) (by decide +kernel), TX4, 3, rfl⟩
def iX4_wearOut : MI := (yX4_wearOut, cX4_wearOut, 4, none)
theorem vX4_wearOut : okV iX4_wearOut 2 4 := ⟨⟨lwT 589 (by decide +kernel) (by decide +kernel), lwT 7 (by decide +kernel) (by decide +kernel), by decide +kernel, by decide +kernel, by decide +kernel⟩, lwT 588 (by decide +kernel) (by decide +kernel), lwP 12 (by decide +kernel) (by decide +kernel), TX4, 3, rfl⟩
def iX6_told : MI := (yX6_told, cX6_told, 2, (some .int))
theorem vX6_told : okV iX6_told 1 6 := ⟨⟨lwT 594 (by decide +kernel) (by decide +kernel), lwT 1 (by decide +kernel) (by decide +kernel), by decide +kernel, by decide +kernel, by decide +kernel⟩, lwT 592 (by decide +kernel) (by decide +kernel), lwT 593 (by decide +kernel) (by decide +kernel), TX6, 7, rfl⟩
def iX7_board : MI := (yX7_board, cX7_board, 5, (some .int))
theorem vX7_board : okV iX7_board 4 7 := ⟨⟨lwT 695 (by decide +kernel) (by decide +kernel), lwT 8 (by decide +kernel) (by decide +kernel), by decide +kernel, by decide +kernel, by decide +kernel⟩, lwT 693 (by decide +kernel) (by decide +kernel), lwT 694 (by decide +kernel) (by decide +kernel), TX7, 30, rfl⟩
def iX7_isCoin : MI := (yX7_isCoin, cX7_isCoin, 1, (some .boolean))
theorem sX7_isCoin : okS iX7_isCoin 1 := ⟨⟨lwT 698 (by decide +kernel) (by decide +kernel), lwT 8 (by decide +kernel) (by decide +kernel), by decide +kernel, by decide +kernel, by decide +kernel⟩, lwT 697 (by decide +kernel) (by decide +kernel)⟩
def iX7_in : MI := (yX7_in, cX7_in, 3, (some .boolean))
theorem sX7_in : okS iX7_in 3 := ⟨⟨lwT 701 (by decide +kernel) (by decide +kernel), lwT 8 (by decide +kernel) (by decide +kernel), by decide +kernel, by decide +kernel, by decide +kernel⟩, lwT 700 (by decide +kernel) (by decide +kernel)⟩
def iX7_add : MI := (yX7_add, cX7_add, 5, (some .int))
theorem vX7_add : okV iX7_add 4 7 := ⟨⟨lwT 705 (by decide +kernel) (by decide +kernel), lwT 8 (by decide +kernel) (by decide +kernel), by decide +kernel, by decide +kernel, by decide +kernel⟩, lwT 704 (by decide +kernel) (by decide +kernel), lwP 13 (by decide +kernel) (by decide +kernel), TX7, 30, rfl⟩
def iX7_of : MI := (yX7_of, cX7_of, 3, (some .int))
theorem vX7_of : okV iX7_of 2 7 := ⟨⟨lwT 710 (by decide +kernel) (by decide +kernel), lwT 8 (by decide +kernel) (by decide +kernel), by decide +kernel, by decide +kernel, by decide +kernel⟩, lwT 708 (by decide +kernel) (by decide +kernel), lwT 709 (by decide +kernel) (by decide +kernel), TX7, 30, rfl⟩
def iX7_isBoard : MI := (yX7_isBoard, cX7_isBoard, 2, (some .boolean))
theorem vX7_isBoard : okV iX7_isBoard 1 7 := ⟨⟨lwT 714 (by decide +kernel) (by decide +kernel), lwT 8 (by decide +kernel) (by decide +kernel), by decide +kernel, by decide +kernel, by decide +kernel⟩, lwT 713 (by decide +kernel) (by decide +kernel), lwP 14 (by decide +kernel) (by decide +kernel), TX7, 30, rfl⟩
def iX7_isOpen : MI := (yX7_isOpen, cX7_isOpen, 2, (some .boolean))
theorem vX7_isOpen : okV iX7_isOpen 1 7 := ⟨⟨lwT 718 (by decide +kernel) (by decide +kernel), lwT 8 (by decide +kernel) (by decide +kernel), by decide +kernel, by decide +kernel, by decide +kernel⟩, lwT 717 (by decide +kernel) (by decide +kernel), lwP 15 (by decide +kernel) (by decide +kernel), TX7, 30, rfl⟩
def iX7_upper : MI := (yX7_upper, cX7_upper, 2, (some .int))
theorem vX7_upper : okV iX7_upper 1 7 := ⟨⟨lwT 722 (by decide +kernel) (by decide +kernel), lwT 8 (by decide +kernel) (by decide +kernel), by decide +kernel, by decide +kernel, by decide +kernel⟩, lwT 721 (by decide +kernel) (by decide +kernel), lwP 16 (by decide +kernel) (by decide +kernel), TX7, 30, rfl⟩
def iX7_change : MI := (yX7_change, cX7_change, 5, (some .int))
theorem vX7_change : okV iX7_change 3 7 := ⟨⟨lwT 726 (by decide +kernel) (by decide +kernel), lwT 8 (by decide +kernel) (by decide +kernel), by decide +kernel, by decide +kernel, by decide +kernel⟩, lwT 724 (by decide +kernel) (by decide +kernel), lwT 725 (by decide +kernel) (by decide +kernel), TX7, 30, rfl⟩
def iX7_hours : MI := (yX7_hours, cX7_hours, 4, (some .int))
theorem vX7_hours : okV iX7_hours 3 7 := ⟨⟨lwT 730 (by decide +kernel) (by decide +kernel), lwT 8 (by decide +kernel) (by decide +kernel), by decide +kernel, by decide +kernel, by decide +kernel⟩, lwT 728 (by decide +kernel) (by decide +kernel), lwT 729 (by decide +kernel) (by decide +kernel), TX7, 30, rfl⟩
def iX7_isHour : MI := (yX7_isHour, cX7_isHour, 1, (some .boolean))
theorem sX7_isHour : okS iX7_isHour 1 := ⟨⟨lwT 733 (by decide +kernel) (by decide +kernel), lwT 8 (by decide +kernel) (by decide +kernel), by decide +kernel, by decide +kernel, by decide +kernel⟩, lwT 732 (by decide +kernel) (by decide +kernel)⟩
def iX7_set : MI := (yX7_set, cX7_set, 4, (some .int))
theorem vX7_set : okV iX7_set 2 7 := ⟨⟨lwT 737 (by decide +kernel) (by decide +kernel), lwT 8 (by decide +kernel) (by decide +kernel), by decide +kernel, by decide +kernel, by decide +kernel⟩, lwT 735 (by decide +kernel) (by decide +kernel), lwT 736 (by decide +kernel) (by decide +kernel), TX7, 30, rfl⟩
def iX7_say : MI := (yX7_say, cX7_say, 2, (some .int))
theorem vX7_say : okV iX7_say 1 7 := ⟨⟨lwT 741 (by decide +kernel) (by decide +kernel), lwT 8 (by decide +kernel) (by decide +kernel), by decide +kernel, by decide +kernel, by decide +kernel⟩, lwT 739 (by decide +kernel) (by decide +kernel), lwT 740 (by decide +kernel) (by decide +kernel), TX7, 30, rfl⟩
def iX7_wipe : MI := (yX7_wipe, cX7_wipe, 2, (some .int))
theorem vX7_wipe : okV iX7_wipe 0 7 := ⟨⟨lwT 745 (by decide +kernel) (by decide +kernel), lwT 8 (by decide +kernel) (by decide +kernel), by decide +kernel, by decide +kernel, by decide +kernel⟩, lwT 743 (by decide +kernel) (by decide +kernel), lwT 744 (by decide +kernel) (by decide +kernel), TX7, 30, rfl⟩
def iX7_fault : MI := (yX7_fault, cX7_fault, 1, (some .int))
theorem vX7_fault : okV iX7_fault 0 7 := ⟨⟨lwT 749 (by decide +kernel) (by decide +kernel), lwT 8 (by decide +kernel) (by decide +kernel), by decide +kernel, by decide +kernel, by decide +kernel⟩, lwT 747 (by decide +kernel) (by decide +kernel), lwT 748 (by decide +kernel) (by decide +kernel), TX7, 30, rfl⟩
def iX7_faultOf : MI := (yX7_faultOf, cX7_faultOf, 7, (some .int))
theorem vX7_faultOf : okV iX7_faultOf 0 7 := ⟨⟨lwT 753 (by decide +kernel) (by decide +kernel), lwT 8 (by decide +kernel) (by decide +kernel), by decide +kernel, by decide +kernel, by decide +kernel⟩, lwT 752 (by decide +kernel) (by decide +kernel), lwP 17 (by decide +kernel) (by decide +kernel), TX7, 30, rfl⟩
def iX7_read : MI := (yX7_read, cX7_read, 7, (some .int))
theorem vX7_read : okV iX7_read 0 7 := ⟨⟨lwT 757 (by decide +kernel) (by decide +kernel), lwT 8 (by decide +kernel) (by decide +kernel), by decide +kernel, by decide +kernel, by decide +kernel⟩, lwT 755 (by decide +kernel) (by decide +kernel), lwT 756 (by decide +kernel) (by decide +kernel), TX7, 30, rfl⟩
def iX7_rounds : MI := (yX7_rounds, cX7_rounds, 2, (some .int))
theorem vX7_rounds : okV iX7_rounds 1 7 := ⟨⟨lwT 761 (by decide +kernel) (by decide +kernel), lwT 8 (by decide +kernel) (by decide +kernel), by decide +kernel, by decide +kernel, by decide +kernel⟩, lwT 759 (by decide +kernel) (by decide +kernel), lwT 760 (by decide +kernel) (by decide +kernel), TX7, 30, rfl⟩
def iX7_layRounds : MI := (yX7_layRounds, cX7_layRounds, 11, none)
theorem vX7_layRounds : okV iX7_layRounds 1 7 := ⟨⟨lwT 765 (by decide +kernel) (by decide +kernel), lwT 8 (by decide +kernel) (by decide +kernel), by decide +kernel, by decide +kernel, by decide +kernel⟩, lwT 764 (by decide +kernel) (by decide +kernel), lwP 18 (by decide +kernel) (by decide +kernel), TX7, 30, rfl⟩
def iX7_keepRound : MI := (yX7_keepRound, cX7_keepRound, 3, none)
theorem vX7_keepRound : okV iX7_keepRound 1 7 := ⟨⟨lwT 769 (by decide +kernel) (by decide +kernel), lwT 8 (by decide +kernel) (by decide +kernel), by decide +kernel, by decide +kernel, by decide +kernel⟩, lwT 768 (by decide +kernel) (by decide +kernel), lwP 19 (by decide +kernel) (by decide +kernel), TX7, 30, rfl⟩
def iX7_round : MI := (yX7_round, cX7_round, 3, (some .int))
theorem vX7_round : okV iX7_round 2 7 := ⟨⟨lwT 773 (by decide +kernel) (by decide +kernel), lwT 8 (by decide +kernel) (by decide +kernel), by decide +kernel, by decide +kernel, by decide +kernel⟩, lwT 771 (by decide +kernel) (by decide +kernel), lwT 772 (by decide +kernel) (by decide +kernel), TX7, 30, rfl⟩
def iX7_product : MI := (yX7_product, cX7_product, 3, (some .long))
theorem vX7_product : okV iX7_product 2 7 := ⟨⟨lwT 777 (by decide +kernel) (by decide +kernel), lwT 8 (by decide +kernel) (by decide +kernel), by decide +kernel, by decide +kernel, by decide +kernel⟩, lwT 775 (by decide +kernel) (by decide +kernel), lwT 776 (by decide +kernel) (by decide +kernel), TX7, 30, rfl⟩
def iX7_term : MI := (yX7_term, cX7_term, 11, (some .long))
theorem sX7_term : okS iX7_term 3 := ⟨⟨lwT 781 (by decide +kernel) (by decide +kernel), lwT 8 (by decide +kernel) (by decide +kernel), by decide +kernel, by decide +kernel, by decide +kernel⟩, lwT 780 (by decide +kernel) (by decide +kernel)⟩
def iX7_best : MI := (yX7_best, cX7_best, 4, (some .int))
theorem vX7_best : okV iX7_best 1 7 := ⟨⟨lwT 786 (by decide +kernel) (by decide +kernel), lwT 8 (by decide +kernel) (by decide +kernel), by decide +kernel, by decide +kernel, by decide +kernel⟩, lwT 784 (by decide +kernel) (by decide +kernel), lwT 785 (by decide +kernel) (by decide +kernel), TX7, 30, rfl⟩
def iX7_mostOf : MI := (yX7_mostOf, cX7_mostOf, 3, (some .int))
theorem vX7_mostOf : okV iX7_mostOf 0 7 := ⟨⟨lwT 790 (by decide +kernel) (by decide +kernel), lwT 8 (by decide +kernel) (by decide +kernel), by decide +kernel, by decide +kernel, by decide +kernel⟩, lwT 789 (by decide +kernel) (by decide +kernel), lwP 20 (by decide +kernel) (by decide +kernel), TX7, 30, rfl⟩
def iX7_held : MI := (yX7_held, cX7_held, 25, (some .int))
theorem sX7_held : okS iX7_held 4 := ⟨⟨lwT 793 (by decide +kernel) (by decide +kernel), lwT 8 (by decide +kernel) (by decide +kernel), by decide +kernel, by decide +kernel, by decide +kernel⟩, lwT 792 (by decide +kernel) (by decide +kernel)⟩
def iX7_through : MI := (yX7_through, cX7_through, 4, (some .int))
theorem vX7_through : okV iX7_through 1 7 := ⟨⟨lwT 797 (by decide +kernel) (by decide +kernel), lwT 8 (by decide +kernel) (by decide +kernel), by decide +kernel, by decide +kernel, by decide +kernel⟩, lwT 795 (by decide +kernel) (by decide +kernel), lwT 796 (by decide +kernel) (by decide +kernel), TX7, 30, rfl⟩
def iX7_blamed : MI := (yX7_blamed, cX7_blamed, 3, (some .int))
theorem vX7_blamed : okV iX7_blamed 0 7 := ⟨⟨lwT 801 (by decide +kernel) (by decide +kernel), lwT 8 (by decide +kernel) (by decide +kernel), by decide +kernel, by decide +kernel, by decide +kernel⟩, lwT 799 (by decide +kernel) (by decide +kernel), lwT 800 (by decide +kernel) (by decide +kernel), TX7, 30, rfl⟩
def iX7_cut : MI := (yX7_cut, cX7_cut, 5, (some .int))
theorem vX7_cut : okV iX7_cut 0 7 := ⟨⟨lwT 805 (by decide +kernel) (by decide +kernel), lwT 8 (by decide +kernel) (by decide +kernel), by decide +kernel, by decide +kernel, by decide +kernel⟩, lwT 803 (by decide +kernel) (by decide +kernel), lwT 804 (by decide +kernel) (by decide +kernel), TX7, 30, rfl⟩
def iX7_bits : MI := (yX7_bits, cX7_bits, 3, (some .int))
theorem sX7_bits : okS iX7_bits 1 := ⟨⟨lwT 808 (by decide +kernel) (by decide +kernel), lwT 8 (by decide +kernel) (by decide +kernel), by decide +kernel, by decide +kernel, by decide +kernel⟩, lwT 807 (by decide +kernel) (by decide +kernel)⟩
def iX7_move : MI := (yX7_move, cX7_move, 5, (some .int))
theorem vX7_move : okV iX7_move 1 7 := ⟨⟨lwT 812 (by decide +kernel) (by decide +kernel), lwT 8 (by decide +kernel) (by decide +kernel), by decide +kernel, by decide +kernel, by decide +kernel⟩, lwT 810 (by decide +kernel) (by decide +kernel), lwT 811 (by decide +kernel) (by decide +kernel), TX7, 30, rfl⟩
def iX7_edge : MI := (yX7_edge, cX7_edge, 4, (some .int))
theorem vX7_edge : okV iX7_edge 0 7 := ⟨⟨lwT 816 (by decide +kernel) (by decide +kernel), lwT 8 (by decide +kernel) (by decide +kernel), by decide +kernel, by decide +kernel, by decide +kernel⟩, lwT 814 (by decide +kernel) (by decide +kernel), lwT 815 (by decide +kernel) (by decide +kernel), TX7, 30, rfl⟩
def iX7_gets : MI := (yX7_gets, cX7_gets, 4, (some .long))
theorem vX7_gets : okV iX7_gets 3 7 := ⟨⟨lwT 820 (by decide +kernel) (by decide +kernel), lwT 8 (by decide +kernel) (by decide +kernel), by decide +kernel, by decide +kernel, by decide +kernel⟩, lwT 818 (by decide +kernel) (by decide +kernel), lwT 819 (by decide +kernel) (by decide +kernel), TX7, 30, rfl⟩
def iX7_someGains : MI := (yX7_someGains, cX7_someGains, 1, (some .boolean))
theorem vX7_someGains : okV iX7_someGains 0 7 := ⟨⟨lwT 824 (by decide +kernel) (by decide +kernel), lwT 8 (by decide +kernel) (by decide +kernel), by decide +kernel, by decide +kernel, by decide +kernel⟩, lwT 823 (by decide +kernel) (by decide +kernel), lwP 21 (by decide +kernel) (by decide +kernel), TX7, 30, rfl⟩
def iX7_layGets : MI := (yX7_layGets, cX7_layGets, 9, none)
theorem vX7_layGets : okV iX7_layGets 2 7 := ⟨⟨lwT 829 (by decide +kernel) (by decide +kernel), lwT 8 (by decide +kernel) (by decide +kernel), by decide +kernel, by decide +kernel, by decide +kernel⟩, lwT 828 (by decide +kernel) (by decide +kernel), lwP 22 (by decide +kernel) (by decide +kernel), TX7, 30, rfl⟩
def iX7_span : MI := (yX7_span, cX7_span, 5, (some .long))
theorem vX7_span : okV iX7_span 4 7 := ⟨⟨lwT 833 (by decide +kernel) (by decide +kernel), lwT 8 (by decide +kernel) (by decide +kernel), by decide +kernel, by decide +kernel, by decide +kernel⟩, lwT 831 (by decide +kernel) (by decide +kernel), lwT 832 (by decide +kernel) (by decide +kernel), TX7, 30, rfl⟩
def iX7_joined : MI := (yX7_joined, cX7_joined, 2, (some .int))
theorem vX7_joined : okV iX7_joined 1 7 := ⟨⟨lwT 837 (by decide +kernel) (by decide +kernel), lwT 8 (by decide +kernel) (by decide +kernel), by decide +kernel, by decide +kernel, by decide +kernel⟩, lwT 835 (by decide +kernel) (by decide +kernel), lwT 836 (by decide +kernel) (by decide +kernel), TX7, 30, rfl⟩
def iX7_joinedOf : MI := (yX7_joinedOf, cX7_joinedOf, 5, (some .int))
theorem vX7_joinedOf : okV iX7_joinedOf 1 7 := ⟨⟨lwT 841 (by decide +kernel) (by decide +kernel), lwT 8 (by decide +kernel) (by decide +kernel), by decide +kernel, by decide +kernel, by decide +kernel⟩, lwT 840 (by decide +kernel) (by decide +kernel), lwP 23 (by decide +kernel) (by decide +kernel), TX7, 30, rfl⟩
def iX7_reached : MI := (yX7_reached, cX7_reached, 5, (some .int))
theorem vX7_reached : okV iX7_reached 1 7 := ⟨⟨lwT 845 (by decide +kernel) (by decide +kernel), lwT 8 (by decide +kernel) (by decide +kernel), by decide +kernel, by decide +kernel, by decide +kernel⟩, lwT 844 (by decide +kernel) (by decide +kernel), lwP 24 (by decide +kernel) (by decide +kernel), TX7, 30, rfl⟩
def iX7_parts : MI := (yX7_parts, cX7_parts, 4, (some .int))
theorem vX7_parts : okV iX7_parts 0 7 := ⟨⟨lwT 849 (by decide +kernel) (by decide +kernel), lwT 8 (by decide +kernel) (by decide +kernel), by decide +kernel, by decide +kernel, by decide +kernel⟩, lwT 847 (by decide +kernel) (by decide +kernel), lwT 848 (by decide +kernel) (by decide +kernel), TX7, 30, rfl⟩
def iX7_worth : MI := (yX7_worth, cX7_worth, 4, (some .int))
theorem vX7_worth : okV iX7_worth 2 7 := ⟨⟨lwT 853 (by decide +kernel) (by decide +kernel), lwT 8 (by decide +kernel) (by decide +kernel), by decide +kernel, by decide +kernel, by decide +kernel⟩, lwT 851 (by decide +kernel) (by decide +kernel), lwT 852 (by decide +kernel) (by decide +kernel), TX7, 30, rfl⟩
def iX7_off : MI := (yX7_off, cX7_off, 7, (some .int))
theorem vX7_off : okV iX7_off 1 7 := ⟨⟨lwT 857 (by decide +kernel) (by decide +kernel), lwT 8 (by decide +kernel) (by decide +kernel), by decide +kernel, by decide +kernel, by decide +kernel⟩, lwT 855 (by decide +kernel) (by decide +kernel), lwT 856 (by decide +kernel) (by decide +kernel), TX7, 30, rfl⟩
def iX7_walk : MI := (yX7_walk, cX7_walk, 6, (some .int))
theorem vX7_walk : okV iX7_walk 5 7 := ⟨⟨lwT 861 (by decide +kernel) (by decide +kernel), lwT 8 (by decide +kernel) (by decide +kernel), by decide +kernel, by decide +kernel, by decide +kernel⟩, lwT 859 (by decide +kernel) (by decide +kernel), lwT 860 (by decide +kernel) (by decide +kernel), TX7, 30, rfl⟩
def iX7_layWalk : MI := (yX7_layWalk, cX7_layWalk, 9, none)
theorem vX7_layWalk : okV iX7_layWalk 4 7 := ⟨⟨lwT 865 (by decide +kernel) (by decide +kernel), lwT 8 (by decide +kernel) (by decide +kernel), by decide +kernel, by decide +kernel, by decide +kernel⟩, lwT 864 (by decide +kernel) (by decide +kernel), lwP 25 (by decide +kernel) (by decide +kernel), TX7, 30, rfl⟩
def iX7_look : MI := (yX7_look, cX7_look, 4, none)
theorem vX7_look : okV iX7_look 2 7 := ⟨⟨lwT 869 (by decide +kernel) (by decide +kernel), lwT 8 (by decide +kernel) (by decide +kernel), by decide +kernel, by decide +kernel, by decide +kernel⟩, lwT 868 (by decide +kernel) (by decide +kernel), lwP 26 (by decide +kernel) (by decide +kernel), TX7, 30, rfl⟩
def iX7_walkers : MI := (yX7_walkers, cX7_walkers, 6, (some .int))
theorem vX7_walkers : okV iX7_walkers 1 7 := ⟨⟨lwT 873 (by decide +kernel) (by decide +kernel), lwT 8 (by decide +kernel) (by decide +kernel), by decide +kernel, by decide +kernel, by decide +kernel⟩, lwT 871 (by decide +kernel) (by decide +kernel), lwT 872 (by decide +kernel) (by decide +kernel), TX7, 30, rfl⟩
def iX7_told : MI := (yX7_told, cX7_told, 4, (some .int))
theorem vX7_told : okV iX7_told 1 7 := ⟨⟨lwT 877 (by decide +kernel) (by decide +kernel), lwT 8 (by decide +kernel) (by decide +kernel), by decide +kernel, by decide +kernel, by decide +kernel⟩, lwT 875 (by decide +kernel) (by decide +kernel), lwT 876 (by decide +kernel) (by decide +kernel), TX7, 30, rfl⟩
set_option maxRecDepth 20000 in
theorem inGX0 : ∀ w ∈ u_ws RX0 TX0 9, w ∈ lwG := by decide +kernel
set_option maxRecDepth 20000 in
theorem inGX1 : ∀ w ∈ u_ws RX1 TX1 2, w ∈ lwG := by decide +kernel
set_option maxRecDepth 20000 in
theorem inGX2 : ∀ w ∈ u_ws RX2 TX2 8, w ∈ lwG := by decide +kernel
set_option maxRecDepth 20000 in
theorem inGX3 : ∀ w ∈ u_ws RX3 TX3 7, w ∈ lwG := by decide +kernel
set_option maxRecDepth 20000 in
theorem inGX4 : ∀ w ∈ u_ws RX4 TX4 3, w ∈ lwG := by decide +kernel
set_option maxRecDepth 20000 in
theorem inGX5 : ∀ w ∈ u_ws RX5 TX5 3, w ∈ lwG := by decide +kernel
set_option maxRecDepth 20000 in
theorem inGX6 : ∀ w ∈ u_ws RX6 TX6 7, w ∈ lwG := by decide +kernel
set_option maxRecDepth 20000 in
theorem inGX7 : ∀ w ∈ u_ws RX7 TX7 30, w ∈ lwG := by decide +kernel
theorem fX6_12 : FOK RX6 12 6 0 := ⟨RX6, TX6, 7, rfl, inGX6, by decide +kernel, lwT 201 (by decide +kernel) (by decide +kernel)⟩
theorem fX6_19 : FOK RX6 19 6 1 := ⟨RX6, TX6, 7, rfl, inGX6, by decide +kernel, lwT 202 (by decide +kernel) (by decide +kernel)⟩
theorem fX6_26 : FOK RX6 26 6 2 := ⟨RX6, TX6, 7, rfl, inGX6, by decide +kernel, lwT 203 (by decide +kernel) (by decide +kernel)⟩
theorem fX6_33 : FOK RX6 33 6 3 := ⟨RX6, TX6, 7, rfl, inGX6, by decide +kernel, lwT 204 (by decide +kernel) (by decide +kernel)⟩
theorem fX6_40 : FOK RX6 40 6 4 := ⟨RX6, TX6, 7, rfl, inGX6, by decide +kernel, lwT 205 (by decide +kernel) (by decide +kernel)⟩
theorem fX6_47 : FOK RX6 47 6 5 := ⟨RX6, TX6, 7, rfl, inGX6, by decide +kernel, lwT 206 (by decide +kernel) (by decide +kernel)⟩
theorem fX6_51 : FOK RX6 51 6 6 := ⟨RX6, TX6, 7, rfl, inGX6, by decide +kernel, lwT 207 (by decide +kernel) (by decide +kernel)⟩
theorem fX6_63 : FOK RX6 63 0 8 := ⟨RX0, TX0, 9, rfl, inGX0, by decide +kernel, lwT 56 (by decide +kernel) (by decide +kernel)⟩
theorem gX6_63 : FOKp RX6 63 0 8 .int := ⟨RX0, TX0, 9, tyX0, rfl, inGX0, by decide +kernel, lwT 56 (by decide +kernel) (by decide +kernel), tyX0_ok, nmX0, rfl, by decide +kernel⟩
theorem fX6_77 : FOK RX6 77 0 0 := ⟨RX0, TX0, 9, rfl, inGX0, by decide +kernel, lwT 30 (by decide +kernel) (by decide +kernel)⟩
theorem fX6_80 : FOK RX6 80 0 1 := ⟨RX0, TX0, 9, rfl, inGX0, by decide +kernel, lwT 33 (by decide +kernel) (by decide +kernel)⟩
theorem fX6_83 : FOK RX6 83 0 2 := ⟨RX0, TX0, 9, rfl, inGX0, by decide +kernel, lwT 40 (by decide +kernel) (by decide +kernel)⟩
theorem fX6_86 : FOK RX6 86 0 3 := ⟨RX0, TX0, 9, rfl, inGX0, by decide +kernel, lwT 44 (by decide +kernel) (by decide +kernel)⟩
theorem fX6_89 : FOK RX6 89 0 4 := ⟨RX0, TX0, 9, rfl, inGX0, by decide +kernel, lwT 46 (by decide +kernel) (by decide +kernel)⟩
theorem fX6_92 : FOK RX6 92 0 5 := ⟨RX0, TX0, 9, rfl, inGX0, by decide +kernel, lwT 48 (by decide +kernel) (by decide +kernel)⟩
theorem fX6_95 : FOK RX6 95 0 6 := ⟨RX0, TX0, 9, rfl, inGX0, by decide +kernel, lwT 50 (by decide +kernel) (by decide +kernel)⟩
theorem fsX6_106 : Cond.fieldLink RX6 106 "FairBoards" "LEAST_SETTING" "[I" ∈ lwG := lwT 276 (by decide +kernel) (by decide +kernel)
theorem fsX6_109 : Cond.fieldLink RX6 109 "FairBoards" "GREATEST_SETTING" "[I" ∈ lwG := lwT 278 (by decide +kernel) (by decide +kernel)
theorem fX6_112 : FOK RX6 112 0 7 := ⟨RX0, TX0, 9, rfl, inGX0, by decide +kernel, lwT 54 (by decide +kernel) (by decide +kernel)⟩
theorem fX6_115 : FOK RX6 115 3 1 := ⟨RX3, TX3, 7, rfl, inGX3, by decide +kernel, lwT 88 (by decide +kernel) (by decide +kernel)⟩
theorem gX6_115 : FOKp RX6 115 3 1 .int := ⟨RX3, TX3, 7, tyX3, rfl, inGX3, by decide +kernel, lwT 88 (by decide +kernel) (by decide +kernel), tyX3_ok, nmX3, rfl, by decide +kernel⟩
theorem fX6_133 : FOK RX6 133 2 5 := ⟨RX2, TX2, 8, rfl, inGX2, by decide +kernel, lwT 125 (by decide +kernel) (by decide +kernel)⟩
theorem gX6_133 : FOKp RX6 133 2 5 .int := ⟨RX2, TX2, 8, tyX2, rfl, inGX2, by decide +kernel, lwT 125 (by decide +kernel) (by decide +kernel), tyX2_ok, nmX2, rfl, by decide +kernel⟩
theorem fX6_134 : FOK RX6 134 2 6 := ⟨RX2, TX2, 8, rfl, inGX2, by decide +kernel, lwT 127 (by decide +kernel) (by decide +kernel)⟩
theorem gX6_134 : FOKp RX6 134 2 6 .int := ⟨RX2, TX2, 8, tyX2, rfl, inGX2, by decide +kernel, lwT 127 (by decide +kernel) (by decide +kernel), tyX2_ok, nmX2, rfl, by decide +kernel⟩
theorem fX6_140 : FOK RX6 140 2 3 := ⟨RX2, TX2, 8, rfl, inGX2, by decide +kernel, lwT 122 (by decide +kernel) (by decide +kernel)⟩
theorem fX6_157 : FOK RX6 157 2 1 := ⟨RX2, TX2, 8, rfl, inGX2, by decide +kernel, lwT 118 (by decide +kernel) (by decide +kernel)⟩
theorem fX6_207 : FOK RX6 207 5 0 := ⟨RX5, TX5, 3, rfl, inGX5, by decide +kernel, lwT 155 (by decide +kernel) (by decide +kernel)⟩
theorem fX6_209 : FOK RX6 209 5 1 := ⟨RX5, TX5, 3, rfl, inGX5, by decide +kernel, lwT 157 (by decide +kernel) (by decide +kernel)⟩
theorem fX6_234 : FOK RX6 234 1 0 := ⟨RX1, TX1, 2, rfl, inGX1, by decide +kernel, lwT 175 (by decide +kernel) (by decide +kernel)⟩
theorem fX6_245 : FOK RX6 245 4 2 := ⟨RX4, TX4, 3, rfl, inGX4, by decide +kernel, lwT 193 (by decide +kernel) (by decide +kernel)⟩
theorem gX6_245 : FOKp RX6 245 4 2 .boolean := ⟨RX4, TX4, 3, tyX4, rfl, inGX4, by decide +kernel, lwT 193 (by decide +kernel) (by decide +kernel), tyX4_ok, nmX4, rfl, by decide +kernel⟩
theorem fX6_253 : FOK RX6 253 4 1 := ⟨RX4, TX4, 3, rfl, inGX4, by decide +kernel, lwT 191 (by decide +kernel) (by decide +kernel)⟩
theorem gX6_253 : FOKp RX6 253 4 1 .int := ⟨RX4, TX4, 3, tyX4, rfl, inGX4, by decide +kernel, lwT 191 (by decide +kernel) (by decide +kernel), tyX4_ok, nmX4, rfl, by decide +kernel⟩
theorem fX6_256 : FOK RX6 256 4 0 := ⟨RX4, TX4, 3, rfl, inGX4, by decide +kernel, lwT 189 (by decide +kernel) (by decide +kernel)⟩
theorem fX6_257 : FOK RX6 257 2 7 := ⟨RX2, TX2, 8, rfl, inGX2, by decide +kernel, lwT 129 (by decide +kernel) (by decide +kernel)⟩
theorem gX6_257 : FOKp RX6 257 2 7 .boolean := ⟨RX2, TX2, 8, tyX2, rfl, inGX2, by decide +kernel, lwT 129 (by decide +kernel) (by decide +kernel), tyX2_ok, nmX2, rfl, by decide +kernel⟩
theorem fX0_9 : FOK RX0 9 0 0 := ⟨RX0, TX0, 9, rfl, inGX0, by decide +kernel, lwT 26 (by decide +kernel) (by decide +kernel)⟩
theorem fX0_15 : FOK RX0 15 0 1 := ⟨RX0, TX0, 9, rfl, inGX0, by decide +kernel, lwT 31 (by decide +kernel) (by decide +kernel)⟩
theorem fX0_18 : FOK RX0 18 0 2 := ⟨RX0, TX0, 9, rfl, inGX0, by decide +kernel, lwT 36 (by decide +kernel) (by decide +kernel)⟩
theorem fX0_21 : FOK RX0 21 0 3 := ⟨RX0, TX0, 9, rfl, inGX0, by decide +kernel, lwT 41 (by decide +kernel) (by decide +kernel)⟩
theorem fX0_24 : FOK RX0 24 0 4 := ⟨RX0, TX0, 9, rfl, inGX0, by decide +kernel, lwT 45 (by decide +kernel) (by decide +kernel)⟩
theorem fX0_27 : FOK RX0 27 0 5 := ⟨RX0, TX0, 9, rfl, inGX0, by decide +kernel, lwT 47 (by decide +kernel) (by decide +kernel)⟩
theorem fX0_30 : FOK RX0 30 0 6 := ⟨RX0, TX0, 9, rfl, inGX0, by decide +kernel, lwT 49 (by decide +kernel) (by decide +kernel)⟩
theorem fX0_33 : FOK RX0 33 0 7 := ⟨RX0, TX0, 9, rfl, inGX0, by decide +kernel, lwT 51 (by decide +kernel) (by decide +kernel)⟩
theorem fX0_36 : FOK RX0 36 0 8 := ⟨RX0, TX0, 9, rfl, inGX0, by decide +kernel, lwT 55 (by decide +kernel) (by decide +kernel)⟩
theorem gX0_36 : FOKp RX0 36 0 8 .int := ⟨RX0, TX0, 9, tyX0, rfl, inGX0, by decide +kernel, lwT 55 (by decide +kernel) (by decide +kernel), tyX0_ok, nmX0, rfl, by decide +kernel⟩
theorem fX1_13 : FOK RX1 13 1 0 := ⟨RX1, TX1, 2, rfl, inGX1, by decide +kernel, lwT 174 (by decide +kernel) (by decide +kernel)⟩
theorem fX1_18 : FOK RX1 18 1 1 := ⟨RX1, TX1, 2, rfl, inGX1, by decide +kernel, lwT 176 (by decide +kernel) (by decide +kernel)⟩
theorem fX1_21 : FOK RX1 21 0 8 := ⟨RX0, TX0, 9, rfl, inGX0, by decide +kernel, lwT 58 (by decide +kernel) (by decide +kernel)⟩
theorem gX1_21 : FOKp RX1 21 0 8 .int := ⟨RX0, TX0, 9, tyX0, rfl, inGX0, by decide +kernel, lwT 58 (by decide +kernel) (by decide +kernel), tyX0_ok, nmX0, rfl, by decide +kernel⟩
theorem fX1_27 : FOK RX1 27 0 0 := ⟨RX0, TX0, 9, rfl, inGX0, by decide +kernel, lwT 27 (by decide +kernel) (by decide +kernel)⟩
theorem fX1_31 : FOK RX1 31 0 2 := ⟨RX0, TX0, 9, rfl, inGX0, by decide +kernel, lwT 37 (by decide +kernel) (by decide +kernel)⟩
theorem fX1_63 : FOK RX1 63 0 1 := ⟨RX0, TX0, 9, rfl, inGX0, by decide +kernel, lwT 35 (by decide +kernel) (by decide +kernel)⟩
theorem fX2_9 : FOK RX2 9 2 0 := ⟨RX2, TX2, 8, rfl, inGX2, by decide +kernel, lwT 116 (by decide +kernel) (by decide +kernel)⟩
theorem fX2_15 : FOK RX2 15 2 1 := ⟨RX2, TX2, 8, rfl, inGX2, by decide +kernel, lwT 117 (by decide +kernel) (by decide +kernel)⟩
theorem fX2_18 : FOK RX2 18 2 2 := ⟨RX2, TX2, 8, rfl, inGX2, by decide +kernel, lwT 119 (by decide +kernel) (by decide +kernel)⟩
theorem fX2_22 : FOK RX2 22 2 3 := ⟨RX2, TX2, 8, rfl, inGX2, by decide +kernel, lwT 121 (by decide +kernel) (by decide +kernel)⟩
theorem fX2_25 : FOK RX2 25 2 4 := ⟨RX2, TX2, 8, rfl, inGX2, by decide +kernel, lwT 123 (by decide +kernel) (by decide +kernel)⟩
theorem fX2_28 : FOK RX2 28 2 5 := ⟨RX2, TX2, 8, rfl, inGX2, by decide +kernel, lwT 124 (by decide +kernel) (by decide +kernel)⟩
theorem gX2_28 : FOKp RX2 28 2 5 .int := ⟨RX2, TX2, 8, tyX2, rfl, inGX2, by decide +kernel, lwT 124 (by decide +kernel) (by decide +kernel), tyX2_ok, nmX2, rfl, by decide +kernel⟩
theorem fX2_32 : FOK RX2 32 2 6 := ⟨RX2, TX2, 8, rfl, inGX2, by decide +kernel, lwT 126 (by decide +kernel) (by decide +kernel)⟩
theorem gX2_32 : FOKp RX2 32 2 6 .int := ⟨RX2, TX2, 8, tyX2, rfl, inGX2, by decide +kernel, lwT 126 (by decide +kernel) (by decide +kernel), tyX2_ok, nmX2, rfl, by decide +kernel⟩
theorem fX2_35 : FOK RX2 35 2 7 := ⟨RX2, TX2, 8, rfl, inGX2, by decide +kernel, lwT 128 (by decide +kernel) (by decide +kernel)⟩
theorem gX2_35 : FOKp RX2 35 2 7 .boolean := ⟨RX2, TX2, 8, tyX2, rfl, inGX2, by decide +kernel, lwT 128 (by decide +kernel) (by decide +kernel), tyX2_ok, nmX2, rfl, by decide +kernel⟩
theorem fX2_43 : FOK RX2 43 0 3 := ⟨RX0, TX0, 9, rfl, inGX0, by decide +kernel, lwT 43 (by decide +kernel) (by decide +kernel)⟩
theorem fX2_48 : FOK RX2 48 0 7 := ⟨RX0, TX0, 9, rfl, inGX0, by decide +kernel, lwT 53 (by decide +kernel) (by decide +kernel)⟩
theorem fX2_55 : FOK RX2 55 0 8 := ⟨RX0, TX0, 9, rfl, inGX0, by decide +kernel, lwT 59 (by decide +kernel) (by decide +kernel)⟩
theorem gX2_55 : FOKp RX2 55 0 8 .int := ⟨RX0, TX0, 9, tyX0, rfl, inGX0, by decide +kernel, lwT 59 (by decide +kernel) (by decide +kernel), tyX0_ok, nmX0, rfl, by decide +kernel⟩
theorem fX2_56 : FOK RX2 56 0 0 := ⟨RX0, TX0, 9, rfl, inGX0, by decide +kernel, lwT 29 (by decide +kernel) (by decide +kernel)⟩
theorem fX2_63 : FOK RX2 63 0 2 := ⟨RX0, TX0, 9, rfl, inGX0, by decide +kernel, lwT 39 (by decide +kernel) (by decide +kernel)⟩
theorem fX2_77 : FOK RX2 77 0 1 := ⟨RX0, TX0, 9, rfl, inGX0, by decide +kernel, lwT 34 (by decide +kernel) (by decide +kernel)⟩
theorem fX3_9 : FOK RX3 9 3 0 := ⟨RX3, TX3, 7, rfl, inGX3, by decide +kernel, lwT 86 (by decide +kernel) (by decide +kernel)⟩
theorem fX3_15 : FOK RX3 15 3 1 := ⟨RX3, TX3, 7, rfl, inGX3, by decide +kernel, lwT 87 (by decide +kernel) (by decide +kernel)⟩
theorem gX3_15 : FOKp RX3 15 3 1 .int := ⟨RX3, TX3, 7, tyX3, rfl, inGX3, by decide +kernel, lwT 87 (by decide +kernel) (by decide +kernel), tyX3_ok, nmX3, rfl, by decide +kernel⟩
theorem fX3_19 : FOK RX3 19 3 2 := ⟨RX3, TX3, 7, rfl, inGX3, by decide +kernel, lwT 89 (by decide +kernel) (by decide +kernel)⟩
theorem gX3_19 : FOKp RX3 19 3 2 .int := ⟨RX3, TX3, 7, tyX3, rfl, inGX3, by decide +kernel, lwT 89 (by decide +kernel) (by decide +kernel), tyX3_ok, nmX3, rfl, by decide +kernel⟩
theorem fX3_22 : FOK RX3 22 3 3 := ⟨RX3, TX3, 7, rfl, inGX3, by decide +kernel, lwT 90 (by decide +kernel) (by decide +kernel)⟩
theorem gX3_22 : FOKp RX3 22 3 3 .int := ⟨RX3, TX3, 7, tyX3, rfl, inGX3, by decide +kernel, lwT 90 (by decide +kernel) (by decide +kernel), tyX3_ok, nmX3, rfl, by decide +kernel⟩
theorem fX3_25 : FOK RX3 25 3 4 := ⟨RX3, TX3, 7, rfl, inGX3, by decide +kernel, lwT 91 (by decide +kernel) (by decide +kernel)⟩
theorem gX3_25 : FOKp RX3 25 3 4 .int := ⟨RX3, TX3, 7, tyX3, rfl, inGX3, by decide +kernel, lwT 91 (by decide +kernel) (by decide +kernel), tyX3_ok, nmX3, rfl, by decide +kernel⟩
theorem fX3_28 : FOK RX3 28 3 5 := ⟨RX3, TX3, 7, rfl, inGX3, by decide +kernel, lwT 92 (by decide +kernel) (by decide +kernel)⟩
theorem gX3_28 : FOKp RX3 28 3 5 .int := ⟨RX3, TX3, 7, tyX3, rfl, inGX3, by decide +kernel, lwT 92 (by decide +kernel) (by decide +kernel), tyX3_ok, nmX3, rfl, by decide +kernel⟩
theorem fX3_31 : FOK RX3 31 3 6 := ⟨RX3, TX3, 7, rfl, inGX3, by decide +kernel, lwT 93 (by decide +kernel) (by decide +kernel)⟩
theorem gX3_31 : FOKp RX3 31 3 6 .int := ⟨RX3, TX3, 7, tyX3, rfl, inGX3, by decide +kernel, lwT 93 (by decide +kernel) (by decide +kernel), tyX3_ok, nmX3, rfl, by decide +kernel⟩
theorem fX4_9 : FOK RX4 9 4 0 := ⟨RX4, TX4, 3, rfl, inGX4, by decide +kernel, lwT 188 (by decide +kernel) (by decide +kernel)⟩
theorem fX4_15 : FOK RX4 15 4 1 := ⟨RX4, TX4, 3, rfl, inGX4, by decide +kernel, lwT 190 (by decide +kernel) (by decide +kernel)⟩
theorem gX4_15 : FOKp RX4 15 4 1 .int := ⟨RX4, TX4, 3, tyX4, rfl, inGX4, by decide +kernel, lwT 190 (by decide +kernel) (by decide +kernel), tyX4_ok, nmX4, rfl, by decide +kernel⟩
theorem fX4_19 : FOK RX4 19 4 2 := ⟨RX4, TX4, 3, rfl, inGX4, by decide +kernel, lwT 192 (by decide +kernel) (by decide +kernel)⟩
theorem gX4_19 : FOKp RX4 19 4 2 .boolean := ⟨RX4, TX4, 3, tyX4, rfl, inGX4, by decide +kernel, lwT 192 (by decide +kernel) (by decide +kernel), tyX4_ok, nmX4, rfl, by decide +kernel⟩
theorem fX4_23 : FOK RX4 23 0 3 := ⟨RX0, TX0, 9, rfl, inGX0, by decide +kernel, lwT 42 (by decide +kernel) (by decide +kernel)⟩
theorem fX4_32 : FOK RX4 32 0 7 := ⟨RX0, TX0, 9, rfl, inGX0, by decide +kernel, lwT 52 (by decide +kernel) (by decide +kernel)⟩
theorem fX4_41 : FOK RX4 41 2 2 := ⟨RX2, TX2, 8, rfl, inGX2, by decide +kernel, lwT 120 (by decide +kernel) (by decide +kernel)⟩
theorem fX5_9 : FOK RX5 9 5 0 := ⟨RX5, TX5, 3, rfl, inGX5, by decide +kernel, lwT 154 (by decide +kernel) (by decide +kernel)⟩
theorem fX5_15 : FOK RX5 15 5 1 := ⟨RX5, TX5, 3, rfl, inGX5, by decide +kernel, lwT 156 (by decide +kernel) (by decide +kernel)⟩
theorem fX5_18 : FOK RX5 18 5 2 := ⟨RX5, TX5, 3, rfl, inGX5, by decide +kernel, lwT 158 (by decide +kernel) (by decide +kernel)⟩
theorem fX5_22 : FOK RX5 22 0 8 := ⟨RX0, TX0, 9, rfl, inGX0, by decide +kernel, lwT 57 (by decide +kernel) (by decide +kernel)⟩
theorem gX5_22 : FOKp RX5 22 0 8 .int := ⟨RX0, TX0, 9, tyX0, rfl, inGX0, by decide +kernel, lwT 57 (by decide +kernel) (by decide +kernel), tyX0_ok, nmX0, rfl, by decide +kernel⟩
theorem fX5_36 : FOK RX5 36 0 0 := ⟨RX0, TX0, 9, rfl, inGX0, by decide +kernel, lwT 28 (by decide +kernel) (by decide +kernel)⟩
theorem fX5_39 : FOK RX5 39 0 2 := ⟨RX0, TX0, 9, rfl, inGX0, by decide +kernel, lwT 38 (by decide +kernel) (by decide +kernel)⟩
theorem fX5_45 : FOK RX5 45 0 1 := ⟨RX0, TX0, 9, rfl, inGX0, by decide +kernel, lwT 32 (by decide +kernel) (by decide +kernel)⟩
theorem fX7_7 : FOK RX7 7 7 1 := ⟨RX7, TX7, 30, rfl, inGX7, by decide +kernel, lwT 602 (by decide +kernel) (by decide +kernel)⟩
theorem fX7_13 : FOK RX7 13 7 2 := ⟨RX7, TX7, 30, rfl, inGX7, by decide +kernel, lwT 603 (by decide +kernel) (by decide +kernel)⟩
theorem fX7_16 : FOK RX7 16 7 3 := ⟨RX7, TX7, 30, rfl, inGX7, by decide +kernel, lwT 604 (by decide +kernel) (by decide +kernel)⟩
theorem fX7_19 : FOK RX7 19 7 4 := ⟨RX7, TX7, 30, rfl, inGX7, by decide +kernel, lwT 605 (by decide +kernel) (by decide +kernel)⟩
theorem fX7_22 : FOK RX7 22 7 5 := ⟨RX7, TX7, 30, rfl, inGX7, by decide +kernel, lwT 606 (by decide +kernel) (by decide +kernel)⟩
theorem fX7_25 : FOK RX7 25 7 6 := ⟨RX7, TX7, 30, rfl, inGX7, by decide +kernel, lwT 607 (by decide +kernel) (by decide +kernel)⟩
theorem fX7_28 : FOK RX7 28 7 7 := ⟨RX7, TX7, 30, rfl, inGX7, by decide +kernel, lwT 608 (by decide +kernel) (by decide +kernel)⟩
theorem fX7_31 : FOK RX7 31 7 8 := ⟨RX7, TX7, 30, rfl, inGX7, by decide +kernel, lwT 609 (by decide +kernel) (by decide +kernel)⟩
theorem fX7_34 : FOK RX7 34 7 10 := ⟨RX7, TX7, 30, rfl, inGX7, by decide +kernel, lwT 611 (by decide +kernel) (by decide +kernel)⟩
theorem fX7_37 : FOK RX7 37 7 11 := ⟨RX7, TX7, 30, rfl, inGX7, by decide +kernel, lwT 612 (by decide +kernel) (by decide +kernel)⟩
theorem fX7_40 : FOK RX7 40 7 14 := ⟨RX7, TX7, 30, rfl, inGX7, by decide +kernel, lwT 615 (by decide +kernel) (by decide +kernel)⟩
theorem fX7_43 : FOK RX7 43 7 15 := ⟨RX7, TX7, 30, rfl, inGX7, by decide +kernel, lwT 616 (by decide +kernel) (by decide +kernel)⟩
theorem fX7_46 : FOK RX7 46 7 16 := ⟨RX7, TX7, 30, rfl, inGX7, by decide +kernel, lwT 617 (by decide +kernel) (by decide +kernel)⟩
theorem fX7_49 : FOK RX7 49 7 17 := ⟨RX7, TX7, 30, rfl, inGX7, by decide +kernel, lwT 618 (by decide +kernel) (by decide +kernel)⟩
theorem fX7_53 : FOK RX7 53 7 18 := ⟨RX7, TX7, 30, rfl, inGX7, by decide +kernel, lwT 619 (by decide +kernel) (by decide +kernel)⟩
theorem fX7_56 : FOK RX7 56 7 19 := ⟨RX7, TX7, 30, rfl, inGX7, by decide +kernel, lwT 620 (by decide +kernel) (by decide +kernel)⟩
theorem fX7_59 : FOK RX7 59 7 20 := ⟨RX7, TX7, 30, rfl, inGX7, by decide +kernel, lwT 621 (by decide +kernel) (by decide +kernel)⟩
theorem fX7_62 : FOK RX7 62 7 21 := ⟨RX7, TX7, 30, rfl, inGX7, by decide +kernel, lwT 622 (by decide +kernel) (by decide +kernel)⟩
theorem fX7_65 : FOK RX7 65 7 26 := ⟨RX7, TX7, 30, rfl, inGX7, by decide +kernel, lwT 627 (by decide +kernel) (by decide +kernel)⟩
theorem fX7_68 : FOK RX7 68 7 27 := ⟨RX7, TX7, 30, rfl, inGX7, by decide +kernel, lwT 628 (by decide +kernel) (by decide +kernel)⟩
theorem fX7_71 : FOK RX7 71 7 28 := ⟨RX7, TX7, 30, rfl, inGX7, by decide +kernel, lwT 629 (by decide +kernel) (by decide +kernel)⟩
theorem fX7_74 : FOK RX7 74 7 29 := ⟨RX7, TX7, 30, rfl, inGX7, by decide +kernel, lwT 630 (by decide +kernel) (by decide +kernel)⟩
theorem fX7_81 : FOK RX7 81 7 0 := ⟨RX7, TX7, 30, rfl, inGX7, by decide +kernel, lwT 601 (by decide +kernel) (by decide +kernel)⟩
theorem gX7_81 : FOKp RX7 81 7 0 .int := ⟨RX7, TX7, 30, tyX7, rfl, inGX7, by decide +kernel, lwT 601 (by decide +kernel) (by decide +kernel), tyX7_ok, nmX7, rfl, by decide +kernel⟩
theorem fX7_107 : FOK RX7 107 7 9 := ⟨RX7, TX7, 30, rfl, inGX7, by decide +kernel, lwT 610 (by decide +kernel) (by decide +kernel)⟩
theorem gX7_107 : FOKp RX7 107 7 9 .int := ⟨RX7, TX7, 30, tyX7, rfl, inGX7, by decide +kernel, lwT 610 (by decide +kernel) (by decide +kernel), tyX7_ok, nmX7, rfl, by decide +kernel⟩
theorem fX7_114 : FOK RX7 114 7 12 := ⟨RX7, TX7, 30, rfl, inGX7, by decide +kernel, lwT 613 (by decide +kernel) (by decide +kernel)⟩
theorem gX7_114 : FOKp RX7 114 7 12 .int := ⟨RX7, TX7, 30, tyX7, rfl, inGX7, by decide +kernel, lwT 613 (by decide +kernel) (by decide +kernel), tyX7_ok, nmX7, rfl, by decide +kernel⟩
theorem fX7_117 : FOK RX7 117 7 13 := ⟨RX7, TX7, 30, rfl, inGX7, by decide +kernel, lwT 614 (by decide +kernel) (by decide +kernel)⟩
theorem gX7_117 : FOKp RX7 117 7 13 .int := ⟨RX7, TX7, 30, tyX7, rfl, inGX7, by decide +kernel, lwT 614 (by decide +kernel) (by decide +kernel), tyX7_ok, nmX7, rfl, by decide +kernel⟩
theorem fX7_145 : FOK RX7 145 7 22 := ⟨RX7, TX7, 30, rfl, inGX7, by decide +kernel, lwT 623 (by decide +kernel) (by decide +kernel)⟩
theorem gX7_145 : FOKp RX7 145 7 22 .long := ⟨RX7, TX7, 30, tyX7, rfl, inGX7, by decide +kernel, lwT 623 (by decide +kernel) (by decide +kernel), tyX7_ok, nmX7, rfl, by decide +kernel⟩
theorem fX7_149 : FOK RX7 149 7 23 := ⟨RX7, TX7, 30, rfl, inGX7, by decide +kernel, lwT 624 (by decide +kernel) (by decide +kernel)⟩
theorem gX7_149 : FOKp RX7 149 7 23 .long := ⟨RX7, TX7, 30, tyX7, rfl, inGX7, by decide +kernel, lwT 624 (by decide +kernel) (by decide +kernel), tyX7_ok, nmX7, rfl, by decide +kernel⟩
theorem fX7_168 : FOK RX7 168 7 25 := ⟨RX7, TX7, 30, rfl, inGX7, by decide +kernel, lwT 626 (by decide +kernel) (by decide +kernel)⟩
theorem gX7_168 : FOKp RX7 168 7 25 .int := ⟨RX7, TX7, 30, tyX7, rfl, inGX7, by decide +kernel, lwT 626 (by decide +kernel) (by decide +kernel), tyX7_ok, nmX7, rfl, by decide +kernel⟩
theorem fX7_171 : FOK RX7 171 7 24 := ⟨RX7, TX7, 30, rfl, inGX7, by decide +kernel, lwT 625 (by decide +kernel) (by decide +kernel)⟩
theorem gX7_171 : FOKp RX7 171 7 24 .int := ⟨RX7, TX7, 30, tyX7, rfl, inGX7, by decide +kernel, lwT 625 (by decide +kernel) (by decide +kernel), tyX7_ok, nmX7, rfl, by decide +kernel⟩
theorem mX6_55 : Cond.methodLink RX6 55 yX6_isCoin ∈ lwG := lwT 227 (by decide +kernel) (by decide +kernel)
theorem mX6_59 : Cond.methodLink RX6 59 yX6_isWithin ∈ lwG := lwT 230 (by decide +kernel) (by decide +kernel)
theorem mX6_67 : Cond.methodLink RX6 67 yX6_forget ∈ lwG := lwT 233 (by decide +kernel) (by decide +kernel)
theorem mX6_70 : Cond.methodLink RX6 70 yX0_add ∈ lwG := lwT 237 (by decide +kernel) (by decide +kernel)
theorem mX6_74 : Cond.methodLink RX6 74 yX0_has ∈ lwG := lwT 246 (by decide +kernel) (by decide +kernel)
theorem mX6_98 : Cond.methodLink RX6 98 yX0_isOpen ∈ lwG := lwT 250 (by decide +kernel) (by decide +kernel)
theorem mX6_101 : Cond.methodLink RX6 101 yX0_upper ∈ lwG := lwT 256 (by decide +kernel) (by decide +kernel)
theorem mX6_116 : Cond.methodLink RX6 116 yX3_add ∈ lwG := lwT 284 (by decide +kernel) (by decide +kernel)
theorem mX6_119 : Cond.methodLink RX6 119 yX3_faultPlace ∈ lwG := lwT 296 (by decide +kernel) (by decide +kernel)
theorem mX6_123 : Cond.methodLink RX6 123 yX3_countBoards ∈ lwG := lwT 316 (by decide +kernel) (by decide +kernel)
theorem mX6_126 : Cond.methodLink RX6 126 yX3_hangUp ∈ lwG := lwT 320 (by decide +kernel) (by decide +kernel)
theorem mX6_130 : Cond.methodLink RX6 130 yX6_lookAround ∈ lwG := lwT 329 (by decide +kernel) (by decide +kernel)
theorem mX6_137 : Cond.methodLink RX6 137 yX2_hasGainer ∈ lwG := lwT 364 (by decide +kernel) (by decide +kernel)
theorem mX6_143 : Cond.methodLink RX6 143 yX2_length ∈ lwG := lwT 368 (by decide +kernel) (by decide +kernel)
theorem mX6_146 : Cond.methodLink RX6 146 yX2_boardAt ∈ lwG := lwT 378 (by decide +kernel) (by decide +kernel)
theorem mX6_154 : Cond.methodLink RX6 154 yX2_upper ∈ lwG := lwT 385 (by decide +kernel) (by decide +kernel)
theorem mX6_161 : Cond.methodLink RX6 161 yX6_greatestDivisor ∈ lwG := lwT 386 (by decide +kernel) (by decide +kernel)
theorem mX6_165 : Cond.methodLink RX6 165 yX6_inLowestTerms ∈ lwG := lwT 389 (by decide +kernel) (by decide +kernel)
theorem mX6_168 : Cond.methodLink RX6 168 yX2_greatest ∈ lwG := lwT 396 (by decide +kernel) (by decide +kernel)
theorem mX6_172 : Cond.methodLink RX6 172 yX2_shortest ∈ lwG := lwT 403 (by decide +kernel) (by decide +kernel)
theorem mX6_175 : Cond.methodLink RX6 175 yX2_numberOfGainer ∈ lwG := lwT 408 (by decide +kernel) (by decide +kernel)
theorem mX6_178 : Cond.methodLink RX6 178 yX2_countThrough ∈ lwG := lwT 416 (by decide +kernel) (by decide +kernel)
theorem mX6_181 : Cond.methodLink RX6 181 yX2_commonBits ∈ lwG := lwT 424 (by decide +kernel) (by decide +kernel)
theorem mX6_184 : Cond.methodLink RX6 184 yX0_openBits ∈ lwG := lwT 432 (by decide +kernel) (by decide +kernel)
theorem mX6_187 : Cond.methodLink RX6 187 yX2_fewestThatHit ∈ lwG := lwT 437 (by decide +kernel) (by decide +kernel)
theorem mX6_190 : Cond.methodLink RX6 190 yX2_leastMove ∈ lwG := lwT 449 (by decide +kernel) (by decide +kernel)
theorem mX6_194 : Cond.methodLink RX6 194 yX2_anyGains ∈ lwG := lwT 464 (by decide +kernel) (by decide +kernel)
theorem mX6_198 : Cond.methodLink RX6 198 yX6_refuseFraction ∈ lwG := lwT 469 (by decide +kernel) (by decide +kernel)
theorem mX6_204 : Cond.methodLink RX6 204 yX5_spread ∈ lwG := lwT 474 (by decide +kernel) (by decide +kernel)
theorem mX6_210 : Cond.methodLink RX6 210 yX6_gets ∈ lwG := lwT 491 (by decide +kernel) (by decide +kernel)
theorem mX6_214 : Cond.methodLink RX6 214 yX5_reachOut ∈ lwG := lwT 496 (by decide +kernel) (by decide +kernel)
theorem mX6_218 : Cond.methodLink RX6 218 yX5_joinedBits ∈ lwG := lwT 500 (by decide +kernel) (by decide +kernel)
theorem mX6_221 : Cond.methodLink RX6 221 yX5_countSets ∈ lwG := lwT 508 (by decide +kernel) (by decide +kernel)
theorem mX6_224 : Cond.methodLink RX6 224 yX6_excess ∈ lwG := lwT 524 (by decide +kernel) (by decide +kernel)
theorem mX6_227 : Cond.methodLink RX6 227 yX1_goAll ∈ lwG := lwT 532 (by decide +kernel) (by decide +kernel)
theorem mX6_231 : Cond.methodLink RX6 231 yX1_bestSteps ∈ lwG := lwT 552 (by decide +kernel) (by decide +kernel)
theorem mX6_237 : Cond.methodLink RX6 237 yX1_lookBack ∈ lwG := lwT 556 (by decide +kernel) (by decide +kernel)
theorem mX6_241 : Cond.methodLink RX6 241 yX1_boardOnWay ∈ lwG := lwT 568 (by decide +kernel) (by decide +kernel)
theorem mX6_249 : Cond.methodLink RX6 249 yX4_send ∈ lwG := lwT 580 (by decide +kernel) (by decide +kernel)
theorem mX6_258 : Cond.methodLink RX6 258 yX2_findAll ∈ lwG := lwT 333 (by decide +kernel) (by decide +kernel)
theorem mX0_41 : Cond.methodLink RX0 41 yX0_has ∈ lwG := lwT 254 (by decide +kernel) (by decide +kernel)
theorem mX0_49 : Cond.methodLink RX0 49 yX0_isOpen ∈ lwG := lwT 436 (by decide +kernel) (by decide +kernel)
theorem mX0_56 : Cond.methodLink RX0 56 Lib.Math.min.name ∈ lwG := lwT 545 (by decide +kernel) (by decide +kernel)
theorem mX0_61 : Cond.methodLink RX0 61 yX0_wholes ∈ lwG := lwT 541 (by decide +kernel) (by decide +kernel)
theorem mX0_64 : Cond.methodLink RX0 64 yX0_upper ∈ lwG := lwT 548 (by decide +kernel) (by decide +kernel)
theorem mX1_34 : Cond.methodLink RX1 34 yX0_isOpen ∈ lwG := lwT 536 (by decide +kernel) (by decide +kernel)
theorem mX1_38 : Cond.methodLink RX1 38 yX0_heapBehind ∈ lwG := lwT 537 (by decide +kernel) (by decide +kernel)
theorem mX1_42 : Cond.methodLink RX1 42 Lib.Math.max.name ∈ lwG := lwT 549 (by decide +kernel) (by decide +kernel)
theorem mX1_48 : Cond.methodLink RX1 48 yX1_neededAhead ∈ lwG := lwT 561 (by decide +kernel) (by decide +kernel)
theorem mX1_52 : Cond.methodLink RX1 52 Lib.Math.min.name ∈ lwG := lwT 567 (by decide +kernel) (by decide +kernel)
theorem mX1_55 : Cond.methodLink RX1 55 yX0_upper ∈ lwG := lwT 564 (by decide +kernel) (by decide +kernel)
theorem mX1_60 : Cond.methodLink RX1 60 yX0_wholes ∈ lwG := lwT 566 (by decide +kernel) (by decide +kernel)
theorem mX1_66 : Cond.methodLink RX1 66 yX1_firstThatDoes ∈ lwG := lwT 572 (by decide +kernel) (by decide +kernel)
theorem mX2_39 : Cond.methodLink RX2 39 yX2_goOn ∈ lwG := lwT 337 (by decide +kernel) (by decide +kernel)
theorem mX2_51 : Cond.methodLink RX2 51 yX2_gains ∈ lwG := lwT 351 (by decide +kernel) (by decide +kernel)
theorem mX2_59 : Cond.methodLink RX2 59 yX0_isOpen ∈ lwG := lwT 340 (by decide +kernel) (by decide +kernel)
theorem mX2_66 : Cond.methodLink RX2 66 yX2_keep ∈ lwG := lwT 341 (by decide +kernel) (by decide +kernel)
theorem mX2_70 : Cond.methodLink RX2 70 yX2_boardAt ∈ lwG := lwT 345 (by decide +kernel) (by decide +kernel)
theorem mX2_74 : Cond.methodLink RX2 74 yX0_has ∈ lwG := lwT 350 (by decide +kernel) (by decide +kernel)
theorem mX2_82 : Cond.methodLink RX2 82 yJ6_bitCount_0f7a4 ∈ lwG := lwT 372 (by decide +kernel) (by decide +kernel)
theorem mX2_91 : Cond.methodLink RX2 91 yX2_upper ∈ lwG := lwT 355 (by decide +kernel) (by decide +kernel)
theorem mX2_99 : Cond.methodLink RX2 99 yX2_length ∈ lwG := lwT 407 (by decide +kernel) (by decide +kernel)
theorem mX2_102 : Cond.methodLink RX2 102 yX2_hitsAll ∈ lwG := lwT 441 (by decide +kernel) (by decide +kernel)
theorem mX2_105 : Cond.methodLink RX2 105 arraycopyName ∈ lwG := lwT 453 (by decide +kernel) (by decide +kernel)
theorem mX2_111 : Cond.methodLink RX2 111 yX2_anyGains ∈ lwG := lwT 456 (by decide +kernel) (by decide +kernel)
theorem mX3_34 : Cond.methodLink RX3 34 yX3_passBoard ∈ lwG := lwT 300 (by decide +kernel) (by decide +kernel)
theorem mX3_38 : Cond.methodLink RX3 38 yX3_passOneOf ∈ lwG := lwT 308 (by decide +kernel) (by decide +kernel)
theorem mX3_42 : Cond.methodLink RX3 42 yX0_add ∈ lwG := lwT 324 (by decide +kernel) (by decide +kernel)
theorem mX3_48 : Cond.methodLink RX3 48 yX3_passCoins ∈ lwG := lwT 304 (by decide +kernel) (by decide +kernel)
theorem mX4_26 : Cond.methodLink RX4 26 arraycopyName ∈ lwG := lwT 584 (by decide +kernel) (by decide +kernel)
theorem mX4_35 : Cond.methodLink RX4 35 yX2_greatest ∈ lwG := lwT 585 (by decide +kernel) (by decide +kernel)
theorem mX4_44 : Cond.methodLink RX4 44 yX4_wearOut ∈ lwG := lwT 586 (by decide +kernel) (by decide +kernel)
theorem mX4_48 : Cond.methodLink RX4 48 Lib.Math.max.name ∈ lwG := lwT 590 (by decide +kernel) (by decide +kernel)
theorem mX5_28 : Cond.methodLink RX5 28 yX0_isOpen ∈ lwG := lwT 478 (by decide +kernel) (by decide +kernel)
theorem mX5_32 : Cond.methodLink RX5 32 yX5_goOver ∈ lwG := lwT 479 (by decide +kernel) (by decide +kernel)
theorem mX5_42 : Cond.methodLink RX5 42 yX0_upper ∈ lwG := lwT 483 (by decide +kernel) (by decide +kernel)
theorem mX5_59 : Cond.methodLink RX5 59 yX5_joinedBits ∈ lwG := lwT 512 (by decide +kernel) (by decide +kernel)
theorem mX5_62 : Cond.methodLink RX5 62 yJ6_lowestOneBit_0f7a4 ∈ lwG := lwT 513 (by decide +kernel) (by decide +kernel)
theorem mL_13 : Cond.methodLink RL 13 yX6_board ∈ lwG := lwT 223 (by decide +kernel) (by decide +kernel)
theorem mL_17 : Cond.methodLink RL 17 yX7_board ∈ lwG := lwT 692 (by decide +kernel) (by decide +kernel)
theorem mL_18 : Cond.methodLink RL 18 yX6_of ∈ lwG := lwT 242 (by decide +kernel) (by decide +kernel)
theorem mL_22 : Cond.methodLink RL 22 yX7_of ∈ lwG := lwT 707 (by decide +kernel) (by decide +kernel)
theorem mL_23 : Cond.methodLink RL 23 yX6_change ∈ lwG := lwT 263 (by decide +kernel) (by decide +kernel)
theorem mL_27 : Cond.methodLink RL 27 yX7_change ∈ lwG := lwT 723 (by decide +kernel) (by decide +kernel)
theorem mL_28 : Cond.methodLink RL 28 yX6_hours ∈ lwG := lwT 268 (by decide +kernel) (by decide +kernel)
theorem mL_31 : Cond.methodLink RL 31 yX7_hours ∈ lwG := lwT 727 (by decide +kernel) (by decide +kernel)
theorem mL_32 : Cond.methodLink RL 32 yX6_set ∈ lwG := lwT 272 (by decide +kernel) (by decide +kernel)
theorem mL_35 : Cond.methodLink RL 35 yX7_set ∈ lwG := lwT 734 (by decide +kernel) (by decide +kernel)
theorem mL_36 : Cond.methodLink RL 36 yX6_say ∈ lwG := lwT 280 (by decide +kernel) (by decide +kernel)
theorem mL_40 : Cond.methodLink RL 40 yX7_say ∈ lwG := lwT 738 (by decide +kernel) (by decide +kernel)
theorem mL_41 : Cond.methodLink RL 41 yX6_wipe ∈ lwG := lwT 288 (by decide +kernel) (by decide +kernel)
theorem mL_45 : Cond.methodLink RL 45 yX7_wipe ∈ lwG := lwT 742 (by decide +kernel) (by decide +kernel)
theorem mL_46 : Cond.methodLink RL 46 yX6_fault ∈ lwG := lwT 292 (by decide +kernel) (by decide +kernel)
theorem mL_49 : Cond.methodLink RL 49 yX7_fault ∈ lwG := lwT 746 (by decide +kernel) (by decide +kernel)
theorem mL_50 : Cond.methodLink RL 50 yX6_read ∈ lwG := lwT 312 (by decide +kernel) (by decide +kernel)
theorem mL_53 : Cond.methodLink RL 53 yX7_read ∈ lwG := lwT 754 (by decide +kernel) (by decide +kernel)
theorem mL_54 : Cond.methodLink RL 54 yX6_rounds ∈ lwG := lwT 325 (by decide +kernel) (by decide +kernel)
theorem mL_57 : Cond.methodLink RL 57 yX7_rounds ∈ lwG := lwT 758 (by decide +kernel) (by decide +kernel)
theorem mL_58 : Cond.methodLink RL 58 yX6_round ∈ lwG := lwT 360 (by decide +kernel) (by decide +kernel)
theorem mL_61 : Cond.methodLink RL 61 yX7_round ∈ lwG := lwT 770 (by decide +kernel) (by decide +kernel)
theorem mL_62 : Cond.methodLink RL 62 yX6_product ∈ lwG := lwT 379 (by decide +kernel) (by decide +kernel)
theorem mL_66 : Cond.methodLink RL 66 yX7_product ∈ lwG := lwT 774 (by decide +kernel) (by decide +kernel)
theorem mL_67 : Cond.methodLink RL 67 yX6_best ∈ lwG := lwT 392 (by decide +kernel) (by decide +kernel)
theorem mL_70 : Cond.methodLink RL 70 yX7_best ∈ lwG := lwT 783 (by decide +kernel) (by decide +kernel)
theorem mL_71 : Cond.methodLink RL 71 yX6_through ∈ lwG := lwT 412 (by decide +kernel) (by decide +kernel)
theorem mL_74 : Cond.methodLink RL 74 yX7_through ∈ lwG := lwT 794 (by decide +kernel) (by decide +kernel)
theorem mL_75 : Cond.methodLink RL 75 yX6_blamed ∈ lwG := lwT 420 (by decide +kernel) (by decide +kernel)
theorem mL_78 : Cond.methodLink RL 78 yX7_blamed ∈ lwG := lwT 798 (by decide +kernel) (by decide +kernel)
theorem mL_79 : Cond.methodLink RL 79 yX6_cut ∈ lwG := lwT 428 (by decide +kernel) (by decide +kernel)
theorem mL_82 : Cond.methodLink RL 82 yX7_cut ∈ lwG := lwT 802 (by decide +kernel) (by decide +kernel)
theorem mL_83 : Cond.methodLink RL 83 yX6_move ∈ lwG := lwT 445 (by decide +kernel) (by decide +kernel)
theorem mL_86 : Cond.methodLink RL 86 yX7_move ∈ lwG := lwT 809 (by decide +kernel) (by decide +kernel)
theorem mL_87 : Cond.methodLink RL 87 yX6_edge ∈ lwG := lwT 460 (by decide +kernel) (by decide +kernel)
theorem mL_90 : Cond.methodLink RL 90 yX7_edge ∈ lwG := lwT 813 (by decide +kernel) (by decide +kernel)
theorem mL_91 : Cond.methodLink RL 91 yX6_gets ∈ lwG := lwT 465 (by decide +kernel) (by decide +kernel)
theorem mL_95 : Cond.methodLink RL 95 yX7_gets ∈ lwG := lwT 817 (by decide +kernel) (by decide +kernel)
theorem mL_96 : Cond.methodLink RL 96 yX6_span ∈ lwG := lwT 487 (by decide +kernel) (by decide +kernel)
theorem mL_100 : Cond.methodLink RL 100 yX7_span ∈ lwG := lwT 830 (by decide +kernel) (by decide +kernel)
theorem mL_101 : Cond.methodLink RL 101 yX6_joined ∈ lwG := lwT 492 (by decide +kernel) (by decide +kernel)
theorem mL_104 : Cond.methodLink RL 104 yX7_joined ∈ lwG := lwT 834 (by decide +kernel) (by decide +kernel)
theorem mL_105 : Cond.methodLink RL 105 yX6_parts ∈ lwG := lwT 504 (by decide +kernel) (by decide +kernel)
theorem mL_108 : Cond.methodLink RL 108 yX7_parts ∈ lwG := lwT 846 (by decide +kernel) (by decide +kernel)
theorem mL_109 : Cond.methodLink RL 109 yX6_worth ∈ lwG := lwT 516 (by decide +kernel) (by decide +kernel)
theorem mL_112 : Cond.methodLink RL 112 yX7_worth ∈ lwG := lwT 850 (by decide +kernel) (by decide +kernel)
theorem mL_113 : Cond.methodLink RL 113 yX6_off ∈ lwG := lwT 520 (by decide +kernel) (by decide +kernel)
theorem mL_116 : Cond.methodLink RL 116 yX7_off ∈ lwG := lwT 854 (by decide +kernel) (by decide +kernel)
theorem mL_117 : Cond.methodLink RL 117 yX6_walk ∈ lwG := lwT 528 (by decide +kernel) (by decide +kernel)
theorem mL_121 : Cond.methodLink RL 121 yX7_walk ∈ lwG := lwT 858 (by decide +kernel) (by decide +kernel)
theorem mL_122 : Cond.methodLink RL 122 yX6_walkers ∈ lwG := lwT 576 (by decide +kernel) (by decide +kernel)
theorem mL_125 : Cond.methodLink RL 125 yX7_walkers ∈ lwG := lwT 870 (by decide +kernel) (by decide +kernel)
theorem mL_126 : Cond.methodLink RL 126 yX6_told ∈ lwG := lwT 591 (by decide +kernel) (by decide +kernel)
theorem mL_129 : Cond.methodLink RL 129 yX7_told ∈ lwG := lwT 874 (by decide +kernel) (by decide +kernel)
theorem mX7_77 : Cond.methodLink RX7 77 yX7_in ∈ lwG := lwT 699 (by decide +kernel) (by decide +kernel)
theorem mX7_86 : Cond.methodLink RX7 86 yX7_isCoin ∈ lwG := lwT 696 (by decide +kernel) (by decide +kernel)
theorem mX7_90 : Cond.methodLink RX7 90 yX7_add ∈ lwG := lwT 702 (by decide +kernel) (by decide +kernel)
theorem mX7_94 : Cond.methodLink RX7 94 yX7_isBoard ∈ lwG := lwT 711 (by decide +kernel) (by decide +kernel)
theorem mX7_97 : Cond.methodLink RX7 97 yX7_isOpen ∈ lwG := lwT 715 (by decide +kernel) (by decide +kernel)
theorem mX7_100 : Cond.methodLink RX7 100 yX7_upper ∈ lwG := lwT 719 (by decide +kernel) (by decide +kernel)
theorem mX7_104 : Cond.methodLink RX7 104 yX7_isHour ∈ lwG := lwT 731 (by decide +kernel) (by decide +kernel)
theorem mX7_110 : Cond.methodLink RX7 110 yX7_faultOf ∈ lwG := lwT 750 (by decide +kernel) (by decide +kernel)
theorem mX7_120 : Cond.methodLink RX7 120 yX7_keepRound ∈ lwG := lwT 766 (by decide +kernel) (by decide +kernel)
theorem mX7_124 : Cond.methodLink RX7 124 yX7_layRounds ∈ lwG := lwT 762 (by decide +kernel) (by decide +kernel)
theorem mX7_129 : Cond.methodLink RX7 129 yX7_term ∈ lwG := lwT 779 (by decide +kernel) (by decide +kernel)
theorem mX7_135 : Cond.methodLink RX7 135 yX7_held ∈ lwG := lwT 791 (by decide +kernel) (by decide +kernel)
theorem mX7_139 : Cond.methodLink RX7 139 yX7_mostOf ∈ lwG := lwT 787 (by decide +kernel) (by decide +kernel)
theorem mX7_142 : Cond.methodLink RX7 142 yX7_bits ∈ lwG := lwT 806 (by decide +kernel) (by decide +kernel)
theorem mX7_152 : Cond.methodLink RX7 152 yX7_someGains ∈ lwG := lwT 821 (by decide +kernel) (by decide +kernel)
theorem mX7_158 : Cond.methodLink RX7 158 yX7_layGets ∈ lwG := lwT 826 (by decide +kernel) (by decide +kernel)
theorem mX7_162 : Cond.methodLink RX7 162 yX7_reached ∈ lwG := lwT 842 (by decide +kernel) (by decide +kernel)
theorem mX7_165 : Cond.methodLink RX7 165 yX7_joinedOf ∈ lwG := lwT 838 (by decide +kernel) (by decide +kernel)
theorem mX7_174 : Cond.methodLink RX7 174 yX7_look ∈ lwG := lwT 866 (by decide +kernel) (by decide +kernel)
theorem mX7_177 : Cond.methodLink RX7 177 yX7_layWalk ∈ lwG := lwT 862 (by decide +kernel) (by decide +kernel)
theorem kX6_105 : Cond.constant RX6 105 (1000000) ∈ lwG := lwT 267 (by decide +kernel) (by decide +kernel)
theorem kX6_150 : Cond.constantLong RX6 150 (-1000000000000000001) ∈ lwG := lwT 383 (by decide +kernel) (by decide +kernel)
theorem kX6_152 : Cond.constantLong RX6 152 (-1000000000000000002) ∈ lwG := lwT 384 (by decide +kernel) (by decide +kernel)
theorem kX6_202 : Cond.constantLong RX6 202 (-1000000000000000000) ∈ lwG := lwT 473 (by decide +kernel) (by decide +kernel)
theorem kX0_40 : Cond.constant RX0 40 (1000000) ∈ lwG := lwT 241 (by decide +kernel) (by decide +kernel)
theorem kX1_47 : Cond.constant RX1 47 (2147483647) ∈ lwG := lwT 560 (by decide +kernel) (by decide +kernel)
theorem kX1_59 : Cond.constant RX1 59 (1000000) ∈ lwG := lwT 565 (by decide +kernel) (by decide +kernel)
theorem kX2_80 : Cond.constantLong RX2 80 (15) ∈ lwG := lwT 349 (by decide +kernel) (by decide +kernel)
theorem kX7_85 : Cond.constant RX7 85 (1000000) ∈ lwG := lwT 706 (by decide +kernel) (by decide +kernel)
theorem kX7_127 : Cond.constantLong RX7 127 (-1000000000000000001) ∈ lwG := lwT 778 (by decide +kernel) (by decide +kernel)
theorem kX7_133 : Cond.constantLong RX7 133 (-1000000000000000002) ∈ lwG := lwT 782 (by decide +kernel) (by decide +kernel)
theorem kX7_156 : Cond.constantLong RX7 156 (-1000000000000000003) ∈ lwG := lwT 825 (by decide +kernel) (by decide +kernel)
theorem kJ6_265 : Cond.constant RJ6 265 (1431655765) ∈ lwG := lwT 375 (by decide +kernel) (by decide +kernel)
theorem kJ6_266 : Cond.constant RJ6 266 (858993459) ∈ lwG := lwT 376 (by decide +kernel) (by decide +kernel)
theorem kJ6_267 : Cond.constant RJ6 267 (252645135) ∈ lwG := lwT 377 (by decide +kernel) (by decide +kernel)
theorem iniMA : Cond.initialized "java/lang/Math" ∈ lwG := lwT 11 (by decide +kernel) (by decide +kernel)
theorem r_mmax {cc : ByteArray} {mt : Mt} {pc : Nat} {ls : List (Nat × Value)} {st : List Value} {μ : Mem} {Q : Option Value → Mem → Prop} {idx : Nat} {x y : Int32} (hd : decode cc pc = .ok (.invokestatic idx, 3)) (hlk : Cond.methodLink mt.1 idx Lib.Math.max.name ∈ lwG) (hrest : (st.map fun v => v.category).sum ≤ 8) (hdd : 1 ≤ mt.2.2.2.1) (h : WP cc mt (pc + 3) ls (.int (if x < y then y else x) :: st) μ Q) : WP cc mt pc ls (.int y :: .int x :: st) μ Q := by
  intro p l e R s m args below meth c D ad ca A cells slots Qz C hR H locs hP hS la hl
  have hts := C.2.2.2.2.1
  refine va_mmax C.1 C.2.1 (C.2.2.1.trans hl.1.symm) C.2.2.2.1 (hts _ hlk) (hts _ tJ9_max_7cf53) (hts _ iniMA) (hts _ wJ9_max_7cf53) (Nat.le_trans hdd C.2.2.2.2.2.2.2.2.2.1.1) ?_ C.2.2.2.2.2.2.2.2.2.2.1.1 C.2.2.2.2.2.2.2.2.2.2.1.2 hd (h p l e R s m args below meth c D ad ca A cells slots Qz C hR H locs hP hS la hl)
  have h1 := C.2.2.2.2.2.2.2.2.2.1.2
  show ((cvS ad st).map fun v => v.category).sum + 13 ≤ R.locals
  rw [cvS_cats]
  omega
theorem r_mmin {cc : ByteArray} {mt : Mt} {pc : Nat} {ls : List (Nat × Value)} {st : List Value} {μ : Mem} {Q : Option Value → Mem → Prop} {idx : Nat} {x y : Int32} (hd : decode cc pc = .ok (.invokestatic idx, 3)) (hlk : Cond.methodLink mt.1 idx Lib.Math.min.name ∈ lwG) (hrest : (st.map fun v => v.category).sum ≤ 8) (hdd : 1 ≤ mt.2.2.2.1) (h : WP cc mt (pc + 3) ls (.int (if y < x then y else x) :: st) μ Q) : WP cc mt pc ls (.int y :: .int x :: st) μ Q := by
  intro p l e R s m args below meth c D ad ca A cells slots Qz C hR H locs hP hS la hl
  have hts := C.2.2.2.2.1
  refine va_mmin C.1 C.2.1 (C.2.2.1.trans hl.1.symm) C.2.2.2.1 (hts _ hlk) (hts _ tJ9_min_7cf53) (hts _ iniMA) (hts _ wJ9_min_7cf53) (Nat.le_trans hdd C.2.2.2.2.2.2.2.2.2.1.1) ?_ C.2.2.2.2.2.2.2.2.2.2.1.1 C.2.2.2.2.2.2.2.2.2.2.1.2 hd (h p l e R s m args below meth c D ad ca A cells slots Qz C hR H locs hP hS la hl)
  have h1 := C.2.2.2.2.2.2.2.2.2.1.2
  show ((cvS ad st).map fun v => v.category).sum + 13 ≤ R.locals
  rw [cvS_cats]
  omega
theorem natAC : Cond.native arraycopyName ∈ lwG := lwT 455 (by decide +kernel) (by decide +kernel)
theorem staAC : Cond.static arraycopyName ∈ lwG := lwT 454 (by decide +kernel) (by decide +kernel)
theorem iniAC : Cond.initialized "java/lang/System" ∈ lwG := lwT 10 (by decide +kernel) (by decide +kernel)
theorem nX0_45 : ((RX0, 45, yX6_isWithin, "FairBoards") : String × Nat × MethodName × String) ∈ lwN := List.mem_of_getElem? (i := 0) rfl
theorem nX0_52 : ((RX0, 52, yX6_rateUpper, "FairBoards") : String × Nat × MethodName × String) ∈ lwN := List.mem_of_getElem? (i := 1) rfl
theorem nX2_88 : ((RX2, 88, yX6_rateUpper, "FairBoards") : String × Nat × MethodName × String) ∈ lwN := List.mem_of_getElem? (i := 2) rfl
theorem nX2_95 : ((RX2, 95, yX6_isAbove, "FairBoards") : String × Nat × MethodName × String) ∈ lwN := List.mem_of_getElem? (i := 3) rfl
theorem nX5_48 : ((RX5, 48, yX6_isAbove, "FairBoards") : String × Nat × MethodName × String) ∈ lwN := List.mem_of_getElem? (i := 4) rfl
theorem nX5_52 : ((RX5, 52, yX6_greatestDivisor, "FairBoards") : String × Nat × MethodName × String) ∈ lwN := List.mem_of_getElem? (i := 5) rfl
theorem nX5_56 : ((RX5, 56, yX6_inLowestTerms, "FairBoards") : String × Nat × MethodName × String) ∈ lwN := List.mem_of_getElem? (i := 6) rfl
end
section
/-! RULES over small numbers: nI n a number n, b2i b a truth, cmp3 what lcmp leaves -/
def b2i (b : Bool) : Int32 := if b then 1 else 0
theorem b2i_nar (b : Bool) : narrow .boolean (.int (b2i b)) = .int (b2i b) := by cases b <;> rfl
theorem nI_inj {a b : Nat} (ha : a < 2 ^ 31) (hb : b < 2 ^ 31) (h : nI a = nI b) : a = b := (nI_eq ha hb).mp h
theorem nI_sub {a b : Nat} (h : b ≤ a) : nI a - nI b = nI (a - b) := pk_sub h
def cmp3 (a b : Nat) : Int32 := if a < b then -1 else if a = b then 0 else 1
theorem lg_cmp_nat {a b : Nat} (ha : a < 2 ^ 63) (hb : b < 2 ^ 63) : lg_cmp (lN a) (lN b) = cmp3 a b := by
  unfold lg_cmp cmp3
  by_cases h : a < b
  · have h1 := (pk_lLT ha hb).mpr h
    have h2 : ¬ lN b < lN a := fun q => absurd ((pk_lLT hb ha).mp q) (by omega)
    have h3 : ¬ lN a = lN b := fun q => absurd ((pk_lEQ ha hb).mp q) (by omega)
    simp [h, h1, h2, h3]
  · by_cases e : a = b
    · subst e
      have h1 : ¬ lN a < lN a := fun q => absurd ((pk_lLT ha ha).mp q) (by omega)
      simp [h1]
    · have h1 : ¬ lN a < lN b := fun q => absurd ((pk_lLT ha hb).mp q) h
      have h2 := (pk_lLT hb ha).mpr (by omega : b < a)
      have h3 : ¬ lN a = lN b := fun q => e ((pk_lEQ ha hb).mp q)
      simp [h, e, h1, h2, h3]
section NR
variable {cc : ByteArray} {mt : Mt} {pc : Nat} {ls : List (Nat × Value)} {st : List Value} {μ : Mem} {Q : Option Value → Mem → Prop}
theorem rn_iadd {a b : Nat} (hd : decode cc pc = .ok (.iadd, 1)) (h : WP cc mt (pc + 1) ls (.int (nI (a + b)) :: st) μ Q) : WP cc mt pc ls (.int (nI b) :: .int (nI a) :: st) μ Q := r_iadd hd (r_eqi (nI_add a b) h)
theorem rn_isub {a b : Nat} (hd : decode cc pc = .ok (.isub, 1)) (hb : b ≤ a) (h : WP cc mt (pc + 1) ls (.int (nI (a - b)) :: st) μ Q) : WP cc mt pc ls (.int (nI b) :: .int (nI a) :: st) μ Q := r_isub hd (r_eqi (nI_sub hb) h)
theorem rn_imul {a b : Nat} (hd : decode cc pc = .ok (.imul, 1)) (h : WP cc mt (pc + 1) ls (.int (nI (a * b)) :: st) μ Q) : WP cc mt pc ls (.int (nI b) :: .int (nI a) :: st) μ Q := r_imul hd (r_eqi (pk_mul a b) h)
theorem rn_idiv {a b : Nat} (hd : decode cc pc = .ok (.idiv, 1)) (ha : a < 2 ^ 31) (h0 : 0 < b) (hb : b < 2 ^ 31) (h : WP cc mt (pc + 1) ls (.int (nI (a / b)) :: st) μ Q) : WP cc mt pc ls (.int (nI b) :: .int (nI a) :: st) μ Q := r_idiv hd (nI_ne0 h0 hb) (r_eqi (pk_div ha h0 hb) h)
theorem rn_irem {a b : Nat} (hd : decode cc pc = .ok (.irem, 1)) (ha : a < 2 ^ 31) (h0 : 0 < b) (hb : b < 2 ^ 31) (h : WP cc mt (pc + 1) ls (.int (nI (a % b)) :: st) μ Q) : WP cc mt pc ls (.int (nI b) :: .int (nI a) :: st) μ Q := r_irem hd (nI_ne0 h0 hb) (r_eqi (pk_rem ha h0 hb) h)
theorem rn_icmp_lt {a b : Nat} {off : Int} {tgt : Nat} (hd : decode cc pc = .ok (.if_icmp .lt off, 3)) (ht : (pc : Int) + off = (tgt : Int)) (ha : a < 2 ^ 31) (hb : b < 2 ^ 31) (kt : a < b → WP cc mt tgt ls st μ Q) (kf : b ≤ a → WP cc mt (pc + 3) ls st μ Q) : WP cc mt pc ls (.int (nI b) :: .int (nI a) :: st) μ Q := r_icmp_lt hd ht (fun q => kt ((nI_ltI ha hb).mp q)) (fun q => kf (Nat.not_lt.mp fun z => q ((nI_ltI ha hb).mpr z)))
theorem rn_icmp_ge {a b : Nat} {off : Int} {tgt : Nat} (hd : decode cc pc = .ok (.if_icmp .ge off, 3)) (ht : (pc : Int) + off = (tgt : Int)) (ha : a < 2 ^ 31) (hb : b < 2 ^ 31) (kt : b ≤ a → WP cc mt tgt ls st μ Q) (kf : a < b → WP cc mt (pc + 3) ls st μ Q) : WP cc mt pc ls (.int (nI b) :: .int (nI a) :: st) μ Q := r_icmp_ge hd ht (fun q => kt ((nI_leI hb ha).mp q)) (fun q => kf (Nat.not_le.mp fun z => q ((nI_leI hb ha).mpr z)))
theorem rn_icmp_gt {a b : Nat} {off : Int} {tgt : Nat} (hd : decode cc pc = .ok (.if_icmp .gt off, 3)) (ht : (pc : Int) + off = (tgt : Int)) (ha : a < 2 ^ 31) (hb : b < 2 ^ 31) (kt : b < a → WP cc mt tgt ls st μ Q) (kf : a ≤ b → WP cc mt (pc + 3) ls st μ Q) : WP cc mt pc ls (.int (nI b) :: .int (nI a) :: st) μ Q := r_icmp_gt hd ht (fun q => kt ((nI_ltI hb ha).mp q)) (fun q => kf (Nat.not_lt.mp fun z => q ((nI_ltI hb ha).mpr z)))
theorem rn_icmp_le {a b : Nat} {off : Int} {tgt : Nat} (hd : decode cc pc = .ok (.if_icmp .le off, 3)) (ht : (pc : Int) + off = (tgt : Int)) (ha : a < 2 ^ 31) (hb : b < 2 ^ 31) (kt : a ≤ b → WP cc mt tgt ls st μ Q) (kf : b < a → WP cc mt (pc + 3) ls st μ Q) : WP cc mt pc ls (.int (nI b) :: .int (nI a) :: st) μ Q := r_icmp_le hd ht (fun q => kt ((nI_leI ha hb).mp q)) (fun q => kf (Nat.not_le.mp fun z => q ((nI_leI ha hb).mpr z)))
theorem rn_icmp_eq {a b : Nat} {off : Int} {tgt : Nat} (hd : decode cc pc = .ok (.if_icmp .eq off, 3)) (ht : (pc : Int) + off = (tgt : Int)) (ha : a < 2 ^ 31) (hb : b < 2 ^ 31) (kt : a = b → WP cc mt tgt ls st μ Q) (kf : ¬ a = b → WP cc mt (pc + 3) ls st μ Q) : WP cc mt pc ls (.int (nI b) :: .int (nI a) :: st) μ Q := r_icmp_eq hd ht (fun q => kt ((nI_eq ha hb).mp q)) (fun q => kf (fun z => q ((nI_eq ha hb).mpr z)))
theorem rn_icmp_ne {a b : Nat} {off : Int} {tgt : Nat} (hd : decode cc pc = .ok (.if_icmp .ne off, 3)) (ht : (pc : Int) + off = (tgt : Int)) (ha : a < 2 ^ 31) (hb : b < 2 ^ 31) (kt : ¬ a = b → WP cc mt tgt ls st μ Q) (kf : a = b → WP cc mt (pc + 3) ls st μ Q) : WP cc mt pc ls (.int (nI b) :: .int (nI a) :: st) μ Q := r_icmp_ne hd ht (fun q => kt (fun z => q ((nI_eq ha hb).mpr z))) (fun q => kf ((nI_eq ha hb).mp q))
theorem nI_z {a : Nat} (ha : a < 2 ^ 31) : nI a = 0 ↔ a = 0 := ⟨fun q => nI_inj ha (by decide) (by rw [q, nI_0]), fun q => by rw [q, nI_0]⟩
theorem rn_if_eq {a : Nat} {off : Int} {tgt : Nat} (hd : decode cc pc = .ok (.ifCond .eq off, 3)) (ht : (pc : Int) + off = (tgt : Int)) (ha : a < 2 ^ 31) (kt : a = 0 → WP cc mt tgt ls st μ Q) (kf : ¬ a = 0 → WP cc mt (pc + 3) ls st μ Q) : WP cc mt pc ls (.int (nI a) :: st) μ Q := r_if_eq hd ht (fun q => kt ((nI_z ha).mp q)) (fun q => kf (fun z => q ((nI_z ha).mpr z)))
theorem rn_if_ne {a : Nat} {off : Int} {tgt : Nat} (hd : decode cc pc = .ok (.ifCond .ne off, 3)) (ht : (pc : Int) + off = (tgt : Int)) (ha : a < 2 ^ 31) (kt : ¬ a = 0 → WP cc mt tgt ls st μ Q) (kf : a = 0 → WP cc mt (pc + 3) ls st μ Q) : WP cc mt pc ls (.int (nI a) :: st) μ Q := r_if_ne hd ht (fun q => kt (fun z => q ((nI_z ha).mpr z))) (fun q => kf ((nI_z ha).mp q))
theorem rn_if_lt {a : Nat} {off : Int} {tgt : Nat} (hd : decode cc pc = .ok (.ifCond .lt off, 3)) (ht : (pc : Int) + off = (tgt : Int)) (ha : a < 2 ^ 31) (kf : WP cc mt (pc + 3) ls st μ Q) : WP cc mt pc ls (.int (nI a) :: st) μ Q := r_if_lt hd ht (fun q => absurd q (nI_pos ha)) (fun _ => kf)
theorem rn_if_ge {a : Nat} {off : Int} {tgt : Nat} (hd : decode cc pc = .ok (.ifCond .ge off, 3)) (ht : (pc : Int) + off = (tgt : Int)) (ha : a < 2 ^ 31) (kt : WP cc mt tgt ls st μ Q) : WP cc mt pc ls (.int (nI a) :: st) μ Q := r_if_ge hd ht (fun _ => kt) (fun q => absurd (nI_pos' ha) q)
theorem rn_if_gt {a : Nat} {off : Int} {tgt : Nat} (hd : decode cc pc = .ok (.ifCond .gt off, 3)) (ht : (pc : Int) + off = (tgt : Int)) (ha : a < 2 ^ 31) (kt : 0 < a → WP cc mt tgt ls st μ Q) (kf : a = 0 → WP cc mt (pc + 3) ls st μ Q) : WP cc mt pc ls (.int (nI a) :: st) μ Q := r_if_gt hd ht (fun q => kt (Nat.pos_of_ne_zero fun z => by rw [z, nI_0] at q; exact absurd q (by decide))) (fun q => kf (Nat.eq_zero_of_not_pos fun z => q (by rw [← nI_0]; exact nI_lt z ha)))
theorem rn_if_le {a : Nat} {off : Int} {tgt : Nat} (hd : decode cc pc = .ok (.ifCond .le off, 3)) (ht : (pc : Int) + off = (tgt : Int)) (ha : a < 2 ^ 31) (kt : a = 0 → WP cc mt tgt ls st μ Q) (kf : 0 < a → WP cc mt (pc + 3) ls st μ Q) : WP cc mt pc ls (.int (nI a) :: st) μ Q := r_if_le hd ht (fun q => kt (Nat.eq_zero_of_not_pos fun z => absurd q (nI_nle z ha))) (fun q => kf (Nat.pos_of_ne_zero fun z => q (by rw [z, nI_0]; decide)))
theorem rb_if_eq {b : Bool} {off : Int} {tgt : Nat} (hd : decode cc pc = .ok (.ifCond .eq off, 3)) (ht : (pc : Int) + off = (tgt : Int)) (kt : b = false → WP cc mt tgt ls st μ Q) (kf : b = true → WP cc mt (pc + 3) ls st μ Q) : WP cc mt pc ls (.int (b2i b) :: st) μ Q := r_if_eq hd ht (fun q => kt (by cases b <;> first | rfl | exact absurd q (by decide))) (fun q => kf (by cases b <;> first | rfl | exact absurd rfl q))
theorem rb_if_ne {b : Bool} {off : Int} {tgt : Nat} (hd : decode cc pc = .ok (.ifCond .ne off, 3)) (ht : (pc : Int) + off = (tgt : Int)) (kt : b = true → WP cc mt tgt ls st μ Q) (kf : b = false → WP cc mt (pc + 3) ls st μ Q) : WP cc mt pc ls (.int (b2i b) :: st) μ Q := r_if_ne hd ht (fun q => kt (by cases b <;> first | rfl | exact absurd rfl q)) (fun q => kf (by cases b <;> first | rfl | exact absurd q (by decide)))
theorem rn_lcmp {a b : Nat} (hd : decode cc pc = .ok (.lcmp, 1)) (ha : a < 2 ^ 63) (hb : b < 2 ^ 63) (h : WP cc mt (pc + 1) ls (.int (cmp3 a b) :: st) μ Q) : WP cc mt pc ls (.long (lN b) :: .long (lN a) :: st) μ Q := r_lcmp hd (r_eqi (lg_cmp_nat ha hb) h)
theorem cmp3_lt {a b : Nat} : cmp3 a b < 0 ↔ a < b := by unfold cmp3; split <;> (try split) <;> simp_all <;> (try decide) <;> (try omega)
theorem cmp3_gt {a b : Nat} : 0 < cmp3 a b ↔ b < a := by unfold cmp3; split <;> (try split) <;> simp_all <;> (try decide) <;> (try omega)
theorem cmp3_eq {a b : Nat} : cmp3 a b = 0 ↔ a = b := by unfold cmp3; split <;> (try split) <;> simp_all <;> (try decide) <;> (try omega)
theorem cmp3_le {a b : Nat} : cmp3 a b ≤ 0 ↔ a ≤ b := by unfold cmp3; split <;> (try split) <;> simp_all <;> (try decide) <;> (try omega)
theorem cmp3_ge {a b : Nat} : 0 ≤ cmp3 a b ↔ b ≤ a := by unfold cmp3; split <;> (try split) <;> simp_all <;> (try decide) <;> (try omega)
theorem rc_if_eq {a b : Nat} {off : Int} {tgt : Nat} (hd : decode cc pc = .ok (.ifCond .eq off, 3)) (ht : (pc : Int) + off = (tgt : Int)) (kt : a = b → WP cc mt tgt ls st μ Q) (kf : ¬ a = b → WP cc mt (pc + 3) ls st μ Q) : WP cc mt pc ls (.int (cmp3 a b) :: st) μ Q := r_if_eq hd ht (fun q => kt (cmp3_eq.mp q)) (fun q => kf (fun z => q (cmp3_eq.mpr z)))
theorem rc_if_ne {a b : Nat} {off : Int} {tgt : Nat} (hd : decode cc pc = .ok (.ifCond .ne off, 3)) (ht : (pc : Int) + off = (tgt : Int)) (kt : ¬ a = b → WP cc mt tgt ls st μ Q) (kf : a = b → WP cc mt (pc + 3) ls st μ Q) : WP cc mt pc ls (.int (cmp3 a b) :: st) μ Q := r_if_ne hd ht (fun q => kt (fun z => q (cmp3_eq.mpr z))) (fun q => kf (cmp3_eq.mp q))
theorem rc_if_lt {a b : Nat} {off : Int} {tgt : Nat} (hd : decode cc pc = .ok (.ifCond .lt off, 3)) (ht : (pc : Int) + off = (tgt : Int)) (kt : a < b → WP cc mt tgt ls st μ Q) (kf : b ≤ a → WP cc mt (pc + 3) ls st μ Q) : WP cc mt pc ls (.int (cmp3 a b) :: st) μ Q := r_if_lt hd ht (fun q => kt (cmp3_lt.mp q)) (fun q => kf (Nat.not_lt.mp fun z => q (cmp3_lt.mpr z)))
theorem rc_if_ge {a b : Nat} {off : Int} {tgt : Nat} (hd : decode cc pc = .ok (.ifCond .ge off, 3)) (ht : (pc : Int) + off = (tgt : Int)) (kt : b ≤ a → WP cc mt tgt ls st μ Q) (kf : a < b → WP cc mt (pc + 3) ls st μ Q) : WP cc mt pc ls (.int (cmp3 a b) :: st) μ Q := r_if_ge hd ht (fun q => kt (cmp3_ge.mp q)) (fun q => kf (Nat.not_le.mp fun z => q (cmp3_ge.mpr z)))
theorem rc_if_gt {a b : Nat} {off : Int} {tgt : Nat} (hd : decode cc pc = .ok (.ifCond .gt off, 3)) (ht : (pc : Int) + off = (tgt : Int)) (kt : b < a → WP cc mt tgt ls st μ Q) (kf : a ≤ b → WP cc mt (pc + 3) ls st μ Q) : WP cc mt pc ls (.int (cmp3 a b) :: st) μ Q := r_if_gt hd ht (fun q => kt (cmp3_gt.mp q)) (fun q => kf (Nat.not_lt.mp fun z => q (cmp3_gt.mpr z)))
theorem rc_if_le {a b : Nat} {off : Int} {tgt : Nat} (hd : decode cc pc = .ok (.ifCond .le off, 3)) (ht : (pc : Int) + off = (tgt : Int)) (kt : a ≤ b → WP cc mt tgt ls st μ Q) (kf : b < a → WP cc mt (pc + 3) ls st μ Q) : WP cc mt pc ls (.int (cmp3 a b) :: st) μ Q := r_if_le hd ht (fun q => kt (cmp3_le.mp q)) (fun q => kf (Nat.not_le.mp fun z => q (cmp3_le.mpr z)))
theorem rn_lmul {a b : Nat} (hd : decode cc pc = .ok (.lmul, 1)) (h : WP cc mt (pc + 1) ls (.long (lN (a * b)) :: st) μ Q) : WP cc mt pc ls (.long (lN b) :: .long (lN a) :: st) μ Q := r_lmul hd (r_eql (lN_mul a b) h)
theorem rn_ladd {a b : Nat} (hd : decode cc pc = .ok (.ladd, 1)) (h : WP cc mt (pc + 1) ls (.long (lN (a + b)) :: st) μ Q) : WP cc mt pc ls (.long (lN b) :: .long (lN a) :: st) μ Q := r_ladd hd (r_eql (lN_add a b) h)
theorem rn_lsub {a b : Nat} (hd : decode cc pc = .ok (.lsub, 1)) (hb : b ≤ a) (h : WP cc mt (pc + 1) ls (.long (lN (a - b)) :: st) μ Q) : WP cc mt pc ls (.long (lN b) :: .long (lN a) :: st) μ Q := r_lsub hd (r_eql (lN_sub hb) h)
theorem lN_ne0 {b : Nat} (h0 : 0 < b) (hb : b < 2 ^ 63) : ¬ lN b = 0 := fun q => by
  have := (pk_lEQ (b := 0) hb (by decide)).mp (q.trans rfl)
  omega
theorem rn_ldiv {a b : Nat} (hd : decode cc pc = .ok (.ldiv, 1)) (ha : a < 2 ^ 63) (h0 : 0 < b) (hb : b < 2 ^ 63) (h : WP cc mt (pc + 1) ls (.long (lN (a / b)) :: st) μ Q) : WP cc mt pc ls (.long (lN b) :: .long (lN a) :: st) μ Q := r_ldiv hd (lN_ne0 h0 hb) (r_eql (pk_lDiv ha h0 hb) h)
theorem rn_lrem {a b : Nat} (hd : decode cc pc = .ok (.lrem, 1)) (ha : a < 2 ^ 63) (h0 : 0 < b) (hb : b < 2 ^ 63) (h : WP cc mt (pc + 1) ls (.long (lN (a % b)) :: st) μ Q) : WP cc mt pc ls (.long (lN b) :: .long (lN a) :: st) μ Q := r_lrem hd (lN_ne0 h0 hb) (r_eql (pk_lRem ha h0 hb) h)
theorem rn_i2l {a : Nat} (hd : decode cc pc = .ok (.i2l, 1)) (ha : a < 2 ^ 31) (h : WP cc mt (pc + 1) ls (.long (lN a) :: st) μ Q) : WP cc mt pc ls (.int (nI a) :: st) μ Q := r_i2l hd (nI_l ha) h
theorem rn_iinc {ls' : List (Nat × Value)} {k a b : Nat} {n : Int} (hd : decode cc pc = .ok (.iinc k n, 3)) (hk : lk ls k = some (.int (nI a))) (hv : Int32.ofInt n = nI b) (hn : k < mt.2.1) (hs : st1 ls k (.int (nI (a + b))) = ls') (h : WP cc mt (pc + 3) ls' st μ Q) : WP cc mt pc ls st μ Q := r_iinc hd hk (by rw [hv, nI_add]) hn hs h
theorem r_pick {ls' : List (Nat × Value)} (ks : List Nat) (hl : lv_pick ls ks = ls') (h : WP cc mt pc ls' st μ Q) : WP cc mt pc ls st μ Q := r_sub h (fun q hq => by
  rw [← hl] at hq
  obtain ⟨k, -, hk⟩ := List.mem_filterMap.mp hq
  exact List.mem_of_getElem? hk)
theorem sw_cases {x : Int32} {n : Int} (hn : n < 2147483648) (h : ¬ (x.toInt < 0 ∨ n < x.toInt)) : ∃ j : Nat, (j : Int) ≤ n ∧ x = nI j := by
  have h0 : ¬ x < 0 := fun q => h (Or.inl (by simpa using Int32.lt_iff_toInt_lt.mp q))
  obtain ⟨j, hj, rfl⟩ := nI_of h0
  refine ⟨j, ?_, rfl⟩
  rw [nI_toInt hj] at h
  omega
end NR
end
section
/-! THE STATE in numbers: σ 0 = (boards, fee, now, drop, signs); σ 1 to σ 7: from, takes, to, gives, since, till, most; σ 8 the signs; σ 9 the worths -/
abbrev Sg : Type := Nat → Nat → Nat
def Xs (μ : Mem) (σ : Sg) : Prop :=
  μ.1 1 8 = nI (σ 0 0) ∧ (∀ j, j < 12 → μ.1 2 j = nI (σ 1 j)) ∧ (∀ j, j < 12 → μ.1 3 j = nI (σ 2 j)) ∧ (∀ j, j < 12 → μ.1 4 j = nI (σ 3 j)) ∧ (∀ j, j < 12 → μ.1 5 j = nI (σ 4 j)) ∧ (∀ j, j < 12 → μ.1 6 j = nI (σ 5 j)) ∧ (∀ j, j < 12 → μ.1 7 j = nI (σ 6 j)) ∧ (∀ j, j < 12 → μ.1 8 j = nI (σ 7 j)) ∧
  μ.1 9 0 = nI (σ 0 1) ∧ μ.1 9 1 = nI (σ 0 2) ∧ μ.1 9 2 = nI (σ 0 3) ∧ μ.1 10 1 = nI (σ 0 4) ∧ (∀ j, j < σ 0 4 → μ.1 11 j = nI (σ 8 j)) ∧ (∀ j, j < 8 → μ.1 39 j = nI (σ 9 j))
def Ms (μ : Mem) (σ : Sg) : Prop :=
  μ.1 40 0 = nI (σ 0 0) ∧ (∀ j, j < 12 → μ.1 41 j = nI (σ 1 j)) ∧ (∀ j, j < 12 → μ.1 42 j = nI (σ 2 j)) ∧ (∀ j, j < 12 → μ.1 43 j = nI (σ 3 j)) ∧ (∀ j, j < 12 → μ.1 44 j = nI (σ 4 j)) ∧ (∀ j, j < 12 → μ.1 45 j = nI (σ 5 j)) ∧ (∀ j, j < 12 → μ.1 46 j = nI (σ 6 j)) ∧ (∀ j, j < 12 → μ.1 47 j = nI (σ 7 j)) ∧
  μ.1 48 0 = nI (σ 0 1) ∧ μ.1 48 1 = nI (σ 0 2) ∧ μ.1 48 2 = nI (σ 0 3) ∧ μ.1 40 9 = nI (σ 0 4) ∧ (∀ j, j < σ 0 4 → μ.1 49 j = nI (σ 8 j)) ∧ (∀ j, j < 8 → μ.1 50 j = nI (σ 9 j))
def Ok (σ : Sg) : Prop :=
  σ 0 0 ≤ 12 ∧ σ 0 1 ≤ 98 ∧ σ 0 2 ≤ 99 ∧ (1 ≤ σ 0 3 ∧ σ 0 3 ≤ 98) ∧ σ 0 4 ≤ 80 ∧
  (∀ j, j < 12 → σ 1 j < 8 ∧ σ 2 j ≤ 99 ∧ σ 3 j < 8 ∧ σ 4 j ≤ 99 ∧ σ 5 j ≤ 99 ∧ σ 6 j ≤ 99 ∧ σ 7 j ≤ 1000000) ∧
  (∀ j, j < σ 0 0 → ¬ σ 1 j = σ 3 j ∧ 1 ≤ σ 2 j ∧ 1 ≤ σ 4 j ∧ 1 ≤ σ 7 j) ∧
  (∀ j, j < σ 0 4 → 33 ≤ σ 8 j ∧ σ 8 j ≤ 126) ∧ (∀ j, j < 8 → 1 ≤ σ 9 j ∧ σ 9 j ≤ 1000000)
theorem Xs_n {μ : Mem} {σ : Sg} (h : Xs μ σ) : μ.1 1 8 = nI (σ 0 0) := h.1
theorem Xs_1 {μ : Mem} {σ : Sg} (h : Xs μ σ) {j : Nat} (hj : j < 12) : μ.1 2 j = nI (σ 1 j) := h.2.1 j hj
theorem Xs_2 {μ : Mem} {σ : Sg} (h : Xs μ σ) {j : Nat} (hj : j < 12) : μ.1 3 j = nI (σ 2 j) := h.2.2.1 j hj
theorem Xs_3 {μ : Mem} {σ : Sg} (h : Xs μ σ) {j : Nat} (hj : j < 12) : μ.1 4 j = nI (σ 3 j) := h.2.2.2.1 j hj
theorem Xs_4 {μ : Mem} {σ : Sg} (h : Xs μ σ) {j : Nat} (hj : j < 12) : μ.1 5 j = nI (σ 4 j) := h.2.2.2.2.1 j hj
theorem Xs_5 {μ : Mem} {σ : Sg} (h : Xs μ σ) {j : Nat} (hj : j < 12) : μ.1 6 j = nI (σ 5 j) := h.2.2.2.2.2.1 j hj
theorem Xs_6 {μ : Mem} {σ : Sg} (h : Xs μ σ) {j : Nat} (hj : j < 12) : μ.1 7 j = nI (σ 6 j) := h.2.2.2.2.2.2.1 j hj
theorem Xs_7 {μ : Mem} {σ : Sg} (h : Xs μ σ) {j : Nat} (hj : j < 12) : μ.1 8 j = nI (σ 7 j) := h.2.2.2.2.2.2.2.1 j hj
theorem Xs_fee {μ : Mem} {σ : Sg} (h : Xs μ σ) : μ.1 9 0 = nI (σ 0 1) := h.2.2.2.2.2.2.2.2.1
theorem Xs_now {μ : Mem} {σ : Sg} (h : Xs μ σ) : μ.1 9 1 = nI (σ 0 2) := h.2.2.2.2.2.2.2.2.2.1
theorem Xs_drop {μ : Mem} {σ : Sg} (h : Xs μ σ) : μ.1 9 2 = nI (σ 0 3) := h.2.2.2.2.2.2.2.2.2.2.1
theorem Xs_sn {μ : Mem} {σ : Sg} (h : Xs μ σ) : μ.1 10 1 = nI (σ 0 4) := h.2.2.2.2.2.2.2.2.2.2.2.1
theorem Xs_8 {μ : Mem} {σ : Sg} (h : Xs μ σ) {j : Nat} (hj : j < σ 0 4) : μ.1 11 j = nI (σ 8 j) := h.2.2.2.2.2.2.2.2.2.2.2.2.1 j hj
theorem Xs_9 {μ : Mem} {σ : Sg} (h : Xs μ σ) {j : Nat} (hj : j < 8) : μ.1 39 j = nI (σ 9 j) := h.2.2.2.2.2.2.2.2.2.2.2.2.2 j hj
theorem Ms_n {μ : Mem} {σ : Sg} (h : Ms μ σ) : μ.1 40 0 = nI (σ 0 0) := h.1
theorem Ms_1 {μ : Mem} {σ : Sg} (h : Ms μ σ) {j : Nat} (hj : j < 12) : μ.1 41 j = nI (σ 1 j) := h.2.1 j hj
theorem Ms_2 {μ : Mem} {σ : Sg} (h : Ms μ σ) {j : Nat} (hj : j < 12) : μ.1 42 j = nI (σ 2 j) := h.2.2.1 j hj
theorem Ms_3 {μ : Mem} {σ : Sg} (h : Ms μ σ) {j : Nat} (hj : j < 12) : μ.1 43 j = nI (σ 3 j) := h.2.2.2.1 j hj
theorem Ms_4 {μ : Mem} {σ : Sg} (h : Ms μ σ) {j : Nat} (hj : j < 12) : μ.1 44 j = nI (σ 4 j) := h.2.2.2.2.1 j hj
theorem Ms_5 {μ : Mem} {σ : Sg} (h : Ms μ σ) {j : Nat} (hj : j < 12) : μ.1 45 j = nI (σ 5 j) := h.2.2.2.2.2.1 j hj
theorem Ms_6 {μ : Mem} {σ : Sg} (h : Ms μ σ) {j : Nat} (hj : j < 12) : μ.1 46 j = nI (σ 6 j) := h.2.2.2.2.2.2.1 j hj
theorem Ms_7 {μ : Mem} {σ : Sg} (h : Ms μ σ) {j : Nat} (hj : j < 12) : μ.1 47 j = nI (σ 7 j) := h.2.2.2.2.2.2.2.1 j hj
theorem Ms_fee {μ : Mem} {σ : Sg} (h : Ms μ σ) : μ.1 48 0 = nI (σ 0 1) := h.2.2.2.2.2.2.2.2.1
theorem Ms_now {μ : Mem} {σ : Sg} (h : Ms μ σ) : μ.1 48 1 = nI (σ 0 2) := h.2.2.2.2.2.2.2.2.2.1
theorem Ms_drop {μ : Mem} {σ : Sg} (h : Ms μ σ) : μ.1 48 2 = nI (σ 0 3) := h.2.2.2.2.2.2.2.2.2.2.1
theorem Ms_sn {μ : Mem} {σ : Sg} (h : Ms μ σ) : μ.1 40 9 = nI (σ 0 4) := h.2.2.2.2.2.2.2.2.2.2.2.1
theorem Ms_8 {μ : Mem} {σ : Sg} (h : Ms μ σ) {j : Nat} (hj : j < σ 0 4) : μ.1 49 j = nI (σ 8 j) := h.2.2.2.2.2.2.2.2.2.2.2.2.1 j hj
theorem Ms_9 {μ : Mem} {σ : Sg} (h : Ms μ σ) {j : Nat} (hj : j < 8) : μ.1 50 j = nI (σ 9 j) := h.2.2.2.2.2.2.2.2.2.2.2.2.2 j hj
/-- the bounds of one board, for omega -/
theorem Ok_n {σ : Sg} (h : Ok σ) : σ 0 0 ≤ 12 ∧ σ 0 1 ≤ 98 ∧ σ 0 2 ≤ 99 ∧ 1 ≤ σ 0 3 ∧ σ 0 3 ≤ 98 ∧ σ 0 4 ≤ 80 := ⟨h.1, h.2.1, h.2.2.1, h.2.2.2.1.1, h.2.2.2.1.2, h.2.2.2.2.1⟩
theorem Ok_b {σ : Sg} (h : Ok σ) {j : Nat} (hj : j < 12) : σ 1 j < 8 ∧ σ 2 j ≤ 99 ∧ σ 3 j < 8 ∧ σ 4 j ≤ 99 ∧ σ 5 j ≤ 99 ∧ σ 6 j ≤ 99 ∧ σ 7 j ≤ 1000000 := h.2.2.2.2.2.1 j hj
theorem Ok_p {σ : Sg} (h : Ok σ) {j : Nat} (hj : j < σ 0 0) : ¬ σ 1 j = σ 3 j ∧ 1 ≤ σ 2 j ∧ 1 ≤ σ 4 j ∧ 1 ≤ σ 7 j := h.2.2.2.2.2.2.1 j hj
theorem Ok_s {σ : Sg} (h : Ok σ) {j : Nat} (hj : j < σ 0 4) : 33 ≤ σ 8 j ∧ σ 8 j ≤ 126 := h.2.2.2.2.2.2.2.1 j hj
theorem Ok_w {σ : Sg} (h : Ok σ) {j : Nat} (hj : j < 8) : 1 ≤ σ 9 j ∧ σ 9 j ≤ 1000000 := h.2.2.2.2.2.2.2.2 j hj
/-- one number anew -/
def su (σ : Sg) (a j v : Nat) : Sg := fun b i => if b = a ∧ i = j then v else σ b i
theorem su_s {σ : Sg} {a j v : Nat} : su σ a j v a j = v := by simp [su]
theorem su_o {σ : Sg} {a j v b i : Nat} (h : ¬ (b = a ∧ i = j)) : su σ a j v b i = σ b i := by simp only [su, if_neg h]
/-- in a range, over raw ints -/
def inR (v lo hi : Int32) : Bool := decide (lo ≤ v) && decide (v ≤ hi)
theorem inR_iff {v lo hi : Int32} : inR v lo hi = true ↔ lo.toInt ≤ v.toInt ∧ v.toInt ≤ hi.toInt := by
  unfold inR
  simp [Int32.le_iff_toInt_le]
theorem inR_f {v lo hi : Int32} : inR v lo hi = false ↔ v.toInt < lo.toInt ∨ hi.toInt < v.toInt := by
  rw [← Bool.not_eq_true, inR_iff]
  omega
theorem inR_nat {a l h : Nat} (ha : a < 2 ^ 31) (hl : l < 2 ^ 31) (hh : h < 2 ^ 31) : inR (nI a) (nI l) (nI h) = (decide (l ≤ a) && decide (a ≤ h)) := by
  unfold inR
  rw [decide_eq_decide.mpr (nI_leI hl ha), decide_eq_decide.mpr (nI_leI ha hh)]
/-- a raw int within 0 .. n - 1 -/
def isB (b : Int32) (n : Nat) : Bool := decide (0 ≤ b.toInt) && decide (b.toInt < (n : Int))
theorem isB_t {b : Int32} {n : Nat} (h : isB b n = true) : ∃ j : Nat, j < n ∧ b = nI j ∧ b.toInt = j := by
  unfold isB at h
  simp at h
  obtain ⟨j, hj, rfl⟩ := nI_of (x := b) (fun q => by have := Int32.lt_iff_toInt_lt.mp q; simp at this; omega)
  rw [nI_toInt hj] at h
  exact ⟨j, by omega, rfl, nI_toInt hj⟩
theorem isB_nat {j n : Nat} (hj : j < 2 ^ 31) : isB (nI j) n = decide (j < n) := by
  unfold isB
  rw [nI_toInt hj]
  by_cases h : j < n
  · simp [h]
  · simp [h]
theorem inR_isB {b : Int32} {n : Nat} (hn : n < 2 ^ 30) : inR b (nI 0) (nI n - nI 1) = isB b n := by
  apply Bool.eq_iff_iff.mpr
  rw [inR_iff, nI_toInt (by decide), pk_sub_toInt hn (by decide)]
  unfold isB
  simp
  omega
def opn (σ : Sg) (b : Nat) : Bool := decide (σ 5 b ≤ σ 0 2) && decide (σ 0 2 ≤ σ 6 b)
def upR (g f : Nat) : Nat := if g ≤ f then 1 else g - f
theorem upR_pos (g f : Nat) : 1 ≤ upR g f := by unfold upR; split <;> omega
theorem upR_le {g f : Nat} (h : 1 ≤ g) : upR g f ≤ g := by unfold upR; split <;> omega
theorem upR_99 {g f : Nat} (h : g ≤ 99) : upR g f ≤ 99 := by unfold upR; split <;> omega
theorem b2i_eq {b : Bool} {x : Int32} (h : x = if b then nI 1 else nI 0) : b2i b = x := by rw [h]; cases b <;> rfl
theorem b2i_t {b : Bool} (h : b = true) : b2i b = nI 1 := by rw [h]; rfl
theorem b2i_f {b : Bool} (h : b = false) : b2i b = nI 0 := by rw [h]; rfl
theorem nI_max {a b : Nat} (ha : a < 2 ^ 31) (hb : b < 2 ^ 31) : (if nI a < nI b then nI b else nI a) = nI (Nat.max a b) := by
  by_cases h : a < b
  · rw [if_pos ((nI_ltI ha hb).mpr h)]; congr 1; exact (Nat.max_eq_right (Nat.le_of_lt h)).symm
  · rw [if_neg (fun q => h ((nI_ltI ha hb).mp q))]; congr 1; exact (Nat.max_eq_left (by omega)).symm
theorem nI_min {a b : Nat} (ha : a < 2 ^ 31) (hb : b < 2 ^ 31) : (if nI b < nI a then nI b else nI a) = nI (Nat.min a b) := by
  by_cases h : b < a
  · rw [if_pos ((nI_ltI hb ha).mpr h)]; congr 1; exact (Nat.min_eq_right (Nat.le_of_lt h)).symm
  · rw [if_neg (fun q => h ((nI_ltI hb ha).mp q))]; congr 1; exact (Nat.min_eq_left (by omega)).symm
theorem nI_dec {a b : Nat} (h : b ≤ a) : nI a + Int32.ofInt (-(b : Int)) = nI (a - b) := by
  rw [← nI_sub h]
  show nI a + Int32.ofInt (-(b : Int)) = nI a - nI b
  rw [Int32.sub_eq_add_neg]
  congr 1
  rw [Int32.ofInt_neg]
  rfl
end
section
set_option maxRecDepth 20000 in
set_option maxHeartbeats 4000000 in
theorem c_in {μ : Mem} {v lo hi : Int32} {Q : Option Value → Mem → Prop} (h : Q (some (.int (b2i (inR v lo hi)))) μ) : Sp iX7_in 0 [.int (v), .int (lo), .int (hi)] μ Q := by
  refine Sp.of sX7_in.1 (Nat.le_of_ble_eq_true rfl) ?_
  show WP cX7_in (RX7, 3, (some .boolean), 0, none) 0 [(0, .int (v)), (1, .int (lo)), (2, .int (hi))] [] μ Q
  refine r_iload_n (pc := 0) dX7_in_0 rfl ?_
  refine r_iload_n (pc := 1) dX7_in_1 rfl ?_
  refine r_icmp_lt (pc := 2) (tgt := 14) dX7_in_2 (by decide) (fun c2 => ?_) (fun c2 => ?_)
  · refine r_iconst (pc := 14) (v := (nI (0))) dX7_in_14 (by decide) ?_
    refine r_ireturn (pc := 15) dX7_in_15 rfl (Or.inr rfl) rfl ?_
    refine (congrArg (fun z => Q (some (.int z)) μ) (?_ : b2i (inR v lo hi) = (nI (0)))).mp h
    refine b2i_f (inR_f.mpr ?_)
    simp only [Int32.lt_iff_toInt_lt] at c2
    omega
  · refine r_iload_n (pc := 5) dX7_in_5 rfl ?_
    refine r_iload_n (pc := 6) dX7_in_6 rfl ?_
    refine r_icmp_gt (pc := 7) (tgt := 14) dX7_in_7 (by decide) (fun c7 => ?_) (fun c7 => ?_)
    · refine r_iconst (pc := 14) (v := (nI (0))) dX7_in_14 (by decide) ?_
      refine r_ireturn (pc := 15) dX7_in_15 rfl (Or.inr rfl) rfl ?_
      refine (congrArg (fun z => Q (some (.int z)) μ) (?_ : b2i (inR v lo hi) = (nI (0)))).mp h
      refine b2i_f (inR_f.mpr ?_)
      simp only [Int32.lt_iff_toInt_lt] at c2 c7
      omega
    · refine r_iconst (pc := 10) (v := (nI (1))) dX7_in_10 (by decide) ?_
      refine r_goto (pc := 11) (tgt := 15) dX7_in_11 (by decide) ?_
      refine r_ireturn (pc := 15) dX7_in_15 rfl (Or.inr rfl) rfl ?_
      refine (congrArg (fun z => Q (some (.int z)) μ) (?_ : b2i (inR v lo hi) = (nI (1)))).mp h
      refine b2i_t (inR_iff.mpr ?_)
      simp only [Int32.lt_iff_toInt_lt] at c2 c7
      omega

set_option maxRecDepth 20000 in
set_option maxHeartbeats 4000000 in
theorem c_within {μ : Mem} {v lo hi : Int32} {Q : Option Value → Mem → Prop} (h : Q (some (.int (b2i (inR v lo hi)))) μ) : Sp iX6_isWithin 0 [.int (v), .int (lo), .int (hi)] μ Q := by
  refine Sp.of sX6_isWithin.1 (Nat.le_of_ble_eq_true rfl) ?_
  show WP cX6_isWithin (RX6, 3, (some .boolean), 0, none) 0 [(0, .int (v)), (1, .int (lo)), (2, .int (hi))] [] μ Q
  refine r_iload_n (pc := 0) dX6_isWithin_0 rfl ?_
  refine r_iload_n (pc := 1) dX6_isWithin_1 rfl ?_
  refine r_icmp_lt (pc := 2) (tgt := 14) dX6_isWithin_2 (by decide) (fun c2 => ?_) (fun c2 => ?_)
  · refine r_iconst (pc := 14) (v := (nI (0))) dX6_isWithin_14 (by decide) ?_
    refine r_ireturn (pc := 15) dX6_isWithin_15 rfl (Or.inr rfl) rfl ?_
    refine (congrArg (fun z => Q (some (.int z)) μ) (?_ : b2i (inR v lo hi) = (nI (0)))).mp h
    refine b2i_f (inR_f.mpr ?_)
    simp only [Int32.lt_iff_toInt_lt] at c2
    omega
  · refine r_iload_n (pc := 5) dX6_isWithin_5 rfl ?_
    refine r_iload_n (pc := 6) dX6_isWithin_6 rfl ?_
    refine r_icmp_gt (pc := 7) (tgt := 14) dX6_isWithin_7 (by decide) (fun c7 => ?_) (fun c7 => ?_)
    · refine r_iconst (pc := 14) (v := (nI (0))) dX6_isWithin_14 (by decide) ?_
      refine r_ireturn (pc := 15) dX6_isWithin_15 rfl (Or.inr rfl) rfl ?_
      refine (congrArg (fun z => Q (some (.int z)) μ) (?_ : b2i (inR v lo hi) = (nI (0)))).mp h
      refine b2i_f (inR_f.mpr ?_)
      simp only [Int32.lt_iff_toInt_lt] at c2 c7
      omega
    · refine r_iconst (pc := 10) (v := (nI (1))) dX6_isWithin_10 (by decide) ?_
      refine r_goto (pc := 11) (tgt := 15) dX6_isWithin_11 (by decide) ?_
      refine r_ireturn (pc := 15) dX6_isWithin_15 rfl (Or.inr rfl) rfl ?_
      refine (congrArg (fun z => Q (some (.int z)) μ) (?_ : b2i (inR v lo hi) = (nI (1)))).mp h
      refine b2i_t (inR_iff.mpr ?_)
      simp only [Int32.lt_iff_toInt_lt] at c2 c7
      omega

set_option maxRecDepth 20000 in
set_option maxHeartbeats 4000000 in
theorem c_mcoin {μ : Mem} {v : Int32} {Q : Option Value → Mem → Prop} (h : Q (some (.int (b2i (isB v 8)))) μ) : Sp iX7_isCoin 1 [.int (v)] μ Q := by
  refine Sp.of sX7_isCoin.1 (Nat.le_of_ble_eq_true rfl) ?_
  show WP cX7_isCoin (RX7, 1, (some .boolean), 1, none) 0 [(0, .int (v))] [] μ Q
  refine r_iload_n (pc := 0) dX7_isCoin_0 rfl ?_
  refine r_iconst (pc := 1) (v := (nI (0))) dX7_isCoin_1 (by decide) ?_
  refine r_bipush (pc := 2) (v := (nI (7))) dX7_isCoin_2 (by decide) ?_
  refine r_callS (pc := 4) (d' := 0) (As := [.int (v), .int (nI 0), .int (nI 7)]) (rest := []) dX7_isCoin_4 sX7_in mX7_77 rfl rfl (Nat.le_of_ble_eq_true rfl) (Nat.le_of_ble_eq_true rfl) ?_
  refine c_in ?_
  refine r_ireturn (pc := 7) dX7_isCoin_7 rfl (Or.inr rfl) (b2i_nar _) ?_
  refine (congrArg (fun z => Q (some (.int (b2i z))) μ) (?_ : isB v 8 = inR v (nI 0) (nI 7))).mp h
  exact (inR_isB (n := 8) (by decide)).symm

set_option maxRecDepth 20000 in
set_option maxHeartbeats 4000000 in
theorem c_xcoin {μ : Mem} {v : Int32} {Q : Option Value → Mem → Prop} (h : Q (some (.int (b2i (isB v 8)))) μ) : Sp iX6_isCoin 0 [.int (v)] μ Q := by
  refine Sp.of sX6_isCoin.1 (Nat.le_of_ble_eq_true rfl) ?_
  show WP cX6_isCoin (RX6, 1, (some .boolean), 0, none) 0 [(0, .int (v))] [] μ Q
  refine r_iload_n (pc := 0) dX6_isCoin_0 rfl ?_
  refine r_if_lt (pc := 1) (tgt := 14) dX6_isCoin_1 (by decide) (fun c1 => ?_) (fun c1 => ?_)
  · refine r_iconst (pc := 14) (v := (nI (0))) dX6_isCoin_14 (by decide) ?_
    refine r_ireturn (pc := 15) dX6_isCoin_15 rfl (Or.inr rfl) rfl ?_
    refine (congrArg (fun z => Q (some (.int z)) μ) (?_ : b2i (isB v 8) = (nI (0)))).mp h
    simp [Int32.lt_iff_toInt_lt, Int32.le_iff_toInt_le, nI_toInt (show 8 < 2 ^ 31 by decide)] at c1
    exact b2i_f (by unfold isB; simp; omega)
  · refine r_iload_n (pc := 4) dX6_isCoin_4 rfl ?_
    refine r_bipush (pc := 5) (v := (nI (8))) dX6_isCoin_5 (by decide) ?_
    refine r_icmp_ge (pc := 7) (tgt := 14) dX6_isCoin_7 (by decide) (fun c7 => ?_) (fun c7 => ?_)
    · refine r_iconst (pc := 14) (v := (nI (0))) dX6_isCoin_14 (by decide) ?_
      refine r_ireturn (pc := 15) dX6_isCoin_15 rfl (Or.inr rfl) rfl ?_
      refine (congrArg (fun z => Q (some (.int z)) μ) (?_ : b2i (isB v 8) = (nI (0)))).mp h
      simp [Int32.lt_iff_toInt_lt, Int32.le_iff_toInt_le, nI_toInt (show 8 < 2 ^ 31 by decide)] at c1 c7
      exact b2i_f (by unfold isB; simp; omega)
    · refine r_iconst (pc := 10) (v := (nI (1))) dX6_isCoin_10 (by decide) ?_
      refine r_goto (pc := 11) (tgt := 15) dX6_isCoin_11 (by decide) ?_
      refine r_ireturn (pc := 15) dX6_isCoin_15 rfl (Or.inr rfl) rfl ?_
      refine (congrArg (fun z => Q (some (.int z)) μ) (?_ : b2i (isB v 8) = (nI (1)))).mp h
      simp [Int32.lt_iff_toInt_lt, Int32.le_iff_toInt_le, nI_toInt (show 8 < 2 ^ 31 by decide)] at c1 c7
      exact b2i_t (by unfold isB; simp; omega)

set_option maxRecDepth 20000 in
set_option maxHeartbeats 4000000 in
theorem c_mboard {μ : Mem} {σ : Sg} {b : Int32} {Q : Option Value → Mem → Prop} (hM : Ms μ σ) (hO : Ok σ) (h : Q (some (.int (b2i (isB b (σ 0 0))))) μ) : Sp iX7_isBoard 1 [.ref 40, .int (b)] μ Q := by
  refine Sp.of vX7_isBoard.1 (Nat.le_of_ble_eq_true rfl) ?_
  show WP cX7_isBoard (RX7, 2, (some .boolean), 1, none) 0 [(0, .ref 40), (1, .int (b))] [] μ Q
  have hn := Ok_n hO
  refine r_iload_n (pc := 0) dX7_isBoard_0 rfl ?_
  refine r_iconst (pc := 1) (v := (nI (0))) dX7_isBoard_1 (by decide) ?_
  refine r_aload_n (pc := 2) dX7_isBoard_2 rfl ?_
  refine r_getI (pc := 3) (x := (nI (σ 0 0))) dX7_isBoard_3 fX7_81 rfl rfl (Ms_n (μ := μ) hM) ?_
  refine r_iconst (pc := 6) (v := (nI (1))) dX7_isBoard_6 (by decide) ?_
  refine r_isub (pc := 7) dX7_isBoard_7 ?_
  refine r_callS (pc := 8) (d' := 0) (As := [.int (b), .int (nI 0), .int ((nI (σ 0 0)) - (nI (1)))]) (rest := []) dX7_isBoard_8 sX7_in mX7_77 rfl rfl (Nat.le_of_ble_eq_true rfl) (Nat.le_of_ble_eq_true rfl) ?_
  refine c_in ?_
  refine r_ireturn (pc := 11) dX7_isBoard_11 rfl (Or.inr rfl) (b2i_nar _) ?_
  refine (congrArg (fun z => Q (some (.int (b2i z))) μ) (?_ : isB b (σ 0 0) = inR b (nI 0) (nI (σ 0 0) - nI 1))).mp h
  exact (inR_isB (by omega)).symm

set_option maxRecDepth 20000 in
set_option maxHeartbeats 4000000 in
theorem c_has {μ : Mem} {σ : Sg} {b : Int32} {Q : Option Value → Mem → Prop} (hX : Xs μ σ) (hO : Ok σ) (h : Q (some (.int (b2i (isB b (σ 0 0))))) μ) : Sp iX0_has 0 [.ref 1, .int (b)] μ Q := by
  refine Sp.of vX0_has.1 (Nat.le_of_ble_eq_true rfl) ?_
  show WP cX0_has (RX0, 2, (some .boolean), 0, none) 0 [(0, .ref 1), (1, .int (b))] [] μ Q
  have hn := Ok_n hO
  refine r_iload_n (pc := 0) dX0_has_0 rfl ?_
  refine r_if_lt (pc := 1) (tgt := 16) dX0_has_1 (by decide) (fun c1 => ?_) (fun c1 => ?_)
  · refine r_iconst (pc := 16) (v := (nI (0))) dX0_has_16 (by decide) ?_
    refine r_ireturn (pc := 17) dX0_has_17 rfl (Or.inr rfl) rfl ?_
    refine (congrArg (fun z => Q (some (.int z)) μ) (?_ : b2i (isB b (σ 0 0)) = (nI (0)))).mp h
    simp [Int32.lt_iff_toInt_lt, Int32.le_iff_toInt_le, nI_toInt (show σ 0 0 < 2 ^ 31 by omega)] at c1
    exact b2i_f (by unfold isB; simp; omega)
  · refine r_iload_n (pc := 4) dX0_has_4 rfl ?_
    refine r_aload_n (pc := 5) dX0_has_5 rfl ?_
    refine r_getI (pc := 6) (x := (nI (σ 0 0))) dX0_has_6 fX0_36 rfl rfl (Xs_n (μ := μ) hX) ?_
    refine r_icmp_ge (pc := 9) (tgt := 16) dX0_has_9 (by decide) (fun c9 => ?_) (fun c9 => ?_)
    · refine r_iconst (pc := 16) (v := (nI (0))) dX0_has_16 (by decide) ?_
      refine r_ireturn (pc := 17) dX0_has_17 rfl (Or.inr rfl) rfl ?_
      refine (congrArg (fun z => Q (some (.int z)) μ) (?_ : b2i (isB b (σ 0 0)) = (nI (0)))).mp h
      simp [Int32.lt_iff_toInt_lt, Int32.le_iff_toInt_le, nI_toInt (show σ 0 0 < 2 ^ 31 by omega)] at c1 c9
      exact b2i_f (by unfold isB; simp; omega)
    · refine r_iconst (pc := 12) (v := (nI (1))) dX0_has_12 (by decide) ?_
      refine r_goto (pc := 13) (tgt := 17) dX0_has_13 (by decide) ?_
      refine r_ireturn (pc := 17) dX0_has_17 rfl (Or.inr rfl) rfl ?_
      refine (congrArg (fun z => Q (some (.int z)) μ) (?_ : b2i (isB b (σ 0 0)) = (nI (1)))).mp h
      simp [Int32.lt_iff_toInt_lt, Int32.le_iff_toInt_le, nI_toInt (show σ 0 0 < 2 ^ 31 by omega)] at c1 c9
      exact b2i_t (by unfold isB; simp; omega)

set_option maxRecDepth 20000 in
set_option maxHeartbeats 4000000 in
theorem c_mopen {μ : Mem} {σ : Sg} {b : Nat} {Q : Option Value → Mem → Prop} (hM : Ms μ σ) (hO : Ok σ) (hb : b < σ 0 0) (h : Q (some (.int (b2i (opn σ b)))) μ) : Sp iX7_isOpen 1 [.ref 40, .int (nI b)] μ Q := by
  refine Sp.of vX7_isOpen.1 (Nat.le_of_ble_eq_true rfl) ?_
  show WP cX7_isOpen (RX7, 2, (some .boolean), 1, none) 0 [(0, .ref 40), (1, .int (nI b))] [] μ Q
  have hn := Ok_n hO
  refine r_aload_n (pc := 0) dX7_isOpen_0 rfl ?_
  refine r_getR (pc := 1) (r := 48) dX7_isOpen_1 fX7_31 rfl rfl ?_
  refine r_iconst (pc := 4) (v := (nI (1))) dX7_isOpen_4 (by decide) ?_
  refine r_iald (pc := 5) (x := (nI (σ 0 2))) dX7_isOpen_5 rfl rfl (by omega) (Ms_now (μ := μ) hM) ?_
  refine r_aload_n (pc := 6) dX7_isOpen_6 rfl ?_
  refine r_getR (pc := 7) (r := 45) dX7_isOpen_7 fX7_22 rfl rfl ?_
  refine r_iload_n (pc := 10) dX7_isOpen_10 rfl ?_
  refine r_iald (pc := 11) (x := (nI (σ 5 (b)))) dX7_isOpen_11 rfl rfl (by omega) (Ms_5 (μ := μ) hM (by omega)) ?_
  have b1 := Ok_b hO (j := b) (by omega)
  refine r_aload_n (pc := 12) dX7_isOpen_12 rfl ?_
  refine r_getR (pc := 13) (r := 46) dX7_isOpen_13 fX7_25 rfl rfl ?_
  refine r_iload_n (pc := 16) dX7_isOpen_16 rfl ?_
  refine r_iald (pc := 17) (x := (nI (σ 6 (b)))) dX7_isOpen_17 rfl rfl (by omega) (Ms_6 (μ := μ) hM (by omega)) ?_
  have b2 := Ok_b hO (j := b) (by omega)
  refine r_callS (pc := 18) (d' := 0) (As := [.int (nI (σ 0 2)), .int (nI (σ 5 (b))), .int (nI (σ 6 (b)))]) (rest := []) dX7_isOpen_18 sX7_in mX7_77 rfl rfl (Nat.le_of_ble_eq_true rfl) (Nat.le_of_ble_eq_true rfl) ?_
  refine c_in ?_
  refine r_ireturn (pc := 21) dX7_isOpen_21 rfl (Or.inr rfl) (b2i_nar _) ?_
  refine (congrArg (fun z => Q (some (.int (b2i z))) μ) (?_ : opn σ b = _)).mp h
  exact (inR_nat (by omega) (by omega) (by omega)).symm

set_option maxRecDepth 20000 in
set_option maxHeartbeats 4000000 in
theorem c_xopen {μ : Mem} {σ : Sg} {b : Nat} {Q : Option Value → Mem → Prop} (hX : Xs μ σ) (hO : Ok σ) (hb : b < σ 0 0) (h : Q (some (.int (b2i (opn σ b)))) μ) : Sp iX0_isOpen 1 [.ref 1, .int (nI b)] μ Q := by
  refine Sp.of vX0_isOpen.1 (Nat.le_of_ble_eq_true rfl) ?_
  show WP cX0_isOpen (RX0, 2, (some .boolean), 1, none) 0 [(0, .ref 1), (1, .int (nI b))] [] μ Q
  have hn := Ok_n hO
  refine r_aload_n (pc := 0) dX0_isOpen_0 rfl ?_
  refine r_iload_n (pc := 1) dX0_isOpen_1 rfl ?_
  refine r_callV (pc := 2) (d' := 0) (k := 1) (As := [.int (nI b)]) (rest := []) dX0_isOpen_2 vX0_has mX0_41 rfl rfl rfl (Nat.le_of_ble_eq_true rfl) (Nat.le_of_ble_eq_true rfl) ?_
  refine c_has hX hO ?_
  refine rb_if_eq (pc := 5) (tgt := 36) dX0_isOpen_5 (by decide) (fun c5 => ?_) (fun c5 => ?_)
  · rw [isB_nat (by omega)] at c5
    simp at c5
    omega
  · refine r_aload_n (pc := 8) dX0_isOpen_8 rfl ?_
    refine r_getR (pc := 9) (r := 9) dX0_isOpen_9 fX0_33 rfl rfl ?_
    refine r_iconst (pc := 12) (v := (nI (1))) dX0_isOpen_12 (by decide) ?_
    refine r_iald (pc := 13) (x := (nI (σ 0 2))) dX0_isOpen_13 rfl rfl (by omega) (Xs_now (μ := μ) hX) ?_
    refine r_aload_n (pc := 14) dX0_isOpen_14 rfl ?_
    refine r_getR (pc := 15) (r := 6) dX0_isOpen_15 fX0_24 rfl rfl ?_
    refine r_iload_n (pc := 18) dX0_isOpen_18 rfl ?_
    refine r_iald (pc := 19) (x := (nI (σ 5 (b)))) dX0_isOpen_19 rfl rfl (by omega) (Xs_5 (μ := μ) hX (by omega)) ?_
    have b1 := Ok_b hO (j := b) (by omega)
    refine r_aload_n (pc := 20) dX0_isOpen_20 rfl ?_
    refine r_getR (pc := 21) (r := 7) dX0_isOpen_21 fX0_27 rfl rfl ?_
    refine r_iload_n (pc := 24) dX0_isOpen_24 rfl ?_
    refine r_iald (pc := 25) (x := (nI (σ 6 (b)))) dX0_isOpen_25 rfl rfl (by omega) (Xs_6 (μ := μ) hX (by omega)) ?_
    have b2 := Ok_b hO (j := b) (by omega)
    refine r_callN (pc := 26) (d' := 0) (As := [.int (nI (σ 0 2)), .int (nI (σ 5 (b))), .int (nI (σ 6 (b)))]) (rest := []) dX0_isOpen_26 sX6_isWithin nX0_45 rfl rfl (Nat.le_of_ble_eq_true rfl) (Nat.le_of_ble_eq_true rfl) ?_
    refine c_within ?_
    refine rb_if_eq (pc := 29) (tgt := 36) dX0_isOpen_29 (by decide) (fun c29 => ?_) (fun c29 => ?_)
    · refine r_iconst (pc := 36) (v := (nI (0))) dX0_isOpen_36 (by decide) ?_
      refine r_ireturn (pc := 37) dX0_isOpen_37 rfl (Or.inr rfl) rfl ?_
      refine (congrArg (fun z => Q (some (.int z)) μ) (?_ : b2i (opn σ b) = nI 0)).mp h
      refine b2i_f ?_
      rw [inR_nat (by omega) (by omega) (by omega)] at c29
      exact c29
    · refine r_iconst (pc := 32) (v := (nI (1))) dX0_isOpen_32 (by decide) ?_
      refine r_goto (pc := 33) (tgt := 37) dX0_isOpen_33 (by decide) ?_
      refine r_ireturn (pc := 37) dX0_isOpen_37 rfl (Or.inr rfl) rfl ?_
      refine (congrArg (fun z => Q (some (.int z)) μ) (?_ : b2i (opn σ b) = nI 1)).mp h
      refine b2i_t ?_
      rw [inR_nat (by omega) (by omega) (by omega)] at c29
      exact c29

theorem ups_le {g f : Nat} (hg : g < 2 ^ 30) (hf : f < 2 ^ 30) : (nI 1 : Int32) ≤ nI g - nI f ↔ f < g := by
  rw [Int32.le_iff_toInt_le, pk_sub_toInt hg hf, nI_toInt (by decide)]
  omega

set_option maxRecDepth 20000 in
set_option maxHeartbeats 4000000 in
theorem c_mupper {μ : Mem} {σ : Sg} {b : Nat} {Q : Option Value → Mem → Prop} (hM : Ms μ σ) (hO : Ok σ) (hb : b < σ 0 0) (h : Q (some (.int (nI (upR (σ 4 b) (σ 0 1))))) μ) : Sp iX7_upper 0 [.ref 40, .int (nI b)] μ Q := by
  refine Sp.of vX7_upper.1 (Nat.le_of_ble_eq_true rfl) ?_
  show WP cX7_upper (RX7, 2, (some .int), 0, none) 0 [(0, .ref 40), (1, .int (nI b))] [] μ Q
  have hn := Ok_n hO
  have hbb := Ok_b hO (j := b) (by omega)
  refine r_aload_n (pc := 0) dX7_upper_0 rfl ?_
  refine r_getR (pc := 1) (r := 44) dX7_upper_1 fX7_19 rfl rfl ?_
  refine r_iload_n (pc := 4) dX7_upper_4 rfl ?_
  refine r_iald (pc := 5) (x := (nI (σ 4 (b)))) dX7_upper_5 rfl rfl (by omega) (Ms_4 (μ := μ) hM (by omega)) ?_
  have b1 := Ok_b hO (j := b) (by omega)
  refine r_aload_n (pc := 6) dX7_upper_6 rfl ?_
  refine r_getR (pc := 7) (r := 48) dX7_upper_7 fX7_31 rfl rfl ?_
  refine r_iconst (pc := 10) (v := (nI (0))) dX7_upper_10 (by decide) ?_
  refine r_iald (pc := 11) (x := (nI (σ 0 1))) dX7_upper_11 rfl rfl (by omega) (Ms_fee (μ := μ) hM) ?_
  refine r_isub (pc := 12) dX7_upper_12 ?_
  refine r_iconst (pc := 13) (v := (nI (1))) dX7_upper_13 (by decide) ?_
  refine r_icmp_ge (pc := 14) (tgt := 21) dX7_upper_14 (by decide) (fun c14 => ?_) (fun c14 => ?_)
  · refine r_aload_n (pc := 21) dX7_upper_21 rfl ?_
    refine r_getR (pc := 22) (r := 44) dX7_upper_22 fX7_19 rfl rfl ?_
    refine r_iload_n (pc := 25) dX7_upper_25 rfl ?_
    refine r_iald (pc := 26) (x := (nI (σ 4 (b)))) dX7_upper_26 rfl rfl (by omega) (Ms_4 (μ := μ) hM (by omega)) ?_
    have b2 := Ok_b hO (j := b) (by omega)
    refine r_aload_n (pc := 27) dX7_upper_27 rfl ?_
    refine r_getR (pc := 28) (r := 48) dX7_upper_28 fX7_31 rfl rfl ?_
    refine r_iconst (pc := 31) (v := (nI (0))) dX7_upper_31 (by decide) ?_
    refine r_iald (pc := 32) (x := (nI (σ 0 1))) dX7_upper_32 rfl rfl (by omega) (Ms_fee (μ := μ) hM) ?_
    refine r_isub (pc := 33) dX7_upper_33 ?_
    refine r_ireturn (pc := 34) dX7_upper_34 rfl (Or.inl rfl) rfl ?_
    rw [show (nI 1 : Int32) ≤ nI (σ 4 b) - nI (σ 0 1) ↔ (σ 0 1) < (σ 4 b) from ups_le (by omega) (by omega)] at c14
    refine (congrArg (fun z => Q (some (.int z)) μ) (?_ : nI (upR (σ 4 b) (σ 0 1)) = nI (σ 4 b) - nI (σ 0 1))).mp h
    unfold upR
    rw [if_neg (by omega), nI_sub (by omega)]
  · refine r_iconst (pc := 17) (v := (nI (1))) dX7_upper_17 (by decide) ?_
    refine r_goto (pc := 18) (tgt := 34) dX7_upper_18 (by decide) ?_
    refine r_ireturn (pc := 34) dX7_upper_34 rfl (Or.inl rfl) rfl ?_
    rw [show (nI 1 : Int32) ≤ nI (σ 4 b) - nI (σ 0 1) ↔ (σ 0 1) < (σ 4 b) from ups_le (by omega) (by omega)] at c14
    refine (congrArg (fun z => Q (some (.int z)) μ) (?_ : nI (upR (σ 4 b) (σ 0 1)) = nI 1)).mp h
    unfold upR
    rw [if_pos (by omega)]

set_option maxRecDepth 20000 in
set_option maxHeartbeats 4000000 in
theorem c_rate {μ : Mem} {g f : Nat} {Q : Option Value → Mem → Prop} (hg : g < 1000) (hf : f < 1000) (h : Q (some (.int (nI (upR g f)))) μ) : Sp iX6_rateUpper 0 [.int (nI g), .int (nI f)] μ Q := by
  refine Sp.of sX6_rateUpper.1 (Nat.le_of_ble_eq_true rfl) ?_
  show WP cX6_rateUpper (RX6, 2, (some .int), 0, none) 0 [(0, .int (nI g)), (1, .int (nI f))] [] μ Q
  refine r_iload_n (pc := 0) dX6_rateUpper_0 rfl ?_
  refine r_iload_n (pc := 1) dX6_rateUpper_1 rfl ?_
  refine r_isub (pc := 2) dX6_rateUpper_2 ?_
  refine r_iconst (pc := 3) (v := (nI (1))) dX6_rateUpper_3 (by decide) ?_
  refine r_icmp_ge (pc := 4) (tgt := 11) dX6_rateUpper_4 (by decide) (fun c4 => ?_) (fun c4 => ?_)
  · refine r_iload_n (pc := 11) dX6_rateUpper_11 rfl ?_
    refine r_iload_n (pc := 12) dX6_rateUpper_12 rfl ?_
    refine r_isub (pc := 13) dX6_rateUpper_13 ?_
    refine r_ireturn (pc := 14) dX6_rateUpper_14 rfl (Or.inl rfl) rfl ?_
    rw [show (nI 1 : Int32) ≤ nI (g) - nI (f) ↔ (f) < (g) from ups_le (by omega) (by omega)] at c4
    refine (congrArg (fun z => Q (some (.int z)) μ) (?_ : nI (upR (g) (f)) = nI (g) - nI (f))).mp h
    unfold upR
    rw [if_neg (by omega), nI_sub (by omega)]
  · refine r_iconst (pc := 7) (v := (nI (1))) dX6_rateUpper_7 (by decide) ?_
    refine r_goto (pc := 8) (tgt := 14) dX6_rateUpper_8 (by decide) ?_
    refine r_ireturn (pc := 14) dX6_rateUpper_14 rfl (Or.inl rfl) rfl ?_
    rw [show (nI 1 : Int32) ≤ nI (g) - nI (f) ↔ (f) < (g) from ups_le (by omega) (by omega)] at c4
    refine (congrArg (fun z => Q (some (.int z)) μ) (?_ : nI (upR (g) (f)) = nI 1)).mp h
    unfold upR
    rw [if_pos (by omega)]

set_option maxRecDepth 20000 in
set_option maxHeartbeats 4000000 in
theorem c_xupper {μ : Mem} {σ : Sg} {b : Nat} {Q : Option Value → Mem → Prop} (hX : Xs μ σ) (hO : Ok σ) (hb : b < σ 0 0) (h : Q (some (.int (nI (upR (σ 4 b) (σ 0 1))))) μ) : Sp iX0_upper 1 [.ref 1, .int (nI b)] μ Q := by
  refine Sp.of vX0_upper.1 (Nat.le_of_ble_eq_true rfl) ?_
  show WP cX0_upper (RX0, 2, (some .int), 1, none) 0 [(0, .ref 1), (1, .int (nI b))] [] μ Q
  have hn := Ok_n hO
  refine r_aload_n (pc := 0) dX0_upper_0 rfl ?_
  refine r_iload_n (pc := 1) dX0_upper_1 rfl ?_
  refine r_callV (pc := 2) (d' := 0) (k := 1) (As := [.int (nI b)]) (rest := []) dX0_upper_2 vX0_has mX0_41 rfl rfl rfl (Nat.le_of_ble_eq_true rfl) (Nat.le_of_ble_eq_true rfl) ?_
  refine c_has hX hO ?_
  refine rb_if_eq (pc := 5) (tgt := 26) dX0_upper_5 (by decide) (fun c5 => ?_) (fun c5 => ?_)
  · rw [isB_nat (by omega)] at c5
    simp at c5
    omega
  · refine r_aload_n (pc := 8) dX0_upper_8 rfl ?_
    refine r_getR (pc := 9) (r := 5) dX0_upper_9 fX0_21 rfl rfl ?_
    refine r_iload_n (pc := 12) dX0_upper_12 rfl ?_
    refine r_iald (pc := 13) (x := (nI (σ 4 (b)))) dX0_upper_13 rfl rfl (by omega) (Xs_4 (μ := μ) hX (by omega)) ?_
    have b1 := Ok_b hO (j := b) (by omega)
    refine r_aload_n (pc := 14) dX0_upper_14 rfl ?_
    refine r_getR (pc := 15) (r := 9) dX0_upper_15 fX0_33 rfl rfl ?_
    refine r_iconst (pc := 18) (v := (nI (0))) dX0_upper_18 (by decide) ?_
    refine r_iald (pc := 19) (x := (nI (σ 0 1))) dX0_upper_19 rfl rfl (by omega) (Xs_fee (μ := μ) hX) ?_
    refine r_callN (pc := 20) (d' := 0) (As := [.int (nI (σ 4 (b))), .int (nI (σ 0 1))]) (rest := []) dX0_upper_20 sX6_rateUpper nX0_52 rfl rfl (Nat.le_of_ble_eq_true rfl) (Nat.le_of_ble_eq_true rfl) ?_
    refine c_rate (by omega) (by omega) ?_
    refine r_goto (pc := 23) (tgt := 27) dX0_upper_23 (by decide) ?_
    refine r_ireturn (pc := 27) dX0_upper_27 rfl (Or.inl rfl) rfl ?_
    exact h
end
section
/-! THE MATHEMATICS that both sides are tied to -/
/-- rounds: from coin c on, by boards in order; s the least coin, seen a mask, path behind us -/
def dfs (σ : Sg) (s : Nat) : Nat → Nat → Nat → List Nat → List (List Nat)
  | 0, _, _, _ => []
  | f + 1, c, seen, path => (List.range (σ 0 0)).flatMap (fun b => if σ 1 b = c ∧ opn σ b = true then (if σ 3 b = s then [path ++ [b]] else if s < σ 3 b ∧ seen.testBit (σ 3 b) = false then dfs σ s f (σ 3 b) (seen ||| 2 ^ σ 3 b) (path ++ [b]) else []) else [])
def rnds (σ : Sg) : List (List Nat) := (List.range 8).flatMap (fun s => dfs σ s 8 s (2 ^ s) [])
def prodL : List Nat → Nat
  | [] => 1
  | a :: l => a * prodL l
/-- the product's upper number by gives g and a fee, its lower one -/
def pUp (g : Nat → Nat) (f : Nat) (r : List Nat) : Nat := prodL (r.map (fun b => upR (g b) f))
def pLow (σ : Sg) (r : List Nat) : Nat := prodL (r.map (σ 2))
def gns (σ : Sg) (g : Nat → Nat) (f : Nat) (r : List Nat) : Bool := decide (pLow σ r < pUp g f r)
/-- the rounds that gain; the places of those among all -/
def grs (σ : Sg) (g : Nat → Nat) (f : Nat) : List (List Nat) := (rnds σ).filter (gns σ g f)
def gix (σ : Sg) (g : Nat → Nat) (f : Nat) : List Nat := (List.range (rnds σ).length).filter (fun i => gns σ g f ((rnds σ).getD i []))
def bitsP : List Nat → Nat
  | [] => 0
  | b :: l => 2 ^ b ||| bitsP l
def packP : List Nat → Nat
  | [] => 0
  | b :: l => (b + 1) + 16 * packP l
/-- the place of the greatest product among those that gain, the first such: none if none gains -/
def above (a b c d : Nat) : Bool := decide (c * b < a * d)
def mostG (σ : Sg) (g : Nat → Nat) (f : Nat) : List (List Nat) → Option (List Nat)
  | [] => none
  | r :: l => match mostG σ g f l with
    | none => if gns σ g f r then some r else none
    | some q => if gns σ g f r && !(above (pUp g f q) (pLow σ q) (pUp g f r) (pLow σ r)) then some r else some q
/-- the walkers: gives behind k more of them -/
def wear (d : Nat) (r : List Nat) (g : Nat → Nat) : Nat → Nat := fun b => if b ∈ r then (if g b - d < 1 then 1 else g b - d) else g b
def walkN (σ : Sg) (f d : Nat) : Nat → (Nat → Nat) → Nat × (Nat → Nat)
  | 0, g => (0, g)
  | k + 1, g => match mostG σ g f (rnds σ) with
    | none => (0, g)
    | some r => ((walkN σ f d k (wear d r g)).1 + 1, (walkN σ f d k (wear d r g)).2)
def wkr (σ : Sg) : Nat × (Nat → Nat) := walkN σ (σ 0 1) (σ 0 3) 1176 (σ 4)
/-- what the class keeps -/
def FoundOK (μ : Mem) (σ : Sg) : Prop :=
  μ.1 12 5 = nI (rnds σ).length ∧ μ.1 12 6 = nI (gix σ (σ 4) (σ 0 1)).length ∧
  (∀ i r, (rnds σ)[i]? = some r → μ.2 13 i = lN (packP r) ∧ μ.2 14 i = lN (pLow σ r) ∧ μ.1 15 i = nI (bitsP r)) ∧
  (∀ i k, (gix σ (σ 4) (σ 0 1))[i]? = some k → μ.1 16 i = nI k)
def SentOK (μ : Mem) (σ : Sg) : Prop := μ.1 37 1 = nI (wkr σ).1 ∧ ∀ j, j < 12 → μ.1 38 j = nI ((wkr σ).2 j)
def Xc (μ : Mem) (σ : Sg) : Prop := (μ.1 12 7 = nI 0 ∨ (μ.1 12 7 = nI 1 ∧ FoundOK μ σ)) ∧ (μ.1 37 2 = nI 0 ∨ (μ.1 37 2 = nI 1 ∧ SentOK μ σ))
def XI (μ : Mem) (σ : Sg) : Prop := Xs μ σ ∧ Xc μ σ
/-- what the other side has stays -/
def keepM (μ μ' : Mem) : Prop := ∀ k, 40 ≤ k → μ'.1 k = μ.1 k ∧ μ'.2 k = μ.2 k
def keepX (μ μ' : Mem) : Prop := ∀ k, k < 40 → μ'.1 k = μ.1 k ∧ μ'.2 k = μ.2 k
theorem keepM.rf {μ : Mem} : keepM μ μ := fun _ _ => ⟨rfl, rfl⟩
theorem keepX.rf {μ : Mem} : keepX μ μ := fun _ _ => ⟨rfl, rfl⟩
theorem keepM.tr {μ μ' μ'' : Mem} (h : keepM μ μ') (h' : keepM μ' μ'') : keepM μ μ'' := fun k hk => ⟨(h' k hk).1.trans (h k hk).1, (h' k hk).2.trans (h k hk).2⟩
theorem keepX.tr {μ μ' μ'' : Mem} (h : keepX μ μ') (h' : keepX μ' μ'') : keepX μ μ'' := fun k hk => ⟨(h' k hk).1.trans (h k hk).1, (h' k hk).2.trans (h k hk).2⟩
theorem keepM.I {μ μ' : Mem} (h : keepM μ μ') {k j : Nat} {v : Int32} (hk : k < 40) : keepM μ (setI μ' k j v) := fun a ha => ⟨by
  show (if a = k then _ else μ'.1 a) = _
  rw [if_neg (by omega)]; exact (h a ha).1, (h a ha).2⟩
theorem keepM.L {μ μ' : Mem} (h : keepM μ μ') {k j : Nat} {v : Int64} (hk : k < 40) : keepM μ (setL μ' k j v) := fun a ha => ⟨(h a ha).1, by
  show (if a = k then _ else μ'.2 a) = _
  rw [if_neg (by omega)]; exact (h a ha).2⟩
theorem keepX.I {μ μ' : Mem} (h : keepX μ μ') {k j : Nat} {v : Int32} (hk : 40 ≤ k) : keepX μ (setI μ' k j v) := fun a ha => ⟨by
  show (if a = k then _ else μ'.1 a) = _
  rw [if_neg (by omega)]; exact (h a ha).1, (h a ha).2⟩
theorem keepX.L {μ μ' : Mem} (h : keepX μ μ') {k j : Nat} {v : Int64} (hk : 40 ≤ k) : keepX μ (setL μ' k j v) := fun a ha => ⟨(h a ha).1, by
  show (if a = k then _ else μ'.2 a) = _
  rw [if_neg (by omega)]; exact (h a ha).2⟩
theorem keepM.C {μ μ' : Mem} (h : keepM μ μ') {k k' n : Nat} (hk : k' < 40) : keepM μ (cpyI μ' k k' n) := fun a ha => ⟨by
  show (if a = k' then _ else μ'.1 a) = _
  rw [if_neg (by omega)]; exact (h a ha).1, (h a ha).2⟩
theorem Ms_keep {μ μ' : Mem} {σ : Sg} (h : Ms μ σ) (k : keepM μ μ') : Ms μ' σ := by
  unfold Ms
  rw [(k 40 (by omega)).1, (k 41 (by omega)).1, (k 42 (by omega)).1, (k 43 (by omega)).1, (k 44 (by omega)).1, (k 45 (by omega)).1, (k 46 (by omega)).1, (k 47 (by omega)).1, (k 48 (by omega)).1, (k 49 (by omega)).1, (k 50 (by omega)).1]
  exact h
theorem XI_keep {μ μ' : Mem} {σ : Sg} (h : XI μ σ) (k : keepX μ μ') : XI μ' σ := by
  unfold XI Xs Xc FoundOK SentOK
  rw [(k 1 (by omega)).1, (k 2 (by omega)).1, (k 3 (by omega)).1, (k 4 (by omega)).1, (k 5 (by omega)).1, (k 6 (by omega)).1, (k 7 (by omega)).1, (k 8 (by omega)).1, (k 9 (by omega)).1, (k 10 (by omega)).1, (k 11 (by omega)).1, (k 12 (by omega)).1, (k 13 (by omega)).2, (k 14 (by omega)).2, (k 15 (by omega)).1, (k 16 (by omega)).1, (k 37 (by omega)).1, (k 38 (by omega)).1, (k 39 (by omega)).1]
  exact h
/-- what the class keeps hangs on the boards alone -/
def sameB (σ σ' : Sg) : Prop := σ' 0 0 = σ 0 0 ∧ σ' 0 1 = σ 0 1 ∧ σ' 0 2 = σ 0 2 ∧ σ' 0 3 = σ 0 3 ∧ σ' 1 = σ 1 ∧ σ' 2 = σ 2 ∧ σ' 3 = σ 3 ∧ σ' 4 = σ 4 ∧ σ' 5 = σ 5 ∧ σ' 6 = σ 6
theorem dfs_cong {σ σ' : Sg} (h : sameB σ σ') (s : Nat) : ∀ (f c seen : Nat) (p : List Nat), dfs σ' s f c seen p = dfs σ s f c seen p
  | 0, _, _, _ => rfl
  | f + 1, c, seen, p => by
    obtain ⟨h0, h1, h2, h3, h4, h5, h6, h7, h8, h9⟩ := h
    have ho : ∀ b, opn σ' b = opn σ b := fun b => by unfold opn; rw [h8, h9, h2]
    unfold dfs
    rw [h0, h4, h6]
    congr 1
    funext b
    rw [ho b, dfs_cong ⟨h0, h1, h2, h3, h4, h5, h6, h7, h8, h9⟩ s f]
theorem rnds_cong {σ σ' : Sg} (h : sameB σ σ') : rnds σ' = rnds σ := by
  unfold rnds
  congr 1
  funext s
  exact dfs_cong h s _ _ _ _
theorem mostG_cong {σ σ' : Sg} (h : σ' 2 = σ 2) (g : Nat → Nat) (f : Nat) : ∀ l, mostG σ' g f l = mostG σ g f l
  | [] => rfl
  | r :: l => by
    unfold mostG
    rw [mostG_cong h g f l]
    unfold gns pLow
    rw [h]
theorem walkN_cong {σ σ' : Sg} (h : sameB σ σ') (f d : Nat) : ∀ (k : Nat) (g : Nat → Nat), walkN σ' f d k g = walkN σ f d k g
  | 0, g => rfl
  | k + 1, g => by
    unfold walkN
    rw [rnds_cong h, mostG_cong h.2.2.2.2.2.1]
    cases mostG σ g f (rnds σ) with
    | none => rfl
    | some r => simp only [walkN_cong h f d k]
theorem Xc_cong {μ : Mem} {σ σ' : Sg} (h : sameB σ σ') (hX : Xc μ σ) : Xc μ σ' := by
  have hr := rnds_cong h
  have hw : wkr σ' = wkr σ := by
    unfold wkr
    rw [walkN_cong h, h.2.1, h.2.2.2.1, h.2.2.2.2.2.2.2.1]
  have hl : ∀ r, pLow σ' r = pLow σ r := fun r => by unfold pLow; rw [h.2.2.2.2.2.1]
  have hg : gix σ' (σ' 4) (σ' 0 1) = gix σ (σ 4) (σ 0 1) := by
    unfold gix gns
    simp only [hr, h.2.1, h.2.2.2.2.2.2.2.1, hl]
  unfold Xc FoundOK SentOK
  rw [hw, hg, hr]
  simp only [hl]
  exact hX
theorem Xc_none {μ : Mem} {σ : Sg} (h1 : μ.1 12 7 = nI 0) (h2 : μ.1 37 2 = nI 0) : Xc μ σ := ⟨Or.inl h1, Or.inl h2⟩
/-- bits -/
theorem shl1 {b : Nat} (h : b < 31) : nI 1 <<< (nI b &&& 31) = nI (2 ^ b) := by
  have key : ∀ b, b < 31 → nI 1 <<< (nI b &&& 31) = nI (2 ^ b) := by decide +kernel
  exact key b h
theorem shr_ok : ∀ b, b < 31 → ((nI b &&& 31).toBitVec.smod 32).toNat = b := by decide +kernel
theorem shrN {s b : Nat} (hs : s < 2 ^ 31) (h : b < 31) : nI s >>> (nI b &&& 31) = nI (s / 2 ^ b) := pk_shrN hs _ b (shr_ok b h)
theorem and1 {a : Nat} (h : a < 2 ^ 31) : nI a &&& nI 1 = nI (a % 2) := by
  have := pk_andN (n := a) (by omega) (m := nI 1) 1 (by decide)
  simpa using this
theorem nI_or (a b : Nat) : nI a ||| nI b = nI (a ||| b) := by
  apply Int32.toBitVec_inj.mp
  show BitVec.ofNat 32 a ||| BitVec.ofNat 32 b = BitVec.ofNat 32 (a ||| b)
  rw [BitVec.ofNat_or]
theorem nI_and (a b : Nat) : nI a &&& nI b = nI (a &&& b) := by
  apply Int32.toBitVec_inj.mp
  show BitVec.ofNat 32 a &&& BitVec.ofNat 32 b = BitVec.ofNat 32 (a &&& b)
  rw [BitVec.ofNat_and]
theorem tb_iff {s b : Nat} : s / 2 ^ b % 2 = 1 ↔ s.testBit b = true := by rw [Nat.testBit_eq_decide_div_mod_eq]; simp
theorem tb_0 {s b : Nat} : s / 2 ^ b % 2 = 0 ↔ s.testBit b = false := by
  rw [← Bool.not_eq_true, ← tb_iff]
  omega
theorem inR_t {v : Int32} {lo hi : Nat} (hl : lo < 2 ^ 31) (hh : hi < 2 ^ 31) (h : inR v (nI lo) (nI hi) = true) : ∃ j : Nat, lo ≤ j ∧ j ≤ hi ∧ v = nI j := by
  rw [inR_iff, nI_toInt hl, nI_toInt hh] at h
  obtain ⟨j, hj, rfl⟩ := nI_of (x := v) (fun q => by have := Int32.lt_iff_toInt_lt.mp q; simp at this; omega)
  rw [nI_toInt hj] at h
  exact ⟨j, by omega, by omega, rfl⟩
/-- the open boards as bits -/
def obits (σ : Sg) : Nat → Nat
  | 0 => 0
  | m + 1 => obits σ m ||| (if opn σ m = true then 2 ^ m else 0)
theorem or_lt {a b k : Nat} (ha : a < 2 ^ k) (hb : b < 2 ^ k) : a ||| b < 2 ^ k := Nat.or_lt_two_pow ha hb
theorem obits_lt (σ : Sg) : ∀ m, obits σ m < 2 ^ m
  | 0 => Nat.one_pos
  | m + 1 => by
    unfold obits
    refine or_lt (Nat.lt_of_lt_of_le (obits_lt σ m) (Nat.pow_le_pow_right (by decide) (by omega))) ?_
    split
    · exact Nat.pow_lt_pow_right (by decide) (by omega)
    · exact Nat.two_pow_pos _
/-! WHAT EACH PLAIN CALL ANSWERS, and the state behind it -/
abbrev bN (b : Int32) : Nat := b.toNatClampNeg
def addB (σ : Sg) (f t g n : Nat) : Sg := fun a i => if a = 0 then (if i = 0 then σ 0 0 + 1 else σ 0 i) else if i = σ 0 0 then (if a = 1 then f else if a = 2 then t else if a = 3 then g else if a = 4 then n else if a = 5 then 0 else if a = 6 then 99 else if a = 7 then 1000000 else σ a i) else σ a i
def sp_board (σ : Sg) (f t g n : Int32) : Int32 × Sg := if isB f 8 = false ∨ isB g 8 = false ∨ f = g then (-1, σ) else if inR t (nI 1) (nI 99) = false ∨ inR n (nI 1) (nI 99) = false then (-2, σ) else if σ 0 0 = 12 then (-4, σ) else (nI (σ 0 0), addB σ (bN f) (bN t) (bN g) (bN n))
def sp_of (σ : Sg) (b w : Int32) : Int32 := if isB b (σ 0 0) = false then -1 else if w = nI 0 then nI (σ 1 (bN b)) else if w = nI 1 then nI (σ 2 (bN b)) else if w = nI 2 then nI (σ 3 (bN b)) else if w = nI 3 then nI (σ 4 (bN b)) else if w = nI 4 then nI (σ 5 (bN b)) else if w = nI 5 then nI (σ 6 (bN b)) else if w = nI 6 then nI (σ 7 (bN b)) else if w = nI 7 then b2i (opn σ (bN b)) else if w = nI 8 then nI (upR (σ 4 (bN b)) (σ 0 1)) else -2
def sp_change (σ : Sg) (b w v : Int32) : Int32 × Sg := if isB b (σ 0 0) = false then (-1, σ) else if inR w (nI 0) (nI 1) = false ∨ inR v (nI 1) (nI (if w = nI 0 then 99 else 1000000)) = false then (-2, σ) else if w = nI 0 then (nI (σ 4 (bN b)), su σ 4 (bN b) (bN v)) else (nI (σ 7 (bN b)), su σ 7 (bN b) (bN v))
def sp_hours (σ : Sg) (b f t : Int32) : Int32 × Sg := if isB b (σ 0 0) = false then (-1, σ) else if inR f (nI 0) (nI 99) = true ∧ inR t (nI 0) (nI 99) = true ∧ f.toInt ≤ t.toInt then (1, su (su σ 5 (bN b) (bN f)) 6 (bN b) (bN t)) else (-2, σ)
def sp_set (σ : Sg) (w v : Int32) : Int32 × Sg := if inR w (nI 0) (nI 2) = false then (-2, σ) else if inR v (nI (if w = nI 2 then 1 else 0)) (nI (if w = nI 1 then 99 else 98)) = false then (-2, σ) else (nI (σ 0 (bN w + 1)), su σ 0 (bN w + 1) (bN v))
def sp_say (σ : Sg) (v : Int32) : Int32 × Sg := if inR v (nI 33) (nI 126) = false then (-2, σ) else if σ 0 4 = 80 then (-4, σ) else (nI (σ 0 4 + 1), su (su σ 8 (σ 0 4) (bN v)) 0 4 (σ 0 4 + 1))
def sp_wipe (σ : Sg) : Int32 × Sg := (nI (σ 0 4), su σ 0 4 0)
def sp_worth (σ : Sg) (c v : Int32) : Int32 × Sg := if isB c 8 = false then (-1, σ) else if inR v (nI 1) (nI 1000000) = false then (-2, σ) else (nI (σ 9 (bN c)), su σ 9 (bN c) (bN v))
def sp_told (σ : Sg) (w : Int32) : Int32 := if w = nI 0 then nI (σ 0 0) else if w = nI 1 then nI (σ 0 4) else if w = nI 2 then nI (obits σ (σ 0 0)) else if w = nI 3 then nI (σ 0 1) else if w = nI 4 then nI (σ 0 2) else if w = nI 5 then nI (σ 0 3) else -2
theorem bN_nI {j : Nat} (h : j < 2 ^ 31) : bN (nI j) = j := nI_clamp h
end
section
/-! PLAIN CALLS of the model -/
theorem sw_out {w : Int32} {n : Int} (h : w.toInt < 0 ∨ n < w.toInt) {k : Nat} (hk : (k : Int) ≤ n) (hn : k < 2 ^ 31) : ¬ w = nI k := fun q => by
  rw [q, nI_toInt hn] at h
  omega
theorem upd_at (f : Nat → Int32) (k : Nat) (x : Int32) (i : Nat) : upd f k x i = if i = k then x else f i := rfl
theorem Ms_s1 {μ : Mem} {σ : Sg} {j v : Nat} (h : Ms μ σ) : Ms (setI μ 41 j (nI v)) (su σ 1 j v) := by
  obtain ⟨h0, h1, h2, h3, h4, h5, h6, h7, h8, h9, h10, h11, h12, h13⟩ := h
  exact ⟨h0, fun i hi => by
    show upd (μ.1 41) j (nI v) i = nI (if 1 = 1 ∧ i = j then v else σ 1 i)
    rw [upd_at]
    by_cases e : i = j
    · simp [e]
    · simp [e, h1 i hi], h2, h3, h4, h5, h6, h7, h8, h9, h10, h11, h12, h13⟩
theorem Ms_s2 {μ : Mem} {σ : Sg} {j v : Nat} (h : Ms μ σ) : Ms (setI μ 42 j (nI v)) (su σ 2 j v) := by
  obtain ⟨h0, h1, h2, h3, h4, h5, h6, h7, h8, h9, h10, h11, h12, h13⟩ := h
  exact ⟨h0, h1, fun i hi => by
    show upd (μ.1 42) j (nI v) i = nI (if 2 = 2 ∧ i = j then v else σ 2 i)
    rw [upd_at]
    by_cases e : i = j
    · simp [e]
    · simp [e, h2 i hi], h3, h4, h5, h6, h7, h8, h9, h10, h11, h12, h13⟩
theorem Ms_s3 {μ : Mem} {σ : Sg} {j v : Nat} (h : Ms μ σ) : Ms (setI μ 43 j (nI v)) (su σ 3 j v) := by
  obtain ⟨h0, h1, h2, h3, h4, h5, h6, h7, h8, h9, h10, h11, h12, h13⟩ := h
  exact ⟨h0, h1, h2, fun i hi => by
    show upd (μ.1 43) j (nI v) i = nI (if 3 = 3 ∧ i = j then v else σ 3 i)
    rw [upd_at]
    by_cases e : i = j
    · simp [e]
    · simp [e, h3 i hi], h4, h5, h6, h7, h8, h9, h10, h11, h12, h13⟩
theorem Ms_s4 {μ : Mem} {σ : Sg} {j v : Nat} (h : Ms μ σ) : Ms (setI μ 44 j (nI v)) (su σ 4 j v) := by
  obtain ⟨h0, h1, h2, h3, h4, h5, h6, h7, h8, h9, h10, h11, h12, h13⟩ := h
  exact ⟨h0, h1, h2, h3, fun i hi => by
    show upd (μ.1 44) j (nI v) i = nI (if 4 = 4 ∧ i = j then v else σ 4 i)
    rw [upd_at]
    by_cases e : i = j
    · simp [e]
    · simp [e, h4 i hi], h5, h6, h7, h8, h9, h10, h11, h12, h13⟩
theorem Ms_s5 {μ : Mem} {σ : Sg} {j v : Nat} (h : Ms μ σ) : Ms (setI μ 45 j (nI v)) (su σ 5 j v) := by
  obtain ⟨h0, h1, h2, h3, h4, h5, h6, h7, h8, h9, h10, h11, h12, h13⟩ := h
  exact ⟨h0, h1, h2, h3, h4, fun i hi => by
    show upd (μ.1 45) j (nI v) i = nI (if 5 = 5 ∧ i = j then v else σ 5 i)
    rw [upd_at]
    by_cases e : i = j
    · simp [e]
    · simp [e, h5 i hi], h6, h7, h8, h9, h10, h11, h12, h13⟩
theorem Ms_s6 {μ : Mem} {σ : Sg} {j v : Nat} (h : Ms μ σ) : Ms (setI μ 46 j (nI v)) (su σ 6 j v) := by
  obtain ⟨h0, h1, h2, h3, h4, h5, h6, h7, h8, h9, h10, h11, h12, h13⟩ := h
  exact ⟨h0, h1, h2, h3, h4, h5, fun i hi => by
    show upd (μ.1 46) j (nI v) i = nI (if 6 = 6 ∧ i = j then v else σ 6 i)
    rw [upd_at]
    by_cases e : i = j
    · simp [e]
    · simp [e, h6 i hi], h7, h8, h9, h10, h11, h12, h13⟩
theorem Ms_s7 {μ : Mem} {σ : Sg} {j v : Nat} (h : Ms μ σ) : Ms (setI μ 47 j (nI v)) (su σ 7 j v) := by
  obtain ⟨h0, h1, h2, h3, h4, h5, h6, h7, h8, h9, h10, h11, h12, h13⟩ := h
  exact ⟨h0, h1, h2, h3, h4, h5, h6, fun i hi => by
    show upd (μ.1 47) j (nI v) i = nI (if 7 = 7 ∧ i = j then v else σ 7 i)
    rw [upd_at]
    by_cases e : i = j
    · simp [e]
    · simp [e, h7 i hi], h8, h9, h10, h11, h12, h13⟩
theorem Ms_s9 {μ : Mem} {σ : Sg} {j v : Nat} (h : Ms μ σ) : Ms (setI μ 50 j (nI v)) (su σ 9 j v) := by
  obtain ⟨h0, h1, h2, h3, h4, h5, h6, h7, h8, h9, h10, h11, h12, h13⟩ := h
  exact ⟨h0, h1, h2, h3, h4, h5, h6, h7, h8, h9, h10, h11, h12, fun i hi => by
    show upd (μ.1 50) j (nI v) i = nI (if 9 = 9 ∧ i = j then v else σ 9 i)
    rw [upd_at]
    by_cases e : i = j
    · simp [e]
    · simp [e, h13 i hi]⟩
theorem Ms_t0 {μ : Mem} {σ : Sg} {v : Nat} (h : Ms μ σ) : Ms (setI μ 48 0 (nI v)) (su σ 0 1 v) := by
  obtain ⟨h0, h1, h2, h3, h4, h5, h6, h7, h8, h9, h10, h11, h12, h13⟩ := h
  exact ⟨h0, h1, h2, h3, h4, h5, h6, h7, rfl, h9, h10, h11, h12, h13⟩
theorem Ms_t1 {μ : Mem} {σ : Sg} {v : Nat} (h : Ms μ σ) : Ms (setI μ 48 1 (nI v)) (su σ 0 2 v) := by
  obtain ⟨h0, h1, h2, h3, h4, h5, h6, h7, h8, h9, h10, h11, h12, h13⟩ := h
  exact ⟨h0, h1, h2, h3, h4, h5, h6, h7, h8, rfl, h10, h11, h12, h13⟩
theorem Ms_t2 {μ : Mem} {σ : Sg} {v : Nat} (h : Ms μ σ) : Ms (setI μ 48 2 (nI v)) (su σ 0 3 v) := by
  obtain ⟨h0, h1, h2, h3, h4, h5, h6, h7, h8, h9, h10, h11, h12, h13⟩ := h
  exact ⟨h0, h1, h2, h3, h4, h5, h6, h7, h8, h9, rfl, h11, h12, h13⟩
theorem Ms_w {μ : Mem} {σ : Sg} (h : Ms μ σ) : Ms (setI μ 40 9 (nI 0)) (su σ 0 4 0) := by
  obtain ⟨h0, h1, h2, h3, h4, h5, h6, h7, h8, h9, h10, h11, h12, h13⟩ := h
  exact ⟨h0, h1, h2, h3, h4, h5, h6, h7, h8, h9, h10, rfl, fun i hi => absurd hi (Nat.not_lt_zero i), h13⟩
theorem Ms_say {μ : Mem} {σ : Sg} {v : Nat} (h : Ms μ σ) : Ms (setI (setI μ 49 (σ 0 4) (nI v)) 40 9 (nI (σ 0 4 + 1))) (su (su σ 8 (σ 0 4) v) 0 4 (σ 0 4 + 1)) := by
  obtain ⟨h0, h1, h2, h3, h4, h5, h6, h7, h8, h9, h10, h11, h12, h13⟩ := h
  exact ⟨h0, h1, h2, h3, h4, h5, h6, h7, h8, h9, h10, rfl, fun i hi => by
    have hi' : i < σ 0 4 + 1 := hi
    show upd (μ.1 49) (σ 0 4) (nI v) i = nI (if 8 = 8 ∧ i = σ 0 4 then v else σ 8 i)
    rw [upd_at]
    by_cases e : i = σ 0 4
    · simp [e]
    · simp [e, h12 i (by omega)], h13⟩
theorem Ms_add {μ : Mem} {σ : Sg} {f t g n : Nat} (h : Ms μ σ) : Ms (setI (setI (setI (setI (setI (setI (setI (setI μ 41 (σ 0 0) (nI f)) 42 (σ 0 0) (nI t)) 43 (σ 0 0) (nI g)) 44 (σ 0 0) (nI n)) 45 (σ 0 0) (nI 0)) 46 (σ 0 0) (nI 99)) 47 (σ 0 0) (nI 1000000)) 40 0 (nI (σ 0 0 + 1))) (addB σ f t g n) := by
  obtain ⟨h0, h1, h2, h3, h4, h5, h6, h7, h8, h9, h10, h11, h12, h13⟩ := h
  exact ⟨rfl, fun i hi => by
    show upd (μ.1 41) (σ 0 0) (nI f) i = nI (if i = σ 0 0 then f else σ 1 i)
    rw [upd_at]
    by_cases e : i = σ 0 0
    · simp [e]
    · simp [e, h1 i hi], fun i hi => by
    show upd (μ.1 42) (σ 0 0) (nI t) i = nI (if i = σ 0 0 then t else σ 2 i)
    rw [upd_at]
    by_cases e : i = σ 0 0
    · simp [e]
    · simp [e, h2 i hi], fun i hi => by
    show upd (μ.1 43) (σ 0 0) (nI g) i = nI (if i = σ 0 0 then g else σ 3 i)
    rw [upd_at]
    by_cases e : i = σ 0 0
    · simp [e]
    · simp [e, h3 i hi], fun i hi => by
    show upd (μ.1 44) (σ 0 0) (nI n) i = nI (if i = σ 0 0 then n else σ 4 i)
    rw [upd_at]
    by_cases e : i = σ 0 0
    · simp [e]
    · simp [e, h4 i hi], fun i hi => by
    show upd (μ.1 45) (σ 0 0) (nI 0) i = nI (if i = σ 0 0 then 0 else σ 5 i)
    rw [upd_at]
    by_cases e : i = σ 0 0
    · simp [e]
    · simp [e, h5 i hi], fun i hi => by
    show upd (μ.1 46) (σ 0 0) (nI 99) i = nI (if i = σ 0 0 then 99 else σ 6 i)
    rw [upd_at]
    by_cases e : i = σ 0 0
    · simp [e]
    · simp [e, h6 i hi], fun i hi => by
    show upd (μ.1 47) (σ 0 0) (nI 1000000) i = nI (if i = σ 0 0 then 1000000 else σ 7 i)
    rw [upd_at]
    by_cases e : i = σ 0 0
    · simp [e]
    · simp [e, h7 i hi], h8, h9, h10, h11, fun i hi => by
    show μ.1 49 i = nI (if i = σ 0 0 then σ 8 i else σ 8 i)
    rw [show (if i = σ 0 0 then σ 8 i else σ 8 i) = σ 8 i by split <;> rfl]
    exact h12 i hi, fun i hi => by
    show μ.1 50 i = nI (if i = σ 0 0 then σ 9 i else σ 9 i)
    rw [show (if i = σ 0 0 then σ 9 i else σ 9 i) = σ 9 i by split <;> rfl]
    exact h13 i hi⟩
theorem Xs_s1 {μ : Mem} {σ : Sg} {j v : Nat} (h : Xs μ σ) : Xs (setI μ 2 j (nI v)) (su σ 1 j v) := by
  obtain ⟨h0, h1, h2, h3, h4, h5, h6, h7, h8, h9, h10, h11, h12, h13⟩ := h
  exact ⟨h0, fun i hi => by
    show upd (μ.1 2) j (nI v) i = nI (if 1 = 1 ∧ i = j then v else σ 1 i)
    rw [upd_at]
    by_cases e : i = j
    · simp [e]
    · simp [e, h1 i hi], h2, h3, h4, h5, h6, h7, h8, h9, h10, h11, h12, h13⟩
theorem Xs_s2 {μ : Mem} {σ : Sg} {j v : Nat} (h : Xs μ σ) : Xs (setI μ 3 j (nI v)) (su σ 2 j v) := by
  obtain ⟨h0, h1, h2, h3, h4, h5, h6, h7, h8, h9, h10, h11, h12, h13⟩ := h
  exact ⟨h0, h1, fun i hi => by
    show upd (μ.1 3) j (nI v) i = nI (if 2 = 2 ∧ i = j then v else σ 2 i)
    rw [upd_at]
    by_cases e : i = j
    · simp [e]
    · simp [e, h2 i hi], h3, h4, h5, h6, h7, h8, h9, h10, h11, h12, h13⟩
theorem Xs_s3 {μ : Mem} {σ : Sg} {j v : Nat} (h : Xs μ σ) : Xs (setI μ 4 j (nI v)) (su σ 3 j v) := by
  obtain ⟨h0, h1, h2, h3, h4, h5, h6, h7, h8, h9, h10, h11, h12, h13⟩ := h
  exact ⟨h0, h1, h2, fun i hi => by
    show upd (μ.1 4) j (nI v) i = nI (if 3 = 3 ∧ i = j then v else σ 3 i)
    rw [upd_at]
    by_cases e : i = j
    · simp [e]
    · simp [e, h3 i hi], h4, h5, h6, h7, h8, h9, h10, h11, h12, h13⟩
theorem Xs_s4 {μ : Mem} {σ : Sg} {j v : Nat} (h : Xs μ σ) : Xs (setI μ 5 j (nI v)) (su σ 4 j v) := by
  obtain ⟨h0, h1, h2, h3, h4, h5, h6, h7, h8, h9, h10, h11, h12, h13⟩ := h
  exact ⟨h0, h1, h2, h3, fun i hi => by
    show upd (μ.1 5) j (nI v) i = nI (if 4 = 4 ∧ i = j then v else σ 4 i)
    rw [upd_at]
    by_cases e : i = j
    · simp [e]
    · simp [e, h4 i hi], h5, h6, h7, h8, h9, h10, h11, h12, h13⟩
theorem Xs_s5 {μ : Mem} {σ : Sg} {j v : Nat} (h : Xs μ σ) : Xs (setI μ 6 j (nI v)) (su σ 5 j v) := by
  obtain ⟨h0, h1, h2, h3, h4, h5, h6, h7, h8, h9, h10, h11, h12, h13⟩ := h
  exact ⟨h0, h1, h2, h3, h4, fun i hi => by
    show upd (μ.1 6) j (nI v) i = nI (if 5 = 5 ∧ i = j then v else σ 5 i)
    rw [upd_at]
    by_cases e : i = j
    · simp [e]
    · simp [e, h5 i hi], h6, h7, h8, h9, h10, h11, h12, h13⟩
theorem Xs_s6 {μ : Mem} {σ : Sg} {j v : Nat} (h : Xs μ σ) : Xs (setI μ 7 j (nI v)) (su σ 6 j v) := by
  obtain ⟨h0, h1, h2, h3, h4, h5, h6, h7, h8, h9, h10, h11, h12, h13⟩ := h
  exact ⟨h0, h1, h2, h3, h4, h5, fun i hi => by
    show upd (μ.1 7) j (nI v) i = nI (if 6 = 6 ∧ i = j then v else σ 6 i)
    rw [upd_at]
    by_cases e : i = j
    · simp [e]
    · simp [e, h6 i hi], h7, h8, h9, h10, h11, h12, h13⟩
theorem Xs_s7 {μ : Mem} {σ : Sg} {j v : Nat} (h : Xs μ σ) : Xs (setI μ 8 j (nI v)) (su σ 7 j v) := by
  obtain ⟨h0, h1, h2, h3, h4, h5, h6, h7, h8, h9, h10, h11, h12, h13⟩ := h
  exact ⟨h0, h1, h2, h3, h4, h5, h6, fun i hi => by
    show upd (μ.1 8) j (nI v) i = nI (if 7 = 7 ∧ i = j then v else σ 7 i)
    rw [upd_at]
    by_cases e : i = j
    · simp [e]
    · simp [e, h7 i hi], h8, h9, h10, h11, h12, h13⟩
theorem Xs_s9 {μ : Mem} {σ : Sg} {j v : Nat} (h : Xs μ σ) : Xs (setI μ 39 j (nI v)) (su σ 9 j v) := by
  obtain ⟨h0, h1, h2, h3, h4, h5, h6, h7, h8, h9, h10, h11, h12, h13⟩ := h
  exact ⟨h0, h1, h2, h3, h4, h5, h6, h7, h8, h9, h10, h11, h12, fun i hi => by
    show upd (μ.1 39) j (nI v) i = nI (if 9 = 9 ∧ i = j then v else σ 9 i)
    rw [upd_at]
    by_cases e : i = j
    · simp [e]
    · simp [e, h13 i hi]⟩
theorem Xs_t0 {μ : Mem} {σ : Sg} {v : Nat} (h : Xs μ σ) : Xs (setI μ 9 0 (nI v)) (su σ 0 1 v) := by
  obtain ⟨h0, h1, h2, h3, h4, h5, h6, h7, h8, h9, h10, h11, h12, h13⟩ := h
  exact ⟨h0, h1, h2, h3, h4, h5, h6, h7, rfl, h9, h10, h11, h12, h13⟩
theorem Xs_t1 {μ : Mem} {σ : Sg} {v : Nat} (h : Xs μ σ) : Xs (setI μ 9 1 (nI v)) (su σ 0 2 v) := by
  obtain ⟨h0, h1, h2, h3, h4, h5, h6, h7, h8, h9, h10, h11, h12, h13⟩ := h
  exact ⟨h0, h1, h2, h3, h4, h5, h6, h7, h8, rfl, h10, h11, h12, h13⟩
theorem Xs_t2 {μ : Mem} {σ : Sg} {v : Nat} (h : Xs μ σ) : Xs (setI μ 9 2 (nI v)) (su σ 0 3 v) := by
  obtain ⟨h0, h1, h2, h3, h4, h5, h6, h7, h8, h9, h10, h11, h12, h13⟩ := h
  exact ⟨h0, h1, h2, h3, h4, h5, h6, h7, h8, h9, rfl, h11, h12, h13⟩
theorem Xs_w {μ : Mem} {σ : Sg} (h : Xs μ σ) : Xs (setI μ 10 1 (nI 0)) (su σ 0 4 0) := by
  obtain ⟨h0, h1, h2, h3, h4, h5, h6, h7, h8, h9, h10, h11, h12, h13⟩ := h
  exact ⟨h0, h1, h2, h3, h4, h5, h6, h7, h8, h9, h10, rfl, fun i hi => absurd hi (Nat.not_lt_zero i), h13⟩
theorem Xs_say {μ : Mem} {σ : Sg} {v : Nat} (h : Xs μ σ) : Xs (setI (setI μ 11 (σ 0 4) (nI v)) 10 1 (nI (σ 0 4 + 1))) (su (su σ 8 (σ 0 4) v) 0 4 (σ 0 4 + 1)) := by
  obtain ⟨h0, h1, h2, h3, h4, h5, h6, h7, h8, h9, h10, h11, h12, h13⟩ := h
  exact ⟨h0, h1, h2, h3, h4, h5, h6, h7, h8, h9, h10, rfl, fun i hi => by
    have hi' : i < σ 0 4 + 1 := hi
    show upd (μ.1 11) (σ 0 4) (nI v) i = nI (if 8 = 8 ∧ i = σ 0 4 then v else σ 8 i)
    rw [upd_at]
    by_cases e : i = σ 0 4
    · simp [e]
    · simp [e, h12 i (by omega)], h13⟩
theorem Xs_add {μ : Mem} {σ : Sg} {f t g n : Nat} (h : Xs μ σ) : Xs (setI (setI (setI (setI (setI (setI (setI (setI μ 2 (σ 0 0) (nI f)) 3 (σ 0 0) (nI t)) 4 (σ 0 0) (nI g)) 5 (σ 0 0) (nI n)) 6 (σ 0 0) (nI 0)) 7 (σ 0 0) (nI 99)) 8 (σ 0 0) (nI 1000000)) 1 8 (nI (σ 0 0 + 1))) (addB σ f t g n) := by
  obtain ⟨h0, h1, h2, h3, h4, h5, h6, h7, h8, h9, h10, h11, h12, h13⟩ := h
  exact ⟨rfl, fun i hi => by
    show upd (μ.1 2) (σ 0 0) (nI f) i = nI (if i = σ 0 0 then f else σ 1 i)
    rw [upd_at]
    by_cases e : i = σ 0 0
    · simp [e]
    · simp [e, h1 i hi], fun i hi => by
    show upd (μ.1 3) (σ 0 0) (nI t) i = nI (if i = σ 0 0 then t else σ 2 i)
    rw [upd_at]
    by_cases e : i = σ 0 0
    · simp [e]
    · simp [e, h2 i hi], fun i hi => by
    show upd (μ.1 4) (σ 0 0) (nI g) i = nI (if i = σ 0 0 then g else σ 3 i)
    rw [upd_at]
    by_cases e : i = σ 0 0
    · simp [e]
    · simp [e, h3 i hi], fun i hi => by
    show upd (μ.1 5) (σ 0 0) (nI n) i = nI (if i = σ 0 0 then n else σ 4 i)
    rw [upd_at]
    by_cases e : i = σ 0 0
    · simp [e]
    · simp [e, h4 i hi], fun i hi => by
    show upd (μ.1 6) (σ 0 0) (nI 0) i = nI (if i = σ 0 0 then 0 else σ 5 i)
    rw [upd_at]
    by_cases e : i = σ 0 0
    · simp [e]
    · simp [e, h5 i hi], fun i hi => by
    show upd (μ.1 7) (σ 0 0) (nI 99) i = nI (if i = σ 0 0 then 99 else σ 6 i)
    rw [upd_at]
    by_cases e : i = σ 0 0
    · simp [e]
    · simp [e, h6 i hi], fun i hi => by
    show upd (μ.1 8) (σ 0 0) (nI 1000000) i = nI (if i = σ 0 0 then 1000000 else σ 7 i)
    rw [upd_at]
    by_cases e : i = σ 0 0
    · simp [e]
    · simp [e, h7 i hi], h8, h9, h10, h11, fun i hi => by
    show μ.1 11 i = nI (if i = σ 0 0 then σ 8 i else σ 8 i)
    rw [show (if i = σ 0 0 then σ 8 i else σ 8 i) = σ 8 i by split <;> rfl]
    exact h12 i hi, fun i hi => by
    show μ.1 39 i = nI (if i = σ 0 0 then σ 9 i else σ 9 i)
    rw [show (if i = σ 0 0 then σ 9 i else σ 9 i) = σ 9 i by split <;> rfl]
    exact h13 i hi⟩
set_option maxRecDepth 20000 in
set_option maxHeartbeats 4000000 in
theorem m_add {μ : Mem} {σ : Sg} {f t g n : Nat} {Q : Option Value → Mem → Prop} (hM : Ms μ σ) (hO : Ok σ) (hn12 : σ 0 0 < 12) (h : ∀ μ', Ms μ' (addB σ f t g n) → keepX μ μ' → Q (some (.int (nI (σ 0 0)))) μ') : Sp iX7_add 0 [.ref 40, .int (nI f), .int (nI t), .int (nI g), .int (nI n)] μ Q := by
  refine Sp.of vX7_add.1 (Nat.le_of_ble_eq_true rfl) ?_
  show WP cX7_add (RX7, 5, (some .int), 0, none) 0 [(0, .ref 40), (1, .int (nI f)), (2, .int (nI t)), (3, .int (nI g)), (4, .int (nI n))] [] μ Q
  have hn := Ok_n hO
  refine r_aload_n (pc := 0) dX7_add_0 rfl ?_
  refine r_getR (pc := 1) (r := 41) dX7_add_1 fX7_7 rfl rfl ?_
  refine r_aload_n (pc := 4) dX7_add_4 rfl ?_
  refine r_getI (pc := 5) (x := (nI (σ 0 0))) dX7_add_5 fX7_81 rfl rfl (Ms_n (μ := μ) hM) ?_
  refine r_iload_n (pc := 8) dX7_add_8 rfl ?_
  refine r_iast (pc := 9) dX7_add_9 rfl rfl (by omega) ?_
  refine r_aload_n (pc := 10) dX7_add_10 rfl ?_
  refine r_getR (pc := 11) (r := 42) dX7_add_11 fX7_13 rfl rfl ?_
  refine r_aload_n (pc := 14) dX7_add_14 rfl ?_
  refine r_getI (pc := 15) (x := (nI (σ 0 0))) dX7_add_15 fX7_81 rfl rfl (Ms_n (μ := μ) hM) ?_
  refine r_iload_n (pc := 18) dX7_add_18 rfl ?_
  refine r_iast (pc := 19) dX7_add_19 rfl rfl (by omega) ?_
  refine r_aload_n (pc := 20) dX7_add_20 rfl ?_
  refine r_getR (pc := 21) (r := 43) dX7_add_21 fX7_16 rfl rfl ?_
  refine r_aload_n (pc := 24) dX7_add_24 rfl ?_
  refine r_getI (pc := 25) (x := (nI (σ 0 0))) dX7_add_25 fX7_81 rfl rfl (Ms_n (μ := μ) hM) ?_
  refine r_iload_n (pc := 28) dX7_add_28 rfl ?_
  refine r_iast (pc := 29) dX7_add_29 rfl rfl (by omega) ?_
  refine r_aload_n (pc := 30) dX7_add_30 rfl ?_
  refine r_getR (pc := 31) (r := 44) dX7_add_31 fX7_19 rfl rfl ?_
  refine r_aload_n (pc := 34) dX7_add_34 rfl ?_
  refine r_getI (pc := 35) (x := (nI (σ 0 0))) dX7_add_35 fX7_81 rfl rfl (Ms_n (μ := μ) hM) ?_
  refine r_iload (pc := 38) dX7_add_38 rfl ?_
  refine r_iast (pc := 40) dX7_add_40 rfl rfl (by omega) ?_
  refine r_aload_n (pc := 41) dX7_add_41 rfl ?_
  refine r_getR (pc := 42) (r := 45) dX7_add_42 fX7_22 rfl rfl ?_
  refine r_aload_n (pc := 45) dX7_add_45 rfl ?_
  refine r_getI (pc := 46) (x := (nI (σ 0 0))) dX7_add_46 fX7_81 rfl rfl (Ms_n (μ := μ) hM) ?_
  refine r_iconst (pc := 49) (v := (nI (0))) dX7_add_49 (by decide) ?_
  refine r_iast (pc := 50) dX7_add_50 rfl rfl (by omega) ?_
  refine r_aload_n (pc := 51) dX7_add_51 rfl ?_
  refine r_getR (pc := 52) (r := 46) dX7_add_52 fX7_25 rfl rfl ?_
  refine r_aload_n (pc := 55) dX7_add_55 rfl ?_
  refine r_getI (pc := 56) (x := (nI (σ 0 0))) dX7_add_56 fX7_81 rfl rfl (Ms_n (μ := μ) hM) ?_
  refine r_bipush (pc := 59) (v := (nI (99))) dX7_add_59 (by decide) ?_
  refine r_iast (pc := 61) dX7_add_61 rfl rfl (by omega) ?_
  refine r_aload_n (pc := 62) dX7_add_62 rfl ?_
  refine r_getR (pc := 63) (r := 47) dX7_add_63 fX7_28 rfl rfl ?_
  refine r_aload_n (pc := 66) dX7_add_66 rfl ?_
  refine r_getI (pc := 67) (x := (nI (σ 0 0))) dX7_add_67 fX7_81 rfl rfl (Ms_n (μ := μ) hM) ?_
  refine r_ldc (pc := 70) dX7_add_70 kX7_85 ?_
  refine r_eqi (y := nI 1000000) (by decide) ?_
  refine r_iast (pc := 72) dX7_add_72 rfl rfl (by omega) ?_
  refine r_aload_n (pc := 73) dX7_add_73 rfl ?_
  refine r_dup_r (pc := 74) dX7_add_74 ?_
  refine r_getI (pc := 75) (x := (nI (σ 0 0))) dX7_add_75 fX7_81 rfl rfl (Ms_n (μ := μ) hM) ?_
  refine r_iconst (pc := 78) (v := (nI (1))) dX7_add_78 (by decide) ?_
  refine rn_iadd (pc := 79) dX7_add_79 ?_
  refine r_putI (pc := 80) dX7_add_80 gX7_81 rfl rfl rfl rfl ?_
  refine r_aload_n (pc := 83) dX7_add_83 rfl ?_
  refine r_getI (pc := 84) (x := (nI (σ 0 0 + 1))) dX7_add_84 fX7_81 rfl rfl rfl ?_
  refine r_iconst (pc := 87) (v := (nI (1))) dX7_add_87 (by decide) ?_
  refine rn_isub (pc := 88) dX7_add_88 (by omega) ?_
  refine r_ireturn (pc := 89) dX7_add_89 rfl (Or.inl rfl) rfl ?_
  rw [show σ 0 0 + 1 - 1 = σ 0 0 by omega]
  exact h _ (Ms_add hM) ((keepX.I (keepX.I (keepX.I (keepX.I (keepX.I (keepX.I (keepX.I (keepX.I keepX.rf (by decide)) (by decide)) (by decide)) (by decide)) (by decide)) (by decide)) (by decide)) (by decide)))

set_option maxRecDepth 20000 in
set_option maxHeartbeats 4000000 in
theorem m_board {μ : Mem} {σ : Sg} {f t g n : Int32} {Q : Option Value → Mem → Prop} (hM : Ms μ σ) (hO : Ok σ) (h : ∀ μ', Ms μ' (sp_board σ f t g n).2 → keepX μ μ' → Q (some (.int (sp_board σ f t g n).1)) μ') : Sp iX7_board 2 [.ref 40, .int (f), .int (t), .int (g), .int (n)] μ Q := by
  refine Sp.of vX7_board.1 (Nat.le_of_ble_eq_true rfl) ?_
  show WP cX7_board (RX7, 5, (some .int), 2, none) 0 [(0, .ref 40), (1, .int (f)), (2, .int (t)), (3, .int (g)), (4, .int (n))] [] μ Q
  have hn := Ok_n hO
  refine r_iload_n (pc := 0) dX7_board_0 rfl ?_
  refine r_callS (pc := 1) (d' := 1) (As := [.int (f)]) (rest := []) dX7_board_1 sX7_isCoin mX7_86 rfl rfl (Nat.le_of_ble_eq_true rfl) (Nat.le_of_ble_eq_true rfl) ?_
  refine c_mcoin ?_
  refine rb_if_eq (pc := 4) (tgt := 19) dX7_board_4 (by decide) (fun c4 => ?_) (fun c4 => ?_)
  · refine r_iconst (pc := 19) (v := (-1)) dX7_board_19 (by decide) ?_
    refine r_ireturn (pc := 20) dX7_board_20 rfl (Or.inl rfl) rfl ?_
    have e9 : sp_board σ f t g n = ((-1), σ) := by
      simp [sp_board, c4]
    rw [e9] at h
    exact h _ hM (keepX.rf)
  · obtain ⟨fj, hfj, rfl, -⟩ := isB_t c4
    refine r_iload_n (pc := 7) dX7_board_7 rfl ?_
    refine r_callS (pc := 8) (d' := 1) (As := [.int (g)]) (rest := []) dX7_board_8 sX7_isCoin mX7_86 rfl rfl (Nat.le_of_ble_eq_true rfl) (Nat.le_of_ble_eq_true rfl) ?_
    refine c_mcoin ?_
    refine rb_if_eq (pc := 11) (tgt := 19) dX7_board_11 (by decide) (fun c11 => ?_) (fun c11 => ?_)
    · refine r_iconst (pc := 19) (v := (-1)) dX7_board_19 (by decide) ?_
      refine r_ireturn (pc := 20) dX7_board_20 rfl (Or.inl rfl) rfl ?_
      have e9 : sp_board σ (nI fj) t g n = ((-1), σ) := by
        simp [sp_board, c4, c11]
      rw [e9] at h
      exact h _ hM (keepX.rf)
    · obtain ⟨gj, hgj, rfl, -⟩ := isB_t c11
      refine r_iload_n (pc := 14) dX7_board_14 rfl ?_
      refine r_iload_n (pc := 15) dX7_board_15 rfl ?_
      refine rn_icmp_ne (pc := 16) (tgt := 21) dX7_board_16 (by decide) (by omega) (by omega) (fun c16 => ?_) (fun c16 => ?_)
      · have hne : ¬ nI fj = nI gj := fun q => c16 (nI_inj (by omega) (by omega) q)
        refine r_iload_n (pc := 21) dX7_board_21 rfl ?_
        refine r_iconst (pc := 22) (v := (nI (1))) dX7_board_22 (by decide) ?_
        refine r_bipush (pc := 23) (v := (nI (99))) dX7_board_23 (by decide) ?_
        refine r_callS (pc := 25) (d' := 0) (As := [.int (t), .int (nI 1), .int (nI 99)]) (rest := []) dX7_board_25 sX7_in mX7_77 rfl rfl (Nat.le_of_ble_eq_true rfl) (Nat.le_of_ble_eq_true rfl) ?_
        refine c_in ?_
        refine rb_if_eq (pc := 28) (tgt := 42) dX7_board_28 (by decide) (fun c28 => ?_) (fun c28 => ?_)
        · refine r_bipush (pc := 42) (v := (-2)) dX7_board_42 (by decide) ?_
          refine r_ireturn (pc := 44) dX7_board_44 rfl (Or.inl rfl) rfl ?_
          have e9 : sp_board σ (nI fj) t (nI gj) n = ((-2), σ) := by
            simp [sp_board, c4, c11, c16, c28, hne]
          rw [e9] at h
          exact h _ hM (keepX.rf)
        · obtain ⟨tj, ht1, ht2, rfl⟩ := inR_t (by decide) (by decide) c28
          refine r_iload (pc := 31) dX7_board_31 rfl ?_
          refine r_iconst (pc := 33) (v := (nI (1))) dX7_board_33 (by decide) ?_
          refine r_bipush (pc := 34) (v := (nI (99))) dX7_board_34 (by decide) ?_
          refine r_callS (pc := 36) (d' := 0) (As := [.int (n), .int (nI 1), .int (nI 99)]) (rest := []) dX7_board_36 sX7_in mX7_77 rfl rfl (Nat.le_of_ble_eq_true rfl) (Nat.le_of_ble_eq_true rfl) ?_
          refine c_in ?_
          refine rb_if_ne (pc := 39) (tgt := 45) dX7_board_39 (by decide) (fun c39 => ?_) (fun c39 => ?_)
          · obtain ⟨nj, hn1, hn2, rfl⟩ := inR_t (by decide) (by decide) c39
            refine r_aload_n (pc := 45) dX7_board_45 rfl ?_
            refine r_getI (pc := 46) (x := (nI (σ 0 0))) dX7_board_46 fX7_81 rfl rfl (Ms_n (μ := μ) hM) ?_
            refine r_bipush (pc := 49) (v := (nI (12))) dX7_board_49 (by decide) ?_
            refine rn_icmp_ne (pc := 51) (tgt := 59) dX7_board_51 (by decide) (by omega) (by omega) (fun c51 => ?_) (fun c51 => ?_)
            · refine r_aload_n (pc := 59) dX7_board_59 rfl ?_
              refine r_iload_n (pc := 60) dX7_board_60 rfl ?_
              refine r_iload_n (pc := 61) dX7_board_61 rfl ?_
              refine r_iload_n (pc := 62) dX7_board_62 rfl ?_
              refine r_iload (pc := 63) dX7_board_63 rfl ?_
              refine r_callV (pc := 65) (d' := 0) (k := 40) (As := [.int (nI fj), .int (nI tj), .int (nI gj), .int (nI nj)]) (rest := []) dX7_board_65 vX7_add mX7_90 rfl rfl rfl (Nat.le_of_ble_eq_true rfl) (Nat.le_of_ble_eq_true rfl) ?_
              have e9 : sp_board σ (nI fj) (nI tj) (nI gj) (nI nj) = (nI (σ 0 0), addB σ fj tj gj nj) := by
                simp [sp_board, c4, c11, c16, c28, c39, c51, hne, bN_nI (show fj < 2 ^ 31 by omega), bN_nI (show tj < 2 ^ 31 by omega), bN_nI (show gj < 2 ^ 31 by omega), bN_nI (show nj < 2 ^ 31 by omega)]
              rw [e9] at h
              refine m_add hM hO (by omega) (fun μ1 hM1 hk1 => ?_)
              refine r_ireturn (pc := 68) dX7_board_68 rfl (Or.inl rfl) rfl ?_
              exact h μ1 hM1 hk1
            · refine r_bipush (pc := 54) (v := (-4)) dX7_board_54 (by decide) ?_
              refine r_goto (pc := 56) (tgt := 68) dX7_board_56 (by decide) ?_
              refine r_ireturn (pc := 68) dX7_board_68 rfl (Or.inl rfl) rfl ?_
              have e9 : sp_board σ (nI fj) (nI tj) (nI gj) (nI nj) = ((-4), σ) := by
                simp [sp_board, c4, c11, c16, c28, c39, c51, hne]
              rw [e9] at h
              exact h _ hM (keepX.rf)
          · refine r_bipush (pc := 42) (v := (-2)) dX7_board_42 (by decide) ?_
            refine r_ireturn (pc := 44) dX7_board_44 rfl (Or.inl rfl) rfl ?_
            have e9 : sp_board σ (nI fj) (nI tj) (nI gj) n = ((-2), σ) := by
              simp [sp_board, c4, c11, c16, c28, c39, hne]
            rw [e9] at h
            exact h _ hM (keepX.rf)
      · refine r_iconst (pc := 19) (v := (-1)) dX7_board_19 (by decide) ?_
        refine r_ireturn (pc := 20) dX7_board_20 rfl (Or.inl rfl) rfl ?_
        have e9 : sp_board σ (nI fj) t (nI gj) n = ((-1), σ) := by
          simp [sp_board, c4, c11, c16]
        rw [e9] at h
        exact h _ hM (keepX.rf)

set_option maxRecDepth 20000 in
set_option maxHeartbeats 4000000 in
theorem m_of {μ : Mem} {σ : Sg} {b w : Int32} {Q : Option Value → Mem → Prop} (hM : Ms μ σ) (hO : Ok σ) (h : ∀ μ', Ms μ' σ → keepX μ μ' → Q (some (.int (sp_of σ b w))) μ') : Sp iX7_of 2 [.ref 40, .int (b), .int (w)] μ Q := by
  refine Sp.of vX7_of.1 (Nat.le_of_ble_eq_true rfl) ?_
  show WP cX7_of (RX7, 3, (some .int), 2, none) 0 [(0, .ref 40), (1, .int (b)), (2, .int (w))] [] μ Q
  have hn := Ok_n hO
  refine r_aload_n (pc := 0) dX7_of_0 rfl ?_
  refine r_iload_n (pc := 1) dX7_of_1 rfl ?_
  refine r_callV (pc := 2) (d' := 1) (k := 40) (As := [.int (b)]) (rest := []) dX7_of_2 vX7_isBoard mX7_94 rfl rfl rfl (Nat.le_of_ble_eq_true rfl) (Nat.le_of_ble_eq_true rfl) ?_
  refine c_mboard hM hO ?_
  refine rb_if_ne (pc := 5) (tgt := 10) dX7_of_5 (by decide) (fun c5 => ?_) (fun c5 => ?_)
  · obtain ⟨bj, hbj, rfl, -⟩ := isB_t c5
    refine r_iload_n (pc := 10) dX7_of_10 rfl ?_
    by_cases c11 : (w).toInt < 0 ∨ 8 < (w).toInt
    · refine r_tableOut (pc := 11) (tgt := 129) dX7_of_11 c11 (by decide) ?_
      refine r_bipush (pc := 129) (v := (-2)) dX7_of_129 (by decide) ?_
      refine r_ireturn (pc := 131) dX7_of_131 rfl (Or.inl rfl) rfl ?_
      rw [show sp_of σ (nI bj) w = -2 by rw [sp_of, if_neg (by simp [c5]), if_neg (sw_out c11 (by decide) (by decide) : ¬ w = nI 0), if_neg (sw_out c11 (by decide) (by decide) : ¬ w = nI 1), if_neg (sw_out c11 (by decide) (by decide) : ¬ w = nI 2), if_neg (sw_out c11 (by decide) (by decide) : ¬ w = nI 3), if_neg (sw_out c11 (by decide) (by decide) : ¬ w = nI 4), if_neg (sw_out c11 (by decide) (by decide) : ¬ w = nI 5), if_neg (sw_out c11 (by decide) (by decide) : ¬ w = nI 6), if_neg (sw_out c11 (by decide) (by decide) : ¬ w = nI 7), if_neg (sw_out c11 (by decide) (by decide) : ¬ w = nI 8)]] at h
      exact h _ hM keepX.rf
    · obtain ⟨j1, hj2, e3⟩ := sw_cases (by decide) c11
      rcases (show j1 = 0 ∨ j1 = 1 ∨ j1 = 2 ∨ j1 = 3 ∨ j1 = 4 ∨ j1 = 5 ∨ j1 = 6 ∨ j1 = 7 ∨ j1 = 8 by omega) with rfl | rfl | rfl | rfl | rfl | rfl | rfl | rfl | rfl
      · rw [e3]
        refine r_tableIn (pc := 11) (tgt := 60) (off := 49) dX7_of_11 (by decide) (by decide) (by decide) (by decide) ?_
        refine r_aload_n (pc := 60) dX7_of_60 rfl ?_
        refine r_getR (pc := 61) (r := 41) dX7_of_61 fX7_7 rfl rfl ?_
        refine r_iload_n (pc := 64) dX7_of_64 rfl ?_
        refine r_iald (pc := 65) (x := (nI (σ 1 (bj)))) dX7_of_65 rfl rfl (by omega) (Ms_1 (μ := μ) hM (by omega)) ?_
        have b4 := Ok_b hO (j := bj) (by omega)
        refine r_ireturn (pc := 66) dX7_of_66 rfl (Or.inl rfl) rfl ?_
        rw [show sp_of σ (nI bj) w = (nI (σ 1 (bj))) by rw [e3]; simp (decide := true) [sp_of, c5, bN_nI (show bj < 2 ^ 31 by omega)]] at h
        exact h _ hM keepX.rf
      · rw [e3]
        refine r_tableIn (pc := 11) (tgt := 67) (off := 56) dX7_of_11 (by decide) (by decide) (by decide) (by decide) ?_
        refine r_aload_n (pc := 67) dX7_of_67 rfl ?_
        refine r_getR (pc := 68) (r := 42) dX7_of_68 fX7_13 rfl rfl ?_
        refine r_iload_n (pc := 71) dX7_of_71 rfl ?_
        refine r_iald (pc := 72) (x := (nI (σ 2 (bj)))) dX7_of_72 rfl rfl (by omega) (Ms_2 (μ := μ) hM (by omega)) ?_
        have b5 := Ok_b hO (j := bj) (by omega)
        refine r_ireturn (pc := 73) dX7_of_73 rfl (Or.inl rfl) rfl ?_
        rw [show sp_of σ (nI bj) w = (nI (σ 2 (bj))) by rw [e3]; simp (decide := true) [sp_of, c5, bN_nI (show bj < 2 ^ 31 by omega)]] at h
        exact h _ hM keepX.rf
      · rw [e3]
        refine r_tableIn (pc := 11) (tgt := 74) (off := 63) dX7_of_11 (by decide) (by decide) (by decide) (by decide) ?_
        refine r_aload_n (pc := 74) dX7_of_74 rfl ?_
        refine r_getR (pc := 75) (r := 43) dX7_of_75 fX7_16 rfl rfl ?_
        refine r_iload_n (pc := 78) dX7_of_78 rfl ?_
        refine r_iald (pc := 79) (x := (nI (σ 3 (bj)))) dX7_of_79 rfl rfl (by omega) (Ms_3 (μ := μ) hM (by omega)) ?_
        have b6 := Ok_b hO (j := bj) (by omega)
        refine r_ireturn (pc := 80) dX7_of_80 rfl (Or.inl rfl) rfl ?_
        rw [show sp_of σ (nI bj) w = (nI (σ 3 (bj))) by rw [e3]; simp (decide := true) [sp_of, c5, bN_nI (show bj < 2 ^ 31 by omega)]] at h
        exact h _ hM keepX.rf
      · rw [e3]
        refine r_tableIn (pc := 11) (tgt := 81) (off := 70) dX7_of_11 (by decide) (by decide) (by decide) (by decide) ?_
        refine r_aload_n (pc := 81) dX7_of_81 rfl ?_
        refine r_getR (pc := 82) (r := 44) dX7_of_82 fX7_19 rfl rfl ?_
        refine r_iload_n (pc := 85) dX7_of_85 rfl ?_
        refine r_iald (pc := 86) (x := (nI (σ 4 (bj)))) dX7_of_86 rfl rfl (by omega) (Ms_4 (μ := μ) hM (by omega)) ?_
        have b7 := Ok_b hO (j := bj) (by omega)
        refine r_ireturn (pc := 87) dX7_of_87 rfl (Or.inl rfl) rfl ?_
        rw [show sp_of σ (nI bj) w = (nI (σ 4 (bj))) by rw [e3]; simp (decide := true) [sp_of, c5, bN_nI (show bj < 2 ^ 31 by omega)]] at h
        exact h _ hM keepX.rf
      · rw [e3]
        refine r_tableIn (pc := 11) (tgt := 88) (off := 77) dX7_of_11 (by decide) (by decide) (by decide) (by decide) ?_
        refine r_aload_n (pc := 88) dX7_of_88 rfl ?_
        refine r_getR (pc := 89) (r := 45) dX7_of_89 fX7_22 rfl rfl ?_
        refine r_iload_n (pc := 92) dX7_of_92 rfl ?_
        refine r_iald (pc := 93) (x := (nI (σ 5 (bj)))) dX7_of_93 rfl rfl (by omega) (Ms_5 (μ := μ) hM (by omega)) ?_
        have b8 := Ok_b hO (j := bj) (by omega)
        refine r_ireturn (pc := 94) dX7_of_94 rfl (Or.inl rfl) rfl ?_
        rw [show sp_of σ (nI bj) w = (nI (σ 5 (bj))) by rw [e3]; simp (decide := true) [sp_of, c5, bN_nI (show bj < 2 ^ 31 by omega)]] at h
        exact h _ hM keepX.rf
      · rw [e3]
        refine r_tableIn (pc := 11) (tgt := 95) (off := 84) dX7_of_11 (by decide) (by decide) (by decide) (by decide) ?_
        refine r_aload_n (pc := 95) dX7_of_95 rfl ?_
        refine r_getR (pc := 96) (r := 46) dX7_of_96 fX7_25 rfl rfl ?_
        refine r_iload_n (pc := 99) dX7_of_99 rfl ?_
        refine r_iald (pc := 100) (x := (nI (σ 6 (bj)))) dX7_of_100 rfl rfl (by omega) (Ms_6 (μ := μ) hM (by omega)) ?_
        have b9 := Ok_b hO (j := bj) (by omega)
        refine r_ireturn (pc := 101) dX7_of_101 rfl (Or.inl rfl) rfl ?_
        rw [show sp_of σ (nI bj) w = (nI (σ 6 (bj))) by rw [e3]; simp (decide := true) [sp_of, c5, bN_nI (show bj < 2 ^ 31 by omega)]] at h
        exact h _ hM keepX.rf
      · rw [e3]
        refine r_tableIn (pc := 11) (tgt := 102) (off := 91) dX7_of_11 (by decide) (by decide) (by decide) (by decide) ?_
        refine r_aload_n (pc := 102) dX7_of_102 rfl ?_
        refine r_getR (pc := 103) (r := 47) dX7_of_103 fX7_28 rfl rfl ?_
        refine r_iload_n (pc := 106) dX7_of_106 rfl ?_
        refine r_iald (pc := 107) (x := (nI (σ 7 (bj)))) dX7_of_107 rfl rfl (by omega) (Ms_7 (μ := μ) hM (by omega)) ?_
        have b10 := Ok_b hO (j := bj) (by omega)
        refine r_ireturn (pc := 108) dX7_of_108 rfl (Or.inl rfl) rfl ?_
        rw [show sp_of σ (nI bj) w = (nI (σ 7 (bj))) by rw [e3]; simp (decide := true) [sp_of, c5, bN_nI (show bj < 2 ^ 31 by omega)]] at h
        exact h _ hM keepX.rf
      · rw [e3]
        refine r_tableIn (pc := 11) (tgt := 109) (off := 98) dX7_of_11 (by decide) (by decide) (by decide) (by decide) ?_
        refine r_aload_n (pc := 109) dX7_of_109 rfl ?_
        refine r_iload_n (pc := 110) dX7_of_110 rfl ?_
        refine r_callV (pc := 111) (d' := 1) (k := 40) (As := [.int (nI bj)]) (rest := []) dX7_of_111 vX7_isOpen mX7_97 rfl rfl rfl (Nat.le_of_ble_eq_true rfl) (Nat.le_of_ble_eq_true rfl) ?_
        refine c_mopen (μ := μ) hM hO (by omega) ?_
        refine rb_if_eq (pc := 114) (tgt := 121) dX7_of_114 (by decide) (fun c114 => ?_) (fun c114 => ?_)
        · refine r_iconst (pc := 121) (v := (nI (0))) dX7_of_121 (by decide) ?_
          refine r_ireturn (pc := 122) dX7_of_122 rfl (Or.inl rfl) rfl ?_
          rw [show sp_of σ (nI bj) w = (nI (0)) by rw [e3]; simp (decide := true) [sp_of, c5, bN_nI (show bj < 2 ^ 31 by omega), c114, b2i]] at h
          exact h _ hM keepX.rf
        · refine r_iconst (pc := 117) (v := (nI (1))) dX7_of_117 (by decide) ?_
          refine r_goto (pc := 118) (tgt := 122) dX7_of_118 (by decide) ?_
          refine r_ireturn (pc := 122) dX7_of_122 rfl (Or.inl rfl) rfl ?_
          rw [show sp_of σ (nI bj) w = (nI (1)) by rw [e3]; simp (decide := true) [sp_of, c5, bN_nI (show bj < 2 ^ 31 by omega), c114, b2i]] at h
          exact h _ hM keepX.rf
      · rw [e3]
        refine r_tableIn (pc := 11) (tgt := 123) (off := 112) dX7_of_11 (by decide) (by decide) (by decide) (by decide) ?_
        refine r_aload_n (pc := 123) dX7_of_123 rfl ?_
        refine r_iload_n (pc := 124) dX7_of_124 rfl ?_
        refine r_callV (pc := 125) (d' := 0) (k := 40) (As := [.int (nI bj)]) (rest := []) dX7_of_125 vX7_upper mX7_100 rfl rfl rfl (Nat.le_of_ble_eq_true rfl) (Nat.le_of_ble_eq_true rfl) ?_
        refine c_mupper (μ := μ) hM hO (by omega) ?_
        refine r_ireturn (pc := 128) dX7_of_128 rfl (Or.inl rfl) rfl ?_
        rw [show sp_of σ (nI bj) w = (nI (upR (σ 4 (bj)) (σ 0 1))) by rw [e3]; simp (decide := true) [sp_of, c5, bN_nI (show bj < 2 ^ 31 by omega)]] at h
        exact h _ hM keepX.rf
  · refine r_iconst (pc := 8) (v := (-1)) dX7_of_8 (by decide) ?_
    refine r_ireturn (pc := 9) dX7_of_9 rfl (Or.inl rfl) rfl ?_
    rw [show sp_of σ b w = -1 by simp [sp_of, c5]] at h
    exact h _ hM keepX.rf

set_option maxRecDepth 20000 in
set_option maxHeartbeats 4000000 in
theorem c_mhour {μ : Mem} {v : Int32} {Q : Option Value → Mem → Prop} (h : Q (some (.int (b2i (inR v (nI 0) (nI 99))))) μ) : Sp iX7_isHour 1 [.int (v)] μ Q := by
  refine Sp.of sX7_isHour.1 (Nat.le_of_ble_eq_true rfl) ?_
  show WP cX7_isHour (RX7, 1, (some .boolean), 1, none) 0 [(0, .int (v))] [] μ Q
  refine r_iload_n (pc := 0) dX7_isHour_0 rfl ?_
  refine r_iconst (pc := 1) (v := (nI (0))) dX7_isHour_1 (by decide) ?_
  refine r_bipush (pc := 2) (v := (nI (99))) dX7_isHour_2 (by decide) ?_
  refine r_callS (pc := 4) (d' := 0) (As := [.int (v), .int (nI 0), .int (nI 99)]) (rest := []) dX7_isHour_4 sX7_in mX7_77 rfl rfl (Nat.le_of_ble_eq_true rfl) (Nat.le_of_ble_eq_true rfl) ?_
  refine c_in ?_
  refine r_ireturn (pc := 7) dX7_isHour_7 rfl (Or.inr rfl) (b2i_nar _) ?_
  exact h

set_option maxRecDepth 20000 in
set_option maxHeartbeats 4000000 in
theorem m_wipe {μ : Mem} {σ : Sg} {Q : Option Value → Mem → Prop} (hM : Ms μ σ) (hO : Ok σ) (h : ∀ μ', Ms μ' (sp_wipe σ).2 → keepX μ μ' → Q (some (.int (sp_wipe σ).1)) μ') : Sp iX7_wipe 0 [.ref 40] μ Q := by
  refine Sp.of vX7_wipe.1 (Nat.le_of_ble_eq_true rfl) ?_
  show WP cX7_wipe (RX7, 2, (some .int), 0, none) 0 [(0, .ref 40)] [] μ Q
  have hn := Ok_n hO
  refine r_aload_n (pc := 0) dX7_wipe_0 rfl ?_
  refine r_getI (pc := 1) (x := (nI (σ 0 4))) dX7_wipe_1 fX7_107 rfl rfl (Ms_sn (μ := μ) hM) ?_
  refine r_istore_n (pc := 4) (ls' := [(0, .ref 40), (1, .int (nI (σ 0 4)))]) dX7_wipe_4 (Nat.le_of_ble_eq_true rfl) rfl ?_
  refine r_aload_n (pc := 5) dX7_wipe_5 rfl ?_
  refine r_iconst (pc := 6) (v := (nI (0))) dX7_wipe_6 (by decide) ?_
  refine r_putI (pc := 7) dX7_wipe_7 gX7_107 rfl rfl rfl rfl ?_
  refine r_iload_n (pc := 10) dX7_wipe_10 rfl ?_
  refine r_ireturn (pc := 11) dX7_wipe_11 rfl (Or.inl rfl) rfl ?_
  exact h _ (Ms_w hM) ((keepX.I keepX.rf (by decide)))

set_option maxRecDepth 20000 in
set_option maxHeartbeats 4000000 in
theorem m_worth {μ : Mem} {σ : Sg} {c v : Int32} {Q : Option Value → Mem → Prop} (hM : Ms μ σ) (hO : Ok σ) (h : ∀ μ', Ms μ' (sp_worth σ c v).2 → keepX μ μ' → Q (some (.int (sp_worth σ c v).1)) μ') : Sp iX7_worth 2 [.ref 40, .int (c), .int (v)] μ Q := by
  refine Sp.of vX7_worth.1 (Nat.le_of_ble_eq_true rfl) ?_
  show WP cX7_worth (RX7, 4, (some .int), 2, none) 0 [(0, .ref 40), (1, .int (c)), (2, .int (v))] [] μ Q
  have hn := Ok_n hO
  refine r_iload_n (pc := 0) dX7_worth_0 rfl ?_
  refine r_callS (pc := 1) (d' := 1) (As := [.int (c)]) (rest := []) dX7_worth_1 sX7_isCoin mX7_86 rfl rfl (Nat.le_of_ble_eq_true rfl) (Nat.le_of_ble_eq_true rfl) ?_
  refine c_mcoin ?_
  refine rb_if_ne (pc := 4) (tgt := 9) dX7_worth_4 (by decide) (fun c4 => ?_) (fun c4 => ?_)
  · obtain ⟨cj, hcj, rfl, -⟩ := isB_t c4
    refine r_iload_n (pc := 9) dX7_worth_9 rfl ?_
    refine r_iconst (pc := 10) (v := (nI (1))) dX7_worth_10 (by decide) ?_
    refine r_ldc (pc := 11) dX7_worth_11 kX7_85 ?_
    refine r_eqi (y := nI 1000000) (by decide) ?_
    refine r_callS (pc := 13) (d' := 0) (As := [.int (v), .int (nI 1), .int (nI 1000000)]) (rest := []) dX7_worth_13 sX7_in mX7_77 rfl rfl (Nat.le_of_ble_eq_true rfl) (Nat.le_of_ble_eq_true rfl) ?_
    refine c_in ?_
    refine rb_if_ne (pc := 16) (tgt := 22) dX7_worth_16 (by decide) (fun c16 => ?_) (fun c16 => ?_)
    · obtain ⟨vj, hv1, hv2, rfl⟩ := inR_t (by decide) (by decide) c16
      refine r_aload_n (pc := 22) dX7_worth_22 rfl ?_
      refine r_getR (pc := 23) (r := 50) dX7_worth_23 fX7_37 rfl rfl ?_
      refine r_iload_n (pc := 26) dX7_worth_26 rfl ?_
      refine r_iald (pc := 27) (x := (nI (σ 9 (cj)))) dX7_worth_27 rfl rfl (by omega) (Ms_9 (μ := μ) hM (by omega)) ?_
      have b1 := Ok_w hO (j := cj) (by omega)
      refine r_istore_n (pc := 28) (ls' := [(0, .ref 40), (1, .int (nI cj)), (2, .int (nI vj)), (3, .int (nI (σ 9 (cj))))]) dX7_worth_28 (Nat.le_of_ble_eq_true rfl) rfl ?_
      refine r_aload_n (pc := 29) dX7_worth_29 rfl ?_
      refine r_getR (pc := 30) (r := 50) dX7_worth_30 fX7_37 rfl rfl ?_
      refine r_iload_n (pc := 33) dX7_worth_33 rfl ?_
      refine r_iload_n (pc := 34) dX7_worth_34 rfl ?_
      refine r_iast (pc := 35) dX7_worth_35 rfl rfl (by omega) ?_
      refine r_iload_n (pc := 36) dX7_worth_36 rfl ?_
      refine r_ireturn (pc := 37) dX7_worth_37 rfl (Or.inl rfl) rfl ?_
      have e9 : sp_worth σ (nI cj) (nI vj) = ((nI (σ 9 (cj))), su σ 9 cj vj) := by
        simp [sp_worth, c4, c16, bN_nI (show cj < 2 ^ 31 by omega), bN_nI (show vj < 2 ^ 31 by omega)]
      rw [e9] at h
      exact h _ (Ms_s9 hM) ((keepX.I keepX.rf (by decide)))
    · refine r_bipush (pc := 19) (v := (-2)) dX7_worth_19 (by decide) ?_
      refine r_ireturn (pc := 21) dX7_worth_21 rfl (Or.inl rfl) rfl ?_
      have e9 : sp_worth σ (nI cj) v = ((-2), σ) := by
        simp [sp_worth, c4, c16]
      rw [e9] at h
      exact h _ hM (keepX.rf)
  · refine r_iconst (pc := 7) (v := (-1)) dX7_worth_7 (by decide) ?_
    refine r_ireturn (pc := 8) dX7_worth_8 rfl (Or.inl rfl) rfl ?_
    have e9 : sp_worth σ c v = ((-1), σ) := by
      simp [sp_worth, c4]
    rw [e9] at h
    exact h _ hM (keepX.rf)

set_option maxRecDepth 20000 in
set_option maxHeartbeats 4000000 in
theorem m_say {μ : Mem} {σ : Sg} {v : Int32} {Q : Option Value → Mem → Prop} (hM : Ms μ σ) (hO : Ok σ) (h : ∀ μ', Ms μ' (sp_say σ v).2 → keepX μ μ' → Q (some (.int (sp_say σ v).1)) μ') : Sp iX7_say 1 [.ref 40, .int (v)] μ Q := by
  refine Sp.of vX7_say.1 (Nat.le_of_ble_eq_true rfl) ?_
  show WP cX7_say (RX7, 2, (some .int), 1, none) 0 [(0, .ref 40), (1, .int (v))] [] μ Q
  have hn := Ok_n hO
  refine r_iload_n (pc := 0) dX7_say_0 rfl ?_
  refine r_bipush (pc := 1) (v := (nI (33))) dX7_say_1 (by decide) ?_
  refine r_bipush (pc := 3) (v := (nI (126))) dX7_say_3 (by decide) ?_
  refine r_callS (pc := 5) (d' := 0) (As := [.int (v), .int (nI 33), .int (nI 126)]) (rest := []) dX7_say_5 sX7_in mX7_77 rfl rfl (Nat.le_of_ble_eq_true rfl) (Nat.le_of_ble_eq_true rfl) ?_
  refine c_in ?_
  refine rb_if_ne (pc := 8) (tgt := 14) dX7_say_8 (by decide) (fun c8 => ?_) (fun c8 => ?_)
  · obtain ⟨vj, hv1, hv2, rfl⟩ := inR_t (by decide) (by decide) c8
    refine r_aload_n (pc := 14) dX7_say_14 rfl ?_
    refine r_getI (pc := 15) (x := (nI (σ 0 4))) dX7_say_15 fX7_107 rfl rfl (Ms_sn (μ := μ) hM) ?_
    refine r_bipush (pc := 18) (v := (nI (80))) dX7_say_18 (by decide) ?_
    refine rn_icmp_ne (pc := 20) (tgt := 26) dX7_say_20 (by decide) (by omega) (by omega) (fun c20 => ?_) (fun c20 => ?_)
    · refine r_aload_n (pc := 26) dX7_say_26 rfl ?_
      refine r_getR (pc := 27) (r := 49) dX7_say_27 fX7_34 rfl rfl ?_
      refine r_aload_n (pc := 30) dX7_say_30 rfl ?_
      refine r_getI (pc := 31) (x := (nI (σ 0 4))) dX7_say_31 fX7_107 rfl rfl (Ms_sn (μ := μ) hM) ?_
      refine r_iload_n (pc := 34) dX7_say_34 rfl ?_
      refine r_iast (pc := 35) dX7_say_35 rfl rfl (by omega) ?_
      refine r_aload_n (pc := 36) dX7_say_36 rfl ?_
      refine r_dup_r (pc := 37) dX7_say_37 ?_
      refine r_getI (pc := 38) (x := (nI (σ 0 4))) dX7_say_38 fX7_107 rfl rfl (Ms_sn (μ := μ) hM) ?_
      refine r_iconst (pc := 41) (v := (nI (1))) dX7_say_41 (by decide) ?_
      refine rn_iadd (pc := 42) dX7_say_42 ?_
      refine r_putI (pc := 43) dX7_say_43 gX7_107 rfl rfl rfl rfl ?_
      refine r_aload_n (pc := 46) dX7_say_46 rfl ?_
      refine r_getI (pc := 47) (x := (nI (σ 0 4 + 1))) dX7_say_47 fX7_107 rfl rfl rfl ?_
      refine r_ireturn (pc := 50) dX7_say_50 rfl (Or.inl rfl) rfl ?_
      have e9 : sp_say σ (nI vj) = ((nI (σ 0 4 + 1)), su (su σ 8 (σ 0 4) vj) 0 4 (σ 0 4 + 1)) := by
        simp [sp_say, c8, c20, bN_nI (show vj < 2 ^ 31 by omega)]
      rw [e9] at h
      exact h _ (Ms_say hM) ((keepX.I (keepX.I keepX.rf (by decide)) (by decide)))
    · refine r_bipush (pc := 23) (v := (-4)) dX7_say_23 (by decide) ?_
      refine r_ireturn (pc := 25) dX7_say_25 rfl (Or.inl rfl) rfl ?_
      have e9 : sp_say σ (nI vj) = ((-4), σ) := by
        simp [sp_say, c8, c20]
      rw [e9] at h
      exact h _ hM (keepX.rf)
  · refine r_bipush (pc := 11) (v := (-2)) dX7_say_11 (by decide) ?_
    refine r_ireturn (pc := 13) dX7_say_13 rfl (Or.inl rfl) rfl ?_
    have e9 : sp_say σ v = ((-2), σ) := by
      simp [sp_say, c8]
    rw [e9] at h
    exact h _ hM (keepX.rf)

set_option maxRecDepth 20000 in
set_option maxHeartbeats 4000000 in
theorem m_change {μ : Mem} {σ : Sg} {b w v : Int32} {Q : Option Value → Mem → Prop} (hM : Ms μ σ) (hO : Ok σ) (h : ∀ μ', Ms μ' (sp_change σ b w v).2 → keepX μ μ' → Q (some (.int (sp_change σ b w v).1)) μ') : Sp iX7_change 2 [.ref 40, .int (b), .int (w), .int (v)] μ Q := by
  refine Sp.of vX7_change.1 (Nat.le_of_ble_eq_true rfl) ?_
  show WP cX7_change (RX7, 5, (some .int), 2, none) 0 [(0, .ref 40), (1, .int (b)), (2, .int (w)), (3, .int (v))] [] μ Q
  have hn := Ok_n hO
  refine r_aload_n (pc := 0) dX7_change_0 rfl ?_
  refine r_iload_n (pc := 1) dX7_change_1 rfl ?_
  refine r_callV (pc := 2) (d' := 1) (k := 40) (As := [.int (b)]) (rest := []) dX7_change_2 vX7_isBoard mX7_94 rfl rfl rfl (Nat.le_of_ble_eq_true rfl) (Nat.le_of_ble_eq_true rfl) ?_
  refine c_mboard hM hO ?_
  refine rb_if_ne (pc := 5) (tgt := 10) dX7_change_5 (by decide) (fun c5 => ?_) (fun c5 => ?_)
  · obtain ⟨bj, hbj, rfl, -⟩ := isB_t c5
    refine r_iload_n (pc := 10) dX7_change_10 rfl ?_
    refine r_iconst (pc := 11) (v := (nI (0))) dX7_change_11 (by decide) ?_
    refine r_iconst (pc := 12) (v := (nI (1))) dX7_change_12 (by decide) ?_
    refine r_callS (pc := 13) (d' := 0) (As := [.int (w), .int (nI 0), .int (nI 1)]) (rest := []) dX7_change_13 sX7_in mX7_77 rfl rfl (Nat.le_of_ble_eq_true rfl) (Nat.le_of_ble_eq_true rfl) ?_
    refine c_in ?_
    refine rb_if_eq (pc := 16) (tgt := 38) dX7_change_16 (by decide) (fun c16 => ?_) (fun c16 => ?_)
    · refine r_bipush (pc := 38) (v := (-2)) dX7_change_38 (by decide) ?_
      refine r_ireturn (pc := 40) dX7_change_40 rfl (Or.inl rfl) rfl ?_
      have e9 : sp_change σ (nI bj) w v = ((-2), σ) := by
        simp (decide := true) [sp_change, c5, c16]
      rw [e9] at h
      exact h _ hM (keepX.rf)
    · obtain ⟨wj, hw1, hw2, rfl⟩ := inR_t (by decide) (by decide) c16
      rcases (show wj = 0 ∨ wj = 1 by omega) with rfl | rfl
      · refine r_iload_n (pc := 19) dX7_change_19 rfl ?_
        refine r_iconst (pc := 20) (v := (nI (1))) dX7_change_20 (by decide) ?_
        refine r_iload_n (pc := 21) dX7_change_21 rfl ?_
        refine rn_if_ne (pc := 22) (tgt := 30) dX7_change_22 (by decide) (by omega) (fun c22 => ?_) (fun c22 => ?_)
        · exact absurd rfl c22
        · refine r_bipush (pc := 25) (v := (nI (99))) dX7_change_25 (by decide) ?_
          refine r_goto (pc := 27) (tgt := 32) dX7_change_27 (by decide) ?_
          refine r_callS (pc := 32) (d' := 0) (As := [.int (v), .int (nI 1), .int (nI 99)]) (rest := []) dX7_change_32 sX7_in mX7_77 rfl rfl (Nat.le_of_ble_eq_true rfl) (Nat.le_of_ble_eq_true rfl) ?_
          refine c_in ?_
          refine rb_if_ne (pc := 35) (tgt := 41) dX7_change_35 (by decide) (fun c35 => ?_) (fun c35 => ?_)
          · obtain ⟨vj, hv1, hv2, rfl⟩ := inR_t (by decide) (by decide) c35
            refine r_iload_n (pc := 41) dX7_change_41 rfl ?_
            refine rn_if_ne (pc := 42) (tgt := 54) dX7_change_42 (by decide) (by omega) (fun c42 => ?_) (fun c42 => ?_)
            · exact absurd rfl c42
            · refine r_aload_n (pc := 45) dX7_change_45 rfl ?_
              refine r_getR (pc := 46) (r := 44) dX7_change_46 fX7_19 rfl rfl ?_
              refine r_iload_n (pc := 49) dX7_change_49 rfl ?_
              refine r_iald (pc := 50) (x := (nI (σ 4 (bj)))) dX7_change_50 rfl rfl (by omega) (Ms_4 (μ := μ) hM (by omega)) ?_
              have b1 := Ok_b hO (j := bj) (by omega)
              refine r_goto (pc := 51) (tgt := 60) dX7_change_51 (by decide) ?_
              refine r_istore (pc := 60) (ls' := [(0, .ref 40), (1, .int (nI bj)), (2, .int (nI 0)), (3, .int (nI vj)), (4, .int (nI (σ 4 (bj))))]) dX7_change_60 (Nat.le_of_ble_eq_true rfl) rfl ?_
              refine r_iload_n (pc := 62) dX7_change_62 rfl ?_
              refine rn_if_ne (pc := 63) (tgt := 76) dX7_change_63 (by decide) (by omega) (fun c63 => ?_) (fun c63 => ?_)
              · exact absurd rfl c63
              · refine r_aload_n (pc := 66) dX7_change_66 rfl ?_
                refine r_getR (pc := 67) (r := 44) dX7_change_67 fX7_19 rfl rfl ?_
                refine r_iload_n (pc := 70) dX7_change_70 rfl ?_
                refine r_iload_n (pc := 71) dX7_change_71 rfl ?_
                refine r_iast (pc := 72) dX7_change_72 rfl rfl (by omega) ?_
                refine r_goto (pc := 73) (tgt := 83) dX7_change_73 (by decide) ?_
                refine r_iload (pc := 83) dX7_change_83 rfl ?_
                refine r_ireturn (pc := 85) dX7_change_85 rfl (Or.inl rfl) rfl ?_
                have e9 : sp_change σ (nI bj) (nI (0)) (nI vj) = ((nI (σ 4 (bj))), su σ 4 bj vj) := by
                  simp (decide := true) [sp_change, c5, c16, c35, bN_nI (show bj < 2 ^ 31 by omega), bN_nI (show vj < 2 ^ 31 by omega)]
                rw [e9] at h
                exact h _ (Ms_s4 hM) ((keepX.I keepX.rf (by decide)))
          · refine r_bipush (pc := 38) (v := (-2)) dX7_change_38 (by decide) ?_
            refine r_ireturn (pc := 40) dX7_change_40 rfl (Or.inl rfl) rfl ?_
            have e9 : sp_change σ (nI bj) (nI (0)) v = ((-2), σ) := by
              simp (decide := true) [sp_change, c5, c16, c35]
            rw [e9] at h
            exact h _ hM (keepX.rf)
      · refine r_iload_n (pc := 19) dX7_change_19 rfl ?_
        refine r_iconst (pc := 20) (v := (nI (1))) dX7_change_20 (by decide) ?_
        refine r_iload_n (pc := 21) dX7_change_21 rfl ?_
        refine rn_if_ne (pc := 22) (tgt := 30) dX7_change_22 (by decide) (by omega) (fun c22 => ?_) (fun c22 => ?_)
        · refine r_ldc (pc := 30) dX7_change_30 kX7_85 ?_
          refine r_eqi (y := nI 1000000) (by decide) ?_
          refine r_callS (pc := 32) (d' := 0) (As := [.int (v), .int (nI 1), .int (nI 1000000)]) (rest := []) dX7_change_32 sX7_in mX7_77 rfl rfl (Nat.le_of_ble_eq_true rfl) (Nat.le_of_ble_eq_true rfl) ?_
          refine c_in ?_
          refine rb_if_ne (pc := 35) (tgt := 41) dX7_change_35 (by decide) (fun c35 => ?_) (fun c35 => ?_)
          · obtain ⟨vj, hv1, hv2, rfl⟩ := inR_t (by decide) (by decide) c35
            refine r_iload_n (pc := 41) dX7_change_41 rfl ?_
            refine rn_if_ne (pc := 42) (tgt := 54) dX7_change_42 (by decide) (by omega) (fun c42 => ?_) (fun c42 => ?_)
            · refine r_aload_n (pc := 54) dX7_change_54 rfl ?_
              refine r_getR (pc := 55) (r := 47) dX7_change_55 fX7_28 rfl rfl ?_
              refine r_iload_n (pc := 58) dX7_change_58 rfl ?_
              refine r_iald (pc := 59) (x := (nI (σ 7 (bj)))) dX7_change_59 rfl rfl (by omega) (Ms_7 (μ := μ) hM (by omega)) ?_
              have b2 := Ok_b hO (j := bj) (by omega)
              refine r_istore (pc := 60) (ls' := [(0, .ref 40), (1, .int (nI bj)), (2, .int (nI 1)), (3, .int (nI vj)), (4, .int (nI (σ 7 (bj))))]) dX7_change_60 (Nat.le_of_ble_eq_true rfl) rfl ?_
              refine r_iload_n (pc := 62) dX7_change_62 rfl ?_
              refine rn_if_ne (pc := 63) (tgt := 76) dX7_change_63 (by decide) (by omega) (fun c63 => ?_) (fun c63 => ?_)
              · refine r_aload_n (pc := 76) dX7_change_76 rfl ?_
                refine r_getR (pc := 77) (r := 47) dX7_change_77 fX7_28 rfl rfl ?_
                refine r_iload_n (pc := 80) dX7_change_80 rfl ?_
                refine r_iload_n (pc := 81) dX7_change_81 rfl ?_
                refine r_iast (pc := 82) dX7_change_82 rfl rfl (by omega) ?_
                refine r_iload (pc := 83) dX7_change_83 rfl ?_
                refine r_ireturn (pc := 85) dX7_change_85 rfl (Or.inl rfl) rfl ?_
                have e9 : sp_change σ (nI bj) (nI (1)) (nI vj) = ((nI (σ 7 (bj))), su σ 7 bj vj) := by
                  simp (decide := true) [sp_change, c5, c16, c35, bN_nI (show bj < 2 ^ 31 by omega), bN_nI (show vj < 2 ^ 31 by omega)]
                rw [e9] at h
                exact h _ (Ms_s7 hM) ((keepX.I keepX.rf (by decide)))
              · exact absurd c63 (by decide)
            · exact absurd c42 (by decide)
          · refine r_bipush (pc := 38) (v := (-2)) dX7_change_38 (by decide) ?_
            refine r_ireturn (pc := 40) dX7_change_40 rfl (Or.inl rfl) rfl ?_
            have e9 : sp_change σ (nI bj) (nI (1)) v = ((-2), σ) := by
              simp (decide := true) [sp_change, c5, c16, c35]
            rw [e9] at h
            exact h _ hM (keepX.rf)
        · exact absurd c22 (by decide)
  · refine r_iconst (pc := 8) (v := (-1)) dX7_change_8 (by decide) ?_
    refine r_ireturn (pc := 9) dX7_change_9 rfl (Or.inl rfl) rfl ?_
    have e9 : sp_change σ b w v = ((-1), σ) := by
      simp (decide := true) [sp_change, c5]
    rw [e9] at h
    exact h _ hM (keepX.rf)

set_option maxRecDepth 20000 in
set_option maxHeartbeats 4000000 in
theorem m_hours {μ : Mem} {σ : Sg} {b f t : Int32} {Q : Option Value → Mem → Prop} (hM : Ms μ σ) (hO : Ok σ) (h : ∀ μ', Ms μ' (sp_hours σ b f t).2 → keepX μ μ' → Q (some (.int (sp_hours σ b f t).1)) μ') : Sp iX7_hours 2 [.ref 40, .int (b), .int (f), .int (t)] μ Q := by
  refine Sp.of vX7_hours.1 (Nat.le_of_ble_eq_true rfl) ?_
  show WP cX7_hours (RX7, 4, (some .int), 2, none) 0 [(0, .ref 40), (1, .int (b)), (2, .int (f)), (3, .int (t))] [] μ Q
  have hn := Ok_n hO
  refine r_aload_n (pc := 0) dX7_hours_0 rfl ?_
  refine r_iload_n (pc := 1) dX7_hours_1 rfl ?_
  refine r_callV (pc := 2) (d' := 1) (k := 40) (As := [.int (b)]) (rest := []) dX7_hours_2 vX7_isBoard mX7_94 rfl rfl rfl (Nat.le_of_ble_eq_true rfl) (Nat.le_of_ble_eq_true rfl) ?_
  refine c_mboard hM hO ?_
  refine rb_if_ne (pc := 5) (tgt := 10) dX7_hours_5 (by decide) (fun c5 => ?_) (fun c5 => ?_)
  · obtain ⟨bj, hbj, rfl, -⟩ := isB_t c5
    refine r_iload_n (pc := 10) dX7_hours_10 rfl ?_
    refine r_callS (pc := 11) (d' := 1) (As := [.int (f)]) (rest := []) dX7_hours_11 sX7_isHour mX7_104 rfl rfl (Nat.le_of_ble_eq_true rfl) (Nat.le_of_ble_eq_true rfl) ?_
    refine c_mhour ?_
    refine rb_if_eq (pc := 14) (tgt := 29) dX7_hours_14 (by decide) (fun c14 => ?_) (fun c14 => ?_)
    · refine r_bipush (pc := 29) (v := (-2)) dX7_hours_29 (by decide) ?_
      refine r_ireturn (pc := 31) dX7_hours_31 rfl (Or.inl rfl) rfl ?_
      have e9 : sp_hours σ (nI bj) f t = ((-2), σ) := by
        simp [sp_hours, c5, c14]
      rw [e9] at h
      exact h _ hM (keepX.rf)
    · obtain ⟨fj, hf1, hf2, rfl⟩ := inR_t (by decide) (by decide) c14
      refine r_iload_n (pc := 17) dX7_hours_17 rfl ?_
      refine r_callS (pc := 18) (d' := 1) (As := [.int (t)]) (rest := []) dX7_hours_18 sX7_isHour mX7_104 rfl rfl (Nat.le_of_ble_eq_true rfl) (Nat.le_of_ble_eq_true rfl) ?_
      refine c_mhour ?_
      refine rb_if_eq (pc := 21) (tgt := 29) dX7_hours_21 (by decide) (fun c21 => ?_) (fun c21 => ?_)
      · refine r_bipush (pc := 29) (v := (-2)) dX7_hours_29 (by decide) ?_
        refine r_ireturn (pc := 31) dX7_hours_31 rfl (Or.inl rfl) rfl ?_
        have e9 : sp_hours σ (nI bj) (nI fj) t = ((-2), σ) := by
          simp [sp_hours, c5, c14, c21]
        rw [e9] at h
        exact h _ hM (keepX.rf)
      · obtain ⟨tj, ht1, ht2, rfl⟩ := inR_t (by decide) (by decide) c21
        refine r_iload_n (pc := 24) dX7_hours_24 rfl ?_
        refine r_iload_n (pc := 25) dX7_hours_25 rfl ?_
        refine rn_icmp_le (pc := 26) (tgt := 32) dX7_hours_26 (by decide) (by omega) (by omega) (fun c26 => ?_) (fun c26 => ?_)
        · refine r_aload_n (pc := 32) dX7_hours_32 rfl ?_
          refine r_getR (pc := 33) (r := 45) dX7_hours_33 fX7_22 rfl rfl ?_
          refine r_iload_n (pc := 36) dX7_hours_36 rfl ?_
          refine r_iload_n (pc := 37) dX7_hours_37 rfl ?_
          refine r_iast (pc := 38) dX7_hours_38 rfl rfl (by omega) ?_
          refine r_aload_n (pc := 39) dX7_hours_39 rfl ?_
          refine r_getR (pc := 40) (r := 46) dX7_hours_40 fX7_25 rfl rfl ?_
          refine r_iload_n (pc := 43) dX7_hours_43 rfl ?_
          refine r_iload_n (pc := 44) dX7_hours_44 rfl ?_
          refine r_iast (pc := 45) dX7_hours_45 rfl rfl (by omega) ?_
          refine r_iconst (pc := 46) (v := (nI (1))) dX7_hours_46 (by decide) ?_
          refine r_ireturn (pc := 47) dX7_hours_47 rfl (Or.inl rfl) rfl ?_
          have e9 : sp_hours σ (nI bj) (nI fj) (nI tj) = ((nI (1)), su (su σ 5 bj fj) 6 bj tj) := by
            simp [sp_hours, c5, c14, c21, c26, nI_toInt (show fj < 2 ^ 31 by omega), nI_toInt (show tj < 2 ^ 31 by omega), bN_nI (show bj < 2 ^ 31 by omega), bN_nI (show fj < 2 ^ 31 by omega), bN_nI (show tj < 2 ^ 31 by omega)]
            try rfl
          rw [e9] at h
          exact h _ (Ms_s6 (Ms_s5 hM)) ((keepX.I (keepX.I keepX.rf (by decide)) (by decide)))
        · refine r_bipush (pc := 29) (v := (-2)) dX7_hours_29 (by decide) ?_
          refine r_ireturn (pc := 31) dX7_hours_31 rfl (Or.inl rfl) rfl ?_
          have e9 : sp_hours σ (nI bj) (nI fj) (nI tj) = ((-2), σ) := by
            simp [sp_hours, c5, c14, c21, c26, nI_toInt (show fj < 2 ^ 31 by omega), nI_toInt (show tj < 2 ^ 31 by omega)]
            try omega
          rw [e9] at h
          exact h _ hM (keepX.rf)
  · refine r_iconst (pc := 8) (v := (-1)) dX7_hours_8 (by decide) ?_
    refine r_ireturn (pc := 9) dX7_hours_9 rfl (Or.inl rfl) rfl ?_
    have e9 : sp_hours σ b f t = ((-1), σ) := by
      simp [sp_hours, c5]
    rw [e9] at h
    exact h _ hM (keepX.rf)

set_option maxRecDepth 20000 in
set_option maxHeartbeats 4000000 in
theorem m_set {μ : Mem} {σ : Sg} {w v : Int32} {Q : Option Value → Mem → Prop} (hM : Ms μ σ) (hO : Ok σ) (h : ∀ μ', Ms μ' (sp_set σ w v).2 → keepX μ μ' → Q (some (.int (sp_set σ w v).1)) μ') : Sp iX7_set 1 [.ref 40, .int (w), .int (v)] μ Q := by
  refine Sp.of vX7_set.1 (Nat.le_of_ble_eq_true rfl) ?_
  show WP cX7_set (RX7, 4, (some .int), 1, none) 0 [(0, .ref 40), (1, .int (w)), (2, .int (v))] [] μ Q
  have hn := Ok_n hO
  refine r_iload_n (pc := 0) dX7_set_0 rfl ?_
  refine r_iconst (pc := 1) (v := (nI (0))) dX7_set_1 (by decide) ?_
  refine r_iconst (pc := 2) (v := (nI (2))) dX7_set_2 (by decide) ?_
  refine r_callS (pc := 3) (d' := 0) (As := [.int (w), .int (nI 0), .int (nI 2)]) (rest := []) dX7_set_3 sX7_in mX7_77 rfl rfl (Nat.le_of_ble_eq_true rfl) (Nat.le_of_ble_eq_true rfl) ?_
  refine c_in ?_
  refine rb_if_ne (pc := 6) (tgt := 12) dX7_set_6 (by decide) (fun c6 => ?_) (fun c6 => ?_)
  · obtain ⟨wj, hw1, hw2, rfl⟩ := inR_t (by decide) (by decide) c6
    rcases (show wj = 0 ∨ wj = 1 ∨ wj = 2 by omega) with rfl | rfl | rfl
    · refine r_iload_n (pc := 12) dX7_set_12 rfl ?_
      refine r_iload_n (pc := 13) dX7_set_13 rfl ?_
      refine r_iconst (pc := 14) (v := (nI (2))) dX7_set_14 (by decide) ?_
      refine rn_icmp_ne (pc := 15) (tgt := 22) dX7_set_15 (by decide) (by omega) (by omega) (fun c15 => ?_) (fun c15 => ?_)
      · refine r_iconst (pc := 22) (v := (nI (0))) dX7_set_22 (by decide) ?_
        refine r_iload_n (pc := 23) dX7_set_23 rfl ?_
        refine r_iconst (pc := 24) (v := (nI (1))) dX7_set_24 (by decide) ?_
        refine rn_icmp_ne (pc := 25) (tgt := 33) dX7_set_25 (by decide) (by omega) (by omega) (fun c25 => ?_) (fun c25 => ?_)
        · refine r_bipush (pc := 33) (v := (nI (98))) dX7_set_33 (by decide) ?_
          refine r_callS (pc := 35) (d' := 0) (As := [.int (v), .int (nI 0), .int (nI 98)]) (rest := []) dX7_set_35 sX7_in mX7_77 rfl rfl (Nat.le_of_ble_eq_true rfl) (Nat.le_of_ble_eq_true rfl) ?_
          refine c_in ?_
          refine rb_if_ne (pc := 38) (tgt := 44) dX7_set_38 (by decide) (fun c38 => ?_) (fun c38 => ?_)
          · obtain ⟨vj, hv1, hv2, rfl⟩ := inR_t (by decide) (by decide) c38
            refine r_aload_n (pc := 44) dX7_set_44 rfl ?_
            refine r_getR (pc := 45) (r := 48) dX7_set_45 fX7_31 rfl rfl ?_
            refine r_iload_n (pc := 48) dX7_set_48 rfl ?_
            refine r_iald (pc := 49) (x := (nI (σ 0 1))) dX7_set_49 rfl rfl (by omega) (Ms_fee (μ := μ) hM) ?_
            refine r_istore_n (pc := 50) (ls' := [(0, .ref 40), (1, .int (nI 0)), (2, .int (nI vj)), (3, .int (nI (σ 0 1)))]) dX7_set_50 (Nat.le_of_ble_eq_true rfl) rfl ?_
            refine r_aload_n (pc := 51) dX7_set_51 rfl ?_
            refine r_getR (pc := 52) (r := 48) dX7_set_52 fX7_31 rfl rfl ?_
            refine r_iload_n (pc := 55) dX7_set_55 rfl ?_
            refine r_iload_n (pc := 56) dX7_set_56 rfl ?_
            refine r_iast (pc := 57) dX7_set_57 rfl rfl (by omega) ?_
            refine r_iload_n (pc := 58) dX7_set_58 rfl ?_
            refine r_ireturn (pc := 59) dX7_set_59 rfl (Or.inl rfl) rfl ?_
            have e9 : sp_set σ (nI (0)) (nI vj) = ((nI (σ 0 1)), su σ 0 1 vj) := by
              simp (decide := true) [sp_set, c6, c38, bN_nI (show 0 < 2 ^ 31 by decide), bN_nI (show vj < 2 ^ 31 by omega)]
            rw [e9] at h
            exact h _ (Ms_t0 hM) ((keepX.I keepX.rf (by decide)))
          · refine r_bipush (pc := 41) (v := (-2)) dX7_set_41 (by decide) ?_
            refine r_ireturn (pc := 43) dX7_set_43 rfl (Or.inl rfl) rfl ?_
            have e9 : sp_set σ (nI (0)) v = ((-2), σ) := by
              simp (decide := true) [sp_set, c6, c38]
            rw [e9] at h
            exact h _ hM (keepX.rf)
        · exact absurd c25 (by decide)
      · exact absurd c15 (by decide)
    · refine r_iload_n (pc := 12) dX7_set_12 rfl ?_
      refine r_iload_n (pc := 13) dX7_set_13 rfl ?_
      refine r_iconst (pc := 14) (v := (nI (2))) dX7_set_14 (by decide) ?_
      refine rn_icmp_ne (pc := 15) (tgt := 22) dX7_set_15 (by decide) (by omega) (by omega) (fun c15 => ?_) (fun c15 => ?_)
      · refine r_iconst (pc := 22) (v := (nI (0))) dX7_set_22 (by decide) ?_
        refine r_iload_n (pc := 23) dX7_set_23 rfl ?_
        refine r_iconst (pc := 24) (v := (nI (1))) dX7_set_24 (by decide) ?_
        refine rn_icmp_ne (pc := 25) (tgt := 33) dX7_set_25 (by decide) (by omega) (by omega) (fun c25 => ?_) (fun c25 => ?_)
        · exact absurd rfl c25
        · refine r_bipush (pc := 28) (v := (nI (99))) dX7_set_28 (by decide) ?_
          refine r_goto (pc := 30) (tgt := 35) dX7_set_30 (by decide) ?_
          refine r_callS (pc := 35) (d' := 0) (As := [.int (v), .int (nI 0), .int (nI 99)]) (rest := []) dX7_set_35 sX7_in mX7_77 rfl rfl (Nat.le_of_ble_eq_true rfl) (Nat.le_of_ble_eq_true rfl) ?_
          refine c_in ?_
          refine rb_if_ne (pc := 38) (tgt := 44) dX7_set_38 (by decide) (fun c38 => ?_) (fun c38 => ?_)
          · obtain ⟨vj, hv1, hv2, rfl⟩ := inR_t (by decide) (by decide) c38
            refine r_aload_n (pc := 44) dX7_set_44 rfl ?_
            refine r_getR (pc := 45) (r := 48) dX7_set_45 fX7_31 rfl rfl ?_
            refine r_iload_n (pc := 48) dX7_set_48 rfl ?_
            refine r_iald (pc := 49) (x := (nI (σ 0 2))) dX7_set_49 rfl rfl (by omega) (Ms_now (μ := μ) hM) ?_
            refine r_istore_n (pc := 50) (ls' := [(0, .ref 40), (1, .int (nI 1)), (2, .int (nI vj)), (3, .int (nI (σ 0 2)))]) dX7_set_50 (Nat.le_of_ble_eq_true rfl) rfl ?_
            refine r_aload_n (pc := 51) dX7_set_51 rfl ?_
            refine r_getR (pc := 52) (r := 48) dX7_set_52 fX7_31 rfl rfl ?_
            refine r_iload_n (pc := 55) dX7_set_55 rfl ?_
            refine r_iload_n (pc := 56) dX7_set_56 rfl ?_
            refine r_iast (pc := 57) dX7_set_57 rfl rfl (by omega) ?_
            refine r_iload_n (pc := 58) dX7_set_58 rfl ?_
            refine r_ireturn (pc := 59) dX7_set_59 rfl (Or.inl rfl) rfl ?_
            have e9 : sp_set σ (nI (1)) (nI vj) = ((nI (σ 0 2)), su σ 0 2 vj) := by
              simp (decide := true) [sp_set, c6, c38, bN_nI (show 1 < 2 ^ 31 by decide), bN_nI (show vj < 2 ^ 31 by omega)]
            rw [e9] at h
            exact h _ (Ms_t1 hM) ((keepX.I keepX.rf (by decide)))
          · refine r_bipush (pc := 41) (v := (-2)) dX7_set_41 (by decide) ?_
            refine r_ireturn (pc := 43) dX7_set_43 rfl (Or.inl rfl) rfl ?_
            have e9 : sp_set σ (nI (1)) v = ((-2), σ) := by
              simp (decide := true) [sp_set, c6, c38]
            rw [e9] at h
            exact h _ hM (keepX.rf)
      · exact absurd c15 (by decide)
    · refine r_iload_n (pc := 12) dX7_set_12 rfl ?_
      refine r_iload_n (pc := 13) dX7_set_13 rfl ?_
      refine r_iconst (pc := 14) (v := (nI (2))) dX7_set_14 (by decide) ?_
      refine rn_icmp_ne (pc := 15) (tgt := 22) dX7_set_15 (by decide) (by omega) (by omega) (fun c15 => ?_) (fun c15 => ?_)
      · exact absurd rfl c15
      · refine r_iconst (pc := 18) (v := (nI (1))) dX7_set_18 (by decide) ?_
        refine r_goto (pc := 19) (tgt := 23) dX7_set_19 (by decide) ?_
        refine r_iload_n (pc := 23) dX7_set_23 rfl ?_
        refine r_iconst (pc := 24) (v := (nI (1))) dX7_set_24 (by decide) ?_
        refine rn_icmp_ne (pc := 25) (tgt := 33) dX7_set_25 (by decide) (by omega) (by omega) (fun c25 => ?_) (fun c25 => ?_)
        · refine r_bipush (pc := 33) (v := (nI (98))) dX7_set_33 (by decide) ?_
          refine r_callS (pc := 35) (d' := 0) (As := [.int (v), .int (nI 1), .int (nI 98)]) (rest := []) dX7_set_35 sX7_in mX7_77 rfl rfl (Nat.le_of_ble_eq_true rfl) (Nat.le_of_ble_eq_true rfl) ?_
          refine c_in ?_
          refine rb_if_ne (pc := 38) (tgt := 44) dX7_set_38 (by decide) (fun c38 => ?_) (fun c38 => ?_)
          · obtain ⟨vj, hv1, hv2, rfl⟩ := inR_t (by decide) (by decide) c38
            refine r_aload_n (pc := 44) dX7_set_44 rfl ?_
            refine r_getR (pc := 45) (r := 48) dX7_set_45 fX7_31 rfl rfl ?_
            refine r_iload_n (pc := 48) dX7_set_48 rfl ?_
            refine r_iald (pc := 49) (x := (nI (σ 0 3))) dX7_set_49 rfl rfl (by omega) (Ms_drop (μ := μ) hM) ?_
            refine r_istore_n (pc := 50) (ls' := [(0, .ref 40), (1, .int (nI 2)), (2, .int (nI vj)), (3, .int (nI (σ 0 3)))]) dX7_set_50 (Nat.le_of_ble_eq_true rfl) rfl ?_
            refine r_aload_n (pc := 51) dX7_set_51 rfl ?_
            refine r_getR (pc := 52) (r := 48) dX7_set_52 fX7_31 rfl rfl ?_
            refine r_iload_n (pc := 55) dX7_set_55 rfl ?_
            refine r_iload_n (pc := 56) dX7_set_56 rfl ?_
            refine r_iast (pc := 57) dX7_set_57 rfl rfl (by omega) ?_
            refine r_iload_n (pc := 58) dX7_set_58 rfl ?_
            refine r_ireturn (pc := 59) dX7_set_59 rfl (Or.inl rfl) rfl ?_
            have e9 : sp_set σ (nI (2)) (nI vj) = ((nI (σ 0 3)), su σ 0 3 vj) := by
              simp (decide := true) [sp_set, c6, c38, bN_nI (show 2 < 2 ^ 31 by decide), bN_nI (show vj < 2 ^ 31 by omega)]
            rw [e9] at h
            exact h _ (Ms_t2 hM) ((keepX.I keepX.rf (by decide)))
          · refine r_bipush (pc := 41) (v := (-2)) dX7_set_41 (by decide) ?_
            refine r_ireturn (pc := 43) dX7_set_43 rfl (Or.inl rfl) rfl ?_
            have e9 : sp_set σ (nI (2)) v = ((-2), σ) := by
              simp (decide := true) [sp_set, c6, c38]
            rw [e9] at h
            exact h _ hM (keepX.rf)
        · exact absurd c25 (by decide)
  · refine r_bipush (pc := 9) (v := (-2)) dX7_set_9 (by decide) ?_
    refine r_ireturn (pc := 11) dX7_set_11 rfl (Or.inl rfl) rfl ?_
    have e9 : sp_set σ w v = ((-2), σ) := by
      simp (decide := true) [sp_set, c6]
    rw [e9] at h
    exact h _ hM (keepX.rf)

set_option maxRecDepth 20000 in
set_option maxHeartbeats 4000000 in
theorem m_told_l {μ : Mem} {σ : Sg} {w : Int32} {Q : Option Value → Mem → Prop} (hM : Ms μ σ) (hO : Ok σ) (h : ∀ μ', Ms μ' σ → keepX μ μ' → Q (some (.int (sp_told σ w))) μ') : ∀ (k : Nat) (b : Nat), b + k = σ 0 0 → WP cX7_told (RX7, 4, (some .int), 2, none) 4 [(0, .ref 40), (1, .int (w)), (2, .int (nI (obits σ b))), (3, .int (nI b))] [] μ Q := by
  intro k
  induction k using Nat.strongRecOn with
  | _ k ih =>
    intro b hb
    have hn := Ok_n hO
    refine r_iload_n (pc := 4) dX7_told_4 rfl ?_
    refine r_aload_n (pc := 5) dX7_told_5 rfl ?_
    refine r_getI (pc := 6) (x := (nI (σ 0 0))) dX7_told_6 fX7_81 rfl rfl (Ms_n (μ := μ) hM) ?_
    refine rn_icmp_ge (pc := 9) (tgt := 36) dX7_told_9 (by decide) (by omega) (by omega) (fun c9 => ?_) (fun c9 => ?_)
    · obtain rfl : b = σ 0 0 := by omega
      refine r_iload_n (pc := 36) dX7_told_36 rfl ?_
      refine r_if_ne (pc := 37) (tgt := 47) dX7_told_37 (by decide) (fun c37 => ?_) (fun c37 => ?_)
      · refine r_iload_n (pc := 47) dX7_told_47 rfl ?_
        refine r_iconst (pc := 48) (v := (nI (1))) dX7_told_48 (by decide) ?_
        refine r_icmp_ne (pc := 49) (tgt := 59) dX7_told_49 (by decide) (fun c49 => ?_) (fun c49 => ?_)
        · refine r_iload_n (pc := 59) dX7_told_59 rfl ?_
          refine r_iconst (pc := 60) (v := (nI (2))) dX7_told_60 (by decide) ?_
          refine r_icmp_ne (pc := 61) (tgt := 68) dX7_told_61 (by decide) (fun c61 => ?_) (fun c61 => ?_)
          · refine r_iload_n (pc := 68) dX7_told_68 rfl ?_
            refine r_iconst (pc := 69) (v := (nI (3))) dX7_told_69 (by decide) ?_
            refine r_iconst (pc := 70) (v := (nI (5))) dX7_told_70 (by decide) ?_
            refine r_callS (pc := 71) (d' := 0) (As := [.int (w), .int (nI 3), .int (nI 5)]) (rest := []) dX7_told_71 sX7_in mX7_77 rfl rfl (Nat.le_of_ble_eq_true rfl) (Nat.le_of_ble_eq_true rfl) ?_
            refine c_in ?_
            refine rb_if_eq (pc := 74) (tgt := 88) dX7_told_74 (by decide) (fun c74 => ?_) (fun c74 => ?_)
            · refine r_bipush (pc := 88) (v := (-2)) dX7_told_88 (by decide) ?_
              refine r_ireturn (pc := 90) dX7_told_90 rfl (Or.inl rfl) rfl ?_
              have e9 : sp_told σ w = -2 := by
                have q3 : ∀ j : Nat, 3 ≤ j → j ≤ 5 → ¬ w = nI j := fun j h1 h2 q => by rw [q, inR_nat (by omega) (by decide) (by decide)] at c74; simp at c74; omega
                simp only [sp_told]
                rw [if_neg (by rw [nI_0]; exact c37), if_neg c49, if_neg c61, if_neg (q3 3 (by decide) (by decide)), if_neg (q3 4 (by decide) (by decide)), if_neg (q3 5 (by decide) (by decide))]
              rw [e9] at h
              exact h _ hM keepX.rf
            · obtain ⟨wj, hw1, hw2, rfl⟩ := inR_t (by decide) (by decide) c74
              rcases (show wj = 3 ∨ wj = 4 ∨ wj = 5 by omega) with rfl | rfl | rfl
              · refine r_aload_n (pc := 77) dX7_told_77 rfl ?_
                refine r_getR (pc := 78) (r := 48) dX7_told_78 fX7_31 rfl rfl ?_
                refine r_iload_n (pc := 81) dX7_told_81 rfl ?_
                refine r_iconst (pc := 82) (v := (nI (3))) dX7_told_82 (by decide) ?_
                refine rn_isub (pc := 83) dX7_told_83 (by omega) ?_
                refine r_iald (pc := 84) (x := (nI (σ 0 1))) dX7_told_84 rfl rfl (by omega) (Ms_fee (μ := μ) hM) ?_
                refine r_goto (pc := 85) (tgt := 90) dX7_told_85 (by decide) ?_
                refine r_ireturn (pc := 90) dX7_told_90 rfl (Or.inl rfl) rfl ?_
                have e9 : sp_told σ (nI 3) = (nI (σ 0 1)) := by simp (decide := true) [sp_told]
                rw [e9] at h
                exact h _ hM keepX.rf
              · refine r_aload_n (pc := 77) dX7_told_77 rfl ?_
                refine r_getR (pc := 78) (r := 48) dX7_told_78 fX7_31 rfl rfl ?_
                refine r_iload_n (pc := 81) dX7_told_81 rfl ?_
                refine r_iconst (pc := 82) (v := (nI (3))) dX7_told_82 (by decide) ?_
                refine rn_isub (pc := 83) dX7_told_83 (by omega) ?_
                refine r_iald (pc := 84) (x := (nI (σ 0 2))) dX7_told_84 rfl rfl (by omega) (Ms_now (μ := μ) hM) ?_
                refine r_goto (pc := 85) (tgt := 90) dX7_told_85 (by decide) ?_
                refine r_ireturn (pc := 90) dX7_told_90 rfl (Or.inl rfl) rfl ?_
                have e9 : sp_told σ (nI 4) = (nI (σ 0 2)) := by simp (decide := true) [sp_told]
                rw [e9] at h
                exact h _ hM keepX.rf
              · refine r_aload_n (pc := 77) dX7_told_77 rfl ?_
                refine r_getR (pc := 78) (r := 48) dX7_told_78 fX7_31 rfl rfl ?_
                refine r_iload_n (pc := 81) dX7_told_81 rfl ?_
                refine r_iconst (pc := 82) (v := (nI (3))) dX7_told_82 (by decide) ?_
                refine rn_isub (pc := 83) dX7_told_83 (by omega) ?_
                refine r_iald (pc := 84) (x := (nI (σ 0 3))) dX7_told_84 rfl rfl (by omega) (Ms_drop (μ := μ) hM) ?_
                refine r_goto (pc := 85) (tgt := 90) dX7_told_85 (by decide) ?_
                refine r_ireturn (pc := 90) dX7_told_90 rfl (Or.inl rfl) rfl ?_
                have e9 : sp_told σ (nI 5) = (nI (σ 0 3)) := by simp (decide := true) [sp_told]
                rw [e9] at h
                exact h _ hM keepX.rf
          · refine r_iload_n (pc := 64) dX7_told_64 rfl ?_
            refine r_goto (pc := 65) (tgt := 90) dX7_told_65 (by decide) ?_
            refine r_ireturn (pc := 90) dX7_told_90 rfl (Or.inl rfl) rfl ?_
            have e9 : sp_told σ w = (nI (obits σ (σ 0 0))) := by simp (decide := true) [sp_told, nI_0, c37, c49, c61]
            rw [e9] at h
            exact h _ hM keepX.rf
        · refine r_aload_n (pc := 52) dX7_told_52 rfl ?_
          refine r_getI (pc := 53) (x := (nI (σ 0 4))) dX7_told_53 fX7_107 rfl rfl (Ms_sn (μ := μ) hM) ?_
          refine r_goto (pc := 56) (tgt := 90) dX7_told_56 (by decide) ?_
          refine r_ireturn (pc := 90) dX7_told_90 rfl (Or.inl rfl) rfl ?_
          have e9 : sp_told σ w = (nI (σ 0 4)) := by simp (decide := true) [sp_told, nI_0, c37, c49]
          rw [e9] at h
          exact h _ hM keepX.rf
      · refine r_aload_n (pc := 40) dX7_told_40 rfl ?_
        refine r_getI (pc := 41) (x := (nI (σ 0 0))) dX7_told_41 fX7_81 rfl rfl (Ms_n (μ := μ) hM) ?_
        refine r_goto (pc := 44) (tgt := 90) dX7_told_44 (by decide) ?_
        refine r_ireturn (pc := 90) dX7_told_90 rfl (Or.inl rfl) rfl ?_
        have e9 : sp_told σ w = (nI (σ 0 0)) := by simp (decide := true) [sp_told, nI_0, c37]
        rw [e9] at h
        exact h _ hM keepX.rf
    · refine r_iload_n (pc := 12) dX7_told_12 rfl ?_
      refine r_aload_n (pc := 13) dX7_told_13 rfl ?_
      refine r_iload_n (pc := 14) dX7_told_14 rfl ?_
      refine r_callV (pc := 15) (d' := 1) (k := 40) (As := [.int (nI b)]) (rest := [.int (nI (obits σ b))]) dX7_told_15 vX7_isOpen mX7_97 rfl rfl rfl (Nat.le_of_ble_eq_true rfl) (Nat.le_of_ble_eq_true rfl) ?_
      refine c_mopen (μ := μ) hM hO (by omega) ?_
      refine rb_if_eq (pc := 18) (tgt := 27) dX7_told_18 (by decide) (fun c18 => ?_) (fun c18 => ?_)
      · refine r_iconst (pc := 27) (v := (nI (0))) dX7_told_27 (by decide) ?_
        refine r_ior (pc := 28) dX7_told_28 ?_
        refine r_eqi (nI_or _ _) ?_
        refine r_istore_n (pc := 29) (ls' := [(0, .ref 40), (1, .int (w)), (2, .int (nI ((obits σ b) ||| (0)))), (3, .int (nI b))]) dX7_told_29 (Nat.le_of_ble_eq_true rfl) rfl ?_
        refine rn_iinc (pc := 30) (b := 1) (ls' := [(0, .ref 40), (1, .int (w)), (2, .int (nI ((obits σ b) ||| (0)))), (3, .int (nI (b + 1)))]) dX7_told_30 rfl (by decide) (Nat.le_of_ble_eq_true rfl) rfl ?_
        refine r_goto (pc := 33) (tgt := 4) dX7_told_33 (by decide) ?_
        have e1 : (obits σ b) ||| (0) = obits σ (b + 1) := by simp [obits, c18]
        rw [e1]
        exact ih (k - 1) (by omega) (b + 1) (by omega)
      · refine r_iconst (pc := 21) (v := (nI (1))) dX7_told_21 (by decide) ?_
        refine r_iload_n (pc := 22) dX7_told_22 rfl ?_
        refine r_ishl (pc := 23) dX7_told_23 ?_
        refine r_eqi (shl1 (by omega)) ?_
        refine r_goto (pc := 24) (tgt := 28) dX7_told_24 (by decide) ?_
        refine r_ior (pc := 28) dX7_told_28 ?_
        refine r_eqi (nI_or _ _) ?_
        refine r_istore_n (pc := 29) (ls' := [(0, .ref 40), (1, .int (w)), (2, .int (nI ((obits σ b) ||| (2 ^ b)))), (3, .int (nI b))]) dX7_told_29 (Nat.le_of_ble_eq_true rfl) rfl ?_
        refine rn_iinc (pc := 30) (b := 1) (ls' := [(0, .ref 40), (1, .int (w)), (2, .int (nI ((obits σ b) ||| (2 ^ b)))), (3, .int (nI (b + 1)))]) dX7_told_30 rfl (by decide) (Nat.le_of_ble_eq_true rfl) rfl ?_
        refine r_goto (pc := 33) (tgt := 4) dX7_told_33 (by decide) ?_
        have e1 : (obits σ b) ||| (2 ^ b) = obits σ (b + 1) := by simp [obits, c18]
        rw [e1]
        exact ih (k - 1) (by omega) (b + 1) (by omega)

set_option maxRecDepth 20000 in
set_option maxHeartbeats 4000000 in
theorem m_told {μ : Mem} {σ : Sg} {w : Int32} {Q : Option Value → Mem → Prop} (hM : Ms μ σ) (hO : Ok σ) (h : ∀ μ', Ms μ' σ → keepX μ μ' → Q (some (.int (sp_told σ w))) μ') : Sp iX7_told 2 [.ref 40, .int (w)] μ Q := by
  refine Sp.of vX7_told.1 (Nat.le_of_ble_eq_true rfl) ?_
  show WP cX7_told (RX7, 4, (some .int), 2, none) 0 [(0, .ref 40), (1, .int (w))] [] μ Q
  have hn := Ok_n hO
  refine r_iconst (pc := 0) (v := (nI (0))) dX7_told_0 (by decide) ?_
  refine r_istore_n (pc := 1) (ls' := [(0, .ref 40), (1, .int (w)), (2, .int (nI 0))]) dX7_told_1 (Nat.le_of_ble_eq_true rfl) rfl ?_
  refine r_iconst (pc := 2) (v := (nI (0))) dX7_told_2 (by decide) ?_
  refine r_istore_n (pc := 3) (ls' := [(0, .ref 40), (1, .int (w)), (2, .int (nI 0)), (3, .int (nI 0))]) dX7_told_3 (Nat.le_of_ble_eq_true rfl) rfl ?_
  exact m_told_l hM hO h (σ 0 0) 0 (by omega)
end
section
/-! PLAIN CALLS of the class; off on both sides -/
theorem c16N {q : Nat} (hq : q < 65536) : ((nI q).toUInt32 % 65536).toInt32 = nI q := by
  rw [pk_char, pk_tn (by omega), Nat.mod_eq_of_lt hq]
theorem narC {q : Nat} (hq : q < 65536) : vp_nar .char (nI q) = nI q := by
  unfold vp_nar
  rw [(pk_charN hq).1]
theorem Xs_keep0 {μ : Mem} {σ : Sg} (h : Xs μ σ) : Xs (setI (setI μ 12 7 (nI 0)) 37 2 (nI 0)) σ := h
/-- off: of a board, of all below b -/
def ov (σ : Sg) (b : Nat) : Int32 := if opn σ b = true then nI (upR (σ 4 b) (σ 0 1) * σ 9 (σ 3 b)) - nI (σ 2 b * σ 9 (σ 1 b)) else nI 0
def og (σ : Sg) : Nat → Int32
  | 0 => nI 0
  | b + 1 => if ov σ b ≤ og σ b then og σ b else ov σ b
def ow (σ : Sg) : Nat → Int32
  | 0 => -6
  | b + 1 => if ov σ b ≤ og σ b then ow σ b else nI b
def os (σ : Sg) : Nat → Nat
  | 0 => 0
  | b + 1 => os σ b ||| (if ov σ b ≤ 0 then 0 else 2 ^ b)
theorem os_lt (σ : Sg) : ∀ m, os σ m < 2 ^ m
  | 0 => Nat.one_pos
  | m + 1 => by
    unfold os
    refine or_lt (Nat.lt_of_lt_of_le (os_lt σ m) (Nat.pow_le_pow_right (by decide) (by omega))) ?_
    split
    · exact Nat.two_pow_pos _
    · exact Nat.pow_lt_pow_right (by decide) (by omega)
def sp_off (σ : Sg) (w : Int32) : Int32 := if inR w (nI 0) (nI 3) = false then -2 else if w = nI 0 then og σ (σ 0 0) else if w = nI 1 then ow σ (σ 0 0) else if w = nI 2 then (if os σ (σ 0 0) = 0 then nI 1 else nI 0) else nI (os σ (σ 0 0))

set_option maxRecDepth 20000 in
set_option maxHeartbeats 4000000 in
theorem x_forget {μ : Mem} {Q : Option Value → Mem → Prop} (h : Q none (setI (setI μ 12 7 (nI 0)) 37 2 (nI 0))) : Sp iX6_forget 0 [.ref 0] μ Q := by
  refine Sp.of vX6_forget.1 (Nat.le_of_ble_eq_true rfl) ?_
  show WP cX6_forget (RX6, 1, none, 0, none) 0 [(0, .ref 0)] [] μ Q
  refine r_aload_n (pc := 0) dX6_forget_0 rfl ?_
  refine r_getR (pc := 1) (r := 12) dX6_forget_1 fX6_26 rfl rfl ?_
  refine r_iconst (pc := 4) (v := (nI (0))) dX6_forget_4 (by decide) ?_
  refine r_putI (pc := 5) dX6_forget_5 gX6_257 rfl rfl rfl rfl ?_
  refine r_aload_n (pc := 8) dX6_forget_8 rfl ?_
  refine r_getR (pc := 9) (r := 37) dX6_forget_9 fX6_47 rfl rfl ?_
  refine r_iconst (pc := 12) (v := (nI (0))) dX6_forget_12 (by decide) ?_
  refine r_putI (pc := 13) dX6_forget_13 gX6_245 rfl rfl rfl rfl ?_
  refine r_return (pc := 16) dX6_forget_16 rfl ?_
  exact h

set_option maxRecDepth 20000 in
set_option maxHeartbeats 4000000 in
theorem x_badd {μ : Mem} {σ : Sg} {f t g n : Nat} {Q : Option Value → Mem → Prop} (hX : Xs μ σ) (hO : Ok σ) (hn12 : σ 0 0 < 12) (h : ∀ μ', Xs μ' (addB σ f t g n) → keepM μ μ' → (∀ k, 10 ≤ k → μ'.1 k = μ.1 k ∧ μ'.2 k = μ.2 k) → Q none μ') : Sp iX0_add 0 [.ref 1, .int (nI f), .int (nI t), .int (nI g), .int (nI n)] μ Q := by
  refine Sp.of vX0_add.1 (Nat.le_of_ble_eq_true rfl) ?_
  show WP cX0_add (RX0, 5, none, 0, none) 0 [(0, .ref 1), (1, .int (nI f)), (2, .int (nI t)), (3, .int (nI g)), (4, .int (nI n))] [] μ Q
  have hn := Ok_n hO
  refine r_aload_n (pc := 0) dX0_add_0 rfl ?_
  refine r_getI (pc := 1) (x := (nI (σ 0 0))) dX0_add_1 fX0_36 rfl rfl (Xs_n (μ := μ) hX) ?_
  refine r_bipush (pc := 4) (v := (nI (12))) dX0_add_4 (by decide) ?_
  refine rn_icmp_lt (pc := 6) (tgt := 10) dX0_add_6 (by decide) (by omega) (by omega) (fun c6 => ?_) (fun c6 => ?_)
  · refine r_aload_n (pc := 10) dX0_add_10 rfl ?_
    refine r_getR (pc := 11) (r := 2) dX0_add_11 fX0_9 rfl rfl ?_
    refine r_aload_n (pc := 14) dX0_add_14 rfl ?_
    refine r_getI (pc := 15) (x := (nI (σ 0 0))) dX0_add_15 fX0_36 rfl rfl (Xs_n (μ := μ) hX) ?_
    refine r_iload_n (pc := 18) dX0_add_18 rfl ?_
    refine r_iast (pc := 19) dX0_add_19 rfl rfl (by omega) ?_
    refine r_aload_n (pc := 20) dX0_add_20 rfl ?_
    refine r_getR (pc := 21) (r := 3) dX0_add_21 fX0_15 rfl rfl ?_
    refine r_aload_n (pc := 24) dX0_add_24 rfl ?_
    refine r_getI (pc := 25) (x := (nI (σ 0 0))) dX0_add_25 fX0_36 rfl rfl (Xs_n (μ := μ) hX) ?_
    refine r_iload_n (pc := 28) dX0_add_28 rfl ?_
    refine r_iast (pc := 29) dX0_add_29 rfl rfl (by omega) ?_
    refine r_aload_n (pc := 30) dX0_add_30 rfl ?_
    refine r_getR (pc := 31) (r := 4) dX0_add_31 fX0_18 rfl rfl ?_
    refine r_aload_n (pc := 34) dX0_add_34 rfl ?_
    refine r_getI (pc := 35) (x := (nI (σ 0 0))) dX0_add_35 fX0_36 rfl rfl (Xs_n (μ := μ) hX) ?_
    refine r_iload_n (pc := 38) dX0_add_38 rfl ?_
    refine r_iast (pc := 39) dX0_add_39 rfl rfl (by omega) ?_
    refine r_aload_n (pc := 40) dX0_add_40 rfl ?_
    refine r_getR (pc := 41) (r := 5) dX0_add_41 fX0_21 rfl rfl ?_
    refine r_aload_n (pc := 44) dX0_add_44 rfl ?_
    refine r_getI (pc := 45) (x := (nI (σ 0 0))) dX0_add_45 fX0_36 rfl rfl (Xs_n (μ := μ) hX) ?_
    refine r_iload (pc := 48) dX0_add_48 rfl ?_
    refine r_iast (pc := 50) dX0_add_50 rfl rfl (by omega) ?_
    refine r_aload_n (pc := 51) dX0_add_51 rfl ?_
    refine r_getR (pc := 52) (r := 6) dX0_add_52 fX0_24 rfl rfl ?_
    refine r_aload_n (pc := 55) dX0_add_55 rfl ?_
    refine r_getI (pc := 56) (x := (nI (σ 0 0))) dX0_add_56 fX0_36 rfl rfl (Xs_n (μ := μ) hX) ?_
    refine r_iconst (pc := 59) (v := (nI (0))) dX0_add_59 (by decide) ?_
    refine r_iast (pc := 60) dX0_add_60 rfl rfl (by omega) ?_
    refine r_aload_n (pc := 61) dX0_add_61 rfl ?_
    refine r_getR (pc := 62) (r := 7) dX0_add_62 fX0_27 rfl rfl ?_
    refine r_aload_n (pc := 65) dX0_add_65 rfl ?_
    refine r_getI (pc := 66) (x := (nI (σ 0 0))) dX0_add_66 fX0_36 rfl rfl (Xs_n (μ := μ) hX) ?_
    refine r_bipush (pc := 69) (v := (nI (99))) dX0_add_69 (by decide) ?_
    refine r_iast (pc := 71) dX0_add_71 rfl rfl (by omega) ?_
    refine r_aload_n (pc := 72) dX0_add_72 rfl ?_
    refine r_getR (pc := 73) (r := 8) dX0_add_73 fX0_30 rfl rfl ?_
    refine r_aload_n (pc := 76) dX0_add_76 rfl ?_
    refine r_getI (pc := 77) (x := (nI (σ 0 0))) dX0_add_77 fX0_36 rfl rfl (Xs_n (μ := μ) hX) ?_
    refine r_ldc (pc := 80) dX0_add_80 kX0_40 ?_
    refine r_eqi (y := nI 1000000) (by decide) ?_
    refine r_iast (pc := 82) dX0_add_82 rfl rfl (by omega) ?_
    refine r_aload_n (pc := 83) dX0_add_83 rfl ?_
    refine r_dup_r (pc := 84) dX0_add_84 ?_
    refine r_getI (pc := 85) (x := (nI (σ 0 0))) dX0_add_85 fX0_36 rfl rfl (Xs_n (μ := μ) hX) ?_
    refine r_iconst (pc := 88) (v := (nI (1))) dX0_add_88 (by decide) ?_
    refine rn_iadd (pc := 89) dX0_add_89 ?_
    refine r_putI (pc := 90) dX0_add_90 gX0_36 rfl rfl rfl rfl ?_
    refine r_return (pc := 93) dX0_add_93 rfl ?_
    refine h _ (Xs_add hX) ((keepM.I (keepM.I (keepM.I (keepM.I (keepM.I (keepM.I (keepM.I (keepM.I keepM.rf (by decide)) (by decide)) (by decide)) (by decide)) (by decide)) (by decide)) (by decide)) (by decide))) (fun k hk => ⟨?_, rfl⟩)
    simp only [setI]
    rw [if_neg (by omega), if_neg (by omega), if_neg (by omega), if_neg (by omega), if_neg (by omega), if_neg (by omega), if_neg (by omega), if_neg (by omega)]
  · exact absurd hn12 (by omega)

set_option maxRecDepth 20000 in
set_option maxHeartbeats 4000000 in
theorem x_board {μ : Mem} {σ : Sg} {f t g n : Int32} {Q : Option Value → Mem → Prop} (hI : XI μ σ) (hO : Ok σ) (h : ∀ μ', XI μ' (sp_board σ f t g n).2 → keepM μ μ' → Q (some (.int (sp_board σ f t g n).1)) μ') : Sp iX6_board 1 [.ref 0, .int (f), .int (t), .int (g), .int (n)] μ Q := by
  refine Sp.of vX6_board.1 (Nat.le_of_ble_eq_true rfl) ?_
  show WP cX6_board (RX6, 5, (some .int), 1, none) 0 [(0, .ref 0), (1, .int (f)), (2, .int (t)), (3, .int (g)), (4, .int (n))] [] μ Q
  have hn := Ok_n hO
  have hX := hI.1
  have hC := hI.2
  refine r_iload_n (pc := 0) dX6_board_0 rfl ?_
  refine r_callS (pc := 1) (d' := 0) (As := [.int (f)]) (rest := []) dX6_board_1 sX6_isCoin mX6_55 rfl rfl (Nat.le_of_ble_eq_true rfl) (Nat.le_of_ble_eq_true rfl) ?_
  refine c_xcoin ?_
  refine rb_if_eq (pc := 4) (tgt := 19) dX6_board_4 (by decide) (fun c4 => ?_) (fun c4 => ?_)
  · refine r_iconst (pc := 19) (v := (-1)) dX6_board_19 (by decide) ?_
    refine r_ireturn (pc := 20) dX6_board_20 rfl (Or.inl rfl) rfl ?_
    have e9 : sp_board σ f t g n = ((-1), σ) := by
      simp [sp_board, c4]
    rw [e9] at h
    exact h _ hI (keepM.rf)
  · obtain ⟨fj, hfj, rfl, -⟩ := isB_t c4
    refine r_iload_n (pc := 7) dX6_board_7 rfl ?_
    refine r_callS (pc := 8) (d' := 0) (As := [.int (g)]) (rest := []) dX6_board_8 sX6_isCoin mX6_55 rfl rfl (Nat.le_of_ble_eq_true rfl) (Nat.le_of_ble_eq_true rfl) ?_
    refine c_xcoin ?_
    refine rb_if_eq (pc := 11) (tgt := 19) dX6_board_11 (by decide) (fun c11 => ?_) (fun c11 => ?_)
    · refine r_iconst (pc := 19) (v := (-1)) dX6_board_19 (by decide) ?_
      refine r_ireturn (pc := 20) dX6_board_20 rfl (Or.inl rfl) rfl ?_
      have e9 : sp_board σ (nI fj) t g n = ((-1), σ) := by
        simp [sp_board, c4, c11]
      rw [e9] at h
      exact h _ hI (keepM.rf)
    · obtain ⟨gj, hgj, rfl, -⟩ := isB_t c11
      refine r_iload_n (pc := 14) dX6_board_14 rfl ?_
      refine r_iload_n (pc := 15) dX6_board_15 rfl ?_
      refine rn_icmp_ne (pc := 16) (tgt := 21) dX6_board_16 (by decide) (by omega) (by omega) (fun c16 => ?_) (fun c16 => ?_)
      · have hne : ¬ nI fj = nI gj := fun q => c16 (nI_inj (by omega) (by omega) q)
        refine r_iload_n (pc := 21) dX6_board_21 rfl ?_
        refine r_iconst (pc := 22) (v := (nI (1))) dX6_board_22 (by decide) ?_
        refine r_bipush (pc := 23) (v := (nI (99))) dX6_board_23 (by decide) ?_
        refine r_callS (pc := 25) (d' := 0) (As := [.int (t), .int (nI 1), .int (nI 99)]) (rest := []) dX6_board_25 sX6_isWithin mX6_59 rfl rfl (Nat.le_of_ble_eq_true rfl) (Nat.le_of_ble_eq_true rfl) ?_
        refine c_within ?_
        refine rb_if_eq (pc := 28) (tgt := 42) dX6_board_28 (by decide) (fun c28 => ?_) (fun c28 => ?_)
        · refine r_bipush (pc := 42) (v := (-2)) dX6_board_42 (by decide) ?_
          refine r_ireturn (pc := 44) dX6_board_44 rfl (Or.inl rfl) rfl ?_
          have e9 : sp_board σ (nI fj) t (nI gj) n = ((-2), σ) := by
            simp [sp_board, c4, c11, c16, c28, hne]
          rw [e9] at h
          exact h _ hI (keepM.rf)
        · obtain ⟨tj, ht1, ht2, rfl⟩ := inR_t (by decide) (by decide) c28
          refine r_iload (pc := 31) dX6_board_31 rfl ?_
          refine r_iconst (pc := 33) (v := (nI (1))) dX6_board_33 (by decide) ?_
          refine r_bipush (pc := 34) (v := (nI (99))) dX6_board_34 (by decide) ?_
          refine r_callS (pc := 36) (d' := 0) (As := [.int (n), .int (nI 1), .int (nI 99)]) (rest := []) dX6_board_36 sX6_isWithin mX6_59 rfl rfl (Nat.le_of_ble_eq_true rfl) (Nat.le_of_ble_eq_true rfl) ?_
          refine c_within ?_
          refine rb_if_ne (pc := 39) (tgt := 45) dX6_board_39 (by decide) (fun c39 => ?_) (fun c39 => ?_)
          · obtain ⟨nj, hn1, hn2, rfl⟩ := inR_t (by decide) (by decide) c39
            refine r_aload_n (pc := 45) dX6_board_45 rfl ?_
            refine r_getR (pc := 46) (r := 1) dX6_board_46 fX6_12 rfl rfl ?_
            refine r_getI (pc := 49) (x := (nI (σ 0 0))) dX6_board_49 fX6_63 rfl rfl (Xs_n (μ := μ) hX) ?_
            refine r_bipush (pc := 52) (v := (nI (12))) dX6_board_52 (by decide) ?_
            refine rn_icmp_lt (pc := 54) (tgt := 60) dX6_board_54 (by decide) (by omega) (by omega) (fun c54 => ?_) (fun c54 => ?_)
            · have h12 : ¬ σ 0 0 = 12 := by omega
              refine r_aload_n (pc := 60) dX6_board_60 rfl ?_
              refine r_callV (pc := 61) (d' := 0) (k := 0) (As := []) (rest := []) dX6_board_61 vX6_forget mX6_67 rfl rfl rfl (Nat.le_of_ble_eq_true rfl) (Nat.le_of_ble_eq_true rfl) ?_
              refine x_forget ?_
              refine r_aload_n (pc := 64) dX6_board_64 rfl ?_
              refine r_getR (pc := 65) (r := 1) dX6_board_65 fX6_12 rfl rfl ?_
              refine r_iload_n (pc := 68) dX6_board_68 rfl ?_
              refine r_iload_n (pc := 69) dX6_board_69 rfl ?_
              refine r_iload_n (pc := 70) dX6_board_70 rfl ?_
              refine r_iload (pc := 71) dX6_board_71 rfl ?_
              refine r_callV (pc := 73) (d' := 0) (k := 1) (As := [.int (nI fj), .int (nI tj), .int (nI gj), .int (nI nj)]) (rest := []) dX6_board_73 vX0_add mX6_70 rfl rfl rfl (Nat.le_of_ble_eq_true rfl) (Nat.le_of_ble_eq_true rfl) ?_
              refine x_badd (Xs_keep0 hX) hO (by omega) (fun μ1 hX1 hk1 hr1 => ?_)
              refine r_aload_n (pc := 76) dX6_board_76 rfl ?_
              refine r_getR (pc := 77) (r := 1) dX6_board_77 fX6_12 rfl rfl ?_
              refine r_getI (pc := 80) (x := (nI (σ 0 0 + 1))) dX6_board_80 fX6_63 rfl rfl (Xs_n hX1) ?_
              refine r_iconst (pc := 83) (v := (nI (1))) dX6_board_83 (by decide) ?_
              refine rn_isub (pc := 84) dX6_board_84 (by omega) ?_
              refine r_ireturn (pc := 85) dX6_board_85 rfl (Or.inl rfl) rfl ?_
              have e9 : sp_board σ (nI fj) (nI tj) (nI gj) (nI nj) = (nI (σ 0 0), addB σ fj tj gj nj) := by
                simp [sp_board, c4, c11, c16, c28, c39, c54, hne, h12, bN_nI (show fj < 2 ^ 31 by omega), bN_nI (show tj < 2 ^ 31 by omega), bN_nI (show gj < 2 ^ 31 by omega), bN_nI (show nj < 2 ^ 31 by omega)]
              rw [e9] at h
              rw [show σ 0 0 + 1 - 1 = σ 0 0 by omega]
              exact h μ1 ⟨hX1, Xc_none (by rw [(hr1 12 (by decide)).1]; rfl) (by rw [(hr1 37 (by decide)).1]; rfl)⟩ (keepM.tr (keepM.I (keepM.I keepM.rf (by decide)) (by decide)) hk1)
            · have h12 : σ 0 0 = 12 := by omega
              refine r_bipush (pc := 57) (v := (-4)) dX6_board_57 (by decide) ?_
              refine r_ireturn (pc := 59) dX6_board_59 rfl (Or.inl rfl) rfl ?_
              have e9 : sp_board σ (nI fj) (nI tj) (nI gj) (nI nj) = ((-4), σ) := by
                simp [sp_board, c4, c11, c16, c28, c39, c54, hne, h12]
              rw [e9] at h
              exact h _ hI (keepM.rf)
          · refine r_bipush (pc := 42) (v := (-2)) dX6_board_42 (by decide) ?_
            refine r_ireturn (pc := 44) dX6_board_44 rfl (Or.inl rfl) rfl ?_
            have e9 : sp_board σ (nI fj) (nI tj) (nI gj) n = ((-2), σ) := by
              simp [sp_board, c4, c11, c16, c28, c39, hne]
            rw [e9] at h
            exact h _ hI (keepM.rf)
      · refine r_iconst (pc := 19) (v := (-1)) dX6_board_19 (by decide) ?_
        refine r_ireturn (pc := 20) dX6_board_20 rfl (Or.inl rfl) rfl ?_
        have e9 : sp_board σ (nI fj) t (nI gj) n = ((-1), σ) := by
          simp [sp_board, c4, c11, c16]
        rw [e9] at h
        exact h _ hI (keepM.rf)

set_option maxRecDepth 20000 in
set_option maxHeartbeats 4000000 in
theorem x_of {μ : Mem} {σ : Sg} {b w : Int32} {Q : Option Value → Mem → Prop} (hI : XI μ σ) (hO : Ok σ) (h : ∀ μ', XI μ' σ → keepM μ μ' → Q (some (.int (sp_of σ b w))) μ') : Sp iX6_of 2 [.ref 0, .int (b), .int (w)] μ Q := by
  refine Sp.of vX6_of.1 (Nat.le_of_ble_eq_true rfl) ?_
  show WP cX6_of (RX6, 3, (some .int), 2, none) 0 [(0, .ref 0), (1, .int (b)), (2, .int (w))] [] μ Q
  have hn := Ok_n hO
  have hX := hI.1
  have hC := hI.2
  refine r_aload_n (pc := 0) dX6_of_0 rfl ?_
  refine r_getR (pc := 1) (r := 1) dX6_of_1 fX6_12 rfl rfl ?_
  refine r_iload_n (pc := 4) dX6_of_4 rfl ?_
  refine r_callV (pc := 5) (d' := 0) (k := 1) (As := [.int (b)]) (rest := []) dX6_of_5 vX0_has mX6_74 rfl rfl rfl (Nat.le_of_ble_eq_true rfl) (Nat.le_of_ble_eq_true rfl) ?_
  refine c_has (μ := μ) hX hO ?_
  refine rb_if_ne (pc := 8) (tgt := 13) dX6_of_8 (by decide) (fun c8 => ?_) (fun c8 => ?_)
  · obtain ⟨bj, hbj, rfl, -⟩ := isB_t c8
    refine r_iload_n (pc := 13) dX6_of_13 rfl ?_
    by_cases c14 : (w).toInt < 0 ∨ 8 < (w).toInt
    · refine r_tableOut (pc := 14) (tgt := 160) dX6_of_14 c14 (by decide) ?_
      refine r_bipush (pc := 160) (v := (-2)) dX6_of_160 (by decide) ?_
      refine r_ireturn (pc := 162) dX6_of_162 rfl (Or.inl rfl) rfl ?_
      rw [show sp_of σ (nI bj) w = -2 by rw [sp_of, if_neg (by simp [c8]), if_neg (sw_out c14 (by decide) (by decide) : ¬ w = nI 0), if_neg (sw_out c14 (by decide) (by decide) : ¬ w = nI 1), if_neg (sw_out c14 (by decide) (by decide) : ¬ w = nI 2), if_neg (sw_out c14 (by decide) (by decide) : ¬ w = nI 3), if_neg (sw_out c14 (by decide) (by decide) : ¬ w = nI 4), if_neg (sw_out c14 (by decide) (by decide) : ¬ w = nI 5), if_neg (sw_out c14 (by decide) (by decide) : ¬ w = nI 6), if_neg (sw_out c14 (by decide) (by decide) : ¬ w = nI 7), if_neg (sw_out c14 (by decide) (by decide) : ¬ w = nI 8)]] at h
      exact h _ hI keepM.rf
    · obtain ⟨j1, hj2, e3⟩ := sw_cases (by decide) c14
      rcases (show j1 = 0 ∨ j1 = 1 ∨ j1 = 2 ∨ j1 = 3 ∨ j1 = 4 ∨ j1 = 5 ∨ j1 = 6 ∨ j1 = 7 ∨ j1 = 8 by omega) with rfl | rfl | rfl | rfl | rfl | rfl | rfl | rfl | rfl
      · rw [e3]
        refine r_tableIn (pc := 14) (tgt := 64) (off := 50) dX6_of_14 (by decide) (by decide) (by decide) (by decide) ?_
        refine r_aload_n (pc := 64) dX6_of_64 rfl ?_
        refine r_getR (pc := 65) (r := 1) dX6_of_65 fX6_12 rfl rfl ?_
        refine r_getR (pc := 68) (r := 2) dX6_of_68 fX6_77 rfl rfl ?_
        refine r_iload_n (pc := 71) dX6_of_71 rfl ?_
        refine r_iald (pc := 72) (x := (nI (σ 1 (bj)))) dX6_of_72 rfl rfl (by omega) (Xs_1 (μ := μ) hX (by omega)) ?_
        have b4 := Ok_b hO (j := bj) (by omega)
        refine r_ireturn (pc := 73) dX6_of_73 rfl (Or.inl rfl) rfl ?_
        rw [show sp_of σ (nI bj) w = (nI (σ 1 (bj))) by rw [e3]; simp (decide := true) [sp_of, c8, bN_nI (show bj < 2 ^ 31 by omega)]] at h
        exact h _ hI keepM.rf
      · rw [e3]
        refine r_tableIn (pc := 14) (tgt := 74) (off := 60) dX6_of_14 (by decide) (by decide) (by decide) (by decide) ?_
        refine r_aload_n (pc := 74) dX6_of_74 rfl ?_
        refine r_getR (pc := 75) (r := 1) dX6_of_75 fX6_12 rfl rfl ?_
        refine r_getR (pc := 78) (r := 3) dX6_of_78 fX6_80 rfl rfl ?_
        refine r_iload_n (pc := 81) dX6_of_81 rfl ?_
        refine r_iald (pc := 82) (x := (nI (σ 2 (bj)))) dX6_of_82 rfl rfl (by omega) (Xs_2 (μ := μ) hX (by omega)) ?_
        have b5 := Ok_b hO (j := bj) (by omega)
        refine r_ireturn (pc := 83) dX6_of_83 rfl (Or.inl rfl) rfl ?_
        rw [show sp_of σ (nI bj) w = (nI (σ 2 (bj))) by rw [e3]; simp (decide := true) [sp_of, c8, bN_nI (show bj < 2 ^ 31 by omega)]] at h
        exact h _ hI keepM.rf
      · rw [e3]
        refine r_tableIn (pc := 14) (tgt := 84) (off := 70) dX6_of_14 (by decide) (by decide) (by decide) (by decide) ?_
        refine r_aload_n (pc := 84) dX6_of_84 rfl ?_
        refine r_getR (pc := 85) (r := 1) dX6_of_85 fX6_12 rfl rfl ?_
        refine r_getR (pc := 88) (r := 4) dX6_of_88 fX6_83 rfl rfl ?_
        refine r_iload_n (pc := 91) dX6_of_91 rfl ?_
        refine r_iald (pc := 92) (x := (nI (σ 3 (bj)))) dX6_of_92 rfl rfl (by omega) (Xs_3 (μ := μ) hX (by omega)) ?_
        have b6 := Ok_b hO (j := bj) (by omega)
        refine r_ireturn (pc := 93) dX6_of_93 rfl (Or.inl rfl) rfl ?_
        rw [show sp_of σ (nI bj) w = (nI (σ 3 (bj))) by rw [e3]; simp (decide := true) [sp_of, c8, bN_nI (show bj < 2 ^ 31 by omega)]] at h
        exact h _ hI keepM.rf
      · rw [e3]
        refine r_tableIn (pc := 14) (tgt := 94) (off := 80) dX6_of_14 (by decide) (by decide) (by decide) (by decide) ?_
        refine r_aload_n (pc := 94) dX6_of_94 rfl ?_
        refine r_getR (pc := 95) (r := 1) dX6_of_95 fX6_12 rfl rfl ?_
        refine r_getR (pc := 98) (r := 5) dX6_of_98 fX6_86 rfl rfl ?_
        refine r_iload_n (pc := 101) dX6_of_101 rfl ?_
        refine r_iald (pc := 102) (x := (nI (σ 4 (bj)))) dX6_of_102 rfl rfl (by omega) (Xs_4 (μ := μ) hX (by omega)) ?_
        have b7 := Ok_b hO (j := bj) (by omega)
        refine r_ireturn (pc := 103) dX6_of_103 rfl (Or.inl rfl) rfl ?_
        rw [show sp_of σ (nI bj) w = (nI (σ 4 (bj))) by rw [e3]; simp (decide := true) [sp_of, c8, bN_nI (show bj < 2 ^ 31 by omega)]] at h
        exact h _ hI keepM.rf
      · rw [e3]
        refine r_tableIn (pc := 14) (tgt := 104) (off := 90) dX6_of_14 (by decide) (by decide) (by decide) (by decide) ?_
        refine r_aload_n (pc := 104) dX6_of_104 rfl ?_
        refine r_getR (pc := 105) (r := 1) dX6_of_105 fX6_12 rfl rfl ?_
        refine r_getR (pc := 108) (r := 6) dX6_of_108 fX6_89 rfl rfl ?_
        refine r_iload_n (pc := 111) dX6_of_111 rfl ?_
        refine r_iald (pc := 112) (x := (nI (σ 5 (bj)))) dX6_of_112 rfl rfl (by omega) (Xs_5 (μ := μ) hX (by omega)) ?_
        have b8 := Ok_b hO (j := bj) (by omega)
        refine r_ireturn (pc := 113) dX6_of_113 rfl (Or.inl rfl) rfl ?_
        rw [show sp_of σ (nI bj) w = (nI (σ 5 (bj))) by rw [e3]; simp (decide := true) [sp_of, c8, bN_nI (show bj < 2 ^ 31 by omega)]] at h
        exact h _ hI keepM.rf
      · rw [e3]
        refine r_tableIn (pc := 14) (tgt := 114) (off := 100) dX6_of_14 (by decide) (by decide) (by decide) (by decide) ?_
        refine r_aload_n (pc := 114) dX6_of_114 rfl ?_
        refine r_getR (pc := 115) (r := 1) dX6_of_115 fX6_12 rfl rfl ?_
        refine r_getR (pc := 118) (r := 7) dX6_of_118 fX6_92 rfl rfl ?_
        refine r_iload_n (pc := 121) dX6_of_121 rfl ?_
        refine r_iald (pc := 122) (x := (nI (σ 6 (bj)))) dX6_of_122 rfl rfl (by omega) (Xs_6 (μ := μ) hX (by omega)) ?_
        have b9 := Ok_b hO (j := bj) (by omega)
        refine r_ireturn (pc := 123) dX6_of_123 rfl (Or.inl rfl) rfl ?_
        rw [show sp_of σ (nI bj) w = (nI (σ 6 (bj))) by rw [e3]; simp (decide := true) [sp_of, c8, bN_nI (show bj < 2 ^ 31 by omega)]] at h
        exact h _ hI keepM.rf
      · rw [e3]
        refine r_tableIn (pc := 14) (tgt := 124) (off := 110) dX6_of_14 (by decide) (by decide) (by decide) (by decide) ?_
        refine r_aload_n (pc := 124) dX6_of_124 rfl ?_
        refine r_getR (pc := 125) (r := 1) dX6_of_125 fX6_12 rfl rfl ?_
        refine r_getR (pc := 128) (r := 8) dX6_of_128 fX6_95 rfl rfl ?_
        refine r_iload_n (pc := 131) dX6_of_131 rfl ?_
        refine r_iald (pc := 132) (x := (nI (σ 7 (bj)))) dX6_of_132 rfl rfl (by omega) (Xs_7 (μ := μ) hX (by omega)) ?_
        have b10 := Ok_b hO (j := bj) (by omega)
        refine r_ireturn (pc := 133) dX6_of_133 rfl (Or.inl rfl) rfl ?_
        rw [show sp_of σ (nI bj) w = (nI (σ 7 (bj))) by rw [e3]; simp (decide := true) [sp_of, c8, bN_nI (show bj < 2 ^ 31 by omega)]] at h
        exact h _ hI keepM.rf
      · rw [e3]
        refine r_tableIn (pc := 14) (tgt := 134) (off := 120) dX6_of_14 (by decide) (by decide) (by decide) (by decide) ?_
        refine r_aload_n (pc := 134) dX6_of_134 rfl ?_
        refine r_getR (pc := 135) (r := 1) dX6_of_135 fX6_12 rfl rfl ?_
        refine r_iload_n (pc := 138) dX6_of_138 rfl ?_
        refine r_callV (pc := 139) (d' := 1) (k := 1) (As := [.int (nI bj)]) (rest := []) dX6_of_139 vX0_isOpen mX6_98 rfl rfl rfl (Nat.le_of_ble_eq_true rfl) (Nat.le_of_ble_eq_true rfl) ?_
        refine c_xopen (μ := μ) hX hO (by omega) ?_
        refine rb_if_eq (pc := 142) (tgt := 149) dX6_of_142 (by decide) (fun c142 => ?_) (fun c142 => ?_)
        · refine r_iconst (pc := 149) (v := (nI (0))) dX6_of_149 (by decide) ?_
          refine r_ireturn (pc := 150) dX6_of_150 rfl (Or.inl rfl) rfl ?_
          rw [show sp_of σ (nI bj) w = (nI (0)) by rw [e3]; simp (decide := true) [sp_of, c8, bN_nI (show bj < 2 ^ 31 by omega), c142, b2i]] at h
          exact h _ hI keepM.rf
        · refine r_iconst (pc := 145) (v := (nI (1))) dX6_of_145 (by decide) ?_
          refine r_goto (pc := 146) (tgt := 150) dX6_of_146 (by decide) ?_
          refine r_ireturn (pc := 150) dX6_of_150 rfl (Or.inl rfl) rfl ?_
          rw [show sp_of σ (nI bj) w = (nI (1)) by rw [e3]; simp (decide := true) [sp_of, c8, bN_nI (show bj < 2 ^ 31 by omega), c142, b2i]] at h
          exact h _ hI keepM.rf
      · rw [e3]
        refine r_tableIn (pc := 14) (tgt := 151) (off := 137) dX6_of_14 (by decide) (by decide) (by decide) (by decide) ?_
        refine r_aload_n (pc := 151) dX6_of_151 rfl ?_
        refine r_getR (pc := 152) (r := 1) dX6_of_152 fX6_12 rfl rfl ?_
        refine r_iload_n (pc := 155) dX6_of_155 rfl ?_
        refine r_callV (pc := 156) (d' := 1) (k := 1) (As := [.int (nI bj)]) (rest := []) dX6_of_156 vX0_upper mX6_101 rfl rfl rfl (Nat.le_of_ble_eq_true rfl) (Nat.le_of_ble_eq_true rfl) ?_
        refine c_xupper (μ := μ) hX hO (by omega) ?_
        refine r_ireturn (pc := 159) dX6_of_159 rfl (Or.inl rfl) rfl ?_
        rw [show sp_of σ (nI bj) w = (nI (upR (σ 4 (bj)) (σ 0 1))) by rw [e3]; simp (decide := true) [sp_of, c8, bN_nI (show bj < 2 ^ 31 by omega)]] at h
        exact h _ hI keepM.rf
  · refine r_iconst (pc := 11) (v := (-1)) dX6_of_11 (by decide) ?_
    refine r_ireturn (pc := 12) dX6_of_12 rfl (Or.inl rfl) rfl ?_
    rw [show sp_of σ b w = -1 by simp [sp_of, c8]] at h
    exact h _ hI keepM.rf

set_option maxRecDepth 20000 in
set_option maxHeartbeats 4000000 in
theorem x_change {μ : Mem} {σ : Sg} {b w v : Int32} {Q : Option Value → Mem → Prop} (hI : XI μ σ) (hO : Ok σ) (h : ∀ μ', XI μ' (sp_change σ b w v).2 → keepM μ μ' → Q (some (.int (sp_change σ b w v).1)) μ') : Sp iX6_change 1 [.ref 0, .int (b), .int (w), .int (v)] μ Q := by
  refine Sp.of vX6_change.1 (Nat.le_of_ble_eq_true rfl) ?_
  show WP cX6_change (RX6, 6, (some .int), 1, none) 0 [(0, .ref 0), (1, .int (b)), (2, .int (w)), (3, .int (v))] [] μ Q
  have hn := Ok_n hO
  have hX := hI.1
  have hC := hI.2
  refine r_aload_n (pc := 0) dX6_change_0 rfl ?_
  refine r_getR (pc := 1) (r := 1) dX6_change_1 fX6_12 rfl rfl ?_
  refine r_iload_n (pc := 4) dX6_change_4 rfl ?_
  refine r_callV (pc := 5) (d' := 0) (k := 1) (As := [.int (b)]) (rest := []) dX6_change_5 vX0_has mX6_74 rfl rfl rfl (Nat.le_of_ble_eq_true rfl) (Nat.le_of_ble_eq_true rfl) ?_
  refine c_has (μ := μ) hX hO ?_
  refine rb_if_ne (pc := 8) (tgt := 13) dX6_change_8 (by decide) (fun c8 => ?_) (fun c8 => ?_)
  · obtain ⟨bj, hbj, rfl, -⟩ := isB_t c8
    refine r_iload_n (pc := 13) dX6_change_13 rfl ?_
    refine r_iconst (pc := 14) (v := (nI (0))) dX6_change_14 (by decide) ?_
    refine r_iconst (pc := 15) (v := (nI (1))) dX6_change_15 (by decide) ?_
    refine r_callS (pc := 16) (d' := 0) (As := [.int (w), .int (nI 0), .int (nI 1)]) (rest := []) dX6_change_16 sX6_isWithin mX6_59 rfl rfl (Nat.le_of_ble_eq_true rfl) (Nat.le_of_ble_eq_true rfl) ?_
    refine c_within ?_
    refine rb_if_eq (pc := 19) (tgt := 41) dX6_change_19 (by decide) (fun c19 => ?_) (fun c19 => ?_)
    · refine r_bipush (pc := 41) (v := (-2)) dX6_change_41 (by decide) ?_
      refine r_ireturn (pc := 43) dX6_change_43 rfl (Or.inl rfl) rfl ?_
      have e9 : sp_change σ (nI bj) w v = ((-2), σ) := by
        simp (decide := true) [sp_change, c8, c19]
      rw [e9] at h
      exact h _ hI (keepM.rf)
    · obtain ⟨wj, hw1, hw2, rfl⟩ := inR_t (by decide) (by decide) c19
      rcases (show wj = 0 ∨ wj = 1 by omega) with rfl | rfl
      · refine r_iload_n (pc := 22) dX6_change_22 rfl ?_
        refine r_iconst (pc := 23) (v := (nI (1))) dX6_change_23 (by decide) ?_
        refine r_iload_n (pc := 24) dX6_change_24 rfl ?_
        refine rn_if_ne (pc := 25) (tgt := 33) dX6_change_25 (by decide) (by omega) (fun c25 => ?_) (fun c25 => ?_)
        · exact absurd rfl c25
        · refine r_bipush (pc := 28) (v := (nI (99))) dX6_change_28 (by decide) ?_
          refine r_goto (pc := 30) (tgt := 35) dX6_change_30 (by decide) ?_
          refine r_callS (pc := 35) (d' := 0) (As := [.int (v), .int (nI 1), .int (nI 99)]) (rest := []) dX6_change_35 sX6_isWithin mX6_59 rfl rfl (Nat.le_of_ble_eq_true rfl) (Nat.le_of_ble_eq_true rfl) ?_
          refine c_within ?_
          refine rb_if_ne (pc := 38) (tgt := 44) dX6_change_38 (by decide) (fun c38 => ?_) (fun c38 => ?_)
          · obtain ⟨vj, hv1, hv2, rfl⟩ := inR_t (by decide) (by decide) c38
            refine r_aload_n (pc := 44) dX6_change_44 rfl ?_
            refine r_callV (pc := 45) (d' := 0) (k := 0) (As := []) (rest := []) dX6_change_45 vX6_forget mX6_67 rfl rfl rfl (Nat.le_of_ble_eq_true rfl) (Nat.le_of_ble_eq_true rfl) ?_
            refine x_forget ?_
            refine r_iload_n (pc := 48) dX6_change_48 rfl ?_
            refine rn_if_ne (pc := 49) (tgt := 62) dX6_change_49 (by decide) (by omega) (fun c49 => ?_) (fun c49 => ?_)
            · exact absurd rfl c49
            · refine r_aload_n (pc := 52) dX6_change_52 rfl ?_
              refine r_getR (pc := 53) (r := 1) dX6_change_53 fX6_12 rfl rfl ?_
              refine r_getR (pc := 56) (r := 5) dX6_change_56 fX6_86 rfl rfl ?_
              refine r_goto (pc := 59) (tgt := 69) dX6_change_59 (by decide) ?_
              refine r_astore (pc := 69) (ls' := [(0, .ref 0), (1, .int (nI bj)), (2, .int (nI 0)), (3, .int (nI vj)), (4, .ref 5)]) dX6_change_69 (Nat.le_of_ble_eq_true rfl) rfl ?_
              refine r_aload (pc := 71) dX6_change_71 rfl ?_
              refine r_iload_n (pc := 73) dX6_change_73 rfl ?_
              refine r_iald (pc := 74) (x := (nI (σ 4 (bj)))) dX6_change_74 rfl rfl (by omega) (Xs_4 (μ := μ) hX (by omega)) ?_
              have b1 := Ok_b hO (j := bj) (by omega)
              refine r_istore (pc := 75) (ls' := [(0, .ref 0), (1, .int (nI bj)), (2, .int (nI 0)), (3, .int (nI vj)), (4, .ref 5), (5, .int (nI (σ 4 (bj))))]) dX6_change_75 (Nat.le_of_ble_eq_true rfl) rfl ?_
              refine r_aload (pc := 77) dX6_change_77 rfl ?_
              refine r_iload_n (pc := 79) dX6_change_79 rfl ?_
              refine r_iload_n (pc := 80) dX6_change_80 rfl ?_
              refine r_iast (pc := 81) dX6_change_81 rfl rfl (by omega) ?_
              refine r_iload (pc := 82) dX6_change_82 rfl ?_
              refine r_ireturn (pc := 84) dX6_change_84 rfl (Or.inl rfl) rfl ?_
              have e9 : sp_change σ (nI bj) (nI (0)) (nI vj) = ((nI (σ 4 (bj))), su σ 4 bj vj) := by
                simp (decide := true) [sp_change, c8, c19, c38, bN_nI (show bj < 2 ^ 31 by omega), bN_nI (show vj < 2 ^ 31 by omega)]
              rw [e9] at h
              exact h _ ⟨Xs_s4 (Xs_keep0 hX), Xc_none rfl rfl⟩ ((keepM.I (keepM.I (keepM.I keepM.rf (by decide)) (by decide)) (by decide)))
          · refine r_bipush (pc := 41) (v := (-2)) dX6_change_41 (by decide) ?_
            refine r_ireturn (pc := 43) dX6_change_43 rfl (Or.inl rfl) rfl ?_
            have e9 : sp_change σ (nI bj) (nI (0)) v = ((-2), σ) := by
              simp (decide := true) [sp_change, c8, c19, c38]
            rw [e9] at h
            exact h _ hI (keepM.rf)
      · refine r_iload_n (pc := 22) dX6_change_22 rfl ?_
        refine r_iconst (pc := 23) (v := (nI (1))) dX6_change_23 (by decide) ?_
        refine r_iload_n (pc := 24) dX6_change_24 rfl ?_
        refine rn_if_ne (pc := 25) (tgt := 33) dX6_change_25 (by decide) (by omega) (fun c25 => ?_) (fun c25 => ?_)
        · refine r_ldc (pc := 33) dX6_change_33 kX6_105 ?_
          refine r_eqi (y := nI 1000000) (by decide) ?_
          refine r_callS (pc := 35) (d' := 0) (As := [.int (v), .int (nI 1), .int (nI 1000000)]) (rest := []) dX6_change_35 sX6_isWithin mX6_59 rfl rfl (Nat.le_of_ble_eq_true rfl) (Nat.le_of_ble_eq_true rfl) ?_
          refine c_within ?_
          refine rb_if_ne (pc := 38) (tgt := 44) dX6_change_38 (by decide) (fun c38 => ?_) (fun c38 => ?_)
          · obtain ⟨vj, hv1, hv2, rfl⟩ := inR_t (by decide) (by decide) c38
            refine r_aload_n (pc := 44) dX6_change_44 rfl ?_
            refine r_callV (pc := 45) (d' := 0) (k := 0) (As := []) (rest := []) dX6_change_45 vX6_forget mX6_67 rfl rfl rfl (Nat.le_of_ble_eq_true rfl) (Nat.le_of_ble_eq_true rfl) ?_
            refine x_forget ?_
            refine r_iload_n (pc := 48) dX6_change_48 rfl ?_
            refine rn_if_ne (pc := 49) (tgt := 62) dX6_change_49 (by decide) (by omega) (fun c49 => ?_) (fun c49 => ?_)
            · refine r_aload_n (pc := 62) dX6_change_62 rfl ?_
              refine r_getR (pc := 63) (r := 1) dX6_change_63 fX6_12 rfl rfl ?_
              refine r_getR (pc := 66) (r := 8) dX6_change_66 fX6_95 rfl rfl ?_
              refine r_astore (pc := 69) (ls' := [(0, .ref 0), (1, .int (nI bj)), (2, .int (nI 1)), (3, .int (nI vj)), (4, .ref 8)]) dX6_change_69 (Nat.le_of_ble_eq_true rfl) rfl ?_
              refine r_aload (pc := 71) dX6_change_71 rfl ?_
              refine r_iload_n (pc := 73) dX6_change_73 rfl ?_
              refine r_iald (pc := 74) (x := (nI (σ 7 (bj)))) dX6_change_74 rfl rfl (by omega) (Xs_7 (μ := μ) hX (by omega)) ?_
              have b2 := Ok_b hO (j := bj) (by omega)
              refine r_istore (pc := 75) (ls' := [(0, .ref 0), (1, .int (nI bj)), (2, .int (nI 1)), (3, .int (nI vj)), (4, .ref 8), (5, .int (nI (σ 7 (bj))))]) dX6_change_75 (Nat.le_of_ble_eq_true rfl) rfl ?_
              refine r_aload (pc := 77) dX6_change_77 rfl ?_
              refine r_iload_n (pc := 79) dX6_change_79 rfl ?_
              refine r_iload_n (pc := 80) dX6_change_80 rfl ?_
              refine r_iast (pc := 81) dX6_change_81 rfl rfl (by omega) ?_
              refine r_iload (pc := 82) dX6_change_82 rfl ?_
              refine r_ireturn (pc := 84) dX6_change_84 rfl (Or.inl rfl) rfl ?_
              have e9 : sp_change σ (nI bj) (nI (1)) (nI vj) = ((nI (σ 7 (bj))), su σ 7 bj vj) := by
                simp (decide := true) [sp_change, c8, c19, c38, bN_nI (show bj < 2 ^ 31 by omega), bN_nI (show vj < 2 ^ 31 by omega)]
              rw [e9] at h
              exact h _ ⟨Xs_s7 (Xs_keep0 hX), Xc_none rfl rfl⟩ ((keepM.I (keepM.I (keepM.I keepM.rf (by decide)) (by decide)) (by decide)))
            · exact absurd c49 (by decide)
          · refine r_bipush (pc := 41) (v := (-2)) dX6_change_41 (by decide) ?_
            refine r_ireturn (pc := 43) dX6_change_43 rfl (Or.inl rfl) rfl ?_
            have e9 : sp_change σ (nI bj) (nI (1)) v = ((-2), σ) := by
              simp (decide := true) [sp_change, c8, c19, c38]
            rw [e9] at h
            exact h _ hI (keepM.rf)
        · exact absurd c25 (by decide)
  · refine r_iconst (pc := 11) (v := (-1)) dX6_change_11 (by decide) ?_
    refine r_ireturn (pc := 12) dX6_change_12 rfl (Or.inl rfl) rfl ?_
    have e9 : sp_change σ b w v = ((-1), σ) := by
      simp (decide := true) [sp_change, c8]
    rw [e9] at h
    exact h _ hI (keepM.rf)

set_option maxRecDepth 20000 in
set_option maxHeartbeats 4000000 in
theorem x_hours {μ : Mem} {σ : Sg} {b f t : Int32} {Q : Option Value → Mem → Prop} (hI : XI μ σ) (hO : Ok σ) (h : ∀ μ', XI μ' (sp_hours σ b f t).2 → keepM μ μ' → Q (some (.int (sp_hours σ b f t).1)) μ') : Sp iX6_hours 1 [.ref 0, .int (b), .int (f), .int (t)] μ Q := by
  refine Sp.of vX6_hours.1 (Nat.le_of_ble_eq_true rfl) ?_
  show WP cX6_hours (RX6, 4, (some .int), 1, none) 0 [(0, .ref 0), (1, .int (b)), (2, .int (f)), (3, .int (t))] [] μ Q
  have hn := Ok_n hO
  have hX := hI.1
  have hC := hI.2
  refine r_aload_n (pc := 0) dX6_hours_0 rfl ?_
  refine r_getR (pc := 1) (r := 1) dX6_hours_1 fX6_12 rfl rfl ?_
  refine r_iload_n (pc := 4) dX6_hours_4 rfl ?_
  refine r_callV (pc := 5) (d' := 0) (k := 1) (As := [.int (b)]) (rest := []) dX6_hours_5 vX0_has mX6_74 rfl rfl rfl (Nat.le_of_ble_eq_true rfl) (Nat.le_of_ble_eq_true rfl) ?_
  refine c_has (μ := μ) hX hO ?_
  refine rb_if_ne (pc := 8) (tgt := 13) dX6_hours_8 (by decide) (fun c8 => ?_) (fun c8 => ?_)
  · obtain ⟨bj, hbj, rfl, -⟩ := isB_t c8
    refine r_iload_n (pc := 13) dX6_hours_13 rfl ?_
    refine r_iconst (pc := 14) (v := (nI (0))) dX6_hours_14 (by decide) ?_
    refine r_bipush (pc := 15) (v := (nI (99))) dX6_hours_15 (by decide) ?_
    refine r_callS (pc := 17) (d' := 0) (As := [.int (t), .int (nI 0), .int (nI 99)]) (rest := []) dX6_hours_17 sX6_isWithin mX6_59 rfl rfl (Nat.le_of_ble_eq_true rfl) (Nat.le_of_ble_eq_true rfl) ?_
    refine c_within ?_
    refine rb_if_eq (pc := 20) (tgt := 32) dX6_hours_20 (by decide) (fun c20 => ?_) (fun c20 => ?_)
    · refine r_bipush (pc := 32) (v := (-2)) dX6_hours_32 (by decide) ?_
      refine r_ireturn (pc := 34) dX6_hours_34 rfl (Or.inl rfl) rfl ?_
      have e9 : sp_hours σ (nI bj) f t = ((-2), σ) := by
        simp [sp_hours, c8, c20]
      rw [e9] at h
      exact h _ hI (keepM.rf)
    · obtain ⟨tj, ht1, ht2, rfl⟩ := inR_t (by decide) (by decide) c20
      refine r_iload_n (pc := 23) dX6_hours_23 rfl ?_
      refine r_iconst (pc := 24) (v := (nI (0))) dX6_hours_24 (by decide) ?_
      refine r_iload_n (pc := 25) dX6_hours_25 rfl ?_
      refine r_callS (pc := 26) (d' := 0) (As := [.int (f), .int (nI 0), .int (nI tj)]) (rest := []) dX6_hours_26 sX6_isWithin mX6_59 rfl rfl (Nat.le_of_ble_eq_true rfl) (Nat.le_of_ble_eq_true rfl) ?_
      refine c_within ?_
      refine rb_if_ne (pc := 29) (tgt := 35) dX6_hours_29 (by decide) (fun c29 => ?_) (fun c29 => ?_)
      · obtain ⟨fj, hf1, hf2, rfl⟩ := inR_t (by decide) (by omega) c29
        refine r_aload_n (pc := 35) dX6_hours_35 rfl ?_
        refine r_callV (pc := 36) (d' := 0) (k := 0) (As := []) (rest := []) dX6_hours_36 vX6_forget mX6_67 rfl rfl rfl (Nat.le_of_ble_eq_true rfl) (Nat.le_of_ble_eq_true rfl) ?_
        refine x_forget ?_
        refine r_aload_n (pc := 39) dX6_hours_39 rfl ?_
        refine r_getR (pc := 40) (r := 1) dX6_hours_40 fX6_12 rfl rfl ?_
        refine r_getR (pc := 43) (r := 6) dX6_hours_43 fX6_89 rfl rfl ?_
        refine r_iload_n (pc := 46) dX6_hours_46 rfl ?_
        refine r_iload_n (pc := 47) dX6_hours_47 rfl ?_
        refine r_iast (pc := 48) dX6_hours_48 rfl rfl (by omega) ?_
        refine r_aload_n (pc := 49) dX6_hours_49 rfl ?_
        refine r_getR (pc := 50) (r := 1) dX6_hours_50 fX6_12 rfl rfl ?_
        refine r_getR (pc := 53) (r := 7) dX6_hours_53 fX6_92 rfl rfl ?_
        refine r_iload_n (pc := 56) dX6_hours_56 rfl ?_
        refine r_iload_n (pc := 57) dX6_hours_57 rfl ?_
        refine r_iast (pc := 58) dX6_hours_58 rfl rfl (by omega) ?_
        refine r_iconst (pc := 59) (v := (nI (1))) dX6_hours_59 (by decide) ?_
        refine r_ireturn (pc := 60) dX6_hours_60 rfl (Or.inl rfl) rfl ?_
        have e9 : sp_hours σ (nI bj) (nI fj) (nI tj) = ((nI (1)), su (su σ 5 bj fj) 6 bj tj) := by
          rw [sp_hours, if_neg (by simp [c8]), if_pos ⟨by rw [inR_nat (by omega) (by decide) (by decide)]; simp; omega, by rw [inR_nat (by omega) (by decide) (by decide)]; simp; omega, by rw [nI_toInt (by omega), nI_toInt (by omega)]; omega⟩, bN_nI (by omega), bN_nI (by omega), bN_nI (by omega)]
          rfl
        rw [e9] at h
        exact h _ ⟨Xs_s6 (Xs_s5 (Xs_keep0 hX)), Xc_none rfl rfl⟩ ((keepM.I (keepM.I (keepM.I (keepM.I keepM.rf (by decide)) (by decide)) (by decide)) (by decide)))
      · refine r_bipush (pc := 32) (v := (-2)) dX6_hours_32 (by decide) ?_
        refine r_ireturn (pc := 34) dX6_hours_34 rfl (Or.inl rfl) rfl ?_
        have e9 : sp_hours σ (nI bj) f (nI tj) = ((-2), σ) := by
          rw [sp_hours, if_neg (by simp [c8]), if_neg ?_]
          intro q
          obtain ⟨q1, q2, q3⟩ := q
          rw [inR_iff, nI_toInt (by decide), nI_toInt (by decide)] at q1
          rw [inR_f, nI_toInt (by decide)] at c29
          omega
        rw [e9] at h
        exact h _ hI (keepM.rf)
  · refine r_iconst (pc := 11) (v := (-1)) dX6_hours_11 (by decide) ?_
    refine r_ireturn (pc := 12) dX6_hours_12 rfl (Or.inl rfl) rfl ?_
    have e9 : sp_hours σ b f t = ((-1), σ) := by
      simp [sp_hours, c8]
    rw [e9] at h
    exact h _ hI (keepM.rf)

set_option maxRecDepth 20000 in
set_option maxHeartbeats 4000000 in
theorem x_set {μ : Mem} {σ : Sg} {w v : Int32} {Q : Option Value → Mem → Prop} (hI : XI μ σ) (hO : Ok σ) (h : ∀ μ', XI μ' (sp_set σ w v).2 → keepM μ μ' → Q (some (.int (sp_set σ w v).1)) μ') : Sp iX6_set 1 [.ref 0, .int (w), .int (v)] μ Q := by
  refine Sp.of vX6_set.1 (Nat.le_of_ble_eq_true rfl) ?_
  show WP cX6_set (RX6, 4, (some .int), 1, none) 0 [(0, .ref 0), (1, .int (w)), (2, .int (v))] [] μ Q
  have hn := Ok_n hO
  have hX := hI.1
  have hC := hI.2
  refine r_iload_n (pc := 0) dX6_set_0 rfl ?_
  refine r_iconst (pc := 1) (v := (nI (0))) dX6_set_1 (by decide) ?_
  refine r_iconst (pc := 2) (v := (nI (2))) dX6_set_2 (by decide) ?_
  refine r_callS (pc := 3) (d' := 0) (As := [.int (w), .int (nI 0), .int (nI 2)]) (rest := []) dX6_set_3 sX6_isWithin mX6_59 rfl rfl (Nat.le_of_ble_eq_true rfl) (Nat.le_of_ble_eq_true rfl) ?_
  refine c_within ?_
  refine rb_if_eq (pc := 6) (tgt := 26) dX6_set_6 (by decide) (fun c6 => ?_) (fun c6 => ?_)
  · refine r_bipush (pc := 26) (v := (-2)) dX6_set_26 (by decide) ?_
    refine r_ireturn (pc := 28) dX6_set_28 rfl (Or.inl rfl) rfl ?_
    have e9 : sp_set σ w v = ((-2), σ) := by
      simp (decide := true) [sp_set, c6]
    rw [e9] at h
    exact h _ hI (keepM.rf)
  · obtain ⟨wj, hw1, hw2, rfl⟩ := inR_t (by decide) (by decide) c6
    rcases (show wj = 0 ∨ wj = 1 ∨ wj = 2 by omega) with rfl | rfl | rfl
    · refine r_iload_n (pc := 9) dX6_set_9 rfl ?_
      refine r_gets0 (pc := 10) dX6_set_10 fsX6_106 ?_
      refine r_iload_n (pc := 13) dX6_set_13 rfl ?_
      refine r_tld0 (pc := 14) (x := nI 0) dX6_set_14 rfl (by decide) (by decide) ?_
      refine r_gets1 (pc := 15) dX6_set_15 fsX6_109 ?_
      refine r_iload_n (pc := 18) dX6_set_18 rfl ?_
      refine r_tld1 (pc := 19) (x := nI 98) dX6_set_19 rfl (by decide) (by decide) ?_
      refine r_callS (pc := 20) (d' := 0) (As := [.int (v), .int (nI 0), .int (nI 98)]) (rest := []) dX6_set_20 sX6_isWithin mX6_59 rfl rfl (Nat.le_of_ble_eq_true rfl) (Nat.le_of_ble_eq_true rfl) ?_
      refine c_within ?_
      refine rb_if_ne (pc := 23) (tgt := 29) dX6_set_23 (by decide) (fun c23 => ?_) (fun c23 => ?_)
      · obtain ⟨vj, hv1, hv2, rfl⟩ := inR_t (by decide) (by decide) c23
        refine r_aload_n (pc := 29) dX6_set_29 rfl ?_
        refine r_callV (pc := 30) (d' := 0) (k := 0) (As := []) (rest := []) dX6_set_30 vX6_forget mX6_67 rfl rfl rfl (Nat.le_of_ble_eq_true rfl) (Nat.le_of_ble_eq_true rfl) ?_
        refine x_forget ?_
        refine r_aload_n (pc := 33) dX6_set_33 rfl ?_
        refine r_getR (pc := 34) (r := 1) dX6_set_34 fX6_12 rfl rfl ?_
        refine r_getR (pc := 37) (r := 9) dX6_set_37 fX6_112 rfl rfl ?_
        refine r_iload_n (pc := 40) dX6_set_40 rfl ?_
        refine r_iald (pc := 41) (x := (nI (σ 0 1))) dX6_set_41 rfl rfl (by omega) (Xs_fee (μ := μ) hX) ?_
        refine r_istore_n (pc := 42) (ls' := [(0, .ref 0), (1, .int (nI 0)), (2, .int (nI vj)), (3, .int (nI (σ 0 1)))]) dX6_set_42 (Nat.le_of_ble_eq_true rfl) rfl ?_
        refine r_aload_n (pc := 43) dX6_set_43 rfl ?_
        refine r_getR (pc := 44) (r := 1) dX6_set_44 fX6_12 rfl rfl ?_
        refine r_getR (pc := 47) (r := 9) dX6_set_47 fX6_112 rfl rfl ?_
        refine r_iload_n (pc := 50) dX6_set_50 rfl ?_
        refine r_iload_n (pc := 51) dX6_set_51 rfl ?_
        refine r_iast (pc := 52) dX6_set_52 rfl rfl (by omega) ?_
        refine r_iload_n (pc := 53) dX6_set_53 rfl ?_
        refine r_ireturn (pc := 54) dX6_set_54 rfl (Or.inl rfl) rfl ?_
        have e9 : sp_set σ (nI (0)) (nI vj) = ((nI (σ 0 1)), su σ 0 1 vj) := by
          simp (decide := true) [sp_set, c6, c23, bN_nI (show 0 < 2 ^ 31 by decide), bN_nI (show vj < 2 ^ 31 by omega)]
        rw [e9] at h
        exact h _ ⟨Xs_t0 (Xs_keep0 hX), Xc_none rfl rfl⟩ ((keepM.I (keepM.I (keepM.I keepM.rf (by decide)) (by decide)) (by decide)))
      · refine r_bipush (pc := 26) (v := (-2)) dX6_set_26 (by decide) ?_
        refine r_ireturn (pc := 28) dX6_set_28 rfl (Or.inl rfl) rfl ?_
        have e9 : sp_set σ (nI (0)) v = ((-2), σ) := by
          simp (decide := true) [sp_set, c6, c23]
        rw [e9] at h
        exact h _ hI (keepM.rf)
    · refine r_iload_n (pc := 9) dX6_set_9 rfl ?_
      refine r_gets0 (pc := 10) dX6_set_10 fsX6_106 ?_
      refine r_iload_n (pc := 13) dX6_set_13 rfl ?_
      refine r_tld0 (pc := 14) (x := nI 0) dX6_set_14 rfl (by decide) (by decide) ?_
      refine r_gets1 (pc := 15) dX6_set_15 fsX6_109 ?_
      refine r_iload_n (pc := 18) dX6_set_18 rfl ?_
      refine r_tld1 (pc := 19) (x := nI 99) dX6_set_19 rfl (by decide) (by decide) ?_
      refine r_callS (pc := 20) (d' := 0) (As := [.int (v), .int (nI 0), .int (nI 99)]) (rest := []) dX6_set_20 sX6_isWithin mX6_59 rfl rfl (Nat.le_of_ble_eq_true rfl) (Nat.le_of_ble_eq_true rfl) ?_
      refine c_within ?_
      refine rb_if_ne (pc := 23) (tgt := 29) dX6_set_23 (by decide) (fun c23 => ?_) (fun c23 => ?_)
      · obtain ⟨vj, hv1, hv2, rfl⟩ := inR_t (by decide) (by decide) c23
        refine r_aload_n (pc := 29) dX6_set_29 rfl ?_
        refine r_callV (pc := 30) (d' := 0) (k := 0) (As := []) (rest := []) dX6_set_30 vX6_forget mX6_67 rfl rfl rfl (Nat.le_of_ble_eq_true rfl) (Nat.le_of_ble_eq_true rfl) ?_
        refine x_forget ?_
        refine r_aload_n (pc := 33) dX6_set_33 rfl ?_
        refine r_getR (pc := 34) (r := 1) dX6_set_34 fX6_12 rfl rfl ?_
        refine r_getR (pc := 37) (r := 9) dX6_set_37 fX6_112 rfl rfl ?_
        refine r_iload_n (pc := 40) dX6_set_40 rfl ?_
        refine r_iald (pc := 41) (x := (nI (σ 0 2))) dX6_set_41 rfl rfl (by omega) (Xs_now (μ := μ) hX) ?_
        refine r_istore_n (pc := 42) (ls' := [(0, .ref 0), (1, .int (nI 1)), (2, .int (nI vj)), (3, .int (nI (σ 0 2)))]) dX6_set_42 (Nat.le_of_ble_eq_true rfl) rfl ?_
        refine r_aload_n (pc := 43) dX6_set_43 rfl ?_
        refine r_getR (pc := 44) (r := 1) dX6_set_44 fX6_12 rfl rfl ?_
        refine r_getR (pc := 47) (r := 9) dX6_set_47 fX6_112 rfl rfl ?_
        refine r_iload_n (pc := 50) dX6_set_50 rfl ?_
        refine r_iload_n (pc := 51) dX6_set_51 rfl ?_
        refine r_iast (pc := 52) dX6_set_52 rfl rfl (by omega) ?_
        refine r_iload_n (pc := 53) dX6_set_53 rfl ?_
        refine r_ireturn (pc := 54) dX6_set_54 rfl (Or.inl rfl) rfl ?_
        have e9 : sp_set σ (nI (1)) (nI vj) = ((nI (σ 0 2)), su σ 0 2 vj) := by
          simp (decide := true) [sp_set, c6, c23, bN_nI (show 1 < 2 ^ 31 by decide), bN_nI (show vj < 2 ^ 31 by omega)]
        rw [e9] at h
        exact h _ ⟨Xs_t1 (Xs_keep0 hX), Xc_none rfl rfl⟩ ((keepM.I (keepM.I (keepM.I keepM.rf (by decide)) (by decide)) (by decide)))
      · refine r_bipush (pc := 26) (v := (-2)) dX6_set_26 (by decide) ?_
        refine r_ireturn (pc := 28) dX6_set_28 rfl (Or.inl rfl) rfl ?_
        have e9 : sp_set σ (nI (1)) v = ((-2), σ) := by
          simp (decide := true) [sp_set, c6, c23]
        rw [e9] at h
        exact h _ hI (keepM.rf)
    · refine r_iload_n (pc := 9) dX6_set_9 rfl ?_
      refine r_gets0 (pc := 10) dX6_set_10 fsX6_106 ?_
      refine r_iload_n (pc := 13) dX6_set_13 rfl ?_
      refine r_tld0 (pc := 14) (x := nI 1) dX6_set_14 rfl (by decide) (by decide) ?_
      refine r_gets1 (pc := 15) dX6_set_15 fsX6_109 ?_
      refine r_iload_n (pc := 18) dX6_set_18 rfl ?_
      refine r_tld1 (pc := 19) (x := nI 98) dX6_set_19 rfl (by decide) (by decide) ?_
      refine r_callS (pc := 20) (d' := 0) (As := [.int (v), .int (nI 1), .int (nI 98)]) (rest := []) dX6_set_20 sX6_isWithin mX6_59 rfl rfl (Nat.le_of_ble_eq_true rfl) (Nat.le_of_ble_eq_true rfl) ?_
      refine c_within ?_
      refine rb_if_ne (pc := 23) (tgt := 29) dX6_set_23 (by decide) (fun c23 => ?_) (fun c23 => ?_)
      · obtain ⟨vj, hv1, hv2, rfl⟩ := inR_t (by decide) (by decide) c23
        refine r_aload_n (pc := 29) dX6_set_29 rfl ?_
        refine r_callV (pc := 30) (d' := 0) (k := 0) (As := []) (rest := []) dX6_set_30 vX6_forget mX6_67 rfl rfl rfl (Nat.le_of_ble_eq_true rfl) (Nat.le_of_ble_eq_true rfl) ?_
        refine x_forget ?_
        refine r_aload_n (pc := 33) dX6_set_33 rfl ?_
        refine r_getR (pc := 34) (r := 1) dX6_set_34 fX6_12 rfl rfl ?_
        refine r_getR (pc := 37) (r := 9) dX6_set_37 fX6_112 rfl rfl ?_
        refine r_iload_n (pc := 40) dX6_set_40 rfl ?_
        refine r_iald (pc := 41) (x := (nI (σ 0 3))) dX6_set_41 rfl rfl (by omega) (Xs_drop (μ := μ) hX) ?_
        refine r_istore_n (pc := 42) (ls' := [(0, .ref 0), (1, .int (nI 2)), (2, .int (nI vj)), (3, .int (nI (σ 0 3)))]) dX6_set_42 (Nat.le_of_ble_eq_true rfl) rfl ?_
        refine r_aload_n (pc := 43) dX6_set_43 rfl ?_
        refine r_getR (pc := 44) (r := 1) dX6_set_44 fX6_12 rfl rfl ?_
        refine r_getR (pc := 47) (r := 9) dX6_set_47 fX6_112 rfl rfl ?_
        refine r_iload_n (pc := 50) dX6_set_50 rfl ?_
        refine r_iload_n (pc := 51) dX6_set_51 rfl ?_
        refine r_iast (pc := 52) dX6_set_52 rfl rfl (by omega) ?_
        refine r_iload_n (pc := 53) dX6_set_53 rfl ?_
        refine r_ireturn (pc := 54) dX6_set_54 rfl (Or.inl rfl) rfl ?_
        have e9 : sp_set σ (nI (2)) (nI vj) = ((nI (σ 0 3)), su σ 0 3 vj) := by
          simp (decide := true) [sp_set, c6, c23, bN_nI (show 2 < 2 ^ 31 by decide), bN_nI (show vj < 2 ^ 31 by omega)]
        rw [e9] at h
        exact h _ ⟨Xs_t2 (Xs_keep0 hX), Xc_none rfl rfl⟩ ((keepM.I (keepM.I (keepM.I keepM.rf (by decide)) (by decide)) (by decide)))
      · refine r_bipush (pc := 26) (v := (-2)) dX6_set_26 (by decide) ?_
        refine r_ireturn (pc := 28) dX6_set_28 rfl (Or.inl rfl) rfl ?_
        have e9 : sp_set σ (nI (2)) v = ((-2), σ) := by
          simp (decide := true) [sp_set, c6, c23]
        rw [e9] at h
        exact h _ hI (keepM.rf)

set_option maxRecDepth 20000 in
set_option maxHeartbeats 4000000 in
theorem x_sadd {μ : Mem} {σ : Sg} {v : Nat} {Q : Option Value → Mem → Prop} (hX : Xs μ σ) (hO : Ok σ) (h80 : σ 0 4 < 80) (hv : v < 65536) (h : Q none (setI (setI μ 11 (σ 0 4) (nI v)) 10 1 (nI (σ 0 4 + 1)))) : Sp iX3_add 0 [.ref 10, .int (nI v)] μ Q := by
  refine Sp.of vX3_add.1 (Nat.le_of_ble_eq_true rfl) ?_
  show WP cX3_add (RX3, 2, none, 0, none) 0 [(0, .ref 10), (1, .int (nI v))] [] μ Q
  have hn := Ok_n hO
  refine r_aload_n (pc := 0) dX3_add_0 rfl ?_
  refine r_getI (pc := 1) (x := (nI (σ 0 4))) dX3_add_1 fX3_15 rfl rfl (Xs_sn (μ := μ) hX) ?_
  refine r_bipush (pc := 4) (v := (nI (80))) dX3_add_4 (by decide) ?_
  refine rn_icmp_ge (pc := 6) (tgt := 30) dX3_add_6 (by decide) (by omega) (by omega) (fun c6 => ?_) (fun c6 => ?_)
  · exact absurd h80 (by omega)
  · refine r_aload_n (pc := 9) dX3_add_9 rfl ?_
    refine r_getR (pc := 10) (r := 11) dX3_add_10 fX3_9 rfl rfl ?_
    refine r_aload_n (pc := 13) dX3_add_13 rfl ?_
    refine r_getI (pc := 14) (x := (nI (σ 0 4))) dX3_add_14 fX3_15 rfl rfl (Xs_sn (μ := μ) hX) ?_
    refine r_iload_n (pc := 17) dX3_add_17 rfl ?_
    refine r_i2c (pc := 18) (v := nI v) dX3_add_18 (c16N (by omega)) ?_
    refine r_cast (pc := 19) dX3_add_19 rfl rfl (by omega) (narC (by omega)) ?_
    refine r_aload_n (pc := 20) dX3_add_20 rfl ?_
    refine r_dup_r (pc := 21) dX3_add_21 ?_
    refine r_getI (pc := 22) (x := (nI (σ 0 4))) dX3_add_22 fX3_15 rfl rfl (Xs_sn (μ := μ) hX) ?_
    refine r_iconst (pc := 25) (v := (nI (1))) dX3_add_25 (by decide) ?_
    refine rn_iadd (pc := 26) dX3_add_26 ?_
    refine r_putI (pc := 27) dX3_add_27 gX3_15 rfl rfl rfl rfl ?_
    refine r_return (pc := 30) dX3_add_30 rfl ?_
    exact h

set_option maxRecDepth 20000 in
set_option maxHeartbeats 4000000 in
theorem x_say {μ : Mem} {σ : Sg} {v : Int32} {Q : Option Value → Mem → Prop} (hI : XI μ σ) (hO : Ok σ) (h : ∀ μ', XI μ' (sp_say σ v).2 → keepM μ μ' → Q (some (.int (sp_say σ v).1)) μ') : Sp iX6_say 1 [.ref 0, .int (v)] μ Q := by
  refine Sp.of vX6_say.1 (Nat.le_of_ble_eq_true rfl) ?_
  show WP cX6_say (RX6, 2, (some .int), 1, none) 0 [(0, .ref 0), (1, .int (v))] [] μ Q
  have hn := Ok_n hO
  have hX := hI.1
  have hC := hI.2
  refine r_iload_n (pc := 0) dX6_say_0 rfl ?_
  refine r_bipush (pc := 1) (v := (nI (33))) dX6_say_1 (by decide) ?_
  refine r_bipush (pc := 3) (v := (nI (126))) dX6_say_3 (by decide) ?_
  refine r_callS (pc := 5) (d' := 0) (As := [.int (v), .int (nI 33), .int (nI 126)]) (rest := []) dX6_say_5 sX6_isWithin mX6_59 rfl rfl (Nat.le_of_ble_eq_true rfl) (Nat.le_of_ble_eq_true rfl) ?_
  refine c_within ?_
  refine rb_if_ne (pc := 8) (tgt := 14) dX6_say_8 (by decide) (fun c8 => ?_) (fun c8 => ?_)
  · obtain ⟨vj, hv1, hv2, rfl⟩ := inR_t (by decide) (by decide) c8
    refine r_aload_n (pc := 14) dX6_say_14 rfl ?_
    refine r_getR (pc := 15) (r := 10) dX6_say_15 fX6_19 rfl rfl ?_
    refine r_getI (pc := 18) (x := (nI (σ 0 4))) dX6_say_18 fX6_115 rfl rfl (Xs_sn (μ := μ) hX) ?_
    refine r_bipush (pc := 21) (v := (nI (80))) dX6_say_21 (by decide) ?_
    refine rn_icmp_lt (pc := 23) (tgt := 29) dX6_say_23 (by decide) (by omega) (by omega) (fun c23 => ?_) (fun c23 => ?_)
    · have h80 : ¬ σ 0 4 = 80 := by omega
      refine r_aload_n (pc := 29) dX6_say_29 rfl ?_
      refine r_getR (pc := 30) (r := 10) dX6_say_30 fX6_19 rfl rfl ?_
      refine r_iload_n (pc := 33) dX6_say_33 rfl ?_
      refine r_callV (pc := 34) (d' := 0) (k := 10) (As := [.int (nI vj)]) (rest := []) dX6_say_34 vX3_add mX6_116 rfl rfl rfl (Nat.le_of_ble_eq_true rfl) (Nat.le_of_ble_eq_true rfl) ?_
      refine x_sadd hX hO (by omega) (by omega) ?_
      refine r_aload_n (pc := 37) dX6_say_37 rfl ?_
      refine r_getR (pc := 38) (r := 10) dX6_say_38 fX6_19 rfl rfl ?_
      refine r_getI (pc := 41) (x := (nI (σ 0 4 + 1))) dX6_say_41 fX6_115 rfl rfl rfl ?_
      refine r_ireturn (pc := 44) dX6_say_44 rfl (Or.inl rfl) rfl ?_
      have e9 : sp_say σ (nI vj) = ((nI (σ 0 4 + 1)), su (su σ 8 (σ 0 4) vj) 0 4 (σ 0 4 + 1)) := by
        simp [sp_say, c8, h80, bN_nI (show vj < 2 ^ 31 by omega)]
      rw [e9] at h
      exact h _ ⟨Xs_say hX, Xc_cong (σ := σ) ⟨rfl, rfl, rfl, rfl, rfl, rfl, rfl, rfl, rfl, rfl⟩ hC⟩ ((keepM.I (keepM.I keepM.rf (by decide)) (by decide)))
    · have h80 : σ 0 4 = 80 := by omega
      refine r_bipush (pc := 26) (v := (-4)) dX6_say_26 (by decide) ?_
      refine r_ireturn (pc := 28) dX6_say_28 rfl (Or.inl rfl) rfl ?_
      have e9 : sp_say σ (nI vj) = ((-4), σ) := by
        simp [sp_say, c8, h80]
      rw [e9] at h
      exact h _ hI (keepM.rf)
  · refine r_bipush (pc := 11) (v := (-2)) dX6_say_11 (by decide) ?_
    refine r_ireturn (pc := 13) dX6_say_13 rfl (Or.inl rfl) rfl ?_
    have e9 : sp_say σ v = ((-2), σ) := by
      simp [sp_say, c8]
    rw [e9] at h
    exact h _ hI (keepM.rf)

set_option maxRecDepth 20000 in
set_option maxHeartbeats 4000000 in
theorem x_wipe {μ : Mem} {σ : Sg} {Q : Option Value → Mem → Prop} (hI : XI μ σ) (hO : Ok σ) (h : ∀ μ', XI μ' (sp_wipe σ).2 → keepM μ μ' → Q (some (.int (sp_wipe σ).1)) μ') : Sp iX6_wipe 0 [.ref 0] μ Q := by
  refine Sp.of vX6_wipe.1 (Nat.le_of_ble_eq_true rfl) ?_
  show WP cX6_wipe (RX6, 2, (some .int), 0, none) 0 [(0, .ref 0)] [] μ Q
  have hn := Ok_n hO
  have hX := hI.1
  have hC := hI.2
  refine r_aload_n (pc := 0) dX6_wipe_0 rfl ?_
  refine r_getR (pc := 1) (r := 10) dX6_wipe_1 fX6_19 rfl rfl ?_
  refine r_getI (pc := 4) (x := (nI (σ 0 4))) dX6_wipe_4 fX6_115 rfl rfl (Xs_sn (μ := μ) hX) ?_
  refine r_istore_n (pc := 7) (ls' := [(0, .ref 0), (1, .int (nI (σ 0 4)))]) dX6_wipe_7 (Nat.le_of_ble_eq_true rfl) rfl ?_
  refine r_aload_n (pc := 8) dX6_wipe_8 rfl ?_
  refine r_getR (pc := 9) (r := 10) dX6_wipe_9 fX6_19 rfl rfl ?_
  refine r_iconst (pc := 12) (v := (nI (0))) dX6_wipe_12 (by decide) ?_
  refine r_putI (pc := 13) dX6_wipe_13 gX6_115 rfl rfl rfl rfl ?_
  refine r_iload_n (pc := 16) dX6_wipe_16 rfl ?_
  refine r_ireturn (pc := 17) dX6_wipe_17 rfl (Or.inl rfl) rfl ?_
  exact h _ ⟨Xs_w hX, Xc_cong (σ := σ) ⟨rfl, rfl, rfl, rfl, rfl, rfl, rfl, rfl, rfl, rfl⟩ hC⟩ ((keepM.I keepM.rf (by decide)))

set_option maxRecDepth 20000 in
set_option maxHeartbeats 4000000 in
theorem x_worth {μ : Mem} {σ : Sg} {c v : Int32} {Q : Option Value → Mem → Prop} (hI : XI μ σ) (hO : Ok σ) (h : ∀ μ', XI μ' (sp_worth σ c v).2 → keepM μ μ' → Q (some (.int (sp_worth σ c v).1)) μ') : Sp iX6_worth 1 [.ref 0, .int (c), .int (v)] μ Q := by
  refine Sp.of vX6_worth.1 (Nat.le_of_ble_eq_true rfl) ?_
  show WP cX6_worth (RX6, 4, (some .int), 1, none) 0 [(0, .ref 0), (1, .int (c)), (2, .int (v))] [] μ Q
  have hn := Ok_n hO
  have hX := hI.1
  have hC := hI.2
  refine r_iload_n (pc := 0) dX6_worth_0 rfl ?_
  refine r_callS (pc := 1) (d' := 0) (As := [.int (c)]) (rest := []) dX6_worth_1 sX6_isCoin mX6_55 rfl rfl (Nat.le_of_ble_eq_true rfl) (Nat.le_of_ble_eq_true rfl) ?_
  refine c_xcoin ?_
  refine rb_if_ne (pc := 4) (tgt := 9) dX6_worth_4 (by decide) (fun c4 => ?_) (fun c4 => ?_)
  · obtain ⟨cj, hcj, rfl, -⟩ := isB_t c4
    refine r_iload_n (pc := 9) dX6_worth_9 rfl ?_
    refine r_iconst (pc := 10) (v := (nI (1))) dX6_worth_10 (by decide) ?_
    refine r_ldc (pc := 11) dX6_worth_11 kX6_105 ?_
    refine r_eqi (y := nI 1000000) (by decide) ?_
    refine r_callS (pc := 13) (d' := 0) (As := [.int (v), .int (nI 1), .int (nI 1000000)]) (rest := []) dX6_worth_13 sX6_isWithin mX6_59 rfl rfl (Nat.le_of_ble_eq_true rfl) (Nat.le_of_ble_eq_true rfl) ?_
    refine c_within ?_
    refine rb_if_ne (pc := 16) (tgt := 22) dX6_worth_16 (by decide) (fun c16 => ?_) (fun c16 => ?_)
    · obtain ⟨vj, hv1, hv2, rfl⟩ := inR_t (by decide) (by decide) c16
      refine r_aload_n (pc := 22) dX6_worth_22 rfl ?_
      refine r_getR (pc := 23) (r := 39) dX6_worth_23 fX6_51 rfl rfl ?_
      refine r_iload_n (pc := 26) dX6_worth_26 rfl ?_
      refine r_iald (pc := 27) (x := (nI (σ 9 (cj)))) dX6_worth_27 rfl rfl (by omega) (Xs_9 (μ := μ) hX (by omega)) ?_
      have b1 := Ok_w hO (j := cj) (by omega)
      refine r_istore_n (pc := 28) (ls' := [(0, .ref 0), (1, .int (nI cj)), (2, .int (nI vj)), (3, .int (nI (σ 9 (cj))))]) dX6_worth_28 (Nat.le_of_ble_eq_true rfl) rfl ?_
      refine r_aload_n (pc := 29) dX6_worth_29 rfl ?_
      refine r_getR (pc := 30) (r := 39) dX6_worth_30 fX6_51 rfl rfl ?_
      refine r_iload_n (pc := 33) dX6_worth_33 rfl ?_
      refine r_iload_n (pc := 34) dX6_worth_34 rfl ?_
      refine r_iast (pc := 35) dX6_worth_35 rfl rfl (by omega) ?_
      refine r_iload_n (pc := 36) dX6_worth_36 rfl ?_
      refine r_ireturn (pc := 37) dX6_worth_37 rfl (Or.inl rfl) rfl ?_
      have e9 : sp_worth σ (nI cj) (nI vj) = ((nI (σ 9 (cj))), su σ 9 cj vj) := by
        simp [sp_worth, c4, c16, bN_nI (show cj < 2 ^ 31 by omega), bN_nI (show vj < 2 ^ 31 by omega)]
      rw [e9] at h
      exact h _ ⟨Xs_s9 hX, Xc_cong (σ := σ) ⟨rfl, rfl, rfl, rfl, rfl, rfl, rfl, rfl, rfl, rfl⟩ hC⟩ ((keepM.I keepM.rf (by decide)))
    · refine r_bipush (pc := 19) (v := (-2)) dX6_worth_19 (by decide) ?_
      refine r_ireturn (pc := 21) dX6_worth_21 rfl (Or.inl rfl) rfl ?_
      have e9 : sp_worth σ (nI cj) v = ((-2), σ) := by
        simp [sp_worth, c4, c16]
      rw [e9] at h
      exact h _ hI (keepM.rf)
  · refine r_iconst (pc := 7) (v := (-1)) dX6_worth_7 (by decide) ?_
    refine r_ireturn (pc := 8) dX6_worth_8 rfl (Or.inl rfl) rfl ?_
    have e9 : sp_worth σ c v = ((-1), σ) := by
      simp [sp_worth, c4]
    rw [e9] at h
    exact h _ hI (keepM.rf)

set_option maxRecDepth 20000 in
set_option maxHeartbeats 4000000 in
theorem x_obits_l {μ : Mem} {σ : Sg} {Q : Option Value → Mem → Prop} (hX : Xs μ σ) (hO : Ok σ) (h : Q (some (.int (nI (obits σ (σ 0 0))))) μ) : ∀ (k : Nat) (b : Nat), b + k = σ 0 0 → WP cX0_openBits (RX0, 3, (some .int), 2, none) 4 [(0, .ref 1), (1, .int (nI (obits σ b))), (2, .int (nI b))] [] μ Q := by
  intro k
  induction k using Nat.strongRecOn with
  | _ k ih =>
    intro b hb
    have hn := Ok_n hO
    refine r_iload_n (pc := 4) dX0_openBits_4 rfl ?_
    refine r_aload_n (pc := 5) dX0_openBits_5 rfl ?_
    refine r_getI (pc := 6) (x := (nI (σ 0 0))) dX0_openBits_6 fX0_36 rfl rfl (Xs_n (μ := μ) hX) ?_
    refine rn_icmp_ge (pc := 9) (tgt := 32) dX0_openBits_9 (by decide) (by omega) (by omega) (fun c9 => ?_) (fun c9 => ?_)
    · obtain rfl : b = σ 0 0 := by omega
      refine r_iload_n (pc := 32) dX0_openBits_32 rfl ?_
      refine r_ireturn (pc := 33) dX0_openBits_33 rfl (Or.inl rfl) rfl ?_
      exact h
    · refine r_aload_n (pc := 12) dX0_openBits_12 rfl ?_
      refine r_iload_n (pc := 13) dX0_openBits_13 rfl ?_
      refine r_callV (pc := 14) (d' := 1) (k := 1) (As := [.int (nI b)]) (rest := []) dX0_openBits_14 vX0_isOpen mX0_49 rfl rfl rfl (Nat.le_of_ble_eq_true rfl) (Nat.le_of_ble_eq_true rfl) ?_
      refine c_xopen (μ := μ) hX hO (by omega) ?_
      refine rb_if_eq (pc := 17) (tgt := 26) dX0_openBits_17 (by decide) (fun c17 => ?_) (fun c17 => ?_)
      · refine rn_iinc (pc := 26) (b := 1) (ls' := [(0, .ref 1), (1, .int (nI (obits σ b))), (2, .int (nI (b + 1)))]) dX0_openBits_26 rfl (by decide) (Nat.le_of_ble_eq_true rfl) rfl ?_
        refine r_goto (pc := 29) (tgt := 4) dX0_openBits_29 (by decide) ?_
        have e1 : obits σ b = obits σ (b + 1) := by simp [obits, c17]
        rw [e1]
        exact ih (k - 1) (by omega) (b + 1) (by omega)
      · refine r_iload_n (pc := 20) dX0_openBits_20 rfl ?_
        refine r_iconst (pc := 21) (v := (nI (1))) dX0_openBits_21 (by decide) ?_
        refine r_iload_n (pc := 22) dX0_openBits_22 rfl ?_
        refine r_ishl (pc := 23) dX0_openBits_23 ?_
        refine r_eqi (shl1 (by omega)) ?_
        refine r_ior (pc := 24) dX0_openBits_24 ?_
        refine r_eqi (nI_or _ _) ?_
        refine r_istore_n (pc := 25) (ls' := [(0, .ref 1), (1, .int (nI ((obits σ b) ||| (2 ^ b)))), (2, .int (nI b))]) dX0_openBits_25 (Nat.le_of_ble_eq_true rfl) rfl ?_
        refine rn_iinc (pc := 26) (b := 1) (ls' := [(0, .ref 1), (1, .int (nI ((obits σ b) ||| (2 ^ b)))), (2, .int (nI (b + 1)))]) dX0_openBits_26 rfl (by decide) (Nat.le_of_ble_eq_true rfl) rfl ?_
        refine r_goto (pc := 29) (tgt := 4) dX0_openBits_29 (by decide) ?_
        have e1 : (obits σ b) ||| (2 ^ b) = obits σ (b + 1) := by simp [obits, c17]
        rw [e1]
        exact ih (k - 1) (by omega) (b + 1) (by omega)

set_option maxRecDepth 20000 in
set_option maxHeartbeats 4000000 in
theorem x_obits {μ : Mem} {σ : Sg} {Q : Option Value → Mem → Prop} (hX : Xs μ σ) (hO : Ok σ) (h : Q (some (.int (nI (obits σ (σ 0 0))))) μ) : Sp iX0_openBits 2 [.ref 1] μ Q := by
  refine Sp.of vX0_openBits.1 (Nat.le_of_ble_eq_true rfl) ?_
  show WP cX0_openBits (RX0, 3, (some .int), 2, none) 0 [(0, .ref 1)] [] μ Q
  have hn := Ok_n hO
  refine r_iconst (pc := 0) (v := (nI (0))) dX0_openBits_0 (by decide) ?_
  refine r_istore_n (pc := 1) (ls' := [(0, .ref 1), (1, .int (nI 0))]) dX0_openBits_1 (Nat.le_of_ble_eq_true rfl) rfl ?_
  refine r_iconst (pc := 2) (v := (nI (0))) dX0_openBits_2 (by decide) ?_
  refine r_istore_n (pc := 3) (ls' := [(0, .ref 1), (1, .int (nI 0)), (2, .int (nI 0))]) dX0_openBits_3 (Nat.le_of_ble_eq_true rfl) rfl ?_
  exact x_obits_l hX hO h (σ 0 0) 0 (by omega)

set_option maxRecDepth 20000 in
set_option maxHeartbeats 4000000 in
theorem x_told {μ : Mem} {σ : Sg} {w : Int32} {Q : Option Value → Mem → Prop} (hI : XI μ σ) (hO : Ok σ) (h : ∀ μ', XI μ' σ → keepM μ μ' → Q (some (.int (sp_told σ w))) μ') : Sp iX6_told 3 [.ref 0, .int (w)] μ Q := by
  refine Sp.of vX6_told.1 (Nat.le_of_ble_eq_true rfl) ?_
  show WP cX6_told (RX6, 2, (some .int), 3, none) 0 [(0, .ref 0), (1, .int (w))] [] μ Q
  have hn := Ok_n hO
  have hX := hI.1
  have hC := hI.2
  refine r_iload_n (pc := 0) dX6_told_0 rfl ?_
  by_cases c1 : (w).toInt < 0 ∨ 5 < (w).toInt
  · refine r_tableOut (pc := 1) (tgt := 94) dX6_told_1 c1 (by decide) ?_
    refine r_bipush (pc := 94) (v := (-2)) dX6_told_94 (by decide) ?_
    refine r_ireturn (pc := 96) dX6_told_96 rfl (Or.inl rfl) rfl ?_
    rw [show sp_told σ w = -2 by rw [sp_told, if_neg (sw_out c1 (by decide) (by decide) : ¬ w = nI 0), if_neg (sw_out c1 (by decide) (by decide) : ¬ w = nI 1), if_neg (sw_out c1 (by decide) (by decide) : ¬ w = nI 2), if_neg (sw_out c1 (by decide) (by decide) : ¬ w = nI 3), if_neg (sw_out c1 (by decide) (by decide) : ¬ w = nI 4), if_neg (sw_out c1 (by decide) (by decide) : ¬ w = nI 5)]] at h
    exact h _ hI keepM.rf
  · obtain ⟨j1, hj2, e3⟩ := sw_cases (by decide) c1
    rcases (show j1 = 0 ∨ j1 = 1 ∨ j1 = 2 ∨ j1 = 3 ∨ j1 = 4 ∨ j1 = 5 by omega) with rfl | rfl | rfl | rfl | rfl | rfl
    · rw [e3]
      refine r_tableIn (pc := 1) (tgt := 40) (off := 39) dX6_told_1 (by decide) (by decide) (by decide) (by decide) ?_
      refine r_aload_n (pc := 40) dX6_told_40 rfl ?_
      refine r_getR (pc := 41) (r := 1) dX6_told_41 fX6_12 rfl rfl ?_
      refine r_getI (pc := 44) (x := (nI (σ 0 0))) dX6_told_44 fX6_63 rfl rfl (Xs_n (μ := μ) hX) ?_
      refine r_ireturn (pc := 47) dX6_told_47 rfl (Or.inl rfl) rfl ?_
      rw [show sp_told σ w = (nI (σ 0 0)) by rw [e3]; simp (decide := true) [sp_told]] at h
      exact h _ hI keepM.rf
    · rw [e3]
      refine r_tableIn (pc := 1) (tgt := 48) (off := 47) dX6_told_1 (by decide) (by decide) (by decide) (by decide) ?_
      refine r_aload_n (pc := 48) dX6_told_48 rfl ?_
      refine r_getR (pc := 49) (r := 10) dX6_told_49 fX6_19 rfl rfl ?_
      refine r_getI (pc := 52) (x := (nI (σ 0 4))) dX6_told_52 fX6_115 rfl rfl (Xs_sn (μ := μ) hX) ?_
      refine r_ireturn (pc := 55) dX6_told_55 rfl (Or.inl rfl) rfl ?_
      rw [show sp_told σ w = (nI (σ 0 4)) by rw [e3]; simp (decide := true) [sp_told]] at h
      exact h _ hI keepM.rf
    · rw [e3]
      refine r_tableIn (pc := 1) (tgt := 56) (off := 55) dX6_told_1 (by decide) (by decide) (by decide) (by decide) ?_
      refine r_aload_n (pc := 56) dX6_told_56 rfl ?_
      refine r_getR (pc := 57) (r := 1) dX6_told_57 fX6_12 rfl rfl ?_
      refine r_callV (pc := 60) (d' := 2) (k := 1) (As := []) (rest := []) dX6_told_60 vX0_openBits mX6_184 rfl rfl rfl (Nat.le_of_ble_eq_true rfl) (Nat.le_of_ble_eq_true rfl) ?_
      refine x_obits hX hO ?_
      refine r_ireturn (pc := 63) dX6_told_63 rfl (Or.inl rfl) rfl ?_
      rw [show sp_told σ w = (nI (obits σ (σ 0 0))) by rw [e3]; simp (decide := true) [sp_told]] at h
      exact h _ hI keepM.rf
    · rw [e3]
      refine r_tableIn (pc := 1) (tgt := 64) (off := 63) dX6_told_1 (by decide) (by decide) (by decide) (by decide) ?_
      refine r_aload_n (pc := 64) dX6_told_64 rfl ?_
      refine r_getR (pc := 65) (r := 1) dX6_told_65 fX6_12 rfl rfl ?_
      refine r_getR (pc := 68) (r := 9) dX6_told_68 fX6_112 rfl rfl ?_
      refine r_iconst (pc := 71) (v := (nI (0))) dX6_told_71 (by decide) ?_
      refine r_iald (pc := 72) (x := (nI (σ 0 1))) dX6_told_72 rfl rfl (by omega) (Xs_fee (μ := μ) hX) ?_
      refine r_ireturn (pc := 73) dX6_told_73 rfl (Or.inl rfl) rfl ?_
      rw [show sp_told σ w = (nI (σ 0 1)) by rw [e3]; simp (decide := true) [sp_told]] at h
      exact h _ hI keepM.rf
    · rw [e3]
      refine r_tableIn (pc := 1) (tgt := 74) (off := 73) dX6_told_1 (by decide) (by decide) (by decide) (by decide) ?_
      refine r_aload_n (pc := 74) dX6_told_74 rfl ?_
      refine r_getR (pc := 75) (r := 1) dX6_told_75 fX6_12 rfl rfl ?_
      refine r_getR (pc := 78) (r := 9) dX6_told_78 fX6_112 rfl rfl ?_
      refine r_iconst (pc := 81) (v := (nI (1))) dX6_told_81 (by decide) ?_
      refine r_iald (pc := 82) (x := (nI (σ 0 2))) dX6_told_82 rfl rfl (by omega) (Xs_now (μ := μ) hX) ?_
      refine r_ireturn (pc := 83) dX6_told_83 rfl (Or.inl rfl) rfl ?_
      rw [show sp_told σ w = (nI (σ 0 2)) by rw [e3]; simp (decide := true) [sp_told]] at h
      exact h _ hI keepM.rf
    · rw [e3]
      refine r_tableIn (pc := 1) (tgt := 84) (off := 83) dX6_told_1 (by decide) (by decide) (by decide) (by decide) ?_
      refine r_aload_n (pc := 84) dX6_told_84 rfl ?_
      refine r_getR (pc := 85) (r := 1) dX6_told_85 fX6_12 rfl rfl ?_
      refine r_getR (pc := 88) (r := 9) dX6_told_88 fX6_112 rfl rfl ?_
      refine r_iconst (pc := 91) (v := (nI (2))) dX6_told_91 (by decide) ?_
      refine r_iald (pc := 92) (x := (nI (σ 0 3))) dX6_told_92 rfl rfl (by omega) (Xs_drop (μ := μ) hX) ?_
      refine r_ireturn (pc := 93) dX6_told_93 rfl (Or.inl rfl) rfl ?_
      rw [show sp_told σ w = (nI (σ 0 3)) by rw [e3]; simp (decide := true) [sp_told]] at h
      exact h _ hI keepM.rf

set_option maxRecDepth 20000 in
set_option maxHeartbeats 4000000 in
theorem x_excess {μ : Mem} {σ : Sg} {b : Nat} {Q : Option Value → Mem → Prop} (hX : Xs μ σ) (hO : Ok σ) (hb : b < σ 0 0) (h : Q (some (.int (nI (upR (σ 4 b) (σ 0 1) * σ 9 (σ 3 b)) - nI (σ 2 b * σ 9 (σ 1 b))))) μ) : Sp iX6_excess 2 [.ref 0, .int (nI b)] μ Q := by
  refine Sp.of vX6_excess.1 (Nat.le_of_ble_eq_true rfl) ?_
  show WP cX6_excess (RX6, 2, (some .int), 2, none) 0 [(0, .ref 0), (1, .int (nI b))] [] μ Q
  have hn := Ok_n hO
  refine r_aload_n (pc := 0) dX6_excess_0 rfl ?_
  refine r_getR (pc := 1) (r := 1) dX6_excess_1 fX6_12 rfl rfl ?_
  refine r_iload_n (pc := 4) dX6_excess_4 rfl ?_
  refine r_callV (pc := 5) (d' := 1) (k := 1) (As := [.int (nI b)]) (rest := []) dX6_excess_5 vX0_upper mX6_101 rfl rfl rfl (Nat.le_of_ble_eq_true rfl) (Nat.le_of_ble_eq_true rfl) ?_
  refine c_xupper (μ := μ) hX hO (by omega) ?_
  refine r_aload_n (pc := 8) dX6_excess_8 rfl ?_
  refine r_getR (pc := 9) (r := 39) dX6_excess_9 fX6_51 rfl rfl ?_
  refine r_aload_n (pc := 12) dX6_excess_12 rfl ?_
  refine r_getR (pc := 13) (r := 1) dX6_excess_13 fX6_12 rfl rfl ?_
  refine r_getR (pc := 16) (r := 4) dX6_excess_16 fX6_83 rfl rfl ?_
  refine r_iload_n (pc := 19) dX6_excess_19 rfl ?_
  refine r_iald (pc := 20) (x := (nI (σ 3 (b)))) dX6_excess_20 rfl rfl (by omega) (Xs_3 (μ := μ) hX (by omega)) ?_
  have b1 := Ok_b hO (j := b) (by omega)
  refine r_iald (pc := 21) (x := (nI (σ 9 (σ 3 (b))))) dX6_excess_21 rfl rfl (by omega) (Xs_9 (μ := μ) hX (by omega)) ?_
  have b2 := Ok_w hO (j := σ 3 (b)) (by omega)
  refine rn_imul (pc := 22) dX6_excess_22 ?_
  refine r_aload_n (pc := 23) dX6_excess_23 rfl ?_
  refine r_getR (pc := 24) (r := 1) dX6_excess_24 fX6_12 rfl rfl ?_
  refine r_getR (pc := 27) (r := 3) dX6_excess_27 fX6_80 rfl rfl ?_
  refine r_iload_n (pc := 30) dX6_excess_30 rfl ?_
  refine r_iald (pc := 31) (x := (nI (σ 2 (b)))) dX6_excess_31 rfl rfl (by omega) (Xs_2 (μ := μ) hX (by omega)) ?_
  have b3 := Ok_b hO (j := b) (by omega)
  refine r_aload_n (pc := 32) dX6_excess_32 rfl ?_
  refine r_getR (pc := 33) (r := 39) dX6_excess_33 fX6_51 rfl rfl ?_
  refine r_aload_n (pc := 36) dX6_excess_36 rfl ?_
  refine r_getR (pc := 37) (r := 1) dX6_excess_37 fX6_12 rfl rfl ?_
  refine r_getR (pc := 40) (r := 2) dX6_excess_40 fX6_77 rfl rfl ?_
  refine r_iload_n (pc := 43) dX6_excess_43 rfl ?_
  refine r_iald (pc := 44) (x := (nI (σ 1 (b)))) dX6_excess_44 rfl rfl (by omega) (Xs_1 (μ := μ) hX (by omega)) ?_
  have b4 := Ok_b hO (j := b) (by omega)
  refine r_iald (pc := 45) (x := (nI (σ 9 (σ 1 (b))))) dX6_excess_45 rfl rfl (by omega) (Xs_9 (μ := μ) hX (by omega)) ?_
  have b5 := Ok_w hO (j := σ 1 (b)) (by omega)
  refine rn_imul (pc := 46) dX6_excess_46 ?_
  refine r_isub (pc := 47) dX6_excess_47 ?_
  refine r_ireturn (pc := 48) dX6_excess_48 rfl (Or.inl rfl) rfl ?_
  exact h

set_option maxRecDepth 20000 in
set_option maxHeartbeats 4000000 in
theorem m_off_l {μ : Mem} {σ : Sg} {w : Int32} {Q : Option Value → Mem → Prop} (hM : Ms μ σ) (hO : Ok σ) (h : ∀ μ', Ms μ' σ → keepX μ μ' → Q (some (.int (sp_off σ w))) μ') : ∀ (k : Nat) (b : Nat), b + k = σ 0 0 → inR w (nI 0) (nI 3) = true → WP cX7_off (RX7, 7, (some .int), 2, none) 23 [(0, .ref 40), (1, .int (w)), (2, .int (og σ b)), (3, .int (ow σ b)), (4, .int (nI (os σ b))), (5, .int (nI b))] [] μ Q := by
  intro k
  induction k using Nat.strongRecOn with
  | _ k ih =>
    intro b hb hw
    have hn := Ok_n hO
    have hos := os_lt σ (σ 0 0)
    have hp : 2 ^ σ 0 0 ≤ 2 ^ 12 := Nat.pow_le_pow_right (by decide) (by omega)
    refine r_iload (pc := 23) dX7_off_23 rfl ?_
    refine r_aload_n (pc := 25) dX7_off_25 rfl ?_
    refine r_getI (pc := 26) (x := (nI (σ 0 0))) dX7_off_26 fX7_81 rfl rfl (Ms_n (μ := μ) hM) ?_
    refine rn_icmp_ge (pc := 29) (tgt := 137) dX7_off_29 (by decide) (by omega) (by omega) (fun c29 => ?_) (fun c29 => ?_)
    · obtain rfl : b = σ 0 0 := by omega
      refine r_iload_n (pc := 137) dX7_off_137 rfl ?_
      refine r_if_ne (pc := 138) (tgt := 145) dX7_off_138 (by decide) (fun c138 => ?_) (fun c138 => ?_)
      · refine r_iload_n (pc := 145) dX7_off_145 rfl ?_
        refine r_iconst (pc := 146) (v := (nI (1))) dX7_off_146 (by decide) ?_
        refine r_icmp_ne (pc := 147) (tgt := 154) dX7_off_147 (by decide) (fun c147 => ?_) (fun c147 => ?_)
        · refine r_iload_n (pc := 154) dX7_off_154 rfl ?_
          refine r_iconst (pc := 155) (v := (nI (2))) dX7_off_155 (by decide) ?_
          refine r_icmp_ne (pc := 156) (tgt := 172) dX7_off_156 (by decide) (fun c156 => ?_) (fun c156 => ?_)
          · refine r_iload (pc := 172) dX7_off_172 rfl ?_
            refine r_ireturn (pc := 174) dX7_off_174 rfl (Or.inl rfl) rfl ?_
            rw [← nI_0] at c138
            have e9 : sp_off σ w = (nI (os σ (σ 0 0))) := by simp (decide := true) [sp_off, hw, c138, c147, c156]
            rw [e9] at h
            exact h _ hM keepX.rf
          · refine r_iload (pc := 159) dX7_off_159 rfl ?_
            refine rn_if_ne (pc := 161) (tgt := 168) dX7_off_161 (by decide) (by omega) (fun c161 => ?_) (fun c161 => ?_)
            · refine r_iconst (pc := 168) (v := (nI (0))) dX7_off_168 (by decide) ?_
              refine r_goto (pc := 169) (tgt := 174) dX7_off_169 (by decide) ?_
              refine r_ireturn (pc := 174) dX7_off_174 rfl (Or.inl rfl) rfl ?_
              rw [← nI_0] at c138
              have e9 : sp_off σ w = (nI (0)) := by simp (decide := true) [sp_off, hw, c138, c147, c156, c161]
              rw [e9] at h
              exact h _ hM keepX.rf
            · refine r_iconst (pc := 164) (v := (nI (1))) dX7_off_164 (by decide) ?_
              refine r_goto (pc := 165) (tgt := 174) dX7_off_165 (by decide) ?_
              refine r_ireturn (pc := 174) dX7_off_174 rfl (Or.inl rfl) rfl ?_
              rw [← nI_0] at c138
              have e9 : sp_off σ w = (nI (1)) := by simp (decide := true) [sp_off, hw, c138, c147, c156, c161]
              rw [e9] at h
              exact h _ hM keepX.rf
        · refine r_iload_n (pc := 150) dX7_off_150 rfl ?_
          refine r_goto (pc := 151) (tgt := 174) dX7_off_151 (by decide) ?_
          refine r_ireturn (pc := 174) dX7_off_174 rfl (Or.inl rfl) rfl ?_
          rw [← nI_0] at c138
          have e9 : sp_off σ w = ow σ (σ 0 0) := by simp (decide := true) [sp_off, hw, c138, c147]
          rw [e9] at h
          exact h _ hM keepX.rf
      · refine r_iload_n (pc := 141) dX7_off_141 rfl ?_
        refine r_goto (pc := 142) (tgt := 174) dX7_off_142 (by decide) ?_
        refine r_ireturn (pc := 174) dX7_off_174 rfl (Or.inl rfl) rfl ?_
        rw [← nI_0] at c138
        have e9 : sp_off σ w = og σ (σ 0 0) := by simp (decide := true) [sp_off, hw, c138]
        rw [e9] at h
        exact h _ hM keepX.rf
    · refine r_aload_n (pc := 32) dX7_off_32 rfl ?_
      refine r_iload (pc := 33) dX7_off_33 rfl ?_
      refine r_callV (pc := 35) (d' := 1) (k := 40) (As := [.int (nI b)]) (rest := []) dX7_off_35 vX7_isOpen mX7_97 rfl rfl rfl (Nat.le_of_ble_eq_true rfl) (Nat.le_of_ble_eq_true rfl) ?_
      refine c_mopen (μ := μ) hM hO (by omega) ?_
      refine rb_if_eq (pc := 38) (tgt := 84) dX7_off_38 (by decide) (fun c38 => ?_) (fun c38 => ?_)
      · refine r_iconst (pc := 84) (v := (nI (0))) dX7_off_84 (by decide) ?_
        refine r_eqi (y := ov σ b) (by rw [ov, if_neg (by rw [c38]; decide)]) ?_
        refine r_istore (pc := 85) (ls' := [(0, .ref 40), (1, .int (w)), (2, .int (og σ b)), (3, .int (ow σ b)), (4, .int (nI (os σ b))), (5, .int (nI b)), (6, .int (ov σ b))]) dX7_off_85 (Nat.le_of_ble_eq_true rfl) rfl ?_
        refine r_iload (pc := 87) dX7_off_87 rfl ?_
        refine r_iload (pc := 89) dX7_off_89 rfl ?_
        refine r_if_le (pc := 91) (tgt := 101) dX7_off_91 (by decide) (fun c91 => ?_) (fun c91 => ?_)
        · refine r_iconst (pc := 101) (v := (nI (0))) dX7_off_101 (by decide) ?_
          refine r_ior (pc := 102) dX7_off_102 ?_
          refine r_eqi (nI_or _ _) ?_
          refine r_istore (pc := 103) (ls' := [(0, .ref 40), (1, .int (w)), (2, .int (og σ b)), (3, .int (ow σ b)), (4, .int (nI ((os σ b) ||| (0)))), (5, .int (nI b)), (6, .int (ov σ b))]) dX7_off_103 (Nat.le_of_ble_eq_true rfl) rfl ?_
          refine r_iload (pc := 105) dX7_off_105 rfl ?_
          refine r_iload_n (pc := 107) dX7_off_107 rfl ?_
          refine r_icmp_le (pc := 108) (tgt := 116) dX7_off_108 (by decide) (fun c108 => ?_) (fun c108 => ?_)
          · refine r_iload_n (pc := 116) dX7_off_116 rfl ?_
            refine r_istore_n (pc := 117) (ls' := [(0, .ref 40), (1, .int (w)), (2, .int (og σ b)), (3, .int (ow σ b)), (4, .int (nI ((os σ b) ||| (0)))), (5, .int (nI b)), (6, .int (ov σ b))]) dX7_off_117 (Nat.le_of_ble_eq_true rfl) rfl ?_
            refine r_iload (pc := 118) dX7_off_118 rfl ?_
            refine r_iload_n (pc := 120) dX7_off_120 rfl ?_
            refine r_icmp_le (pc := 121) (tgt := 129) dX7_off_121 (by decide) (fun c121 => ?_) (fun c121 => ?_)
            · refine r_iload_n (pc := 129) dX7_off_129 rfl ?_
              refine r_istore_n (pc := 130) (ls' := [(0, .ref 40), (1, .int (w)), (2, .int (og σ b)), (3, .int (ow σ b)), (4, .int (nI ((os σ b) ||| (0)))), (5, .int (nI b)), (6, .int (ov σ b))]) dX7_off_130 (Nat.le_of_ble_eq_true rfl) rfl ?_
              refine rn_iinc (pc := 131) (b := 1) (ls' := [(0, .ref 40), (1, .int (w)), (2, .int (og σ b)), (3, .int (ow σ b)), (4, .int (nI ((os σ b) ||| (0)))), (5, .int (nI (b + 1))), (6, .int (ov σ b))]) dX7_off_131 rfl (by decide) (Nat.le_of_ble_eq_true rfl) rfl ?_
              refine r_goto (pc := 134) (tgt := 23) dX7_off_134 (by decide) ?_
              have e2 : og σ (b + 1) = og σ b := by rw [og]; exact if_pos c108
              have e3 : ow σ (b + 1) = ow σ b := by rw [ow]; exact if_pos c108
              have e4 : os σ (b + 1) = (os σ b) ||| (0) := by rw [os, if_pos c91]
              rw [← e2, ← e3, ← e4]
              refine r_pick [0, 1, 2, 3, 4, 5] rfl ?_
              exact ih (k - 1) (by omega) (b + 1) (by omega) hw
            · refine r_iload (pc := 124) dX7_off_124 rfl ?_
              refine r_goto (pc := 126) (tgt := 130) dX7_off_126 (by decide) ?_
              refine r_istore_n (pc := 130) (ls' := [(0, .ref 40), (1, .int (w)), (2, .int (ov σ b)), (3, .int (ow σ b)), (4, .int (nI ((os σ b) ||| (0)))), (5, .int (nI b)), (6, .int (ov σ b))]) dX7_off_130 (Nat.le_of_ble_eq_true rfl) rfl ?_
              refine rn_iinc (pc := 131) (b := 1) (ls' := [(0, .ref 40), (1, .int (w)), (2, .int (ov σ b)), (3, .int (ow σ b)), (4, .int (nI ((os σ b) ||| (0)))), (5, .int (nI (b + 1))), (6, .int (ov σ b))]) dX7_off_131 rfl (by decide) (Nat.le_of_ble_eq_true rfl) rfl ?_
              refine r_goto (pc := 134) (tgt := 23) dX7_off_134 (by decide) ?_
              exact absurd c108 c121
          · refine r_iload (pc := 111) dX7_off_111 rfl ?_
            refine r_goto (pc := 113) (tgt := 117) dX7_off_113 (by decide) ?_
            refine r_istore_n (pc := 117) (ls' := [(0, .ref 40), (1, .int (w)), (2, .int (og σ b)), (3, .int (nI b)), (4, .int (nI ((os σ b) ||| (0)))), (5, .int (nI b)), (6, .int (ov σ b))]) dX7_off_117 (Nat.le_of_ble_eq_true rfl) rfl ?_
            refine r_iload (pc := 118) dX7_off_118 rfl ?_
            refine r_iload_n (pc := 120) dX7_off_120 rfl ?_
            refine r_icmp_le (pc := 121) (tgt := 129) dX7_off_121 (by decide) (fun c121 => ?_) (fun c121 => ?_)
            · refine r_iload_n (pc := 129) dX7_off_129 rfl ?_
              refine r_istore_n (pc := 130) (ls' := [(0, .ref 40), (1, .int (w)), (2, .int (og σ b)), (3, .int (nI b)), (4, .int (nI ((os σ b) ||| (0)))), (5, .int (nI b)), (6, .int (ov σ b))]) dX7_off_130 (Nat.le_of_ble_eq_true rfl) rfl ?_
              refine rn_iinc (pc := 131) (b := 1) (ls' := [(0, .ref 40), (1, .int (w)), (2, .int (og σ b)), (3, .int (nI b)), (4, .int (nI ((os σ b) ||| (0)))), (5, .int (nI (b + 1))), (6, .int (ov σ b))]) dX7_off_131 rfl (by decide) (Nat.le_of_ble_eq_true rfl) rfl ?_
              refine r_goto (pc := 134) (tgt := 23) dX7_off_134 (by decide) ?_
              exact absurd c121 c108
            · refine r_iload (pc := 124) dX7_off_124 rfl ?_
              refine r_goto (pc := 126) (tgt := 130) dX7_off_126 (by decide) ?_
              refine r_istore_n (pc := 130) (ls' := [(0, .ref 40), (1, .int (w)), (2, .int (ov σ b)), (3, .int (nI b)), (4, .int (nI ((os σ b) ||| (0)))), (5, .int (nI b)), (6, .int (ov σ b))]) dX7_off_130 (Nat.le_of_ble_eq_true rfl) rfl ?_
              refine rn_iinc (pc := 131) (b := 1) (ls' := [(0, .ref 40), (1, .int (w)), (2, .int (ov σ b)), (3, .int (nI b)), (4, .int (nI ((os σ b) ||| (0)))), (5, .int (nI (b + 1))), (6, .int (ov σ b))]) dX7_off_131 rfl (by decide) (Nat.le_of_ble_eq_true rfl) rfl ?_
              refine r_goto (pc := 134) (tgt := 23) dX7_off_134 (by decide) ?_
              have e2 : og σ (b + 1) = ov σ b := by rw [og]; exact if_neg c108
              have e3 : ow σ (b + 1) = (nI (b)) := by rw [ow]; exact if_neg c108
              have e4 : os σ (b + 1) = (os σ b) ||| (0) := by rw [os, if_pos c91]
              rw [← e2, ← e3, ← e4]
              refine r_pick [0, 1, 2, 3, 4, 5] rfl ?_
              exact ih (k - 1) (by omega) (b + 1) (by omega) hw
        · refine r_iconst (pc := 94) (v := (nI (1))) dX7_off_94 (by decide) ?_
          refine r_iload (pc := 95) dX7_off_95 rfl ?_
          refine r_ishl (pc := 97) dX7_off_97 ?_
          refine r_eqi (shl1 (by omega)) ?_
          refine r_goto (pc := 98) (tgt := 102) dX7_off_98 (by decide) ?_
          refine r_ior (pc := 102) dX7_off_102 ?_
          refine r_eqi (nI_or _ _) ?_
          refine r_istore (pc := 103) (ls' := [(0, .ref 40), (1, .int (w)), (2, .int (og σ b)), (3, .int (ow σ b)), (4, .int (nI ((os σ b) ||| (2 ^ b)))), (5, .int (nI b)), (6, .int (ov σ b))]) dX7_off_103 (Nat.le_of_ble_eq_true rfl) rfl ?_
          refine r_iload (pc := 105) dX7_off_105 rfl ?_
          refine r_iload_n (pc := 107) dX7_off_107 rfl ?_
          refine r_icmp_le (pc := 108) (tgt := 116) dX7_off_108 (by decide) (fun c108 => ?_) (fun c108 => ?_)
          · refine r_iload_n (pc := 116) dX7_off_116 rfl ?_
            refine r_istore_n (pc := 117) (ls' := [(0, .ref 40), (1, .int (w)), (2, .int (og σ b)), (3, .int (ow σ b)), (4, .int (nI ((os σ b) ||| (2 ^ b)))), (5, .int (nI b)), (6, .int (ov σ b))]) dX7_off_117 (Nat.le_of_ble_eq_true rfl) rfl ?_
            refine r_iload (pc := 118) dX7_off_118 rfl ?_
            refine r_iload_n (pc := 120) dX7_off_120 rfl ?_
            refine r_icmp_le (pc := 121) (tgt := 129) dX7_off_121 (by decide) (fun c121 => ?_) (fun c121 => ?_)
            · refine r_iload_n (pc := 129) dX7_off_129 rfl ?_
              refine r_istore_n (pc := 130) (ls' := [(0, .ref 40), (1, .int (w)), (2, .int (og σ b)), (3, .int (ow σ b)), (4, .int (nI ((os σ b) ||| (2 ^ b)))), (5, .int (nI b)), (6, .int (ov σ b))]) dX7_off_130 (Nat.le_of_ble_eq_true rfl) rfl ?_
              refine rn_iinc (pc := 131) (b := 1) (ls' := [(0, .ref 40), (1, .int (w)), (2, .int (og σ b)), (3, .int (ow σ b)), (4, .int (nI ((os σ b) ||| (2 ^ b)))), (5, .int (nI (b + 1))), (6, .int (ov σ b))]) dX7_off_131 rfl (by decide) (Nat.le_of_ble_eq_true rfl) rfl ?_
              refine r_goto (pc := 134) (tgt := 23) dX7_off_134 (by decide) ?_
              have e2 : og σ (b + 1) = og σ b := by rw [og]; exact if_pos c108
              have e3 : ow σ (b + 1) = ow σ b := by rw [ow]; exact if_pos c108
              have e4 : os σ (b + 1) = (os σ b) ||| (2 ^ b) := by rw [os, if_neg c91]
              rw [← e2, ← e3, ← e4]
              refine r_pick [0, 1, 2, 3, 4, 5] rfl ?_
              exact ih (k - 1) (by omega) (b + 1) (by omega) hw
            · refine r_iload (pc := 124) dX7_off_124 rfl ?_
              refine r_goto (pc := 126) (tgt := 130) dX7_off_126 (by decide) ?_
              refine r_istore_n (pc := 130) (ls' := [(0, .ref 40), (1, .int (w)), (2, .int (ov σ b)), (3, .int (ow σ b)), (4, .int (nI ((os σ b) ||| (2 ^ b)))), (5, .int (nI b)), (6, .int (ov σ b))]) dX7_off_130 (Nat.le_of_ble_eq_true rfl) rfl ?_
              refine rn_iinc (pc := 131) (b := 1) (ls' := [(0, .ref 40), (1, .int (w)), (2, .int (ov σ b)), (3, .int (ow σ b)), (4, .int (nI ((os σ b) ||| (2 ^ b)))), (5, .int (nI (b + 1))), (6, .int (ov σ b))]) dX7_off_131 rfl (by decide) (Nat.le_of_ble_eq_true rfl) rfl ?_
              refine r_goto (pc := 134) (tgt := 23) dX7_off_134 (by decide) ?_
              exact absurd c108 c121
          · refine r_iload (pc := 111) dX7_off_111 rfl ?_
            refine r_goto (pc := 113) (tgt := 117) dX7_off_113 (by decide) ?_
            refine r_istore_n (pc := 117) (ls' := [(0, .ref 40), (1, .int (w)), (2, .int (og σ b)), (3, .int (nI b)), (4, .int (nI ((os σ b) ||| (2 ^ b)))), (5, .int (nI b)), (6, .int (ov σ b))]) dX7_off_117 (Nat.le_of_ble_eq_true rfl) rfl ?_
            refine r_iload (pc := 118) dX7_off_118 rfl ?_
            refine r_iload_n (pc := 120) dX7_off_120 rfl ?_
            refine r_icmp_le (pc := 121) (tgt := 129) dX7_off_121 (by decide) (fun c121 => ?_) (fun c121 => ?_)
            · refine r_iload_n (pc := 129) dX7_off_129 rfl ?_
              refine r_istore_n (pc := 130) (ls' := [(0, .ref 40), (1, .int (w)), (2, .int (og σ b)), (3, .int (nI b)), (4, .int (nI ((os σ b) ||| (2 ^ b)))), (5, .int (nI b)), (6, .int (ov σ b))]) dX7_off_130 (Nat.le_of_ble_eq_true rfl) rfl ?_
              refine rn_iinc (pc := 131) (b := 1) (ls' := [(0, .ref 40), (1, .int (w)), (2, .int (og σ b)), (3, .int (nI b)), (4, .int (nI ((os σ b) ||| (2 ^ b)))), (5, .int (nI (b + 1))), (6, .int (ov σ b))]) dX7_off_131 rfl (by decide) (Nat.le_of_ble_eq_true rfl) rfl ?_
              refine r_goto (pc := 134) (tgt := 23) dX7_off_134 (by decide) ?_
              exact absurd c121 c108
            · refine r_iload (pc := 124) dX7_off_124 rfl ?_
              refine r_goto (pc := 126) (tgt := 130) dX7_off_126 (by decide) ?_
              refine r_istore_n (pc := 130) (ls' := [(0, .ref 40), (1, .int (w)), (2, .int (ov σ b)), (3, .int (nI b)), (4, .int (nI ((os σ b) ||| (2 ^ b)))), (5, .int (nI b)), (6, .int (ov σ b))]) dX7_off_130 (Nat.le_of_ble_eq_true rfl) rfl ?_
              refine rn_iinc (pc := 131) (b := 1) (ls' := [(0, .ref 40), (1, .int (w)), (2, .int (ov σ b)), (3, .int (nI b)), (4, .int (nI ((os σ b) ||| (2 ^ b)))), (5, .int (nI (b + 1))), (6, .int (ov σ b))]) dX7_off_131 rfl (by decide) (Nat.le_of_ble_eq_true rfl) rfl ?_
              refine r_goto (pc := 134) (tgt := 23) dX7_off_134 (by decide) ?_
              have e2 : og σ (b + 1) = ov σ b := by rw [og]; exact if_neg c108
              have e3 : ow σ (b + 1) = (nI (b)) := by rw [ow]; exact if_neg c108
              have e4 : os σ (b + 1) = (os σ b) ||| (2 ^ b) := by rw [os, if_neg c91]
              rw [← e2, ← e3, ← e4]
              refine r_pick [0, 1, 2, 3, 4, 5] rfl ?_
              exact ih (k - 1) (by omega) (b + 1) (by omega) hw
      · refine r_aload_n (pc := 41) dX7_off_41 rfl ?_
        refine r_iload (pc := 42) dX7_off_42 rfl ?_
        refine r_callV (pc := 44) (d' := 0) (k := 40) (As := [.int (nI b)]) (rest := []) dX7_off_44 vX7_upper mX7_100 rfl rfl rfl (Nat.le_of_ble_eq_true rfl) (Nat.le_of_ble_eq_true rfl) ?_
        refine c_mupper (μ := μ) hM hO (by omega) ?_
        refine r_aload_n (pc := 47) dX7_off_47 rfl ?_
        refine r_getR (pc := 48) (r := 50) dX7_off_48 fX7_37 rfl rfl ?_
        refine r_aload_n (pc := 51) dX7_off_51 rfl ?_
        refine r_getR (pc := 52) (r := 43) dX7_off_52 fX7_16 rfl rfl ?_
        refine r_iload (pc := 55) dX7_off_55 rfl ?_
        refine r_iald (pc := 57) (x := (nI (σ 3 (b)))) dX7_off_57 rfl rfl (by omega) (Ms_3 (μ := μ) hM (by omega)) ?_
        have b1 := Ok_b hO (j := b) (by omega)
        refine r_iald (pc := 58) (x := (nI (σ 9 (σ 3 (b))))) dX7_off_58 rfl rfl (by omega) (Ms_9 (μ := μ) hM (by omega)) ?_
        have b2 := Ok_w hO (j := σ 3 (b)) (by omega)
        refine rn_imul (pc := 59) dX7_off_59 ?_
        refine r_aload_n (pc := 60) dX7_off_60 rfl ?_
        refine r_getR (pc := 61) (r := 42) dX7_off_61 fX7_13 rfl rfl ?_
        refine r_iload (pc := 64) dX7_off_64 rfl ?_
        refine r_iald (pc := 66) (x := (nI (σ 2 (b)))) dX7_off_66 rfl rfl (by omega) (Ms_2 (μ := μ) hM (by omega)) ?_
        have b3 := Ok_b hO (j := b) (by omega)
        refine r_aload_n (pc := 67) dX7_off_67 rfl ?_
        refine r_getR (pc := 68) (r := 50) dX7_off_68 fX7_37 rfl rfl ?_
        refine r_aload_n (pc := 71) dX7_off_71 rfl ?_
        refine r_getR (pc := 72) (r := 41) dX7_off_72 fX7_7 rfl rfl ?_
        refine r_iload (pc := 75) dX7_off_75 rfl ?_
        refine r_iald (pc := 77) (x := (nI (σ 1 (b)))) dX7_off_77 rfl rfl (by omega) (Ms_1 (μ := μ) hM (by omega)) ?_
        have b4 := Ok_b hO (j := b) (by omega)
        refine r_iald (pc := 78) (x := (nI (σ 9 (σ 1 (b))))) dX7_off_78 rfl rfl (by omega) (Ms_9 (μ := μ) hM (by omega)) ?_
        have b5 := Ok_w hO (j := σ 1 (b)) (by omega)
        refine rn_imul (pc := 79) dX7_off_79 ?_
        refine r_isub (pc := 80) dX7_off_80 ?_
        refine r_goto (pc := 81) (tgt := 85) dX7_off_81 (by decide) ?_
        refine r_eqi (y := ov σ b) (by rw [ov, if_pos c38]) ?_
        refine r_istore (pc := 85) (ls' := [(0, .ref 40), (1, .int (w)), (2, .int (og σ b)), (3, .int (ow σ b)), (4, .int (nI (os σ b))), (5, .int (nI b)), (6, .int (ov σ b))]) dX7_off_85 (Nat.le_of_ble_eq_true rfl) rfl ?_
        refine r_iload (pc := 87) dX7_off_87 rfl ?_
        refine r_iload (pc := 89) dX7_off_89 rfl ?_
        refine r_if_le (pc := 91) (tgt := 101) dX7_off_91 (by decide) (fun c91 => ?_) (fun c91 => ?_)
        · refine r_iconst (pc := 101) (v := (nI (0))) dX7_off_101 (by decide) ?_
          refine r_ior (pc := 102) dX7_off_102 ?_
          refine r_eqi (nI_or _ _) ?_
          refine r_istore (pc := 103) (ls' := [(0, .ref 40), (1, .int (w)), (2, .int (og σ b)), (3, .int (ow σ b)), (4, .int (nI ((os σ b) ||| (0)))), (5, .int (nI b)), (6, .int (ov σ b))]) dX7_off_103 (Nat.le_of_ble_eq_true rfl) rfl ?_
          refine r_iload (pc := 105) dX7_off_105 rfl ?_
          refine r_iload_n (pc := 107) dX7_off_107 rfl ?_
          refine r_icmp_le (pc := 108) (tgt := 116) dX7_off_108 (by decide) (fun c108 => ?_) (fun c108 => ?_)
          · refine r_iload_n (pc := 116) dX7_off_116 rfl ?_
            refine r_istore_n (pc := 117) (ls' := [(0, .ref 40), (1, .int (w)), (2, .int (og σ b)), (3, .int (ow σ b)), (4, .int (nI ((os σ b) ||| (0)))), (5, .int (nI b)), (6, .int (ov σ b))]) dX7_off_117 (Nat.le_of_ble_eq_true rfl) rfl ?_
            refine r_iload (pc := 118) dX7_off_118 rfl ?_
            refine r_iload_n (pc := 120) dX7_off_120 rfl ?_
            refine r_icmp_le (pc := 121) (tgt := 129) dX7_off_121 (by decide) (fun c121 => ?_) (fun c121 => ?_)
            · refine r_iload_n (pc := 129) dX7_off_129 rfl ?_
              refine r_istore_n (pc := 130) (ls' := [(0, .ref 40), (1, .int (w)), (2, .int (og σ b)), (3, .int (ow σ b)), (4, .int (nI ((os σ b) ||| (0)))), (5, .int (nI b)), (6, .int (ov σ b))]) dX7_off_130 (Nat.le_of_ble_eq_true rfl) rfl ?_
              refine rn_iinc (pc := 131) (b := 1) (ls' := [(0, .ref 40), (1, .int (w)), (2, .int (og σ b)), (3, .int (ow σ b)), (4, .int (nI ((os σ b) ||| (0)))), (5, .int (nI (b + 1))), (6, .int (ov σ b))]) dX7_off_131 rfl (by decide) (Nat.le_of_ble_eq_true rfl) rfl ?_
              refine r_goto (pc := 134) (tgt := 23) dX7_off_134 (by decide) ?_
              have e2 : og σ (b + 1) = og σ b := by rw [og]; exact if_pos c108
              have e3 : ow σ (b + 1) = ow σ b := by rw [ow]; exact if_pos c108
              have e4 : os σ (b + 1) = (os σ b) ||| (0) := by rw [os, if_pos c91]
              rw [← e2, ← e3, ← e4]
              refine r_pick [0, 1, 2, 3, 4, 5] rfl ?_
              exact ih (k - 1) (by omega) (b + 1) (by omega) hw
            · refine r_iload (pc := 124) dX7_off_124 rfl ?_
              refine r_goto (pc := 126) (tgt := 130) dX7_off_126 (by decide) ?_
              refine r_istore_n (pc := 130) (ls' := [(0, .ref 40), (1, .int (w)), (2, .int (ov σ b)), (3, .int (ow σ b)), (4, .int (nI ((os σ b) ||| (0)))), (5, .int (nI b)), (6, .int (ov σ b))]) dX7_off_130 (Nat.le_of_ble_eq_true rfl) rfl ?_
              refine rn_iinc (pc := 131) (b := 1) (ls' := [(0, .ref 40), (1, .int (w)), (2, .int (ov σ b)), (3, .int (ow σ b)), (4, .int (nI ((os σ b) ||| (0)))), (5, .int (nI (b + 1))), (6, .int (ov σ b))]) dX7_off_131 rfl (by decide) (Nat.le_of_ble_eq_true rfl) rfl ?_
              refine r_goto (pc := 134) (tgt := 23) dX7_off_134 (by decide) ?_
              exact absurd c108 c121
          · refine r_iload (pc := 111) dX7_off_111 rfl ?_
            refine r_goto (pc := 113) (tgt := 117) dX7_off_113 (by decide) ?_
            refine r_istore_n (pc := 117) (ls' := [(0, .ref 40), (1, .int (w)), (2, .int (og σ b)), (3, .int (nI b)), (4, .int (nI ((os σ b) ||| (0)))), (5, .int (nI b)), (6, .int (ov σ b))]) dX7_off_117 (Nat.le_of_ble_eq_true rfl) rfl ?_
            refine r_iload (pc := 118) dX7_off_118 rfl ?_
            refine r_iload_n (pc := 120) dX7_off_120 rfl ?_
            refine r_icmp_le (pc := 121) (tgt := 129) dX7_off_121 (by decide) (fun c121 => ?_) (fun c121 => ?_)
            · refine r_iload_n (pc := 129) dX7_off_129 rfl ?_
              refine r_istore_n (pc := 130) (ls' := [(0, .ref 40), (1, .int (w)), (2, .int (og σ b)), (3, .int (nI b)), (4, .int (nI ((os σ b) ||| (0)))), (5, .int (nI b)), (6, .int (ov σ b))]) dX7_off_130 (Nat.le_of_ble_eq_true rfl) rfl ?_
              refine rn_iinc (pc := 131) (b := 1) (ls' := [(0, .ref 40), (1, .int (w)), (2, .int (og σ b)), (3, .int (nI b)), (4, .int (nI ((os σ b) ||| (0)))), (5, .int (nI (b + 1))), (6, .int (ov σ b))]) dX7_off_131 rfl (by decide) (Nat.le_of_ble_eq_true rfl) rfl ?_
              refine r_goto (pc := 134) (tgt := 23) dX7_off_134 (by decide) ?_
              exact absurd c121 c108
            · refine r_iload (pc := 124) dX7_off_124 rfl ?_
              refine r_goto (pc := 126) (tgt := 130) dX7_off_126 (by decide) ?_
              refine r_istore_n (pc := 130) (ls' := [(0, .ref 40), (1, .int (w)), (2, .int (ov σ b)), (3, .int (nI b)), (4, .int (nI ((os σ b) ||| (0)))), (5, .int (nI b)), (6, .int (ov σ b))]) dX7_off_130 (Nat.le_of_ble_eq_true rfl) rfl ?_
              refine rn_iinc (pc := 131) (b := 1) (ls' := [(0, .ref 40), (1, .int (w)), (2, .int (ov σ b)), (3, .int (nI b)), (4, .int (nI ((os σ b) ||| (0)))), (5, .int (nI (b + 1))), (6, .int (ov σ b))]) dX7_off_131 rfl (by decide) (Nat.le_of_ble_eq_true rfl) rfl ?_
              refine r_goto (pc := 134) (tgt := 23) dX7_off_134 (by decide) ?_
              have e2 : og σ (b + 1) = ov σ b := by rw [og]; exact if_neg c108
              have e3 : ow σ (b + 1) = (nI (b)) := by rw [ow]; exact if_neg c108
              have e4 : os σ (b + 1) = (os σ b) ||| (0) := by rw [os, if_pos c91]
              rw [← e2, ← e3, ← e4]
              refine r_pick [0, 1, 2, 3, 4, 5] rfl ?_
              exact ih (k - 1) (by omega) (b + 1) (by omega) hw
        · refine r_iconst (pc := 94) (v := (nI (1))) dX7_off_94 (by decide) ?_
          refine r_iload (pc := 95) dX7_off_95 rfl ?_
          refine r_ishl (pc := 97) dX7_off_97 ?_
          refine r_eqi (shl1 (by omega)) ?_
          refine r_goto (pc := 98) (tgt := 102) dX7_off_98 (by decide) ?_
          refine r_ior (pc := 102) dX7_off_102 ?_
          refine r_eqi (nI_or _ _) ?_
          refine r_istore (pc := 103) (ls' := [(0, .ref 40), (1, .int (w)), (2, .int (og σ b)), (3, .int (ow σ b)), (4, .int (nI ((os σ b) ||| (2 ^ b)))), (5, .int (nI b)), (6, .int (ov σ b))]) dX7_off_103 (Nat.le_of_ble_eq_true rfl) rfl ?_
          refine r_iload (pc := 105) dX7_off_105 rfl ?_
          refine r_iload_n (pc := 107) dX7_off_107 rfl ?_
          refine r_icmp_le (pc := 108) (tgt := 116) dX7_off_108 (by decide) (fun c108 => ?_) (fun c108 => ?_)
          · refine r_iload_n (pc := 116) dX7_off_116 rfl ?_
            refine r_istore_n (pc := 117) (ls' := [(0, .ref 40), (1, .int (w)), (2, .int (og σ b)), (3, .int (ow σ b)), (4, .int (nI ((os σ b) ||| (2 ^ b)))), (5, .int (nI b)), (6, .int (ov σ b))]) dX7_off_117 (Nat.le_of_ble_eq_true rfl) rfl ?_
            refine r_iload (pc := 118) dX7_off_118 rfl ?_
            refine r_iload_n (pc := 120) dX7_off_120 rfl ?_
            refine r_icmp_le (pc := 121) (tgt := 129) dX7_off_121 (by decide) (fun c121 => ?_) (fun c121 => ?_)
            · refine r_iload_n (pc := 129) dX7_off_129 rfl ?_
              refine r_istore_n (pc := 130) (ls' := [(0, .ref 40), (1, .int (w)), (2, .int (og σ b)), (3, .int (ow σ b)), (4, .int (nI ((os σ b) ||| (2 ^ b)))), (5, .int (nI b)), (6, .int (ov σ b))]) dX7_off_130 (Nat.le_of_ble_eq_true rfl) rfl ?_
              refine rn_iinc (pc := 131) (b := 1) (ls' := [(0, .ref 40), (1, .int (w)), (2, .int (og σ b)), (3, .int (ow σ b)), (4, .int (nI ((os σ b) ||| (2 ^ b)))), (5, .int (nI (b + 1))), (6, .int (ov σ b))]) dX7_off_131 rfl (by decide) (Nat.le_of_ble_eq_true rfl) rfl ?_
              refine r_goto (pc := 134) (tgt := 23) dX7_off_134 (by decide) ?_
              have e2 : og σ (b + 1) = og σ b := by rw [og]; exact if_pos c108
              have e3 : ow σ (b + 1) = ow σ b := by rw [ow]; exact if_pos c108
              have e4 : os σ (b + 1) = (os σ b) ||| (2 ^ b) := by rw [os, if_neg c91]
              rw [← e2, ← e3, ← e4]
              refine r_pick [0, 1, 2, 3, 4, 5] rfl ?_
              exact ih (k - 1) (by omega) (b + 1) (by omega) hw
            · refine r_iload (pc := 124) dX7_off_124 rfl ?_
              refine r_goto (pc := 126) (tgt := 130) dX7_off_126 (by decide) ?_
              refine r_istore_n (pc := 130) (ls' := [(0, .ref 40), (1, .int (w)), (2, .int (ov σ b)), (3, .int (ow σ b)), (4, .int (nI ((os σ b) ||| (2 ^ b)))), (5, .int (nI b)), (6, .int (ov σ b))]) dX7_off_130 (Nat.le_of_ble_eq_true rfl) rfl ?_
              refine rn_iinc (pc := 131) (b := 1) (ls' := [(0, .ref 40), (1, .int (w)), (2, .int (ov σ b)), (3, .int (ow σ b)), (4, .int (nI ((os σ b) ||| (2 ^ b)))), (5, .int (nI (b + 1))), (6, .int (ov σ b))]) dX7_off_131 rfl (by decide) (Nat.le_of_ble_eq_true rfl) rfl ?_
              refine r_goto (pc := 134) (tgt := 23) dX7_off_134 (by decide) ?_
              exact absurd c108 c121
          · refine r_iload (pc := 111) dX7_off_111 rfl ?_
            refine r_goto (pc := 113) (tgt := 117) dX7_off_113 (by decide) ?_
            refine r_istore_n (pc := 117) (ls' := [(0, .ref 40), (1, .int (w)), (2, .int (og σ b)), (3, .int (nI b)), (4, .int (nI ((os σ b) ||| (2 ^ b)))), (5, .int (nI b)), (6, .int (ov σ b))]) dX7_off_117 (Nat.le_of_ble_eq_true rfl) rfl ?_
            refine r_iload (pc := 118) dX7_off_118 rfl ?_
            refine r_iload_n (pc := 120) dX7_off_120 rfl ?_
            refine r_icmp_le (pc := 121) (tgt := 129) dX7_off_121 (by decide) (fun c121 => ?_) (fun c121 => ?_)
            · refine r_iload_n (pc := 129) dX7_off_129 rfl ?_
              refine r_istore_n (pc := 130) (ls' := [(0, .ref 40), (1, .int (w)), (2, .int (og σ b)), (3, .int (nI b)), (4, .int (nI ((os σ b) ||| (2 ^ b)))), (5, .int (nI b)), (6, .int (ov σ b))]) dX7_off_130 (Nat.le_of_ble_eq_true rfl) rfl ?_
              refine rn_iinc (pc := 131) (b := 1) (ls' := [(0, .ref 40), (1, .int (w)), (2, .int (og σ b)), (3, .int (nI b)), (4, .int (nI ((os σ b) ||| (2 ^ b)))), (5, .int (nI (b + 1))), (6, .int (ov σ b))]) dX7_off_131 rfl (by decide) (Nat.le_of_ble_eq_true rfl) rfl ?_
              refine r_goto (pc := 134) (tgt := 23) dX7_off_134 (by decide) ?_
              exact absurd c121 c108
            · refine r_iload (pc := 124) dX7_off_124 rfl ?_
              refine r_goto (pc := 126) (tgt := 130) dX7_off_126 (by decide) ?_
              refine r_istore_n (pc := 130) (ls' := [(0, .ref 40), (1, .int (w)), (2, .int (ov σ b)), (3, .int (nI b)), (4, .int (nI ((os σ b) ||| (2 ^ b)))), (5, .int (nI b)), (6, .int (ov σ b))]) dX7_off_130 (Nat.le_of_ble_eq_true rfl) rfl ?_
              refine rn_iinc (pc := 131) (b := 1) (ls' := [(0, .ref 40), (1, .int (w)), (2, .int (ov σ b)), (3, .int (nI b)), (4, .int (nI ((os σ b) ||| (2 ^ b)))), (5, .int (nI (b + 1))), (6, .int (ov σ b))]) dX7_off_131 rfl (by decide) (Nat.le_of_ble_eq_true rfl) rfl ?_
              refine r_goto (pc := 134) (tgt := 23) dX7_off_134 (by decide) ?_
              have e2 : og σ (b + 1) = ov σ b := by rw [og]; exact if_neg c108
              have e3 : ow σ (b + 1) = (nI (b)) := by rw [ow]; exact if_neg c108
              have e4 : os σ (b + 1) = (os σ b) ||| (2 ^ b) := by rw [os, if_neg c91]
              rw [← e2, ← e3, ← e4]
              refine r_pick [0, 1, 2, 3, 4, 5] rfl ?_
              exact ih (k - 1) (by omega) (b + 1) (by omega) hw

set_option maxRecDepth 20000 in
set_option maxHeartbeats 4000000 in
theorem m_off {μ : Mem} {σ : Sg} {w : Int32} {Q : Option Value → Mem → Prop} (hM : Ms μ σ) (hO : Ok σ) (h : ∀ μ', Ms μ' σ → keepX μ μ' → Q (some (.int (sp_off σ w))) μ') : Sp iX7_off 2 [.ref 40, .int (w)] μ Q := by
  refine Sp.of vX7_off.1 (Nat.le_of_ble_eq_true rfl) ?_
  show WP cX7_off (RX7, 7, (some .int), 2, none) 0 [(0, .ref 40), (1, .int (w))] [] μ Q
  have hn := Ok_n hO
  refine r_iload_n (pc := 0) dX7_off_0 rfl ?_
  refine r_iconst (pc := 1) (v := (nI (0))) dX7_off_1 (by decide) ?_
  refine r_iconst (pc := 2) (v := (nI (3))) dX7_off_2 (by decide) ?_
  refine r_callS (pc := 3) (d' := 0) (As := [.int (w), .int (nI 0), .int (nI 3)]) (rest := []) dX7_off_3 sX7_in mX7_77 rfl rfl (Nat.le_of_ble_eq_true rfl) (Nat.le_of_ble_eq_true rfl) ?_
  refine c_in ?_
  refine rb_if_ne (pc := 6) (tgt := 12) dX7_off_6 (by decide) (fun c6 => ?_) (fun c6 => ?_)
  · refine r_iconst (pc := 12) (v := (nI (0))) dX7_off_12 (by decide) ?_
    refine r_istore_n (pc := 13) (ls' := [(0, .ref 40), (1, .int (w)), (2, .int (nI 0))]) dX7_off_13 (Nat.le_of_ble_eq_true rfl) rfl ?_
    refine r_bipush (pc := 14) (v := (-6)) dX7_off_14 (by decide) ?_
    refine r_istore_n (pc := 16) (ls' := [(0, .ref 40), (1, .int (w)), (2, .int (nI 0)), (3, .int ((-6)))]) dX7_off_16 (Nat.le_of_ble_eq_true rfl) rfl ?_
    refine r_iconst (pc := 17) (v := (nI (0))) dX7_off_17 (by decide) ?_
    refine r_istore (pc := 18) (ls' := [(0, .ref 40), (1, .int (w)), (2, .int (nI 0)), (3, .int ((-6))), (4, .int (nI 0))]) dX7_off_18 (Nat.le_of_ble_eq_true rfl) rfl ?_
    refine r_iconst (pc := 20) (v := (nI (0))) dX7_off_20 (by decide) ?_
    refine r_istore (pc := 21) (ls' := [(0, .ref 40), (1, .int (w)), (2, .int (nI 0)), (3, .int ((-6))), (4, .int (nI 0)), (5, .int (nI 0))]) dX7_off_21 (Nat.le_of_ble_eq_true rfl) rfl ?_
    exact m_off_l hM hO h (σ 0 0) 0 (by omega) c6
  · refine r_bipush (pc := 9) (v := (-2)) dX7_off_9 (by decide) ?_
    refine r_ireturn (pc := 11) dX7_off_11 rfl (Or.inl rfl) rfl ?_
    have e9 : sp_off σ w = -2 := by simp [sp_off, c6]
    rw [e9] at h
    exact h _ hM keepX.rf

set_option maxRecDepth 20000 in
set_option maxHeartbeats 4000000 in
theorem x_off_l {μ : Mem} {σ : Sg} {w : Int32} {Q : Option Value → Mem → Prop} (hI : XI μ σ) (hO : Ok σ) (h : ∀ μ', XI μ' σ → keepM μ μ' → Q (some (.int (sp_off σ w))) μ') : ∀ (k : Nat) (b : Nat), b + k = σ 0 0 → inR w (nI 0) (nI 3) = true → WP cX6_off (RX6, 7, (some .int), 3, none) 23 [(0, .ref 0), (1, .int (w)), (2, .int (og σ b)), (3, .int (ow σ b)), (4, .int (nI (os σ b))), (5, .int (nI b))] [] μ Q := by
  intro k
  induction k using Nat.strongRecOn with
  | _ k ih =>
    intro b hb hw
    have hn := Ok_n hO
    have hX := hI.1
    have hC := hI.2
    have hos := os_lt σ (σ 0 0)
    have hp : 2 ^ σ 0 0 ≤ 2 ^ 12 := Nat.pow_le_pow_right (by decide) (by omega)
    refine r_iload (pc := 23) dX6_off_23 rfl ?_
    refine r_aload_n (pc := 25) dX6_off_25 rfl ?_
    refine r_getR (pc := 26) (r := 1) dX6_off_26 fX6_12 rfl rfl ?_
    refine r_getI (pc := 29) (x := (nI (σ 0 0))) dX6_off_29 fX6_63 rfl rfl (Xs_n (μ := μ) hX) ?_
    refine rn_icmp_ge (pc := 32) (tgt := 91) dX6_off_32 (by decide) (by omega) (by omega) (fun c32 => ?_) (fun c32 => ?_)
    · obtain rfl : b = σ 0 0 := by omega
      refine r_iload_n (pc := 91) dX6_off_91 rfl ?_
      by_cases c92 : (w).toInt < 0 ∨ 2 < (w).toInt
      · refine r_tableOut (pc := 92) (tgt := 135) dX6_off_92 c92 (by decide) ?_
        refine r_iload (pc := 135) dX6_off_135 rfl ?_
        refine r_ireturn (pc := 137) dX6_off_137 rfl (Or.inl rfl) rfl ?_
        have e9 : sp_off σ w = nI (os σ (σ 0 0)) := by rw [sp_off, if_neg (by rw [hw]; decide), if_neg (sw_out c92 (by decide) (by decide) : ¬ w = nI 0), if_neg (sw_out c92 (by decide) (by decide) : ¬ w = nI 1), if_neg (sw_out c92 (by decide) (by decide) : ¬ w = nI 2)]
        rw [e9] at h
        exact h _ hI keepM.rf
      · obtain ⟨j1, hj2, e3⟩ := sw_cases (by decide) c92
        rcases (show j1 = 0 ∨ j1 = 1 ∨ j1 = 2 by omega) with rfl | rfl | rfl
        · rw [e3]
          refine r_tableIn (pc := 92) (tgt := 120) (off := 28) dX6_off_92 (by decide) (by decide) (by decide) (by decide) ?_
          refine r_iload_n (pc := 120) dX6_off_120 rfl ?_
          refine r_ireturn (pc := 121) dX6_off_121 rfl (Or.inl rfl) rfl ?_
          have e9 : sp_off σ w = og σ (σ 0 0) := by rw [e3]; simp (decide := true) [sp_off]
          rw [e9] at h
          exact h _ hI keepM.rf
        · rw [e3]
          refine r_tableIn (pc := 92) (tgt := 122) (off := 30) dX6_off_92 (by decide) (by decide) (by decide) (by decide) ?_
          refine r_iload_n (pc := 122) dX6_off_122 rfl ?_
          refine r_ireturn (pc := 123) dX6_off_123 rfl (Or.inl rfl) rfl ?_
          have e9 : sp_off σ w = ow σ (σ 0 0) := by rw [e3]; simp (decide := true) [sp_off]
          rw [e9] at h
          exact h _ hI keepM.rf
        · rw [e3]
          refine r_tableIn (pc := 92) (tgt := 124) (off := 32) dX6_off_92 (by decide) (by decide) (by decide) (by decide) ?_
          refine r_iload (pc := 124) dX6_off_124 rfl ?_
          refine rn_if_ne (pc := 126) (tgt := 133) dX6_off_126 (by decide) (by omega) (fun c126 => ?_) (fun c126 => ?_)
          · refine r_iconst (pc := 133) (v := (nI (0))) dX6_off_133 (by decide) ?_
            refine r_ireturn (pc := 134) dX6_off_134 rfl (Or.inl rfl) rfl ?_
            have e9 : sp_off σ w = (nI (0)) := by rw [e3]; simp (decide := true) [sp_off, c126]
            rw [e9] at h
            exact h _ hI keepM.rf
          · refine r_iconst (pc := 129) (v := (nI (1))) dX6_off_129 (by decide) ?_
            refine r_goto (pc := 130) (tgt := 134) dX6_off_130 (by decide) ?_
            refine r_ireturn (pc := 134) dX6_off_134 rfl (Or.inl rfl) rfl ?_
            have e9 : sp_off σ w = (nI (1)) := by rw [e3]; simp (decide := true) [sp_off, c126]
            rw [e9] at h
            exact h _ hI keepM.rf
    · refine r_aload_n (pc := 35) dX6_off_35 rfl ?_
      refine r_getR (pc := 36) (r := 1) dX6_off_36 fX6_12 rfl rfl ?_
      refine r_iload (pc := 39) dX6_off_39 rfl ?_
      refine r_callV (pc := 41) (d' := 1) (k := 1) (As := [.int (nI b)]) (rest := []) dX6_off_41 vX0_isOpen mX6_98 rfl rfl rfl (Nat.le_of_ble_eq_true rfl) (Nat.le_of_ble_eq_true rfl) ?_
      refine c_xopen (μ := μ) hX hO (by omega) ?_
      refine rb_if_eq (pc := 44) (tgt := 56) dX6_off_44 (by decide) (fun c44 => ?_) (fun c44 => ?_)
      · refine r_iconst (pc := 56) (v := (nI (0))) dX6_off_56 (by decide) ?_
        refine r_eqi (y := ov σ b) (by rw [ov, if_neg (by rw [c44]; decide)]) ?_
        refine r_istore (pc := 57) (ls' := [(0, .ref 0), (1, .int (w)), (2, .int (og σ b)), (3, .int (ow σ b)), (4, .int (nI (os σ b))), (5, .int (nI b)), (6, .int (ov σ b))]) dX6_off_57 (Nat.le_of_ble_eq_true rfl) rfl ?_
        refine r_iload (pc := 59) dX6_off_59 rfl ?_
        refine r_if_le (pc := 61) (tgt := 73) dX6_off_61 (by decide) (fun c61 => ?_) (fun c61 => ?_)
        · refine r_iload (pc := 73) dX6_off_73 rfl ?_
          refine r_iload_n (pc := 75) dX6_off_75 rfl ?_
          refine r_icmp_le (pc := 76) (tgt := 85) dX6_off_76 (by decide) (fun c76 => ?_) (fun c76 => ?_)
          · refine rn_iinc (pc := 85) (b := 1) (ls' := [(0, .ref 0), (1, .int (w)), (2, .int (og σ b)), (3, .int (ow σ b)), (4, .int (nI (os σ b))), (5, .int (nI (b + 1))), (6, .int (ov σ b))]) dX6_off_85 rfl (by decide) (Nat.le_of_ble_eq_true rfl) rfl ?_
            refine r_goto (pc := 88) (tgt := 23) dX6_off_88 (by decide) ?_
            have e2 : og σ (b + 1) = og σ b := by rw [og]; exact if_pos c76
            have e3 : ow σ (b + 1) = ow σ b := by rw [ow]; exact if_pos c76
            have e4 : os σ (b + 1) = os σ b := by rw [os, if_pos c61]; simp
            rw [← e2, ← e3, ← e4]
            refine r_pick [0, 1, 2, 3, 4, 5] rfl ?_
            exact ih (k - 1) (by omega) (b + 1) (by omega) hw
          · refine r_iload (pc := 79) dX6_off_79 rfl ?_
            refine r_istore_n (pc := 81) (ls' := [(0, .ref 0), (1, .int (w)), (2, .int (ov σ b)), (3, .int (ow σ b)), (4, .int (nI (os σ b))), (5, .int (nI b)), (6, .int (ov σ b))]) dX6_off_81 (Nat.le_of_ble_eq_true rfl) rfl ?_
            refine r_iload (pc := 82) dX6_off_82 rfl ?_
            refine r_istore_n (pc := 84) (ls' := [(0, .ref 0), (1, .int (w)), (2, .int (ov σ b)), (3, .int (nI b)), (4, .int (nI (os σ b))), (5, .int (nI b)), (6, .int (ov σ b))]) dX6_off_84 (Nat.le_of_ble_eq_true rfl) rfl ?_
            refine rn_iinc (pc := 85) (b := 1) (ls' := [(0, .ref 0), (1, .int (w)), (2, .int (ov σ b)), (3, .int (nI b)), (4, .int (nI (os σ b))), (5, .int (nI (b + 1))), (6, .int (ov σ b))]) dX6_off_85 rfl (by decide) (Nat.le_of_ble_eq_true rfl) rfl ?_
            refine r_goto (pc := 88) (tgt := 23) dX6_off_88 (by decide) ?_
            have e2 : og σ (b + 1) = ov σ b := by rw [og]; exact if_neg c76
            have e3 : ow σ (b + 1) = (nI (b)) := by rw [ow]; exact if_neg c76
            have e4 : os σ (b + 1) = os σ b := by rw [os, if_pos c61]; simp
            rw [← e2, ← e3, ← e4]
            refine r_pick [0, 1, 2, 3, 4, 5] rfl ?_
            exact ih (k - 1) (by omega) (b + 1) (by omega) hw
        · refine r_iload (pc := 64) dX6_off_64 rfl ?_
          refine r_iconst (pc := 66) (v := (nI (1))) dX6_off_66 (by decide) ?_
          refine r_iload (pc := 67) dX6_off_67 rfl ?_
          refine r_ishl (pc := 69) dX6_off_69 ?_
          refine r_eqi (shl1 (by omega)) ?_
          refine r_ior (pc := 70) dX6_off_70 ?_
          refine r_eqi (nI_or _ _) ?_
          refine r_istore (pc := 71) (ls' := [(0, .ref 0), (1, .int (w)), (2, .int (og σ b)), (3, .int (ow σ b)), (4, .int (nI ((os σ b) ||| (2 ^ b)))), (5, .int (nI b)), (6, .int (ov σ b))]) dX6_off_71 (Nat.le_of_ble_eq_true rfl) rfl ?_
          refine r_iload (pc := 73) dX6_off_73 rfl ?_
          refine r_iload_n (pc := 75) dX6_off_75 rfl ?_
          refine r_icmp_le (pc := 76) (tgt := 85) dX6_off_76 (by decide) (fun c76 => ?_) (fun c76 => ?_)
          · refine rn_iinc (pc := 85) (b := 1) (ls' := [(0, .ref 0), (1, .int (w)), (2, .int (og σ b)), (3, .int (ow σ b)), (4, .int (nI ((os σ b) ||| (2 ^ b)))), (5, .int (nI (b + 1))), (6, .int (ov σ b))]) dX6_off_85 rfl (by decide) (Nat.le_of_ble_eq_true rfl) rfl ?_
            refine r_goto (pc := 88) (tgt := 23) dX6_off_88 (by decide) ?_
            have e2 : og σ (b + 1) = og σ b := by rw [og]; exact if_pos c76
            have e3 : ow σ (b + 1) = ow σ b := by rw [ow]; exact if_pos c76
            have e4 : os σ (b + 1) = (os σ b) ||| (2 ^ b) := by rw [os, if_neg c61]
            rw [← e2, ← e3, ← e4]
            refine r_pick [0, 1, 2, 3, 4, 5] rfl ?_
            exact ih (k - 1) (by omega) (b + 1) (by omega) hw
          · refine r_iload (pc := 79) dX6_off_79 rfl ?_
            refine r_istore_n (pc := 81) (ls' := [(0, .ref 0), (1, .int (w)), (2, .int (ov σ b)), (3, .int (ow σ b)), (4, .int (nI ((os σ b) ||| (2 ^ b)))), (5, .int (nI b)), (6, .int (ov σ b))]) dX6_off_81 (Nat.le_of_ble_eq_true rfl) rfl ?_
            refine r_iload (pc := 82) dX6_off_82 rfl ?_
            refine r_istore_n (pc := 84) (ls' := [(0, .ref 0), (1, .int (w)), (2, .int (ov σ b)), (3, .int (nI b)), (4, .int (nI ((os σ b) ||| (2 ^ b)))), (5, .int (nI b)), (6, .int (ov σ b))]) dX6_off_84 (Nat.le_of_ble_eq_true rfl) rfl ?_
            refine rn_iinc (pc := 85) (b := 1) (ls' := [(0, .ref 0), (1, .int (w)), (2, .int (ov σ b)), (3, .int (nI b)), (4, .int (nI ((os σ b) ||| (2 ^ b)))), (5, .int (nI (b + 1))), (6, .int (ov σ b))]) dX6_off_85 rfl (by decide) (Nat.le_of_ble_eq_true rfl) rfl ?_
            refine r_goto (pc := 88) (tgt := 23) dX6_off_88 (by decide) ?_
            have e2 : og σ (b + 1) = ov σ b := by rw [og]; exact if_neg c76
            have e3 : ow σ (b + 1) = (nI (b)) := by rw [ow]; exact if_neg c76
            have e4 : os σ (b + 1) = (os σ b) ||| (2 ^ b) := by rw [os, if_neg c61]
            rw [← e2, ← e3, ← e4]
            refine r_pick [0, 1, 2, 3, 4, 5] rfl ?_
            exact ih (k - 1) (by omega) (b + 1) (by omega) hw
      · refine r_aload_n (pc := 47) dX6_off_47 rfl ?_
        refine r_iload (pc := 48) dX6_off_48 rfl ?_
        refine r_callV (pc := 50) (d' := 2) (k := 0) (As := [.int (nI b)]) (rest := []) dX6_off_50 vX6_excess mX6_224 rfl rfl rfl (Nat.le_of_ble_eq_true rfl) (Nat.le_of_ble_eq_true rfl) ?_
        refine x_excess hX hO (by omega) ?_
        refine r_goto (pc := 53) (tgt := 57) dX6_off_53 (by decide) ?_
        refine r_eqi (y := ov σ b) (by rw [ov, if_pos c44]) ?_
        refine r_istore (pc := 57) (ls' := [(0, .ref 0), (1, .int (w)), (2, .int (og σ b)), (3, .int (ow σ b)), (4, .int (nI (os σ b))), (5, .int (nI b)), (6, .int (ov σ b))]) dX6_off_57 (Nat.le_of_ble_eq_true rfl) rfl ?_
        refine r_iload (pc := 59) dX6_off_59 rfl ?_
        refine r_if_le (pc := 61) (tgt := 73) dX6_off_61 (by decide) (fun c61 => ?_) (fun c61 => ?_)
        · refine r_iload (pc := 73) dX6_off_73 rfl ?_
          refine r_iload_n (pc := 75) dX6_off_75 rfl ?_
          refine r_icmp_le (pc := 76) (tgt := 85) dX6_off_76 (by decide) (fun c76 => ?_) (fun c76 => ?_)
          · refine rn_iinc (pc := 85) (b := 1) (ls' := [(0, .ref 0), (1, .int (w)), (2, .int (og σ b)), (3, .int (ow σ b)), (4, .int (nI (os σ b))), (5, .int (nI (b + 1))), (6, .int (ov σ b))]) dX6_off_85 rfl (by decide) (Nat.le_of_ble_eq_true rfl) rfl ?_
            refine r_goto (pc := 88) (tgt := 23) dX6_off_88 (by decide) ?_
            have e2 : og σ (b + 1) = og σ b := by rw [og]; exact if_pos c76
            have e3 : ow σ (b + 1) = ow σ b := by rw [ow]; exact if_pos c76
            have e4 : os σ (b + 1) = os σ b := by rw [os, if_pos c61]; simp
            rw [← e2, ← e3, ← e4]
            refine r_pick [0, 1, 2, 3, 4, 5] rfl ?_
            exact ih (k - 1) (by omega) (b + 1) (by omega) hw
          · refine r_iload (pc := 79) dX6_off_79 rfl ?_
            refine r_istore_n (pc := 81) (ls' := [(0, .ref 0), (1, .int (w)), (2, .int (ov σ b)), (3, .int (ow σ b)), (4, .int (nI (os σ b))), (5, .int (nI b)), (6, .int (ov σ b))]) dX6_off_81 (Nat.le_of_ble_eq_true rfl) rfl ?_
            refine r_iload (pc := 82) dX6_off_82 rfl ?_
            refine r_istore_n (pc := 84) (ls' := [(0, .ref 0), (1, .int (w)), (2, .int (ov σ b)), (3, .int (nI b)), (4, .int (nI (os σ b))), (5, .int (nI b)), (6, .int (ov σ b))]) dX6_off_84 (Nat.le_of_ble_eq_true rfl) rfl ?_
            refine rn_iinc (pc := 85) (b := 1) (ls' := [(0, .ref 0), (1, .int (w)), (2, .int (ov σ b)), (3, .int (nI b)), (4, .int (nI (os σ b))), (5, .int (nI (b + 1))), (6, .int (ov σ b))]) dX6_off_85 rfl (by decide) (Nat.le_of_ble_eq_true rfl) rfl ?_
            refine r_goto (pc := 88) (tgt := 23) dX6_off_88 (by decide) ?_
            have e2 : og σ (b + 1) = ov σ b := by rw [og]; exact if_neg c76
            have e3 : ow σ (b + 1) = (nI (b)) := by rw [ow]; exact if_neg c76
            have e4 : os σ (b + 1) = os σ b := by rw [os, if_pos c61]; simp
            rw [← e2, ← e3, ← e4]
            refine r_pick [0, 1, 2, 3, 4, 5] rfl ?_
            exact ih (k - 1) (by omega) (b + 1) (by omega) hw
        · refine r_iload (pc := 64) dX6_off_64 rfl ?_
          refine r_iconst (pc := 66) (v := (nI (1))) dX6_off_66 (by decide) ?_
          refine r_iload (pc := 67) dX6_off_67 rfl ?_
          refine r_ishl (pc := 69) dX6_off_69 ?_
          refine r_eqi (shl1 (by omega)) ?_
          refine r_ior (pc := 70) dX6_off_70 ?_
          refine r_eqi (nI_or _ _) ?_
          refine r_istore (pc := 71) (ls' := [(0, .ref 0), (1, .int (w)), (2, .int (og σ b)), (3, .int (ow σ b)), (4, .int (nI ((os σ b) ||| (2 ^ b)))), (5, .int (nI b)), (6, .int (ov σ b))]) dX6_off_71 (Nat.le_of_ble_eq_true rfl) rfl ?_
          refine r_iload (pc := 73) dX6_off_73 rfl ?_
          refine r_iload_n (pc := 75) dX6_off_75 rfl ?_
          refine r_icmp_le (pc := 76) (tgt := 85) dX6_off_76 (by decide) (fun c76 => ?_) (fun c76 => ?_)
          · refine rn_iinc (pc := 85) (b := 1) (ls' := [(0, .ref 0), (1, .int (w)), (2, .int (og σ b)), (3, .int (ow σ b)), (4, .int (nI ((os σ b) ||| (2 ^ b)))), (5, .int (nI (b + 1))), (6, .int (ov σ b))]) dX6_off_85 rfl (by decide) (Nat.le_of_ble_eq_true rfl) rfl ?_
            refine r_goto (pc := 88) (tgt := 23) dX6_off_88 (by decide) ?_
            have e2 : og σ (b + 1) = og σ b := by rw [og]; exact if_pos c76
            have e3 : ow σ (b + 1) = ow σ b := by rw [ow]; exact if_pos c76
            have e4 : os σ (b + 1) = (os σ b) ||| (2 ^ b) := by rw [os, if_neg c61]
            rw [← e2, ← e3, ← e4]
            refine r_pick [0, 1, 2, 3, 4, 5] rfl ?_
            exact ih (k - 1) (by omega) (b + 1) (by omega) hw
          · refine r_iload (pc := 79) dX6_off_79 rfl ?_
            refine r_istore_n (pc := 81) (ls' := [(0, .ref 0), (1, .int (w)), (2, .int (ov σ b)), (3, .int (ow σ b)), (4, .int (nI ((os σ b) ||| (2 ^ b)))), (5, .int (nI b)), (6, .int (ov σ b))]) dX6_off_81 (Nat.le_of_ble_eq_true rfl) rfl ?_
            refine r_iload (pc := 82) dX6_off_82 rfl ?_
            refine r_istore_n (pc := 84) (ls' := [(0, .ref 0), (1, .int (w)), (2, .int (ov σ b)), (3, .int (nI b)), (4, .int (nI ((os σ b) ||| (2 ^ b)))), (5, .int (nI b)), (6, .int (ov σ b))]) dX6_off_84 (Nat.le_of_ble_eq_true rfl) rfl ?_
            refine rn_iinc (pc := 85) (b := 1) (ls' := [(0, .ref 0), (1, .int (w)), (2, .int (ov σ b)), (3, .int (nI b)), (4, .int (nI ((os σ b) ||| (2 ^ b)))), (5, .int (nI (b + 1))), (6, .int (ov σ b))]) dX6_off_85 rfl (by decide) (Nat.le_of_ble_eq_true rfl) rfl ?_
            refine r_goto (pc := 88) (tgt := 23) dX6_off_88 (by decide) ?_
            have e2 : og σ (b + 1) = ov σ b := by rw [og]; exact if_neg c76
            have e3 : ow σ (b + 1) = (nI (b)) := by rw [ow]; exact if_neg c76
            have e4 : os σ (b + 1) = (os σ b) ||| (2 ^ b) := by rw [os, if_neg c61]
            rw [← e2, ← e3, ← e4]
            refine r_pick [0, 1, 2, 3, 4, 5] rfl ?_
            exact ih (k - 1) (by omega) (b + 1) (by omega) hw

set_option maxRecDepth 20000 in
set_option maxHeartbeats 4000000 in
theorem x_off {μ : Mem} {σ : Sg} {w : Int32} {Q : Option Value → Mem → Prop} (hI : XI μ σ) (hO : Ok σ) (h : ∀ μ', XI μ' σ → keepM μ μ' → Q (some (.int (sp_off σ w))) μ') : Sp iX6_off 3 [.ref 0, .int (w)] μ Q := by
  refine Sp.of vX6_off.1 (Nat.le_of_ble_eq_true rfl) ?_
  show WP cX6_off (RX6, 7, (some .int), 3, none) 0 [(0, .ref 0), (1, .int (w))] [] μ Q
  have hn := Ok_n hO
  have hX := hI.1
  have hC := hI.2
  refine r_iload_n (pc := 0) dX6_off_0 rfl ?_
  refine r_iconst (pc := 1) (v := (nI (0))) dX6_off_1 (by decide) ?_
  refine r_iconst (pc := 2) (v := (nI (3))) dX6_off_2 (by decide) ?_
  refine r_callS (pc := 3) (d' := 0) (As := [.int (w), .int (nI 0), .int (nI 3)]) (rest := []) dX6_off_3 sX6_isWithin mX6_59 rfl rfl (Nat.le_of_ble_eq_true rfl) (Nat.le_of_ble_eq_true rfl) ?_
  refine c_within ?_
  refine rb_if_ne (pc := 6) (tgt := 12) dX6_off_6 (by decide) (fun c6 => ?_) (fun c6 => ?_)
  · refine r_iconst (pc := 12) (v := (nI (0))) dX6_off_12 (by decide) ?_
    refine r_istore_n (pc := 13) (ls' := [(0, .ref 0), (1, .int (w)), (2, .int (nI 0))]) dX6_off_13 (Nat.le_of_ble_eq_true rfl) rfl ?_
    refine r_bipush (pc := 14) (v := (-6)) dX6_off_14 (by decide) ?_
    refine r_istore_n (pc := 16) (ls' := [(0, .ref 0), (1, .int (w)), (2, .int (nI 0)), (3, .int ((-6)))]) dX6_off_16 (Nat.le_of_ble_eq_true rfl) rfl ?_
    refine r_iconst (pc := 17) (v := (nI (0))) dX6_off_17 (by decide) ?_
    refine r_istore (pc := 18) (ls' := [(0, .ref 0), (1, .int (w)), (2, .int (nI 0)), (3, .int ((-6))), (4, .int (nI 0))]) dX6_off_18 (Nat.le_of_ble_eq_true rfl) rfl ?_
    refine r_iconst (pc := 20) (v := (nI (0))) dX6_off_20 (by decide) ?_
    refine r_istore (pc := 21) (ls' := [(0, .ref 0), (1, .int (w)), (2, .int (nI 0)), (3, .int ((-6))), (4, .int (nI 0)), (5, .int (nI 0))]) dX6_off_21 (Nat.le_of_ble_eq_true rfl) rfl ?_
    exact x_off_l hI hO h (σ 0 0) 0 (by omega) c6
  · refine r_bipush (pc := 9) (v := (-2)) dX6_off_9 (by decide) ?_
    refine r_ireturn (pc := 11) dX6_off_11 rfl (Or.inl rfl) rfl ?_
    have e9 : sp_off σ w = -2 := by simp [sp_off, c6]
    rw [e9] at h
    exact h _ hI keepM.rf
end
section
theorem zz_last : True := trivial
end
