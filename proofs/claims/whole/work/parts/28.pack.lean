/-! PACKED PATHS -/
theorem lN_and (a b : Nat) : lN a &&& lN b = lN (a &&& b) := by
  apply Int64.toBitVec_inj.mp
  show BitVec.ofNat 64 a &&& BitVec.ofNat 64 b = BitVec.ofNat 64 (a &&& b)
  rw [BitVec.ofNat_and]
theorem lN_or (a b : Nat) : lN a ||| lN b = lN (a ||| b) := by
  apply Int64.toBitVec_inj.mp
  show BitVec.ofNat 64 a ||| BitVec.ofNat 64 b = BitVec.ofNat 64 (a ||| b)
  rw [BitVec.ofNat_or]
theorem lN_mask (a : Nat) : lN a &&& 15 = lN (a % 16) := by
  rw [show (15 : Int64) = lN 15 from rfl, lN_and, show (15 : Nat) = 2 ^ 4 - 1 from rfl, Nat.and_two_pow_sub_one_eq_mod]
theorem lsh_ok : ∀ i, i < 8 → (((nI (4 * i)).toInt64 &&& 63).toBitVec.smod 64).toNat = 4 * i := by decide +kernel
theorem lshrN {a i : Nat} (ha : a < 2 ^ 63) (hi : i < 8) : lN a >>> ((nI (4 * i)).toInt64 &&& 63) = lN (a / 2 ^ (4 * i)) := by
  apply Int64.toInt_inj.mp
  have h1 : (lN a >>> ((nI (4 * i)).toInt64 &&& 63)).toInt = (lN a).toInt >>> (4 * i) := by
    show ((lN a).toBitVec.sshiftRight (((nI (4 * i)).toInt64 &&& 63).toBitVec.smod 64).toNat).toInt = _
    rw [lsh_ok i hi, BitVec.toInt_sshiftRight]
    rfl
  rw [h1, pk_lT ha, pk_lT (Nat.lt_of_le_of_lt (Nat.div_le_self _ _) ha), Int.shiftRight_eq_div_pow]
  rfl
theorem lshlN {a i : Nat} (hi : i < 8) : lN a <<< ((nI (4 * i)).toInt64 &&& 63) = lN (a * 2 ^ (4 * i)) := by
  apply Int64.toBitVec_inj.mp
  show (BitVec.ofNat 64 a) <<< (((nI (4 * i)).toInt64 &&& 63).toBitVec.smod 64).toNat = BitVec.ofNat 64 (a * 2 ^ (4 * i))
  rw [lsh_ok i hi]
  apply BitVec.eq_of_toNat_eq
  rw [BitVec.toNat_shiftLeft, BitVec.toNat_ofNat, BitVec.toNat_ofNat, Nat.shiftLeft_eq, Nat.mul_mod, Nat.mod_mod, ← Nat.mul_mod]
theorem p16 (n : Nat) : 2 ^ (4 * n) = 16 ^ n := by rw [Nat.pow_mul]
theorem packP_lt : ∀ {p : List Nat}, (∀ x ∈ p, x < 12) → packP p < 16 ^ p.length
  | [], _ => by decide
  | x :: p, h => by
    have h1 := packP_lt (p := p) (fun y hy => h y (List.mem_cons_of_mem _ hy))
    have h2 := h x List.mem_cons_self
    show (x + 1) + 16 * packP p < 16 ^ (p.length + 1)
    rw [Nat.pow_succ]
    omega
theorem packP_snoc : ∀ (p : List Nat) (b : Nat), packP (p ++ [b]) = packP p + (b + 1) * 16 ^ p.length
  | [], b => by show (b + 1) + 16 * 0 = 0 + (b + 1) * 1; omega
  | x :: p, b => by
    show (x + 1) + 16 * packP (p ++ [b]) = ((x + 1) + 16 * packP p) + (b + 1) * 16 ^ (p.length + 1)
    rw [packP_snoc p b, Nat.pow_succ, Nat.mul_add, Nat.mul_comm (16 ^ p.length) 16, Nat.mul_left_comm 16]
    omega
theorem packP_at : ∀ {p : List Nat} {i : Nat}, (∀ x ∈ p, x < 12) → packP p / 16 ^ i % 16 = (match p[i]? with | some x => x + 1 | none => 0)
  | [], i, _ => by simp [packP]
  | x :: p, 0, h => by
    have h2 := h x List.mem_cons_self
    show ((x + 1) + 16 * packP p) / 1 % 16 = x + 1
    omega
  | x :: p, i + 1, h => by
    have h2 := h x List.mem_cons_self
    have ih := packP_at (p := p) (i := i) (fun y hy => h y (List.mem_cons_of_mem _ hy))
    show ((x + 1) + 16 * packP p) / 16 ^ (i + 1) % 16 = _
    rw [Nat.pow_succ, Nat.mul_comm (16 ^ i) 16, ← Nat.div_div_eq_div_mul, show ((x + 1) + 16 * packP p) / 16 = packP p by omega, ih]
    rfl
/-- one more board behind the packed ones -/
theorem pack_or {p : List Nat} {b : Nat} (hp : ∀ x ∈ p, x < 12) (hl : p.length < 8) : lN (packP p) ||| (lN (b + 1) <<< ((nI (4 * p.length)).toInt64 &&& 63)) = lN (packP (p ++ [b])) := by
  rw [lshlN hl, lN_or, packP_snoc, p16]
  congr 1
  have h1 := packP_lt hp
  rw [← p16] at h1 ⊢
  rw [Nat.or_comm, Nat.mul_comm, ← Nat.two_pow_add_eq_or_of_lt h1, Nat.add_comm]
theorem okP_12 {σ : Sg} (hO : Ok σ) {r : List Nat} (h : okP σ r) : ∀ x ∈ r, x < 12 := fun x hx => Nat.lt_of_lt_of_le (h x hx) hO.1
theorem pack_63 {σ : Sg} (hO : Ok σ) {r : List Nat} (h : okP σ r) (hl : r.length ≤ 8) : packP r < 2 ^ 63 := by
  have h1 := packP_lt (okP_12 hO h)
  have h2 : 16 ^ r.length ≤ 16 ^ 8 := Nat.pow_le_pow_right (by decide) hl
  have h3 : (16 : Nat) ^ 8 < 2 ^ 63 := by decide
  omega
/-- how many bits: the JDK's way, for twelve bits -/
def bcN (x : Int32) : Int32 :=
  let a := x - ((x.toUInt32 >>> ((nI 1).toUInt32 &&& Int32.toUInt32 31)).toInt32 &&& nI 1431655765)
  let b := (a &&& nI 858993459) + ((a.toUInt32 >>> ((nI 2).toUInt32 &&& Int32.toUInt32 31)).toInt32 &&& nI 858993459)
  let c := (b + (b.toUInt32 >>> ((nI 4).toUInt32 &&& Int32.toUInt32 31)).toInt32) &&& nI 252645135
  let d := c + (c.toUInt32 >>> ((nI 8).toUInt32 &&& Int32.toUInt32 31)).toInt32
  let e := d + (d.toUInt32 >>> ((nI 16).toUInt32 &&& Int32.toUInt32 31)).toInt32
  e &&& nI 63
theorem bcN_ok {x : Nat} (h : x < 4096) : bcN (nI x) = nI (pc12 x) := by
  have key : ∀ q, q < 64 → ∀ r, r < 64 → bcN (nI (64 * q + r)) = nI (pc12 (64 * q + r)) := by decide +kernel
  have := key (x / 64) (by omega) (x % 64) (by omega)
  rwa [Nat.div_add_mod] at this
