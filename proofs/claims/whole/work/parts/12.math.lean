/-! THE MATHEMATICS that both sides are tied to -/
/-- rounds: from coin c on, by boards in order; s the least coin, seen a mask, path behind us -/
def dfs (σ : Sg) (s : Nat) : Nat → Nat → Nat → List Nat → List (List Nat)
  | 0, _, _, _ => []
  | f + 1, c, seen, path => (List.range (σ 0 0)).flatMap (fun b => if σ 1 b = c ∧ opn σ b = true then (if σ 3 b = s then [path ++ [b]] else if s < σ 3 b ∧ seen.testBit (σ 3 b) = false then dfs σ s f (σ 3 b) (seen ||| 2 ^ σ 3 b) (path ++ [b]) else []) else [])
def rnds (σ : Sg) : List (List Nat) := (List.range 8).flatMap (fun s => dfs σ s 8 s (2 ^ s) [])
def prodL : List Nat → Nat
  | [] => 1
  | a :: l => a * prodL l
/-- the product's upper number by gives g and a fee, its lower one -/
def pUp (g : Nat → Nat) (f : Nat) (r : List Nat) : Nat := prodL (r.map (fun b => upR (g b) f))
def pLow (σ : Sg) (r : List Nat) : Nat := prodL (r.map (σ 2))
def gns (σ : Sg) (g : Nat → Nat) (f : Nat) (r : List Nat) : Bool := decide (pLow σ r < pUp g f r)
/-- the rounds that gain; the places of those among all -/
def grs (σ : Sg) (g : Nat → Nat) (f : Nat) : List (List Nat) := (rnds σ).filter (gns σ g f)
def gix (σ : Sg) (g : Nat → Nat) (f : Nat) : List Nat := (List.range (rnds σ).length).filter (fun i => gns σ g f ((rnds σ).getD i []))
def bitsP : List Nat → Nat
  | [] => 0
  | b :: l => 2 ^ b ||| bitsP l
def packP : List Nat → Nat
  | [] => 0
  | b :: l => (b + 1) + 16 * packP l
/-- the place of the greatest product among those that gain, the first such: none if none gains -/
def above (a b c d : Nat) : Bool := decide (c * b < a * d)
def mi (u l : Nat → Nat) : Nat → Option Nat
  | 0 => none
  | n + 1 => match mi u l n with
    | none => some n
    | some j => if above (u n) (l n) (u j) (l j) = true then some n else some j
def gsl (σ : Sg) (g : Nat → Nat) (f : Nat) : List (List Nat) := (rnds σ).filter (gns σ g f)
def mostG (σ : Sg) (g : Nat → Nat) (f : Nat) : Option (List Nat) := (mi (fun i => pUp g f ((gsl σ g f).getD i [])) (fun i => pLow σ ((gsl σ g f).getD i [])) (gsl σ g f).length).map (fun j => (gsl σ g f).getD j [])
/-- the walkers: gives behind k more of them -/
def wear (d : Nat) (r : List Nat) (g : Nat → Nat) : Nat → Nat := fun b => if b ∈ r then (if g b - d < 1 then 1 else g b - d) else g b
def walkN (σ : Sg) (f d : Nat) : Nat → (Nat → Nat) → Nat × (Nat → Nat)
  | 0, g => (0, g)
  | k + 1, g => match mostG σ g f with
    | none => (0, g)
    | some r => ((walkN σ f d k (wear d r g)).1 + 1, (walkN σ f d k (wear d r g)).2)
def wkr (σ : Sg) : Nat × (Nat → Nat) := walkN σ (σ 0 1) (σ 0 3) 1176 (σ 4)
/-- what the class keeps -/
def FoundOK (μ : Mem) (σ : Sg) : Prop :=
  μ.1 12 5 = nI (rnds σ).length ∧ μ.1 12 6 = nI (gix σ (σ 4) (σ 0 1)).length ∧
  (∀ i r, (rnds σ)[i]? = some r → μ.2 13 i = lN (packP r) ∧ μ.2 14 i = lN (pLow σ r) ∧ μ.1 15 i = nI (bitsP r)) ∧
  (∀ i k, (gix σ (σ 4) (σ 0 1))[i]? = some k → μ.1 16 i = nI k)
def SentOK (μ : Mem) (σ : Sg) : Prop := μ.1 37 1 = nI (wkr σ).1 ∧ ∀ j, j < 12 → μ.1 38 j = nI ((wkr σ).2 j)
def Xc (μ : Mem) (σ : Sg) : Prop := (μ.1 12 7 = nI 0 ∨ (μ.1 12 7 = nI 1 ∧ FoundOK μ σ)) ∧ (μ.1 37 2 = nI 0 ∨ (μ.1 37 2 = nI 1 ∧ SentOK μ σ))
def XI (μ : Mem) (σ : Sg) : Prop := Xs μ σ ∧ Xc μ σ
/-- what the other side has stays -/
def keepM (μ μ' : Mem) : Prop := ∀ k, 40 ≤ k → μ'.1 k = μ.1 k ∧ μ'.2 k = μ.2 k
def keepX (μ μ' : Mem) : Prop := ∀ k, k < 40 → μ'.1 k = μ.1 k ∧ μ'.2 k = μ.2 k
theorem keepM.rf {μ : Mem} : keepM μ μ := fun _ _ => ⟨rfl, rfl⟩
theorem keepX.rf {μ : Mem} : keepX μ μ := fun _ _ => ⟨rfl, rfl⟩
theorem keepM.tr {μ μ' μ'' : Mem} (h : keepM μ μ') (h' : keepM μ' μ'') : keepM μ μ'' := fun k hk => ⟨(h' k hk).1.trans (h k hk).1, (h' k hk).2.trans (h k hk).2⟩
theorem keepX.tr {μ μ' μ'' : Mem} (h : keepX μ μ') (h' : keepX μ' μ'') : keepX μ μ'' := fun k hk => ⟨(h' k hk).1.trans (h k hk).1, (h' k hk).2.trans (h k hk).2⟩
theorem keepM.I {μ μ' : Mem} (h : keepM μ μ') {k j : Nat} {v : Int32} (hk : k < 40) : keepM μ (setI μ' k j v) := fun a ha => ⟨by
  show (if a = k then _ else μ'.1 a) = _
  rw [if_neg (by omega)]; exact (h a ha).1, (h a ha).2⟩
theorem keepM.L {μ μ' : Mem} (h : keepM μ μ') {k j : Nat} {v : Int64} (hk : k < 40) : keepM μ (setL μ' k j v) := fun a ha => ⟨(h a ha).1, by
  show (if a = k then _ else μ'.2 a) = _
  rw [if_neg (by omega)]; exact (h a ha).2⟩
theorem keepX.I {μ μ' : Mem} (h : keepX μ μ') {k j : Nat} {v : Int32} (hk : 40 ≤ k) : keepX μ (setI μ' k j v) := fun a ha => ⟨by
  show (if a = k then _ else μ'.1 a) = _
  rw [if_neg (by omega)]; exact (h a ha).1, (h a ha).2⟩
theorem keepX.L {μ μ' : Mem} (h : keepX μ μ') {k j : Nat} {v : Int64} (hk : 40 ≤ k) : keepX μ (setL μ' k j v) := fun a ha => ⟨(h a ha).1, by
  show (if a = k then _ else μ'.2 a) = _
  rw [if_neg (by omega)]; exact (h a ha).2⟩
theorem keepM.C {μ μ' : Mem} (h : keepM μ μ') {k k' n : Nat} (hk : k' < 40) : keepM μ (cpyI μ' k k' n) := fun a ha => ⟨by
  show (if a = k' then _ else μ'.1 a) = _
  rw [if_neg (by omega)]; exact (h a ha).1, (h a ha).2⟩
theorem Ms_keep {μ μ' : Mem} {σ : Sg} (h : Ms μ σ) (k : keepM μ μ') : Ms μ' σ := by
  unfold Ms
  rw [(k 40 (by omega)).1, (k 41 (by omega)).1, (k 42 (by omega)).1, (k 43 (by omega)).1, (k 44 (by omega)).1, (k 45 (by omega)).1, (k 46 (by omega)).1, (k 47 (by omega)).1, (k 48 (by omega)).1, (k 49 (by omega)).1, (k 50 (by omega)).1]
  exact h
theorem XI_keep {μ μ' : Mem} {σ : Sg} (h : XI μ σ) (k : keepX μ μ') : XI μ' σ := by
  unfold XI Xs Xc FoundOK SentOK
  rw [(k 1 (by omega)).1, (k 2 (by omega)).1, (k 3 (by omega)).1, (k 4 (by omega)).1, (k 5 (by omega)).1, (k 6 (by omega)).1, (k 7 (by omega)).1, (k 8 (by omega)).1, (k 9 (by omega)).1, (k 10 (by omega)).1, (k 11 (by omega)).1, (k 12 (by omega)).1, (k 13 (by omega)).2, (k 14 (by omega)).2, (k 15 (by omega)).1, (k 16 (by omega)).1, (k 37 (by omega)).1, (k 38 (by omega)).1, (k 39 (by omega)).1]
  exact h
/-- what the class keeps hangs on the boards alone -/
def sameB (σ σ' : Sg) : Prop := σ' 0 0 = σ 0 0 ∧ σ' 0 1 = σ 0 1 ∧ σ' 0 2 = σ 0 2 ∧ σ' 0 3 = σ 0 3 ∧ σ' 1 = σ 1 ∧ σ' 2 = σ 2 ∧ σ' 3 = σ 3 ∧ σ' 4 = σ 4 ∧ σ' 5 = σ 5 ∧ σ' 6 = σ 6
theorem dfs_cong {σ σ' : Sg} (h : sameB σ σ') (s : Nat) : ∀ (f c seen : Nat) (p : List Nat), dfs σ' s f c seen p = dfs σ s f c seen p
  | 0, _, _, _ => rfl
  | f + 1, c, seen, p => by
    obtain ⟨h0, h1, h2, h3, h4, h5, h6, h7, h8, h9⟩ := h
    have ho : ∀ b, opn σ' b = opn σ b := fun b => by unfold opn; rw [h8, h9, h2]
    unfold dfs
    rw [h0, h4, h6]
    congr 1
    funext b
    rw [ho b, dfs_cong ⟨h0, h1, h2, h3, h4, h5, h6, h7, h8, h9⟩ s f]
theorem rnds_cong {σ σ' : Sg} (h : sameB σ σ') : rnds σ' = rnds σ := by
  unfold rnds
  congr 1
  funext s
  exact dfs_cong h s _ _ _ _
theorem gsl_cong {σ σ' : Sg} (hr : rnds σ' = rnds σ) (h : σ' 2 = σ 2) (g : Nat → Nat) (f : Nat) : gsl σ' g f = gsl σ g f := by
  unfold gsl
  rw [hr]
  congr 1
  funext r
  unfold gns pLow
  rw [h]
theorem mostG_cong {σ σ' : Sg} (hr : rnds σ' = rnds σ) (h : σ' 2 = σ 2) (g : Nat → Nat) (f : Nat) : mostG σ' g f = mostG σ g f := by
  unfold mostG
  rw [gsl_cong hr h]
  unfold pLow
  rw [h]
theorem walkN_cong {σ σ' : Sg} (h : sameB σ σ') (f d : Nat) : ∀ (k : Nat) (g : Nat → Nat), walkN σ' f d k g = walkN σ f d k g
  | 0, g => rfl
  | k + 1, g => by
    unfold walkN
    rw [mostG_cong (rnds_cong h) h.2.2.2.2.2.1]
    cases mostG σ g f with
    | none => rfl
    | some r => simp only [walkN_cong h f d k]
theorem Xc_cong {μ : Mem} {σ σ' : Sg} (h : sameB σ σ') (hX : Xc μ σ) : Xc μ σ' := by
  have hr := rnds_cong h
  have hw : wkr σ' = wkr σ := by
    unfold wkr
    rw [walkN_cong h, h.2.1, h.2.2.2.1, h.2.2.2.2.2.2.2.1]
  have hl : ∀ r, pLow σ' r = pLow σ r := fun r => by unfold pLow; rw [h.2.2.2.2.2.1]
  have hg : gix σ' (σ' 4) (σ' 0 1) = gix σ (σ 4) (σ 0 1) := by
    unfold gix gns
    simp only [hr, h.2.1, h.2.2.2.2.2.2.2.1, hl]
  unfold Xc FoundOK SentOK
  rw [hw, hg, hr]
  simp only [hl]
  exact hX
theorem Xc_none {μ : Mem} {σ : Sg} (h1 : μ.1 12 7 = nI 0) (h2 : μ.1 37 2 = nI 0) : Xc μ σ := ⟨Or.inl h1, Or.inl h2⟩
/-- bits -/
theorem shl1 {b : Nat} (h : b < 31) : nI 1 <<< (nI b &&& 31) = nI (2 ^ b) := by
  have key : ∀ b, b < 31 → nI 1 <<< (nI b &&& 31) = nI (2 ^ b) := by decide +kernel
  exact key b h
theorem shr_ok : ∀ b, b < 31 → ((nI b &&& 31).toBitVec.smod 32).toNat = b := by decide +kernel
theorem shrN {s b : Nat} (hs : s < 2 ^ 31) (h : b < 31) : nI s >>> (nI b &&& 31) = nI (s / 2 ^ b) := pk_shrN hs _ b (shr_ok b h)
theorem and1 {a : Nat} (h : a < 2 ^ 31) : nI a &&& nI 1 = nI (a % 2) := by
  have := pk_andN (n := a) (by omega) (m := nI 1) 1 (by decide)
  simpa using this
theorem nI_or (a b : Nat) : nI a ||| nI b = nI (a ||| b) := by
  apply Int32.toBitVec_inj.mp
  show BitVec.ofNat 32 a ||| BitVec.ofNat 32 b = BitVec.ofNat 32 (a ||| b)
  rw [BitVec.ofNat_or]
theorem nI_and (a b : Nat) : nI a &&& nI b = nI (a &&& b) := by
  apply Int32.toBitVec_inj.mp
  show BitVec.ofNat 32 a &&& BitVec.ofNat 32 b = BitVec.ofNat 32 (a &&& b)
  rw [BitVec.ofNat_and]
theorem tb_iff {s b : Nat} : s / 2 ^ b % 2 = 1 ↔ s.testBit b = true := by rw [Nat.testBit_eq_decide_div_mod_eq]; simp
theorem tb_0 {s b : Nat} : s / 2 ^ b % 2 = 0 ↔ s.testBit b = false := by
  rw [← Bool.not_eq_true, ← tb_iff]
  omega
theorem inR_t {v : Int32} {lo hi : Nat} (hl : lo < 2 ^ 31) (hh : hi < 2 ^ 31) (h : inR v (nI lo) (nI hi) = true) : ∃ j : Nat, lo ≤ j ∧ j ≤ hi ∧ v = nI j := by
  rw [inR_iff, nI_toInt hl, nI_toInt hh] at h
  obtain ⟨j, hj, rfl⟩ := nI_of (x := v) (fun q => by have := Int32.lt_iff_toInt_lt.mp q; simp at this; omega)
  rw [nI_toInt hj] at h
  exact ⟨j, by omega, by omega, rfl⟩
/-- the open boards as bits -/
def obits (σ : Sg) : Nat → Nat
  | 0 => 0
  | m + 1 => obits σ m ||| (if opn σ m = true then 2 ^ m else 0)
theorem or_lt {a b k : Nat} (ha : a < 2 ^ k) (hb : b < 2 ^ k) : a ||| b < 2 ^ k := Nat.or_lt_two_pow ha hb
theorem obits_lt (σ : Sg) : ∀ m, obits σ m < 2 ^ m
  | 0 => Nat.one_pos
  | m + 1 => by
    unfold obits
    refine or_lt (Nat.lt_of_lt_of_le (obits_lt σ m) (Nat.pow_le_pow_right (by decide) (by omega))) ?_
    split
    · exact Nat.pow_lt_pow_right (by decide) (by omega)
    · exact Nat.two_pow_pos _
/-! WHAT EACH PLAIN CALL ANSWERS, and the state behind it -/
abbrev bN (b : Int32) : Nat := b.toNatClampNeg
def addB (σ : Sg) (f t g n : Nat) : Sg := fun a i => if a = 0 then (if i = 0 then σ 0 0 + 1 else σ 0 i) else if i = σ 0 0 then (if a = 1 then f else if a = 2 then t else if a = 3 then g else if a = 4 then n else if a = 5 then 0 else if a = 6 then 99 else if a = 7 then 1000000 else σ a i) else σ a i
def sp_board (σ : Sg) (f t g n : Int32) : Int32 × Sg := if isB f 8 = false ∨ isB g 8 = false ∨ f = g then (-1, σ) else if inR t (nI 1) (nI 99) = false ∨ inR n (nI 1) (nI 99) = false then (-2, σ) else if σ 0 0 = 12 then (-4, σ) else (nI (σ 0 0), addB σ (bN f) (bN t) (bN g) (bN n))
def sp_of (σ : Sg) (b w : Int32) : Int32 := if isB b (σ 0 0) = false then -1 else if w = nI 0 then nI (σ 1 (bN b)) else if w = nI 1 then nI (σ 2 (bN b)) else if w = nI 2 then nI (σ 3 (bN b)) else if w = nI 3 then nI (σ 4 (bN b)) else if w = nI 4 then nI (σ 5 (bN b)) else if w = nI 5 then nI (σ 6 (bN b)) else if w = nI 6 then nI (σ 7 (bN b)) else if w = nI 7 then b2i (opn σ (bN b)) else if w = nI 8 then nI (upR (σ 4 (bN b)) (σ 0 1)) else -2
def sp_change (σ : Sg) (b w v : Int32) : Int32 × Sg := if isB b (σ 0 0) = false then (-1, σ) else if inR w (nI 0) (nI 1) = false ∨ inR v (nI 1) (nI (if w = nI 0 then 99 else 1000000)) = false then (-2, σ) else if w = nI 0 then (nI (σ 4 (bN b)), su σ 4 (bN b) (bN v)) else (nI (σ 7 (bN b)), su σ 7 (bN b) (bN v))
def sp_hours (σ : Sg) (b f t : Int32) : Int32 × Sg := if isB b (σ 0 0) = false then (-1, σ) else if inR f (nI 0) (nI 99) = true ∧ inR t (nI 0) (nI 99) = true ∧ f.toInt ≤ t.toInt then (1, su (su σ 5 (bN b) (bN f)) 6 (bN b) (bN t)) else (-2, σ)
def sp_set (σ : Sg) (w v : Int32) : Int32 × Sg := if inR w (nI 0) (nI 2) = false then (-2, σ) else if inR v (nI (if w = nI 2 then 1 else 0)) (nI (if w = nI 1 then 99 else 98)) = false then (-2, σ) else (nI (σ 0 (bN w + 1)), su σ 0 (bN w + 1) (bN v))
def sp_say (σ : Sg) (v : Int32) : Int32 × Sg := if inR v (nI 33) (nI 126) = false then (-2, σ) else if σ 0 4 = 80 then (-4, σ) else (nI (σ 0 4 + 1), su (su σ 8 (σ 0 4) (bN v)) 0 4 (σ 0 4 + 1))
def sp_wipe (σ : Sg) : Int32 × Sg := (nI (σ 0 4), su σ 0 4 0)
def sp_worth (σ : Sg) (c v : Int32) : Int32 × Sg := if isB c 8 = false then (-1, σ) else if inR v (nI 1) (nI 1000000) = false then (-2, σ) else (nI (σ 9 (bN c)), su σ 9 (bN c) (bN v))
def sp_told (σ : Sg) (w : Int32) : Int32 := if w = nI 0 then nI (σ 0 0) else if w = nI 1 then nI (σ 0 4) else if w = nI 2 then nI (obits σ (σ 0 0)) else if w = nI 3 then nI (σ 0 1) else if w = nI 4 then nI (σ 0 2) else if w = nI 5 then nI (σ 0 3) else -2
theorem bN_nI {j : Nat} (h : j < 2 ^ 31) : bN (nI j) = j := nI_clamp h
