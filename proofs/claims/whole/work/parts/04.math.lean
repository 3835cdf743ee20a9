/-! numbers and bits -/
theorem px_inc1 (i : Nat) : nI i + Int32.ofInt 1 = nI (i + 1) := nI_1 i
theorem px_inc3 (i : Nat) : nI i + Int32.ofInt 3 = nI (i + 3) := nI_add i 3
theorem px_dec (i : Nat) : nI i + Int32.ofInt (-1) = nI i - 1 := by
  rw [show Int32.ofInt (-1) = -1 from by decide +kernel, Int32.sub_eq_add_neg]
def pm_pt (n : Nat) (a : Int32) : Bool := decide (0 ≤ a.toInt ∧ a.toInt < n)
theorem pm_pt_f1 {n : Nat} {a : Int32} (h : a < 0) : pm_pt n a = false := by
  have h1 : a.toInt < 0 := Int32.lt_iff_toInt_lt.mp h
  simp [pm_pt]; omega
theorem pm_pt_f2 {n : Nat} {a : Int32} (hn : n < 2 ^ 31) (h : nI n ≤ a) : pm_pt n a = false := by
  have h1 : (nI n).toInt ≤ a.toInt := Int32.le_iff_toInt_le.mp h
  rw [nI_toInt hn] at h1
  simp [pm_pt]; omega
theorem pm_pt_t {n : Nat} {a : Int32} (hn : n < 2 ^ 31) (h0 : ¬ a < 0) (h : ¬ nI n ≤ a) : pm_pt n a = true := by
  have h2 : ¬ a.toInt < 0 := fun q => h0 (Int32.lt_iff_toInt_lt.mpr q)
  have h1 : ¬ (nI n).toInt ≤ a.toInt := fun q => h (Int32.le_iff_toInt_le.mpr q)
  rw [nI_toInt hn] at h1
  simp [pm_pt]; omega
theorem pm_pt_of {n : Nat} {a : Int32} (hn : n < 2 ^ 31) (h : pm_pt n a = true) : ∃ j, j < n ∧ a = nI j := by
  simp [pm_pt] at h
  exact vp_in_of (vp_in_iff.mpr h) hn
theorem pm_pt_nI {n j : Nat} (hj : j < 2 ^ 31) : pm_pt n (nI j) = decide (j < n) := by
  simp [pm_pt, nI_toInt hj]
def pm_bit (b : Nat) : Int64 := 1 <<< ((nI (b % 64)).toInt64 &&& 63)
theorem pm_bit_bv0 : ∀ j, j < 64 → ((1 : Int64) <<< ((nI j).toInt64 &&& 63)).toBitVec = BitVec.twoPow 64 j := by decide +kernel
theorem pm_bit_bv (b : Nat) : (pm_bit b).toBitVec = BitVec.twoPow 64 (b % 64) := pm_bit_bv0 _ (Nat.mod_lt _ (by decide))
def pm_ed (E : Nat → Int64) (a b : Nat) : Bool := (E (a * 4 + b / 64)).toBitVec.getLsbD (b % 64)
theorem pm_bit_and (x : Int64) (b : Nat) : x &&& pm_bit b = 0 ↔ x.toBitVec.getLsbD (b % 64) = false := by
  rw [← Int64.toBitVec_inj, Int64.toBitVec_and, pm_bit_bv, BitVec.and_twoPow]
  by_cases h : x.toBitVec.getLsbD (b % 64) = true
  · rw [if_pos h, h]
    constructor
    · intro q
      have := congrArg (fun v : BitVec 64 => v.getLsbD (b % 64)) q
      simp [BitVec.getLsbD_twoPow] at this
      omega
    · intro q; cases q
  · rw [if_neg h]
    simp at h
    simp [h]
theorem pm_bit_or (x : Int64) (a b : Nat) : (x ||| pm_bit b).toBitVec.getLsbD (a % 64) = (x.toBitVec.getLsbD (a % 64) || decide (a % 64 = b % 64)) := by
  rw [Int64.toBitVec_or, pm_bit_bv, BitVec.getLsbD_or, BitVec.getLsbD_twoPow]
  have h1 : b % 64 < 64 := Nat.mod_lt _ (by decide)
  by_cases h : a % 64 = b % 64
  · rw [h]; simp [h1]
  · simp [h, Ne.symm h]
def pm_b32 (j : Nat) : Int32 := 1 <<< (nI j &&& 31)
theorem pm_b32_bv : ∀ j, j < 32 → (pm_b32 j).toBitVec = BitVec.twoPow 32 j := by decide +kernel
theorem pm_b32_and (x : Int32) {j : Nat} (hj : j < 32) : x &&& pm_b32 j = 0 ↔ x.toBitVec.getLsbD j = false := by
  rw [← Int32.toBitVec_inj, Int32.toBitVec_and, pm_b32_bv j hj, BitVec.and_twoPow]
  by_cases h : x.toBitVec.getLsbD j = true
  · rw [if_pos h, h]
    constructor
    · intro q
      have := congrArg (fun v : BitVec 32 => v.getLsbD j) q
      simp [BitVec.getLsbD_twoPow] at this
      omega
    · intro q; cases q
  · rw [if_neg h]
    simp at h
    simp [h]
theorem pm_b32_or (x : Int32) {i j : Nat} (hj : j < 32) : (x ||| pm_b32 j).toBitVec.getLsbD i = (x.toBitVec.getLsbD i || decide (j = i)) := by
  rw [Int32.toBitVec_or, pm_b32_bv j hj, BitVec.getLsbD_or, BitVec.getLsbD_twoPow]
  by_cases h : j = i
  · subst h; simp [hj]
  · simp [h]
/-! counting, the first, the best -/
def pm_cn (f : Nat → Bool) : Nat → Nat
  | 0 => 0
  | i + 1 => pm_cn f i + (if f i = true then 1 else 0)
def pm_ft (f : Nat → Bool) : Nat → Option Nat
  | 0 => none
  | i + 1 => match pm_ft f i with
    | some a => some a
    | none => if f i = true then some i else none
def pm_sm (f : Nat → Nat) : Nat → Nat
  | 0 => 0
  | i + 1 => pm_sm f i + f i
def pm_o (x : Option Nat) : Int32 := match x with
  | none => -1
  | some a => nI a
/-- neighbours still in -/
def pm_lf (J : Nat → Nat → Bool) (n : Nat) (inn : Nat → Bool) (a : Nat) : Nat := pm_cn (fun b => inn b && J a b) n
/-- the cheapest of those below i -/
def pm_bs (J : Nat → Nat → Bool) (n : Nat) (cst : Nat → Nat) (inn : Nat → Bool) : Nat → Option Nat
  | 0 => none
  | i + 1 => if inn i = true then (match pm_bs J n cst inn i with
      | none => some i
      | some b => if cst i * pm_lf J n inn b < cst b * pm_lf J n inn i then some i else some b) else pm_bs J n cst inn i
def pm_lo (J : Nat → Nat → Bool) (n k : Nat) (inn : Nat → Bool) (a : Nat) : Bool := inn a && decide (pm_lf J n inn a < k)
/-- the next one to be taken out -/
def pm_nx (J : Nat → Nat → Bool) (n k : Nat) (cst : Nat → Nat) (inn : Nat → Bool) : Option Nat := match pm_ft (pm_lo J n k inn) n with
  | some a => some a
  | none => pm_bs J n cst inn n
/-- who is still in before the i-th is taken out -/
def pm_in (J : Nat → Nat → Bool) (n k : Nat) (cst : Nat → Nat) : Nat → Nat → Bool
  | 0 => fun _ => true
  | i + 1 => fun a => pm_in J n k cst i a && !decide (pm_nx J n k cst (pm_in J n k cst i) = some a)
def pm_od (J : Nat → Nat → Bool) (n k : Nat) (cst : Nat → Nat) (i : Nat) : Nat := (pm_nx J n k cst (pm_in J n k cst i)).getD 0
/-- no neighbour below i has the colour c -/
def pm_fr (J : Nat → Nat → Bool) (col : Nat → Int32) (a : Nat) (c : Int32) : Nat → Bool
  | 0 => true
  | i + 1 => pm_fr J col a c i && !(J a i && decide (col i = c))
def pm_ch (J : Nat → Nat → Bool) (n k : Nat) (ws : Nat → Nat) (col : Nat → Int32) (a : Nat) : Int32 :=
  if ws a ≠ a ∧ ¬ col (ws a) < 0 ∧ pm_fr J col a (col (ws a)) n = true then col (ws a) else pm_o (pm_ft (fun c => pm_fr J col a (nI c) n) k)
/-- the colours when t points have come back -/
def pm_cs (J : Nat → Nat → Bool) (n k : Nat) (cst ws : Nat → Nat) : Nat → Nat → Int32
  | 0 => fun _ => -1
  | t + 1 => upd (pm_cs J n k cst ws t) (pm_od J n k cst (n - 1 - t)) (pm_ch J n k ws (pm_cs J n k cst ws t) (pm_od J n k cst (n - 1 - t)))
/-- how many of the first t that came back got none -/
def pm_nn (J : Nat → Nat → Bool) (n k : Nat) (cst ws : Nat → Nat) (t : Nat) : Nat := pm_cn (fun u => decide (pm_ch J n k ws (pm_cs J n k cst ws u) (pm_od J n k cst (n - 1 - u)) < 0)) t
def pm_sy (J : Nat → Nat → Bool) (col : Nat → Int32) (a b : Nat) : Bool := decide (a < b) && (J a b && (!decide (col a = -1) && decide (col a = col b)))
def pm_st (J : Nat → Nat → Bool) (col : Nat → Int32) (n : Nat) : Nat := pm_sm (fun a => pm_cn (pm_sy J col a) n) n
