/-! ===== sets of pages as bits of a long ===== -/
def bl (x : Int64) (i : Nat) : Bool := x.toBitVec.getLsbD i
theorem bl_ext {x y : Int64} (h : ∀ i, i < 64 → bl x i = bl y i) : x = y := Int64.toBitVec_inj.1 (BitVec.eq_of_getLsbD_eq fun i hi => h i hi)
theorem bl_or (x y : Int64) (i : Nat) : bl (x ||| y) i = (bl x i || bl y i) := by
  unfold bl
  rw [Int64.toBitVec_or, BitVec.getLsbD_or]
theorem bl_and (x y : Int64) (i : Nat) : bl (x &&& y) i = (bl x i && bl y i) := by
  unfold bl
  rw [Int64.toBitVec_and, BitVec.getLsbD_and]
theorem bl_not (x : Int64) {i : Nat} (hi : i < 64) : bl (x ^^^ (-1)) i = !bl x i := by
  have ha : (-1 : Int64).toBitVec = BitVec.allOnes 64 := by decide
  unfold bl
  rw [Int64.toBitVec_xor, ha, BitVec.getLsbD_xor, BitVec.getLsbD_allOnes]
  simp [hi]
theorem bl_0 (i : Nat) : bl 0 i = false := by
  unfold bl
  exact BitVec.getLsbD_zero
theorem bl_cmp0 (x : Int64) : lg_cmp x 0 = 0 ↔ x = 0 := by
  unfold lg_cmp
  by_cases h1 : x > 0
  · rw [if_pos h1]
    constructor
    · intro h; exact absurd h (by decide)
    · intro h; rw [h] at h1; exact absurd h1 (by decide)
  · rw [if_neg h1]
    by_cases h2 : x = 0
    · simp [h2]
    · rw [if_neg h2]
      constructor
      · intro h; exact absurd h (by decide)
      · intro h; exact absurd h h2
theorem bl_sh1 : ∀ p, p < 64 → ((1 : Int64) <<< ((nI p).toInt64 &&& 63)).toBitVec = BitVec.twoPow 64 p := by decide +kernel
theorem bl_sm : ∀ p, p < 64 → (((nI p).toInt64 &&& 63).toBitVec.smod 64).toNat = p := by decide +kernel
theorem bl_one {p : Nat} (hp : p < 64) (i : Nat) : bl ((1 : Int64) <<< ((nI p).toInt64 &&& 63)) i = decide (i = p) := by
  unfold bl
  rw [bl_sh1 p hp, BitVec.getLsbD_twoPow]
  by_cases h : i = p
  · subst h; simp [hp]
  · simp [h, Ne.symm h]
theorem bl_test {x : Int64} {p : Nat} (hp : p < 64) : lg_cmp ((x >>> ((nI p).toInt64 &&& 63)) &&& 1) 0 = 0 ↔ bl x p = false := by
  have h0 : lg_cmp ((x >>> ((nI p).toInt64 &&& 63)) &&& 1) 0 = 0 ↔ (x >>> ((nI p).toInt64 &&& 63)) &&& 1 = 0 := bl_cmp0 _
  rw [h0]
  have e : (x >>> ((nI p).toInt64 &&& 63)).toBitVec.getLsbD 0 = bl x p := by
    rw [Int64.toBitVec_shiftRight]
    show (x.toBitVec.sshiftRight (((nI p).toInt64 &&& 63).toBitVec.smod 64).toNat).getLsbD 0 = _
    rw [bl_sm p hp, BitVec.getLsbD_sshiftRight]
    simp [hp, bl]
  constructor
  · intro h
    have t := congrArg (fun z => bl z 0) h
    simp only [bl_and, bl_0] at t
    rw [← e]
    have h1 : bl 1 0 = true := by decide
    rw [h1, Bool.and_true] at t
    exact t
  · intro h
    apply bl_ext
    intro i hi
    rw [bl_and, bl_0]
    by_cases h1 : i = 0
    · subst h1
      have : bl (x >>> ((nI p).toInt64 &&& 63)) 0 = false := by
        show (x >>> ((nI p).toInt64 &&& 63)).toBitVec.getLsbD 0 = false
        rw [e, h]
      rw [this]
      rfl
    · have h2 : bl 1 i = false := by
        have : (1 : Int64).toBitVec = BitVec.twoPow 64 0 := by decide
        unfold bl
        rw [this, BitVec.getLsbD_twoPow]
        simp [Ne.symm h1]
      rw [h2, Bool.and_false]
theorem bl_meet {x y : Int64} : lg_cmp (x &&& y) 0 = 0 ↔ ∀ i, i < 64 → ¬ (bl x i = true ∧ bl y i = true) := by
  rw [bl_cmp0]
  constructor
  · intro h i hi ⟨h1, h2⟩
    have t := congrArg (fun z => bl z i) h
    simp [bl_and, bl_0, h1, h2] at t
  · intro h
    apply bl_ext
    intro i hi
    rw [bl_and, bl_0]
    have := h i hi
    cases h1 : bl x i <;> cases h2 : bl y i <;> simp_all
/-- the pages below n that have it, as a set -/
def mkS (P : Nat → Bool) : Nat → Int64
  | 0 => 0
  | n + 1 => if P n then mkS P n ||| ((1 : Int64) <<< ((nI n).toInt64 &&& 63)) else mkS P n
theorem bl_mkS (P : Nat → Bool) (i : Nat) : ∀ n, n ≤ 64 → bl (mkS P n) i = (decide (i < n) && P i)
  | 0, _ => by simp [mkS, bl_0]
  | n + 1, hn => by
    have ih := bl_mkS P i n (by omega)
    simp only [mkS]
    by_cases h : P n = true
    · rw [if_pos h, bl_or, ih, bl_one (by omega)]
      by_cases h1 : i = n
      · subst h1; simp [h]
      · have : (decide (i < n + 1)) = decide (i < n) := by
          by_cases h2 : i < n
          · simp [h2]; omega
          · simp [h2]; omega
        simp [h1, this]
    · rw [if_neg h, ih]
      by_cases h1 : i = n
      · subst h1; simp [Bool.not_eq_true _ ▸ h]
      · have : (decide (i < n + 1)) = decide (i < n) := by
          by_cases h2 : i < n
          · simp [h2]; omega
          · simp [h2]; omega
        rw [this]
