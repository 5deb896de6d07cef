/-! NIBBLES -/
def bq (x : Int64) (i : Nat) : Bool := x.toBitVec.getLsbD i
def nib (x : Int64) (p : Nat) : Nat := (x.toBitVec.extractLsb' (4 * p) 4).toNat
theorem nib_lt (x : Int64) (p : Nat) : nib x p < 16 := (x.toBitVec.extractLsb' (4 * p) 4).isLt
theorem bq_ge {x : Int64} {i : Nat} (h : 64 ≤ i) : bq x i = false := BitVec.getLsbD_of_ge _ _ h
theorem sl64 : ∀ k, k < 64 → (((nI k).toInt64 &&& 63).toBitVec.smod 64).toNat = k := by decide +kernel
theorem su64 : ∀ k, k < 64 → (((nI k).toInt64.toUInt64 &&& Int64.toUInt64 63).toBitVec % 64).toNat = k := by decide +kernel
theorem bq_shl {x : Int64} {k i : Nat} (hk : k < 64) : bq (jlshl x (nI k)) i = (decide (i < 64) && (decide (k ≤ i) && bq x (i - k))) := by
  show (x <<< ((nI k).toInt64 &&& 63)).toBitVec.getLsbD i = _
  rw [Int64.toBitVec_shiftLeft, BitVec.shiftLeft_eq', sl64 k hk, BitVec.getLsbD_shiftLeft]
  unfold bq
  by_cases h1 : k ≤ i
  · simp [h1, Nat.not_lt.mpr h1]
  · simp [h1, Nat.lt_of_not_le h1]
theorem bq_ushr {x : Int64} {k i : Nat} (hk : k < 64) : bq (jlushr x (nI k)) i = bq x (k + i) := by
  show (x.toUInt64 >>> ((nI k).toInt64.toUInt64 &&& Int64.toUInt64 63)).toBitVec.getLsbD i = _
  rw [UInt64.toBitVec_shiftRight, BitVec.ushiftRight_eq', su64 k hk, BitVec.getLsbD_ushiftRight]
  rfl
theorem bq_and {x y : Int64} {i : Nat} : bq (x &&& y) i = (bq x i && bq y i) := by
  unfold bq
  rw [Int64.toBitVec_and, BitVec.getLsbD_and]
theorem bq_or {x y : Int64} {i : Nat} : bq (x ||| y) i = (bq x i || bq y i) := by
  unfold bq
  rw [Int64.toBitVec_or, BitVec.getLsbD_or]
theorem bq_xor {x y : Int64} {i : Nat} : bq (x ^^^ y) i = (bq x i ^^ bq y i) := by
  unfold bq
  rw [Int64.toBitVec_xor, BitVec.getLsbD_xor]
theorem bq_m1 : ∀ i, i < 64 → bq (-1) i = true := by decide +kernel
theorem bq_15 {i : Nat} : bq 15 i = decide (i < 4) := by
  rcases Nat.lt_or_ge i 64 with h | h
  · have : ∀ i, i < 64 → bq 15 i = decide (i < 4) := by decide +kernel
    exact this i h
  · rw [bq_ge h, decide_eq_false (by omega)]
theorem bq_0 {i : Nat} : bq 0 i = false := by
  rcases Nat.lt_or_ge i 64 with h | h
  · have : ∀ i, i < 64 → bq 0 i = false := by decide +kernel
    exact this i h
  · exact bq_ge h
theorem nib_bit {x : Int64} {p i : Nat} (hi : i < 4) : (nib x p).testBit i = bq x (4 * p + i) := by
  unfold nib bq
  rw [← BitVec.getLsbD, BitVec.getLsbD_extractLsb']
  simp [hi]
theorem nat4_ext {a b : Nat} (ha : a < 16) (hb : b < 16) (h : ∀ i, i < 4 → a.testBit i = b.testBit i) : a = b := by
  apply Nat.eq_of_testBit_eq
  intro i
  rcases Nat.lt_or_ge i 4 with h1 | h1
  · exact h i h1
  · have h2 : 2 ^ 4 ≤ 2 ^ i := Nat.pow_le_pow_right (by decide) h1
    rw [Nat.testBit_lt_two_pow (by omega), Nat.testBit_lt_two_pow (by omega)]
theorem nib_ext {x y : Int64} {p q : Nat} (h : ∀ i, i < 4 → bq x (4 * p + i) = bq y (4 * q + i)) : nib x p = nib y q :=
  nat4_ext (nib_lt _ _) (nib_lt _ _) (fun i hi => by rw [nib_bit hi, nib_bit hi, h i hi])
theorem nib_of {x : Int64} {p v : Nat} (hv : v < 16) (h : ∀ i, i < 4 → bq x (4 * p + i) = v.testBit i) : nib x p = v :=
  nat4_ext (nib_lt _ _) hv (fun i hi => by rw [nib_bit hi, h i hi])
theorem i64_ext {x y : Int64} (h : ∀ p, p < 16 → nib x p = nib y p) : x = y := by
  apply Int64.toBitVec_inj.1
  apply BitVec.eq_of_getLsbD_eq
  intro i hi
  have h1 := h (i / 4) (by omega)
  have h2 := congrArg (fun n => n.testBit (i % 4)) h1
  rw [nib_bit (Nat.mod_lt _ (by decide)), nib_bit (Nat.mod_lt _ (by decide)), Nat.div_add_mod] at h2
  exact h2
theorem fourp (p : Nat) : (4 : Int32) * nI p = nI (4 * p) := pk_mul 4 p
theorem codeAt_nib {x : Int64} {p : Nat} (hp : p < 16) : F_X5_codeAt x (nI p) = nI (nib x p) := by
  unfold F_X5_codeAt
  rw [fourp]
  apply Int32.toBitVec_inj.1
  apply BitVec.eq_of_getLsbD_eq
  intro i hi
  have e1 : ((jlushr x (nI (4 * p)) &&& 15 : Int64).toInt32).toBitVec.getLsbD i = (decide (i < 32) && bq (jlushr x (nI (4 * p)) &&& 15) i) := by
    rw [Int64.toBitVec_toInt32, BitVec.getLsbD_signExtend]
    unfold bq
    have : i < 64 := by omega
    simp [hi, this]
  show ((jlushr x (nI (4 * p)) &&& 15 : Int64).toInt32).toBitVec.getLsbD i = (BitVec.ofNat 32 (nib x p)).getLsbD i
  rw [e1, bq_and, bq_ushr (by omega), bq_15, BitVec.getLsbD_ofNat]
  by_cases h4 : i < 4
  · rw [nib_bit h4]
    simp [h4]
  · have h2 : 2 ^ 4 ≤ 2 ^ i := Nat.pow_le_pow_right (by decide) (by omega)
    rw [Nat.testBit_lt_two_pow (Nat.lt_of_lt_of_le (nib_lt x p) h2)]
    simp [h4]
theorem bq_nI {v i : Nat} (hv : v < 16) : bq (nI v).toInt64 i = v.testBit i := by
  rcases Nat.lt_or_ge i 64 with h | h
  · have : ∀ v, v < 16 → ∀ i, i < 64 → bq (nI v).toInt64 i = v.testBit i := by decide +kernel
    exact this v hv i h
  · have h2 : 2 ^ 4 ≤ 2 ^ i := Nat.pow_le_pow_right (by decide) (by omega)
    rw [bq_ge h, Nat.testBit_lt_two_pow (by omega)]
theorem withCode_nib {x : Int64} {p q v : Nat} (hp : p < 16) (hq : q < 16) (hv : v < 16) : nib (F_X5_withCode x (nI p) (nI v)) q = if q = p then v else nib x q := by
  unfold F_X5_withCode B_X5_withCode_15
  rw [fourp]
  by_cases h : q = p
  · subst h
    rw [if_pos rfl]
    refine nib_of hv (fun i hi => ?_)
    rw [bq_or, bq_and, bq_xor, bq_shl (by omega), bq_m1 _ (by omega), bq_shl (by omega), bq_15, bq_nI hv, Nat.add_sub_cancel_left]
    have h1 : 4 * q + i < 64 := by omega
    simp [h1, hi]
  · rw [if_neg h]
    refine nib_ext (fun i hi => ?_)
    rw [bq_or, bq_and, bq_xor, bq_shl (by omega), bq_m1 _ (by omega), bq_shl (by omega), bq_15, bq_nI hv]
    have h1 : 4 * q + i < 64 := by omega
    have h5 : (decide (4 * p ≤ 4 * q + i) && decide (4 * q + i - 4 * p < 4)) = false := by
      rcases Nat.lt_or_gt_of_ne h with h2 | h2
      · rw [decide_eq_false (show ¬ 4 * p ≤ 4 * q + i by omega)]; rfl
      · rw [decide_eq_false (show ¬ 4 * q + i - 4 * p < 4 by omega), Bool.and_false]
    have h6 : (decide (4 * p ≤ 4 * q + i) && v.testBit (4 * q + i - 4 * p)) = false := by
      rcases Nat.lt_or_gt_of_ne h with h2 | h2
      · rw [decide_eq_false (show ¬ 4 * p ≤ 4 * q + i by omega)]; rfl
      · have h7 : 2 ^ 4 ≤ 2 ^ (4 * q + i - 4 * p) := Nat.pow_le_pow_right (by decide) (by omega)
        rw [Nat.testBit_lt_two_pow (by omega), Bool.and_false]
    rw [h5, h6]
    simp
/-! a turn of a line, by shifts -/
def mb (nx rd k : Nat) : Bool := decide (k < 4) || (decide (nx ≤ k) && decide (k - nx < 4)) || (decide (rd ≤ k) && decide (k - rd < 4))
def tsrc (st nx rd : Nat) (ev : Bool) (j : Nat) : Option Nat :=
  if decide (st ≤ j) && mb nx rd (j - st) then
    (let up := if ev then nx else rd
     let dn := if ev then rd else nx
     let A := decide (up ≤ j - st) && mb nx rd (j - st - up)
     let Bq := mb nx rd (dn + (j - st))
     if A then (if Bq then none else some (st + (j - st - up))) else if Bq then some (st + (dn + (j - st))) else none)
  else some j
def trn (x : Int64) (st nx rd : Nat) (ev : Bool) : Int64 :=
  let mask := ((15 : Int64) ||| jlshl (15 : Int64) (nI nx)) ||| jlshl (15 : Int64) (nI rd)
  let old := jlushr x (nI st) &&& mask
  (x &&& ((jlshl mask (nI st)) ^^^ ((-1) : Int64))) ||| (jlshl ((if ev then (jlshl old (nI nx)) ||| (jlushr old (nI rd)) else (jlushr old (nI nx)) ||| (jlshl old (nI rd))) &&& mask) (nI st))
theorem trn_bit {x : Int64} {st nx rd : Nat} {ev : Bool} {j k : Nat} (h1 : st < 64) (h2 : nx < 64) (h3 : rd < 64) (hj : j < 64) (hd : tsrc st nx rd ev j = some k) : bq (trn x st nx rd ev) j = bq x k := by
  have hm : ∀ i, i < 64 → bq (((15 : Int64) ||| jlshl (15 : Int64) (nI nx)) ||| jlshl (15 : Int64) (nI rd)) i = mb nx rd i := by
    intro i hi
    rw [bq_or, bq_or, bq_shl h2, bq_shl h3, bq_15, bq_15, bq_15]
    unfold mb
    simp [hi]
  have hm2 : ∀ i, (bq x (st + i) && bq (((15 : Int64) ||| jlshl (15 : Int64) (nI nx)) ||| jlshl (15 : Int64) (nI rd)) i) = (mb nx rd i && bq x (st + i)) := by
    intro i
    rcases Nat.lt_or_ge i 64 with hi | hi
    · rw [hm i hi, Bool.and_comm]
    · rw [bq_ge (x := x) (i := st + i) (by omega)]
      simp
  unfold trn
  dsimp only
  rw [bq_or, bq_and, bq_xor, bq_shl h1, bq_shl h1, bq_m1 _ hj, bq_and]
  rw [decide_eq_true hj, Bool.true_and, Bool.true_and]
  unfold tsrc at hd
  by_cases c1 : (decide (st ≤ j) && mb nx rd (j - st)) = true
  · rw [if_pos c1] at hd
    have c2 := c1
    rw [Bool.and_eq_true] at c2
    have hle : st ≤ j := by simpa using c2.1
    have hjs : j - st < 64 := by omega
    rw [hm _ hjs, c1, c2.2, c2.1]
    cases ev with
    | true =>
      dsimp only at hd
      rw [if_pos rfl, if_pos rfl] at hd
      rw [if_pos rfl, bq_or, bq_shl h2, bq_ushr h3, bq_and, bq_and, bq_ushr h1, bq_ushr h1, hm2, hm2, decide_eq_true hjs]
      by_cases cA : (decide (nx ≤ j - st) && mb nx rd (j - st - nx)) = true
      · rw [if_pos cA] at hd
        by_cases cB : mb nx rd (rd + (j - st)) = true
        · rw [if_pos cB] at hd; cases hd
        · rw [if_neg cB] at hd
          cases hd
          rw [Bool.not_eq_true] at cB
          rw [cB]
          rw [Bool.and_eq_true] at cA
          rw [cA.1, cA.2]
          simp
      · rw [if_neg cA] at hd
        by_cases cB : mb nx rd (rd + (j - st)) = true
        · rw [if_pos cB] at hd
          cases hd
          rw [Bool.not_eq_true] at cA
          rw [cB, ← Bool.and_assoc (decide (nx ≤ j - st)), cA]
          simp
        · rw [if_neg cB] at hd; cases hd
    | false =>
      dsimp only at hd
      rw [if_neg (show ¬ (false = true) by decide), if_neg (show ¬ (false = true) by decide)] at hd
      rw [if_neg (show ¬ (false = true) by decide), bq_or, bq_shl h3, bq_ushr h2, bq_and, bq_and, bq_ushr h1, bq_ushr h1, hm2, hm2, decide_eq_true hjs]
      by_cases cA : (decide (rd ≤ j - st) && mb nx rd (j - st - rd)) = true
      · rw [if_pos cA] at hd
        by_cases cB : mb nx rd (nx + (j - st)) = true
        · rw [if_pos cB] at hd; cases hd
        · rw [if_neg cB] at hd
          cases hd
          rw [Bool.not_eq_true] at cB
          rw [cB]
          rw [Bool.and_eq_true] at cA
          rw [cA.1, cA.2]
          simp
      · rw [if_neg cA] at hd
        by_cases cB : mb nx rd (nx + (j - st)) = true
        · rw [if_pos cB] at hd
          cases hd
          rw [Bool.not_eq_true] at cA
          rw [cB, ← Bool.and_assoc (decide (rd ≤ j - st)), cA]
          simp
        · rw [if_neg cB] at hd; cases hd
  · rw [if_neg c1] at hd
    cases hd
    have hjs : j - st < 64 := by omega
    rw [hm _ hjs]
    rw [Bool.not_eq_true] at c1
    rw [c1]
    by_cases hle : st ≤ j
    · have c3 : mb nx rd (j - st) = false := by simpa [hle] using c1
      rw [c3]
      simp
    · simp [hle]
