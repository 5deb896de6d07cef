/-! BOARDS -/
/-- rows, columns, letters, signs of the goal, bars, counts -/
def Bd : Type := Nat × Nat × (Nat → Nat) × (Nat → Nat) × (Nat → Bool) × (Nat → Int32)
def Bd.r (B : Bd) : Nat := B.1
def Bd.c (B : Bd) : Nat := B.2.1
def Bd.cell (B : Bd) : Nat → Nat := B.2.2.1
def Bd.goal (B : Bd) : Nat → Nat := B.2.2.2.1
def Bd.bar (B : Bd) : Nat → Bool := B.2.2.2.2.1
def Bd.cn (B : Bd) : Nat → Int32 := B.2.2.2.2.2
def mkB (r c : Nat) (cell goal : Nat → Nat) (bar : Nat → Bool) (cn : Nat → Int32) : Bd := (r, c, cell, goal, bar, cn)
def Bd.n (B : Bd) : Nat := B.r * B.c
def Bd.ok (B : Bd) : Prop := (B.r = 2 ∨ B.r = 3) ∧ (B.c = 2 ∨ B.c = 3) ∧ (∀ p, p < B.n → B.cell p < 12) ∧ (∀ p, p < B.n → B.goal p < 13) ∧ ∀ l, B.r + B.c ≤ l → B.bar l = false
/-- where a letter goes by a turn -/
def goes (r c p t : Nat) : Nat :=
  let row := p / c
  let col := p % c
  let line := t / 2
  if line < r then (if row = line then row * c + (col + (if t % 2 = 0 then 1 else c - 1)) % c else p)
  else if col = line - r then ((row + (if t % 2 = 0 then 1 else r - 1)) % r) * c + col else p
/-- the turn that takes it back -/
def inv (t : Nat) : Nat := if t % 2 = 0 then t + 1 else t - 1
/-- whence the letter at q comes -/
def bk (r c q t : Nat) : Nat := if q < r * c then goes r c q (inv t) else q
theorem dims {B : Bd} (h : B.ok) : 4 ≤ B.n ∧ B.n ≤ 9 ∧ 4 ≤ B.r + B.c ∧ B.r + B.c ≤ 6 ∧ 2 ≤ B.r ∧ B.r ≤ 3 ∧ 2 ≤ B.c ∧ B.c ≤ 3 := by
  obtain ⟨h1, h2, -⟩ := h
  unfold Bd.n
  rcases h1 with h1 | h1 <;> rcases h2 with h2 | h2 <;> rw [h1, h2] <;> decide
/-- a fact of all boards' sizes -/
theorem dim4 {B : Bd} (h : B.ok) {Q : Nat → Nat → Prop} (h1 : Q 2 2) (h2 : Q 2 3) (h3 : Q 3 2) (h4 : Q 3 3) : Q B.r B.c := by
  obtain ⟨a, b, -⟩ := h
  rcases a with a | a <;> rcases b with b | b <;> rw [a, b] <;> assumption
theorem goes_lt {B : Bd} (h : B.ok) : ∀ t, t < 2 * (B.r + B.c) → ∀ p, p < B.r * B.c → goes B.r B.c p t < B.r * B.c :=
  dim4 (Q := fun r c => ∀ t, t < 2 * (r + c) → ∀ p, p < r * c → goes r c p t < r * c) h (by decide +kernel) (by decide +kernel) (by decide +kernel) (by decide +kernel)
theorem inv_lt {B : Bd} (h : B.ok) : ∀ t, t < 2 * (B.r + B.c) → inv t < 2 * (B.r + B.c) ∧ inv (inv t) = t ∧ inv t / 2 = t / 2 :=
  dim4 (Q := fun r c => ∀ t, t < 2 * (r + c) → inv t < 2 * (r + c) ∧ inv (inv t) = t ∧ inv t / 2 = t / 2) h (by decide +kernel) (by decide +kernel) (by decide +kernel) (by decide +kernel)
theorem goes_inv {B : Bd} (h : B.ok) : ∀ t, t < 2 * (B.r + B.c) → ∀ p, p < B.r * B.c → goes B.r B.c (goes B.r B.c p t) (inv t) = p :=
  dim4 (Q := fun r c => ∀ t, t < 2 * (r + c) → ∀ p, p < r * c → goes r c (goes r c p t) (inv t) = p) h (by decide +kernel) (by decide +kernel) (by decide +kernel) (by decide +kernel)
theorem bk_lt {B : Bd} (h : B.ok) {t q : Nat} (ht : t < 2 * (B.r + B.c)) (hq : q < B.n) : bk B.r B.c q t < B.n := by
  unfold bk
  rw [if_pos (show q < B.r * B.c from hq)]
  exact goes_lt h _ (inv_lt h t ht).1 q hq
/-- what a turn makes of places' contents -/
def tn (B : Bd) (t : Nat) (f : Nat → Nat) : Nat → Nat := fun q => f (bk B.r B.c q t)
/-- the class's board in the thing h -/
def CB (w : Wo) (h : Nat) (B : Bd) : Prop := gI w h 0 = nI B.r ∧ gI w h 1 = nI B.c ∧ (∀ p, p < B.n → nib (gL w h 2) p = B.cell p) ∧ (∀ p, p < B.n → nib (gL w h 3) p = B.goal p) ∧ (∃ N, N < 64 ∧ gI w h 4 = nI N ∧ ∀ l, l < 6 → N.testBit l = B.bar l) ∧ ∀ i, 2 ≤ i → i < 8 → gI w h (i + 3) = B.cn i
def gv (g : Nat) : Int32 := if g = 12 then -1 else nI g
/-- the reference's board, from o on in the row h -/
def MB (w : Wo) (h o : Nat) (B : Bd) : Prop := gI w h o = nI B.r ∧ gI w h (o + 1) = nI B.c ∧ (∀ p, p < B.n → gI w h (o + 14 + p) = nI (B.cell p)) ∧ (∀ p, p < B.n → gI w h (o + 23 + p) = gv (B.goal p)) ∧ (∀ l, l < 6 → gI w h (o + 8 + l) = bI (B.bar l)) ∧ ∀ i, 2 ≤ i → i < 8 → gI w h (o + i) = B.cn i
section CBas
theorem c_places {w : Wo} {B : Bd} (hB : B.ok) (hC : CB w 1 B) : F_X0_places w = nI B.n := by
  unfold F_X0_places
  rw [hC.1, hC.2.1, pk_mul]
  rfl
theorem c_lines {w : Wo} {B : Bd} (hB : B.ok) (hC : CB w 1 B) : F_X0_lines w = nI (B.r + B.c) := by
  unfold F_X0_lines
  rw [hC.1, hC.2.1, nI_add]
theorem c_turns {w : Wo} {B : Bd} (hB : B.ok) (hC : CB w 1 B) : F_X0_turns w = nI (2 * (B.r + B.c)) := by
  unfold F_X0_turns
  rw [c_lines hB hC]
  exact pk_mul 2 _
theorem c_hasPlace_in {w : Wo} {B : Bd} (hB : B.ok) (hC : CB w 1 B) {p : Nat} (hp : p < B.n) : F_X0_hasPlace w (nI p) = 1 := by
  have := dims hB
  unfold F_X0_hasPlace
  rw [c_places hB hC, if_neg (nI_pos (by omega)), if_neg (nI_ge hp (by omega))]
theorem c_hasPlace_out {w : Wo} {B : Bd} (hB : B.ok) (hC : CB w 1 B) {x : Int32} (h : x < nI 0 ∨ nI B.n ≤ x) : F_X0_hasPlace w x = 0 := by
  unfold F_X0_hasPlace
  rw [c_places hB hC]
  by_cases h0 : x < 0
  · rw [if_pos h0]
  · rw [if_neg h0, if_pos (h.resolve_left h0)]
theorem c_hasLine_in {w : Wo} {B : Bd} (hB : B.ok) (hC : CB w 1 B) {p : Nat} (hp : p < B.r + B.c) : F_X0_hasLine w (nI p) = 1 := by
  have := dims hB
  unfold F_X0_hasLine
  rw [c_lines hB hC, if_neg (nI_pos (by omega)), if_neg (nI_ge hp (by omega))]
theorem c_hasLine_out {w : Wo} {B : Bd} (hB : B.ok) (hC : CB w 1 B) {x : Int32} (h : x < nI 0 ∨ nI (B.r + B.c) ≤ x) : F_X0_hasLine w x = 0 := by
  unfold F_X0_hasLine
  rw [c_lines hB hC]
  by_cases h0 : x < 0
  · rw [if_pos h0]
  · rw [if_neg h0, if_pos (h.resolve_left h0)]
theorem c_hasTurn_in {w : Wo} {B : Bd} (hB : B.ok) (hC : CB w 1 B) {p : Nat} (hp : p < 2 * (B.r + B.c)) : F_X0_hasTurn w (nI p) = 1 := by
  have := dims hB
  unfold F_X0_hasTurn
  rw [c_turns hB hC, if_neg (nI_pos (by omega)), if_neg (nI_ge hp (by omega))]
theorem c_hasTurn_out {w : Wo} {B : Bd} (hB : B.ok) (hC : CB w 1 B) {x : Int32} (h : x < nI 0 ∨ nI (2 * (B.r + B.c)) ≤ x) : F_X0_hasTurn w x = 0 := by
  unfold F_X0_hasTurn
  rw [c_turns hB hC]
  by_cases h0 : x < 0
  · rw [if_pos h0]
  · rw [if_neg h0, if_pos (h.resolve_left h0)]
theorem c_hasBar {w : Wo} {B : Bd} (hB : B.ok) (hC : CB w 1 B) {l : Nat} (hl : l < 6) : F_X0_hasBar w (nI l) = bI (B.bar l) := by
  obtain ⟨-, -, -, -, ⟨N, hN, e1, e2⟩, -⟩ := hC
  unfold F_X0_hasBar
  rw [e1, ← e2 l hl]
  have hd : ∀ N, N < 64 → ∀ l, l < 6 → (if ((jshr (nI N) (nI l)) &&& (1 : Int32)) = (1 : Int32) then (1 : Int32) else 0) = bI (N.testBit l) := by decide +kernel
  exact hd N hN l hl
theorem c_canTurn {w : Wo} {B : Bd} (hB : B.ok) (hC : CB w 1 B) {t : Nat} (ht : t < 12) : F_X0_canTurn w (nI t) = some (bI (!B.bar (t / 2))) := by
  unfold F_X0_canTurn
  rw [show (nI t : Int32) / 2 = nI (t / 2) from pk_div (by omega) (by decide) (by decide), c_hasBar hB hC (by omega)]
  cases B.bar (t / 2) <;> rfl
theorem c_barred {w : Wo} {B : Bd} (hB : B.ok) (hC : CB w 1 B) : F_X0_barredLines w = nI (cnt B.bar 6) := by
  obtain ⟨-, -, -, -, ⟨N, hN, e1, e2⟩, -⟩ := hC
  unfold F_X0_barredLines
  rw [e1, ← cnt_congr e2]
  have hd : ∀ N, N < 64 → F_J6_bitCount_0f7a4 (nI N) = nI (cnt (fun l => N.testBit l) 6) := by decide +kernel
  exact hd N hN
theorem c_rowOf {w : Wo} {B : Bd} (hB : B.ok) (hC : CB w 1 B) {p : Nat} (hp : p < 16) : F_X0_rowOf w (nI p) = some (nI (p / B.c)) := by
  have := dims hB
  unfold F_X0_rowOf
  rw [hC.2.1, if_neg (nI_nle (by omega) (by omega)), jchk_pos (nI_ne0 (by omega) (by omega)), pk_div (by omega) (by omega) (by omega)]
theorem c_columnOf {w : Wo} {B : Bd} (hB : B.ok) (hC : CB w 1 B) {p : Nat} (hp : p < 16) : F_X0_columnOf w (nI p) = some (nI (p % B.c)) := by
  have := dims hB
  unfold F_X0_columnOf
  rw [c_rowOf hB hC hp, Option.bind_some, hC.2.1, pk_mul, pk_sub (Nat.div_mul_le_self p B.c)]
  congr 2
  have := Nat.div_add_mod p B.c
  rw [Nat.mul_comm] at this
  omega
theorem c_lineLength {w : Wo} {B : Bd} (hB : B.ok) (hC : CB w 1 B) {l : Nat} (hl : l < 6) : F_X0_lineLength w (nI l) = nI (if l < B.r then B.c else B.r) := by
  have := dims hB
  unfold F_X0_lineLength
  rw [hC.1, hC.2.1]
  by_cases h : l < B.r
  · rw [if_neg (nI_ge h (by omega)), if_pos h]
  · rw [if_pos (nI_le (by omega) (by omega)), if_neg h]
theorem c_lineStart {w : Wo} {B : Bd} (hB : B.ok) (hC : CB w 1 B) {l : Nat} (hl : l < 6) : F_X0_lineStart w (nI l) = nI (if l < B.r then l * B.c else l - B.r) := by
  have := dims hB
  unfold F_X0_lineStart
  rw [hC.1, hC.2.1]
  by_cases h : l < B.r
  · rw [if_neg (nI_ge h (by omega)), if_pos h, pk_mul]
  · rw [if_pos (nI_le (by omega) (by omega)), if_neg h, pk_sub (by omega)]
theorem c_lineStride {w : Wo} {B : Bd} (hB : B.ok) (hC : CB w 1 B) {l : Nat} (hl : l < 6) : F_X0_lineStride w (nI l) = nI (if l < B.r then 1 else B.c) := by
  have := dims hB
  unfold F_X0_lineStride
  rw [hC.1, hC.2.1]
  by_cases h : l < B.r
  · rw [if_neg (nI_ge h (by omega)), if_pos h]
    rfl
  · rw [if_pos (nI_le (by omega) (by omega)), if_neg h]
/-- the i-th place of a line -/
def pl (r c l i : Nat) : Nat := if l < r then l * c + i else l - r + i * c
theorem c_placeOn {w : Wo} {B : Bd} (hB : B.ok) (hC : CB w 1 B) {l i : Nat} (hl : l < 6) : F_X0_placeOn w (nI l) (nI i) = nI (pl B.r B.c l i) := by
  unfold F_X0_placeOn
  rw [c_lineStart hB hC hl, c_lineStride hB hC hl, pk_mul, nI_add]
  unfold pl
  by_cases h : l < B.r
  · rw [if_pos h, if_pos h, if_pos h, Nat.mul_one]
  · rw [if_neg h, if_neg h, if_neg h]
theorem c_turned {w : Wo} {B : Bd} (hB : B.ok) (hC : CB w 1 B) (x : Int64) {t : Nat} (ht : t < 2 * (B.r + B.c)) : ∃ y, F_X0_turned w x (nI t) = some y ∧ ∀ q, q < 16 → nib y q = nib x (bk B.r B.c q t) := by
  have hd := dims hB
  have e2 : (nI t : Int32) / 2 = nI (t / 2) := pk_div (by omega) (by decide) (by decide)
  have er : jrem (nI t) (2 : Int32) = nI (t % 2) := jrem_nI (d := 2) (by omega) (by decide) (by decide)
  have key : ∃ st nx len, F_X0_lineStart w (nI (t / 2)) = nI st ∧ F_X0_lineStride w (nI (t / 2)) = nI nx ∧ F_X0_lineLength w (nI (t / 2)) = nI len ∧ 1 ≤ len ∧ 4 * st < 64 ∧ 4 * nx < 64 ∧ 4 * nx * (len - 1) < 64 ∧ ∀ j, j < 64 → tsrc (4 * st) (4 * nx) (4 * nx * (len - 1)) (decide (t % 2 = 0)) j = some (4 * bk B.r B.c (j / 4) t + j % 4) := by
    refine ⟨_, _, _, c_lineStart hB hC (by omega), c_lineStride hB hC (by omega), c_lineLength hB hC (by omega), ?_⟩
    have hq := dim4 (Q := fun r c => ∀ t, t < 2 * (r + c) → 1 ≤ (if t / 2 < r then c else r) ∧ 4 * (if t / 2 < r then t / 2 * c else t / 2 - r) < 64 ∧ 4 * (if t / 2 < r then 1 else c) < 64 ∧ 4 * (if t / 2 < r then 1 else c) * ((if t / 2 < r then c else r) - 1) < 64 ∧ ∀ j, j < 64 → tsrc (4 * (if t / 2 < r then t / 2 * c else t / 2 - r)) (4 * (if t / 2 < r then 1 else c)) (4 * (if t / 2 < r then 1 else c) * ((if t / 2 < r then c else r) - 1)) (decide (t % 2 = 0)) j = some (4 * bk r c (j / 4) t + j % 4)) hB (by decide +kernel) (by decide +kernel) (by decide +kernel) (by decide +kernel)
    exact hq t ht
  obtain ⟨st, nx, len, k1, k2, k3, k4, k5, k6, k7, k8⟩ := key
  refine ⟨trn x (4 * st) (4 * nx) (4 * nx * (len - 1)) (decide (t % 2 = 0)), ?_, fun q hq => ?_⟩
  · unfold F_X0_turned B_X0_turned_15 B_X0_turned_25 B_X0_turned_38 B_X0_turned_57 B_X0_turned_97
    rw [e2, k1, k2, k3, er, fourp, fourp, show nI len - 1 = nI (len - 1) from pk_sub k4, pk_mul]
    unfold trn
    by_cases h : t % 2 = 0
    · rw [h, decide_eq_true (show 0 = 0 from rfl)]
      rfl
    · have h1 : t % 2 = 1 := by omega
      rw [h1, decide_eq_false (show ¬ 1 = 0 by decide)]
      rfl
  · refine nib_ext (fun i hi => ?_)
    have h1 := k8 (4 * q + i) (by omega)
    rw [show (4 * q + i) / 4 = q by omega, show (4 * q + i) % 4 = i by omega] at h1
    exact trn_bit k5 k6 k7 (by omega) h1
end CBas
