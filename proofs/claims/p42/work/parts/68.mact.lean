/-! WHAT CHANGES CHANGE: the reference's way -/
section MAc
variable {w : Wo} {B : Bd}
theorem MB.setC {i : Nat} {v : Int32} (hM : MB w 27 0 B) (h2 : 2 ≤ i) (hi : i < 8) : MB (pI w 27 i v) 27 0 (mkB B.r B.c B.cell B.goal B.bar (updC B.cn i v)) := by
  obtain ⟨h1, h22, h3, h4, h5, h6⟩ := hM
  refine ⟨?_, ?_, fun p hp => ?_, fun p hp => ?_, fun l hl => ?_, fun j a b => ?_⟩
  · rw [gI_pI, if_neg (by omega)]
    exact h1
  · rw [gI_pI, if_neg (by omega)]
    exact h22
  · rw [gI_pI, if_neg (by omega)]
    exact h3 p hp
  · rw [gI_pI, if_neg (by omega)]
    exact h4 p hp
  · rw [gI_pI, if_neg (by omega)]
    exact h5 l hl
  · show _ = if j = i then v else B.cn j
    by_cases e : j = i
    · rw [if_pos e, e, gI_pI, if_pos ⟨rfl, by omega⟩]
    · rw [if_neg e, gI_pI, if_neg (by omega)]
      exact h6 j a b
theorem MB.setCell (hB : B.ok) {p v : Nat} (hM : MB w 27 0 B) (hp : p < B.n) : MB (pI w 27 (14 + p) (nI v)) 27 0 (mkB B.r B.c (setf B.cell p v) B.goal B.bar B.cn) := by
  have hd := dims hB
  obtain ⟨h1, h22, h3, h4, h5, h6⟩ := hM
  refine ⟨?_, ?_, fun q hq => ?_, fun q hq => ?_, fun l hl => ?_, fun j a b => ?_⟩
  · rw [gI_pI, if_neg (by omega)]
    exact h1
  · rw [gI_pI, if_neg (by omega)]
    exact h22
  · show _ = nI (if q = p then v else B.cell q)
    by_cases e : q = p
    · rw [if_pos e, e, gI_pI, if_pos ⟨rfl, by omega⟩]
    · rw [if_neg e, gI_pI, if_neg (by omega)]
      exact h3 q hq
  · have hq2 : q < B.n := hq
    rw [gI_pI, if_neg (by omega)]
    exact h4 q hq
  · rw [gI_pI, if_neg (by omega)]
    exact h5 l hl
  · rw [gI_pI, if_neg (by omega)]
    exact h6 j a b
theorem MB.setGoal (hB : B.ok) {p v : Nat} (hM : MB w 27 0 B) (hp : p < B.n) : MB (pI w 27 (23 + p) (gv v)) 27 0 (mkB B.r B.c B.cell (setf B.goal p v) B.bar B.cn) := by
  have hd := dims hB
  obtain ⟨h1, h22, h3, h4, h5, h6⟩ := hM
  refine ⟨?_, ?_, fun q hq => ?_, fun q hq => ?_, fun l hl => ?_, fun j a b => ?_⟩
  · rw [gI_pI, if_neg (by omega)]
    exact h1
  · rw [gI_pI, if_neg (by omega)]
    exact h22
  · have hq2 : q < B.n := hq
    rw [gI_pI, if_neg (by omega)]
    exact h3 q hq
  · show _ = gv (if q = p then v else B.goal q)
    by_cases e : q = p
    · rw [if_pos e, e, gI_pI, if_pos ⟨rfl, by omega⟩]
    · rw [if_neg e, gI_pI, if_neg (by omega)]
      exact h4 q hq
  · rw [gI_pI, if_neg (by omega)]
    exact h5 l hl
  · rw [gI_pI, if_neg (by omega)]
    exact h6 j a b
theorem MB.setBar {l : Nat} {b : Bool} (hM : MB w 27 0 B) (hl : l < 6) : MB (pI w 27 (8 + l) (bI b)) 27 0 (mkB B.r B.c B.cell B.goal (fun j => if j = l then b else B.bar j) B.cn) := by
  obtain ⟨h1, h22, h3, h4, h5, h6⟩ := hM
  refine ⟨?_, ?_, fun q hq => ?_, fun q hq => ?_, fun j hj => ?_, fun j a b => ?_⟩
  · rw [gI_pI, if_neg (by omega)]
    exact h1
  · rw [gI_pI, if_neg (by omega)]
    exact h22
  · rw [gI_pI, if_neg (by omega)]
    exact h3 q hq
  · rw [gI_pI, if_neg (by omega)]
    exact h4 q hq
  · show _ = bI (if j = l then b else B.bar j)
    by_cases e : j = l
    · rw [if_pos e, e, gI_pI, if_pos ⟨rfl, by omega⟩]
    · rw [if_neg e, gI_pI, if_neg (by omega)]
      exact h5 j hj
  · rw [gI_pI, if_neg (by omega)]
    exact h6 j a b
end MAc
/-! an order: what it does to the two boards -/
def Ord (B : Bd) (k a b : Int32) (FM : Wo → Option (Int32 × Wo)) (tm : Nat → Int32) (VC : Wo → Wo → Option Int32) : Prop :=
  (∃ B' val, B'.ok ∧ (∀ w, CB w 1 B → F_X5_judge w k a b = some (0, w) ∧ ∃ w', F_X5_carryOut w k a b = some w' ∧ CB w' 1 B' ∧ Kd [1] w w') ∧ (∀ u, MB u 27 0 B → ∃ u', FM u = some (val, u') ∧ gI u' 26 14 = 0 ∧ MB u' 27 0 B' ∧ Kf [27, 33, 34] [14] u u') ∧ ∀ w w', CB w 1 B → CB w' 1 B' → VC w w' = some val) ∨
  (∃ n : Nat, (n = 1 ∨ n = 2) ∧ tm n ≠ 0 ∧ (∀ w, CB w 1 B → F_X5_judge w k a b = some (nI n, w)) ∧ ∀ u, MB u 27 0 B → FM u = some (0, pI (pI u 26 14 (tm n)) 26 11 0)) ∨
  (∃ (why : Nat) (det : Int32), 0 < why ∧ why < 6 ∧ tm 3 ≠ 0 ∧ (∀ w, CB w 1 B → F_X5_judge w k a b = some (3, pI (pI w 0 10 (nI why)) 0 11 det)) ∧ ∀ u, MB u 27 0 B → FM u = some (0, pI (pI (pI (pI u 26 9 (nI why)) 26 10 det) 26 14 (tm 3)) 26 11 1))
def tmB (n : Nat) : Int32 := if n = 2 then 1 else 0
def tmP (n : Nat) : Int32 := if n = 1 then 1 else if n = 2 then 2 else if n = 3 then 3 else 0
def tmT (n : Nat) : Int32 := if n = 1 then 1 else if n = 3 then 2 else 0
def tmX (n : Nat) : Int32 := if n = 1 then 1 else 0
