/-! CHANGES OF THE CLASS ALONE: what is judged, what is carried out -/
def Yes (B : Bd) (k a b : Int32) (B' : Bd) : Prop := ∀ w, CB w 1 B → F_X5_judge w k a b = some (0, w) ∧ ∃ w', F_X5_carryOut w k a b = some w' ∧ CB w' 1 B' ∧ Kd [1] w w'
def Not (B : Bd) (k a b : Int32) (n : Nat) : Prop := ∀ w, CB w 1 B → F_X5_judge w k a b = some (nI n, w)
def Ref (B : Bd) (k a b : Int32) (why : Nat) (det : Int32) : Prop := ∀ w, CB w 1 B → F_X5_judge w k a b = some (3, pI (pI w 0 10 (nI why)) 0 11 det)
section JDG
variable {B : Bd}
theorem side_ok : F_X5_isSide (nI 2) = 1 ∧ F_X5_isSide (nI 3) = 1 := by decide +kernel
theorem y_board {r c : Nat} (hr : r = 2 ∨ r = 3) (hc : c = 2 ∨ c = 3) : Yes B 98 (nI r) (nI c) (layB B r c) := fun w hC => by
  refine ⟨?_, co_board hC hr hc⟩
  have e : ∀ x, (x = 2 ∨ x = 3) → ¬ F_X5_isSide (nI x) = 0 := by
    rintro x (rfl | rfl)
    · rw [side_ok.1]; decide
    · rw [side_ok.2]; decide
  unfold F_X5_judge
  rw [if_pos rfl, if_neg (e r hr), if_neg (e c hc)]
theorem n_board (a : Int32) : Not B 98 (nI 4) a 2 := fun w hC => by
  have e : F_X5_isSide (nI 4) = 0 := by decide +kernel
  unfold F_X5_judge
  rw [if_pos rfl, e, if_pos rfl]
  rfl
theorem y_put (hB : B.ok) {p v : Nat} (hp : p < B.n) (hv : v < 12) (hs : B.cell p ≠ v) : Yes B 112 (nI p) (nI v) (putB B p v) := fun w hC => by
  refine ⟨?_, co_put hB hC hp hv⟩
  unfold F_X5_judge
  rw [if_neg (by decide), if_neg (by decide), if_neg (by decide), if_neg (by decide), if_neg (by decide), if_neg (by decide), if_neg (by decide), if_neg (by decide), if_neg (by decide), if_neg (by decide), if_neg (by decide), if_neg (by decide), if_neg (by decide), if_neg (by decide), if_pos rfl, L11, cj_sign hB hC hC.2.2.1 (fun p hp => by have := hB.2.2.1 p hp; omega) hp (by omega) (by omega), if_neg hs]
  rfl
theorem r_put (hB : B.ok) {p v : Nat} (hp : p < B.n) (hv : v < 12) (hs : B.cell p = v) : Ref B 112 (nI p) (nI v) 2 (nI p) := fun w hC => by
  unfold F_X5_judge
  rw [if_neg (by decide), if_neg (by decide), if_neg (by decide), if_neg (by decide), if_neg (by decide), if_neg (by decide), if_neg (by decide), if_neg (by decide), if_neg (by decide), if_neg (by decide), if_neg (by decide), if_neg (by decide), if_neg (by decide), if_neg (by decide), if_pos rfl, L11, cj_sign hB hC hC.2.2.1 (fun p hp => by have := hB.2.2.1 p hp; omega) hp (by omega) (by omega), if_pos hs]
  rfl
theorem y_goal (hB : B.ok) {p v : Nat} (hp : p < B.n) (hv : v < 13) (hs : B.goal p ≠ v) : Yes B 103 (nI p) (nI v) (goalB B p v) := fun w hC => by
  refine ⟨?_, co_goal hB hC hp hv⟩
  unfold F_X5_judge
  rw [if_neg (by decide), if_neg (by decide), if_neg (by decide), if_neg (by decide), if_neg (by decide), if_pos rfl, L12, cj_sign hB hC hC.2.2.2.1 (fun p hp => by have := hB.2.2.2.1 p hp; omega) hp (by omega) (by omega), if_neg hs]
  rfl
theorem r_goal (hB : B.ok) {p v : Nat} (hp : p < B.n) (hv : v < 13) (hs : B.goal p = v) : Ref B 103 (nI p) (nI v) 2 (nI p) := fun w hC => by
  unfold F_X5_judge
  rw [if_neg (by decide), if_neg (by decide), if_neg (by decide), if_neg (by decide), if_neg (by decide), if_pos rfl, L12, cj_sign hB hC hC.2.2.2.1 (fun p hp => by have := hB.2.2.2.1 p hp; omega) hp (by omega) (by omega), if_pos hs]
  rfl
theorem y_turn (hB : B.ok) {t : Nat} (ht : t < 2 * (B.r + B.c)) (hb : B.bar (t / 2) = false) (b : Int32) : Yes B 116 (nI t) b (handT B t) := fun w hC => by
  refine ⟨?_, co_turn hB hC ht b⟩
  have hd := dims hB
  unfold F_X5_judge F_X5_judgeTurn
  rw [if_neg (by decide), if_neg (by decide), if_neg (by decide), if_neg (by decide), if_neg (by decide), if_neg (by decide), if_neg (by decide), if_neg (by decide), if_neg (by decide), if_neg (by decide), if_neg (by decide), if_neg (by decide), if_neg (by decide), if_neg (by decide), if_neg (by decide), if_neg (by decide), if_neg (by decide), if_neg (by decide), if_pos rfl, c_hasTurn_in hB hC ht, if_neg (by decide), c_canTurn hB hC (by omega), hb]
  rfl
theorem r_turn (hB : B.ok) {t : Nat} (ht : t < 2 * (B.r + B.c)) (hb : B.bar (t / 2) = true) (b : Int32) : Ref B 116 (nI t) b 1 (nI t / 2) := fun w hC => by
  have hd := dims hB
  unfold F_X5_judge F_X5_judgeTurn
  rw [if_neg (by decide), if_neg (by decide), if_neg (by decide), if_neg (by decide), if_neg (by decide), if_neg (by decide), if_neg (by decide), if_neg (by decide), if_neg (by decide), if_neg (by decide), if_neg (by decide), if_neg (by decide), if_neg (by decide), if_neg (by decide), if_neg (by decide), if_neg (by decide), if_neg (by decide), if_neg (by decide), if_pos rfl, c_hasTurn_in hB hC ht, if_neg (by decide), c_canTurn hB hC (by omega), hb]
  rfl
theorem y_swap (hB : B.ok) {p q : Nat} (hp : p < B.n) (hq : q < B.n) (hn : p ≠ q) : Yes B 115 (nI p) (nI q) (swapB B p q) := fun w hC => by
  refine ⟨?_, co_swap hB hC hp hq⟩
  have hd := dims hB
  have en : ¬ nI p = nI q := fun e => hn (by rw [nI_eq (by omega) (by omega)] at e; exact e)
  unfold F_X5_judge F_X5_judgeSwap
  rw [if_neg (by decide), if_neg (by decide), if_neg (by decide), if_neg (by decide), if_neg (by decide), if_neg (by decide), if_neg (by decide), if_neg (by decide), if_neg (by decide), if_neg (by decide), if_neg (by decide), if_neg (by decide), if_neg (by decide), if_neg (by decide), if_neg (by decide), if_neg (by decide), if_neg (by decide), if_pos rfl, c_hasPlace_in hB hC hp, if_neg (by decide), c_hasPlace_in hB hC hq, if_neg (by decide), if_neg en]
  rfl
theorem r_swap (hB : B.ok) {p : Nat} (hp : p < B.n) : Ref B 115 (nI p) (nI p) 3 (nI p) := fun w hC => by
  unfold F_X5_judge F_X5_judgeSwap
  rw [if_neg (by decide), if_neg (by decide), if_neg (by decide), if_neg (by decide), if_neg (by decide), if_neg (by decide), if_neg (by decide), if_neg (by decide), if_neg (by decide), if_neg (by decide), if_neg (by decide), if_neg (by decide), if_neg (by decide), if_neg (by decide), if_neg (by decide), if_neg (by decide), if_neg (by decide), if_pos rfl, c_hasPlace_in hB hC hp, if_neg (by decide), if_neg (by decide), if_pos rfl]
  rfl
theorem n_swap (hB : B.ok) {p : Nat} {b : Int32} (hp : p < B.n) (h : b < nI 0 ∨ nI B.n ≤ b) : Not B 115 (nI p) b 1 := fun w hC => by
  unfold F_X5_judge F_X5_judgeSwap
  rw [if_neg (by decide), if_neg (by decide), if_neg (by decide), if_neg (by decide), if_neg (by decide), if_neg (by decide), if_neg (by decide), if_neg (by decide), if_neg (by decide), if_neg (by decide), if_neg (by decide), if_neg (by decide), if_neg (by decide), if_neg (by decide), if_neg (by decide), if_neg (by decide), if_neg (by decide), if_pos rfl, c_hasPlace_in hB hC hp, if_neg (by decide), c_hasPlace_out hB hC h, if_pos rfl]
  rfl
theorem y_bar (hB : B.ok) {l : Nat} (hl : l < B.r + B.c) (b : Int32) : Yes B 120 (nI l) b (barB B l) := fun w hC => by
  have hd := dims hB
  refine ⟨?_, co_bar hB hC (by omega) b⟩
  unfold F_X5_judge
  rw [if_neg (by decide), if_neg (by decide), if_neg (by decide), if_neg (by decide), if_neg (by decide), if_neg (by decide), if_neg (by decide), if_neg (by decide), if_neg (by decide), if_neg (by decide), if_neg (by decide), if_neg (by decide), if_neg (by decide), if_neg (by decide), if_neg (by decide), if_neg (by decide), if_neg (by decide), if_neg (by decide), if_neg (by decide), if_neg (by decide), if_neg (by decide), if_neg (by decide), if_pos rfl, c_hasLine_in hB hC hl, if_neg (by decide)]
theorem js_ok : ∀ n, n < 10 → 1 ≤ n → ¬ nI n < 1 ∧ ¬ (9 : Int32) < nI n := by decide +kernel
theorem y_scr (hB : B.ok) {s n : Nat} (hs : s < 1000) (h1 : 1 ≤ n) (hn : n < 10) : Yes B 114 (nI s) (nI n) (mixB B s n) := fun w hC => by
  refine ⟨?_, ?_⟩
  · have e : F_X5_judgeScramble (nI s) (nI n) = 0 := by
      obtain ⟨z1, z2⟩ := js_ok n hn h1
      have z3 : ¬ (999 : Int32) < nI s := by
        rw [show (999 : Int32) = nI 999 from rfl, Int32.lt_iff_toInt_lt, nI_toInt (by omega), nI_toInt (by omega)]
        omega
      unfold F_X5_judgeScramble B_X5_judgeScramble_16
      rw [if_neg (nI_pos (by omega)), if_neg z3, if_neg (by decide), if_neg z1, if_neg z2]
    unfold F_X5_judge
    rw [if_neg (by decide), if_neg (by decide), if_neg (by decide), if_neg (by decide), if_neg (by decide), if_neg (by decide), if_neg (by decide), if_neg (by decide), if_neg (by decide), if_neg (by decide), if_neg (by decide), if_neg (by decide), if_neg (by decide), if_neg (by decide), if_neg (by decide), if_neg (by decide), if_pos rfl, e]
  · obtain ⟨w', h1, h2, h3, -⟩ := co_scramble hB hC hs hn
    exact ⟨w', h1, h2, h3⟩
end JDG
theorem ctP_le {ct : Nat} (h : ct ≤ 8) : ctP ct ≤ 8 := by
  unfold ctP
  split <;> omega
theorem hsP_ok {ct : Nat} {hs : Nat → Bd} {B : Bd} (hB : B.ok) (hok : ∀ i, i < ct → (hs i).ok) : ∀ i, i < ctP ct → (hsP ct hs B i).ok := by
  intro i hi
  unfold ctP at hi
  unfold hsP
  by_cases h8 : ct = 8
  · rw [if_pos h8] at hi ⊢
    show (if i = 7 then B else hs (i + 1)).ok
    by_cases h7 : i = 7
    · rw [if_pos h7]
      exact hB
    · rw [if_neg h7]
      exact hok _ (by omega)
  · rw [if_neg h8] at hi ⊢
    show (if i = ct then B else hs i).ok
    by_cases h7 : i = ct
    · rw [if_pos h7]
      exact hB
    · rw [if_neg h7]
      exact hok _ (by omega)
/-- what is kept when a change is made -/
abbrev Abs.push (A : Abs) (B' : Bd) : Abs := A.wb B' (ctP A.ct) (hsP A.ct A.hs A.B)
theorem Aok.push {A : Abs} {B' : Bd} (h : Aok A) (hB : B'.ok) : Aok (A.push B') := h.wb hB (ctP_le h.2.2.1) (hsP_ok h.1 h.2.2.2.1)
theorem ch_yes {w : Wo} {A : Abs} {k a b : Int32} {B' : Bd} (hA : Aok A) (hC : CI w A) (hY : Yes A.B k a b B') : ∃ w3, F_X5_change w k a b = some (.inr w3) ∧ CI w3 (A.push B') := by
  have hH : HC w A.ct A.hs := hC.2.2.1
  obtain ⟨w2, g1, g2, g3⟩ := c_keep (h := 1) (Or.inl rfl) hH hA.2.2.1 hC.1
  obtain ⟨w3, k1, k2, k3⟩ := (hY w2 (g3.cb (by decide) hC.1)).2
  have hkd : Kd (1 :: rgD) w w3 := g3.tr k3 (by decide) (by decide)
  refine ⟨w3, ?_, hC.wb hkd (by decide) k2 (g2.kd k3 (by decide))⟩
  unfold F_X5_change
  rw [(hY w hC.1).1, Option.bind_some]
  show (((F_X2_keep 1 w).bind fun q5 => ((F_X5_carryOut q5 k a b).bind fun q6 => (some (.inr q6)))) : Option ((Nat × Wo) ⊕ Wo)) = _
  rw [g1, Option.bind_some, k1, Option.bind_some]
theorem ch_ref {w : Wo} {A : Abs} {k a b det : Int32} {why : Nat} (hC : CI w A) (h0 : 0 < why) (hR : Ref A.B k a b why det) : ∃ w3, F_X5_change w k a b = some (.inl (3, w3)) ∧ CI w3 (A.wr why det) := by
  refine ⟨_, ?_, hC.wr h0⟩
  unfold F_X5_change
  rw [hR w hC.1, Option.bind_some]
  rfl
