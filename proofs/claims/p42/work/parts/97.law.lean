/-! THE LAW'S CALLS OF THE TWO PUZZLES -/
theorem nx_of {α : Type} {o : Option ((Nat × Wo) ⊕ α)} {v : α} (h : o = some (.inr v)) : nx o = some v := by rw [h]; rfl
/-! histories -/
def Top (A : Abs) (l : List Bd) : Prop := l.length ≤ A.ct ∧ ∀ j, j < l.length → A.hs (A.ct - 1 - j) = l.getD j Bd0
theorem Top.push {A : Abs} {l : List Bd} {B' : Bd} (h8 : A.ct ≤ 8) (h : Top A l) (hl : l.length ≤ 7) : Top (A.push B') (A.B :: l) := by
  have e1 : (A.push B').ct = ctP A.ct := rfl
  have e2 : (A.push B').hs = hsP A.ct A.hs A.B := rfl
  refine ⟨?_, fun j hj => ?_⟩
  · rw [e1]
    have := h.1
    show l.length + 1 ≤ _
    unfold ctP
    split <;> omega
  · rw [e1, e2]
    have h1 := h.1
    have hj : j < l.length + 1 := hj
    unfold ctP hsP
    by_cases h9 : A.ct = 8
    · rw [if_pos h9, if_pos h9]
      try dsimp only
      cases j with
      | zero =>
        rw [if_pos (by omega)]
        rfl
      | succ j =>
        have := h.2 j (by omega)
        rw [h9] at this
        rw [if_neg (by omega), show 8 - 1 - (j + 1) + 1 = 8 - 1 - j by omega, this]
        rfl
    · rw [if_neg h9, if_neg h9]
      try dsimp only
      cases j with
      | zero =>
        rw [if_pos (by omega)]
        rfl
      | succ j =>
        have := h.2 j (by omega)
        rw [if_neg (by omega), show A.ct + 1 - 1 - (j + 1) = A.ct - 1 - j by omega, this]
        rfl
theorem Top.nil (A : Abs) : Top A [] := ⟨Nat.zero_le _, fun j hj => absurd hj (Nat.not_lt_zero j)⟩
theorem p_undoT {w : Wo} {A : Abs} {l : List Bd} {b : Bd} (hA : Aok A) (hC : CI w A) (h : Top A (b :: l)) : ∃ (c : Nat) (w1 : Wo) (A' : Abs), F_X5_undo w = some (.inr (nI c, w1)) ∧ A.ct = c + 1 ∧ CI w1 A' ∧ Aok A' ∧ A'.B = b ∧ Top A' l ∧ A'.sv = A.sv ∧ A'.S = A.S ∧ A'.tl = A.tl := by
  have h1 : l.length + 1 ≤ A.ct := h.1
  obtain ⟨c, hc⟩ : ∃ c, A.ct = c + 1 := ⟨A.ct - 1, by omega⟩
  obtain ⟨w1, e1, e2⟩ := p_undo hA hC hc
  have h0 := h.2 0 (Nat.succ_pos _)
  rw [hc] at h0
  have h8 := hA.2.2.1
  refine ⟨c, w1, A.wb (A.hs c) c A.hs, e1, hc, e2, hA.wb (hA.2.2.2.1 c (by omega)) (by omega) (fun i hi => hA.2.2.2.1 i (by omega)), h0, ⟨(by show l.length ≤ c; omega), fun j hj => ?_⟩, rfl, rfl, rfl⟩
  have h2 := h.2 (j + 1) (Nat.succ_lt_succ hj)
  rw [hc] at h2
  show A.hs (c - 1 - j) = _
  rw [show c - 1 - j = c + 1 - 1 - (j + 1) by omega]
  exact h2
/-! the pieces -/
theorem sA_ok {w : Wo} {A : Abs} (hA : Aok A) (hC : CI w A) (L : Nat) (xs : Nat → Int32) : ∃ w1, F_S_A L xs w = some (nI (homes A.B A.B.cell), stS A.B, xat L xs 13, xat L xs 13 &&& 511, bI (A.B.bar 0), w1) ∧ CI w1 A.wsv := by
  obtain ⟨w1, e1, h1⟩ := p_save hA hC
  have hd := dims hA.1
  refine ⟨w1, ?_, h1⟩
  have hb : CB w1 1 A.B := h1.1
  unfold F_S_A
  rw [e1, Option.bind_some]
  dsimp only
  rw [nx_of (st_tell hA.1 hb), Option.bind_some]
  dsimp only
  rw [nx_of (show F_X5_isBarred w1 0 = _ from t_barred hA.1 hb (l := 0) (by omega)), Option.bind_some]
theorem wsv_ok {A : Abs} (hA : Aok A) : Aok A.wsv := ⟨hA.1, fun _ => hA.1, hA.2.2⟩
def BX1 (B : Bd) : Bd := barB B 0
def BX2 (B : Bd) (n : Nat) : Bd := mixB (BX1 B) n 5
def BX3 (B : Bd) (n : Nat) : Bd := barB (BX2 B n) 0
def BX4 (B : Bd) (n : Nat) : Bd := swapB (BX3 B n) 0 1
theorem BX_ok {B : Bd} (hB : B.ok) (n : Nat) : (BX1 B).ok ∧ (BX2 B n).ok ∧ (BX3 B n).ok ∧ (BX4 B n).ok := by
  have hd := dims hB
  have h1 : (BX1 B).ok := barB_ok hB (by omega)
  have h2 : (BX2 B n).ok := mixB_ok h1 n 5
  have hd2 := dims h2
  have h3 : (BX3 B n).ok := barB_ok h2 (by omega)
  have hd3 := dims h3
  exact ⟨h1, h2, h3, swapB_ok h3 (by omega) (by omega)⟩
def csK (n : Nat) : Bool := decide (pe (csS n).length (cnf (csS n)) = none) && (decide (NN (csS n).length (cnf (csS n)) + 1 = 4) && (decide (rd (csS n).length (cnf (csS n)) (pos (csS n).length (cnf (csS n)) 0) = .inr (2, 120, 0, 0, 0)) && (decide (rd (csS n).length (cnf (csS n)) (pos (csS n).length (cnf (csS n)) 1) = .inr (6 + (dgs n).length, 114, n, 5, 0)) && (decide (rd (csS n).length (cnf (csS n)) (pos (csS n).length (cnf (csS n)) 2) = .inr (9 + (dgs n).length, 120, 0, 0, 0)) && decide (rd (csS n).length (cnf (csS n)) (pos (csS n).length (cnf (csS n)) 3) = .inr (13 + (dgs n).length, 115, 0, 1, 0))))))
theorem csK_all : ∀ n, n < 512 → csK n = true := by decide +kernel
theorem csS_rd (n : Nat) (hn : n < 512) : pe (csS n).length (cnf (csS n)) = none ∧ NN (csS n).length (cnf (csS n)) + 1 = 4 ∧ rd (csS n).length (cnf (csS n)) (pos (csS n).length (cnf (csS n)) 0) = .inr (2, 120, 0, 0, 0) ∧ rd (csS n).length (cnf (csS n)) (pos (csS n).length (cnf (csS n)) 1) = .inr (6 + (dgs n).length, 114, n, 5, 0) ∧ rd (csS n).length (cnf (csS n)) (pos (csS n).length (cnf (csS n)) 2) = .inr (9 + (dgs n).length, 120, 0, 0, 0) ∧ rd (csS n).length (cnf (csS n)) (pos (csS n).length (cnf (csS n)) 3) = .inr (13 + (dgs n).length, 115, 0, 1, 0) := by
  have h := csK_all n hn
  unfold csK at h
  simp only [Bool.and_eq_true, decide_eq_true_eq] at h
  exact h
theorem csS_len : ∀ n, n < 512 → (csS n).length ≤ 60 := by decide +kernel
def BXs (B : Bd) (n : Nat) : Nat → Bd
  | 0 => B
  | 1 => BX1 B
  | 2 => BX2 B n
  | 3 => BX3 B n
  | _ => BX4 B n
theorem runS_ok {w : Wo} {A : Abs} (hA : Aok A) (hC : CI w A) {n : Nat} (hn : n < 512) (hi : Tin A (csS n)) : ∃ w', F_X5_run w = some (.inr (nI 4, w')) ∧ CI w' ((A.fn (-1)).push (BX4 A.B n)) := by
  obtain ⟨z1, z2, z3, z4, z5, z6⟩ := csS_rd n hn
  obtain ⟨h1, h2, h3, h4⟩ := BX_ok hA.1 n
  have d0 := dims hA.1
  have d1 := dims h1
  have d2 := dims h2
  have d3 := dims h3
  refine run_yes hA hC hi (asc (csS_asc n (by omega))) (csS_len n hn) z1 z2 (Bs := BXs A.B n) rfl (fun j hj => ?_)
  match j, hj with
  | 0, _ => exact ⟨_, z3, y_bar hA.1 (l := 0) (by omega) _⟩
  | 1, _ => exact ⟨_, z4, y_scr h1 (s := n) (n := 5) (by omega) (by decide) (by decide)⟩
  | 2, _ => exact ⟨_, z5, y_bar h2 (l := 0) (by omega) _⟩
  | 3, _ => exact ⟨_, z6, y_swap h3 (p := 0) (q := 1) (by omega) (by omega) (by decide)⟩
theorem bI_ne : ∀ b : Bool, ¬ bI (!b) = bI b := by decide
theorem nn_lt (n : Nat) (h : n < 1000) : ¬ nI n < 0 := nI_pos (by omega)
theorem homes_le (B : Bd) (f : Nat → Nat) : homes B f ≤ B.n := cnt_le _ _
theorem sC_ok {wx wy : Wo} {Ax Ay : Abs} (hAx : Aok Ax) (hCx : CI wx Ax) (hAy : Aok Ay) (hCy : CI wy Ay) (hB : Ay.B = Ax.B) {n : Nat} (hn : n < 512) (hi : Tin Ax (csS n)) : ∃ wx' wy', F_S_C wx wy (nI n) (bI (Ax.B.bar 0)) = some (wx', wy') ∧ CI wx' ((Ax.fn (-1)).push (BX4 Ax.B n)) ∧ CI wy' ((((Ay.push (BX1 Ax.B)).push (BX2 Ax.B n)).push (BX3 Ax.B n)).push (BX4 Ax.B n)) ∧ Aok ((Ax.fn (-1)).push (BX4 Ax.B n)) ∧ Aok ((((Ay.push (BX1 Ax.B)).push (BX2 Ax.B n)).push (BX3 Ax.B n)).push (BX4 Ax.B n)) := by
  obtain ⟨h1, h2, h3, h4⟩ := BX_ok hAx.1 n
  have d0 := dims hAx.1
  have d2 := dims h2
  have d3 := dims h3
  have d4 := dims h4
  obtain ⟨wx1, e1, g1⟩ := runS_ok hAx hCx hn hi
  have hA1 : Aok (Ay.push (BX1 Ax.B)) := hAy.push h1
  have hA2 : Aok ((Ay.push (BX1 Ax.B)).push (BX2 Ax.B n)) := hA1.push h2
  have hA3 : Aok (((Ay.push (BX1 Ax.B)).push (BX2 Ax.B n)).push (BX3 Ax.B n)) := hA2.push h3
  have hA4 := hA3.push h4
  obtain ⟨wy1, e2, g2⟩ := p_bar hAy hCy (l := 0) (by rw [hB]; omega)
  rw [hB] at e2 g2
  obtain ⟨wy2, e3, g3⟩ := p_scr (s := n) (n := 5) hA1 g2 (by omega) (by decide) (by decide)
  obtain ⟨wy3, e4, g4⟩ := p_bar (A := (Ay.push (BX1 Ax.B)).push (BX2 Ax.B n)) hA2 g3 (l := 0) (show 0 < (BX2 Ax.B n).r + (BX2 Ax.B n).c by omega)
  obtain ⟨wy4, e5, g5⟩ := p_swap (A := ((Ay.push (BX1 Ax.B)).push (BX2 Ax.B n)).push (BX3 Ax.B n)) (a := 0) (b := 1) hA3 g4 (show 0 < (BX3 Ax.B n).n by omega) (show 1 < (BX3 Ax.B n).n by omega) (by decide)
  have hAx' : Aok ((Ax.fn (-1)).push (BX4 Ax.B n)) := hAx.fn.push h4
  have e3 : F_X5_scramble wy1 (nI n) (nI 5) = some (.inr (nI (mxn (BX1 Ax.B) n 5), wy2)) := e3
  have e4 : F_X5_bar wy2 (nI 0) = some (.inr (bI (!(BX2 Ax.B n).bar 0), wy3)) := e4
  have e5 : F_X5_swap wy3 (nI 0) (nI 1) = some (.inr (nI (homes (BX4 Ax.B n) (BX4 Ax.B n).cell), wy4)) := e5
  refine ⟨wx1, wy4, ?_, g1, g5, hAx', hA4⟩
  have eb : bI (!(BX2 Ax.B n).bar 0) = bI (Ax.B.bar 0) := by
    show bI (!(if 0 = 0 then !Ax.B.bar 0 else Ax.B.bar 0)) = _
    rw [if_pos rfl, Bool.not_not]
  have hm : mxn (BX1 Ax.B) n 5 ≤ 5 := mxn_le _ _ _
  have hh : homes (BX4 Ax.B n) (BX4 Ax.B n).cell ≤ 9 := Nat.le_trans (homes_le _ _) d4.2.1
  have s1 := st_tell h4 g1.1
  have s2 := st_tell h4 g5.1
  have e8 : gI wx1 0 8 = 0 := g1.2.2.2.1.1
  have e9 : gI wx1 0 9 = -1 := g1.2.2.2.2.1
  unfold F_S_C
  rw [nx_of e1, Option.bind_some]
  dsimp only
  rw [if_pos (show nI 4 = 4 from rfl), nx_of (show F_X5_bar wy 0 = _ from e2), Option.bind_some]
  dsimp only
  rw [if_neg (bI_ne _), nx_of (show F_X5_scramble wy1 (nI n) 5 = _ from e3), Option.bind_some]
  dsimp only
  rw [if_neg (nn_lt _ (show mxn (BX1 Ax.B) n 5 < 1000 by omega)), nx_of (show F_X5_bar wy2 0 = _ from e4), Option.bind_some]
  dsimp only
  rw [if_pos eb, nx_of (show F_X5_swap wy3 0 1 = _ from e5), Option.bind_some]
  dsimp only
  rw [if_neg (nn_lt _ (show homes (BX4 Ax.B n) (BX4 Ax.B n).cell < 1000 by omega)), nx_of s1, Option.bind_some, nx_of s2, Option.bind_some]
  dsimp only
  rw [if_pos rfl, nx_of t_acc8, Option.bind_some]
  dsimp only
  rw [if_pos e8, show F_X5_errorPosition wx1 = -1 from e9, if_pos rfl]
/-- x as it is from here on -/
def XK (B0 : Bd) (w : Wo) : Prop := ∃ A, Aok A ∧ CI w A ∧ A.B = B0 ∧ A.sv = true ∧ A.S = B0 ∧ A.tl = 0
theorem sD_ok {wx wy : Wo} {Ax Ay : Abs} {B0 b1 b2 b3 : Bd} (hAx : Aok Ax) (hCx : CI wx Ax) (hTx : Top Ax [B0]) (hsv : Ax.sv = true) (hS : Ax.S = B0) (h0 : Ax.tl = 0) (hAy : Aok Ay) (hCy : CI wy Ay) (hTy : Top Ay [b3, b2, b1, B0]) : ∃ wx' wy', F_S_D wx wy (stS B0) = some (wx', wy') ∧ XK B0 wx' := by
  obtain ⟨c, wx1, A1, e1, ec, k1, k2, k3, -, k5, k6, k7⟩ := p_undoT hAx hCx hTx
  obtain ⟨c1, y1, Y1, f1, q1, g1, g2, g3, g4, -, -, -⟩ := p_undoT hAy hCy hTy
  obtain ⟨c2, y2, Y2, f2, q2, i1, i2, i3, i4, -, -, -⟩ := p_undoT g2 g1 g4
  obtain ⟨c3, y3, Y3, f3, q3, j1, j2, j3, j4, -, -, -⟩ := p_undoT i2 i1 i4
  obtain ⟨c4, y4, Y4, f4, q0, l1, l2, l3, -, -, -, -⟩ := p_undoT j2 j1 j4
  have cy : c1 < 9 ∧ c2 < 9 ∧ c3 < 9 ∧ c4 < 9 := by
    have a1 := hAy.2.2.1
    have a2 := g2.2.2.1
    have a3 := i2.2.2.1
    have a4 := j2.2.2.1
    omega
  subst k3
  have s1 := st_tell k2.1 k1.1
  have s2 := st_tell l2.1 l1.1
  rw [l3] at s2
  refine ⟨wx1, y4, ?_, A1, k2, k1, rfl, k5.trans hsv, k6.trans hS, k7.trans h0⟩
  have h9 : gI wx 4 2 = nI (c + 1) := by
    obtain ⟨nx9, -, -, h3, -⟩ := hCx.2.2.1
    rw [h3, ec]
  unfold F_S_D
  rw [nx_of t_acc9, Option.bind_some]
  dsimp only
  rw [nx_of e1, Option.bind_some]
  dsimp only
  rw [h9, if_pos (nI_pred c).symm, nx_of s1, Option.bind_some]
  dsimp only
  rw [if_pos rfl, nx_of f1, Option.bind_some]
  dsimp only
  rw [if_neg (nn_lt _ (by omega)), nx_of f2, Option.bind_some]
  dsimp only
  rw [if_neg (nn_lt _ (by omega)), nx_of f3, Option.bind_some]
  dsimp only
  rw [if_neg (nn_lt _ (by omega)), nx_of f4, Option.bind_some]
  dsimp only
  rw [if_neg (nn_lt _ (by omega)), nx_of s2, Option.bind_some]
  dsimp only
  rw [if_pos rfl]
/-- a text put in -/
theorem put_ok {B0 : Bd} {w : Wo} (h : XK B0 w) {cs : List Nat} (ha : ascii cs) (h60 : cs.length ≤ 60) : ∃ w' A, puts w cs = some w' ∧ Aok A ∧ CI w' A ∧ A.B = B0 ∧ A.sv = true ∧ A.S = B0 ∧ Tin A cs := by
  obtain ⟨A, hA, hC, h1, h2, h3, h4⟩ := h
  obtain ⟨w', A', e1, e2, e3, e4, e5, e6, e7, -, -⟩ := p_puts cs w A [] hA hC ⟨h4, fun i hi => absurd hi (Nat.not_lt_zero i)⟩ ha.1 (by show 0 + cs.length ≤ 60; omega)
  exact ⟨w', A', e1, e3, e2, e5.trans h1, e6.trans h2, e7.trans h3, e4⟩
theorem runs_in {o : Option ((Nat × Wo) ⊕ (Int32 × Wo))} {w : Wo} {v : Int32} (n : Nat) (h : o = some (.inl (n, w))) (hn : runX (n, w) = some (v, w)) : (o.bind fun q => Sum.elim runX some q) = some (v, w) := by rw [h]; exact hn
theorem flt_ok {B0 : Bd} {w : Wo} (h : XK B0 w) {cs : List Nat} (ha : ascii cs) (h60 : cs.length ≤ 60) {e : Nat} (he : pe cs.length (cnf cs) = some e) (h1 : e < 1000) : ∃ w', F_L_faults w cs (nI e) = some (1, w') ∧ XK B0 w' := by
  obtain ⟨w1, A, e1, hA, hC, hb, hs, hS, hT⟩ := put_ok h ha h60
  obtain ⟨w2, e2, hC2⟩ := run_bad hC hT ha h60 he h1
  refine ⟨w2, ?_, A.fn (nI e), hA.fn, hC2, hb, hs, hS, rfl⟩
  have e9 : gI w2 0 9 = nI e := hC2.2.2.2.2.1
  unfold F_L_faults F_L_runs
  rw [e1, Option.bind_some, runs_in (v := -1) 2 e2 rfl, Option.bind_some]
  dsimp only
  rw [if_pos rfl, show F_X5_errorPosition w2 = nI e from e9, if_pos rfl]
theorem sE_ok {B0 : Bd} {w : Wo} (hB : B0.ok) (h : XK B0 w) : ∃ w', F_S_E w (stS B0) = some w' ∧ XK B0 w' := by
  obtain ⟨w1, A, e1, hA, hC, hb, hs, hS, hT⟩ := put_ok h (cs := [120, 48, 59, 115, 50, 50]) (asc rfl) (by decide)
  have hd := dims hB
  have hB1 : (barB B0 0).ok := barB_ok hB (by omega)
  have hd1 := dims hB1
  have z : pe 6 (cnf [120, 48, 59, 115, 50, 50]) = none ∧ NN 6 (cnf [120, 48, 59, 115, 50, 50]) + 1 = 2 ∧ rd 6 (cnf [120, 48, 59, 115, 50, 50]) (pos 6 (cnf [120, 48, 59, 115, 50, 50]) 0) = .inr (2, 120, 0, 0, 0) ∧ rd 6 (cnf [120, 48, 59, 115, 50, 50]) (pos 6 (cnf [120, 48, 59, 115, 50, 50]) 1) = .inr (6, 115, 2, 2, 0) := by decide +kernel
  obtain ⟨w2, e2, hC2⟩ := run_ref hA hC hT (asc rfl) (by decide) z.1 z.2.1 (m := 1) (why := 3) (det := nI 2) (by decide) (by decide) (Bs := fun j => if j = 0 then B0 else barB B0 0) (by rw [hb]; rfl) (fun j hj => by
    obtain rfl : j = 0 := by omega
    exact ⟨_, z.2.2.1, y_bar hB (l := 0) (by omega) _⟩) ⟨_, z.2.2.2, r_swap hB1 (p := 2) (by omega)⟩
  obtain ⟨f1, f2⟩ := p_ref hC2 (show 0 < 3 by decide) (show 3 < 6 by decide)
  have f1 : F_X5_refusal w2 0 = some (.inr (nI 3, w2)) := f1
  have f2 : F_X5_refusal w2 1 = some (.inr (nI 2, w2)) := f2
  have s1 := st_tell (B := A.B) (by rw [hb]; exact hB) hC2.1
  rw [hb] at s1
  refine ⟨w2, ?_, ((A.fn (-1)).wr 3 (nI 2)).wb A.B A.ct A.hs, (hA.fn.wr (by decide)).wb hA.1 hA.2.2.1 hA.2.2.2.1, hC2, hb, hs, hS, rfl⟩
  unfold F_S_E F_L_runs
  rw [e1, Option.bind_some, runs_in (v := -2) 3 e2 rfl, Option.bind_some]
  dsimp only
  rw [if_pos rfl, nx_of f1, Option.bind_some]
  dsimp only
  rw [if_pos (show nI 3 = 3 from rfl), nx_of f2, Option.bind_some]
  dsimp only
  rw [if_pos (show nI 2 = 2 from rfl), nx_of s1, Option.bind_some]
  dsimp only
  rw [if_pos rfl]
theorem sF_ok {B0 : Bd} {w : Wo} (hB : B0.ok) (h : XK B0 w) : ∃ w', F_S_F w (stS B0) = some w' ∧ XK B0 w' := by
  obtain ⟨w1, A, e1, hA, hC, hb, hs, hS, hT⟩ := put_ok h (cs := [120, 48, 59, 115, 48, 57]) (asc rfl) (by decide)
  have hd := dims hB
  have hB1 : (barB B0 0).ok := barB_ok hB (by omega)
  have hd1 := dims hB1
  have z : pe 6 (cnf [120, 48, 59, 115, 48, 57]) = none ∧ NN 6 (cnf [120, 48, 59, 115, 48, 57]) + 1 = 2 ∧ rd 6 (cnf [120, 48, 59, 115, 48, 57]) (pos 6 (cnf [120, 48, 59, 115, 48, 57]) 0) = .inr (2, 120, 0, 0, 0) ∧ rd 6 (cnf [120, 48, 59, 115, 48, 57]) (pos 6 (cnf [120, 48, 59, 115, 48, 57]) 1) = .inr (6, 115, 0, 9, 0) := by decide +kernel
  obtain ⟨w2, e2, hC2⟩ := run_no hA hC hT (asc rfl) (by decide) z.1 z.2.1 (m := 1) (v := 1) (by decide) (Or.inl rfl) (Bs := fun j => if j = 0 then B0 else barB B0 0) (by rw [hb]; rfl) (fun j hj => by
    obtain rfl : j = 0 := by omega
    exact ⟨_, z.2.2.1, y_bar hB (l := 0) (by omega) _⟩) ⟨_, z.2.2.2, n_swap hB1 (p := 0) (b := nI 9) (by omega) (Or.inr (nI_le (by omega) (by omega)))⟩
  have s1 := st_tell (B := A.B) (by rw [hb]; exact hB) hC2.1
  rw [hb] at s1
  have e9 : gI w2 0 9 = -1 := hC2.2.2.2.2.1
  refine ⟨w2, ?_, (A.fn (-1)).wb A.B A.ct A.hs, hA.fn.wb hA.1 hA.2.2.1 hA.2.2.2.1, hC2, hb, hs, hS, rfl⟩
  unfold F_S_F F_L_runs
  rw [e1, Option.bind_some, runs_in (v := -1) 2 e2 rfl, Option.bind_some]
  dsimp only
  rw [if_pos rfl, show F_X5_errorPosition w2 = -1 from e9, if_pos rfl, nx_of s1, Option.bind_some]
  dsimp only
  rw [if_pos rfl]
theorem sG_ok {B0 : Bd} {w : Wo} (hB : B0.ok) (h : XK B0 w) : ∃ w', F_S_G w = some w' ∧ XK B0 w' := by
  obtain ⟨w1, A, e1, hA, hC, hb, hs, hS, hT⟩ := put_ok h (cs := [98, 52, 52]) (asc rfl) (by decide)
  have z : pe 3 (cnf [98, 52, 52]) = none ∧ NN 3 (cnf [98, 52, 52]) + 1 = 1 ∧ rd 3 (cnf [98, 52, 52]) (pos 3 (cnf [98, 52, 52]) 0) = .inr (3, 98, 4, 4, 0) := by decide +kernel
  obtain ⟨w2, e2, hC2⟩ := run_no hA hC hT (asc rfl) (by decide) z.1 z.2.1 (m := 0) (v := 2) (by decide) (Or.inr rfl) (Bs := fun _ => A.B) rfl (fun j hj => absurd hj (Nat.not_lt_zero j)) ⟨_, z.2.2, n_board _⟩
  have e9 : gI w2 0 9 = -1 := hC2.2.2.2.2.1
  refine ⟨w2, ?_, (A.fn (-1)).wb A.B A.ct A.hs, hA.fn.wb hA.1 hA.2.2.1 hA.2.2.2.1, hC2, hb, hs, hS, rfl⟩
  unfold F_S_G F_L_runs
  rw [e1, Option.bind_some, runs_in (v := -1) 2 e2 rfl, Option.bind_some]
  dsimp only
  rw [if_pos rfl, show F_X5_errorPosition w2 = -1 from e9, if_pos rfl]
theorem sH_ok {B0 : Bd} {w : Wo} (hB : B0.ok) (h : XK B0 w) : ∃ w', F_S_H w (stS B0) = some w' ∧ XK B0 w' := by
  have z : pe 2 (cnf [112, 97]) = some 1 ∧ pe 3 (cnf [112, 48, 109]) = some 2 ∧ pe 5 (cnf [116, 49, 50, 51, 52]) = some 4 ∧ pe 2 (cnf [114, 53]) = some 2 ∧ pe 0 (cnf []) = some 0 ∧ pe 3 (cnf [120, 48, 59]) = some 3 ∧ pe 3 (cnf [103, 48, 109]) = some 2 ∧ pe 2 (cnf [98, 51]) = some 2 ∧ pe 4 (cnf [115, 48, 49, 50]) = some 3 ∧ pe 1 (cnf [122]) = some 0 := by decide +kernel
  obtain ⟨z1, z2, z3, z4, z5, z6, z7, z8, z9, z10⟩ := z
  obtain ⟨w1, e1, h1⟩ := flt_ok h (cs := [112, 97]) (asc rfl) (by decide) z1 (by decide)
  obtain ⟨w2, e2, h2⟩ := flt_ok h1 (cs := [112, 48, 109]) (asc rfl) (by decide) z2 (by decide)
  obtain ⟨w3, e3, h3⟩ := flt_ok h2 (cs := [116, 49, 50, 51, 52]) (asc rfl) (by decide) z3 (by decide)
  obtain ⟨w4, e4, h4⟩ := flt_ok h3 (cs := [114, 53]) (asc rfl) (by decide) z4 (by decide)
  obtain ⟨w5, e5, h5⟩ := flt_ok h4 (cs := []) (asc rfl) (by decide) z5 (by decide)
  obtain ⟨w6, e6, h6⟩ := flt_ok h5 (cs := [120, 48, 59]) (asc rfl) (by decide) z6 (by decide)
  obtain ⟨w7, e7, h7⟩ := flt_ok h6 (cs := [103, 48, 109]) (asc rfl) (by decide) z7 (by decide)
  obtain ⟨w8, e8, h8⟩ := flt_ok h7 (cs := [98, 51]) (asc rfl) (by decide) z8 (by decide)
  obtain ⟨w9, e9, h9⟩ := flt_ok h8 (cs := [115, 48, 49, 50]) (asc rfl) (by decide) z9 (by decide)
  obtain ⟨w10, e10, h10⟩ := flt_ok h9 (cs := [122]) (asc rfl) (by decide) z10 (by decide)
  refine ⟨w10, ?_, h10⟩
  have s1 : F_L_state w10 = some (.inr (stS B0, w10)) := by
    obtain ⟨A, hA, hC, hb, -⟩ := h10
    subst hb
    exact st_tell hA.1 hC.1
  have n1 : ¬ (1 : Int32) = 0 := by decide
  unfold F_S_H
  rw [show F_L_faults w [112, 97] 1 = _ from e1, Option.bind_some]
  dsimp only
  rw [if_neg n1, show F_L_faults w1 [112, 48, 109] 2 = _ from e2, Option.bind_some]
  dsimp only
  rw [if_neg n1, show F_L_faults w2 [116, 49, 50, 51, 52] 4 = _ from e3, Option.bind_some]
  dsimp only
  rw [if_neg n1, show F_L_faults w3 [114, 53] 2 = _ from e4, Option.bind_some]
  dsimp only
  rw [if_neg n1, show F_L_faults w4 [] 0 = _ from e5, Option.bind_some]
  dsimp only
  rw [if_neg n1, show F_L_faults w5 [120, 48, 59] 3 = _ from e6, Option.bind_some]
  dsimp only
  rw [if_neg n1, show F_L_faults w6 [103, 48, 109] 2 = _ from e7, Option.bind_some]
  dsimp only
  rw [if_neg n1, show F_L_faults w7 [98, 51] 2 = _ from e8, Option.bind_some]
  dsimp only
  rw [if_neg n1, show F_L_faults w8 [115, 48, 49, 50] 3 = _ from e9, Option.bind_some]
  dsimp only
  rw [if_neg n1, show F_L_faults w9 [122] 0 = _ from e10, Option.bind_some]
  dsimp only
  rw [if_neg n1, nx_of s1, Option.bind_some]
  dsimp only
  rw [if_pos rfl]
theorem sI_ok {B0 : Bd} {w : Wo} (h : XK B0 w) : ∃ w', F_S_I w (nI (homes B0 B0.cell)) (stS B0) = some w' := by
  obtain ⟨A, hA, hC, hb, hs, hS, h0⟩ := h
  obtain ⟨w1, e1, h1⟩ := p_rest hA hC hs
  rw [hS] at e1 h1
  have hBo : B0.ok := by rw [← hb]; exact hA.1
  have s1 := st_tell hBo h1.1
  refine ⟨w1, ?_⟩
  have h9 : gI w1 4 2 = 0 := by
    obtain ⟨nx9, -, -, h3, -⟩ := h1.2.2.1
    exact h3
  unfold F_S_I
  rw [nx_of e1, Option.bind_some]
  dsimp only
  rw [if_pos rfl, nx_of t_acc9, Option.bind_some]
  dsimp only
  rw [if_pos h9, nx_of s1, Option.bind_some]
  dsimp only
  rw [if_pos rfl]
theorem z_split {n : Nat} (hn : n < 64) : ∃ z0 z1 z2 z3 z4 z5, F_X0_lay N_X5 3 3 = some z0 ∧ F_S_Z1 z0 = some z1 ∧ F_S_Z2 z1 = some z2 ∧ F_S_Z3 z2 = some z3 ∧ F_S_Z4 z3 (nI n) = some z4 ∧ F_S_Z5 z4 = some z5 := by
  have h := z_all n hn
  unfold zAll at h
  obtain ⟨z5, h⟩ := Option.isSome_iff_exists.mp h
  obtain ⟨z4, h4, h5⟩ := ob h
  obtain ⟨z3, h3, h4⟩ := ob h4
  obtain ⟨z2, h2, h3⟩ := ob h3
  obtain ⟨z1, h1, h2⟩ := ob h2
  obtain ⟨z0, h0, h1⟩ := ob h1
  exact ⟨z0, z1, z2, z3, z4, z5, h0, h1, h2, h3, h4, h5⟩
/-- on every script, none of the law's questions is answered otherwise than it asks -/
theorem pure_law (L : Nat) (xs : Nat → Int32) : LawOK L xs := by
  obtain ⟨w0, A, e0, hA, hC, h0⟩ := build_ok L xs
  obtain ⟨w1, eA, hC1⟩ := sA_ok hA hC L xs
  obtain ⟨n, hn, en⟩ := mask511 (xat L xs 13)
  have hA1 := wsv_ok hA
  obtain ⟨w2, A2, e2, hC2, hA2, hT2, hB2, hs2, hS2, hc2, hh2⟩ := p_puts (csS n) w1 A.wsv [] hA1 hC1 ⟨h0, fun i hi => absurd hi (Nat.not_lt_zero i)⟩ (asc (csS_asc n (by omega))).1 (by have := csS_len n hn; show 0 + (csS n).length ≤ 60; omega)
  have hT2 : Tin A2 (csS n) := hT2
  have hBA : A2.B = A.B := hB2
  obtain ⟨wx3, wy3, eC, k1, k2, k3, k4⟩ := sC_ok hA2 hC2 hA hC hBA.symm hn hT2
  have t1 : Top ((A2.fn (-1)).push (BX4 A2.B n)) [A.B] := by
    have := Top.push (A := A2.fn (-1)) (B' := BX4 A2.B n) (l := []) hA2.2.2.1 (Top.nil _) (by decide)
    rw [← hBA]
    exact this
  obtain ⟨b1, b2, b3, b4⟩ := BX_ok hA2.1 n
  have ty : Top ((((A.push (BX1 A2.B)).push (BX2 A2.B n)).push (BX3 A2.B n)).push (BX4 A2.B n)) [BX3 A2.B n, BX2 A2.B n, BX1 A2.B, A.B] :=
    Top.push (A := ((A.push (BX1 A2.B)).push (BX2 A2.B n)).push (BX3 A2.B n)) (((hA.push b1).push b2).push b3).2.2.1 (Top.push (A := (A.push (BX1 A2.B)).push (BX2 A2.B n)) ((hA.push b1).push b2).2.2.1 (Top.push (A := A.push (BX1 A2.B)) (hA.push b1).2.2.1 (Top.push (A := A) hA.2.2.1 (Top.nil _) (by decide)) (by simp)) (by simp)) (by simp)
  obtain ⟨wx4, wy4, eD, x4⟩ := sD_ok k3 k1 t1 hs2 (hS2.trans rfl) rfl k4 k2 ty
  obtain ⟨w5, e5, x5⟩ := sE_ok hA.1 x4
  obtain ⟨w6, e6, x6⟩ := sF_ok hA.1 x5
  obtain ⟨w7, e7, x7⟩ := sG_ok hA.1 x6
  obtain ⟨w8, e8, x8⟩ := sH_ok hA.1 x7
  obtain ⟨w9, e9⟩ := sI_ok x8
  obtain ⟨q, hq, eq⟩ := mask63 (jshr (xat L xs 13) (9 : Int32))
  obtain ⟨z0, z1, z2, z3, z4, z5, f0, f1, f2, f3, f4, f5⟩ := z_split hq
  rw [hBA] at eC
  exact ⟨w0, _, n, w2, (wx3, wy3), (wx4, wy4), w5, w6, w7, w8, z0, z1, z2, z3, z4, z5, w9, e0, eA, by omega, en, e2, eC, eD, e5, e6, e7, e8, f0, f1, f2, f3, by rw [eq]; exact f4, f5, e9⟩
