/-! WHAT CHANGES CHANGE: boards after an order; the class's way -/
def updC (cn : Nat → Int32) (i : Nat) (v : Int32) : Nat → Int32 := fun j => if j = i then v else cn j
def layB (B : Bd) (r c : Nat) : Bd := mkB r c (fun p => p) (fun p => p) (fun _ => false) (updC B.cn 6 (B.cn 6 + 1))
def mkT (B : Bd) (t : Nat) : Bd := mkB B.r B.c (tn B t B.cell) B.goal B.bar (updC B.cn 2 (B.cn 2 + 1))
def gain (B : Bd) (t : Nat) : Bool := !decide (homes B B.cell = B.n) && decide (homes B (tn B t B.cell) = B.n)
def handT (B : Bd) (t : Nat) : Bd := mkB B.r B.c (tn B t B.cell) B.goal B.bar (updC (updC B.cn 2 (B.cn 2 + 1)) 7 (B.cn 7 + bI (gain B t)))
def setf (f : Nat → Nat) (p v : Nat) : Nat → Nat := fun q => if q = p then v else f q
def putB (B : Bd) (p v : Nat) : Bd := mkB B.r B.c (setf B.cell p v) B.goal B.bar B.cn
def goalB (B : Bd) (p v : Nat) : Bd := mkB B.r B.c B.cell (setf B.goal p v) B.bar B.cn
def swapB (B : Bd) (a b : Nat) : Bd := mkB B.r B.c (setf (setf B.cell a (B.cell b)) b (B.cell a)) B.goal B.bar (updC B.cn 3 (B.cn 3 + 1))
def barB (B : Bd) (l : Nat) : Bd := mkB B.r B.c B.cell B.goal (fun j => if j = l then !B.bar j else B.bar j) B.cn
def nxs (s : Nat) : Nat := (73 * s + 41) % 1000
def mxs (s : Nat) : Nat → Nat
  | 0 => s
  | k + 1 => nxs (mxs s k)
def mxt (B : Bd) (s k : Nat) : Nat := mxs s (k + 1) % (2 * (B.r + B.c))
def mxn (B : Bd) (s : Nat) : Nat → Nat
  | 0 => 0
  | k + 1 => mxn B s k + (if B.bar (mxt B s k / 2) then 0 else 1)
def mxB (B : Bd) (s : Nat) : Nat → Bd
  | 0 => B
  | k + 1 => if B.bar (mxt B s k / 2) then mxB B s k else mkT (mxB B s k) (mxt B s k)
def mixB (B : Bd) (s k : Nat) : Bd := mkB B.r B.c (mxB B s k).cell B.goal B.bar (updC (mxB B s k).cn 4 ((mxB B s k).cn 4 + 1))
theorem mkT_ok {B : Bd} (hB : B.ok) {t : Nat} (ht : t < 2 * (B.r + B.c)) : (mkT B t).ok := ⟨hB.1, hB.2.1, fun p hp => hB.2.2.1 _ (bk_lt hB ht hp), hB.2.2.2.1, hB.2.2.2.2⟩
theorem handT_ok {B : Bd} (hB : B.ok) {t : Nat} (ht : t < 2 * (B.r + B.c)) : (handT B t).ok := ⟨hB.1, hB.2.1, fun p hp => hB.2.2.1 _ (bk_lt hB ht hp), hB.2.2.2.1, hB.2.2.2.2⟩
theorem setf_lt {f : Nat → Nat} {p v n N : Nat} (hf : ∀ q, q < n → f q < N) (hv : v < N) : ∀ q, q < n → setf f p v q < N := by
  intro q hq
  unfold setf
  by_cases e : q = p
  · rw [if_pos e]
    exact hv
  · rw [if_neg e]
    exact hf q hq
theorem putB_ok {B : Bd} (hB : B.ok) {p v : Nat} (hv : v < 12) : (putB B p v).ok := ⟨hB.1, hB.2.1, setf_lt hB.2.2.1 hv, hB.2.2.2.1, hB.2.2.2.2⟩
theorem goalB_ok {B : Bd} (hB : B.ok) {p v : Nat} (hv : v < 13) : (goalB B p v).ok := ⟨hB.1, hB.2.1, hB.2.2.1, setf_lt hB.2.2.2.1 hv, hB.2.2.2.2⟩
theorem swapB_ok {B : Bd} (hB : B.ok) {a b : Nat} (ha : a < B.n) (hb : b < B.n) : (swapB B a b).ok := ⟨hB.1, hB.2.1, setf_lt (setf_lt hB.2.2.1 (hB.2.2.1 b hb)) (hB.2.2.1 a ha), hB.2.2.2.1, hB.2.2.2.2⟩
theorem barB_ok {B : Bd} (hB : B.ok) {l : Nat} (hl : l < B.r + B.c) : (barB B l).ok := ⟨hB.1, hB.2.1, hB.2.2.1, hB.2.2.2.1, fun j hj => by
  show (if j = l then !B.bar j else B.bar j) = false
  rw [if_neg (by have : B.r + B.c ≤ j := hj; omega)]
  exact hB.2.2.2.2 j hj⟩
theorem layB_ok {B : Bd} {r c : Nat} (hr : r = 2 ∨ r = 3) (hc : c = 2 ∨ c = 3) : (layB B r c).ok := by
  have h : r * c ≤ 9 := by rcases hr with rfl | rfl <;> rcases hc with rfl | rfl <;> decide
  exact ⟨hr, hc, fun p hp => by have h2 : p < r * c := hp; show p < 12; omega, fun p hp => by have h2 : p < r * c := hp; show p < 13; omega, fun _ _ => rfl⟩
theorem mxB_s (B : Bd) (s : Nat) : ∀ k, (mxB B s k).r = B.r ∧ (mxB B s k).c = B.c ∧ (mxB B s k).goal = B.goal ∧ (mxB B s k).bar = B.bar
  | 0 => ⟨rfl, rfl, rfl, rfl⟩
  | k + 1 => by
    have ih := mxB_s B s k
    unfold mxB
    by_cases h : B.bar (mxt B s k / 2) = true
    · rw [if_pos h]
      exact ih
    · rw [if_neg h]
      exact ih
theorem mxt_lt {B : Bd} (hB : B.ok) (s k : Nat) : mxt B s k < 2 * (B.r + B.c) := Nat.mod_lt _ (by have := dims hB; omega)
theorem mxB_ok {B : Bd} (hB : B.ok) (s : Nat) : ∀ k, (mxB B s k).ok
  | 0 => hB
  | k + 1 => by
    have ih := mxB_ok hB s k
    have h2 := mxB_s B s k
    have h3 := mxt_lt hB s k
    unfold mxB
    by_cases h : B.bar (mxt B s k / 2) = true
    · rw [if_pos h]
      exact ih
    · rw [if_neg h]
      exact mkT_ok ih (by rw [h2.1, h2.2.1]; exact h3)
theorem mixB_ok {B : Bd} (hB : B.ok) (s k : Nat) : (mixB B s k).ok := by
  have h1 := mxB_ok hB s k
  have h2 := mxB_s B s k
  refine ⟨hB.1, hB.2.1, fun p hp => h1.2.2.1 p ?_, hB.2.2.2.1, hB.2.2.2.2⟩
  show p < (mxB B s k).r * (mxB B s k).c
  rw [h2.1, h2.2.1]
  exact hp
/-! the class's -/
section CAc
variable {w : Wo} {B : Bd}
theorem CB.setL {f : Nat → Nat} {y : Int64} (hC : CB w 1 B) (hf : ∀ p, p < B.n → nib y p = f p) : CB (pL w 1 2 y) 1 (mkB B.r B.c f B.goal B.bar B.cn) := by
  obtain ⟨h1, h2, h3, h4, ⟨N, h5, h6, h7⟩, h8⟩ := hC
  refine ⟨h1, h2, fun p hp => ?_, fun p hp => ?_, ⟨N, h5, h6, h7⟩, h8⟩
  · rw [gL_pL, if_pos ⟨rfl, rfl⟩]
    exact hf p hp
  · rw [gL_pL, if_neg (by omega)]
    exact h4 p hp
theorem CB.setG {f : Nat → Nat} {y : Int64} (hC : CB w 1 B) (hf : ∀ p, p < B.n → nib y p = f p) : CB (pL w 1 3 y) 1 (mkB B.r B.c B.cell f B.bar B.cn) := by
  obtain ⟨h1, h2, h3, h4, ⟨N, h5, h6, h7⟩, h8⟩ := hC
  refine ⟨h1, h2, fun p hp => ?_, fun p hp => ?_, ⟨N, h5, h6, h7⟩, h8⟩
  · rw [gL_pL, if_neg (by omega)]
    exact h3 p hp
  · rw [gL_pL, if_pos ⟨rfl, rfl⟩]
    exact hf p hp
theorem CB.setC {i : Nat} {v : Int32} (hC : CB w 1 B) (h2 : 2 ≤ i) (hi : i < 8) : CB (pI w 1 (i + 3) v) 1 (mkB B.r B.c B.cell B.goal B.bar (updC B.cn i v)) := by
  obtain ⟨h1, h22, h3, h4, ⟨N, h5, h6, h7⟩, h8⟩ := hC
  refine ⟨?_, ?_, h3, h4, ⟨N, h5, ?_, h7⟩, fun j a b => ?_⟩
  · rw [gI_pI, if_neg (by omega)]
    exact h1
  · rw [gI_pI, if_neg (by omega)]
    exact h22
  · rw [gI_pI, if_neg (by omega)]
    exact h6
  · show _ = if j = i then v else B.cn j
    by_cases e : j = i
    · rw [if_pos e, e, pI_same]
    · rw [if_neg e, gI_pI, if_neg (by omega)]
      exact h8 j a b
theorem c_makeTurn (hB : B.ok) (hC : CB w 1 B) {t : Nat} (ht : t < 2 * (B.r + B.c)) : ∃ w', F_X0_makeTurn w (nI t) = some w' ∧ CB w' 1 (mkT B t) ∧ Kd [1] w w' := by
  have hd := dims hB
  obtain ⟨y, h1, h2⟩ := c_turned hB hC (gL w 1 2) ht
  have e5 : gI (pL w 1 2 y) 1 5 = B.cn 2 := hC.2.2.2.2.2 2 (by decide) (by decide)
  refine ⟨pI (pL w 1 2 y) 1 5 (B.cn 2 + 1), ?_, ?_, (Kd.pL (D := [1]) (by decide)).tr (Kd.pI (D := [1]) (by decide)) (fun _ h => h) (fun _ h => h)⟩
  · unfold F_X0_makeTurn B_X0_makeTurn_13
    rw [h1, Option.bind_some, e5]
  · exact (hC.setL (f := tn B t B.cell) (fun p hp => by rw [h2 p (by omega), hC.2.2.1 _ (bk_lt hB ht hp)]; rfl)).setC (i := 2) (by decide) (by decide)
theorem c_reached (hB : B.ok) (hC : CB w 1 B) : F_X0_isReached w = some (bI (decide (homes B B.cell = B.n))) := by
  unfold F_X0_isReached
  rw [c_isGoal hB hC hC.2.2.1, Option.bind_some]
theorem updC_id (cn : Nat → Int32) (i : Nat) : updC cn i (cn i + bI false) = cn := by
  funext j
  unfold updC
  by_cases e : j = i
  · rw [if_pos e, e]
    show cn i + 0 = cn i
    exact Int32.add_zero _
  · rw [if_neg e]
theorem c_turnToGoal (hB : B.ok) (hC : CB w 1 B) {t : Nat} (ht : t < 2 * (B.r + B.c)) : ∃ w', F_X0_turnToGoal w (nI t) = some w' ∧ CB w' 1 (handT B t) ∧ Kd [1] w w' := by
  obtain ⟨w1, h1, h2, h3⟩ := c_makeTurn hB hC ht
  have h4 := c_reached (mkT_ok hB ht) h2
  have h4 : F_X0_isReached w1 = some (bI (decide (homes B (tn B t B.cell) = B.n))) := h4
  have e10 : gI w1 1 10 = B.cn 7 := by
    have := h2.2.2.2.2.2 7 (by decide) (by decide)
    exact this
  unfold F_X0_turnToGoal
  rw [c_reached hB hC, Option.bind_some, h1, Option.bind_some, itb0, h4, Option.bind_some, itb0]
  have key : ∀ g : Bool, gain B t = g → ∃ w', (if g = true then some (pI w1 1 10 (gI w1 1 10 + 1)) else some w1) = some w' ∧ CB w' 1 (handT B t) ∧ Kd [1] w w' := by
    intro g hg
    have eh : handT B t = mkB (mkT B t).r (mkT B t).c (mkT B t).cell (mkT B t).goal (mkT B t).bar (updC (mkT B t).cn 7 ((mkT B t).cn 7 + bI g)) := by
      unfold handT
      rw [hg]
      rfl
    rw [eh]
    cases g with
    | true =>
      refine ⟨_, if_pos rfl, ?_, h3.tr (Kd.pI (D := [1]) (by decide)) (fun _ h => h) (fun _ h => h)⟩
      rw [e10]
      exact h2.setC (i := 7) (by decide) (by decide)
    | false =>
      refine ⟨w1, if_neg (by decide), ?_, h3⟩
      rw [updC_id]
      exact h2
  by_cases hr : homes B B.cell = B.n
  · obtain ⟨w', k1, k2⟩ := key false (by unfold gain; rw [decide_eq_true hr]; rfl)
    rw [decide_eq_true hr, if_pos rfl]
    rw [if_neg (by decide)] at k1
    exact ⟨w', k1, k2⟩
  · rw [decide_eq_false hr, if_neg (by decide)]
    obtain ⟨w', k1, k2⟩ := key (decide (homes B (tn B t B.cell) = B.n)) (by unfold gain; rw [decide_eq_false hr]; rfl)
    exact ⟨w', k1, k2⟩
theorem c_lay {r c : Nat} (hC : CB w 1 B) (hr : r = 2 ∨ r = 3) (hc : c = 2 ∨ c = 3) : ∃ w', F_X0_lay w (nI r) (nI c) = some w' ∧ CB w' 1 (mkB r c (fun p => p) (fun p => p) (fun _ => false) B.cn) ∧ Kd [1] w w' := by
  have h9 : r * c ≤ 9 := by rcases hr with rfl | rfl <;> rcases hc with rfl | rfl <;> decide
  have hcn := hC.2.2.2.2.2
  unfold F_X0_lay B_X0_lay_5 B_X0_lay_10 B_X0_lay_15
  refine jl2_inv (P := fun k u a => a = nI k ∧ Kd [1] w u ∧ gI u 1 0 = nI r ∧ gI u 1 1 = nI c ∧ (∀ p, p < k → nib (gL u 1 2) p = p) ∧ ∀ i, 2 ≤ i → i < 8 → gI u 1 (i + 3) = B.cn i) (Qr := fun o => ∃ w', o = some w' ∧ CB w' 1 (mkB r c (fun p => p) (fun p => p) (fun _ => false) B.cn) ∧ Kd [1] w w') (r * c) (by rw [fu4]; omega) ?_ ?_ ⟨rfl, ?_, ?_, ?_, fun p hp => absurd hp (Nat.not_lt_zero p), ?_⟩
  · rintro k hk u a ⟨rfl, h1, h2, h3, h4, h5⟩
    refine Or.inl ⟨pL u 1 2 (F_X5_withCode (gL u 1 2) (nI k) (nI k)), nI (k + 1), ⟨rfl, h1.tr (Kd.pL (D := [1]) (by decide)) (fun _ h => h) (fun _ h => h), h2, h3, fun p hp => ?_, h5⟩, fun K => ?_⟩
    · rw [gL_pL, if_pos ⟨rfl, rfl⟩, withCode_nib (by omega) (by omega) (by omega)]
      by_cases e : p = k
      · rw [if_pos e, e]
      · rw [if_neg e]
        exact h4 p (by omega)
    · have e : F_X0_places u = nI (r * c) := by
        unfold F_X0_places
        rw [h2, h3, pk_mul]
      unfold B_X0_lay_17 B_X0_lay_38
      rw [e, if_neg (nI_ge hk (by omega)), nI_succ]
  · rintro u a ⟨rfl, h1, h2, h3, h4, h5⟩ K
    have e : F_X0_places u = nI (r * c) := by
      unfold F_X0_places
      rw [h2, h3, pk_mul]
    refine ⟨pI (pL u 1 3 (gL u 1 2)) 1 4 0, ?_, ⟨?_, ?_, fun p hp => ?_, fun p hp => ?_, ⟨0, by decide, pI_same, fun l _ => Nat.zero_testBit l⟩, fun i a b => ?_⟩, h1.tr ((Kd.pL (D := [1]) (by decide)).tr (Kd.pI (D := [1]) (by decide)) (D := [1]) (fun _ h => h) (fun _ h => h)) (fun _ h => h) (fun _ h => h)⟩
    · unfold B_X0_lay_17 B_X0_lay_44 B_X0_lay_52
      rw [e, if_pos (nI_le (Nat.le_refl _) (by omega))]
    · rw [gI_pI, if_neg (by omega)]
      exact h2
    · rw [gI_pI, if_neg (by omega)]
      exact h3
    · rw [gL_pI, gL_pL, if_neg (by omega)]
      exact h4 p hp
    · rw [gL_pI, gL_pL, if_pos ⟨rfl, rfl⟩]
      exact h4 p hp
    · rw [gI_pI, if_neg (by omega)]
      exact h5 i a b
  · exact ((Kd.pI (D := [1]) (by decide)).tr (Kd.pI (D := [1]) (by decide)) (D := [1]) (fun _ h => h) (fun _ h => h)).tr (Kd.pL (D := [1]) (by decide)) (fun _ h => h) (fun _ h => h)
  · show (if 1 = 1 ∧ 0 = 1 then nI c else if 1 = 1 ∧ 0 = 0 then nI r else gI w 1 0) = nI r
    rw [if_neg (by omega), if_pos ⟨rfl, rfl⟩]
  · show (if 1 = 1 ∧ 1 = 1 then nI c else if 1 = 1 ∧ 1 = 0 then nI r else gI w 1 1) = nI c
    rw [if_pos ⟨rfl, rfl⟩]
  · intro i h2 h8
    show (if 1 = 1 ∧ i + 3 = 1 then nI c else if 1 = 1 ∧ i + 3 = 0 then nI r else gI w 1 (i + 3)) = B.cn i
    rw [if_neg (by omega), if_neg (by omega)]
    exact hcn i h2 h8
theorem c_exchange (hB : B.ok) (hC : CB w 1 B) {a b : Nat} (ha : a < B.n) (hb : b < B.n) : ∃ w', F_X0_exchange w (nI a) (nI b) = some w' ∧ CB w' 1 (swapB B a b) ∧ Kd [1] w w' := by
  have hd := dims hB
  have ca := hB.2.2.1 a ha
  have cb := hB.2.2.1 b hb
  obtain ⟨y, hy⟩ : ∃ y, y = F_X5_withCode (gL w 1 2) (nI a) (nI (B.cell b)) := ⟨_, rfl⟩
  obtain ⟨z, hz⟩ : ∃ z, z = F_X5_withCode y (nI b) (nI (B.cell a)) := ⟨_, rfl⟩
  have hc1 : CB (pL w 1 2 y) 1 (mkB B.r B.c (setf B.cell a (B.cell b)) B.goal B.bar B.cn) := hC.setL (fun p hp => by
    rw [hy, withCode_nib (by omega) (by omega) (by omega), hC.2.2.1 p hp]
    rfl)
  have hc2 := hc1.setL (y := z) (f := setf (setf B.cell a (B.cell b)) b (B.cell a)) (fun p hp => by
    have hp2 : p < B.n := hp
    rw [hz, withCode_nib (by omega) (by omega) (by omega)]
    have := hc1.2.2.1 p hp
    rw [gL_pL, if_pos ⟨rfl, rfl⟩] at this
    rw [this]
    rfl)
  have e6 : gI (pL (pL w 1 2 y) 1 2 z) 1 6 = B.cn 3 := hC.2.2.2.2.2 3 (by decide) (by decide)
  refine ⟨pI (pL (pL w 1 2 y) 1 2 z) 1 6 (B.cn 3 + 1), ?_, hc2.setC (i := 3) (by decide) (by decide), ((Kd.pL (D := [1]) (by decide)).tr (Kd.pL (D := [1]) (by decide)) (D := [1]) (fun _ h => h) (fun _ h => h)).tr (Kd.pI (D := [1]) (by decide)) (fun _ h => h) (fun _ h => h)⟩
  unfold F_X0_exchange B_X0_exchange_29 B_X0_exchange_42
  rw [codeAt_nib (by omega), codeAt_nib (by omega), hC.2.2.1 a ha, hC.2.2.1 b hb, ← hy, show gL (pL w 1 2 y) 1 2 = y by rw [gL_pL, if_pos ⟨rfl, rfl⟩], ← hz, e6]
theorem mxs_lt (s : Nat) (hs : s < 1000) : ∀ k, mxs s k < 1000
  | 0 => hs
  | k + 1 => Nat.mod_lt _ (by decide)
theorem c_mix (hB : B.ok) (hC : CB w 1 B) {s n : Nat} (hs : s < 1000) (hn : n < 10) : ∃ w', F_X0_mix w (nI s) (nI n) = some w' ∧ CB w' 1 (mixB B s n) ∧ Kd [1] w w' ∧ gI w' 1 5 = B.cn 2 + nI (mxn B s n) := by
  have hd := dims hB
  unfold F_X0_mix
  rw [c_turns hB hC]
  have hcn : ∀ k, (mxB B s k).cn 2 = B.cn 2 + nI (mxn B s k) := by
    intro k
    induction k with
    | zero => exact (Int32.add_zero _).symm
    | succ k ih =>
      unfold mxB mxn
      by_cases h : B.bar (mxt B s k / 2) = true
      · rw [if_pos h, if_pos h]
        exact ih
      · rw [if_neg h, if_neg h]
        show (mxB B s k).cn 2 + 1 = _
        rw [ih, nI_succ, Int32.add_assoc]
  refine jl3_inv (P := fun k u a b => CB u 1 (mxB B s k) ∧ Kd [1] w u ∧ a = nI (mxs s k) ∧ b = nI k) (Qr := fun o => ∃ w', o = some w' ∧ CB w' 1 (mixB B s n) ∧ Kd [1] w w' ∧ gI w' 1 5 = B.cn 2 + nI (mxn B s n)) n (by rw [fu4]; omega) ?_ ?_ ⟨hC, Kd.rf, rfl, rfl⟩
  · rintro k hk u a b ⟨h1, h2, rfl, rfl⟩
    have hok := mxB_ok hB s k
    have hsm := mxB_s B s k
    have hml := mxs_lt s hs k
    have ht := mxt_lt hB s k
    have e1 : jrem ((73 : Int32) * nI (mxs s k) + 41) 1000 = nI (mxs s (k + 1)) := by
      rw [L73, pk_mul, L41, ofs, L1000, jrem_nI (by omega) (by decide) (by decide)]
      rfl
    have e2 : jrem (nI (mxs s (k + 1))) (nI (2 * (B.r + B.c))) = nI (mxt B s k) := by
      have := mxs_lt s hs (k + 1)
      rw [jrem_nI (by omega) (by omega) (by omega)]
      rfl
    have e3 : F_X0_canTurn u (nI (mxt B s k)) = some (bI (!B.bar (mxt B s k / 2))) := by
      rw [c_canTurn hok h1 (by omega), hsm.2.2.2]
    have estep : ∀ K, B_X0_mix_11 (nI n) (nI (2 * (B.r + B.c))) K u (nI (mxs s k)) (nI k) = if (!B.bar (mxt B s k / 2)) = true then (F_X0_makeTurn u (nI (mxt B s k))).bind (fun q4 => K q4 (nI (mxs s (k + 1))) (nI k + 1)) else K u (nI (mxs s (k + 1))) (nI k + 1) := by
      intro K
      unfold B_X0_mix_11 B_X0_mix_34 B_X0_mix_55
      rw [if_neg (nI_ge hk (by omega)), if_neg (nI_nle (by omega) (by omega)), e1, e2, jchk_pos (nI_ne0 (by omega) (by omega)), e3, Option.bind_some, itb0]
    by_cases hb : B.bar (mxt B s k / 2) = true
    · refine Or.inl ⟨u, nI (mxs s (k + 1)), nI (k + 1), ⟨?_, h2, rfl, rfl⟩, fun K => ?_⟩
      · unfold mxB
        rw [if_pos hb]
        exact h1
      · rw [estep, hb, if_neg (by decide), nI_succ]
    · rw [Bool.not_eq_true] at hb
      obtain ⟨u2, g1, g2, g3⟩ := c_makeTurn hok h1 (t := mxt B s k) (by rw [hsm.1, hsm.2.1]; exact ht)
      refine Or.inl ⟨u2, nI (mxs s (k + 1)), nI (k + 1), ⟨?_, h2.tr g3 (fun _ h => h) (fun _ h => h), rfl, rfl⟩, fun K => ?_⟩
      · unfold mxB
        rw [hb, if_neg (by decide)]
        exact g2
      · rw [estep, hb, if_pos (show (!false) = true from rfl), g1, Option.bind_some, nI_succ]
  · rintro u a b ⟨h1, h2, rfl, rfl⟩ K
    have hsm := mxB_s B s n
    have e7 : gI u 1 7 = (mxB B s n).cn 4 := h1.2.2.2.2.2 4 (by decide) (by decide)
    have hc := h1.setC (i := 4) (v := (mxB B s n).cn 4 + 1) (by decide) (by decide)
    rw [hsm.1, hsm.2.1, hsm.2.2.1, hsm.2.2.2] at hc
    refine ⟨pI u 1 7 ((mxB B s n).cn 4 + 1), ?_, hc, h2.tr (Kd.pI (D := [1]) (by decide)) (fun _ h => h) (fun _ h => h), ?_⟩
    · unfold B_X0_mix_11 B_X0_mix_61
      rw [if_pos (nI_le (Nat.le_refl _) (by omega)), e7]
    · rw [gI_pI, if_neg (by omega), ← hcn n]
      exact h1.2.2.2.2.2 2 (by decide) (by decide)
theorem bar_x : ∀ N, N < 64 → ∀ l, l < 6 → (nI N) ^^^ (jshl (1 : Int32) (nI l)) = nI (N ^^^ 2 ^ l) ∧ N ^^^ 2 ^ l < 64 := by decide +kernel
theorem c_barX (hB : B.ok) (hC : CB w 1 B) {l : Nat} (hl : l < 6) : CB (pI w 1 4 ((gI w 1 4) ^^^ (jshl (1 : Int32) (nI l)))) 1 (barB B l) := by
  obtain ⟨h1, h2, h3, h4, ⟨N, h5, h6, h7⟩, h8⟩ := hC
  have hx := bar_x N h5 l hl
  refine ⟨?_, ?_, h3, h4, ⟨N ^^^ 2 ^ l, hx.2, ?_, fun j hj => ?_⟩, fun i a b => ?_⟩
  · rw [gI_pI, if_neg (by omega)]
    exact h1
  · rw [gI_pI, if_neg (by omega)]
    exact h2
  · rw [pI_same, h6, hx.1]
  · show _ = if j = l then !B.bar j else B.bar j
    rw [Nat.testBit_xor, Nat.testBit_two_pow, h7 j hj]
    by_cases e : j = l
    · rw [if_pos e, e, decide_eq_true rfl, Bool.xor_true]
    · rw [if_neg e, decide_eq_false (fun q => e q.symm), Bool.xor_false]
  · rw [gI_pI, if_neg (by omega)]
    exact h8 i a b
theorem co_board {r c : Nat} (hC : CB w 1 B) (hr : r = 2 ∨ r = 3) (hc : c = 2 ∨ c = 3) : ∃ w', F_X5_carryOut w 98 (nI r) (nI c) = some w' ∧ CB w' 1 (layB B r c) ∧ Kd [1] w w' := by
  obtain ⟨w1, h1, h2, h3⟩ := c_lay hC hr hc
  have e9 : gI w1 1 9 = B.cn 6 := h2.2.2.2.2.2 6 (by decide) (by decide)
  refine ⟨pI w1 1 9 (B.cn 6 + 1), ?_, h2.setC (i := 6) (by decide) (by decide), h3.tr (Kd.pI (D := [1]) (by decide)) (fun _ h => h) (fun _ h => h)⟩
  unfold F_X5_carryOut
  rw [if_pos rfl, h1, Option.bind_some, e9]
theorem co_goal (hB : B.ok) (hC : CB w 1 B) {p v : Nat} (hp : p < B.n) (hv : v < 13) : ∃ w', F_X5_carryOut w 103 (nI p) (nI v) = some w' ∧ CB w' 1 (goalB B p v) ∧ Kd [1] w w' := by
  have hd := dims hB
  refine ⟨pL w 1 3 (F_X5_withCode (gL w 1 3) (nI p) (nI v)), ?_, hC.setG (fun q hq => ?_), Kd.pL (by decide)⟩
  · unfold F_X5_carryOut
    rw [if_neg (by decide), if_neg (by decide), if_neg (by decide), if_neg (by decide), if_neg (by decide), if_pos rfl]
  · rw [withCode_nib (by omega) (by omega) (by omega), hC.2.2.2.1 q hq]
    rfl
theorem co_put (hB : B.ok) (hC : CB w 1 B) {p v : Nat} (hp : p < B.n) (hv : v < 12) : ∃ w', F_X5_carryOut w 112 (nI p) (nI v) = some w' ∧ CB w' 1 (putB B p v) ∧ Kd [1] w w' := by
  have hd := dims hB
  refine ⟨pL w 1 2 (F_X5_withCode (gL w 1 2) (nI p) (nI v)), ?_, hC.setL (fun q hq => ?_), Kd.pL (by decide)⟩
  · unfold F_X5_carryOut
    rw [if_neg (by decide), if_neg (by decide), if_neg (by decide), if_neg (by decide), if_neg (by decide), if_neg (by decide), if_neg (by decide), if_neg (by decide), if_neg (by decide), if_neg (by decide), if_neg (by decide), if_neg (by decide), if_neg (by decide), if_neg (by decide), if_pos rfl]
  · rw [withCode_nib (by omega) (by omega) (by omega), hC.2.2.1 q hq]
    rfl
theorem co_scramble (hB : B.ok) (hC : CB w 1 B) {s n : Nat} (hs : s < 1000) (hn : n < 10) : ∃ w', F_X5_carryOut w 114 (nI s) (nI n) = some w' ∧ CB w' 1 (mixB B s n) ∧ Kd [1] w w' ∧ gI w' 1 5 = B.cn 2 + nI (mxn B s n) := by
  obtain ⟨w', h1, h2, h3, h4⟩ := c_mix hB hC hs hn
  refine ⟨w', ?_, h2, h3, h4⟩
  unfold F_X5_carryOut
  rw [if_neg (by decide), if_neg (by decide), if_neg (by decide), if_neg (by decide), if_neg (by decide), if_neg (by decide), if_neg (by decide), if_neg (by decide), if_neg (by decide), if_neg (by decide), if_neg (by decide), if_neg (by decide), if_neg (by decide), if_neg (by decide), if_neg (by decide), if_neg (by decide), if_pos rfl, h1, Option.bind_some]
theorem co_swap (hB : B.ok) (hC : CB w 1 B) {a b : Nat} (ha : a < B.n) (hb : b < B.n) : ∃ w', F_X5_carryOut w 115 (nI a) (nI b) = some w' ∧ CB w' 1 (swapB B a b) ∧ Kd [1] w w' := by
  obtain ⟨w', h1, h2, h3⟩ := c_exchange hB hC ha hb
  refine ⟨w', ?_, h2, h3⟩
  unfold F_X5_carryOut
  rw [if_neg (by decide), if_neg (by decide), if_neg (by decide), if_neg (by decide), if_neg (by decide), if_neg (by decide), if_neg (by decide), if_neg (by decide), if_neg (by decide), if_neg (by decide), if_neg (by decide), if_neg (by decide), if_neg (by decide), if_neg (by decide), if_neg (by decide), if_neg (by decide), if_neg (by decide), if_pos rfl, h1, Option.bind_some]
theorem co_turn (hB : B.ok) (hC : CB w 1 B) {t : Nat} (ht : t < 2 * (B.r + B.c)) (x3 : Int32) : ∃ w', F_X5_carryOut w 116 (nI t) x3 = some w' ∧ CB w' 1 (handT B t) ∧ Kd [1] w w' := by
  obtain ⟨w', h1, h2, h3⟩ := c_turnToGoal hB hC ht
  refine ⟨w', ?_, h2, h3⟩
  unfold F_X5_carryOut
  rw [if_neg (by decide), if_neg (by decide), if_neg (by decide), if_neg (by decide), if_neg (by decide), if_neg (by decide), if_neg (by decide), if_neg (by decide), if_neg (by decide), if_neg (by decide), if_neg (by decide), if_neg (by decide), if_neg (by decide), if_neg (by decide), if_neg (by decide), if_neg (by decide), if_neg (by decide), if_neg (by decide), if_pos rfl, h1, Option.bind_some]
theorem co_bar (hB : B.ok) (hC : CB w 1 B) {l : Nat} (hl : l < 6) (x3 : Int32) : ∃ w', F_X5_carryOut w 120 (nI l) x3 = some w' ∧ CB w' 1 (barB B l) ∧ Kd [1] w w' := by
  refine ⟨pI w 1 4 ((gI w 1 4) ^^^ (jshl (1 : Int32) (nI l))), ?_, c_barX hB hC hl, Kd.pI (by decide)⟩
  unfold F_X5_carryOut
  rw [if_neg (by decide), if_neg (by decide), if_neg (by decide), if_neg (by decide), if_neg (by decide), if_neg (by decide), if_neg (by decide), if_neg (by decide), if_neg (by decide), if_neg (by decide), if_neg (by decide), if_neg (by decide), if_neg (by decide), if_neg (by decide), if_neg (by decide), if_neg (by decide), if_neg (by decide), if_neg (by decide), if_neg (by decide), if_neg (by decide), if_neg (by decide), if_neg (by decide), if_pos rfl]
end CAc
