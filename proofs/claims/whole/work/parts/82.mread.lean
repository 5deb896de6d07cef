/-! AN ORDER READ BY THE REFERENCE -/
def MS (tl : Nat) (cn : Nat → Nat) (u : Wo) (a : Nat) (g : Bool) : Prop := gI u 26 7 = nI tl ∧ gI u 26 18 = nI a ∧ gI u 26 19 = bI g ∧ ∀ i, i < tl → gI u 31 i = nI (cn i)
section RDM
variable {tl : Nat} {cn : Nat → Nat} {u : Wo} {a : Nat} {g : Bool}
theorem MS.sp (h : MS tl cn u a g) {a' : Nat} : MS tl cn (pI u 26 18 (nI a')) a' g := ⟨by rw [gI_pI, if_neg (by omega)]; exact h.1, pI_same, by rw [gI_pI, if_neg (by omega)]; exact h.2.2.1, fun i hi => by rw [gI_pI, if_neg (by omega)]; exact h.2.2.2 i hi⟩
theorem MS.wr (h : MS tl cn u a g) {g' : Bool} : MS tl cn (pI u 26 19 (bI g')) a g' := ⟨by rw [gI_pI, if_neg (by omega)]; exact h.1, by rw [gI_pI, if_neg (by omega)]; exact h.2.1, pI_same, fun i hi => by rw [gI_pI, if_neg (by omega)]; exact h.2.2.2 i hi⟩
theorem MS.told (h : MS tl cn u a g) {i : Nat} {v : Int32} : MS tl cn (pI u 35 i v) a g := ⟨by rw [gI_pI, if_neg (by omega)]; exact h.1, by rw [gI_pI, if_neg (by omega)]; exact h.2.1, by rw [gI_pI, if_neg (by omega)]; exact h.2.2.1, fun j hj => by rw [gI_pI, if_neg (by omega)]; exact h.2.2.2 j hj⟩
def hrI (tl : Nat) (cn : Nat → Nat) (a : Nat) : Int32 := if a < tl then nI (cn a) else -1
theorem m_here (hT : Txt tl cn) (h : MS tl cn u a g) (ha : a < 1000) : F_X6_here u = some (hrI tl cn a) := by
  have h60 := hT.1
  unfold F_X6_here hrI
  rw [h.1, h.2.1, itle (by omega) (by omega)]
  by_cases hl : a < tl
  · rw [if_neg (by omega), if_pos hl, jchk_n0 (by omega) (by omega), nI_clamp (by omega), h.2.2.2 a hl]
  · rw [if_pos (by omega), if_neg hl]
theorem in_dig (hT : Txt tl cn) : F_X6_in (hrI tl cn a) 48 57 = bI (isd tl cn a) := by
  unfold F_X6_in hrI isd
  by_cases hl : a < tl
  · have hc := hT.2 a hl
    rw [if_pos hl, decide_eq_true hl, Bool.true_and, L48, show (57 : Int32) = nI 57 from rfl, itlt (by omega) (by omega), itlt (by omega) (by omega)]
    by_cases h1 : cn a < 48
    · rw [if_pos h1, decide_eq_false (show ¬ 48 ≤ cn a by omega)]
      rfl
    · rw [if_neg h1, decide_eq_true (show 48 ≤ cn a by omega), Bool.true_and]
      by_cases h2 : 57 < cn a
      · rw [if_pos h2, decide_eq_false (show ¬ cn a ≤ 57 by omega)]
        rfl
      · rw [if_neg h2, decide_eq_true (show cn a ≤ 57 by omega)]
        rfl
  · rw [if_neg hl, decide_eq_false hl, if_pos (by decide)]
    rfl
theorem m_figs (hT : Txt tl cn) (M : Nat) (hM : M < 10) : ∀ (m : Nat) (u : Wo) (v a F : Nat), m ≤ M → a + m < 990 → m < F → MS tl cn u a false → ∃ u', jl3 (B_X6_figures_34 (nI M)) F u (nI v) (nI (M - m)) = some (nI (fg tl cn m v a).1, u') ∧ MS tl cn u' (fg tl cn m v a).2 false ∧ Kf [] [18] u u'
  | 0, u, v, a, F + 1, _, _, _, h => by
    refine ⟨u, ?_, h, Kf.rf⟩
    show B_X6_figures_34 (nI M) _ u (nI v) (nI (M - 0)) = _
    rw [B_X6_figures_34, h.2.2.1, if_pos (show bI false = 0 from rfl), if_pos (nI_le (by omega) (by omega))]
    rfl
  | m + 1, u, v, a, F + 1, hm, ha, hF, h => by
    show ∃ u', B_X6_figures_34 (nI M) (jl3 (B_X6_figures_34 (nI M)) F) u (nI v) (nI (M - (m + 1))) = _ ∧ _
    rw [B_X6_figures_34, h.2.2.1, if_pos (show bI false = 0 from rfl), if_neg (nI_ge (by omega) (by omega)), m_here hT h (by omega), Option.bind_some, in_dig hT, itb0, Option.bind_some]
    unfold fg
    by_cases hd : isd tl cn a = true
    · have h1 := isd_iff.mp hd
      rw [if_pos hd, if_pos hd]
      have eh : hrI tl cn a = nI (cn a) := by unfold hrI; rw [if_pos h1.1]
      have ev : ((10 : Int32) * nI v + nI (cn a)) - 48 = nI (10 * v + (cn a - 48)) := by
        rw [L10, pk_mul, ofs, L48, pk_sub (by omega)]
        congr 1
        omega
      obtain ⟨u2, k1, k2, k3⟩ := m_figs hT M hM m (pI u 26 18 (nI (a + 1))) (10 * v + (cn a - 48)) (a + 1) F (by omega) (by omega) (by omega) h.sp
      refine ⟨u2, ?_, k2, (Kf.p26 (D := []) (F := [18]) (by decide)).tr k3 (fun _ h => h) (fun _ h => h) (fun _ h => h) (fun _ h => h)⟩
      rw [eh, ev, B_X6_figures_73, B_X6_figures_83, h.2.1, nI_1, nI_1, show M - (m + 1) + 1 = M - m by omega]
      exact k1
    · rw [if_neg hd, if_neg hd]
      exact ⟨u, rfl, h, Kf.rf⟩
theorem m_figW (h : MS tl cn u a true) (x : Int32) : ∃ u', F_X6_figures u x = some (0, u') ∧ MS tl cn u' a true ∧ Kf [] [18, 19] u u' := by
  refine ⟨pI u 26 19 (bI true), ?_, h.wr, Kf.p26 (by decide)⟩
  unfold F_X6_figures B_X6_figures_22 B_X6_figures_27 B_X6_figures_30
  rw [h.2.2.1, if_neg (show ¬ bI true = 0 by decide), jchk_pos (Or.inr rfl)]
  show B_X6_figures_34 x _ (pI u 26 19 1) 0 0 = _
  rw [B_X6_figures_34, pI_same, if_neg (by decide)]
  rfl
theorem m_figures (hT : Txt tl cn) (h : MS tl cn u a false) {M : Nat} (hM : M < 10) (ha : a < 900) : ∃ v u', F_X6_figures u (nI M) = some (v, u') ∧ Kf [] [18, 19] u u' ∧ (if isd tl cn a then v = nI (fg tl cn M 0 a).1 ∧ MS tl cn u' (fg tl cn M 0 a).2 false else v = 0 ∧ MS tl cn u' a true) := by
  unfold F_X6_figures B_X6_figures_22 B_X6_figures_27 B_X6_figures_30
  rw [h.2.2.1, if_pos (show bI false = 0 from rfl), m_here hT h (by omega), Option.bind_some, in_dig hT, itb0]
  by_cases hd : isd tl cn a = true
  · rw [if_pos hd, jchk_pos (Or.inl rfl)]
    obtain ⟨u2, k1, k2, k3⟩ := m_figs hT M hM M (pI u 26 19 (bI false)) 0 a fu (Nat.le_refl _) (by omega) (by rw [fu4]; omega) h.wr
    rw [Nat.sub_self] at k1
    exact ⟨_, u2, k1, (Kf.p26 (D := []) (F := [19]) (by decide)).tr k3 (by decide) (by decide) (by decide) (by decide), by rw [if_pos hd]; exact ⟨rfl, k2⟩⟩
  · rw [if_neg hd, jchk_pos (Or.inr rfl)]
    refine ⟨0, pI u 26 19 (bI true), ?_, Kf.p26 (by decide), by rw [if_neg hd]; exact ⟨rfl, h.wr⟩⟩
    show B_X6_figures_34 (nI M) _ (pI u 26 19 1) 0 0 = _
    rw [B_X6_figures_34, pI_same, if_neg (by decide)]
    rfl
theorem m_needs (hT : Txt tl cn) (h : MS tl cn u a g) (ha : a < 900) : ∃ u', F_X6_needs u 47 = some u' ∧ Kf [] [18, 19] u u' ∧ (if g = false ∧ sl tl cn 47 a = true then MS tl cn u' (a + 1) false else MS tl cn u' a true) := by
  have key : ∀ b : Bool, ∃ u', B_X6_needs_21 u (bI b) = some u' ∧ Kf [] [18, 19] u u' ∧ (if b then MS tl cn u' a true else MS tl cn u' (a + 1) false) := by
    intro b
    have e18 : gI (pI u 26 19 (bI b)) 26 18 = nI a := by rw [gI_pI, if_neg (by omega)]; exact h.2.1
    unfold B_X6_needs_21 B_X6_needs_24 B_X6_needs_41
    rw [jchk_pos (bI_or b), pI_same, itb0, e18]
    have kf : ∀ v, Kf [] [18, 19] u (pI (pI u 26 19 (bI b)) 26 18 v) := fun v => (Kf.p26 (D := []) (F := [19]) (by decide)).tr (Kf.p26 (D := []) (F := [18]) (by decide)) (by decide) (by decide) (by decide) (by decide)
    cases b with
    | true =>
      rw [if_pos rfl]
      refine ⟨_, rfl, kf _, ?_⟩
      rw [if_pos rfl, show nI a + 0 = nI a from Int32.add_zero _]
      exact (MS.wr (g' := true) h).sp
    | false =>
      rw [if_neg (by decide), nI_1]
      refine ⟨_, rfl, kf _, ?_⟩
      rw [if_neg (by decide)]
      exact (MS.wr (g' := false) h).sp
  unfold F_X6_needs B_X6_needs_16
  rw [h.2.2.1, itb0]
  cases g with
  | true =>
    rw [if_pos rfl]
    obtain ⟨u', k1, k2, k3⟩ := key true
    refine ⟨u', k1, k2, ?_⟩
    rw [if_neg (fun q : true = false ∧ sl tl cn 47 a = true => by cases q.1)]
    exact k3
  | false =>
    rw [if_neg (by decide), m_here hT h (by omega), Option.bind_some]
    have e : hrI tl cn a = 47 ↔ sl tl cn 47 a = true := by
      unfold hrI sl
      by_cases hl : a < tl
      · have hc := hT.2 a hl
        rw [if_pos hl, decide_eq_true hl, Bool.true_and, L47, nI_eq (by omega) (by omega), decide_eq_true_iff]
      · rw [if_neg hl, decide_eq_false hl]
        constructor
        · intro q
          exact absurd q (by decide)
        · intro q
          cases q
    by_cases hs : sl tl cn 47 a = true
    · rw [if_pos (e.mpr hs)]
      obtain ⟨u', k1, k2, k3⟩ := key false
      refine ⟨u', k1, k2, ?_⟩
      rw [if_pos ⟨rfl, hs⟩]
      exact k3
    · rw [if_neg (fun q => hs (e.mp q))]
      obtain ⟨u', k1, k2, k3⟩ := key true
      refine ⟨u', k1, k2, ?_⟩
      rw [if_neg (fun q : false = false ∧ sl tl cn 47 a = true => hs q.2)]
      exact k3
theorem letter_n {c : Nat} (hc : c < 65536) : F_X6_isLetter (nI c) = bI (decide (97 ≤ c) && decide (c ≤ 108)) := by
  unfold F_X6_isLetter F_X6_in
  rw [L97, L108, itlt (by omega) (by omega), itlt (by omega) (by omega)]
  by_cases h1 : c < 97
  · rw [if_pos h1, decide_eq_false (show ¬ 97 ≤ c by omega)]
    rfl
  · rw [if_neg h1, decide_eq_true (show 97 ≤ c by omega), Bool.true_and]
    by_cases h2 : 108 < c
    · rw [if_pos h2, decide_eq_false (show ¬ c ≤ 108 by omega)]
      rfl
    · rw [if_neg h2, decide_eq_true (show c ≤ 108 by omega)]
      rfl
theorem m_rsign (hT : Txt tl cn) (h : MS tl cn u a g) (ha : a < 900) (pt : Bool) : ∃ u', F_X6_readsSign u (bI pt) = some (hrI tl cn a, u') ∧ Kf [] [18, 19] u u' ∧ (if g = false ∧ lc tl cn pt a = true then MS tl cn u' (a + 1) false else MS tl cn u' a true) := by
  have key : ∀ b : Bool, ∃ u', B_X6_readsSign_35 u (hrI tl cn a) (bI b) = some (hrI tl cn a, u') ∧ Kf [] [18, 19] u u' ∧ (if b then MS tl cn u' a true else MS tl cn u' (a + 1) false) := by
    intro b
    have e18 : gI (pI u 26 19 (bI b)) 26 18 = nI a := by rw [gI_pI, if_neg (by omega)]; exact h.2.1
    unfold B_X6_readsSign_35 B_X6_readsSign_38 B_X6_readsSign_55 B_X6_readsSign_59
    rw [jchk_pos (bI_or b), pI_same, itb0, e18]
    have kf : ∀ v, Kf [] [18, 19] u (pI (pI u 26 19 (bI b)) 26 18 v) := fun v => (Kf.p26 (D := []) (F := [19]) (by decide)).tr (Kf.p26 (D := []) (F := [18]) (by decide)) (by decide) (by decide) (by decide) (by decide)
    cases b with
    | true =>
      rw [if_pos rfl]
      refine ⟨_, rfl, kf _, ?_⟩
      rw [if_pos rfl, show nI a + 0 = nI a from Int32.add_zero _]
      exact (MS.wr (g' := true) h).sp
    | false =>
      rw [if_neg (by decide), nI_1]
      refine ⟨_, rfl, kf _, ?_⟩
      rw [if_neg (by decide)]
      exact (MS.wr (g' := false) h).sp
  unfold F_X6_readsSign B_X6_readsSign_30 B_X6_readsSign_34
  rw [m_here hT h (by omega), Option.bind_some, h.2.2.1, itb0]
  cases g with
  | true =>
    rw [if_pos rfl]
    obtain ⟨u', k1, k2, k3⟩ := key true
    refine ⟨u', k1, k2, ?_⟩
    rw [if_neg (fun q : true = false ∧ lc tl cn pt a = true => by cases q.1)]
    exact k3
  | false =>
    rw [if_neg (by decide)]
    have e : (if F_X6_isLetter (hrI tl cn a) = 0 then (if bI pt = 0 then B_X6_readsSign_35 u (hrI tl cn a) 1 else if hrI tl cn a = 46 then B_X6_readsSign_35 u (hrI tl cn a) 0 else B_X6_readsSign_35 u (hrI tl cn a) 1) else B_X6_readsSign_35 u (hrI tl cn a) 0) = B_X6_readsSign_35 u (hrI tl cn a) (bI (!lc tl cn pt a)) := by
      unfold hrI lc
      by_cases hl : a < tl
      · have hc := hT.2 a hl
        rw [if_pos hl, decide_eq_true hl, Bool.true_and, letter_n hc, itb0, itb0, L46, iteq (by omega) (by omega)]
        by_cases hr : (decide (97 ≤ cn a) && decide (cn a ≤ 108)) = true
        · rw [if_pos hr, hr]
          rfl
        · rw [if_neg hr]
          rw [Bool.not_eq_true] at hr
          rw [hr, Bool.false_or]
          by_cases h46 : cn a = 46
          · rw [if_pos h46, decide_eq_true h46]
            cases pt <;> rfl
          · rw [if_neg h46, decide_eq_false h46]
            cases pt <;> rfl
      · rw [if_neg hl, decide_eq_false hl, if_pos (by decide), if_neg (show ¬ (-1 : Int32) = 46 by decide)]
        cases pt <;> rfl
    rw [e]
    cases hs : lc tl cn pt a with
    | true =>
      obtain ⟨u', k1, k2, k3⟩ := key false
      refine ⟨u', k1, k2, ?_⟩
      rw [if_pos ⟨rfl, rfl⟩]
      exact k3
    | false =>
      obtain ⟨u', k1, k2, k3⟩ := key true
      refine ⟨u', k1, k2, ?_⟩
      rw [if_neg (fun q : false = false ∧ false = true => by cases q.2)]
      exact k3
/-- what the reference has behind an order -/
def OM (tl : Nat) (cn : Nat → Nat) (u : Wo) (n : Nat) : Nat ⊕ (Nat × Nat × Nat × Nat × Nat) → Prop
  | .inl e => MS tl cn u e true
  | .inr q => MS tl cn u q.1 false ∧ gI u 35 (3 * n) = nI q.2.1 ∧ gI u 35 (3 * n + 1) = nI q.2.2.1 ∧ ((q.2.1 = 112 ∨ q.2.1 = 103) → gI u 35 (3 * n + 2) = nI q.2.2.2.2) ∧ ((q.2.1 = 98 ∨ q.2.1 = 115 ∨ q.2.1 = 114) → gI u 35 (3 * n + 2) = nI q.2.2.2.1)
/-- only what is told of this order changes -/
def Kt (n : Nat) (u u' : Wo) : Prop := Kf [35] [18, 19] u u' ∧ ∀ i, i < 3 * n → gI u' 35 i = gI u 35 i
theorem Kt.k {n : Nat} {u u' : Wo} (h : Kf [] [18, 19] u u') : Kt n u u' := ⟨h.mono (by decide) (fun _ h => h), fun i _ => h.1 35 i (by decide) (fun e => absurd e (by decide))⟩
theorem Kt.p {n i : Nat} {u : Wo} {v : Int32} (h : 3 * n ≤ i) : Kt n u (pI u 35 i v) := ⟨Kf.pI (by decide), fun j hj => by rw [gI_pI, if_neg (by omega)]⟩
theorem Kt.tr {n : Nat} {u u' u2 : Wo} (h : Kt n u u') (h2 : Kt n u' u2) : Kt n u u2 := ⟨h.1.tr h2.1 (fun _ h => h) (fun _ h => h) (fun _ h => h) (fun _ h => h), fun i hi => (h2.2 i hi).trans (h.2 i hi)⟩
theorem m_t2 {n : Nat} (hn : n < 50) {q : Int32 × Wo} : jchk (¬ ((nI (3 * n) + (2 : Int32)) < 0 ∨ 180 ≤ Int32.toNatClampNeg (nI (3 * n) + (2 : Int32)))) (some ((pI q.2 35 (Int32.toNatClampNeg (nI (3 * n) + (2 : Int32))) q.1))) = some (pI q.2 35 (3 * n + 2) q.1) := by
  rw [show nI (3 * n) + (2 : Int32) = nI (3 * n + 2) from nI_add _ 2, jchk_n0 (by omega) (by omega), nI_clamp (by omega)]
theorem m_141 (hT : Txt tl cn) {n k v : Nat} (hn : n < 50) (hk : k = 98 ∨ k = 115 ∨ k = 114) (h : MS tl cn u a g) (ha : a < 899) (h0 : gI u 35 (3 * n) = nI k) (h1 : gI u 35 (3 * n + 1) = nI v) : ∃ u', B_X6_readsOrder_141 u (nI (3 * n)) = some u' ∧ Kt n u u' ∧ OM tl cn u' n (if g then .inl a else rd2 tl cn k v a) := by
  unfold B_X6_readsOrder_141
  have er : rd2 tl cn k v a = if isd tl cn a then .inr (a + 1, k, v, cn a - 48, 0) else .inl a := by
    unfold rd2
    rw [if_neg (by omega), if_neg (by omega), if_neg (by omega)]
  cases g with
  | true =>
    obtain ⟨u1, k1, k2, k3⟩ := m_figW h 1
    rw [k1, Option.bind_some, m_t2 hn, if_pos rfl]
    exact ⟨_, rfl, (Kt.k k3).tr (Kt.p (by omega)), k2.told⟩
  | false =>
    obtain ⟨v1, u1, k1, k2, k3⟩ := m_figures hT h (M := 1) (by omega) (by omega)
    rw [show F_X6_figures u 1 = _ from k1, Option.bind_some, m_t2 hn, if_neg (by decide), er]
    refine ⟨_, rfl, (Kt.k k2).tr (Kt.p (by omega)), ?_⟩
    by_cases hd : isd tl cn a = true
    · rw [if_pos hd] at k3 ⊢
      have hd1 := isd_iff.mp hd
      have ef : fg tl cn 1 0 a = (cn a - 48, a + 1) := by
        rw [fg, hd, if_pos rfl, fg, Nat.mul_zero, Nat.zero_add]
      rw [ef] at k3
      have e : ∀ i, gI u1 35 i = gI u 35 i := fun i => k2.1 35 i (by decide) (fun e => absurd e (by decide))
      refine ⟨k3.2.told, ?_, ?_, fun q => ?_, fun _ => ?_⟩
      · rw [gI_pI, if_neg (by omega), e]; exact h0
      · rw [gI_pI, if_neg (by omega), e]; exact h1
      · have q : k = 112 ∨ k = 103 := q
        omega
      · rw [pI_same]
        exact k3.1
    · rw [if_neg hd] at k3 ⊢
      exact k3.2.told
theorem j189 {n : Nat} (hn : n < 50) : (fun q9 : Int32 × Wo => jchk (¬ (nI (3 * n + 2) < 0 ∨ 180 ≤ Int32.toNatClampNeg (nI (3 * n + 2)))) (some ((pI q9.2 35 (Int32.toNatClampNeg (nI (3 * n + 2))) q9.1)))) = fun q9 => some (pI q9.2 35 (3 * n + 2) q9.1) := by
  funext q9
  rw [jchk_n0 (by omega) (by omega), nI_clamp (by omega)]
theorem m_189 (hT : Txt tl cn) {n k v : Nat} (hn : n < 50) (hk : k = 112 ∨ k = 103) (h : MS tl cn u a g) (ha : a < 899) (h0 : gI u 35 (3 * n) = nI k) (h1 : gI u 35 (3 * n + 1) = nI v) : ∃ u', B_X6_readsOrder_170 u (nI (3 * n)) (nI k) = some u' ∧ Kt n u u' ∧ OM tl cn u' n (if g then .inl a else rd2 tl cn k v a) := by
  have er : rd2 tl cn k v a = if lc tl cn (decide (k = 103)) a then .inr (a + 1, k, v, lcv cn a, cn a) else .inl a := by
    unfold rd2
    rw [if_neg (by omega)]
    rcases hk with rfl | rfl
    · rw [if_pos rfl]
      rfl
    · rw [if_neg (by omega), if_pos rfl]
      rfl
  have e170 : B_X6_readsOrder_170 u (nI (3 * n)) (nI k) = (F_X6_readsSign u (bI (decide (k = 103)))).bind fun q9 => some (pI q9.2 35 (3 * n + 2) q9.1) := by
    unfold B_X6_readsOrder_170 B_X6_readsOrder_189
    rw [show (103 : Int32) = nI 103 from rfl, iteq (by omega) (by omega), show nI (3 * n) + (2 : Int32) = nI (3 * n + 2) from nI_add _ 2, j189 hn]
    rcases hk with rfl | rfl
    · rw [if_neg (by omega)]
      rfl
    · rw [if_pos rfl]
      rfl
  obtain ⟨u1, k1, k2, k3⟩ := m_rsign hT h (by omega) (decide (k = 103))
  rw [e170, k1, Option.bind_some]
  refine ⟨_, rfl, (Kt.k k2).tr (Kt.p (by omega)), ?_⟩
  cases g with
  | true =>
    rw [if_neg (fun q => by cases q.1)] at k3
    rw [if_pos rfl]
    exact k3.told
  | false =>
    rw [if_neg (show ¬ (false = true) by decide), er]
    by_cases hl : lc tl cn (decide (k = 103)) a = true
    · rw [if_pos ⟨rfl, hl⟩] at k3
      rw [if_pos hl]
      have hlt : a < tl := by
        unfold lc at hl
        rw [Bool.and_eq_true] at hl
        exact of_decide_eq_true hl.1
      have e : ∀ i, gI u1 35 i = gI u 35 i := fun i => k2.1 35 i (by decide) (fun e => absurd e (by decide))
      refine ⟨k3.told, ?_, ?_, fun _ => ?_, fun q => ?_⟩
      · rw [gI_pI, if_neg (by omega), e]; exact h0
      · rw [gI_pI, if_neg (by omega), e]; exact h1
      · rw [pI_same]
        unfold hrI
        rw [if_pos hlt]
      · have q : k = 98 ∨ k = 115 ∨ k = 114 := q
        omega
    · rw [if_neg (fun q => hl q.2)] at k3
      rw [if_neg hl]
      exact k3.told
/-- behind the first number -/
theorem m_rest (hT : Txt tl cn) {n k : Nat} (hn : n < 50) (hk : isK k = true) {rest : Wo → Option Wo}
    (hr : (k = 98 ∨ k = 115) ∧ rest = (fun w => B_X6_readsOrder_141 w (nI (3 * n))) ∨ (k = 112 ∨ k = 103) ∧ rest = (fun w => B_X6_readsOrder_170 w (nI (3 * n)) (nI k)) ∨ k = 114 ∧ rest = (fun w => B_X6_readsOrder_241 w (nI (3 * n))) ∨ (k = 116 ∨ k = 120) ∧ rest = fun w => some w)
    (h : MS tl cn u a false) (ha : a < 800) (h0 : gI u 35 (3 * n) = nI k) : ∃ u', ((F_X6_figures u (nI (fm k))).bind fun q3 => rest (pI q3.2 35 (3 * n + 1) q3.1)) = some u' ∧ Kt n u u' ∧ OM tl cn u' n (if isd tl cn a then rdo tl cn k (fg tl cn (fm k) 0 a).1 (fg tl cn (fm k) 0 a).2 else .inl a) := by
  have hfm : fm k < 10 := by unfold fm; split <;> omega
  obtain ⟨v, u1, k1, k2, k3⟩ := m_figures hT h hfm (by omega)
  rw [k1, Option.bind_some]
  have hfl := fg_le (tl := tl) (cn := cn) (fm k) 0 a
  have ht60 := hT.1
  have hq : ∃ g b vn, MS tl cn u1 b g ∧ b < 850 ∧ v = nI vn ∧ (if isd tl cn a then rdo tl cn k (fg tl cn (fm k) 0 a).1 (fg tl cn (fm k) 0 a).2 else .inl a) = if g then .inl b else rdo tl cn k vn b := by
    by_cases hd : isd tl cn a = true
    · rw [if_pos hd] at k3 ⊢
      have hd1 := isd_iff.mp hd
      have := hfl.2 (by omega)
      exact ⟨false, _, _, k3.2, by omega, k3.1, rfl⟩
    · rw [if_neg hd] at k3 ⊢
      exact ⟨true, a, 0, k3.2, by omega, k3.1, rfl⟩
  obtain ⟨g, b, vn, hM, hb, hv, hres⟩ := hq
  rw [hres]
  have hMt := hM.told (i := 3 * n + 1) (v := v)
  have kt1 : Kt n u (pI u1 35 (3 * n + 1) v) := (Kt.k k2).tr (Kt.p (by omega))
  have t0 : gI (pI u1 35 (3 * n + 1) v) 35 (3 * n) = nI k := by
    rw [gI_pI, if_neg (by omega), k2.1 35 _ (by decide) (fun e => absurd e (by decide))]
    exact h0
  have t1 : gI (pI u1 35 (3 * n + 1) v) 35 (3 * n + 1) = nI vn := by rw [pI_same]; exact hv
  generalize pI u1 35 (3 * n + 1) v = u2 at hMt kt1 t0 t1
  rcases hr with ⟨hk2, rfl⟩ | ⟨hk2, rfl⟩ | ⟨hk2, rfl⟩ | ⟨hk2, rfl⟩
  · have er : rdo tl cn k vn b = rd2 tl cn k vn b := by unfold rdo; rw [if_neg (by omega)]
    rw [er]
    obtain ⟨u3, l1, l2, l3⟩ := m_141 (v := vn) hT hn (show k = 98 ∨ k = 115 ∨ k = 114 by omega) hMt (by omega) t0 t1
    exact ⟨u3, l1, kt1.tr l2, l3⟩
  · have er : rdo tl cn k vn b = rd2 tl cn k vn b := by unfold rdo; rw [if_neg (by omega)]
    rw [er]
    obtain ⟨u3, l1, l2, l3⟩ := m_189 (v := vn) hT hn hk2 hMt (by omega) t0 t1
    exact ⟨u3, l1, kt1.tr l2, l3⟩
  · subst hk2
    have er : rdo tl cn 114 vn b = if sl tl cn 47 b then rd2 tl cn 114 vn (b + 1) else .inl b := rfl
    rw [er]
    obtain ⟨u3, n1, n2, n3⟩ := m_needs hT hMt (by omega)
    have e241 : B_X6_readsOrder_241 u2 (nI (3 * n)) = B_X6_readsOrder_141 u3 (nI (3 * n)) := by
      show ((F_X6_needs u2 47).bind fun q => B_X6_readsOrder_141 q (nI (3 * n))) = _
      rw [n1, Option.bind_some]
    have s0 : gI u3 35 (3 * n) = nI 114 := (n2.1 35 _ (by decide) (fun e => absurd e (by decide))).trans t0
    have s1 : gI u3 35 (3 * n + 1) = nI vn := (n2.1 35 _ (by decide) (fun e => absurd e (by decide))).trans t1
    show ∃ u', B_X6_readsOrder_241 u2 (nI (3 * n)) = some u' ∧ _
    rw [e241]
    by_cases hgs : g = false ∧ sl tl cn 47 b = true
    · rw [if_pos hgs] at n3
      obtain ⟨u4, l1, l2, l3⟩ := m_141 (v := vn) hT hn (show 114 = 98 ∨ 114 = 115 ∨ 114 = 114 by omega) n3 (by omega) s0 s1
      refine ⟨u4, l1, kt1.tr ((Kt.k n2).tr l2), ?_⟩
      rw [hgs.1, hgs.2, if_neg (by decide), if_pos rfl]
      exact l3
    · rw [if_neg hgs] at n3
      obtain ⟨u4, l1, l2, l3⟩ := m_141 (v := vn) hT hn (show 114 = 98 ∨ 114 = 115 ∨ 114 = 114 by omega) n3 (by omega) s0 s1
      refine ⟨u4, l1, kt1.tr ((Kt.k n2).tr l2), ?_⟩
      have e : (if g then Sum.inl b else (if sl tl cn 47 b then rd2 tl cn 114 vn (b + 1) else .inl b)) = (Sum.inl b : Nat ⊕ (Nat × Nat × Nat × Nat × Nat)) := by
        cases g with
        | true => rfl
        | false =>
          rw [if_neg (by decide), if_neg (fun q => hgs ⟨rfl, q⟩)]
      rw [e]
      exact l3
  · refine ⟨u2, rfl, kt1, ?_⟩
    cases g with
    | true => exact hMt
    | false =>
      have er : rdo tl cn k vn b = .inr (b, k, vn, 0, 0) := by
        unfold rdo rd2
        rw [if_neg (by omega), if_pos hk2]
      rw [er, if_neg (by decide)]
      refine ⟨hMt, t0, t1, fun q => ?_, fun q => ?_⟩
      · have q : k = 112 ∨ k = 103 := q
        omega
      · have q : k = 98 ∨ k = 115 ∨ k = 114 := q
        omega
theorem m_dflt {w : Wo} {x1 x2 : Int32} (h1 : x2 ≠ 98) (h2 : x2 ≠ 103) (h3 : x2 ≠ 112) (h4 : x2 ≠ 114) (h5 : x2 ≠ 115) (h6 : x2 ≠ 116) (h7 : x2 ≠ 120) : B_X6_readsOrder_22 w x1 x2 = B_X6_readsOrder_268 (pI w 26 19 1) := by
  unfold B_X6_readsOrder_22
  rw [if_neg h1]
  by_cases g99 : x2 = 99
  · rw [if_pos g99]
  rw [if_neg g99]
  by_cases g100 : x2 = 100
  · rw [if_pos g100]
  rw [if_neg g100]
  by_cases g101 : x2 = 101
  · rw [if_pos g101]
  rw [if_neg g101]
  by_cases g102 : x2 = 102
  · rw [if_pos g102]
  rw [if_neg g102]
  rw [if_neg h2]
  by_cases g104 : x2 = 104
  · rw [if_pos g104]
  rw [if_neg g104]
  by_cases g105 : x2 = 105
  · rw [if_pos g105]
  rw [if_neg g105]
  by_cases g106 : x2 = 106
  · rw [if_pos g106]
  rw [if_neg g106]
  by_cases g107 : x2 = 107
  · rw [if_pos g107]
  rw [if_neg g107]
  by_cases g108 : x2 = 108
  · rw [if_pos g108]
  rw [if_neg g108]
  by_cases g109 : x2 = 109
  · rw [if_pos g109]
  rw [if_neg g109]
  by_cases g110 : x2 = 110
  · rw [if_pos g110]
  rw [if_neg g110]
  by_cases g111 : x2 = 111
  · rw [if_pos g111]
  rw [if_neg g111]
  rw [if_neg h3]
  by_cases g113 : x2 = 113
  · rw [if_pos g113]
  rw [if_neg g113]
  rw [if_neg h4]
  rw [if_neg h5]
  rw [if_neg h6]
  by_cases g117 : x2 = 117
  · rw [if_pos g117]
  rw [if_neg g117]
  by_cases g118 : x2 = 118
  · rw [if_pos g118]
  rw [if_neg g118]
  by_cases g119 : x2 = 119
  · rw [if_pos g119]
  rw [if_neg g119]
  rw [if_neg h7]
theorem j1 {n : Nat} (hn : n < 50) {f : Wo → Int32 → Option Wo} : (fun q3 : Int32 × Wo => jchk (¬ ((nI (3 * n) + (1 : Int32)) < 0 ∨ 180 ≤ Int32.toNatClampNeg (nI (3 * n) + (1 : Int32)))) (f (pI q3.2 35 (Int32.toNatClampNeg (nI (3 * n) + (1 : Int32))) q3.1) (nI (3 * n)))) = fun q3 => f (pI q3.2 35 (3 * n + 1) q3.1) (nI (3 * n)) := by
  funext q3
  rw [nI_1, jchk_n0 (by omega) (by omega), nI_clamp (by omega)]
theorem m_order (hT : Txt tl cn) {n : Nat} (hn : n < 50) (h : MS tl cn u a false) (ha : a ≤ tl) : ∃ u', F_X6_readsOrder u (nI (3 * n)) = some u' ∧ Kt n u u' ∧ OM tl cn u' n (rd tl cn a) := by
  have h60 := hT.1
  unfold F_X6_readsOrder B_X6_readsOrder_15
  rw [m_here hT h (by omega), Option.bind_some, h.2.1, nI_1, jchk_n0 (by omega) (by omega), nI_clamp (by omega)]
  have kt0 : Kt n u (pI (pI u 26 18 (nI (a + 1))) 35 (3 * n) (hrI tl cn a)) := (Kt.k (Kf.p26 (by decide))).tr (Kt.p (Nat.le_refl _))
  have hM : MS tl cn (pI (pI u 26 18 (nI (a + 1))) 35 (3 * n) (hrI tl cn a)) (a + 1) false := h.sp.told
  have t0 : gI (pI (pI u 26 18 (nI (a + 1))) 35 (3 * n) (hrI tl cn a)) 35 (3 * n) = hrI tl cn a := pI_same
  generalize pI (pI u 26 18 (nI (a + 1))) 35 (3 * n) (hrI tl cn a) = u1 at kt0 hM t0
  unfold rd
  by_cases hk : (decide (a < tl) && isK (cn a)) = true
  · rw [if_pos hk]
    rw [Bool.and_eq_true] at hk
    have hl := of_decide_eq_true hk.1
    have eh : hrI tl cn a = nI (cn a) := by unfold hrI; rw [if_pos hl]
    rw [eh] at t0 ⊢
    have hkk := isK_iff.mp hk.2
    have go : ∀ {rest : Wo → Option Wo}, ((cn a = 98 ∨ cn a = 115) ∧ rest = (fun w => B_X6_readsOrder_141 w (nI (3 * n))) ∨ (cn a = 112 ∨ cn a = 103) ∧ rest = (fun w => B_X6_readsOrder_170 w (nI (3 * n)) (nI (cn a))) ∨ cn a = 114 ∧ rest = (fun w => B_X6_readsOrder_241 w (nI (3 * n))) ∨ (cn a = 116 ∨ cn a = 120) ∧ rest = fun w => some w) → B_X6_readsOrder_22 u1 (nI (3 * n)) (nI (cn a)) = ((F_X6_figures u1 (nI (fm (cn a)))).bind fun q3 => rest (pI q3.2 35 (3 * n + 1) q3.1)) → ∃ u', B_X6_readsOrder_22 u1 (nI (3 * n)) (nI (cn a)) = some u' ∧ Kt n u u' ∧ OM tl cn u' n (if isd tl cn (a + 1) then rdo tl cn (cn a) (fg tl cn (fm (cn a)) 0 (a + 1)).1 (fg tl cn (fm (cn a)) 0 (a + 1)).2 else .inl (a + 1)) := by
      intro rest hr e
      obtain ⟨u', k1, k2, k3⟩ := m_rest hT hn hk.2 hr hM (by omega) t0
      exact ⟨u', e.trans k1, kt0.tr k2, k3⟩
    rcases hkk with e | e | e | e | e | e | e
    · refine go (Or.inl ⟨Or.inl e, rfl⟩) ?_
      rw [e]
      show B_X6_readsOrder_22 u1 (nI (3 * n)) 98 = _
      unfold B_X6_readsOrder_22
      rw [if_pos rfl, j1 (f := B_X6_readsOrder_141) hn]
      rfl
    · refine go (Or.inr (Or.inl ⟨Or.inl e, rfl⟩)) ?_
      rw [e]
      show B_X6_readsOrder_22 u1 (nI (3 * n)) 112 = _
      unfold B_X6_readsOrder_22
      rw [if_neg (by decide), if_neg (by decide), if_neg (by decide), if_neg (by decide), if_neg (by decide), if_neg (by decide), if_neg (by decide), if_neg (by decide), if_neg (by decide), if_neg (by decide), if_neg (by decide), if_neg (by decide), if_neg (by decide), if_neg (by decide), if_pos rfl, j1 (f := fun w x => B_X6_readsOrder_170 w x 112) hn]
      rfl
    · refine go (Or.inr (Or.inl ⟨Or.inr e, rfl⟩)) ?_
      rw [e]
      show B_X6_readsOrder_22 u1 (nI (3 * n)) 103 = _
      unfold B_X6_readsOrder_22
      rw [if_neg (by decide), if_neg (by decide), if_neg (by decide), if_neg (by decide), if_neg (by decide), if_pos rfl, j1 (f := fun w x => B_X6_readsOrder_170 w x 103) hn]
      rfl
    · refine go (Or.inr (Or.inr (Or.inr ⟨Or.inl e, rfl⟩))) ?_
      rw [e]
      show B_X6_readsOrder_22 u1 (nI (3 * n)) 116 = _
      unfold B_X6_readsOrder_22
      rw [if_neg (by decide), if_neg (by decide), if_neg (by decide), if_neg (by decide), if_neg (by decide), if_neg (by decide), if_neg (by decide), if_neg (by decide), if_neg (by decide), if_neg (by decide), if_neg (by decide), if_neg (by decide), if_neg (by decide), if_neg (by decide), if_neg (by decide), if_neg (by decide), if_neg (by decide), if_neg (by decide), if_pos rfl, j1 (f := fun w _ => some w) hn]
      rfl
    · refine go (Or.inl ⟨Or.inr e, rfl⟩) ?_
      rw [e]
      show B_X6_readsOrder_22 u1 (nI (3 * n)) 115 = _
      unfold B_X6_readsOrder_22
      rw [if_neg (by decide), if_neg (by decide), if_neg (by decide), if_neg (by decide), if_neg (by decide), if_neg (by decide), if_neg (by decide), if_neg (by decide), if_neg (by decide), if_neg (by decide), if_neg (by decide), if_neg (by decide), if_neg (by decide), if_neg (by decide), if_neg (by decide), if_neg (by decide), if_neg (by decide), if_pos rfl, j1 (f := B_X6_readsOrder_141) hn]
      rfl
    · refine go (Or.inr (Or.inr (Or.inr ⟨Or.inr e, rfl⟩))) ?_
      rw [e]
      show B_X6_readsOrder_22 u1 (nI (3 * n)) 120 = _
      unfold B_X6_readsOrder_22
      rw [if_neg (by decide), if_neg (by decide), if_neg (by decide), if_neg (by decide), if_neg (by decide), if_neg (by decide), if_neg (by decide), if_neg (by decide), if_neg (by decide), if_neg (by decide), if_neg (by decide), if_neg (by decide), if_neg (by decide), if_neg (by decide), if_neg (by decide), if_neg (by decide), if_neg (by decide), if_neg (by decide), if_neg (by decide), if_neg (by decide), if_neg (by decide), if_neg (by decide), if_pos rfl, j1 (f := fun w _ => some w) hn]
      rfl
    · refine go (Or.inr (Or.inr (Or.inl ⟨e, rfl⟩))) ?_
      rw [e]
      show B_X6_readsOrder_22 u1 (nI (3 * n)) 114 = _
      unfold B_X6_readsOrder_22
      rw [if_neg (by decide), if_neg (by decide), if_neg (by decide), if_neg (by decide), if_neg (by decide), if_neg (by decide), if_neg (by decide), if_neg (by decide), if_neg (by decide), if_neg (by decide), if_neg (by decide), if_neg (by decide), if_neg (by decide), if_neg (by decide), if_neg (by decide), if_neg (by decide), if_pos rfl, j1 (f := B_X6_readsOrder_241) hn]
      rfl
  · rw [if_neg hk]
    have hne : ∀ c : Nat, c < 65536 → isK c = true → hrI tl cn a ≠ nI c := by
      intro c hc hck e
      unfold hrI at e
      by_cases hl : a < tl
      · have := hT.2 a hl
        rw [if_pos hl, nI_eq (by omega) (by omega)] at e
        rw [e, decide_eq_true hl, hck] at hk
        exact hk rfl
      · rw [if_neg hl, m1_nI (by omega)] at e
        exact e
    rw [m_dflt (hne 98 (by omega) rfl) (hne 103 (by omega) rfl) (hne 112 (by omega) rfl) (hne 114 (by omega) rfl) (hne 115 (by omega) rfl) (hne 116 (by omega) rfl) (hne 120 (by omega) rfl)]
    unfold B_X6_readsOrder_268
    have hM2 := MS.wr (g' := true) hM
    have e18 : gI (pI u1 26 19 1) 26 18 - 1 = nI a := by
      rw [show gI (pI u1 26 19 1) 26 18 = nI (a + 1) from hM2.2.1]
      exact nI_pred a
    rw [e18]
    exact ⟨_, rfl, kt0.tr (Kt.k ((Kf.p26 (D := []) (F := [19]) (by decide)).tr (Kf.p26 (D := []) (F := [18]) (by decide)) (by decide) (by decide) (by decide) (by decide))), hM2.sp⟩
end RDM
