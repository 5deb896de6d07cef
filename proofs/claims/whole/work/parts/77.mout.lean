/-! THE REFERENCE'S PARITY -/
section MPa
variable {w : Wo} {B : Bd}
theorem tB_iff (hB : B.ok) (hP : Par B) {p j : Nat} (hp : p < B.n) (hj : j < B.n) : B.cell j = Gf B p ↔ j = tB B p := by
  have h1 := tB_ok hB hP hp
  constructor
  · intro e
    exact un_inj hB hP.1 _ hj _ h1.1 (by rw [e, h1.2])
  · intro e
    rw [e, h1.2]
theorem m_left (hB : B.ok) (hM : MB w 27 0 B) (hP : Par B) {p : Nat} (hp : p < B.n) (k2 : Wo → Int32 → Option (Int32 × Wo)) : B_X6_swapsAreOdd_20 k2 w (nI p) (gv (B.goal p)) = B_X6_swapsAreOdd_66 k2 w (nI p) (nI (Gf B p)) := by
  have hg := hB.2.2.2.1 p hp
  unfold B_X6_swapsAreOdd_20
  by_cases h12 : B.goal p = 12
  · have h1 : times B.goal B.n 12 = 1 := by
      have := times_pos (f := B.goal) hp
      rw [h12] at this
      have := hP.2.2
      omega
    obtain ⟨l1, l2, l3⟩ := lv_ok hB hP h1
    have eG : Gf B p = lv B := by unfold Gf; rw [if_pos h12]
    rw [eG, (gv_m1 hg).mpr h12]
    refine jl2_run (fun k => if k ≤ lv B then (-1 : Int32) else nI (lv B)) (fun k => nI k) (lv B + 1) (by rw [fu4]; omega) (fun k hk K => ?_) (fun K => ?_) (if_pos (Nat.zero_le _)).symm rfl
    · have t1 := un_times hB hP.1 k (by omega)
      have t2 := times_le B.goal B.n k
      have hd := dims hB
      have e1 : (if k ≤ lv B then (-1 : Int32) else nI (lv B)) = -1 := if_pos (by omega)
      unfold B_X6_swapsAreOdd_22 B_X6_swapsAreOdd_58 B_X6_swapsAreOdd_59
      rw [e1, L12, if_neg (nI_ge (by omega) (by omega)), if_pos rfl, m_tcell hB hM (by omega), Option.bind_some, it1 (by omega)]
      by_cases h2 : k = lv B
      · rw [h2, if_pos l3, m_tgoal hB hM l1, Option.bind_some, l2, if_pos (show nI 0 = 0 from rfl), if_neg (by omega), nI_succ]
      · have hn := fst1_no (fun v => decide (times B.goal B.n v < times B.cell B.n v)) 12 k (show k < lv B by omega)
        have hn : ¬ times B.goal B.n k < times B.cell B.n k := of_decide_eq_false hn
        rw [if_pos (show k + 1 ≤ lv B by omega), nI_succ]
        by_cases h3 : times B.cell B.n k = 1
        · rw [if_pos h3, m_tgoal hB hM (by omega), Option.bind_some, if_neg (nI_ne0 (by omega) (by omega))]
        · rw [if_neg h3]
    · have e1 : (if lv B + 1 ≤ lv B then (-1 : Int32) else nI (lv B)) = nI (lv B) := if_neg (by omega)
      unfold B_X6_swapsAreOdd_22
      rw [e1, itm1 (by omega), L12]
      by_cases h2 : 12 ≤ lv B + 1
      · rw [if_pos (nI_le h2 (by omega))]
      · rw [if_neg (nI_ge (by omega) (by omega))]
  · have eG : Gf B p = B.goal p := by unfold Gf; rw [if_neg h12]
    have eg : gv (B.goal p) = nI (B.goal p) := by unfold gv; rw [if_neg h12]
    rw [eG, eg]
    show B_X6_swapsAreOdd_22 k2 w (nI p) (jl2 (B_X6_swapsAreOdd_22 k2 w (nI p)) 3999) (nI (B.goal p)) 0 = _
    rw [B_X6_swapsAreOdd_22, if_neg (by decide), itm1 (by omega)]
theorem m_moved (hB : B.ok) (hM : MB w 27 0 B) (hP : Par B) {p : Nat} (hp : p < B.n) (k2 : Wo → Int32 → Option (Int32 × Wo)) : ∃ u, B_X6_swapsAreOdd_66 k2 w (nI p) (nI (Gf B p)) = k2 u (nI (p + 1)) ∧ Keep [34] w u ∧ (∀ b, b ≠ p → gI u 34 b = gI w 34 b) ∧ gI u 34 p = nI (tB B p) := by
  have hd := dims hB
  have ht := tB_ok hB hP hp
  have hG := ((gf_ok hB hP).1 p hp).1
  unfold B_X6_swapsAreOdd_66
  refine jl2_inv (P := fun j u b => b = nI j ∧ Keep [34] w u ∧ (∀ b, b ≠ p → gI u 34 b = gI w 34 b) ∧ (tB B p < j → gI u 34 p = nI (tB B p))) (Qr := fun r => ∃ u, r = k2 u (nI (p + 1)) ∧ Keep [34] w u ∧ (∀ b, b ≠ p → gI u 34 b = gI w 34 b) ∧ gI u 34 p = nI (tB B p)) B.n (by rw [fu4]; omega) ?_ ?_ ⟨rfl, Keep.rf, fun _ _ => rfl, fun h => absurd h (Nat.not_lt_zero _)⟩
  · rintro j hj u b ⟨rfl, h1, h2, h3⟩
    have hu := h1.mb (by decide) hM
    have hc := hB.2.2.1 j hj
    refine Or.inl ?_
    by_cases e : j = tB B p
    · refine ⟨pI u 34 p (nI j), nI (j + 1), ⟨rfl, h1.tr (Keep.pI (D := [34]) (by decide)) (fun _ h => h) (fun _ h => h), fun b hb => ?_, fun _ => by rw [pI_same, e]⟩, fun K => ?_⟩
      · rw [gI_pI, if_neg (fun q => hb q.2)]
        exact h2 b hb
      · unfold B_X6_swapsAreOdd_68 B_X6_swapsAreOdd_104 B_X6_swapsAreOdd_105
        rw [m_places hu, Option.bind_some, if_neg (nI_ge hj (by omega)), L14, ofs, L0, jchk_nI (by omega) (by omega), nI_clamp (by omega), m_cell hu hj, if_pos (by rw [(tB_iff hB hP hp hj).mpr e]), jchk_nI (by omega) (by omega), nI_clamp (by omega), nI_succ]
    · refine ⟨pI u 34 p (gI u 34 p), nI (j + 1), ⟨rfl, h1.tr (Keep.pI (D := [34]) (by decide)) (fun _ h => h) (fun _ h => h), fun b hb => ?_, fun h => ?_⟩, fun K => ?_⟩
      · rw [gI_pI, if_neg (fun q => hb q.2)]
        exact h2 b hb
      · rw [pI_same]
        exact h3 (by omega)
      · unfold B_X6_swapsAreOdd_68 B_X6_swapsAreOdd_104 B_X6_swapsAreOdd_105
        rw [m_places hu, Option.bind_some, if_neg (nI_ge hj (by omega)), L14, ofs, L0, jchk_nI (by omega) (by omega), nI_clamp (by omega), m_cell hu hj, if_neg (fun q => e ((tB_iff hB hP hp hj).mp (by rw [nI_eq (by omega) (by omega)] at q; exact q))), jchk_nI (by omega) (by omega), jchk_nI (by omega) (by omega), nI_clamp (by omega), nI_succ]
  · rintro u b ⟨rfl, h1, h2, h3⟩ K
    have hu := h1.mb (by decide) hM
    refine ⟨u, ?_, h1, h2, h3 ht.1⟩
    unfold B_X6_swapsAreOdd_68 B_X6_swapsAreOdd_111
    rw [m_places hu, Option.bind_some, if_pos (nI_le (Nat.le_refl _) (by omega)), nI_succ]
theorem m_par (hB : B.ok) (hM : MB w 27 0 B) {t : Nat → Nat} (ht : ∀ p, p < B.n → t p < B.n ∧ gI w 34 p = nI (t p)) : B_X6_swapsAreOdd_117 w = some (bI (E t B.n), w) := by
  have hd := dims hB
  unfold B_X6_swapsAreOdd_117 E
  refine jl2_run (fun k => bI (xr (Rr t) k)) (fun k => nI k) B.n (by rw [fu4]; omega) (fun k hk K => ?_) (fun K => ?_) rfl rfl
  · unfold B_X6_swapsAreOdd_121
    rw [m_places hM, Option.bind_some, if_neg (nI_ge hk (by omega))]
    generalize hz : xr (Rr t) k = z
    have hz2 : xr (Rr t) (k + 1) = (z ^^ xr (fun q => decide (t k < t q)) k) := by rw [← hz]; rfl
    rw [hz2]
    refine jl2_run (fun j => bI (z ^^ xr (fun q => decide (t k < t q)) j)) (fun j => nI j) k (by rw [fu4]; omega) (fun j hj K2 => ?_) (fun K2 => ?_) (by simp [xr]) rfl
    · have h1 := ht j (by omega)
      have h2 := ht k hk
      unfold B_X6_swapsAreOdd_131 B_X6_swapsAreOdd_164
      rw [if_neg (nI_ge hj (by omega)), jchk_n0 (by omega) (by omega), jchk_n0 (by omega) (by omega), nI_clamp (by omega), nI_clamp (by omega), h1.2, h2.2, itle (by omega) (by omega), itb0, xr, nI_succ j]
      generalize (xr (fun q => decide (t k < t q)) j) = y
      by_cases h : t j ≤ t k
      · rw [if_pos h, decide_eq_false (by omega), Bool.xor_false]
      · rw [if_neg h, decide_eq_true (by omega)]
        cases z <;> cases y <;> rfl
    · unfold B_X6_swapsAreOdd_131 B_X6_swapsAreOdd_171
      rw [if_pos (nI_le (Nat.le_refl _) (by omega)), nI_succ]
  · unfold B_X6_swapsAreOdd_121
    rw [m_places hM, Option.bind_some, if_pos (nI_le (Nat.le_refl _) (by omega)), jchk_pos (bI_or _)]
theorem m_swapsOdd (hB : B.ok) (hM : MB w 27 0 B) (hP : Par B) : ∃ u, F_X6_swapsAreOdd w = some (bI (E (tB B) B.n), u) ∧ Keep [34] w u := by
  have hd := dims hB
  unfold F_X6_swapsAreOdd
  refine jl2_ivK (P := fun k u a => a = nI k ∧ Keep [34] w u ∧ ∀ p, p < k → gI u 34 p = nI (tB B p)) (Qr := fun r => ∃ u, r = some (bI (E (tB B) B.n), u) ∧ Keep [34] w u) B.n ?_ ?_ B.n 0 fu w 0 (by omega) (by rw [fu4]; omega) ⟨rfl, Keep.rf, fun p h => absurd h (Nat.not_lt_zero p)⟩
  · rintro k hk u a ⟨rfl, h1, h2⟩ K
    have hu := h1.mb (by decide) hM
    obtain ⟨u2, g1, g2, g3, g4⟩ := m_moved hB hu hP hk K
    refine Or.inl ⟨u2, nI (k + 1), ⟨rfl, h1.tr g2 (fun _ h => h) (fun _ h => h), fun p hp => ?_⟩, ?_⟩
    · by_cases e : p = k
      · rw [e]
        exact g4
      · rw [g3 p e]
        exact h2 p (by omega)
    · unfold B_X6_swapsAreOdd_2
      rw [m_places hu, Option.bind_some, if_neg (nI_ge hk (by omega)), L23, ofs, L0, jchk_nI (by omega) (by omega), nI_clamp (by omega), m_goal hu hk, m_left hB hu hP hk, g1]
  · rintro u a ⟨rfl, h1, h2⟩ K
    have hu := h1.mb (by decide) hM
    refine ⟨u, ?_, h1⟩
    unfold B_X6_swapsAreOdd_2
    rw [m_places hu, Option.bind_some, if_pos (nI_le (Nat.le_refl _) (by omega)), m_par hB hu (t := tB B) (fun p hp => ⟨(tB_ok hB hP hp).1, h2 p hp⟩)]
theorem m_out (hB : B.ok) (hM : MB w 27 0 B) : ∃ u, F_X6_isOutOfReach w = some (bI (outB B), u) ∧ Keep [34] w u := by
  have hd := dims hB
  have hu := unlike_le B
  have ht := times_le B.goal B.n 12
  unfold F_X6_isOutOfReach outB
  rw [m_lacks hB hM, Option.bind_some, itb0]
  by_cases hl : lacks B = true
  · rw [if_pos hl, hl]
    exact ⟨w, rfl, Keep.rf⟩
  · rw [if_neg hl]
    rw [Bool.not_eq_true] at hl
    have h42 : B_X6_isOutOfReach_42 w = some (bI false, w) := rfl
    rw [hl, Bool.false_or, m_places hM, Option.bind_some, L9, iteq (by omega) (by omega), h42]
    by_cases h9 : B.n = 9
    · rw [if_pos h9, decide_eq_true h9, Bool.true_and, m_unlike hB hM, Option.bind_some, iteq (by omega) (by omega)]
      by_cases hu9 : unlike B = 9
      · rw [if_pos hu9, decide_eq_true hu9, Bool.true_and, m_tfree hB hM, Option.bind_some, L2, itle (by omega) (by omega)]
        by_cases h2 : times B.goal B.n 12 < 2
        · have hP : Par B := ⟨by omega, hl, by omega⟩
          obtain ⟨u, g1, g2⟩ := m_swapsOdd hB hM hP
          rw [if_neg (by omega), decide_eq_true h2, Bool.true_and]
          refine ⟨u, ?_, g2⟩
          unfold B_X6_isOutOfReach_43
          rw [if_neg (by decide), g1, Option.bind_some]
          cases E (tB B) B.n <;> rfl
        · rw [if_pos (by omega), decide_eq_false h2, Bool.false_and]
          exact ⟨w, rfl, Keep.rf⟩
      · rw [if_neg hu9, decide_eq_false hu9, Bool.false_and, Bool.false_and]
        exact ⟨w, rfl, Keep.rf⟩
    · rw [if_neg h9, decide_eq_false h9, Bool.false_and, Bool.false_and, Bool.false_and]
      exact ⟨w, rfl, Keep.rf⟩
end MPa
theorem K_14 {w : Wo} (hI : Inv w) (x1 x2 x3 : Int32) : ∃ w', F_K_14 w x1 x2 x3 = some w' ∧ Inv w' := by
  obtain ⟨A, hA, hC, hM⟩ := hI
  have hB := hA.1
  refine fin_q (FC := F_X5_isOut w) (FM := fun u => F_X6_isOut u) (v := bI (outB A.B)) (k := 0) hM hA ?_ hC (RO.mo fun u hu => ?_)
  · unfold F_X5_isOut
    rw [c_out hB hC.1, Option.bind_some]
  · obtain ⟨u2, g1, g2⟩ := m_out hB (MB.p26 (k := 14) (v := 0) hu)
    refine ⟨u2, ?_, (g2.1 26 14 (by decide)).trans pI_same, (Kf.p26 (D := []) (F := [14]) (by decide)).tr (g2.kf (F := [])) (by decide) (by decide) (by decide) (by decide)⟩
    show F_X6_isOut u = _
    unfold F_X6_isOut B_X6_isOut_5
    rw [g1, Option.bind_some]
theorem K_15 {w : Wo} (hI : Inv w) (x1 x2 x3 : Int32) : ∃ w', F_K_15 w x1 x2 x3 = some w' ∧ Inv w' := by
  obtain ⟨A, hA, hC, hM⟩ := hI
  have hB := hA.1
  have hd := dims hB
  have hun := unlike_le A.B
  have ht := times_le A.B.goal A.B.n 12
  have hs := same_iff hB
  have m33 : ∀ u y, MB u 27 0 A.B → F_X6_isOdd u y = if same A.B = true then B_X6_isOdd_33 u 1 else B_X6_isOdd_33 u 0 := by
    intro u y hu
    unfold F_X6_isOdd B_X6_isOdd_32
    rw [m_unlike hB hu, Option.bind_some, m_places hu, Option.bind_some, iteq (by omega) (by omega), m_lacks hB hu, Option.bind_some, itb0, m_tfree hB hu, Option.bind_some, L0, iteq (by omega) (by omega), hs]
    by_cases h1 : unlike A.B = A.B.n
    · rw [if_pos h1, decide_eq_true h1, Bool.true_and]
      cases hl : lacks A.B with
      | true => rfl
      | false =>
        rw [if_neg (by decide)]
        by_cases h2 : times A.B.goal A.B.n 12 = 0
        · rw [if_pos h2, decide_eq_true h2]
          rfl
        · rw [if_neg h2, decide_eq_false h2]
          rfl
    · rw [if_neg h1, decide_eq_false h1]
      rfl
  have key : ∀ y : Int32, ∃ w', ((F_L_isOdd w y).bind fun q1 => ((F_X6_isOdd q1.2 y).bind fun q2 => (jchk ((F_X6_thrown q2.2) = q1.1) (jchk (q1.1 = 0 → q2.1 = 0 → (lg_cmp (gL q2.2 36 0) 0) = 0) (jchk (q1.1 = 0 → ¬ q2.1 = 0 → (lg_cmp (gL q2.2 36 0) 1) = 0) (some q2.2)))))) = some w' ∧ Inv w' := by
    intro y
    by_cases h : same A.B = true
    · obtain ⟨o1, o2⟩ := c_odd hB hC.1 h
      obtain ⟨hP, -⟩ := same_par hB h
      refine fin_b (FL := F_L_isOdd w y) (FM := fun u => F_X6_isOdd u y) (k := 0) (b := E (tB A.B) A.B.n) hM hA ?_ hC AgM.rf (RO.mo fun u hu => ?_)
      · have e : F_X5_isOdd w y = some (.inr (bI (E (tB A.B) A.B.n), w)) := by
          unfold F_X5_isOdd
          rw [c_same hB hC.1, Option.bind_some, h, if_neg (by decide), o1, o2, Option.bind_some]
          by_cases hy : y = 0
          · rw [if_pos hy]
          · rw [if_neg hy]
        unfold F_L_isOdd
        rw [e]
        cases E (tB A.B) A.B.n <;> rfl
      · obtain ⟨u2, g1, g2⟩ := m_swapsOdd hB (MB.p26 (k := 14) (v := 0) hu) hP
        refine ⟨u2, ?_, (g2.1 26 14 (by decide)).trans pI_same, (Kf.p26 (D := []) (F := [14]) (by decide)).tr (g2.kf (F := [])) (by decide) (by decide) (by decide) (by decide)⟩
        show F_X6_isOdd u y = _
        rw [m33 u y hu, if_pos h]
        unfold B_X6_isOdd_33 B_X6_isOdd_44 B_X6_isOdd_47
        rw [if_neg (by decide), if_neg (by decide), g1, Option.bind_some]
        cases E (tB A.B) A.B.n <;> rfl
    · refine fin_b (FL := F_L_isOdd w y) (FM := fun u => F_X6_isOdd u y) (k := 1) (b := false) hM hA ?_ hC AgM.rf (RO.mo fun u hu => ⟨pI u 26 14 1, ?_, rfl, Kf.p26 (by decide)⟩)
      · unfold F_L_isOdd F_X5_isOdd
        rw [c_same hB hC.1, Option.bind_some]
        rw [Bool.not_eq_true] at h
        rw [h]
        rfl
      · show F_X6_isOdd u y = _
        rw [m33 u y hu, if_neg h]
        rfl
  unfold F_K_15
  by_cases h : x1 = 0
  · rw [if_pos h]
    exact key 0
  · rw [if_neg h]
    exact key 1
/-! a turn and its way back -/
theorem c_back {w : Wo} {B : Bd} (hB : B.ok) (hC : CB w 1 B) : F_X0_areTurnsTakenBack w = some 1 := by
  have hd := dims hB
  have ho := opn_lt hB
  unfold F_X0_areTurnsTakenBack
  refine jl1_run (fun k => nI k) (Tn B) (by rw [fu4]; omega) (fun k hk K => ?_) (fun K => ?_) rfl
  · have hi : inv k < Tn B := (inv_lt hB k hk).1
    obtain ⟨a1, a2⟩ := c_tu hB hC (gL w 1 2) hk
    obtain ⟨b1, b2⟩ := c_tu hB hC (tuL B.r B.c (gL w 1 2) k) hi
    have e : tuL B.r B.c (tuL B.r B.c (gL w 1 2) k) (inv k) = gL w 1 2 := by
      refine i64_ext (fun q hq => ?_)
      rw [b2 q hq, bk_inv hB hk]
      by_cases h : q < B.n
      · have hg : goes B.r B.c q k < B.n := goes_lt hB k hk q h
        rw [if_pos h, a2 _ (by omega), (bk_goes hB hk h (by omega)).mpr rfl]
      · rw [if_neg h, a2 q hq]
        unfold bk
        rw [if_neg (by have : B.n = B.r * B.c := rfl; omega)]
    have ez : lg_cmp (gL w 1 2) (gL w 1 2) = 0 := by
      unfold lg_cmp
      simp
    unfold B_X0_areTurnsTakenBack_2
    rw [show F_X0_turns w = nI (Tn B) from c_turns hB hC, if_neg (nI_ge hk (by omega)), a1, Option.bind_some, xor1 k (by omega), b1, Option.bind_some, e, if_pos ez, nI_succ]
  · unfold B_X0_areTurnsTakenBack_2
    rw [show F_X0_turns w = nI (Tn B) from c_turns hB hC, if_pos (nI_le (Nat.le_refl _) (by omega))]
theorem K_33 {w : Wo} (hI : Inv w) (x1 x2 x3 : Int32) : ∃ w', F_K_33 w x1 x2 x3 = some w' ∧ Inv w' := by
  obtain ⟨A, hA, hC, hM⟩ := hI
  have hB := hA.1
  have hl := shl_le A.B A.B.cell
  obtain ⟨w1, h1, h2⟩ := c_halves hB hC.1
  have hc1 := h2.cb (by decide) hC.1
  have e73 : B_X5_isWell_73 w1 = some (1, w1) := by
    unfold B_X5_isWell_73
    rw [c_back hB hc1, Option.bind_some]
  have e30 : B_X5_isWell_30 w1 = some (1, w1) := by
    unfold B_X5_isWell_30
    rw [c_same hB hc1, Option.bind_some, itb0]
    by_cases h : same A.B = true
    · obtain ⟨o1, o2⟩ := c_odd hB hc1 h
      rw [if_pos h, o1, Option.bind_some, o2, Option.bind_some, if_pos rfl, e73]
    · rw [if_neg h, e73]
  have e : F_X5_isWell w = some (1, w1) := by
    unfold F_X5_isWell
    rw [h1, Option.bind_some, show F_X5_fewestByAll (nI (shl A.B A.B.cell), w1).2 = _ from c_byAll hB hc1, Option.bind_some, if_pos rfl]
    show (if (3 : Int32) < nI (shl A.B A.B.cell) then B_X5_isWell_30 w1 else (F_X0_isBeyondReach w1).bind fun q13 => if q13 = 0 then B_X5_isWell_30 w1 else some (0, w1)) = _
    rw [L3, itlt (by omega) (by omega)]
    by_cases h4 : 3 < shl A.B A.B.cell
    · rw [if_pos h4, e30]
    · rw [if_neg h4, c_out hB hc1, out_reach hB (shl_R (show shl A.B A.B.cell < 4 by omega)), Option.bind_some, if_pos (show bI false = 0 from rfl), e30]
  refine fin_p (FC := F_X5_isWell w) (FM := fun u => F_X6_isWell u) (A' := A) (k := 0) (v := 1) (w1 := w1) hM hA e (hC.kd h2 (by decide)) (h2.agm (by decide)) (RO.mo fun u hu => ⟨pI u 26 14 0, rfl, rfl, Kf.p26 (by decide)⟩)
