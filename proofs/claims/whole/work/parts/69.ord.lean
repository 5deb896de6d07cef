/-! THE ORDERS, ONE BY ONE -/
section ORD
variable {B : Bd}
theorem ord_board (hB : B.ok) (a b : Int32) : Ord B 98 a b (fun u => F_X6_boards u a b) tmB (fun _ w' => some (F_X0_places w')) := by
  rcases side a with ha | ⟨r, hr, rfl, ha⟩
  · refine Or.inr (Or.inl ⟨2, Or.inr rfl, by decide, fun w hC => ?_, fun u hu => ?_⟩)
    · unfold F_X5_judge
      rw [if_pos rfl, isSide_in, ha, if_pos rfl]
      rfl
    · show F_X6_boards u a b = _
      unfold F_X6_boards
      rw [ha, if_pos rfl]
      rfl
  · rcases side b with hb | ⟨c, hc, rfl, hb⟩
    · refine Or.inr (Or.inl ⟨2, Or.inr rfl, by decide, fun w hC => ?_, fun u hu => ?_⟩)
      · unfold F_X5_judge
        rw [if_pos rfl, isSide_in, isSide_in, ha, hb, if_neg (by decide), if_pos rfl]
        rfl
      · show F_X6_boards u (nI r) b = _
        unfold F_X6_boards
        rw [ha, hb, if_neg (by decide), if_pos rfl]
        rfl
    · refine Or.inl ⟨layB B r c, nI (r * c), layB_ok hr hc, fun w hC => ⟨?_, co_board hC hr hc⟩, fun u hu => ?_, fun w w' _ h => ?_⟩
      · unfold F_X5_judge
        rw [if_pos rfl, isSide_in, isSide_in, ha, hb, if_neg (by decide), if_neg (by decide)]
      · obtain ⟨u1, h1, h2, h3⟩ := m_lays hu hr hc
        have e6 : gI u1 27 6 = B.cn 6 := h2.2.2.2.2.2 6 (by decide) (by decide)
        have h4 : MB (pI u1 27 6 (B.cn 6 + 1)) 27 0 (layB B r c) := h2.setC (i := 6) (by decide) (by decide)
        refine ⟨pI (pI u1 27 6 (B.cn 6 + 1)) 26 14 0, ?_, pI_same, h4.p26, (h3.tr (Kf.pI (D := [27]) (F := []) (by decide)) (D := [27]) (F := []) (by decide) (by decide) (by decide) (by decide)).tr (Kf.p26 (D := []) (F := [14]) (by decide)) (by decide) (by decide) (by decide) (by decide)⟩
        show F_X6_boards u (nI r) (nI c) = _
        unfold F_X6_boards B_X6_boards_41
        rw [ha, hb, if_neg (by decide), if_neg (by decide), h1, Option.bind_some, e6, show F_X6_places (pI u1 27 6 (B.cn 6 + 1)) = some (nI (r * c)) from m_places (B := layB B r c) h4]
        rfl
      · exact congrArg some (c_places (layB_ok hr hc) h)
theorem code_r (c : Int32) : (F_X6_isLetter c = 1 ∧ ∃ v : Nat, v < 12 ∧ F_X5_codeOf c = nI v ∧ c - 97 = nI v ∧ c ≠ 46) ∨ (F_X6_isLetter c = 0 ∧ ((c = 46 ∧ F_X5_codeOf c = nI 12) ∨ (c ≠ 46 ∧ F_X5_codeOf c = -1))) := by
  rcases ixc c 128 (by omega) with h | ⟨j, hj, rfl⟩
  · refine Or.inr ?_
    have hne : c ≠ 46 := by
      intro e
      rw [e] at h
      revert h
      decide
    have h3 : c < 97 ∨ (108 : Int32) < c := by
      rw [Int32.lt_iff_toInt_lt, Int32.lt_iff_toInt_lt, show ((97 : Int32)).toInt = 97 by decide, show ((108 : Int32)).toInt = 108 by decide]
      rcases h with h | h
      · rw [Int32.lt_iff_toInt_lt, nI_toInt (by omega)] at h
        omega
      · rw [Int32.le_iff_toInt_le, nI_toInt (by omega)] at h
        omega
    have e1 : F_X6_isLetter c = 0 := by
      unfold F_X6_isLetter F_X6_in
      by_cases h0 : c < 97
      · rw [if_pos h0]
      · rw [if_neg h0, if_pos (h3.resolve_left h0)]
    have e2 : F_X5_codeOf c = -1 := by
      unfold F_X5_codeOf
      rw [if_neg hne]
      by_cases h0 : c < 97
      · rw [if_pos h0]
      · rw [if_neg h0, if_pos (h3.resolve_left h0)]
    exact ⟨e1, Or.inr ⟨hne, e2⟩⟩
  · have hd : ∀ j, j < 128 → (F_X6_isLetter (nI j) = 1 ∧ j - 97 < 12 ∧ F_X5_codeOf (nI j) = nI (j - 97) ∧ nI j - 97 = nI (j - 97) ∧ nI j ≠ 46) ∨ (F_X6_isLetter (nI j) = 0 ∧ ((nI j = 46 ∧ F_X5_codeOf (nI j) = nI 12) ∨ (nI j ≠ 46 ∧ F_X5_codeOf (nI j) = -1))) := by decide +kernel
    rcases hd j hj with ⟨h1, h2, h3, h4, h5⟩ | h
    · exact Or.inl ⟨h1, j - 97, h2, h3, h4, h5⟩
    · exact Or.inr h
theorem cj_sign {w : Wo} {f : Nat → Nat} {x : Int64} (hB : B.ok) (hC : CB w 1 B) (hf : ∀ p, p < B.n → nib x p = f p) (h16 : ∀ p, p < B.n → f p < 16) {p v N : Nat} (hp : p < B.n) (hv : v ≤ N) (hN : N < 16) : F_X5_judgeSign w (nI p) (nI v) x (nI N) = if f p = v then (F_X5_refuse w 2 (nI p)).bind (fun q3 => some (q3.1, q3.2)) else some (0, w) := by
  have hd := dims hB
  have := h16 p hp
  unfold F_X5_judgeSign
  rw [c_hasPlace_in hB hC hp, if_neg (by decide), if_neg (nI_pos (by omega)), if_pos (nI_le hv (by omega)), codeAt_nib (by omega), hf p hp, iteq (by omega) (by omega)]
theorem cj_signO {w : Wo} {x : Int64} (hB : B.ok) (hC : CB w 1 B) {a b N : Int32} (h : a < nI 0 ∨ nI B.n ≤ a) : F_X5_judgeSign w a b x N = some (1, w) := by
  unfold F_X5_judgeSign
  rw [c_hasPlace_out hB hC h, if_pos rfl]
theorem m_tells {u : Wo} {o p : Nat} {v was : Int32} (ho : o + p < 32) (hw : gI u 27 (o + p) = was) : F_X6_tells u (nI o) (nI p) v = if was = v then (F_X6_refused u 2 (nI p) 3).bind (fun q4 => some (q4.1, q4.2)) else some (F_X6_signOf was, pI (pI u 27 (o + p) v) 26 14 0) := by
  unfold F_X6_tells B_X6_tells_10 B_X6_tells_33
  rw [ofs, L0, jchk_nI ho (by omega), jchk_nI ho (by omega), nI_clamp (by omega), hw]
  rfl
theorem ord_put (hB : B.ok) (a c : Int32) : Ord B 112 a (F_X5_codeOf c) (fun u => F_X6_puts u a c) tmP (fun w _ => some (F_X5_signOf (F_X5_codeAt (gL w 1 2) a))) := by
  have hd := dims hB
  rcases ixc a B.n (by omega) with h | ⟨p, hp, rfl⟩
  · refine Or.inr (Or.inl ⟨1, Or.inl rfl, by decide, fun w hC => ?_, fun u hu => ?_⟩)
    · unfold F_X5_judge
      rw [if_neg (by decide), if_neg (by decide), if_neg (by decide), if_neg (by decide), if_neg (by decide), if_neg (by decide), if_neg (by decide), if_neg (by decide), if_neg (by decide), if_neg (by decide), if_neg (by decide), if_neg (by decide), if_neg (by decide), if_neg (by decide), if_pos rfl, cj_signO hB hC h]
      rfl
    · show F_X6_puts u a c = _
      unfold F_X6_puts
      rw [m_isPlace_out hB hu h, Option.bind_some, if_pos rfl]
      rfl
  · have hcp := hB.2.2.1 p hp
    rcases code_r c with ⟨e1, v, hv, e2, e3, e4⟩ | ⟨e1, e2⟩
    · rw [e2]
      have hmod : ∀ u, MB u 27 0 B → F_X6_puts u (nI p) c = (F_X6_tells u (nI 14) (nI p) (nI v)).bind (fun q => some (q.1, q.2)) := by
        intro u hu
        unfold F_X6_puts
        rw [m_isPlace_in hB hu hp, Option.bind_some, if_neg (by decide), e1, if_neg (by decide), e3]
        rfl
      by_cases hs : B.cell p = v
      · refine Or.inr (Or.inr ⟨2, nI p, by decide, by decide, by decide, fun w hC => ?_, fun u hu => ?_⟩)
        · unfold F_X5_judge
          rw [if_neg (by decide), if_neg (by decide), if_neg (by decide), if_neg (by decide), if_neg (by decide), if_neg (by decide), if_neg (by decide), if_neg (by decide), if_neg (by decide), if_neg (by decide), if_neg (by decide), if_neg (by decide), if_neg (by decide), if_neg (by decide), if_pos rfl, L11, cj_sign hB hC hC.2.2.1 (fun p hp => by have := hB.2.2.1 p hp; omega) hp (by omega) (by omega), if_pos hs]
          rfl
        · show F_X6_puts u (nI p) c = _
          rw [hmod u hu, m_tells (by omega) (m_cell hu hp), if_pos (by rw [hs])]
          rfl
      · refine Or.inl ⟨putB B p v, sgI (B.cell p), putB_ok hB hv, fun w hC => ⟨?_, co_put hB hC hp hv⟩, fun u hu => ⟨pI (pI u 27 (14 + p) (nI v)) 26 14 0, ?_, pI_same, (MB.setCell hB hu hp).p26, (Kf.pI (D := [27]) (F := []) (by decide)).tr (Kf.p26 (D := []) (F := [14]) (by decide)) (by decide) (by decide) (by decide) (by decide)⟩, fun w w' hC _ => ?_⟩
        · unfold F_X5_judge
          rw [if_neg (by decide), if_neg (by decide), if_neg (by decide), if_neg (by decide), if_neg (by decide), if_neg (by decide), if_neg (by decide), if_neg (by decide), if_neg (by decide), if_neg (by decide), if_neg (by decide), if_neg (by decide), if_neg (by decide), if_neg (by decide), if_pos rfl, L11, cj_sign hB hC hC.2.2.1 (fun p hp => by have := hB.2.2.1 p hp; omega) hp (by omega) (by omega), if_neg hs]
          rfl
        · show F_X6_puts u (nI p) c = _
          rw [hmod u hu, m_tells (by omega) (m_cell hu hp), if_neg (fun e => hs (by rw [nI_eq (by omega) (by omega)] at e; exact e)), msign_cell _ hcp]
          rfl
        · show some (F_X5_signOf (F_X5_codeAt (gL w 1 2) (nI p))) = _
          rw [codeAt_nib (by omega), hC.2.2.1 p hp, signOf_nI _ (by omega)]
    · refine Or.inr (Or.inl ⟨2, Or.inr rfl, by decide, fun w hC => ?_, fun u hu => ?_⟩)
      · have : F_X5_judgeSign w (nI p) (F_X5_codeOf c) (gL w 1 2) 11 = some (2, w) := by
          unfold F_X5_judgeSign
          rw [c_hasPlace_in hB hC hp, if_neg (by decide)]
          rcases e2 with ⟨-, e2⟩ | ⟨-, e2⟩
          · rw [e2, if_neg (by decide), if_neg (by decide)]
          · rw [e2, if_pos (by decide)]
        unfold F_X5_judge
        rw [if_neg (by decide), if_neg (by decide), if_neg (by decide), if_neg (by decide), if_neg (by decide), if_neg (by decide), if_neg (by decide), if_neg (by decide), if_neg (by decide), if_neg (by decide), if_neg (by decide), if_neg (by decide), if_neg (by decide), if_neg (by decide), if_pos rfl, this]
        rfl
      · show F_X6_puts u (nI p) c = _
        unfold F_X6_puts
        rw [m_isPlace_in hB hu hp, Option.bind_some, if_neg (by decide), e1, if_pos rfl]
        rfl
theorem gv_inj {a b : Nat} (ha : a < 13) (hb : b < 13) (h : gv a = gv b) : a = b := by
  have : ∀ a, a < 13 → ∀ b, b < 13 → gv a = gv b → a = b := by decide +kernel
  exact this a ha b hb h
theorem ord_goal (hB : B.ok) (a c : Int32) : Ord B 103 a (F_X5_codeOf c) (fun u => F_X6_goals u a c) tmP (fun w _ => some (F_X5_signOf (F_X5_codeAt (gL w 1 3) a))) := by
  have hd := dims hB
  rcases ixc a B.n (by omega) with h | ⟨p, hp, rfl⟩
  · refine Or.inr (Or.inl ⟨1, Or.inl rfl, by decide, fun w hC => ?_, fun u hu => ?_⟩)
    · unfold F_X5_judge
      rw [if_neg (by decide), if_neg (by decide), if_neg (by decide), if_neg (by decide), if_neg (by decide), if_pos rfl, cj_signO hB hC h]
      rfl
    · show F_X6_goals u a c = _
      unfold F_X6_goals
      rw [m_isPlace_out hB hu h, Option.bind_some, if_pos rfl]
      rfl
  · have hgp := hB.2.2.2.1 p hp
    have main : ∀ v : Nat, v < 13 → F_X5_codeOf c = nI v → (∀ u, MB u 27 0 B → F_X6_goals u (nI p) c = (F_X6_tells u (nI 23) (nI p) (gv v)).bind (fun q => some (q.1, q.2))) → Ord B 103 (nI p) (nI v) (fun u => F_X6_goals u (nI p) c) tmP (fun w _ => some (F_X5_signOf (F_X5_codeAt (gL w 1 3) (nI p)))) := by
      intro v hv e2 hmod
      by_cases hs : B.goal p = v
      · refine Or.inr (Or.inr ⟨2, nI p, by decide, by decide, by decide, fun w hC => ?_, fun u hu => ?_⟩)
        · unfold F_X5_judge
          rw [if_neg (by decide), if_neg (by decide), if_neg (by decide), if_neg (by decide), if_neg (by decide), if_pos rfl, L12, cj_sign hB hC hC.2.2.2.1 (fun p hp => by have := hB.2.2.2.1 p hp; omega) hp (by omega) (by omega), if_pos hs]
          rfl
        · show F_X6_goals u (nI p) c = _
          rw [hmod u hu, m_tells (by omega) (m_goal hu hp), if_pos (by rw [hs])]
          rfl
      · refine Or.inl ⟨goalB B p v, sgI (B.goal p), goalB_ok hB hv, fun w hC => ⟨?_, co_goal hB hC hp hv⟩, fun u hu => ⟨pI (pI u 27 (23 + p) (gv v)) 26 14 0, ?_, pI_same, (MB.setGoal hB hu hp).p26, (Kf.pI (D := [27]) (F := []) (by decide)).tr (Kf.p26 (D := []) (F := [14]) (by decide)) (by decide) (by decide) (by decide) (by decide)⟩, fun w w' hC _ => ?_⟩
        · unfold F_X5_judge
          rw [if_neg (by decide), if_neg (by decide), if_neg (by decide), if_neg (by decide), if_neg (by decide), if_pos rfl, L12, cj_sign hB hC hC.2.2.2.1 (fun p hp => by have := hB.2.2.2.1 p hp; omega) hp (by omega) (by omega), if_neg hs]
          rfl
        · show F_X6_goals u (nI p) c = _
          rw [hmod u hu, m_tells (by omega) (m_goal hu hp), if_neg (fun e => hs (gv_inj hgp hv e)), msignOf_nI _ hgp]
          rfl
        · show some (F_X5_signOf (F_X5_codeAt (gL w 1 3) (nI p))) = _
          rw [codeAt_nib (by omega), hC.2.2.2.1 p hp, signOf_nI _ (by omega)]
    rcases code_r c with ⟨e1, v, hv, e2, e3, e4⟩ | ⟨e1, ⟨e2, e3⟩ | ⟨e2, e3⟩⟩
    · rw [e2]
      refine main v (by omega) e2 (fun u hu => ?_)
      unfold F_X6_goals B_X6_goals_27 B_X6_goals_45
      rw [m_isPlace_in hB hu hp, Option.bind_some, if_neg (by decide), e1, if_neg (by decide), if_neg e4, e3, show gv v = nI v by unfold gv; rw [if_neg (by omega)]]
      rfl
    · rw [e3]
      refine main 12 (by omega) e3 (fun u hu => ?_)
      unfold F_X6_goals B_X6_goals_27 B_X6_goals_45
      rw [m_isPlace_in hB hu hp, Option.bind_some, if_neg (by decide), e1, if_pos rfl, if_pos e2, if_pos e2]
      rfl
    · refine Or.inr (Or.inl ⟨2, Or.inr rfl, by decide, fun w hC => ?_, fun u hu => ?_⟩)
      · have : F_X5_judgeSign w (nI p) (F_X5_codeOf c) (gL w 1 3) 12 = some (2, w) := by
          unfold F_X5_judgeSign
          rw [c_hasPlace_in hB hC hp, if_neg (by decide), e3, if_pos (by decide)]
        unfold F_X5_judge
        rw [if_neg (by decide), if_neg (by decide), if_neg (by decide), if_neg (by decide), if_neg (by decide), if_pos rfl, this]
        rfl
      · show F_X6_goals u (nI p) c = _
        unfold F_X6_goals
        rw [m_isPlace_in hB hu hp, Option.bind_some, if_neg (by decide), e1, if_pos rfl, if_neg e2]
        rfl
theorem ord_turn (hB : B.ok) (a b : Int32) : Ord B 116 a b (fun u => F_X6_turnsOne u a) tmT (fun _ w' => F_X0_atHome w' (gL w' 1 2)) := by
  have hd := dims hB
  rcases ixc a (2 * (B.r + B.c)) (by omega) with h | ⟨t, ht, rfl⟩
  · refine Or.inr (Or.inl ⟨1, Or.inl rfl, by decide, fun w hC => ?_, fun u hu => ?_⟩)
    · unfold F_X5_judge F_X5_judgeTurn
      rw [if_neg (by decide), if_neg (by decide), if_neg (by decide), if_neg (by decide), if_neg (by decide), if_neg (by decide), if_neg (by decide), if_neg (by decide), if_neg (by decide), if_neg (by decide), if_neg (by decide), if_neg (by decide), if_neg (by decide), if_neg (by decide), if_neg (by decide), if_neg (by decide), if_neg (by decide), if_neg (by decide), if_pos rfl, c_hasTurn_out hB hC h, if_pos rfl]
      rfl
    · show F_X6_turnsOne u a = _
      unfold F_X6_turnsOne
      rw [m_isTurn_out hB hu h, Option.bind_some, if_pos rfl]
      rfl
  · by_cases hb : B.bar (t / 2) = true
    · refine Or.inr (Or.inr ⟨1, nI t / 2, by decide, by decide, by decide, fun w hC => ?_, fun u hu => ?_⟩)
      · unfold F_X5_judge F_X5_judgeTurn
        rw [if_neg (by decide), if_neg (by decide), if_neg (by decide), if_neg (by decide), if_neg (by decide), if_neg (by decide), if_neg (by decide), if_neg (by decide), if_neg (by decide), if_neg (by decide), if_neg (by decide), if_neg (by decide), if_neg (by decide), if_neg (by decide), if_neg (by decide), if_neg (by decide), if_neg (by decide), if_neg (by decide), if_pos rfl, c_hasTurn_in hB hC ht, if_neg (by decide), c_canTurn hB hC (by omega), hb]
        rfl
      · show F_X6_turnsOne u (nI t) = _
        unfold F_X6_turnsOne
        rw [m_isTurn_in hB hu ht, Option.bind_some, if_neg (by decide), m_isOpen hB hu (by omega), hb]
        rfl
    · rw [Bool.not_eq_true] at hb
      refine Or.inl ⟨handT B t, nI (homes B (tn B t B.cell)), handT_ok hB ht, fun w hC => ⟨?_, co_turn hB hC ht b⟩, fun u hu => ?_, fun w w' _ h => ?_⟩
      · unfold F_X5_judge F_X5_judgeTurn
        rw [if_neg (by decide), if_neg (by decide), if_neg (by decide), if_neg (by decide), if_neg (by decide), if_neg (by decide), if_neg (by decide), if_neg (by decide), if_neg (by decide), if_neg (by decide), if_neg (by decide), if_neg (by decide), if_neg (by decide), if_neg (by decide), if_neg (by decide), if_neg (by decide), if_neg (by decide), if_neg (by decide), if_pos rfl, c_hasTurn_in hB hC ht, if_neg (by decide), c_canTurn hB hC (by omega), hb]
        rfl
      · obtain ⟨u1, h1, h2, h3⟩ := m_byHand hB hu ht
        refine ⟨pI u1 26 14 0, ?_, pI_same, h2.p26, h3.tr (Kf.p26 (D := []) (F := [14]) (by decide)) (by decide) (by decide) (by decide) (by decide)⟩
        show F_X6_turnsOne u (nI t) = _
        unfold F_X6_turnsOne
        rw [m_isTurn_in hB hu ht, Option.bind_some, if_neg (by decide), m_isOpen hB hu (by omega), hb, Option.bind_some, if_neg (by decide), h1]
        rfl
      · exact c_atHome (B := handT B t) (handT_ok hB ht) h h.2.2.1
theorem ord_swap (hB : B.ok) (a b : Int32) : Ord B 115 a b (fun u => F_X6_swaps u a b) tmT (fun _ w' => F_X0_atHome w' (gL w' 1 2)) := by
  have hd := dims hB
  rcases ixc a B.n (by omega) with h | ⟨p, hp, rfl⟩
  · refine Or.inr (Or.inl ⟨1, Or.inl rfl, by decide, fun w hC => ?_, fun u hu => ?_⟩)
    · unfold F_X5_judge F_X5_judgeSwap
      rw [if_neg (by decide), if_neg (by decide), if_neg (by decide), if_neg (by decide), if_neg (by decide), if_neg (by decide), if_neg (by decide), if_neg (by decide), if_neg (by decide), if_neg (by decide), if_neg (by decide), if_neg (by decide), if_neg (by decide), if_neg (by decide), if_neg (by decide), if_neg (by decide), if_neg (by decide), if_pos rfl, c_hasPlace_out hB hC h, if_pos rfl]
      rfl
    · show F_X6_swaps u a b = _
      unfold F_X6_swaps
      rw [m_isPlace_out hB hu h, Option.bind_some, if_pos rfl]
      rfl
  · rcases ixc b B.n (by omega) with h | ⟨q, hq, rfl⟩
    · refine Or.inr (Or.inl ⟨1, Or.inl rfl, by decide, fun w hC => ?_, fun u hu => ?_⟩)
      · unfold F_X5_judge F_X5_judgeSwap
        rw [if_neg (by decide), if_neg (by decide), if_neg (by decide), if_neg (by decide), if_neg (by decide), if_neg (by decide), if_neg (by decide), if_neg (by decide), if_neg (by decide), if_neg (by decide), if_neg (by decide), if_neg (by decide), if_neg (by decide), if_neg (by decide), if_neg (by decide), if_neg (by decide), if_neg (by decide), if_pos rfl, c_hasPlace_in hB hC hp, if_neg (by decide), c_hasPlace_out hB hC h, if_pos rfl]
        rfl
      · show F_X6_swaps u (nI p) b = _
        unfold F_X6_swaps
        rw [m_isPlace_in hB hu hp, Option.bind_some, if_neg (by decide), m_isPlace_out hB hu h, Option.bind_some, if_pos rfl]
        rfl
    · by_cases e : p = q
      · refine Or.inr (Or.inr ⟨3, nI p, by decide, by decide, by decide, fun w hC => ?_, fun u hu => ?_⟩)
        · unfold F_X5_judge F_X5_judgeSwap
          rw [if_neg (by decide), if_neg (by decide), if_neg (by decide), if_neg (by decide), if_neg (by decide), if_neg (by decide), if_neg (by decide), if_neg (by decide), if_neg (by decide), if_neg (by decide), if_neg (by decide), if_neg (by decide), if_neg (by decide), if_neg (by decide), if_neg (by decide), if_neg (by decide), if_neg (by decide), if_pos rfl, c_hasPlace_in hB hC hp, if_neg (by decide), c_hasPlace_in hB hC hq, if_neg (by decide), if_pos (by rw [e])]
          rfl
        · show F_X6_swaps u (nI p) (nI q) = _
          unfold F_X6_swaps
          rw [m_isPlace_in hB hu hp, Option.bind_some, if_neg (by decide), m_isPlace_in hB hu hq, Option.bind_some, if_neg (by decide), if_pos (by rw [e])]
          rfl
      · have en : ¬ nI p = nI q := fun h => e (by rw [nI_eq (by omega) (by omega)] at h; exact h)
        refine Or.inl ⟨swapB B p q, nI (homes (swapB B p q) (swapB B p q).cell), swapB_ok hB hp hq, fun w hC => ⟨?_, co_swap hB hC hp hq⟩, fun u hu => ?_, fun w w' _ h => ?_⟩
        · unfold F_X5_judge F_X5_judgeSwap
          rw [if_neg (by decide), if_neg (by decide), if_neg (by decide), if_neg (by decide), if_neg (by decide), if_neg (by decide), if_neg (by decide), if_neg (by decide), if_neg (by decide), if_neg (by decide), if_neg (by decide), if_neg (by decide), if_neg (by decide), if_neg (by decide), if_neg (by decide), if_neg (by decide), if_neg (by decide), if_pos rfl, c_hasPlace_in hB hC hp, if_neg (by decide), c_hasPlace_in hB hC hq, if_neg (by decide), if_neg en]
          rfl
        · have h1 := MB.setCell (v := B.cell q) hB hu hp
          have hok1 : (mkB B.r B.c (setf B.cell p (B.cell q)) B.goal B.bar B.cn).ok := ⟨hB.1, hB.2.1, setf_lt hB.2.2.1 (hB.2.2.1 q hq), hB.2.2.2.1, hB.2.2.2.2⟩
          have h2 := MB.setCell (v := B.cell p) hok1 h1 (p := q) hq
          have e3 : gI (pI (pI u 27 (14 + p) (nI (B.cell q))) 27 (14 + q) (nI (B.cell p))) 27 3 = B.cn 3 := h2.2.2.2.2.2 3 (by decide) (by decide)
          have h3 : MB (pI (pI (pI u 27 (14 + p) (nI (B.cell q))) 27 (14 + q) (nI (B.cell p))) 27 3 (B.cn 3 + 1)) 27 0 (swapB B p q) := h2.setC (i := 3) (by decide) (by decide)
          obtain ⟨u2, k1, k2⟩ := m_homes (swapB_ok hB hp hq) h3
          have hk : Kf [27] [] u (pI (pI (pI u 27 (14 + p) (nI (B.cell q))) 27 (14 + q) (nI (B.cell p))) 27 3 (B.cn 3 + 1)) := ((Kf.pI (D := [27]) (F := []) (by decide)).tr (Kf.pI (D := [27]) (F := []) (by decide)) (D := [27]) (F := []) (by decide) (by decide) (by decide) (by decide)).tr (Kf.pI (D := [27]) (F := []) (by decide)) (by decide) (by decide) (by decide) (by decide)
          refine ⟨pI u2 26 14 0, ?_, pI_same, (k2.mb (by decide) h3).p26, (hk.tr (k2.kf (F := [])) (D := [27, 33]) (F := []) (by decide) (by decide) (by decide) (by decide)).tr (Kf.p26 (D := []) (F := [14]) (by decide)) (by decide) (by decide) (by decide) (by decide)⟩
          show F_X6_swaps u (nI p) (nI q) = _
          unfold F_X6_swaps B_X6_swaps_45 B_X6_swaps_63 B_X6_swaps_73 B_X6_swaps_83
          rw [m_isPlace_in hB hu hp, Option.bind_some, if_neg (by decide), m_isPlace_in hB hu hq, Option.bind_some, if_neg (by decide), if_neg en, L14, ofs, ofs, L0, jchk_nI (by omega) (by omega), jchk_nI (by omega) (by omega), jchk_nI (by omega) (by omega), jchk_nI (by omega) (by omega), nI_clamp (by omega), nI_clamp (by omega), m_cell hu hp, m_cell hu hq, e3, k1]
          rfl
        · exact c_atHome (swapB_ok hB hp hq) h h.2.2.1
theorem ord_bar (hB : B.ok) (a b : Int32) : Ord B 120 a b (fun u => F_X6_bars u a) tmX (fun _ w' => some (F_X0_hasBar w' a)) := by
  have hd := dims hB
  rcases ixc a (B.r + B.c) (by omega) with h | ⟨l, hl, rfl⟩
  · refine Or.inr (Or.inl ⟨1, Or.inl rfl, by decide, fun w hC => ?_, fun u hu => ?_⟩)
    · unfold F_X5_judge
      rw [if_neg (by decide), if_neg (by decide), if_neg (by decide), if_neg (by decide), if_neg (by decide), if_neg (by decide), if_neg (by decide), if_neg (by decide), if_neg (by decide), if_neg (by decide), if_neg (by decide), if_neg (by decide), if_neg (by decide), if_neg (by decide), if_neg (by decide), if_neg (by decide), if_neg (by decide), if_neg (by decide), if_neg (by decide), if_neg (by decide), if_neg (by decide), if_neg (by decide), if_pos rfl, c_hasLine_out hB hC h, if_pos rfl]
      rfl
    · show F_X6_bars u a = _
      unfold F_X6_bars
      rw [m_isLine_out hB hu h, Option.bind_some, if_pos rfl]
      rfl
  · refine Or.inl ⟨barB B l, bI (!B.bar l), barB_ok hB hl, fun w hC => ⟨?_, co_bar hB hC (by omega) b⟩, fun u hu => ?_, fun w w' _ h => ?_⟩
    · unfold F_X5_judge
      rw [if_neg (by decide), if_neg (by decide), if_neg (by decide), if_neg (by decide), if_neg (by decide), if_neg (by decide), if_neg (by decide), if_neg (by decide), if_neg (by decide), if_neg (by decide), if_neg (by decide), if_neg (by decide), if_neg (by decide), if_neg (by decide), if_neg (by decide), if_neg (by decide), if_neg (by decide), if_neg (by decide), if_neg (by decide), if_neg (by decide), if_neg (by decide), if_neg (by decide), if_pos rfl, c_hasLine_in hB hC hl, if_neg (by decide)]
    · have h1 := MB.setBar (b := !B.bar l) hu (l := l) (by omega)
      have e1 : (fun j => if j = l then !B.bar l else B.bar j) = fun j => if j = l then !B.bar j else B.bar j := by
        funext j
        by_cases e : j = l
        · rw [if_pos e, if_pos e, e]
        · rw [if_neg e, if_neg e]
      rw [e1] at h1
      refine ⟨pI (pI u 27 (8 + l) (bI (!B.bar l))) 26 14 0, ?_, pI_same, MB.p26 (B := barB B l) h1, (Kf.pI (D := [27]) (F := []) (by decide)).tr (Kf.p26 (D := []) (F := [14]) (by decide)) (by decide) (by decide) (by decide) (by decide)⟩
      have e2 : (1 : Int32) - bI (B.bar l) = bI (!B.bar l) := by cases B.bar l <;> decide
      show F_X6_bars u (nI l) = _
      unfold F_X6_bars B_X6_bars_34
      rw [m_isLine_in hB hu hl, Option.bind_some, if_neg (by decide), L8, ofs, L0, jchk_nI (by omega) (by omega), jchk_nI (by omega) (by omega), jchk_nI (by omega) (by omega), nI_clamp (by omega), m_bar hu (by omega), e2, pI_same]
      rfl
    · show some (F_X0_hasBar w' (nI l)) = _
      rw [c_hasBar (barB_ok hB hl) h (by omega)]
      show some (bI (if l = l then !B.bar l else B.bar l)) = _
      rw [if_pos rfl]
theorem rng (a : Int32) (lo hi : Nat) (hlh : lo ≤ hi) (hh : hi < 2 ^ 30) : F_X6_in a (nI lo) (nI hi) = 0 ∨ ∃ j : Nat, lo ≤ j ∧ j ≤ hi ∧ a = nI j ∧ F_X6_in a (nI lo) (nI hi) = 1 := by
  rcases ixc a (hi + 1) (by omega) with h | ⟨j, hj, rfl⟩
  · refine Or.inl ?_
    unfold F_X6_in
    by_cases h0 : a < nI lo
    · rw [if_pos h0]
    · rw [if_neg h0, if_pos]
      rw [Int32.lt_iff_toInt_lt, nI_toInt (by omega)] at h0 ⊢
      rcases h with h | h
      · rw [Int32.lt_iff_toInt_lt, nI_toInt (by omega)] at h
        omega
      · rw [Int32.le_iff_toInt_le, nI_toInt (by omega)] at h
        omega
  · by_cases h1 : lo ≤ j
    · refine Or.inr ⟨j, h1, by omega, rfl, ?_⟩
      unfold F_X6_in
      rw [if_neg (nI_nlt h1 (by omega)), if_neg (nI_nlt (by omega) (by omega))]
    · refine Or.inl ?_
      unfold F_X6_in
      rw [if_pos (nI_lt (by omega) (by omega))]
theorem js_in (a b : Int32) : F_X5_judgeScramble a b = if F_X6_in a 0 999 = 0 then 2 else if F_X6_in b 1 9 = 0 then 2 else 0 := by
  unfold F_X5_judgeScramble B_X5_judgeScramble_15 B_X5_judgeScramble_16 F_X6_in
  by_cases h1 : a < 0
  · rw [if_pos h1, if_pos h1, if_pos rfl, if_pos rfl]
  · rw [if_neg h1, if_neg h1]
    by_cases h2 : (999 : Int32) < a
    · rw [if_pos h2, if_pos h2, if_pos rfl, if_pos rfl]
    · rw [if_neg h2, if_neg h2, if_neg (show ¬ (1 : Int32) = 0 by decide), if_neg (show ¬ (1 : Int32) = 0 by decide)]
      by_cases h3 : b < 1
      · rw [if_pos h3, if_pos h3, if_pos rfl]
      · rw [if_neg h3, if_neg h3]
        by_cases h4 : (9 : Int32) < b
        · rw [if_pos h4, if_pos h4, if_pos rfl]
        · rw [if_neg h4, if_neg h4, if_neg (show ¬ (1 : Int32) = 0 by decide)]
theorem m_mix {u : Wo} (hB : B.ok) (hu : MB u 27 0 B) {s n : Nat} (hs : s < 1000) (hn : n < 10) : ∃ u', jl4 (B_X6_scrambles_35 (nI n)) fu u (nI s) 0 0 = some (nI (mxn B s n), u') ∧ gI u' 26 14 = 0 ∧ MB u' 27 0 (mixB B s n) ∧ Kf [27, 33, 34] [14] u u' := by
  have hd := dims hB
  refine jl4_inv (P := fun k v a b c => MB v 27 0 (mxB B s k) ∧ Kf [27, 33, 34] [] u v ∧ a = nI (mxs s k) ∧ b = nI (mxn B s k) ∧ c = nI k) (Qr := fun o => ∃ u', o = some (nI (mxn B s n), u') ∧ gI u' 26 14 = 0 ∧ MB u' 27 0 (mixB B s n) ∧ Kf [27, 33, 34] [14] u u') n (by rw [fu4]; omega) ?_ ?_ ⟨hu, Kf.rf, rfl, rfl, rfl⟩
  · rintro k hk v a b c ⟨h1, h2, rfl, rfl, rfl⟩
    have hok := mxB_ok hB s k
    have hsm := mxB_s B s k
    have hml := mxs_lt s hs k
    have ht := mxt_lt hB s k
    have e1 : jrem ((73 : Int32) * nI (mxs s k) + 41) 1000 = nI (mxs s (k + 1)) := by
      rw [L73, pk_mul, L41, ofs, L1000, jrem_nI (by omega) (by decide) (by decide)]
      rfl
    have e0 : (2 : Int32) * nI ((mxB B s k).r + (mxB B s k).c) = nI (2 * (B.r + B.c)) := by rw [hsm.1, hsm.2.1, mul2]
    have e2 : jrem (nI (mxs s (k + 1))) (nI (2 * (B.r + B.c))) = nI (mxt B s k) := by
      have := mxs_lt s hs (k + 1)
      rw [jrem_nI (by omega) (by omega) (by omega)]
      rfl
    have e3 : F_X6_isOpen v (nI (mxt B s k)) = some (bI (!B.bar (mxt B s k / 2))) := by
      rw [m_isOpen hok h1 (by omega), hsm.2.2.2]
    have estep : ∀ K, B_X6_scrambles_35 (nI n) K v (nI (mxs s k)) (nI (mxn B s k)) (nI k) = if (!B.bar (mxt B s k / 2)) = true then (F_X6_makes v (nI (mxt B s k))).bind (fun q4 => K q4.2 (nI (mxs s (k + 1))) (nI (mxn B s k) + 1) (nI k + 1)) else K v (nI (mxs s (k + 1))) (nI (mxn B s k)) (nI k + 1) := by
      intro K
      unfold B_X6_scrambles_35 B_X6_scrambles_53 B_X6_scrambles_83
      rw [if_neg (nI_ge hk (by omega)), m_lines h1, Option.bind_some, e1, e0, e2, jchk_pos (nI_ne0 (by omega) (by omega)), e3, Option.bind_some, itb0]
    by_cases hb : B.bar (mxt B s k / 2) = true
    · refine Or.inl ⟨v, nI (mxs s (k + 1)), nI (mxn B s (k + 1)), nI (k + 1), ⟨?_, h2, rfl, rfl, rfl⟩, fun K => ?_⟩
      · unfold mxB
        rw [if_pos hb]
        exact h1
      · rw [estep, hb, if_neg (by decide), nI_succ, mxn, if_pos hb]
        rfl
    · rw [Bool.not_eq_true] at hb
      obtain ⟨u2, g1, g2, g3⟩ := m_makes hok h1 (t := mxt B s k) (by rw [hsm.1, hsm.2.1]; exact ht)
      refine Or.inl ⟨u2, nI (mxs s (k + 1)), nI (mxn B s (k + 1)), nI (k + 1), ⟨?_, h2.tr g3 (fun _ h => h) (fun _ h => h) (fun _ h => h) (fun _ h => h), rfl, rfl, rfl⟩, fun K => ?_⟩
      · unfold mxB
        rw [hb, if_neg (by decide)]
        exact g2
      · rw [estep, hb, if_pos (show (!false) = true from rfl), g1, Option.bind_some, nI_succ, mxn, hb, if_neg (by decide), nI_succ]
  · rintro v a b c ⟨h1, h2, rfl, rfl, rfl⟩ K
    have hsm := mxB_s B s n
    have e4 : gI v 27 4 = (mxB B s n).cn 4 := h1.2.2.2.2.2 4 (by decide) (by decide)
    have hc := h1.setC (i := 4) (v := (mxB B s n).cn 4 + 1) (by decide) (by decide)
    rw [hsm.1, hsm.2.1, hsm.2.2.1, hsm.2.2.2] at hc
    refine ⟨pI (pI v 27 4 ((mxB B s n).cn 4 + 1)) 26 14 0, ?_, pI_same, MB.p26 (B := mixB B s n) hc, (h2.tr (Kf.pI (D := [27]) (F := []) (by decide)) (D := [27, 33, 34]) (F := []) (by decide) (by decide) (by decide) (by decide)).tr (Kf.p26 (D := []) (F := [14]) (by decide)) (by decide) (by decide) (by decide) (by decide)⟩
    unfold B_X6_scrambles_35 B_X6_scrambles_89 B_X6_scrambles_99
    rw [if_pos (nI_le (Nat.le_refl _) (by omega)), e4]
    rfl
theorem mx_cn (B : Bd) (s : Nat) : ∀ k, (mxB B s k).cn 2 = B.cn 2 + nI (mxn B s k)
  | 0 => (Int32.add_zero _).symm
  | k + 1 => by
    have ih := mx_cn B s k
    unfold mxB mxn
    by_cases h : B.bar (mxt B s k / 2) = true
    · rw [if_pos h, if_pos h]
      exact ih
    · rw [if_neg h, if_neg h]
      show (mxB B s k).cn 2 + 1 = _
      rw [ih, nI_succ, Int32.add_assoc]
theorem ord_scramble (hB : B.ok) (a b : Int32) : Ord B 114 a b (fun u => F_X6_scrambles u a b) tmB (fun w w' => some (gI w' 1 5 - gI w 1 5)) := by
  have hd := dims hB
  have bad : F_X5_judgeScramble a b = 2 → (∀ u, F_X6_scrambles u a b = B_X6_scrambles_21 u) → Ord B 114 a b (fun u => F_X6_scrambles u a b) tmB (fun w w' => some (gI w' 1 5 - gI w 1 5)) := by
    intro h1 h2
    refine Or.inr (Or.inl ⟨2, Or.inr rfl, by decide, fun w hC => ?_, fun u hu => ?_⟩)
    · unfold F_X5_judge
      rw [if_neg (by decide), if_neg (by decide), if_neg (by decide), if_neg (by decide), if_neg (by decide), if_neg (by decide), if_neg (by decide), if_neg (by decide), if_neg (by decide), if_neg (by decide), if_neg (by decide), if_neg (by decide), if_neg (by decide), if_neg (by decide), if_neg (by decide), if_neg (by decide), if_pos rfl, h1]
      rfl
    · show F_X6_scrambles u a b = _
      rw [h2]
      rfl
  rcases rng a 0 999 (by decide) (by decide) with ha | ⟨s, -, hs, rfl, ha⟩
  · have ha : F_X6_in a 0 999 = 0 := ha
    refine bad (by rw [js_in, ha, if_pos rfl]) (fun u => ?_)
    unfold F_X6_scrambles
    rw [ha, if_pos rfl]
  · have ha : F_X6_in (nI s) 0 999 = 1 := ha
    rcases rng b 1 9 (by decide) (by decide) with hb | ⟨n, hn1, hn, rfl, hb⟩
    · have hb : F_X6_in b 1 9 = 0 := hb
      refine bad (by rw [js_in, ha, if_neg (by decide), hb, if_pos rfl]) (fun u => ?_)
      unfold F_X6_scrambles
      rw [ha, if_neg (by decide), hb, if_pos rfl]
    · have hb : F_X6_in (nI n) 1 9 = 1 := hb
      refine Or.inl ⟨mixB B s n, nI (mxn B s n), mixB_ok hB s n, fun w hC => ⟨?_, ?_⟩, fun u hu => ?_, fun w w' h1 h2 => ?_⟩
      · unfold F_X5_judge
        rw [if_neg (by decide), if_neg (by decide), if_neg (by decide), if_neg (by decide), if_neg (by decide), if_neg (by decide), if_neg (by decide), if_neg (by decide), if_neg (by decide), if_neg (by decide), if_neg (by decide), if_neg (by decide), if_neg (by decide), if_neg (by decide), if_neg (by decide), if_neg (by decide), if_pos rfl, js_in, ha, hb, if_neg (by decide), if_neg (by decide)]
      · obtain ⟨w', k1, k2, k3, -⟩ := co_scramble hB hC (s := s) (n := n) (by omega) (by omega)
        exact ⟨w', k1, k2, k3⟩
      · obtain ⟨u', k1, k2, k3, k4⟩ := m_mix hB hu (s := s) (n := n) (by omega) (by omega)
        refine ⟨u', ?_, k2, k3, k4⟩
        show F_X6_scrambles u (nI s) (nI n) = _
        unfold F_X6_scrambles
        rw [ha, hb, if_neg (by decide), if_neg (by decide), k1]
      · have e1 : gI w 1 5 = B.cn 2 := h1.2.2.2.2.2 2 (by decide) (by decide)
        have e2 : gI w' 1 5 = B.cn 2 + nI (mxn B s n) := (h2.2.2.2.2.2 2 (by decide) (by decide)).trans (mx_cn B s n)
        show some (gI w' 1 5 - gI w 1 5) = _
        rw [e1, e2, Int32.add_comm, Int32.add_sub_cancel]
end ORD
