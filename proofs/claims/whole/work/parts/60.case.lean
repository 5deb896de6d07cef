/-! THE LAW'S CASES THAT ONLY READ -/
section CSa
variable {w : Wo} {B : Bd}
theorem m_cell (hM : MB w 27 0 B) {p : Nat} (hp : p < B.n) : gI w 27 (14 + p) = nI (B.cell p) := by
  have h := hM.2.2.1 p hp
  rw [Nat.zero_add] at h
  exact h
theorem m_goal (hM : MB w 27 0 B) {p : Nat} (hp : p < B.n) : gI w 27 (23 + p) = gv (B.goal p) := by
  have h := hM.2.2.2.1 p hp
  rw [Nat.zero_add] at h
  exact h
theorem m_bar (hM : MB w 27 0 B) {l : Nat} (hl : l < 6) : gI w 27 (8 + l) = bI (B.bar l) := by
  have h := hM.2.2.2.2.1 l hl
  rw [Nat.zero_add] at h
  exact h
theorem MB.p26 {k : Nat} {v : Int32} (hM : MB w 27 0 B) : MB (pI w 26 k v) 27 0 B := (Kf.p26 (D := []) (F := [k]) List.mem_cons_self).mb (by decide) (by decide) hM
theorem msign_cell : ∀ v, v < 12 → F_X6_signOf (nI v) = sgI v := by decide +kernel
end CSa
theorem K_8 {w : Wo} (hI : Inv w) (x1 x2 x3 : Int32) : ∃ w', F_K_8 w x1 x2 x3 = some w' ∧ Inv w' := by
  obtain ⟨A, hA, hC, hM⟩ := hI
  have hB := hA.1
  have hd := dims hB
  rcases ixc x1 A.B.n (by omega) with h | ⟨p, hp, rfl⟩
  · refine fin_i (FL := F_L_letter w x1) (FM := fun u => F_X6_letter u x1) (k := 1) (v := 0) hM hA ?_ hC AgM.rf (RO.mo fun u hu => ⟨pI u 26 14 1, ?_, rfl, Kf.p26 (by decide)⟩)
    · unfold F_L_letter F_X5_letter F_X5_needIndex
      rw [c_hasPlace_out hB hC.1 h, if_pos rfl]
      rfl
    · show F_X6_letter u x1 = _
      unfold F_X6_letter
      rw [m_isPlace_out hB hu h, Option.bind_some, if_pos rfl]
      rfl
  · have hc := hB.2.2.1 p hp
    have e : F_X5_signOf (F_X5_codeAt (gL w 1 2) (nI p)) = sgI (A.B.cell p) := by rw [codeAt_nib (by omega), hC.1.2.2.1 p hp, signOf_nI _ (by omega)]
    refine fin_i (FL := F_L_letter w (nI p)) (FM := fun u => F_X6_letter u (nI p)) (k := 0) (v := sgI (A.B.cell p)) hM hA ?_ hC AgM.rf (RO.mo fun u hu => ⟨pI u 26 14 0, ?_, rfl, Kf.p26 (by decide)⟩)
    · unfold F_L_letter F_X5_letter F_X5_needIndex
      rw [c_hasPlace_in hB hC.1 hp, if_neg (by decide), ← e]
      rfl
    · show F_X6_letter u (nI p) = _
      unfold F_X6_letter B_X6_letter_14 B_X6_letter_17
      rw [m_isPlace_in hB hu hp, Option.bind_some, if_neg (by decide), pI_same, if_pos rfl, L14, ofs, L0, jchk_nI (by omega) (by omega), nI_clamp (by omega), m_cell hu.p26 hp, msign_cell _ hc]
theorem K_9 {w : Wo} (hI : Inv w) (x1 x2 x3 : Int32) : ∃ w', F_K_9 w x1 x2 x3 = some w' ∧ Inv w' := by
  obtain ⟨A, hA, hC, hM⟩ := hI
  have hB := hA.1
  have hd := dims hB
  rcases ixc x1 A.B.n (by omega) with h | ⟨p, hp, rfl⟩
  · refine fin_i (FL := F_L_sign w x1) (FM := fun u => F_X6_sign u x1) (k := 1) (v := 0) hM hA ?_ hC AgM.rf (RO.mo fun u hu => ⟨pI u 26 14 1, ?_, rfl, Kf.p26 (by decide)⟩)
    · unfold F_L_sign F_X5_sign F_X5_needIndex
      rw [c_hasPlace_out hB hC.1 h, if_pos rfl]
      rfl
    · show F_X6_sign u x1 = _
      unfold F_X6_sign
      rw [m_isPlace_out hB hu h, Option.bind_some, if_pos rfl]
      rfl
  · have hc := hB.2.2.2.1 p hp
    have e : F_X5_signOf (F_X5_codeAt (gL w 1 3) (nI p)) = sgI (A.B.goal p) := by rw [codeAt_nib (by omega), hC.1.2.2.2.1 p hp, signOf_nI _ (by omega)]
    refine fin_i (FL := F_L_sign w (nI p)) (FM := fun u => F_X6_sign u (nI p)) (k := 0) (v := sgI (A.B.goal p)) hM hA ?_ hC AgM.rf (RO.mo fun u hu => ⟨pI u 26 14 0, ?_, rfl, Kf.p26 (by decide)⟩)
    · unfold F_L_sign F_X5_sign F_X5_needIndex
      rw [c_hasPlace_in hB hC.1 hp, if_neg (by decide), ← e]
      rfl
    · show F_X6_sign u (nI p) = _
      unfold F_X6_sign B_X6_sign_14 B_X6_sign_17
      rw [m_isPlace_in hB hu hp, Option.bind_some, if_neg (by decide), pI_same, if_pos rfl, L23, ofs, L0, jchk_nI (by omega) (by omega), nI_clamp (by omega), m_goal hu.p26 hp, msignOf_nI _ hc]
theorem K_10 {w : Wo} (hI : Inv w) (x1 x2 x3 : Int32) : ∃ w', F_K_10 w x1 x2 x3 = some w' ∧ Inv w' := by
  obtain ⟨A, hA, hC, hM⟩ := hI
  have hB := hA.1
  have hd := dims hB
  rcases ixc x1 (A.B.r + A.B.c) (by omega) with h | ⟨p, hp, rfl⟩
  · refine fin_b (FL := F_L_isBarred w x1) (FM := fun u => F_X6_isBarred u x1) (k := 1) (b := false) hM hA ?_ hC AgM.rf (RO.mo fun u hu => ⟨pI u 26 14 1, ?_, rfl, Kf.p26 (by decide)⟩)
    · unfold F_L_isBarred F_X5_isBarred F_X5_needIndex
      rw [c_hasLine_out hB hC.1 h, if_pos rfl]
      rfl
    · show F_X6_isBarred u x1 = _
      unfold F_X6_isBarred
      rw [m_isLine_out hB hu h, Option.bind_some, if_pos rfl]
      rfl
  · have e := c_hasBar hB hC.1 (l := p) (by omega)
    refine fin_b (FL := F_L_isBarred w (nI p)) (FM := fun u => F_X6_isBarred u (nI p)) (k := 0) (b := A.B.bar p) hM hA ?_ hC AgM.rf (RO.mo fun u hu => ⟨pI u 26 14 0, ?_, rfl, Kf.p26 (by decide)⟩)
    · unfold F_L_isBarred F_X5_isBarred F_X5_needIndex
      rw [c_hasLine_in hB hC.1 hp, if_neg (by decide)]
      show (if F_X0_hasBar w (nI p) = 0 then some ((0 : Int32), pL w 36 0 0) else some (0, pL w 36 0 1)) = _
      rw [e]
      cases A.B.bar p <;> rfl
    · show F_X6_isBarred u (nI p) = _
      unfold F_X6_isBarred B_X6_isBarred_14 B_X6_isBarred_17
      rw [m_isLine_in hB hu hp, Option.bind_some, if_neg (by decide), pI_same, if_pos rfl, L8, ofs, L0, jchk_nI (by omega) (by omega), nI_clamp (by omega), m_bar hu.p26 (by omega)]
      cases A.B.bar p <;> rfl
theorem K_16 {w : Wo} (hI : Inv w) (x1 x2 x3 : Int32) : ∃ w', F_K_16 w x1 x2 x3 = some w' ∧ Inv w' := by
  obtain ⟨A, hA, hC, hM⟩ := hI
  have hB := hA.1
  refine fin_q (FC := F_X5_home w) (FM := fun u => F_X6_home u) (v := nI (homes A.B A.B.cell)) (k := 0) hM hA ?_ hC (RO.mo (ro_done fun u hu => ?_))
  · unfold F_X5_home
    rw [c_atHome hB hC.1 hC.1.2.2.1, Option.bind_some]
  · obtain ⟨u2, h1, h2⟩ := m_homes hB hu
    refine ⟨u2, ?_, h2.kf.mono (by decide) (fun _ h => h)⟩
    show F_X6_home u = _
    unfold F_X6_home
    rw [h1, Option.bind_some]
theorem m_homeBehind {u : Wo} {B : Bd} (hB : B.ok) (hu : MB u 27 0 B) {t : Nat} (ht : t < 2 * (B.r + B.c)) : ∃ u2, F_X6_homeBehind u (nI t) = some (nI (homes B (tn B t B.cell)), u2) ∧ Keep [33, 34] u u2 := by
  obtain ⟨u2, h1, h2, h3⟩ := m_tries hB hu
  obtain ⟨u3, h4, h5, h6⟩ := m_turnsTried hB (h2.mb (by decide) hu) h3 ht
  refine ⟨u3, ?_, h2.tr h5 (by decide) (fun _ h => h)⟩
  unfold F_X6_homeBehind
  rw [h1, Option.bind_some, h4, Option.bind_some, m_homeTried (f := tn B t B.cell) hB (h5.mb (by decide) (h2.mb (by decide) hu)) (fun p hp => hB.2.2.1 _ (bk_lt hB ht hp)) h6, Option.bind_some]
theorem c_homeBehind {w : Wo} {B : Bd} (hB : B.ok) (hC : CB w 1 B) {t : Nat} (ht : t < 2 * (B.r + B.c)) : ∃ y, F_X0_turned w (gL w 1 2) (nI t) = some y ∧ F_X0_atHome w y = some (nI (homes B (tn B t B.cell))) := by
  have hd := dims hB
  obtain ⟨y, h1, h2⟩ := c_turned hB hC (gL w 1 2) ht
  exact ⟨y, h1, c_atHome hB hC (fun p hp => by rw [h2 p (by omega), hC.2.2.1 _ (bk_lt hB ht hp)]; rfl)⟩
theorem K_17 {w : Wo} (hI : Inv w) (x1 x2 x3 : Int32) : ∃ w', F_K_17 w x1 x2 x3 = some w' ∧ Inv w' := by
  obtain ⟨A, hA, hC, hM⟩ := hI
  have hB := hA.1
  have hd := dims hB
  rcases ixc x1 (2 * (A.B.r + A.B.c)) (by omega) with h | ⟨p, hp, rfl⟩
  · refine fin_i (FL := F_L_would w x1) (FM := fun u => F_X6_would u x1) (k := 1) (v := 0) hM hA ?_ hC AgM.rf (RO.mo (ro_fails fun u hu => ?_))
    · unfold F_L_would F_X5_would F_X5_needIndex
      rw [c_hasTurn_out hB hC.1 h, if_pos rfl]
      rfl
    · show F_X6_would u x1 = _
      unfold F_X6_would
      rw [m_isTurn_out hB hu h, Option.bind_some, if_pos rfl]
  · obtain ⟨y, e1, e2⟩ := c_homeBehind hB hC.1 hp
    refine fin_i (FL := F_L_would w (nI p)) (FM := fun u => F_X6_would u (nI p)) (k := 0) (v := nI (homes A.B (tn A.B p A.B.cell))) hM hA ?_ hC AgM.rf (RO.mo (ro_done fun u hu => ?_))
    · unfold F_L_would F_X5_would F_X5_needIndex
      rw [c_hasTurn_in hB hC.1 hp, if_neg (by decide)]
      show (((F_X0_turned w (gL w 1 2) (nI p)).bind fun q4 => ((F_X0_atHome w q4).bind fun q5 => (some (.inr (q5, w))))) : Option ((Nat × Wo) ⊕ (Int32 × Wo))).bind _ = _
      rw [e1, Option.bind_some, e2]
      rfl
    · obtain ⟨u2, h1, h2⟩ := m_homeBehind hB hu hp
      refine ⟨u2, ?_, h2.kf⟩
      show F_X6_would u (nI p) = _
      unfold F_X6_would
      rw [m_isTurn_in hB hu hp, Option.bind_some, if_neg (by decide), h1, Option.bind_some]
theorem K_20 {w : Wo} (hI : Inv w) (x1 x2 x3 : Int32) : ∃ w', F_K_20 w x1 x2 x3 = some w' ∧ Inv w' := by
  obtain ⟨A, hA, hC, hM⟩ := hI
  have hB := hA.1
  have hd := dims hB
  rcases ixc x1 A.B.n (by omega) with h | ⟨p, hp, rfl⟩
  · refine fin_i (FL := F_L_far w x1 x2) (FM := fun u => F_X6_far u x1 x2) (k := 1) (v := 0) hM hA ?_ hC AgM.rf (RO.mo (ro_fails fun u hu => ?_))
    · unfold F_L_far F_X5_far
      rw [c_hasPlace_out hB hC.1 h, if_pos rfl]
      rfl
    · show F_X6_far u x1 x2 = _
      unfold F_X6_far
      rw [m_isPlace_out hB hu h, Option.bind_some, if_pos rfl]
      rfl
  · rcases ixc x2 A.B.n (by omega) with h | ⟨q, hq, rfl⟩
    · refine fin_i (FL := F_L_far w (nI p) x2) (FM := fun u => F_X6_far u (nI p) x2) (k := 1) (v := 0) hM hA ?_ hC AgM.rf (RO.mo (ro_fails fun u hu => ?_))
      · unfold F_L_far F_X5_far
        rw [c_hasPlace_in hB hC.1 hp, if_neg (by decide), c_hasPlace_out hB hC.1 h, if_pos rfl]
        rfl
      · show F_X6_far u (nI p) x2 = _
        unfold F_X6_far
        rw [m_isPlace_in hB hu hp, Option.bind_some, if_neg (by decide), m_isPlace_out hB hu h, Option.bind_some, if_pos rfl]
        rfl
    · refine fin_i (FL := F_L_far w (nI p) (nI q)) (FM := fun u => F_X6_far u (nI p) (nI q)) (k := 0) (v := nI (dst A.B.r A.B.c p q)) hM hA ?_ hC AgM.rf (RO.mo (ro_done fun u hu => ?_))
      · unfold F_L_far F_X5_far B_X5_far_27 F_X5_needIndex
        rw [c_hasPlace_in hB hC.1 hp, if_neg (by decide), c_hasPlace_in hB hC.1 hq, if_neg (by decide), if_neg (by decide)]
        show (((F_X0_distance w (nI p) (nI q)).bind fun q4 => (some (.inr (q4, w)))) : Option ((Nat × Wo) ⊕ (Int32 × Wo))).bind _ = _
        rw [c_dist hB hC.1 hp hq]
        rfl
      · refine ⟨u, ?_, Kf.rf⟩
        show F_X6_far u (nI p) (nI q) = _
        unfold F_X6_far
        rw [m_isPlace_in hB hu hp, Option.bind_some, if_neg (by decide), m_isPlace_in hB hu hq, Option.bind_some, if_neg (by decide), hu.2.1, m_steps hB hu hp hq, Option.bind_some]
theorem K_21 {w : Wo} (hI : Inv w) (x1 x2 x3 : Int32) : ∃ w', F_K_21 w x1 x2 x3 = some w' ∧ Inv w' := by
  obtain ⟨A, hA, hC, hM⟩ := hI
  have hB := hA.1
  have hd := dims hB
  rcases ixc x1 (A.B.r + A.B.c) (by omega) with h | ⟨p, hp, rfl⟩
  · refine fin_b (FL := F_L_sings w x1) (FM := fun u => F_X6_sings u x1) (k := 1) (b := false) hM hA ?_ hC AgM.rf (RO.mo fun u hu => ⟨pI u 26 14 1, ?_, rfl, Kf.p26 (by decide)⟩)
    · unfold F_L_sings F_X5_sings F_X5_needIndex
      rw [c_hasLine_out hB hC.1 h, if_pos rfl]
      rfl
    · show F_X6_sings u x1 = _
      unfold F_X6_sings
      rw [m_isLine_out hB hu h, Option.bind_some, if_pos rfl]
      rfl
  · refine fin_b (FL := F_L_sings w (nI p)) (FM := fun u => F_X6_sings u (nI p)) (k := 0) (b := song A.B p) hM hA ?_ hC AgM.rf (RO.mo fun u hu => ⟨pI u 26 14 0, ?_, rfl, Kf.p26 (by decide)⟩)
    · unfold F_L_sings F_X5_sings F_X5_needIndex
      rw [c_hasLine_in hB hC.1 hp, if_neg (by decide)]
      show (((F_X0_hasSong w (nI p)).bind fun q4 => (some (.inr (q4, w)))) : Option ((Nat × Wo) ⊕ (Int32 × Wo))).bind _ = _
      rw [c_hasSong hB hC.1 hp]
      cases song A.B p <;> rfl
    · show F_X6_sings u (nI p) = _
      unfold F_X6_sings B_X6_sings_14 B_X6_sings_17
      rw [m_isLine_in hB hu hp, Option.bind_some, if_neg (by decide), pI_same, if_pos rfl, m_isSinging hB hu.p26 hp, Option.bind_some]
      cases song A.B p <;> rfl
theorem K_22 {w : Wo} (hI : Inv w) (x1 x2 x3 : Int32) : ∃ w', F_K_22 w x1 x2 x3 = some w' ∧ Inv w' := by
  obtain ⟨A, hA, hC, hM⟩ := hI
  have hB := hA.1
  have hd := dims hB
  refine fin_q (FC := F_X5_singing w) (FM := fun u => F_X6_singing u) (v := nI (cnt (song A.B) (A.B.r + A.B.c))) (k := 0) hM hA ?_ hC (RO.mo (ro_done fun u hu => ⟨u, ?_, Kf.rf⟩))
  · unfold F_X5_singing
    refine jl2_run (fun k => nI (cnt (song A.B) k)) (fun k => nI k) (A.B.r + A.B.c) (by rw [fu4]; omega) (fun k hk K => ?_) (fun K => ?_) rfl rfl
    · unfold B_X5_singing_4 B_X5_singing_29
      rw [c_lines hB hC.1, if_neg (nI_ge hk (by omega)), c_hasSong hB hC.1 hk, Option.bind_some, itb0, nI_succ]
      by_cases h : song A.B k = true
      · rw [if_pos h, cnt_yes h, nI_succ]
      · rw [if_neg h, cnt_no h]
    · unfold B_X5_singing_4
      rw [c_lines hB hC.1, if_pos (nI_le (Nat.le_refl _) (by omega))]
  · show F_X6_singing u = _
    unfold F_X6_singing
    refine jl2_run (fun k => nI (cnt (song A.B) k)) (fun k => nI k) (A.B.r + A.B.c) (by rw [fu4]; omega) (fun k hk K => ?_) (fun K => ?_) rfl rfl
    · unfold B_X6_singing_4 B_X6_singing_26
      rw [m_lines hu, Option.bind_some, if_neg (nI_ge hk (by omega)), m_isSinging hB hu hk, Option.bind_some, itb0, nI_succ]
      by_cases h : song A.B k = true
      · rw [if_pos h, cnt_yes h, nI_succ]
      · rw [if_neg h, cnt_no h, L0, ofs]
        rfl
    · unfold B_X6_singing_4 B_X6_singing_34
      rw [m_lines hu, Option.bind_some, if_pos (nI_le (Nat.le_refl _) (by omega))]
theorem K_30 {w : Wo} (hI : Inv w) (x1 x2 x3 : Int32) : ∃ w', F_K_30 w x1 x2 x3 = some w' ∧ Inv w' := by
  obtain ⟨A, hA, hC, hM⟩ := hI
  have e : F_X6_errorPosition w = some (A.er, pI w 26 14 0) := by
    unfold F_X6_errorPosition
    rw [hM.2.2.2.2.1]
    rfl
  have hk : Kf [] [14] w (pI w 26 14 0) := Kf.p26 (by decide)
  refine ⟨pI w 26 14 0, ?_, A, hA, hC.ag (hk.agc (by decide)), hk.mi (by decide) (by decide) (by decide) hM⟩
  unfold F_K_30
  rw [e, Option.bind_some, jchk_pos]
  exact hC.2.2.2.2.1
