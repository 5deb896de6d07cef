/-! THE CALLS THAT CHANGE -/
def Abs.wr (A : Abs) (why : Nat) (det : Int32) : Abs := mkA A.B A.sv A.S A.ct A.hs A.tl A.ip A.er why det A.ll A.ln
theorem Aok.wr {A : Abs} {why : Nat} {det : Int32} (h : Aok A) (hw : why < 6) : Aok (A.wr why det) := ⟨h.1, h.2.1, h.2.2.1, h.2.2.2.1, h.2.2.2.2.1, h.2.2.2.2.2.1, hw, h.2.2.2.2.2.2.2⟩
theorem CI.wr {w : Wo} {A : Abs} {why : Nat} {det : Int32} (h : CI w A) (h0 : 0 < why) : CI (pI (pI w 0 10 (nI why)) 0 11 det) (A.wr why det) := by
  have g : ∀ a, a ≠ 0 → ∀ b, gI (pI (pI w 0 10 (nI why)) 0 11 det) a b = gI w a b ∧ gL (pI (pI w 0 10 (nI why)) 0 11 det) a b = gL w a b := fun a h1 b => ⟨by rw [gI_pI, if_neg (by omega), gI_pI, if_neg (by omega)], rfl⟩
  have g0 : ∀ b, b ≠ 10 → b ≠ 11 → gI (pI (pI w 0 10 (nI why)) 0 11 det) 0 b = gI w 0 b := fun b h1 h2 => by rw [gI_pI, if_neg (by omega), gI_pI, if_neg (by omega)]
  obtain ⟨h1, ⟨h2, h3⟩, ⟨nx, h4, h5, h6, h7⟩, ⟨h8, h9⟩, h10, -, h13, h14⟩ := h
  refine ⟨CB_cg (g 1 (by decide)) h1, ⟨(g0 12 (by decide) (by decide)).trans h2, fun e => CB_cg (g 3 (by decide)) (h3 e)⟩, ⟨nx, h4, (g 4 (by decide) _).1.trans h5, (g 4 (by decide) _).1.trans h6, fun i hi => CB_cg (g (hix nx A.ct i) (by have := hix_r nx A.ct i; omega)) (h7 i hi)⟩, ⟨(g0 8 (by decide) (by decide)).trans h8, fun i hi => (g 25 (by decide) _).1.trans (h9 i hi)⟩, (g0 9 (by decide) (by decide)).trans h10, ⟨?_, fun _ => pI_same⟩, (g 19 (by decide) _).1.trans h13, fun i hi => (g 20 (by decide) _).1.trans (h14 i hi)⟩
  show _ = wyC why
  unfold wyC
  rw [if_neg (by omega), gI_pI, if_neg (by omega), pI_same]
theorem MI.wr {w w' : Wo} {A : Abs} {D F : List Nat} {why : Nat} {det : Int32} (h : MI w A) (hk : Kf D F w w') (hD : ∀ a, a ∈ [29, 30, 31, 32] → a ∉ D) (h26 : 26 ∉ D) (hF : ∀ b, b ∈ [3, 5, 7, 8, 13] → b ∉ F) (hB : MB w' 27 0 A.B) (h9 : gI w' 26 9 = nI why) (h10 : gI w' 26 10 = det) : MI w' (A.wr why det) := by
  have g : ∀ a, a ∈ [29, 30, 31, 32] → ∀ b, gI w' a b = gI w a b := fun a ha b => hk.1 a b (hD a ha) (fun e => by
    rw [e] at ha
    exact absurd ha (by decide))
  have f : ∀ b, b ∈ [3, 5, 7, 8, 13] → gI w' 26 b = gI w 26 b := fun b hb => hk.1 26 b h26 (fun _ => hF b hb)
  obtain ⟨h1, ⟨h2, h3⟩, ⟨h6, h7⟩, ⟨h8, h9'⟩, h10', -, h13, h14⟩ := h
  exact ⟨hB, ⟨(f 5 (by decide)).trans h2, fun e => MB_cg (g 30 (by decide)) (h3 e)⟩, ⟨(f 3 (by decide)).trans h6, fun i hi => MB_cg (g 29 (by decide)) (h7 i hi)⟩, ⟨(f 7 (by decide)).trans h8, fun i hi => (g 31 (by decide) _).trans (h9' i hi)⟩, (f 8 (by decide)).trans h10', ⟨h9, fun _ => h10⟩, (f 13 (by decide)).trans h13, fun i hi => (g 32 (by decide) _).trans (h14 i hi)⟩
theorem HC.kd {w w' : Wo} {D : List Nat} {ct : Nat} {hs : Nat → Bd} (h : HC w ct hs) (hk : Kd D w w') (hD : ∀ a, a ∈ rgD → a ∉ D) : HC w' ct hs := by
  obtain ⟨nx, h1, h2, h3, h4⟩ := h
  refine ⟨nx, h1, (hk 4 1 (hD 4 (by decide))).1.trans h2, (hk 4 2 (hD 4 (by decide))).1.trans h3, fun i hi => hk.cb (hD _ ?_) (h4 i hi)⟩
  have hr := hix_r nx ct i
  generalize hix nx ct i = y at hr
  have : ∀ y, y < 14 → 6 ≤ y → y ∈ rgD := by decide
  exact this y hr.2 hr.1
theorem HM.kf {w w' : Wo} {D F : List Nat} {ct : Nat} {hs : Nat → Bd} (h : HM w ct hs) (hk : Kf D F w w') (h29 : 29 ∉ D) (h26 : 26 ∉ D) (h3 : 3 ∉ F) : HM w' ct hs := ⟨(hk.1 26 3 h26 (fun _ => h3)).trans h.1, fun i hi => hk.mb h29 (by decide) (h.2 i hi)⟩
def PM (FM : Wo → Option (Int32 × Wo)) (u : Wo) : Option (Int32 × Wo) := (F_X6_looksBack u).bind fun q1 => ((FM q1).bind fun q2 => ((F_X6_kept q2.2 q2.1).bind fun q4 => (some ((q4.1, q4.2)))))
theorem MO.map {A A' : Abs} {k v : Int32} {F G : Wo → Option (Int32 × Wo)} {g : Int32 → Int32} (h : MO A A' k v F) (hG : ∀ u v u2, F u = some (v, u2) → G u = some (g v, u2)) : MO A A' k (g v) G := by
  intro u hu
  obtain ⟨u2, h1, h2⟩ := h u hu
  exact ⟨u2, hG u v u2 h1, h2⟩
theorem ord_fin {w : Wo} {A : Abs} {k a b : Int32} {FM : Wo → Option (Int32 × Wo)} {tm : Nat → Int32} {VC : Wo → Wo → Option Int32} (hA : Aok A) (hC : CI w A) (hO : Ord A.B k a b FM tm VC) :
    ∃ A', Aok A' ∧ ((∃ val w1, F_X5_change w k a b = some (.inr w1) ∧ VC w w1 = some val ∧ CI w1 A' ∧ AgM w w1 ∧ MO A A' 0 val (PM FM)) ∨ (∃ (n : Nat) (w1 : Wo), (n = 1 ∨ n = 2 ∨ n = 3) ∧ F_X5_change w k a b = some (.inl (n, w1)) ∧ tm n ≠ 0 ∧ CI w1 A' ∧ AgM w w1 ∧ MO A A' (tm n) 0 (PM FM))) := by
  have hB := hA.1
  rcases hO with ⟨B', val, hB', hc, hm, hv⟩ | ⟨n, hn, ht, hc, hm⟩ | ⟨why, det, h0, h6, ht, hc, hm⟩
  · have hH : HC w A.ct A.hs := hC.2.2.1
    obtain ⟨w2, g1, g2, g3⟩ := c_keep (h := 1) (Or.inl rfl) hH hA.2.2.1 hC.1
    obtain ⟨w3, k1, k2, k3⟩ := (hc w2 (g3.cb (by decide) hC.1)).2
    have hkd : Kd (1 :: rgD) w w3 := g3.tr k3 (by decide) (by decide)
    have hct : ctP A.ct ≤ 8 := by
      have := hA.2.2.1
      unfold ctP
      split <;> omega
    have hhs : ∀ i, i < ctP A.ct → (hsP A.ct A.hs A.B i).ok := by
      intro i hi
      have hok := hA.2.2.2.1
      unfold ctP at hi
      unfold hsP
      by_cases h8 : A.ct = 8
      · rw [if_pos h8] at hi ⊢
        show (if i = 7 then A.B else A.hs (i + 1)).ok
        by_cases h7 : i = 7
        · rw [if_pos h7]
          exact hB
        · rw [if_neg h7]
          exact hok _ (by omega)
      · rw [if_neg h8] at hi ⊢
        show (if i = A.ct then A.B else A.hs i).ok
        by_cases h7 : i = A.ct
        · rw [if_pos h7]
          exact hB
        · rw [if_neg h7]
          exact hok _ (by omega)
    refine ⟨A.wb B' (ctP A.ct) (hsP A.ct A.hs A.B), hA.wb hB' hct hhs, Or.inl ⟨val, w3, ?_, hv w w3 hC.1 k2, hC.wb hkd (by decide) k2 (g2.kd k3 (by decide)), hkd.agm (by decide), fun u hu => ?_⟩⟩
    · unfold F_X5_change
      rw [(hc w hC.1).1, Option.bind_some]
      show (((F_X2_keep 1 w).bind fun q5 => ((F_X5_carryOut q5 k a b).bind fun q6 => (some (.inr q6)))) : Option ((Nat × Wo) ⊕ Wo)) = _
      rw [g1, Option.bind_some, k1, Option.bind_some]
    · obtain ⟨u1, a1, a2, a3⟩ := m_looksBack hB hu.1
      obtain ⟨u2, b1, b2, b3, b4⟩ := hm u1 (a3.mb (by decide) (by decide) hu.1)
      have hHu : HM u A.ct A.hs := hu.2.2.1
      have hk12 : Kf [27, 28, 33, 34] [14] u u2 := a3.tr b4 (by decide) (by decide) (by decide) (by decide)
      obtain ⟨u3, c1, c2, c3⟩ := m_keptF (v := val) hB hA.2.2.1 b2 (hHu.kf hk12 (by decide) (by decide) (by decide)) hA.2.2.2.1 (b4.mb (by decide) (by decide) a2)
      have hk : Kf [27, 28, 29, 33, 34] [3, 14] u u3 := hk12.tr c3 (by decide) (by decide) (by decide) (by decide)
      refine ⟨u3, ?_, (c3.1 26 14 (by decide) (fun _ => by decide)).trans b2, hu.wb hk (by decide) (by decide) (by decide) (c3.mb (by decide) (by decide) b3) c2, hk.agc (by decide), hk.2.1⟩
      unfold PM
      rw [a1, Option.bind_some, b1, Option.bind_some]
      show (F_X6_kept u2 val).bind _ = _
      rw [c1]
      rfl
  · refine ⟨A, hA, Or.inr ⟨n, w, by omega, ?_, ht, hC, AgM.rf, fun u hu => ?_⟩⟩
    · unfold F_X5_change
      rw [hc w hC.1, Option.bind_some]
      rcases hn with rfl | rfl <;> rfl
    · obtain ⟨u1, a1, a2, a3⟩ := m_looksBack hB hu.1
      have b1 := hm u1 (a3.mb (by decide) (by decide) hu.1)
      obtain ⟨u2, hu2⟩ : ∃ u2, u2 = pI (pI u1 26 14 (tm n)) 26 11 0 := ⟨_, rfl⟩
      have hk0 : Kf [] [11, 14] u1 u2 := by
        rw [hu2]
        exact (Kf.p26 (D := []) (F := [14]) (by decide)).tr (Kf.p26 (D := []) (F := [11]) (by decide)) (by decide) (by decide) (by decide) (by decide)
      have h14 : gI u2 26 14 = tm n := by
        rw [hu2, gI_pI, if_neg (by omega), pI_same]
      obtain ⟨u3, c1, c2, c3⟩ := m_keptT (v := 0) hB (by rw [h14]; exact ht) (hk0.mb (by decide) (by decide) a2)
      have hk : Kf [27, 28] [11, 14] u u3 := (a3.tr hk0 (D := [28]) (F := [11, 14]) (by decide) (by decide) (by decide) (by decide)).tr c3 (by decide) (by decide) (by decide) (by decide)
      have hHu : HM u A.ct A.hs := hu.2.2.1
      refine ⟨u3, ?_, (c3.1 26 14 (by decide) (fun _ => by decide)).trans h14, hu.wb (B := A.B) (ct := A.ct) (hs := A.hs) hk (by decide) (by decide) (by decide) c2 (hHu.kf hk (by decide) (by decide) (by decide)), hk.agc (by decide), hk.2.1⟩
      unfold PM
      rw [a1, Option.bind_some, b1, Option.bind_some, ← hu2]
      show (F_X6_kept u2 0).bind _ = _
      rw [c1]
      rfl
  · refine ⟨A.wr why det, hA.wr h6, Or.inr ⟨3, pI (pI w 0 10 (nI why)) 0 11 det, by omega, ?_, ht, hC.wr h0, (AgM.pI (by omega)).tr (AgM.pI (by omega)), fun u hu => ?_⟩⟩
    · unfold F_X5_change
      rw [hc w hC.1, Option.bind_some]
      rfl
    · obtain ⟨u1, a1, a2, a3⟩ := m_looksBack hB hu.1
      have b1 := hm u1 (a3.mb (by decide) (by decide) hu.1)
      obtain ⟨u2, hu2⟩ : ∃ u2, u2 = pI (pI (pI (pI u1 26 9 (nI why)) 26 10 det) 26 14 (tm 3)) 26 11 1 := ⟨_, rfl⟩
      have hk0 : Kf [] [9, 10, 11, 14] u1 u2 := by
        rw [hu2]
        exact ((Kf.p26 (D := []) (F := [9]) (by decide)).tr (Kf.p26 (D := []) (F := [10]) (by decide)) (D := []) (F := [9, 10]) (by decide) (by decide) (by decide) (by decide)).tr ((Kf.p26 (D := []) (F := [14]) (by decide)).tr (Kf.p26 (D := []) (F := [11]) (by decide)) (D := []) (F := [11, 14]) (by decide) (by decide) (by decide) (by decide)) (by decide) (by decide) (by decide) (by decide)
      have h14 : gI u2 26 14 = tm 3 := by
        rw [hu2, gI_pI, if_neg (by omega), pI_same]
      have h9 : gI u2 26 9 = nI why := by
        rw [hu2, gI_pI, if_neg (by omega), gI_pI, if_neg (by omega), gI_pI, if_neg (by omega), pI_same]
      have h10 : gI u2 26 10 = det := by
        rw [hu2, gI_pI, if_neg (by omega), gI_pI, if_neg (by omega), pI_same]
      obtain ⟨u3, c1, c2, c3⟩ := m_keptT (v := 0) hB (by rw [h14]; exact ht) (hk0.mb (by decide) (by decide) a2)
      have hk : Kf [27, 28] [9, 10, 11, 14] u u3 := (a3.tr hk0 (D := [28]) (F := [9, 10, 11, 14]) (by decide) (by decide) (by decide) (by decide)).tr c3 (by decide) (by decide) (by decide) (by decide)
      refine ⟨u3, ?_, (c3.1 26 14 (by decide) (fun _ => by decide)).trans h14, hu.wr hk (by decide) (by decide) (by decide) c2 ((c3.1 26 9 (by decide) (fun _ => by decide)).trans h9) ((c3.1 26 10 (by decide) (fun _ => by decide)).trans h10), hk.agc (by decide), hk.2.1⟩
      unfold PM
      rw [a1, Option.bind_some, b1, Option.bind_some, ← hu2]
      show (F_X6_kept u2 0).bind _ = _
      rw [c1]
      rfl
theorem K_0 {w : Wo} (hI : Inv w) (x1 x2 x3 : Int32) : ∃ w', F_K_0 w x1 x2 x3 = some w' ∧ Inv w' := by
  obtain ⟨A, hA, hC, hM⟩ := hI
  obtain ⟨A', hA', ⟨val, w1, h1, h2, h3, h4, h5⟩ | ⟨n, w1, hn, h1, h2, h3, h4, h5⟩⟩ := ord_fin hA hC (ord_board hA.1 x1 x2)
  · refine fin_i (FL := F_L_board w x1 x2) (FM := fun u => F_X6_board u x1 x2) (A' := A') (k := 0) (v := val) (w1 := w1) hM hA' ?_ h3 h4 h5
    have e : F_X0_places w1 = val := Option.some.inj h2
    unfold F_L_board F_X5_board
    rw [h1, ← e]
    rfl
  · refine fin_i (FL := F_L_board w x1 x2) (FM := fun u => F_X6_board u x1 x2) (A' := A') (k := tmB n) (v := 0) (w1 := w1) hM hA' ?_ h3 h4 h5
    unfold F_L_board F_X5_board
    rw [h1]
    rcases hn with rfl | rfl | rfl
    · exact absurd rfl h2
    · rfl
    · exact absurd rfl h2
theorem isCh_sO (x : Int32) : isCh (F_X5_signOf x) := by
  unfold F_X5_signOf
  by_cases h : x = 12
  · rw [if_pos h]
    unfold isCh
    decide
  · rw [if_neg h]
    exact isCh_c _
theorem K_1 {w : Wo} (hI : Inv w) (x1 x2 x3 : Int32) : ∃ w', F_K_1 w x1 x2 x3 = some w' ∧ Inv w' := by
  obtain ⟨A, hA, hC, hM⟩ := hI
  have hmp : ∀ u v u2, PM (fun u => F_X6_puts u x1 (ji2c x2)) u = some (v, u2) → F_X6_put u x1 (ji2c x2) = some (ji2c v, u2) := by
    intro u v u2 h
    have e : F_X6_put u x1 (ji2c x2) = (PM (fun u => F_X6_puts u x1 (ji2c x2)) u).bind fun q => some (ji2c q.1, q.2) := by
      unfold F_X6_put PM
      cases F_X6_looksBack u with
      | none => rfl
      | some q1 =>
        show ((F_X6_puts q1 x1 (ji2c x2)).bind _) = ((F_X6_puts q1 x1 (ji2c x2)).bind _).bind _
        cases F_X6_puts q1 x1 (ji2c x2) with
        | none => rfl
        | some q2 =>
          show ((F_X6_kept q2.2 q2.1).bind _) = ((F_X6_kept q2.2 q2.1).bind _).bind _
          cases F_X6_kept q2.2 q2.1 <;> rfl
    rw [e, h]
    rfl
  obtain ⟨A', hA', ⟨val, w1, h1, h2, h3, h4, h5⟩ | ⟨n, w1, hn, h1, h2, h3, h4, h5⟩⟩ := ord_fin hA hC (ord_put hA.1 x1 (ji2c x2))
  · have e : F_X5_signOf (F_X5_codeAt (gL w 1 2) x1) = val := Option.some.inj h2
    have ev : ji2c val = val := by
      rw [← e]
      exact isCh_sO _
    have h6 : MO A A' 0 val (fun u => F_X6_put u x1 (ji2c x2)) := by
      have := h5.map (g := fun v => ji2c v) hmp
      rw [ev] at this
      exact this
    refine fin_i (FL := F_L_put w x1 (ji2c x2)) (FM := fun u => F_X6_put u x1 (ji2c x2)) (A' := A') (k := 0) (v := val) (w1 := w1) hM hA' ?_ h3 h4 h6
    unfold F_L_put F_X5_put
    rw [h1, ← e]
    rfl
  · refine fin_i (FL := F_L_put w x1 (ji2c x2)) (FM := fun u => F_X6_put u x1 (ji2c x2)) (A' := A') (k := tmP n) (v := ji2c 0) (w1 := w1) hM hA' ?_ h3 h4 (h5.map (g := fun v => ji2c v) hmp)
    unfold F_L_put F_X5_put
    rw [h1]
    rcases hn with rfl | rfl | rfl <;> rfl
theorem K_2 {w : Wo} (hI : Inv w) (x1 x2 x3 : Int32) : ∃ w', F_K_2 w x1 x2 x3 = some w' ∧ Inv w' := by
  obtain ⟨A, hA, hC, hM⟩ := hI
  have hmp : ∀ u v u2, PM (fun u => F_X6_goals u x1 (ji2c x2)) u = some (v, u2) → F_X6_goal u x1 (ji2c x2) = some (ji2c v, u2) := by
    intro u v u2 h
    have e : F_X6_goal u x1 (ji2c x2) = (PM (fun u => F_X6_goals u x1 (ji2c x2)) u).bind fun q => some (ji2c q.1, q.2) := by
      unfold F_X6_goal PM
      cases F_X6_looksBack u with
      | none => rfl
      | some q1 =>
        show ((F_X6_goals q1 x1 (ji2c x2)).bind _) = ((F_X6_goals q1 x1 (ji2c x2)).bind _).bind _
        cases F_X6_goals q1 x1 (ji2c x2) with
        | none => rfl
        | some q2 =>
          show ((F_X6_kept q2.2 q2.1).bind _) = ((F_X6_kept q2.2 q2.1).bind _).bind _
          cases F_X6_kept q2.2 q2.1 <;> rfl
    rw [e, h]
    rfl
  obtain ⟨A', hA', ⟨val, w1, h1, h2, h3, h4, h5⟩ | ⟨n, w1, hn, h1, h2, h3, h4, h5⟩⟩ := ord_fin hA hC (ord_goal hA.1 x1 (ji2c x2))
  · have e : F_X5_signOf (F_X5_codeAt (gL w 1 3) x1) = val := Option.some.inj h2
    have ev : ji2c val = val := by
      rw [← e]
      exact isCh_sO _
    have h6 : MO A A' 0 val (fun u => F_X6_goal u x1 (ji2c x2)) := by
      have := h5.map (g := fun v => ji2c v) hmp
      rw [ev] at this
      exact this
    refine fin_i (FL := F_L_goal w x1 (ji2c x2)) (FM := fun u => F_X6_goal u x1 (ji2c x2)) (A' := A') (k := 0) (v := val) (w1 := w1) hM hA' ?_ h3 h4 h6
    unfold F_L_goal F_X5_goal
    rw [h1, ← e]
    rfl
  · refine fin_i (FL := F_L_goal w x1 (ji2c x2)) (FM := fun u => F_X6_goal u x1 (ji2c x2)) (A' := A') (k := tmP n) (v := ji2c 0) (w1 := w1) hM hA' ?_ h3 h4 (h5.map (g := fun v => ji2c v) hmp)
    unfold F_L_goal F_X5_goal
    rw [h1]
    rcases hn with rfl | rfl | rfl <;> rfl
theorem K_3 {w : Wo} (hI : Inv w) (x1 x2 x3 : Int32) : ∃ w', F_K_3 w x1 x2 x3 = some w' ∧ Inv w' := by
  obtain ⟨A, hA, hC, hM⟩ := hI
  obtain ⟨A', hA', ⟨val, w1, h1, h2, h3, h4, h5⟩ | ⟨n, w1, hn, h1, h2, h3, h4, h5⟩⟩ := ord_fin hA hC (ord_turn hA.1 x1 0)
  · refine fin_i (FL := F_L_turn w x1) (FM := fun u => F_X6_turn u x1) (A' := A') (k := 0) (v := val) (w1 := w1) hM hA' ?_ h3 h4 h5
    have h2 : F_X0_atHome w1 (gL w1 1 2) = some val := h2
    unfold F_L_turn F_X5_turn
    rw [h1]
    show (((F_X0_atHome w1 (gL w1 1 2)).bind fun q3 => (some (.inr (q3, w1)))) : Option ((Nat × Wo) ⊕ (Int32 × Wo))).bind _ = _
    rw [h2]
    rfl
  · refine fin_i (FL := F_L_turn w x1) (FM := fun u => F_X6_turn u x1) (A' := A') (k := tmT n) (v := 0) (w1 := w1) hM hA' ?_ h3 h4 h5
    unfold F_L_turn F_X5_turn
    rw [h1]
    rcases hn with rfl | rfl | rfl
    · rfl
    · exact absurd rfl h2
    · rfl
theorem K_4 {w : Wo} (hI : Inv w) (x1 x2 x3 : Int32) : ∃ w', F_K_4 w x1 x2 x3 = some w' ∧ Inv w' := by
  obtain ⟨A, hA, hC, hM⟩ := hI
  obtain ⟨A', hA', ⟨val, w1, h1, h2, h3, h4, h5⟩ | ⟨n, w1, hn, h1, h2, h3, h4, h5⟩⟩ := ord_fin hA hC (ord_swap hA.1 x1 x2)
  · refine fin_i (FL := F_L_swap w x1 x2) (FM := fun u => F_X6_swap u x1 x2) (A' := A') (k := 0) (v := val) (w1 := w1) hM hA' ?_ h3 h4 h5
    have h2 : F_X0_atHome w1 (gL w1 1 2) = some val := h2
    unfold F_L_swap F_X5_swap
    rw [h1]
    show (((F_X0_atHome w1 (gL w1 1 2)).bind fun q3 => (some (.inr (q3, w1)))) : Option ((Nat × Wo) ⊕ (Int32 × Wo))).bind _ = _
    rw [h2]
    rfl
  · refine fin_i (FL := F_L_swap w x1 x2) (FM := fun u => F_X6_swap u x1 x2) (A' := A') (k := tmT n) (v := 0) (w1 := w1) hM hA' ?_ h3 h4 h5
    unfold F_L_swap F_X5_swap
    rw [h1]
    rcases hn with rfl | rfl | rfl
    · rfl
    · exact absurd rfl h2
    · rfl
theorem K_6 {w : Wo} (hI : Inv w) (x1 x2 x3 : Int32) : ∃ w', F_K_6 w x1 x2 x3 = some w' ∧ Inv w' := by
  obtain ⟨A, hA, hC, hM⟩ := hI
  obtain ⟨A', hA', ⟨val, w1, h1, h2, h3, h4, h5⟩ | ⟨n, w1, hn, h1, h2, h3, h4, h5⟩⟩ := ord_fin hA hC (ord_scramble hA.1 x1 x2)
  · refine fin_i (FL := F_L_scramble w x1 x2) (FM := fun u => F_X6_scramble u x1 x2) (A' := A') (k := 0) (v := val) (w1 := w1) hM hA' ?_ h3 h4 h5
    have e : gI w1 1 5 - gI w 1 5 = val := Option.some.inj h2
    unfold F_L_scramble F_X5_scramble
    rw [h1, ← e]
    rfl
  · refine fin_i (FL := F_L_scramble w x1 x2) (FM := fun u => F_X6_scramble u x1 x2) (A' := A') (k := tmB n) (v := 0) (w1 := w1) hM hA' ?_ h3 h4 h5
    unfold F_L_scramble F_X5_scramble
    rw [h1]
    rcases hn with rfl | rfl | rfl
    · exact absurd rfl h2
    · rfl
    · exact absurd rfl h2
theorem hasBar_b (w : Wo) (x : Int32) : ∃ g : Bool, F_X0_hasBar w x = bI g := by
  unfold F_X0_hasBar
  by_cases h : (jshr (gI w 1 4) x) &&& (1 : Int32) = (1 : Int32)
  · exact ⟨true, if_pos h⟩
  · exact ⟨false, if_neg h⟩
theorem K_5 {w : Wo} (hI : Inv w) (x1 x2 x3 : Int32) : ∃ w', F_K_5 w x1 x2 x3 = some w' ∧ Inv w' := by
  obtain ⟨A, hA, hC, hM⟩ := hI
  have hmp : ∀ u v u2, PM (fun u => F_X6_bars u x1) u = some (v, u2) → F_X6_bar u x1 = some ((if v = 1 then 1 else 0), u2) := by
    intro u v u2 h
    have e : F_X6_bar u x1 = (PM (fun u => F_X6_bars u x1) u).bind fun q => if q.1 = (1 : Int32) then some ((1 : Int32), q.2) else some (0, q.2) := by
      unfold F_X6_bar PM
      cases F_X6_looksBack u with
      | none => rfl
      | some q1 =>
        show ((F_X6_bars q1 x1).bind _) = ((F_X6_bars q1 x1).bind _).bind _
        cases F_X6_bars q1 x1 with
        | none => rfl
        | some q2 =>
          show ((F_X6_kept q2.2 q2.1).bind _) = ((F_X6_kept q2.2 q2.1).bind _).bind _
          cases F_X6_kept q2.2 q2.1 <;> rfl
    rw [e, h, Option.bind_some]
    show (if v = (1 : Int32) then some ((1 : Int32), u2) else some (0, u2)) = _
    by_cases hv : v = 1
    · rw [if_pos hv, if_pos hv]
    · rw [if_neg hv, if_neg hv]
  obtain ⟨A', hA', ⟨val, w1, h1, h2, h3, h4, h5⟩ | ⟨n, w1, hn, h1, h2, h3, h4, h5⟩⟩ := ord_fin hA hC (ord_bar hA.1 x1 0)
  · have e : F_X0_hasBar w1 x1 = val := Option.some.inj h2
    obtain ⟨g, hg⟩ := hasBar_b w1 x1
    have eg : (if val = 1 then (1 : Int32) else 0) = bI g := by
      rw [← e, hg]
      cases g <;> rfl
    have h6 : MO A A' 0 (bI g) (fun u => F_X6_bar u x1) := by
      have := h5.map (g := fun v => if v = 1 then 1 else 0) hmp
      rw [eg] at this
      exact this
    refine fin_b (FL := F_L_bar w x1) (FM := fun u => F_X6_bar u x1) (A' := A') (k := 0) (b := g) (w1 := w1) hM hA' ?_ h3 h4 h6
    unfold F_L_bar F_X5_bar
    rw [h1]
    show (if F_X0_hasBar w1 x1 = 0 then some ((0 : Int32), pL w1 36 0 0) else some (0, pL w1 36 0 1)) = _
    rw [hg]
    cases g <;> rfl
  · refine fin_b (FL := F_L_bar w x1) (FM := fun u => F_X6_bar u x1) (A' := A') (k := tmX n) (b := false) (w1 := w1) hM hA' ?_ h3 h4 (h5.map (g := fun v => if v = 1 then 1 else 0) hmp)
    unfold F_L_bar F_X5_bar
    rw [h1]
    rcases hn with rfl | rfl | rfl
    · rfl
    · exact absurd rfl h2
    · exact absurd rfl h2
