/-! THE CALL RUN -/
def Abs.fn (A : Abs) (er : Int32) : Abs := mkA A.B A.sv A.S A.ct A.hs 0 A.ip er A.wy A.dt A.ll A.ln
theorem Aok.fn {A : Abs} {er : Int32} (h : Aok A) : Aok (A.fn er) := ⟨h.1, h.2.1, h.2.2.1, h.2.2.2.1, Nat.zero_le 60, fun i hi => absurd hi (Nat.not_lt_zero i), h.2.2.2.2.2.2⟩
theorem CI.fn {w w1 : Wo} {A : Abs} {er : Int32} (h : CI w A) (hk : Kd [21, 22, 23, 24] w w1) : CI (pI (pI w1 0 9 er) 0 8 0) (A.fn er) := by
  have g : ∀ a, a ≠ 0 → a ∉ [21, 22, 23, 24] → ∀ b, gI (pI (pI w1 0 9 er) 0 8 0) a b = gI w a b ∧ gL (pI (pI w1 0 9 er) 0 8 0) a b = gL w a b := fun a h1 h2 b => ⟨by rw [gI_pI, if_neg (by omega), gI_pI, if_neg (by omega)]; exact (hk a b h2).1, (hk a b h2).2⟩
  have g0 : ∀ b, b ≠ 8 → b ≠ 9 → gI (pI (pI w1 0 9 er) 0 8 0) 0 b = gI w 0 b := fun b h1 h2 => by rw [gI_pI, if_neg (by omega), gI_pI, if_neg (by omega)]; exact (hk 0 b (by decide)).1
  obtain ⟨h1, ⟨h2, h3⟩, ⟨nx, h4, h5, h6, h7⟩, -, -, ⟨h11, h12⟩, h13, h14⟩ := h
  refine ⟨CB_cg (g 1 (by decide) (by decide)) h1, ⟨(g0 12 (by decide) (by decide)).trans h2, fun e => CB_cg (g 3 (by decide) (by decide)) (h3 e)⟩, ⟨nx, h4, (g 4 (by decide) (by decide) _).1.trans h5, (g 4 (by decide) (by decide) _).1.trans h6, fun i hi => CB_cg (g (hix nx A.ct i) (by have := hix_r nx A.ct i; omega) (by have := hix_r nx A.ct i; simp; omega)) (h7 i hi)⟩, ⟨pI_same, fun i hi => absurd hi (Nat.not_lt_zero i)⟩, ?_, ⟨(g0 10 (by decide) (by decide)).trans h11, fun e => (g0 11 (by decide) (by decide)).trans (h12 e)⟩, (g 19 (by decide) (by decide) _).1.trans h13, fun i hi => (g 20 (by decide) (by decide) _).1.trans (h14 i hi)⟩
  rw [gI_pI, if_neg (by omega), pI_same]
  rfl
theorem MI.fn {w u : Wo} {A : Abs} {D F : List Nat} {er : Int32} (h : MI w A) (hk : Kf D F w u) (hD : ∀ a, a ∈ [27, 29, 30, 32] → a ∉ D) (h26 : 26 ∉ D) (hF : ∀ b, b ∈ [3, 5, 9, 10, 13] → b ∉ F) (h7 : gI u 26 7 = 0) (h8 : gI u 26 8 = er) : MI u (A.fn er) := by
  have g : ∀ a, a ∈ [27, 29, 30, 32] → ∀ b, gI u a b = gI w a b := fun a ha b => hk.1 a b (hD a ha) (fun e => by
    rw [e] at ha
    exact absurd ha (by decide))
  have f : ∀ b, b ∈ [3, 5, 9, 10, 13] → gI u 26 b = gI w 26 b := fun b hb => hk.1 26 b h26 (fun _ => hF b hb)
  obtain ⟨h1, ⟨h2, h3⟩, ⟨h6, h7'⟩, -, -, ⟨h11, h12⟩, h13, h14⟩ := h
  exact ⟨MB_cg (g 27 (by decide)) h1, ⟨(f 5 (by decide)).trans h2, fun e => MB_cg (g 30 (by decide)) (h3 e)⟩, ⟨(f 3 (by decide)).trans h6, fun i hi => MB_cg (g 29 (by decide)) (h7' i hi)⟩, ⟨h7, fun i hi => absurd hi (Nat.not_lt_zero i)⟩, h8, ⟨(f 9 (by decide)).trans h11, fun e => (f 10 (by decide)).trans (h12 e)⟩, (f 13 (by decide)).trans h13, fun i hi => (g 32 (by decide) _).trans (h14 i hi)⟩
theorem rd_lt {tl : Nat} {cn : Nat → Nat} {a e : Nat} (ha : a ≤ tl) (h60 : tl ≤ 60) (hr : rd tl cn a = .inl e) : e < 1000 := by
  unfold rd rdo rd2 at hr
  have hle := (fg_le (tl := tl) (cn := cn) (fm (cn a)) 0 (a + 1)).2
  by_cases hk : (decide (a < tl) && isK (cn a)) = true
  · rw [if_pos hk] at hr
    rw [Bool.and_eq_true] at hk
    have hl := of_decide_eq_true hk.1
    have hle := hle (by omega)
    by_cases hd : isd tl cn (a + 1) = true
    · rw [if_pos hd] at hr
      generalize (fg tl cn (fm (cn a)) 0 (a + 1)).1 = v at hr
      generalize (fg tl cn (fm (cn a)) 0 (a + 1)).2 = b at hr hle
      generalize cn a = k at hr
      revert hr
      repeat' split
      all_goals (intro hr; first | (cases hr; omega) | cases hr)
    · rw [if_neg hd] at hr
      cases hr
      omega
  · rw [if_neg hk] at hr
    cases hr
    omega
section RNN
variable {tl : Nat} {cn : Nat → Nat}
/-- behind the reading: is it wrong, and where -/
theorem m_122 {w u : Wo} (hT : Txt tl cn) (hk : Kf [35] [18, 19] w u) (he : ∀ e, rd tl cn (pos tl cn (NN tl cn)) = .inl e → MS tl cn u e true) (hq : ∀ q, rd tl cn (pos tl cn (NN tl cn)) = .inr q → MS tl cn u q.1 false) (n : Int32) : ∃ u2, B_X6_run_71 u n = B_X6_run_122 u2 n ∧ Kf [35] [7, 8, 18, 19] w u2 ∧ gI u2 26 7 = 0 ∧ gI u2 26 8 = (match pe tl cn with | some e => nI e | none => -1) ∧ gI u2 26 19 = bI (pe tl cn).isSome ∧ ∀ i, gI u2 35 i = gI u 35 i := by
  have h60 := hT.1
  have step : ∀ (b : Bool) (s : Nat), gI u 26 18 = nI s → s < 1000 → ∃ u2, B_X6_run_95 u n (bI b) = B_X6_run_122 u2 n ∧ Kf [35] [7, 8, 18, 19] w u2 ∧ gI u2 26 7 = 0 ∧ gI u2 26 8 = (if b then nI s else -1) ∧ gI u2 26 19 = bI b ∧ ∀ i, gI u2 35 i = gI u 35 i := by
    intro b s hs hs2
    have e19 : gI (pI (pI u 26 19 (bI b)) 26 7 0) 26 19 = bI b := by rw [gI_pI, if_neg (by omega), pI_same]
    have e18 : gI (pI (pI u 26 19 (bI b)) 26 7 0) 26 18 = nI s := by rw [gI_pI, if_neg (by omega), gI_pI, if_neg (by omega)]; exact hs
    have kf : ∀ v, Kf [35] [7, 8, 18, 19] w (pI (pI (pI u 26 19 (bI b)) 26 7 0) 26 8 v) := fun v => hk.tr (((Kf.p26 (D := []) (F := [19]) (by decide)).tr (Kf.p26 (D := []) (F := [7]) (by decide)) (D := []) (F := [7, 19]) (by decide) (by decide) (by decide) (by decide)).tr (Kf.p26 (D := []) (F := [8]) (by decide)) (D := []) (F := [7, 8, 19]) (by decide) (by decide) (by decide) (by decide)) (by decide) (by decide) (by decide) (by decide)
    refine ⟨pI (pI (pI u 26 19 (bI b)) 26 7 0) 26 8 (if b then nI s else -1), ?_, kf _, ?_, pI_same, ?_, fun i => ?_⟩
    · unfold B_X6_run_95 B_X6_run_98 B_X6_run_103 B_X6_run_119
      rw [jchk_pos (bI_or b), e19, e18, itb0]
      cases b <;> rfl
    · rw [gI_pI, if_neg (by omega), pI_same]
    · rw [gI_pI, if_neg (by omega)]
      exact e19
    · rw [gI_pI, if_neg (by omega), gI_pI, if_neg (by omega), gI_pI, if_neg (by omega)]
  unfold B_X6_run_71 B_X6_run_90 pe
  obtain ⟨n1, n2, n3⟩ := NN_ok hT
  have hp := pos_le (NN tl cn) n2
  cases hr : rd tl cn (pos tl cn (NN tl cn)) with
  | inl e =>
    have hms := he e hr
    have hel : e < 1000 := rd_lt hp.2 h60 hr
    rw [hms.2.2.1, if_neg (show ¬ bI true = 0 by decide)]
    exact step true e hms.2.1 hel
  | inr q =>
    have hms := hq q hr
    have hq1 := rd_ok hr
    rw [hms.2.2.1, if_pos (show bI false = 0 from rfl), hms.1, hms.2.1, itle (by omega) (by omega)]
    show ∃ u2, _ ∧ _ ∧ _ ∧ gI u2 26 8 = (match (if q.1 < tl then some q.1 else none) with | some e => nI e | none => -1) ∧ gI u2 26 19 = bI (if q.1 < tl then some q.1 else none).isSome ∧ _
    by_cases hlt : q.1 < tl
    · rw [if_neg (by omega), if_pos hlt]
      exact step true q.1 hms.2.1 (by omega)
    · rw [if_pos (by omega), if_neg hlt]
      exact step false q.1 hms.2.1 (by omega)
end RNN
theorem mx_ok {A : Abs} {u u1 u' : Wo} {n : Int32} {B' : Bd} (hA : Aok A) (hu : MI u A) (a2 : MB u1 28 0 A.B) (a3 : Kf [28] [] u u1) (b3 : MB u' 27 0 B') (b4 : Kf [27, 33, 34] [14] u1 u') : ∃ u3, B_X6_run_191 u' n = some (n, u3) ∧ gI u3 26 14 = 0 ∧ MI u3 (A.wb B' (ctP A.ct) (hsP A.ct A.hs A.B)) ∧ AgC u u3 ∧ ∀ a b, gL u3 a b = gL u a b := by
  have hB := hA.1
  obtain ⟨u2, hu2⟩ : ∃ u2, u2 = pI u' 26 14 0 := ⟨_, rfl⟩
  have h14 : gI u2 26 14 = 0 := by rw [hu2, pI_same]
  have hk0 : Kf [27, 33, 34] [14] u1 u2 := by
    rw [hu2]
    exact b4.tr (Kf.p26 (D := []) (F := [14]) (by decide)) (by decide) (by decide) (by decide) (by decide)
  have hb2 : MB u2 27 0 B' := by
    rw [hu2]
    exact (Kf.p26 (D := []) (F := [14]) (by decide)).mb (by decide) (by decide) b3
  have hHu : HM u A.ct A.hs := hu.2.2.1
  have hk12 : Kf [27, 28, 33, 34] [14] u u2 := a3.tr hk0 (by decide) (by decide) (by decide) (by decide)
  obtain ⟨u3, c1, c2, c3⟩ := m_keptF (v := n) hB hA.2.2.1 h14 (hHu.kf hk12 (by decide) (by decide) (by decide)) hA.2.2.2.1 (hk0.mb (by decide) (by decide) a2)
  have hk : Kf [27, 28, 29, 33, 34] [3, 14] u u3 := hk12.tr c3 (by decide) (by decide) (by decide) (by decide)
  refine ⟨u3, ?_, (c3.1 26 14 (by decide) (fun _ => by decide)).trans h14, hu.wb hk (by decide) (by decide) (by decide) (c3.mb (by decide) (by decide) hb2) c2, hk.agc (by decide), hk.2.1⟩
  show (F_X6_kept (pI u' 26 14 0) n).bind _ = _
  rw [← hu2, c1]
  rfl
theorem mx_fail {A : Abs} {u u1 u' : Wo} {t : Int32} (hA : Aok A) (hu : MI u A) (a2 : MB u1 28 0 A.B) (a3 : Kf [28] [] u u1) (b4 : Kf [27, 33, 34] [14] u1 u') : ∃ u3, B_X6_run_162 (pI (pI u' 26 14 t) 26 11 0) 0 = some (0, u3) ∧ gI u3 26 14 = 1 ∧ MI u3 A ∧ AgC u u3 ∧ ∀ a b, gL u3 a b = gL u a b := by
  have hB := hA.1
  obtain ⟨u2, hu2⟩ : ∃ u2, u2 = pI (pI (pI u' 26 14 t) 26 11 0) 26 14 1 := ⟨_, rfl⟩
  have h14 : gI u2 26 14 = 1 := by rw [hu2, pI_same]
  have hk0 : Kf [27, 33, 34] [11, 14] u1 u2 := by
    rw [hu2]
    exact b4.tr (((Kf.p26 (D := []) (F := [14]) (by decide)).tr (Kf.p26 (D := []) (F := [11]) (by decide)) (D := []) (F := [11, 14]) (by decide) (by decide) (by decide) (by decide)).tr (Kf.p26 (D := []) (F := [14]) (by decide)) (D := []) (F := [11, 14]) (by decide) (by decide) (by decide) (by decide)) (by decide) (by decide) (by decide) (by decide)
  have hHu : HM u A.ct A.hs := hu.2.2.1
  obtain ⟨u3, c1, c2, c3⟩ := m_keptT (v := 0) hB (by rw [h14]; decide) (hk0.mb (by decide) (by decide) a2)
  have hk : Kf [27, 28, 33, 34] [11, 14] u u3 := (a3.tr hk0 (D := [27, 28, 33, 34]) (F := [11, 14]) (by decide) (by decide) (by decide) (by decide)).tr c3 (by decide) (by decide) (by decide) (by decide)
  refine ⟨u3, ?_, (c3.1 26 14 (by decide) (fun _ => by decide)).trans h14, hu.wb (B := A.B) (ct := A.ct) (hs := A.hs) hk (by decide) (by decide) (by decide) c2 (hHu.kf hk (by decide) (by decide) (by decide)), hk.agc (by decide), hk.2.1⟩
  unfold B_X6_run_162 B_X6_run_175 B_X6_run_178
  rw [pI_same, if_pos rfl, ← hu2, c1]
  rfl
theorem mx_ref {A : Abs} {u u1 u' : Wo} {t det : Int32} {why : Nat} (hA : Aok A) (hu : MI u A) (a2 : MB u1 28 0 A.B) (a3 : Kf [28] [] u u1) (b4 : Kf [27, 33, 34] [14] u1 u') : ∃ u3, B_X6_run_162 (pI (pI (pI (pI u' 26 9 (nI why)) 26 10 det) 26 14 t) 26 11 1) 0 = some (0, u3) ∧ gI u3 26 14 = 2 ∧ MI u3 (A.wr why det) ∧ AgC u u3 ∧ ∀ a b, gL u3 a b = gL u a b := by
  have hB := hA.1
  obtain ⟨u2, hu2⟩ : ∃ u2, u2 = pI (pI (pI (pI (pI u' 26 9 (nI why)) 26 10 det) 26 14 t) 26 11 1) 26 14 2 := ⟨_, rfl⟩
  have h14 : gI u2 26 14 = 2 := by rw [hu2, pI_same]
  have h9 : gI u2 26 9 = nI why := by
    rw [hu2, gI_pI, if_neg (by omega), gI_pI, if_neg (by omega), gI_pI, if_neg (by omega), gI_pI, if_neg (by omega), pI_same]
  have h10 : gI u2 26 10 = det := by
    rw [hu2, gI_pI, if_neg (by omega), gI_pI, if_neg (by omega), gI_pI, if_neg (by omega), pI_same]
  have hk0 : Kf [27, 33, 34] [9, 10, 11, 14] u1 u2 := by
    rw [hu2]
    exact b4.tr ((((Kf.p26 (D := []) (F := [9]) (by decide)).tr (Kf.p26 (D := []) (F := [10]) (by decide)) (D := []) (F := [9, 10]) (by decide) (by decide) (by decide) (by decide)).tr ((Kf.p26 (D := []) (F := [14]) (by decide)).tr (Kf.p26 (D := []) (F := [11]) (by decide)) (D := []) (F := [11, 14]) (by decide) (by decide) (by decide) (by decide)) (D := []) (F := [9, 10, 11, 14]) (by decide) (by decide) (by decide) (by decide)).tr (Kf.p26 (D := []) (F := [14]) (by decide)) (D := []) (F := [9, 10, 11, 14]) (by decide) (by decide) (by decide) (by decide)) (by decide) (by decide) (by decide) (by decide)
  obtain ⟨u3, c1, c2, c3⟩ := m_keptT (v := 0) hB (by rw [h14]; decide) (hk0.mb (by decide) (by decide) a2)
  have hk : Kf [27, 28, 33, 34] [9, 10, 11, 14] u u3 := (a3.tr hk0 (D := [27, 28, 33, 34]) (F := [9, 10, 11, 14]) (by decide) (by decide) (by decide) (by decide)).tr c3 (by decide) (by decide) (by decide) (by decide)
  refine ⟨u3, ?_, (c3.1 26 14 (by decide) (fun _ => by decide)).trans h14, hu.wr hk (by decide) (by decide) (by decide) c2 ((c3.1 26 9 (by decide) (fun _ => by decide)).trans h9) ((c3.1 26 10 (by decide) (fun _ => by decide)).trans h10), hk.agc (by decide), hk.2.1⟩
  unfold B_X6_run_162 B_X6_run_175 B_X6_run_178
  rw [pI_same, if_neg (by decide), ← hu2, c1]
  rfl
theorem K_29 {w : Wo} (hI : Inv w) (x1 x2 x3 : Int32) : ∃ w', F_K_29 w x1 x2 x3 = some w' ∧ Inv w' := by
  obtain ⟨A, hA, hC, hM⟩ := hI
  have hB := hA.1
  obtain ⟨tl, htl⟩ : ∃ tl, tl = A.tl := ⟨_, rfl⟩
  obtain ⟨cn, hcn⟩ : ∃ cn : Nat → Nat, cn = fun i => (A.ip i).toNatClampNeg := ⟨_, rfl⟩
  have hch : ∀ i, i < tl → A.ip i = nI (cn i) ∧ cn i < 65536 := fun i hi => by
    have := isCh_nI (hA.2.2.2.2.2.1 i (by rw [← htl]; exact hi))
    rw [hcn]
    exact this
  have hT : Txt tl cn := ⟨by rw [htl]; exact hA.2.2.2.2.1, fun i hi => (hch i hi).2⟩
  obtain ⟨n1, n2, n3⟩ := NN_ok hT
  obtain ⟨w1, r1, r2, r3⟩ := c_read (w := w) hT (fun i hi => ((hC.2.2.2.1.2 i (by rw [← htl]; exact hi))).trans (hch i hi).1)
  have h8 : gI w 0 8 = nI tl := by rw [htl]; exact hC.2.2.2.1.1
  obtain ⟨er, r1, hers, hern⟩ : ∃ er : Int32, F_X4_read w (nI tl) = some (er, w1) ∧ (∀ e, pe tl cn = some e → er = nI e) ∧ (pe tl cn = none → er = -1) := ⟨_, r1, fun e h => by rw [h], fun h => by rw [h]⟩
  have hC1 : CI (pI (pI w1 0 9 er) 0 8 0) (A.fn er) := hC.fn r2
  have hA1 : Aok (A.fn er) := hA.fn
  have ag1 : AgM w (pI (pI w1 0 9 er) 0 8 0) := ((r2.agm (by decide)).tr (AgM.pI (by omega))).tr (AgM.pI (by omega))
  have e9 : gI (pI (pI w1 0 9 er) 0 8 0) 0 9 = er := by rw [gI_pI, if_neg (by omega), pI_same]
  have crun : F_X5_run w = B_X5_run_24 (pI (pI w1 0 9 er) 0 8 0) := by
    unfold F_X5_run B_X5_run_19
    rw [h8, r1, Option.bind_some]
  have heq : (match pe tl cn with | some e => nI e | none => -1 : Int32) = er := by
    cases hq : pe tl cn with
    | some e => exact (hers e hq).symm
    | none => exact (hern hq).symm
  have mrun : ∀ u, MI u A → ∃ u2, F_X6_run u = B_X6_run_122 u2 (nI (NN tl cn + 1)) ∧ Kf [35] [7, 8, 18, 19] u u2 ∧ MI u2 (A.fn er) ∧ gI u2 26 19 = bI (pe tl cn).isSome ∧ ∀ j, j ≤ NN tl cn → TW tl cn u2 j := by
    intro u hu
    obtain ⟨v, p1, p2, p3, p4, p5⟩ := m_parse (w := u) hT (by rw [htl]; exact hu.2.2.2.1.1) (fun i hi => (hu.2.2.2.1.2 i (by rw [← htl]; exact hi)).trans (hch i hi).1)
    obtain ⟨u2, q1, q2, q3, q4, q5, q6⟩ := m_122 hT p2 p3 p4 (nI (NN tl cn + 1))
    refine ⟨u2, p1.trans q1, q2, hu.fn q2 (by decide) (by decide) (by decide) q3 (q4.trans heq), q5, fun j hj q hq => ?_⟩
    rw [q6, q6, q6]
    exact p5 j hj q hq
  have hCR : pe tl cn = none → CR tl cn (NN tl cn + 1) (pI (pI w1 0 9 er) 0 8 0) := by
    intro e
    obtain ⟨e1, e2⟩ := r3 e
    have hc : CR tl cn (NN tl cn + 1) w1 := ⟨e1, fun j hj => e2 j (by omega)⟩
    exact hc.kd ((Kd.pI (D := [0]) (by decide)).tr (Kd.pI (D := [0]) (by decide)) (D := [0]) (fun _ h => h) (fun _ h => h)) (by decide) (by decide) (by decide) (by decide)
  generalize pI (pI w1 0 9 er) 0 8 0 = W at hC1 ag1 e9 crun hCR
  have mfin : ∀ (A' : Abs) (k v : Int32), (∀ u2, MI u2 (A.fn er) → gI u2 26 19 = bI (pe tl cn).isSome → MR tl cn (NN tl cn + 1) u2 → ∃ u3, B_X6_run_122 u2 (nI (NN tl cn + 1)) = some (v, u3) ∧ gI u3 26 14 = k ∧ MI u3 A' ∧ AgC u2 u3 ∧ ∀ a b, gL u3 a b = gL u2 a b) → MO A A' k v (fun u => F_X6_run u) := by
    intro A' k v h u hu
    obtain ⟨u2, p1, p2, p3, p4, p5⟩ := mrun u hu
    obtain ⟨u3, q1, q2, q3, q4, q5⟩ := h u2 p3 p4 (fun j hj => p5 j (by omega))
    exact ⟨u3, p1.trans q1, q2, q3, (p2.agc (by decide)).tr q4, fun a b => (q5 a b).trans (p2.2.1 a b)⟩
  have h60 := hT.1
  have hp := pos_le (NN tl cn) n2
  cases hpe : pe tl cn with
  | some e =>
    have he : e < 1000 := by
      have hpe := hpe
      unfold pe at hpe
      cases hr : rd tl cn (pos tl cn (NN tl cn)) with
      | inl e' =>
        rw [hr] at hpe
        have h2 := rd_lt hp.2 h60 hr
        have h3 : some e' = some e := hpe
        have h4 := Option.some.inj h3
        omega
      | inr q =>
        rw [hr] at hpe
        have hpe : (if q.1 < tl then some q.1 else none) = some e := hpe
        by_cases hlt : q.1 < tl
        · rw [if_pos hlt] at hpe
          have h4 := Option.some.inj hpe
          omega
        · rw [if_neg hlt] at hpe
          cases hpe
    have her2 : er = nI e := hers e hpe
    refine fin_i (FL := F_L_run w) (FM := fun u => F_X6_run u) (A' := A.fn er) (k := 1) (v := 0) (w1 := W) hM hA1 ?_ hC1 ag1 (mfin _ _ _ fun u2 h1 h2 h3 => ?_)
    · unfold F_L_run
      rw [crun, B_X5_run_24, e9, her2, if_pos (nI_pos' (by omega))]
      rfl
    · have hk : Kf [] [11, 14] u2 (pI (pI u2 26 14 1) 26 11 0) := (Kf.p26 (D := []) (F := [14]) (by decide)).tr (Kf.p26 (D := []) (F := [11]) (by decide)) (by decide) (by decide) (by decide) (by decide)
      refine ⟨pI (pI u2 26 14 1) 26 11 0, ?_, ?_, hk.mi (by decide) (by decide) (by decide) h1, hk.agc (by decide), hk.2.1⟩
      · rw [hpe] at h2
        have h2 : gI u2 26 19 = bI true := h2
        rw [B_X6_run_122, h2, if_neg (show ¬ bI true = 0 by decide)]
        rfl
      · rw [gI_pI, if_neg (by omega), pI_same]
  | none =>
    have her2 : er = -1 := hern hpe
    have hCR := hCR hpe
    have hall : ∀ j, j < NN tl cn + 1 → ∃ q, rd tl cn (pos tl cn j) = .inr q := by
      intro j hj
      by_cases h : j < NN tl cn
      · obtain ⟨q, hq, -⟩ := gd_q (n2 j h)
        exact ⟨q, hq⟩
      · have e : j = NN tl cn := by omega
        rw [e]
        unfold pe at hpe
        cases hr : rd tl cn (pos tl cn (NN tl cn)) with
        | inl e' =>
          rw [hr] at hpe
          cases hpe
        | inr q => exact ⟨q, rfl⟩
    obtain ⟨W2, g1, g2, g3⟩ := c_copy (h0 := 2) (h1 := 1) (by omega) hC1.1
    have k2 : Kd [2] W W2 := g3.kd (by decide)
    have hcb : CB W2 1 A.B := k2.cb (by decide) hC1.1
    have hcr : CR tl cn (NN tl cn + 1) W2 := hCR.kd k2 (by decide) (by decide) (by decide) (by decide)
    have crun2 : F_X5_run w = (jl2 B_X5_carryOutAll_13 fu W2 (nI 0)).bind fun q5 => B_X5_run_39 q5.2 q5.1 := by
      rw [crun, B_X5_run_24, e9, her2, if_neg (by decide), F_X5_carryOutAll, g1, Option.bind_some]
      rfl
    have hH : HC W A.ct A.hs := hC1.2.2.1
    have hfu : NN tl cn + 1 < fu := by
      rw [fu4]
      omega
    have mrun2 : ∀ u2, MI u2 (A.fn er) → gI u2 26 19 = bI (pe tl cn).isSome → MR tl cn (NN tl cn + 1) u2 → ∃ u1, MB u1 28 0 (A.fn er).B ∧ MB u1 27 0 A.B ∧ MR tl cn (NN tl cn + 1) u1 ∧ Kf [28] [] u2 u1 ∧ B_X6_run_122 u2 (nI (NN tl cn + 1)) = jl2 (B_X6_run_141 (nI (NN tl cn + 1))) fu u1 (nI 0) := by
      intro u2 h1 h2 h3
      obtain ⟨u1, a1, a2, a3⟩ := m_looksBack hB h1.1
      refine ⟨u1, a2, a3.mb (by decide) (by decide) h1.1, h3.kf a3 (by decide), a3, ?_⟩
      rw [hpe] at h2
      rw [B_X6_run_122, h2, if_pos (show bI (none : Option Nat).isSome = 0 by decide), a1, Option.bind_some]
      rfl
    rcases ex_all (n := NN tl cn + 1) (by omega) hall (NN tl cn + 1) 0 A.B (by omega) hB with ⟨Bf, b1, b2, b3⟩ | ⟨v, hv, b2, b3⟩ | ⟨why, det, e0, e6, b2, b3⟩
    · obtain ⟨w', d1, d2, d3⟩ := b2 W2 fu hfu hcb hcr
      have hkd1 : Kd [1, 2] W w' := k2.tr d3 (by decide) (by decide)
      obtain ⟨w4, k1, k4, k3⟩ := c_keep (h := 2) (Or.inr rfl) (hH.kd hkd1 (by decide)) hA.2.2.1 (d3.cb (by decide) g2)
      have hkd : Kd (1 :: 2 :: rgD) W w4 := hkd1.tr k3 (by decide) (by decide)
      have e21 : gI w4 21 6 = nI (NN tl cn + 1) := (hkd 21 6 (by decide)).1.trans hCR.1
      refine fin_i (FL := F_L_run w) (FM := fun u => F_X6_run u) (A' := (A.fn er).wb Bf (ctP A.ct) (hsP A.ct A.hs A.B)) (k := 0) (v := nI (NN tl cn + 1)) (w1 := w4) hM (hA1.wb b1 (ctP_le hA.2.2.1) (hsP_ok hB hA.2.2.2.1)) ?_ (hC1.wb hkd (by decide) (k3.cb (by decide) d2) k4) (ag1.tr (hkd.agm (by decide))) (mfin _ _ _ fun u2 h1 h2 h3 => ?_)
      · unfold F_L_run
        rw [crun2, d1, B_X5_carryOutAll_104, k1, ← e21]
        rfl
      · obtain ⟨u1, a2, a4, a5, a3, a6⟩ := mrun2 u2 h1 h2 h3
        obtain ⟨u', f1, f2, f3⟩ := b3 u1 fu hfu a4 a5
        rw [a6, f1]
        exact mx_ok hA1 h1 a2 a3 f2 f3
    · obtain ⟨w', d1, d3⟩ := b2 W2 fu hfu hcb hcr
      have hkd1 : Kd [1, 2] W w' := k2.tr d3 (by decide) (by decide)
      obtain ⟨w4, k1, k4, k3⟩ := c_copy (h0 := 1) (h1 := 2) (by omega) (d3.cb (by decide) g2)
      have hkd : Kd [1, 2] W w4 := hkd1.tr (k3.kd (D := [1]) (by decide)) (by decide) (by decide)
      have hC4 : CI w4 ((A.fn er).wb A.B A.ct A.hs) := hC1.wb hkd (by decide) k4 (hH.kd hkd (by decide))
      refine fin_i (FL := F_L_run w) (FM := fun u => F_X6_run u) (A' := A.fn er) (k := 1) (v := 0) (w1 := w4) hM hA1 ?_ hC4 (ag1.tr (hkd.agm (by decide))) (mfin _ _ _ fun u2 h1 h2 h3 => ?_)
      · unfold F_L_run
        rw [crun2, d1, B_X5_carryOutAll_57, k1]
        rcases hv with rfl | rfl <;> rfl
      · obtain ⟨u1, a2, a4, a5, a3, a6⟩ := mrun2 u2 h1 h2 h3
        obtain ⟨u', t, -, f1, f3⟩ := b3 u1 fu hfu a4 a5
        rw [a6, f1]
        exact mx_fail hA1 h1 a2 a3 f3
    · obtain ⟨w', d1, d3⟩ := b2 W2 fu hfu hcb hcr
      have hkd1 : Kd [1, 2] W w' := k2.tr d3 (by decide) (by decide)
      have hk0 : Kd [0] w' (pI (pI w' 0 10 (nI why)) 0 11 det) := (Kd.pI (D := [0]) (by decide)).tr (Kd.pI (D := [0]) (by decide)) (fun _ h => h) (fun _ h => h)
      obtain ⟨w4, k1, k4, k3⟩ := c_copy (h0 := 1) (h1 := 2) (by omega) (hk0.cb (by decide) (d3.cb (by decide) g2))
      have hkd : Kd [1, 2] (pI (pI W 0 10 (nI why)) 0 11 det) w4 := fun a b ha => by
        have ha1 : a ≠ 1 := fun e => ha (by rw [e]; decide)
        obtain ⟨p1, p2⟩ := k3 a b ha1
        obtain ⟨q1, q2⟩ := hkd1 a b ha
        exact ⟨by rw [p1]; simp only [gI_pI, q1], p2.trans q2⟩
      have hC3 : CI (pI (pI W 0 10 (nI why)) 0 11 det) ((A.fn er).wr why det) := hC1.wr e0
      have hH3 : HC (pI (pI W 0 10 (nI why)) 0 11 det) A.ct A.hs := hC3.2.2.1
      have hC4 : CI w4 (((A.fn er).wr why det).wb A.B A.ct A.hs) := hC3.wb hkd (by decide) k4 (hH3.kd hkd (by decide))
      refine fin_i (FL := F_L_run w) (FM := fun u => F_X6_run u) (A' := (A.fn er).wr why det) (k := 2) (v := 0) (w1 := w4) hM (hA1.wr e6) ?_ hC4 (ag1.tr (((AgM.pI (by omega)).tr (AgM.pI (by omega))).tr (hkd.agm (by decide)))) (mfin _ _ _ fun u2 h1 h2 h3 => ?_)
      · unfold F_L_run
        rw [crun2, d1, B_X5_carryOutAll_57, k1]
        rfl
      · obtain ⟨u1, a2, a4, a5, a3, a6⟩ := mrun2 u2 h1 h2 h3
        obtain ⟨u', t, -, f1, f3⟩ := b3 u1 fu hfu a4 a5
        rw [a6, f1]
        exact mx_ref hA1 h1 a2 a3 f3
