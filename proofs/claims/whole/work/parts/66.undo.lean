/-! UNDO, SAVE, RESTORE -/
def Abs.wb (A : Abs) (B : Bd) (ct : Nat) (hs : Nat → Bd) : Abs := mkA B A.sv A.S ct hs A.tl A.ip A.er A.wy A.dt A.ll A.ln
theorem CI.wb {w w' : Wo} {A : Abs} {D : List Nat} {B : Bd} {ct : Nat} {hs : Nat → Bd} (h : CI w A) (hk : Kd D w w') (hD : ∀ a, a ∈ [0, 3, 19, 20, 25] → a ∉ D) (hB : CB w' 1 B) (hH : HC w' ct hs) : CI w' (A.wb B ct hs) := by
  have g : ∀ a, a ∈ [0, 3, 19, 20, 25] → ∀ b, gI w' a b = gI w a b ∧ gL w' a b = gL w a b := fun a ha b => hk a b (hD a ha)
  obtain ⟨h1, ⟨h2, h3⟩, -, ⟨h8, h9⟩, h10, ⟨h11, h12⟩, h13, h14⟩ := h
  exact ⟨hB, ⟨((g 0 (by decide)) _).1.trans h2, fun e => CB_cg (g 3 (by decide)) (h3 e)⟩, hH, ⟨((g 0 (by decide)) _).1.trans h8, fun i hi => ((g 25 (by decide)) _).1.trans (h9 i hi)⟩, ((g 0 (by decide)) _).1.trans h10, ⟨((g 0 (by decide)) _).1.trans h11, fun e => ((g 0 (by decide)) _).1.trans (h12 e)⟩, ((g 19 (by decide)) _).1.trans h13, fun i hi => ((g 20 (by decide)) _).1.trans (h14 i hi)⟩
theorem MI.wb {w w' : Wo} {A : Abs} {D F : List Nat} {B : Bd} {ct : Nat} {hs : Nat → Bd} (h : MI w A) (hk : Kf D F w w') (hD : ∀ a, a ∈ [30, 31, 32] → a ∉ D) (h26 : 26 ∉ D) (hF : ∀ b, b ∈ [5, 7, 8, 9, 10, 13] → b ∉ F) (hB : MB w' 27 0 B) (hH : HM w' ct hs) : MI w' (A.wb B ct hs) := by
  have g : ∀ a, a ∈ [30, 31, 32] → ∀ b, gI w' a b = gI w a b := fun a ha b => hk.1 a b (hD a ha) (fun e => by
    rw [e] at ha
    exact absurd ha (by decide))
  have f : ∀ b, b ∈ [5, 7, 8, 9, 10, 13] → gI w' 26 b = gI w 26 b := fun b hb => hk.1 26 b h26 (fun _ => hF b hb)
  obtain ⟨h1, ⟨h2, h3⟩, -, ⟨h8, h9⟩, h10, ⟨h11, h12⟩, h13, h14⟩ := h
  exact ⟨hB, ⟨(f 5 (by decide)).trans h2, fun e => MB_cg (g 30 (by decide)) (h3 e)⟩, hH, ⟨(f 7 (by decide)).trans h8, fun i hi => (g 31 (by decide) _).trans (h9 i hi)⟩, (f 8 (by decide)).trans h10, ⟨(f 9 (by decide)).trans h11, fun e => (f 10 (by decide)).trans (h12 e)⟩, (f 13 (by decide)).trans h13, fun i hi => (g 32 (by decide) _).trans (h14 i hi)⟩
theorem Aok.wb {A : Abs} {B : Bd} {ct : Nat} {hs : Nat → Bd} (h : Aok A) (hB : B.ok) (hc : ct ≤ 8) (hh : ∀ i, i < ct → (hs i).ok) : Aok (A.wb B ct hs) := ⟨hB, h.2.1, hc, hh, h.2.2.2.2⟩
theorem K_36 {w : Wo} (hI : Inv w) (x1 x2 x3 : Int32) : ∃ w', F_K_36 w x1 x2 x3 = some w' ∧ Inv w' := by
  obtain ⟨A, hA, hC, hM⟩ := hI
  have h8 : A.ct ≤ 8 := hA.2.2.1
  have hH : HC w A.ct A.hs := hC.2.2.1
  rcases Nat.eq_zero_or_pos A.ct with e0 | e0
  · refine fin_i (FL := F_L_undo w) (FM := fun u => F_X6_undo u) (A' := A) (k := 1) (v := 0) hM hA ?_ hC AgM.rf (mo_fails fun u hu => ?_)
    · obtain ⟨nx, -, -, h3, -⟩ := hH
      unfold F_L_undo F_X5_undo
      rw [h3, e0, if_neg (by decide)]
      rfl
    · show F_X6_undo u = _
      unfold F_X6_undo
      rw [hu.2.2.1.1, e0, if_pos (show nI 0 = 0 from rfl)]
  · obtain ⟨c, hc⟩ : ∃ c, A.ct = c + 1 := ⟨A.ct - 1, by omega⟩
    rw [hc] at hH h8
    have hok : (A.hs c).ok := hA.2.2.2.1 c (by omega)
    obtain ⟨w1, g1, g2, g3, g4⟩ := c_takeBack hH h8
    refine fin_i (FL := F_L_undo w) (FM := fun u => F_X6_undo u) (A' := A.wb (A.hs c) c A.hs) (k := 0) (v := nI c) (w1 := w1) hM (hA.wb hok (by omega) (fun i hi => hA.2.2.2.1 i (by omega))) ?_ (hC.wb g4 (by decide) g3 g2) (g4.agm (by decide)) (fun u hu => ?_)
    · obtain ⟨nx, -, -, h3, -⟩ := hH
      obtain ⟨nx2, -, -, h4, -⟩ := g2
      have e : F_X5_undo w = some (.inr (nI c, w1)) := by
        unfold F_X5_undo
        rw [h3, if_pos (show (0 : Int32) < nI (c + 1) from nI_lt (a := 0) (by omega) (by omega)), g1, Option.bind_some, h4]
      unfold F_L_undo
      rw [e]
      rfl
    · have hHu : HM u A.ct A.hs := hu.2.2.1
      rw [hc] at hHu
      have hmb := hHu.2 c (by omega)
      have hk1 : Kf [] [3] u (pI u 26 3 (nI c)) := Kf.p26 (by decide)
      have hk2 : Kf [27] [3, 14] u (pI (setr (pI u 26 3 (nI c)) 27 0 32 (fun k => gI (pI u 26 3 (nI c)) 29 (32 * c + k))) 26 14 0) := (hk1.tr (kf_setr (D := [27]) (F := []) (by decide)) (D := [27]) (F := [3]) (by decide) (by decide) (by decide) (by decide)).tr (Kf.p26 (D := []) (F := [14]) (by decide)) (by decide) (by decide) (by decide) (by decide)
      refine ⟨_, ?_, rfl, hu.wb hk2 (by decide) (by decide) (by decide) (MB.p26 (mb_setr hok (hk1.mb (by decide) (by decide) hmb))) ⟨?_, fun i hi => hk2.mb (by decide) (by decide) (hHu.2 i (by omega))⟩, hk2.agc (by decide), hk2.2.1⟩
      · show F_X6_undo u = _
        unfold F_X6_undo B_X6_undo_23
        rw [hHu.1, if_neg (nI_ne0 (by omega) (by omega)), show nI (c + 1) - 1 = nI c from nI_pred c, pI_same, L32, pk_mul, Nat.mul_comm, show F_X6_copy 29 256 27 32 (pI u 26 3 (nI c)) (nI (32 * c)) 0 = _ from m_copy (o1 := 32 * c) (o3 := 0) (by decide) (by omega) (by omega) (by omega) (by omega), Option.bind_some, gI_setr_ne (by decide), pI_same]
        rfl
      · rw [gI_pI, if_neg (by omega), gI_setr_ne (by decide), pI_same]
def Abs.wsv (A : Abs) : Abs := mkA A.B true A.B A.ct A.hs A.tl A.ip A.er A.wy A.dt A.ll A.ln
theorem K_37 {w : Wo} (hI : Inv w) (x1 x2 x3 : Int32) : ∃ w', F_K_37 w x1 x2 x3 = some w' ∧ Inv w' := by
  obtain ⟨A, hA, hC, hM⟩ := hI
  have hB := hA.1
  obtain ⟨w1, g1, g2, g3⟩ := c_copy (h0 := 3) (h1 := 1) (by decide) hC.1
  have g : ∀ a, a ≠ 0 → a ≠ 3 → ∀ b, gI (pI w1 0 12 1) a b = gI w a b ∧ gL (pI w1 0 12 1) a b = gL w a b := fun a h1 h2 b => ⟨by rw [gI_pI, if_neg (by omega)]; exact (g3 a b h2).1, (g3 a b h2).2⟩
  have g0 : ∀ b, b ≠ 12 → gI (pI w1 0 12 1) 0 b = gI w 0 b := fun b h1 => by rw [gI_pI, if_neg (by omega)]; exact (g3 0 b (by decide)).1
  have hc1 : CB (pI w1 0 12 1) 1 A.B := CB_cg (g 1 (by decide) (by decide)) hC.1
  refine fin_p (FC := F_X5_save w) (FM := fun u => F_X6_save u) (A' := A.wsv) (k := 0) (v := nI (homes A.B A.B.cell)) (w1 := pI w1 0 12 1) hM ⟨hB, fun _ => hB, hA.2.2⟩ ?_ ?_ (fun a b h1 h2 => g a (by omega) (by omega) b) (fun u hu => ?_)
  · unfold F_X5_save B_X5_save_16
    rw [g1, Option.bind_some, c_atHome hB hc1 hc1.2.2.1, Option.bind_some]
  · obtain ⟨h1, ⟨h2, h3⟩, ⟨nx, h4, h5, h6, h7⟩, ⟨h8, h9⟩, h10, ⟨h11, h12⟩, h13, h14⟩ := hC
    exact ⟨hc1, ⟨pI_same, fun _ => CB_cg (fun b => ⟨by rw [gI_pI, if_neg (by omega)], rfl⟩) g2⟩, ⟨nx, h4, ((g 4 (by decide) (by decide)) _).1.trans h5, ((g 4 (by decide) (by decide)) _).1.trans h6, fun i hi => CB_cg (g (hix nx A.ct i) (by have := hix_r nx A.ct i; omega) (by have := hix_r nx A.ct i; omega)) (h7 i hi)⟩, ⟨(g0 8 (by decide)).trans h8, fun i hi => ((g 25 (by decide) (by decide)) _).1.trans (h9 i hi)⟩, (g0 9 (by decide)).trans h10, ⟨(g0 10 (by decide)).trans h11, fun e => (g0 11 (by decide)).trans (h12 e)⟩, ((g 19 (by decide) (by decide)) _).1.trans h13, fun i hi => ((g 20 (by decide) (by decide)) _).1.trans (h14 i hi)⟩
  · obtain ⟨U, hU⟩ : ∃ U, U = pI (setr u 30 0 32 (fun k => gI u 27 (0 + k))) 26 5 1 := ⟨_, rfl⟩
    have hk1 : Kf [30] [5] u U := by
      rw [hU]
      exact (kf_setr (D := [30]) (F := []) (by decide)).tr (Kf.p26 (D := []) (F := [5]) (by decide)) (by decide) (by decide) (by decide) (by decide)
    have hU27 := hk1.mb (h := 27) (by decide) (by decide) hu.1
    have hU30 : MB U 30 0 A.B := by
      rw [hU]
      exact MB_cg (fun b => by rw [gI_pI, if_neg (by omega)]) (mb_setr hB hu.1)
    have hU5 : gI U 26 5 = 1 := by rw [hU, pI_same]
    obtain ⟨u2, k1, k2⟩ := m_homes hB hU27
    have hk2 : Kf [30, 33] [5, 14] u (pI u2 26 14 0) := (hk1.tr (k2.kf (F := [])) (D := [30, 33]) (F := [5]) (by decide) (by decide) (by decide) (by decide)).tr (Kf.p26 (D := []) (F := [14]) (by decide)) (by decide) (by decide) (by decide) (by decide)
    have hk3 : Kf [33] [14] U (pI u2 26 14 0) := (k2.kf (F := [])).tr (Kf.p26 (D := []) (F := [14]) (by decide)) (by decide) (by decide) (by decide) (by decide)
    refine ⟨pI u2 26 14 0, ?_, rfl, ?_, hk2.agc (by decide), hk2.2.1⟩
    · show F_X6_save u = _
      unfold F_X6_save B_X6_save_18
      rw [show F_X6_copy 27 32 30 32 u 0 0 = _ from m_copy (o1 := 0) (o3 := 0) (by decide) (by omega) (by omega) (by omega) (by omega), Option.bind_some, ← hU, k1, Option.bind_some]
      rfl
    · obtain ⟨h1, ⟨h2, h3⟩, ⟨h6, h7⟩, ⟨h8, h9⟩, h10, ⟨h11, h12⟩, h13, h14⟩ := hu
      have q : ∀ a, a ∈ [27, 29, 31, 32] → ∀ b, gI (pI u2 26 14 0) a b = gI u a b := fun a ha b => hk2.1 a b (by revert ha; revert a; decide) (fun e => by rw [e] at ha; exact absurd ha (by decide))
      have f : ∀ b, b ∈ [3, 7, 8, 9, 10, 13] → gI (pI u2 26 14 0) 26 b = gI u 26 b := fun b hb => hk2.1 26 b (by decide) (fun _ => by revert hb; revert b; decide)
      exact ⟨MB_cg (q 27 (by decide)) h1, ⟨(hk3.1 26 5 (by decide) (fun _ => by decide)).trans hU5, fun _ => hk3.mb (by decide) (by decide) hU30⟩, ⟨(f 3 (by decide)).trans h6, fun i hi => MB_cg (q 29 (by decide)) (h7 i hi)⟩, ⟨(f 7 (by decide)).trans h8, fun i hi => (q 31 (by decide) _).trans (h9 i hi)⟩, (f 8 (by decide)).trans h10, ⟨(f 9 (by decide)).trans h11, fun e => (f 10 (by decide)).trans (h12 e)⟩, (f 13 (by decide)).trans h13, fun i hi => (q 32 (by decide) _).trans (h14 i hi)⟩
theorem K_38 {w : Wo} (hI : Inv w) (x1 x2 x3 : Int32) : ∃ w', F_K_38 w x1 x2 x3 = some w' ∧ Inv w' := by
  obtain ⟨A, hA, hC, hM⟩ := hI
  have hsv := hC.2.1.1
  by_cases hs : A.sv = true
  · have hS := hA.2.1 hs
    obtain ⟨w1, g1, g2, g3⟩ := c_copy (h0 := 1) (h1 := 3) (by decide) (hC.2.1.2 hs)
    have hk : Kd [1, 4] w (pI w1 4 2 0) := (g3.kd (D := [1]) (by decide)).tr (Kd.pI (D := [4]) (by decide)) (by decide) (by decide)
    have hc1 : CB (pI w1 4 2 0) 1 A.S := CB_cg (fun b => ⟨by rw [gI_pI, if_neg (by omega)], rfl⟩) g2
    have hH : HC (pI w1 4 2 0) 0 A.hs := by
      obtain ⟨nx, h4, h5, h6, h7⟩ := hC.2.2.1
      refine ⟨nx, h4, ?_, pI_same, fun i hi => absurd hi (Nat.not_lt_zero i)⟩
      rw [gI_pI, if_neg (by omega)]
      exact (g3 4 1 (by decide)).1.trans h5
    refine fin_i (FL := F_L_restore w) (FM := fun u => F_X6_restore u) (A' := A.wb A.S 0 A.hs) (k := 0) (v := nI (homes A.S A.S.cell)) (w1 := pI w1 4 2 0) hM (hA.wb hS (by omega) (fun i hi => absurd hi (Nat.not_lt_zero i))) ?_ (hC.wb hk (by decide) hc1 hH) (hk.agm (by decide)) (fun u hu => ?_)
    · have e : F_X5_restore w = some (.inr (nI (homes A.S A.S.cell), pI w1 4 2 0)) := by
        unfold F_X5_restore F_X2_forget
        rw [hsv, hs, if_neg (by decide), g1, Option.bind_some, Option.bind_some, c_atHome hS hc1 hc1.2.2.1, Option.bind_some]
      unfold F_L_restore
      rw [e]
      rfl
    · have hS30 := hu.2.1.2 hs
      obtain ⟨U, hU⟩ : ∃ U, U = pI (setr u 27 0 32 (fun k => gI u 30 (0 + k))) 26 3 0 := ⟨_, rfl⟩
      have hk1 : Kf [27] [3] u U := by
        rw [hU]
        exact (kf_setr (D := [27]) (F := []) (by decide)).tr (Kf.p26 (D := []) (F := [3]) (by decide)) (by decide) (by decide) (by decide) (by decide)
      have hU27 : MB U 27 0 A.S := by
        rw [hU]
        exact MB.p26 (mb_setr hS hS30)
      have hU3 : gI U 26 3 = 0 := by rw [hU, pI_same]
      obtain ⟨u2, k1, k2⟩ := m_homes hS hU27
      have hk2 : Kf [27, 33] [3, 14] u (pI u2 26 14 0) := (hk1.tr (k2.kf (F := [])) (D := [27, 33]) (F := [3]) (by decide) (by decide) (by decide) (by decide)).tr (Kf.p26 (D := []) (F := [14]) (by decide)) (by decide) (by decide) (by decide) (by decide)
      have hk3 : Kf [33] [14] U (pI u2 26 14 0) := (k2.kf (F := [])).tr (Kf.p26 (D := []) (F := [14]) (by decide)) (by decide) (by decide) (by decide) (by decide)
      refine ⟨pI u2 26 14 0, ?_, rfl, hu.wb hk2 (by decide) (by decide) (by decide) (hk3.mb (by decide) (by decide) hU27) ⟨(hk3.1 26 3 (by decide) (fun _ => by decide)).trans hU3, fun i hi => absurd hi (Nat.not_lt_zero i)⟩, hk2.agc (by decide), hk2.2.1⟩
      show F_X6_restore u = _
      unfold F_X6_restore B_X6_restore_31
      rw [hu.2.1.1, hs, if_neg (by decide), show F_X6_copy 30 32 27 32 u 0 0 = _ from m_copy (o1 := 0) (o3 := 0) (by decide) (by omega) (by omega) (by omega) (by omega), Option.bind_some, ← hU, k1, Option.bind_some]
      rfl
  · rw [Bool.not_eq_true] at hs
    refine fin_i (FL := F_L_restore w) (FM := fun u => F_X6_restore u) (A' := A) (k := 1) (v := 0) hM hA ?_ hC AgM.rf (mo_fails fun u hu => ?_)
    · unfold F_L_restore F_X5_restore
      rw [hsv, hs, if_pos (show bI false = 0 from rfl)]
      rfl
    · show F_X6_restore u = _
      unfold F_X6_restore
      rw [hu.2.1.1, hs, if_pos (show bI false = 0 from rfl)]
