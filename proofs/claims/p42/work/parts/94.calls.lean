/-! CALLS OF THE CLASS ALONE, ON THE STATE THAT IT HOLDS -/
section CALLS
variable {w : Wo} {A : Abs}
theorem p_undo {c : Nat} (hA : Aok A) (hC : CI w A) (hc : A.ct = c + 1) : ∃ w1, F_X5_undo w = some (.inr (nI c, w1)) ∧ CI w1 (A.wb (A.hs c) c A.hs) := by
  have h8 : A.ct ≤ 8 := hA.2.2.1
  have hH : HC w A.ct A.hs := hC.2.2.1
  rw [hc] at hH h8
  obtain ⟨w1, g1, g2, g3, g4⟩ := c_takeBack hH h8
  refine ⟨w1, ?_, hC.wb g4 (by decide) g3 g2⟩
  obtain ⟨nx, -, -, h3, -⟩ := hH
  obtain ⟨nx2, -, -, h4, -⟩ := g2
  unfold F_X5_undo
  rw [h3, if_pos (show (0 : Int32) < nI (c + 1) from nI_lt (a := 0) (by omega) (by omega)), g1, Option.bind_some, h4]
theorem p_save (hA : Aok A) (hC : CI w A) : ∃ w1, F_X5_save w = some (nI (homes A.B A.B.cell), w1) ∧ CI w1 A.wsv := by
  have hB := hA.1
  obtain ⟨w1, g1, g2, g3⟩ := c_copy (h0 := 3) (h1 := 1) (by decide) hC.1
  have g : ∀ a, a ≠ 0 → a ≠ 3 → ∀ b, gI (pI w1 0 12 1) a b = gI w a b ∧ gL (pI w1 0 12 1) a b = gL w a b := fun a h1 h2 b => ⟨by rw [gI_pI, if_neg (by omega)]; exact (g3 a b h2).1, (g3 a b h2).2⟩
  have g0 : ∀ b, b ≠ 12 → gI (pI w1 0 12 1) 0 b = gI w 0 b := fun b h1 => by rw [gI_pI, if_neg (by omega)]; exact (g3 0 b (by decide)).1
  have hc1 : CB (pI w1 0 12 1) 1 A.B := CB_cg (g 1 (by decide) (by decide)) hC.1
  refine ⟨pI w1 0 12 1, ?_, ?_⟩
  · unfold F_X5_save B_X5_save_16
    rw [g1, Option.bind_some, c_atHome hB hc1 hc1.2.2.1, Option.bind_some]
  · obtain ⟨h1, ⟨h2, h3⟩, ⟨nx, h4, h5, h6, h7⟩, ⟨h8, h9⟩, h10, ⟨h11, h12⟩, h13, h14⟩ := hC
    exact ⟨hc1, ⟨pI_same, fun _ => CB_cg (fun b => ⟨by rw [gI_pI, if_neg (by omega)], rfl⟩) g2⟩, ⟨nx, h4, ((g 4 (by decide) (by decide)) _).1.trans h5, ((g 4 (by decide) (by decide)) _).1.trans h6, fun i hi => CB_cg (g (hix nx A.ct i) (by have := hix_r nx A.ct i; omega) (by have := hix_r nx A.ct i; omega)) (h7 i hi)⟩, ⟨(g0 8 (by decide)).trans h8, fun i hi => ((g 25 (by decide) (by decide)) _).1.trans (h9 i hi)⟩, (g0 9 (by decide)).trans h10, ⟨(g0 10 (by decide)).trans h11, fun e => (g0 11 (by decide)).trans (h12 e)⟩, ((g 19 (by decide) (by decide)) _).1.trans h13, fun i hi => ((g 20 (by decide) (by decide)) _).1.trans (h14 i hi)⟩
theorem p_rest (hA : Aok A) (hC : CI w A) (hs : A.sv = true) : ∃ w1, F_X5_restore w = some (.inr (nI (homes A.S A.S.cell), w1)) ∧ CI w1 (A.wb A.S 0 A.hs) := by
  have hsv := hC.2.1.1
  have hS := hA.2.1 hs
  obtain ⟨w1, g1, g2, g3⟩ := c_copy (h0 := 1) (h1 := 3) (by decide) (hC.2.1.2 hs)
  have hk : Kd [1, 4] w (pI w1 4 2 0) := (g3.kd (D := [1]) (by decide)).tr (Kd.pI (D := [4]) (by decide)) (by decide) (by decide)
  have hc1 : CB (pI w1 4 2 0) 1 A.S := CB_cg (fun b => ⟨by rw [gI_pI, if_neg (by omega)], rfl⟩) g2
  have hH : HC (pI w1 4 2 0) 0 A.hs := by
    obtain ⟨nx, h4, h5, h6, h7⟩ := hC.2.2.1
    refine ⟨nx, h4, ?_, pI_same, fun i hi => absurd hi (Nat.not_lt_zero i)⟩
    rw [gI_pI, if_neg (by omega)]
    exact (g3 4 1 (by decide)).1.trans h5
  refine ⟨pI w1 4 2 0, ?_, hC.wb hk (by decide) hc1 hH⟩
  unfold F_X5_restore F_X2_forget
  rw [hsv, hs, if_neg (by decide), g1, Option.bind_some, Option.bind_some, c_atHome hS hc1 hc1.2.2.1, Option.bind_some]
theorem p_append {x : Int32} (hC : CI w A) (h : A.tl < 60) (hch : isCh x) : ∃ w', F_X5_append w x = some (.inr (nI (A.tl + 1), w')) ∧ CI w' (A.wi x) := by
  have hc8 := hC.2.2.2.1.1
  refine ⟨pI (pI w 25 A.tl x) 0 8 (nI (A.tl + 1)), ?_, ?_⟩
  · unfold F_X5_append B_X5_append_40 B_X5_append_50
    rw [hc8, if_neg (nI_pos (by omega)), L60, if_pos (nI_lt h (by omega)), L0, jchk_nI (by omega) (by omega), nI_clamp (by omega), isCh_nar hch]
    have e8 : gI (pI w 25 A.tl x) 0 8 = nI A.tl := by
      rw [gI_pI, if_neg (by omega)]
      exact hc8
    rw [e8, nI_1, pI_same]
  · have g : ∀ a, a ≠ 0 → a ≠ 25 → ∀ b, gI (pI (pI w 25 A.tl x) 0 8 (nI (A.tl + 1))) a b = gI w a b ∧ gL (pI (pI w 25 A.tl x) 0 8 (nI (A.tl + 1))) a b = gL w a b := fun a h1 h2 b => ⟨by rw [gI_pI, if_neg (by omega), gI_pI, if_neg (by omega)], rfl⟩
    have g0 : ∀ b, b ≠ 8 → gI (pI (pI w 25 A.tl x) 0 8 (nI (A.tl + 1))) 0 b = gI w 0 b := fun b hb => by rw [gI_pI, if_neg (by omega), gI_pI, if_neg (by omega)]
    obtain ⟨h1, ⟨h2, h3⟩, ⟨nx, h4, h5, h6, h7⟩, ⟨h8, h9⟩, h10, ⟨h11, h12⟩, h13, h14⟩ := hC
    refine ⟨CB_cg (g 1 (by decide) (by decide)) h1, ⟨(g0 12 (by decide)).trans h2, fun e => CB_cg (g 3 (by decide) (by decide)) (h3 e)⟩, ⟨nx, h4, ((g 4 (by decide) (by decide)) _).1.trans h5, ((g 4 (by decide) (by decide)) _).1.trans h6, fun i hi => CB_cg (g (hix nx A.ct i) (by have := hix_r nx A.ct i; omega) (by have := hix_r nx A.ct i; omega)) (h7 i hi)⟩, ⟨pI_same, fun i hi => ?_⟩, (g0 9 (by decide)).trans h10, ⟨(g0 10 (by decide)).trans h11, fun e => (g0 11 (by decide)).trans (h12 e)⟩, ((g 19 (by decide) (by decide)) _).1.trans h13, fun i hi => ((g 20 (by decide) (by decide)) _).1.trans (h14 i hi)⟩
    show (if 25 = 0 ∧ i = 8 then nI (A.tl + 1) else if 25 = 25 ∧ i = A.tl then x else gI w 25 i) = if i = A.tl then x else A.ip i
    rw [if_neg (by omega)]
    by_cases e : i = A.tl
    · rw [if_pos e, if_pos ⟨rfl, e⟩]
    · rw [if_neg e, if_neg (fun q => e q.2)]
      exact h9 i (by have : i < A.tl + 1 := hi; omega)
theorem isCh_lt : ∀ c, c < 128 → isCh (nI c) := by
  have : ∀ c, c < 128 → ((nI c).toUInt32 % 65536).toInt32 = nI c := by decide +kernel
  exact this
theorem p_puts (ds : List Nat) : ∀ (w : Wo) (A : Abs) (cs : List Nat), Aok A → CI w A → Tin A cs → (∀ c ∈ ds, c < 128) → cs.length + ds.length ≤ 60 → ∃ (w' : Wo) (A' : Abs), puts w ds = some w' ∧ CI w' A' ∧ Aok A' ∧ Tin A' (cs ++ ds) ∧ (A'.B = A.B ∧ A'.sv = A.sv ∧ A'.S = A.S ∧ A'.ct = A.ct ∧ A'.hs = A.hs) := by
  induction ds with
  | nil => exact fun w A cs hA hC hT _ _ => ⟨w, A, rfl, hC, hA, by rw [List.append_nil]; exact hT, rfl, rfl, rfl, rfl, rfl⟩
  | cons c ds ih =>
    intro w A cs hA hC hT hds hlen
    have hlen : cs.length + (ds.length + 1) ≤ 60 := hlen
    have hch := isCh_lt c (hds c List.mem_cons_self)
    have htl := hT.1
    obtain ⟨w1, g1, g2⟩ := p_append hC (by omega) hch
    have hA1 : Aok (A.wi (nI c)) := ⟨hA.1, hA.2.1, hA.2.2.1, hA.2.2.2.1, (by show A.tl + 1 ≤ 60; omega), fun i hi => (by
      show isCh (if i = A.tl then nI c else A.ip i)
      by_cases e : i = A.tl
      · rw [if_pos e]
        exact hch
      · rw [if_neg e]
        exact hA.2.2.2.2.2.1 i (by have : i < A.tl + 1 := hi; omega)), hA.2.2.2.2.2.2⟩
    have hT1 : Tin (A.wi (nI c)) (cs ++ [c]) := by
      refine ⟨by rw [List.length_append]; show A.tl + 1 = _; rw [htl]; rfl, fun i hi => ?_⟩
      rw [List.length_append] at hi
      have hi : i < cs.length + 1 := hi
      show (if i = A.tl then nI c else A.ip i) = _
      by_cases e : i = cs.length
      · rw [if_pos (by omega), e, List.getD_eq_getElem?_getD, List.getElem?_append_right (Nat.le_refl _), Nat.sub_self]
        rfl
      · rw [if_neg (by omega), hT.2 i (by omega), List.getD_eq_getElem?_getD, List.getD_eq_getElem?_getD, List.getElem?_append_left (by omega)]
    obtain ⟨w', A', k1, k2, k3, k4, k5⟩ := ih w1 (A.wi (nI c)) (cs ++ [c]) hA1 g2 hT1 (fun x hx => hds x (List.mem_cons_of_mem _ hx)) (by rw [List.length_append]; show cs.length + 1 + ds.length ≤ 60; omega)
    refine ⟨w', A', ?_, k2, k3, by rw [List.append_cons]; exact k4, k5⟩
    unfold puts
    rw [g1, Option.bind_some, Sum.elim_inr]
    exact k1
theorem p_bar (hA : Aok A) (hC : CI w A) {l : Nat} (hl : l < A.B.r + A.B.c) : ∃ w', F_X5_bar w (nI l) = some (.inr (bI (!A.B.bar l), w')) ∧ CI w' (A.push (barB A.B l)) := by
  have hd := dims hA.1
  obtain ⟨w', g1, g2⟩ := ch_yes hA hC (y_bar hA.1 hl 0)
  refine ⟨w', ?_, g2⟩
  unfold F_X5_bar
  rw [g1, Option.bind_some, Sum.elim_inr, c_hasBar (B := barB A.B l) (barB_ok hA.1 hl) g2.1 (by omega)]
  show some (Sum.inr (bI (if l = l then !A.B.bar l else A.B.bar l), w')) = _
  rw [if_pos rfl]
theorem mxn_le (B : Bd) (s : Nat) : ∀ k, mxn B s k ≤ k
  | 0 => Nat.le_refl 0
  | k + 1 => by
    have := mxn_le B s k
    unfold mxn
    split <;> omega
theorem p_scr (hA : Aok A) (hC : CI w A) {s n : Nat} (hs : s < 1000) (h1 : 1 ≤ n) (hn : n < 10) : ∃ w', F_X5_scramble w (nI s) (nI n) = some (.inr (nI (mxn A.B s n), w')) ∧ CI w' (A.push (mixB A.B s n)) := by
  obtain ⟨w', g1, g2⟩ := ch_yes hA hC (y_scr hA.1 hs h1 hn)
  refine ⟨w', ?_, g2⟩
  have e1 : gI w 1 5 = A.B.cn 2 := hC.1.2.2.2.2.2 2 (by decide) (by decide)
  have e2 : gI w' 1 5 = (mixB A.B s n).cn 2 := g2.1.2.2.2.2.2 2 (by decide) (by decide)
  have e3 : (mixB A.B s n).cn 2 = A.B.cn 2 + nI (mxn A.B s n) := mx_cn A.B s n
  unfold F_X5_scramble
  rw [g1, Option.bind_some, Sum.elim_inr, e1, e2, e3, Int32.add_comm, Int32.add_sub_cancel]
theorem p_swap (hA : Aok A) (hC : CI w A) {a b : Nat} (ha : a < A.B.n) (hb : b < A.B.n) (hn : a ≠ b) : ∃ w', F_X5_swap w (nI a) (nI b) = some (.inr (nI (homes (swapB A.B a b) (swapB A.B a b).cell), w')) ∧ CI w' (A.push (swapB A.B a b)) := by
  obtain ⟨w', g1, g2⟩ := ch_yes hA hC (y_swap hA.1 ha hb hn)
  refine ⟨w', ?_, g2⟩
  unfold F_X5_swap
  rw [g1, Option.bind_some, Sum.elim_inr, c_atHome (swapB_ok hA.1 ha hb) g2.1 g2.1.2.2.1, Option.bind_some]
  rfl
theorem p_ref (hC : CI w A) (h0 : 0 < A.wy) (h6 : A.wy < 6) : F_X5_refusal w 0 = some (.inr (nI A.wy, w)) ∧ F_X5_refusal w 1 = some (.inr (A.dt, w)) := by
  have e1 : gI w 0 10 = nI A.wy := by
    rw [hC.2.2.2.2.2.1.1, wyC, if_neg (by omega)]
  have e2 : gI w 0 11 = A.dt := hC.2.2.2.2.2.1.2 (by omega)
  unfold F_X5_refusal
  rw [e1, e2, if_pos (nI_pos' (by omega)), if_pos rfl, if_pos (nI_pos' (by omega)), if_neg (by decide)]
  exact ⟨rfl, rfl⟩
end CALLS
