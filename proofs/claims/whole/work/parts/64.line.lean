/-! LINES OF TEXT, THE INPUT -/
theorem Kf.cb {D F : List Nat} {w w' : Wo} {h : Nat} {B : Bd} (hk : Kf D F w w') (hh : h ∉ D) (h26 : h ≠ 26) (hC : CB w h B) : CB w' h B := CB_cg (fun b => ⟨hk.1 h b hh (fun e => absurd e h26), hk.2.1 h b⟩) hC
theorem isCh_nar {x : Int32} (h : isCh x) : vp_nar .char x = x := by
  unfold vp_nar
  rw [nar_c h]
theorem isCh_c (x : Int32) : isCh (ji2c x) := by
  have h := pk_fc x
  have h2 := pk_nc x
  unfold isCh
  show (((x.toUInt32 % 65536).toInt32).toUInt32 % 65536).toInt32 = (x.toUInt32 % 65536).toInt32
  congr 1
  rw [← UInt32.toNat_inj]
  simp
theorem isCh_sg : ∀ v, v < 13 → isCh (sgI v) := by
  unfold isCh
  decide +kernel
def isChB (x : Int32) : Bool := decide ((x.toUInt32 % 65536).toInt32 = x)
theorem isCh_47 : isCh 47 := by unfold isCh; decide
theorem isCh_35 : isCh 35 := by unfold isCh; decide
theorem isCh_33 : isCh 33 := by unfold isCh; decide
/-- a line: how long, and its characters -/
abbrev Ln : Type := Nat × (Nat → Int32)
def pu (s : Ln) (x : Int32) : Ln := (s.1 + 1, fun i => if i = s.1 then x else s.2 i)
def Lok (s : Ln) : Prop := ∀ i, i < s.1 → isCh (s.2 i)
theorem Lok.pu {s : Ln} {x : Int32} (h : Lok s) (hx : isCh x) : Lok (pu s x) := by
  intro i hi
  show isCh (if i = s.1 then x else s.2 i)
  by_cases e : i = s.1
  · rw [if_pos e]
    exact hx
  · rw [if_neg e]
    exact h i (by have : i < s.1 + 1 := hi; omega)
def LC (w : Wo) (s : Ln) : Prop := gI w 19 1 = nI s.1 ∧ ∀ i, i < s.1 → gI w 20 i = s.2 i
def LM (w : Wo) (s : Ln) : Prop := gI w 26 13 = nI s.1 ∧ ∀ i, i < s.1 → gI w 32 i = s.2 i
theorem c_add {w : Wo} {s : Ln} {x : Int32} (h : LC w s) (hs : s.1 < 11) (hx : isCh x) : ∃ w', F_X3_add w x = some w' ∧ LC w' (pu s x) ∧ Kf [19, 20] [] w w' := by
  refine ⟨pI (pI w 20 s.1 x) 19 1 (nI (s.1 + 1)), ?_, ⟨pI_same, fun i hi => ?_⟩, (Kf.pI (D := [20]) (F := []) (by decide)).tr (Kf.pI (D := [19]) (F := []) (by decide)) (by decide) (by decide) (by decide) (by decide)⟩
  · unfold F_X3_add B_X3_add_29
    rw [h.1, if_neg (nI_pos (by omega)), L11, if_neg (nI_ge hs (by omega)), L0, jchk_nI (by omega) (by omega), nI_clamp (by omega), isCh_nar hx]
    have e : gI (pI w 20 s.1 x) 19 1 = nI s.1 := by
      rw [gI_pI, if_neg (by omega)]
      exact h.1
    rw [e, nI_1]
  · show (if 20 = 19 ∧ i = 1 then nI (s.1 + 1) else if 20 = 20 ∧ i = s.1 then x else gI w 20 i) = if i = s.1 then x else s.2 i
    rw [if_neg (by omega)]
    by_cases e : i = s.1
    · rw [if_pos e, if_pos ⟨rfl, e⟩]
    · rw [if_neg e, if_neg (fun q => e q.2)]
      exact h.2 i (by have : i < s.1 + 1 := hi; omega)
theorem m_writes {w : Wo} {s : Ln} {x : Int32} (h : LM w s) (hs : s.1 < 20) (hx : isCh x) : ∃ w', F_X6_writes w x = some w' ∧ LM w' (pu s x) ∧ Kf [32] [13] w w' := by
  refine ⟨pI (pI w 32 s.1 x) 26 13 (nI (s.1 + 1)), ?_, ⟨pI_same, fun i hi => ?_⟩, (Kf.pI (D := [32]) (F := []) (by decide)).tr (Kf.p26 (D := []) (F := [13]) (by decide)) (by decide) (by decide) (by decide) (by decide)⟩
  · unfold F_X6_writes B_X6_writes_11
    rw [h.1, L0, jchk_nI (by omega) (by omega), nI_clamp (by omega), show ji2c x = x from hx, isCh_nar hx]
    have e : gI (pI w 32 s.1 x) 26 13 = nI s.1 := by
      rw [gI_pI, if_neg (by omega)]
      exact h.1
    rw [e, nI_1]
  · show (if 32 = 26 ∧ i = 13 then nI (s.1 + 1) else if 32 = 32 ∧ i = s.1 then x else gI w 32 i) = if i = s.1 then x else s.2 i
    rw [if_neg (by omega)]
    by_cases e : i = s.1
    · rw [if_pos e, if_pos ⟨rfl, e⟩]
    · rw [if_neg e, if_neg (fun q => e q.2)]
      exact h.2 i (by have : i < s.1 + 1 := hi; omega)
/-- all of a board's signs -/
def tx (c : Nat) (f : Nat → Nat) : Nat → Ln
  | 0 => (0, fun _ => 0)
  | k + 1 => pu (if 0 < k ∧ k % c = 0 then pu (tx c f k) 47 else tx c f k) (sgI (f k))
def txl (c : Nat) : Nat → Nat
  | 0 => 0
  | k + 1 => (if 0 < k ∧ k % c = 0 then txl c k + 1 else txl c k) + 1
theorem tx_l (c : Nat) (f : Nat → Nat) : ∀ k, (tx c f k).1 = txl c k
  | 0 => rfl
  | k + 1 => by
    have ih := tx_l c f k
    unfold tx txl
    by_cases h : 0 < k ∧ k % c = 0
    · rw [if_pos h, if_pos h, ← ih]
      rfl
    · rw [if_neg h, if_neg h, ← ih]
      rfl
theorem txl_le {B : Bd} (hB : B.ok) : ∀ k, k < B.r * B.c + 1 → txl B.c k ≤ 11 := dim4 (Q := fun r c => ∀ k, k < r * c + 1 → txl c k ≤ 11) hB (by decide +kernel) (by decide +kernel) (by decide +kernel) (by decide +kernel)
theorem tx_ok (c : Nat) (f : Nat → Nat) : ∀ k, (∀ p, p < k → f p < 13) → Lok (tx c f k)
  | 0, _ => fun i hi => absurd hi (Nat.not_lt_zero i)
  | k + 1, h => by
    have ih := tx_ok c f k (fun p hp => h p (by omega))
    unfold tx
    refine Lok.pu ?_ (isCh_sg _ (h k (by omega)))
    by_cases h2 : 0 < k ∧ k % c = 0
    · rw [if_pos h2]
      exact ih.pu isCh_47
    · rw [if_neg h2]
      exact ih
theorem c_writeAll {w : Wo} {B : Bd} {x : Int64} {f : Nat → Nat} (hB : B.ok) (hC : CB w 1 B) (hf : ∀ p, p < B.n → nib x p = f p) (h13 : ∀ p, p < B.n → f p < 13) : ∃ w', F_X5_writeAll w x = some (nI (tx B.c f B.n).1, w') ∧ LC w' (tx B.c f B.n) ∧ Kf [19, 20] [] w w' := by
  have hd := dims hB
  unfold F_X5_writeAll F_X3_clear
  rw [Option.bind_some]
  refine jl2_inv (P := fun k u a => LC u (tx B.c f k) ∧ Kf [19, 20] [] w u ∧ a = nI k) (Qr := fun r => ∃ w', r = some (nI (tx B.c f B.n).1, w') ∧ LC w' (tx B.c f B.n) ∧ Kf [19, 20] [] w w') B.n (by rw [fu4]; omega) ?_ ?_ ⟨⟨pI_same, fun i hi => absurd hi (Nat.not_lt_zero i)⟩, Kf.pI (by decide), rfl⟩
  · rintro k hk u a ⟨h1, h2, rfl⟩
    have hu : CB u 1 B := h2.cb (by decide) (by decide) hC
    have hl := txl_le hB (k + 1) (by show k + 1 < B.n + 1; omega)
    have e : F_X5_signOf (F_X5_codeAt x (nI k)) = sgI (f k) := by
      rw [codeAt_nib (by omega), hf k hk, signOf_nI _ (h13 k hk)]
    have h47 : (47 : Int32) = 47 := rfl
    by_cases hs : 0 < k ∧ k % B.c = 0
    · have hl2 : txl B.c (k + 1) = txl B.c k + 1 + 1 := by
        show (if 0 < k ∧ k % B.c = 0 then txl B.c k + 1 else txl B.c k) + 1 = _
        rw [if_pos hs]
      obtain ⟨u1, g1, g2, g3⟩ := c_add h1 (by rw [tx_l]; omega) isCh_47
      obtain ⟨u2, g4, g5, g6⟩ := c_add g2 (show (tx B.c f k).1 + 1 < 11 by rw [tx_l]; omega) (isCh_sg _ (h13 k hk))
      refine Or.inl ⟨u2, nI (k + 1), ⟨?_, (h2.tr g3 (D := [19, 20]) (F := []) (by decide) (by decide) (by decide) (by decide)).tr g6 (by decide) (by decide) (by decide) (by decide), rfl⟩, fun K => ?_⟩
      · unfold tx
        rw [if_pos hs]
        exact g5
      · unfold B_X5_writeAll_9 B_X5_writeAll_44
        rw [c_places hB hu, if_neg (nI_ge hk (by omega)), if_neg (nI_nle hs.1 (by omega)), c_columnOf hB hu (by omega), Option.bind_some, hs.2, if_pos (show nI 0 = 0 from rfl), g1, Option.bind_some, e, g4, Option.bind_some, nI_succ]
    · have hl2 : txl B.c (k + 1) = txl B.c k + 1 := by
        show (if 0 < k ∧ k % B.c = 0 then txl B.c k + 1 else txl B.c k) + 1 = _
        rw [if_neg hs]
      obtain ⟨u2, g4, g5, g6⟩ := c_add h1 (by rw [tx_l]; omega) (isCh_sg _ (h13 k hk))
      refine Or.inl ⟨u2, nI (k + 1), ⟨?_, h2.tr g6 (by decide) (by decide) (by decide) (by decide), rfl⟩, fun K => ?_⟩
      · unfold tx
        rw [if_neg hs]
        exact g5
      · unfold B_X5_writeAll_9 B_X5_writeAll_44
        rw [c_places hB hu, if_neg (nI_ge hk (by omega)), e, g4, Option.bind_some]
        by_cases h0 : 0 < k
        · have hm : k % B.c < B.c := Nat.mod_lt _ (by omega)
          rw [if_neg (nI_nle h0 (by omega)), c_columnOf hB hu (by omega), Option.bind_some, if_neg (nI_ne0 (by omega) (by omega)), nI_succ]
        · rw [show k = 0 by omega, if_pos (show nI 0 ≤ 0 by decide)]
          rfl
  · rintro u a ⟨h1, h2, rfl⟩ K
    have hu : CB u 1 B := h2.cb (by decide) (by decide) hC
    refine ⟨u, ?_, h1, h2⟩
    unfold B_X5_writeAll_9 B_X5_writeAll_65
    rw [c_places hB hu, if_pos (nI_le (Nat.le_refl _) (by omega)), h1.1]
theorem m_writesAll {w : Wo} {B : Bd} {o : Nat} {f : Nat → Nat} (hB : B.ok) (hM : MB w 27 0 B) (ho : o ≤ 23) (hf : ∀ u, MB u 27 0 B → ∀ p, p < B.n → F_X6_signOf (gI u 27 (o + p)) = sgI (f p)) (h13 : ∀ p, p < B.n → f p < 13) : ∃ w', F_X6_writesAll w (nI o) = ((F_X6_done w' (nI (tx B.c f B.n).1)).bind fun q3 => some (q3.1, q3.2)) ∧ LM w' (tx B.c f B.n) ∧ Kf [32] [13] w w' := by
  have hd := dims hB
  unfold F_X6_writesAll B_X6_writesAll_5
  refine jl2_inv (P := fun k u a => LM u (tx B.c f k) ∧ Kf [32] [13] w u ∧ a = nI k) (Qr := fun r => ∃ w', r = ((F_X6_done w' (nI (tx B.c f B.n).1)).bind fun q3 => some (q3.1, q3.2)) ∧ LM w' (tx B.c f B.n) ∧ Kf [32] [13] w w') B.n (by rw [fu4]; omega) ?_ ?_ ⟨⟨pI_same, fun i hi => absurd hi (Nat.not_lt_zero i)⟩, Kf.p26 (by decide), rfl⟩
  · rintro k hk u a ⟨h1, h2, rfl⟩
    have hu : MB u 27 0 B := h2.mb (by decide) (by decide) hM
    have hl := txl_le hB (k + 1) (by show k + 1 < B.n + 1; omega)
    by_cases hs : 0 < k ∧ k % B.c = 0
    · have hl2 : txl B.c (k + 1) = txl B.c k + 1 + 1 := by
        show (if 0 < k ∧ k % B.c = 0 then txl B.c k + 1 else txl B.c k) + 1 = _
        rw [if_pos hs]
      obtain ⟨u1, g1, g2, g3⟩ := m_writes h1 (by rw [tx_l]; omega) isCh_47
      obtain ⟨u2, g4, g5, g6⟩ := m_writes g2 (show (tx B.c f k).1 + 1 < 20 by rw [tx_l]; omega) (isCh_sg _ (h13 k hk))
      refine Or.inl ⟨u2, nI (k + 1), ⟨?_, (h2.tr g3 (D := [32]) (F := [13]) (by decide) (by decide) (by decide) (by decide)).tr g6 (by decide) (by decide) (by decide) (by decide), rfl⟩, fun K => ?_⟩
      · unfold tx
        rw [if_pos hs]
        exact g5
      · unfold B_X6_writesAll_7 B_X6_writesAll_36
        rw [m_places hu, Option.bind_some, if_neg (nI_ge hk (by omega)), if_neg (nI_nle hs.1 (by omega)), hu.2.1, jchk_pos (nI_ne0 (by omega) (by omega)), jrem_nI (by omega) (by omega) (by omega), hs.2, if_pos (show nI 0 = 0 from rfl), g1, Option.bind_some, ofs, L0, jchk_nI (by omega) (by omega), nI_clamp (by omega), hf u1 (g3.mb (by decide) (by decide) hu) k hk, g4, Option.bind_some, nI_succ]
    · have hl2 : txl B.c (k + 1) = txl B.c k + 1 := by
        show (if 0 < k ∧ k % B.c = 0 then txl B.c k + 1 else txl B.c k) + 1 = _
        rw [if_neg hs]
      obtain ⟨u2, g4, g5, g6⟩ := m_writes h1 (by rw [tx_l]; omega) (isCh_sg _ (h13 k hk))
      refine Or.inl ⟨u2, nI (k + 1), ⟨?_, h2.tr g6 (by decide) (by decide) (by decide) (by decide), rfl⟩, fun K => ?_⟩
      · unfold tx
        rw [if_neg hs]
        exact g5
      · have e36 : B_X6_writesAll_36 K u (nI o) (nI k) = K u2 (nI (k + 1)) := by
          unfold B_X6_writesAll_36
          rw [ofs, L0, jchk_nI (by omega) (by omega), nI_clamp (by omega), hf u hu k hk, g4, Option.bind_some, nI_succ]
        unfold B_X6_writesAll_7
        rw [m_places hu, Option.bind_some, if_neg (nI_ge hk (by omega)), e36]
        by_cases h0 : 0 < k
        · have hm : k % B.c < B.c := Nat.mod_lt _ (by omega)
          rw [if_neg (nI_nle h0 (by omega)), hu.2.1, jchk_pos (nI_ne0 (by omega) (by omega)), jrem_nI (by omega) (by omega) (by omega), if_neg (nI_ne0 (by omega) (by omega))]
        · rw [show k = 0 by omega, if_pos (show nI 0 ≤ 0 by decide)]
  · rintro u a ⟨h1, h2, rfl⟩ K
    have hu : MB u 27 0 B := h2.mb (by decide) (by decide) hM
    refine ⟨u, ?_, h1, h2⟩
    unfold B_X6_writesAll_7 B_X6_writesAll_57
    rw [m_places hu, Option.bind_some, if_pos (nI_le (Nat.le_refl _) (by omega)), h1.1]
def Abs.wl (A : Abs) (s : Ln) : Abs := mkA A.B A.sv A.S A.ct A.hs A.tl A.ip A.er A.wy A.dt s.1 s.2
theorem CI.wl {w w' : Wo} {A : Abs} {s : Ln} (h : CI w A) (hk : Kf [19, 20] [] w w') (hs : LC w' s) : CI w' (A.wl s) := by
  have g : ∀ a, a ≠ 19 → a ≠ 20 → ∀ b, gI w' a b = gI w a b ∧ gL w' a b = gL w a b := fun a h1 h2 b => ⟨hk.1 a b (by simp [h1, h2]) (fun _ => by simp), hk.2.1 a b⟩
  obtain ⟨h1, ⟨h2, h3⟩, ⟨nx, h4, h5, h6, h7⟩, ⟨h8, h9⟩, h10, ⟨h11, h12⟩, -⟩ := h
  exact ⟨CB_cg (g 1 (by decide) (by decide)) h1, ⟨((g 0 (by decide) (by decide)) _).1.trans h2, fun e => CB_cg (g 3 (by decide) (by decide)) (h3 e)⟩, ⟨nx, h4, ((g 4 (by decide) (by decide)) _).1.trans h5, ((g 4 (by decide) (by decide)) _).1.trans h6, fun i hi => CB_cg (g (hix nx A.ct i) (by have := hix_r nx A.ct i; omega) (by have := hix_r nx A.ct i; omega)) (h7 i hi)⟩, ⟨((g 0 (by decide) (by decide)) _).1.trans h8, fun i hi => ((g 25 (by decide) (by decide)) _).1.trans (h9 i hi)⟩, ((g 0 (by decide) (by decide)) _).1.trans h10, ⟨((g 0 (by decide) (by decide)) _).1.trans h11, fun e => ((g 0 (by decide) (by decide)) _).1.trans (h12 e)⟩, hs⟩
theorem MI.wl {w w' : Wo} {A : Abs} {s : Ln} (h : MI w A) (hk : Kf [32, 33, 34] [11, 13, 14, 17] w w') (hs : LM w' s) : MI w' (A.wl s) := by
  have g : ∀ a, a ≠ 26 → a ≠ 32 → a ≠ 33 → a ≠ 34 → ∀ b, gI w' a b = gI w a b := fun a h0 h1 h2 h3 b => hk.1 a b (by simp [h1, h2, h3]) (fun e => absurd e h0)
  have f : ∀ b, b ≠ 11 → b ≠ 13 → b ≠ 14 → b ≠ 17 → gI w' 26 b = gI w 26 b := fun b h1 h2 h3 h4 => hk.1 26 b (by decide) (fun _ => by simp [h1, h2, h3, h4])
  obtain ⟨h1, ⟨h2, h3⟩, ⟨h6, h7⟩, ⟨h8, h9⟩, h10, ⟨h11, h12⟩, -⟩ := h
  exact ⟨MB_cg (g 27 (by decide) (by decide) (by decide) (by decide)) h1, ⟨(f 5 (by decide) (by decide) (by decide) (by decide)).trans h2, fun e => MB_cg (g 30 (by decide) (by decide) (by decide) (by decide)) (h3 e)⟩, ⟨(f 3 (by decide) (by decide) (by decide) (by decide)).trans h6, fun i hi => MB_cg (g 29 (by decide) (by decide) (by decide) (by decide)) (h7 i hi)⟩, ⟨(f 7 (by decide) (by decide) (by decide) (by decide)).trans h8, fun i hi => ((g 31 (by decide) (by decide) (by decide) (by decide)) _).trans (h9 i hi)⟩, (f 8 (by decide) (by decide) (by decide) (by decide)).trans h10, ⟨(f 9 (by decide) (by decide) (by decide) (by decide)).trans h11, fun e => (f 10 (by decide) (by decide) (by decide) (by decide)).trans (h12 e)⟩, hs⟩
theorem Aok.wl {A : Abs} {s : Ln} (h : Aok A) (h1 : s.1 ≤ 11) (h2 : Lok s) : Aok (A.wl s) := ⟨h.1, h.2.1, h.2.2.1, h.2.2.2.1, h.2.2.2.2.1, h.2.2.2.2.2.1, h.2.2.2.2.2.2.1, h1, h2⟩
/-- the reference's line is written, then it is done -/
theorem mo_line {A : Abs} {s : Ln} {FM : Wo → Option (Int32 × Wo)} (h : ∀ u, MI u A → ∃ u2, FM u = ((F_X6_done u2 (nI s.1)).bind fun q => some (q.1, q.2)) ∧ LM u2 s ∧ Kf [32, 33, 34] [11, 13, 14, 17] u u2) : MO A (A.wl s) 0 (nI s.1) FM := by
  intro u hu
  obtain ⟨u2, h1, h2, h3⟩ := h u hu
  have h4 : Kf [32, 33, 34] [11, 13, 14, 17] u (pI u2 26 14 0) := h3.tr (Kf.p26 (D := []) (F := [14]) (by decide)) (by decide) (by decide) (by decide) (by decide)
  refine ⟨pI u2 26 14 0, h1.trans rfl, rfl, hu.wl h4 ⟨?_, fun i hi => ?_⟩, h4.agc (by decide), h4.2.1⟩
  · rw [gI_pI, if_neg (by omega)]
    exact h2.1
  · rw [gI_pI, if_neg (by omega)]
    exact h2.2 i hi
theorem Kf.agm {D F : List Nat} {w w' : Wo} (hk : Kf D F w w') (hD : ∀ a, a ∈ D → a < 26) (hF : F = []) : AgM w w' := fun a b h1 h2 => ⟨hk.1 a b (fun q => by have := hD a q; omega) (fun _ => by rw [hF]; simp), hk.2.1 a b⟩
theorem K_24 {w : Wo} (hI : Inv w) (x1 x2 x3 : Int32) : ∃ w', F_K_24 w x1 x2 x3 = some w' ∧ Inv w' := by
  obtain ⟨A, hA, hC, hM⟩ := hI
  have hB := hA.1
  have h13 : ∀ p, p < A.B.n → A.B.cell p < 13 := fun p hp => by have := hB.2.2.1 p hp; omega
  obtain ⟨w1, h1, h2, h3⟩ := c_writeAll hB hC.1 hC.1.2.2.1 h13
  refine fin_p (FC := F_X5_text w) (FM := fun u => F_X6_text u) (A' := A.wl (tx A.B.c A.B.cell A.B.n)) (k := 0) hM (hA.wl (by rw [tx_l]; exact txl_le hB _ (by show A.B.n < A.B.n + 1; omega)) (tx_ok _ _ _ h13)) (by unfold F_X5_text; rw [h1, Option.bind_some]) (hC.wl h3 h2) (h3.agm (by decide) rfl) (mo_line fun u hu => ?_)
  obtain ⟨u2, h4, h5, h6⟩ := m_writesAll (o := 14) (f := A.B.cell) hB hu.1 (by omega) (fun u hu p hp => by rw [m_cell hu hp, msign_cell _ (hB.2.2.1 p hp)]) h13
  refine ⟨u2, ?_, h5, h6.mono (by decide) (by decide)⟩
  show F_X6_text u = _
  unfold F_X6_text
  rw [show F_X6_writesAll u 14 = _ from h4]
  rfl
theorem K_25 {w : Wo} (hI : Inv w) (x1 x2 x3 : Int32) : ∃ w', F_K_25 w x1 x2 x3 = some w' ∧ Inv w' := by
  obtain ⟨A, hA, hC, hM⟩ := hI
  have hB := hA.1
  have h13 : ∀ p, p < A.B.n → A.B.goal p < 13 := hB.2.2.2.1
  obtain ⟨w1, h1, h2, h3⟩ := c_writeAll hB hC.1 hC.1.2.2.2.1 h13
  refine fin_p (FC := F_X5_goalText w) (FM := fun u => F_X6_goalText u) (A' := A.wl (tx A.B.c A.B.goal A.B.n)) (k := 0) hM (hA.wl (by rw [tx_l]; exact txl_le hB _ (by show A.B.n < A.B.n + 1; omega)) (tx_ok _ _ _ h13)) (by unfold F_X5_goalText; rw [h1, Option.bind_some]) (hC.wl h3 h2) (h3.agm (by decide) rfl) (mo_line fun u hu => ?_)
  obtain ⟨u2, h4, h5, h6⟩ := m_writesAll (o := 23) (f := A.B.goal) hB hu.1 (by omega) (fun u hu p hp => by rw [m_goal hu hp, msignOf_nI _ (h13 p hp)]) h13
  refine ⟨u2, ?_, h5, h6.mono (by decide) (by decide)⟩
  show F_X6_goalText u = _
  unfold F_X6_goalText
  rw [show F_X6_writesAll u 23 = _ from h4]
  rfl
/-! a line's text -/
def lnx (B : Bd) (l : Nat) (s : Ln) : Nat → Ln
  | 0 => s
  | k + 1 => pu (lnx B l s k) (sgI (B.cell (pl B.r B.c l k)))
def lt0 (B : Bd) (l : Nat) : Ln := if B.bar l then pu (0, fun _ => 0) 35 else (0, fun _ => 0)
def ltx (B : Bd) (l : Nat) : Ln := if song B l then pu (lnx B l (lt0 B l) (lenB B l)) 33 else lnx B l (lt0 B l) (lenB B l)
theorem lnx_l (B : Bd) (l : Nat) (s : Ln) : ∀ k, (lnx B l s k).1 = s.1 + k
  | 0 => rfl
  | k + 1 => by
    show (lnx B l s k).1 + 1 = _
    rw [lnx_l B l s k]
    rfl
theorem lt0_l (B : Bd) (l : Nat) : (lt0 B l).1 ≤ 1 := by
  unfold lt0
  cases B.bar l
  · exact Nat.zero_le _
  · exact Nat.le_refl _
theorem lt0_ok (B : Bd) (l : Nat) : Lok (lt0 B l) := by
  have h0 : Lok (0, fun _ => 0) := fun i hi => absurd hi (Nat.not_lt_zero i)
  unfold lt0
  cases B.bar l
  · exact h0
  · exact h0.pu isCh_35
theorem lnx_ok {B : Bd} (hB : B.ok) {l : Nat} (hl : l < B.r + B.c) : ∀ k, k ≤ lenB B l → Lok (lnx B l (lt0 B l) k)
  | 0, _ => lt0_ok B l
  | k + 1, h => (lnx_ok hB hl k (by omega)).pu (isCh_sg _ (by have := hB.2.2.1 _ (pl_lt hB l hl k (show k < lenB B l by omega)); omega))
theorem ltx_l {B : Bd} (hB : B.ok) (l : Nat) : (ltx B l).1 ≤ 11 := by
  have h1 := lnx_l B l (lt0 B l) (lenB B l)
  have h2 := lt0_l B l
  have h3 := lenB_le hB l
  unfold ltx
  cases song B l
  · show (lnx B l (lt0 B l) (lenB B l)).1 ≤ 11
    omega
  · show (lnx B l (lt0 B l) (lenB B l)).1 + 1 ≤ 11
    omega
theorem ltx_ok {B : Bd} (hB : B.ok) {l : Nat} (hl : l < B.r + B.c) : Lok (ltx B l) := by
  have h := lnx_ok hB hl (lenB B l) (Nat.le_refl _)
  unfold ltx
  cases song B l
  · exact h
  · exact h.pu isCh_33
theorem c_lineText {w : Wo} {B : Bd} (hB : B.ok) (hC : CB w 1 B) {l : Nat} (hl : l < B.r + B.c) : ∃ w', F_X5_lineText w (nI l) = some ((Sum.inr (nI (ltx B l).1, w')) : (Nat × Wo) ⊕ (Int32 × Wo)) ∧ LC w' (ltx B l) ∧ Kf [19, 20] [] w w' := by
  have hd := dims hB
  have hln := lenB_le hB l
  have cg : ∀ u, Kf [19, 20] [] w u → CB u 1 B := fun u h => h.cb (by decide) (by decide) hC
  have h0 : LC (pI w 19 1 0) (0, fun _ => 0) := ⟨pI_same, fun i hi => absurd hi (Nat.not_lt_zero i)⟩
  have k0 : Kf [19, 20] [] w (pI w 19 1 0) := Kf.pI (by decide)
  have loop : ∀ u, LC u (lt0 B l) → Kf [19, 20] [] w u → ∃ w', B_X5_lineText_38 u (nI l) = some ((Sum.inr (nI (ltx B l).1, w')) : (Nat × Wo) ⊕ (Int32 × Wo)) ∧ LC w' (ltx B l) ∧ Kf [19, 20] [] w w' := by
    intro u hu hk
    unfold B_X5_lineText_38
    refine jl2_inv (P := fun k u a => LC u (lnx B l (lt0 B l) k) ∧ Kf [19, 20] [] w u ∧ a = nI k) (Qr := fun r => ∃ w', r = some ((Sum.inr (nI (ltx B l).1, w')) : (Nat × Wo) ⊕ (Int32 × Wo)) ∧ LC w' (ltx B l) ∧ Kf [19, 20] [] w w') (lenB B l) (by rw [fu4]; omega) ?_ ?_ ⟨hu, hk, rfl⟩
    · rintro k hk u a ⟨h1, h2, rfl⟩
      have hcu := cg u h2
      have hp : pl B.r B.c l k < B.n := pl_lt hB l hl k hk
      have hc := hB.2.2.1 _ hp
      have hl0 := lt0_l B l
      obtain ⟨u2, g1, g2, g3⟩ := c_add h1 (by rw [lnx_l]; omega) (isCh_sg (B.cell (pl B.r B.c l k)) (by omega))
      refine Or.inl ⟨u2, nI (k + 1), ⟨g2, h2.tr g3 (by decide) (by decide) (by decide) (by decide), rfl⟩, fun K => ?_⟩
      unfold B_X5_lineText_40
      rw [c_lineLength hB hcu (by omega), show (if l < B.r then B.c else B.r) = lenB B l from rfl, if_neg (nI_ge hk (by omega)), c_placeOn hB hcu (by omega), codeAt_nib (by omega), hcu.2.2.1 _ hp, signOf_nI _ (by omega), g1, Option.bind_some, nI_succ]
    · rintro u a ⟨h1, h2, rfl⟩ K
      have hcu := cg u h2
      have hl0 := lt0_l B l
      have e : B_X5_lineText_40 (nI l) K u (nI (lenB B l)) = if song B l = true then (F_X3_add u 33).bind fun q9 => (B_X5_lineText_107 q9) else B_X5_lineText_107 u := by
        unfold B_X5_lineText_40 B_X5_lineText_87
        rw [c_lineLength hB hcu (by omega), show (if l < B.r then B.c else B.r) = lenB B l from rfl, if_pos (nI_le (Nat.le_refl _) (by omega)), c_hasSong hB hcu hl, Option.bind_some, itb0]
      rw [e]
      unfold ltx
      by_cases hs : song B l = true
      · obtain ⟨u2, g1, g2, g3⟩ := c_add h1 (by rw [lnx_l]; omega) isCh_33
        rw [if_pos hs, if_pos hs]
        refine ⟨u2, ?_, g2, h2.tr g3 (by decide) (by decide) (by decide) (by decide)⟩
        rw [g1, Option.bind_some, B_X5_lineText_107, g2.1]
      · rw [if_neg hs, if_neg hs]
        exact ⟨u, by rw [B_X5_lineText_107, h1.1], h1, h2⟩
  have hb := c_hasBar hB (cg _ k0) (l := l) (by omega)
  have e : F_X5_lineText w (nI l) = if B.bar l = true then (F_X3_add (pI w 19 1 0) 35).bind fun q14 => (B_X5_lineText_38 q14 (nI l)) else B_X5_lineText_38 (pI w 19 1 0) (nI l) := by
    unfold F_X5_lineText F_X5_needIndex F_X3_clear
    rw [c_hasLine_in hB hC hl, if_neg (by decide)]
    show (if F_X0_hasBar (pI w 19 1 0) (nI l) = 0 then _ else _) = _
    rw [hb, itb0]
  rw [e]
  by_cases h : B.bar l = true
  · obtain ⟨u2, g1, g2, g3⟩ := c_add h0 (by show 0 < 11; omega) isCh_35
    rw [if_pos h, g1, Option.bind_some]
    refine loop u2 ?_ (k0.tr g3 (by decide) (by decide) (by decide) (by decide))
    unfold lt0
    rw [if_pos h]
    exact g2
  · rw [if_neg h]
    refine loop _ ?_ k0
    unfold lt0
    rw [if_neg h]
    exact h0
theorem m_lineText {w : Wo} {B : Bd} (hB : B.ok) (hM : MB w 27 0 B) {l : Nat} (hl : l < B.r + B.c) : ∃ w', F_X6_lineText w (nI l) = ((F_X6_done w' (nI (ltx B l).1)).bind fun q => some (q.1, q.2)) ∧ LM w' (ltx B l) ∧ Kf [32] [13] w w' := by
  have hd := dims hB
  have hln := lenB_le hB l
  have cg : ∀ u, Kf [32] [13] w u → MB u 27 0 B := fun u h => h.mb (by decide) (by decide) hM
  have h0 : LM (pI w 26 13 0) (0, fun _ => 0) := ⟨pI_same, fun i hi => absurd hi (Nat.not_lt_zero i)⟩
  have k0 : Kf [32] [13] w (pI w 26 13 0) := Kf.p26 (by decide)
  have loop : ∀ u, LM u (lt0 B l) → Kf [32] [13] w u → ∃ w', B_X6_lineText_38 u (nI l) = ((F_X6_done w' (nI (ltx B l).1)).bind fun q => some (q.1, q.2)) ∧ LM w' (ltx B l) ∧ Kf [32] [13] w w' := by
    intro u hu hk
    unfold B_X6_lineText_38
    refine jl2_inv (P := fun k u a => LM u (lnx B l (lt0 B l) k) ∧ Kf [32] [13] w u ∧ a = nI k) (Qr := fun r => ∃ w', r = ((F_X6_done w' (nI (ltx B l).1)).bind fun q => some (q.1, q.2)) ∧ LM w' (ltx B l) ∧ Kf [32] [13] w w') (lenB B l) (by rw [fu4]; omega) ?_ ?_ ⟨hu, hk, rfl⟩
    · rintro k hk u a ⟨h1, h2, rfl⟩
      have hcu := cg u h2
      have hp : pl B.r B.c l k < B.n := pl_lt hB l hl k hk
      have hc := hB.2.2.1 _ hp
      have hl0 := lt0_l B l
      obtain ⟨u2, g1, g2, g3⟩ := m_writes h1 (by rw [lnx_l]; omega) (isCh_sg (B.cell (pl B.r B.c l k)) (by omega))
      refine Or.inl ⟨u2, nI (k + 1), ⟨g2, h2.tr g3 (by decide) (by decide) (by decide) (by decide), rfl⟩, fun K => ?_⟩
      unfold B_X6_lineText_40
      rw [m_lengthOf hB hcu (by omega), Option.bind_some, if_neg (nI_ge hk (by omega)), m_placeOn hB hcu (by omega), Option.bind_some, L14, ofs, L0, jchk_nI (by omega) (by omega), nI_clamp (by omega), m_cell hcu hp, msign_cell _ hc, g1, Option.bind_some, nI_succ]
    · rintro u a ⟨h1, h2, rfl⟩ K
      have hcu := cg u h2
      have hl0 := lt0_l B l
      have e : B_X6_lineText_40 (nI l) K u (nI (lenB B l)) = if song B l = true then (F_X6_writes u 33).bind fun q9 => (B_X6_lineText_90 q9) else B_X6_lineText_90 u := by
        unfold B_X6_lineText_40 B_X6_lineText_76
        rw [m_lengthOf hB hcu (by omega), Option.bind_some, if_pos (nI_le (Nat.le_refl _) (by omega)), m_isSinging hB hcu hl, Option.bind_some, itb0]
      rw [e]
      unfold ltx
      by_cases hs : song B l = true
      · obtain ⟨u2, g1, g2, g3⟩ := m_writes h1 (by rw [lnx_l]; omega) isCh_33
        rw [if_pos hs, if_pos hs]
        refine ⟨u2, ?_, g2, h2.tr g3 (by decide) (by decide) (by decide) (by decide)⟩
        rw [g1, Option.bind_some, B_X6_lineText_90, g2.1]
      · rw [if_neg hs, if_neg hs]
        exact ⟨u, by rw [B_X6_lineText_90, h1.1], h1, h2⟩
  have hb := m_bar (cg _ k0) (l := l) (by omega)
  have e : F_X6_lineText w (nI l) = if B.bar l = true then (F_X6_writes (pI w 26 13 0) 35).bind fun q14 => (B_X6_lineText_38 q14 (nI l)) else B_X6_lineText_38 (pI w 26 13 0) (nI l) := by
    unfold F_X6_lineText B_X6_lineText_19
    rw [m_isLine_in hB hM hl, Option.bind_some, if_neg (by decide), L8, ofs, L0, jchk_nI (by omega) (by omega), nI_clamp (by omega)]
    rw [show gI (pI w 26 13 (nI 0)) 27 (8 + l) = bI (B.bar l) from hb, itb1]
  rw [e]
  by_cases h : B.bar l = true
  · obtain ⟨u2, g1, g2, g3⟩ := m_writes h0 (by show 0 < 20; omega) isCh_35
    rw [if_pos h, g1, Option.bind_some]
    refine loop u2 ?_ (k0.tr g3 (by decide) (by decide) (by decide) (by decide))
    unfold lt0
    rw [if_pos h]
    exact g2
  · rw [if_neg h]
    refine loop _ ?_ k0
    unfold lt0
    rw [if_neg h]
    exact h0
theorem K_26 {w : Wo} (hI : Inv w) (x1 x2 x3 : Int32) : ∃ w', F_K_26 w x1 x2 x3 = some w' ∧ Inv w' := by
  obtain ⟨A, hA, hC, hM⟩ := hI
  have hB := hA.1
  have hd := dims hB
  rcases ixc x1 (A.B.r + A.B.c) (by omega) with h | ⟨l, hl, rfl⟩
  · refine fin_i (FL := F_L_lineText w x1) (FM := fun u => F_X6_lineText u x1) (k := 1) (v := 0) hM hA ?_ hC AgM.rf (RO.mo (ro_fails fun u hu => ?_))
    · unfold F_L_lineText F_X5_lineText F_X5_needIndex
      rw [c_hasLine_out hB hC.1 h, if_pos rfl]
      rfl
    · show F_X6_lineText u x1 = _
      unfold F_X6_lineText
      rw [m_isLine_out hB hu h, Option.bind_some, if_pos rfl]
  · obtain ⟨w1, h1, h2, h3⟩ := c_lineText hB hC.1 hl
    refine fin_i (FL := F_L_lineText w (nI l)) (FM := fun u => F_X6_lineText u (nI l)) (A' := A.wl (ltx A.B l)) (k := 0) (v := nI (ltx A.B l).1) hM (hA.wl (ltx_l hB l) (ltx_ok hB hl)) (by unfold F_L_lineText; rw [h1]; rfl) (hC.wl h3 h2) (h3.agm (by decide) rfl) (mo_line fun u hu => ?_)
    obtain ⟨u2, h4, h5, h6⟩ := m_lineText hB hu.1 hl
    exact ⟨u2, h4, h5, h6.mono (by decide) (by decide)⟩
theorem in_out0 (x : Int32) : F_X6_in x 0 (nI 0 - 1) = 0 := by
  unfold F_X6_in
  by_cases h0 : x < 0
  · rw [if_pos h0]
  · rw [if_neg h0, if_pos]
    rw [Int32.lt_iff_toInt_lt] at h0 ⊢
    have e1 : ((0 : Int32)).toInt = 0 := by decide
    have e2 : (nI 0 - 1).toInt = -1 := by decide
    rw [e1] at h0
    rw [e2]
    omega
theorem in_outz {x : Int32} {n : Nat} (hn : n < 2 ^ 31) (h : x < nI 0 ∨ nI n ≤ x) : F_X6_in x 0 (nI n - 1) = 0 := by
  rcases Nat.eq_zero_or_pos n with e | e
  · rw [e]
    exact in_out0 x
  · exact in_out e hn h
theorem K_27 {w : Wo} (hI : Inv w) (x1 x2 x3 : Int32) : ∃ w', F_K_27 w x1 x2 x3 = some w' ∧ Inv w' := by
  obtain ⟨A, hA, hC, hM⟩ := hI
  have h11 : A.ll ≤ 11 := hA.2.2.2.2.2.2.2.1
  have hch := hA.2.2.2.2.2.2.2.2
  obtain ⟨hl1, hl2⟩ := hC.2.2.2.2.2.2
  rcases ixc x1 A.ll (by omega) with h | ⟨i, hi, rfl⟩
  · refine fin_i (FL := F_L_character w x1) (FM := fun u => F_X6_character u x1) (k := 1) (v := 0) hM hA ?_ hC AgM.rf (fun u hu => ?_)
    · have e : F_X5_character w x1 = B_X5_character_19 w x1 := by
        unfold F_X5_character
        by_cases h0 : x1 < 0
        · rw [if_pos h0]
        · rw [if_neg h0, hl1, if_pos (h.resolve_left h0)]
      unfold F_L_character
      rw [e]
      rfl
    · have hk : Kf [] [14] u (pI u 26 14 1) := Kf.p26 (by decide)
      refine ⟨pI u 26 14 1, ?_, rfl, hk.mi (by decide) (by decide) (by decide) hu, hk.agc (by decide), hk.2.1⟩
      show F_X6_character u x1 = _
      unfold F_X6_character
      rw [hu.2.2.2.2.2.2.1, in_outz (by omega) h, if_pos rfl]
      rfl
  · have hci := hch i hi
    refine fin_i (FL := F_L_character w (nI i)) (FM := fun u => F_X6_character u (nI i)) (k := 0) (v := A.ln i) hM hA ?_ hC AgM.rf (fun u hu => ?_)
    · have e : F_X3_signAt w (nI i) = some (A.ln i) := by
        unfold F_X3_signAt
        rw [if_neg (nI_pos (by omega)), L11, if_neg (nI_ge (by omega) (by omega)), L0, jchk_nI (by omega) (by omega), nI_clamp (by omega), hl2 i hi, jchk_pos (show ((A.ln i).toUInt32 % 65536).toInt32 = A.ln i from hci)]
      unfold F_L_character F_X5_character
      rw [if_neg (nI_pos (by omega)), hl1, if_neg (nI_ge hi (by omega))]
      show (((F_X3_signAt w (nI i)).bind fun q3 => (some (.inr (q3, w)))) : Option ((Nat × Wo) ⊕ (Int32 × Wo))).bind _ = _
      rw [e]
      rfl
    · have hk : Kf [] [14] u (pI u 26 14 0) := Kf.p26 (by decide)
      have hu2 : MI (pI u 26 14 0) A := hk.mi (by decide) (by decide) (by decide) hu
      refine ⟨pI u 26 14 0, ?_, rfl, hu2, hk.agc (by decide), hk.2.1⟩
      show F_X6_character u (nI i) = _
      unfold F_X6_character B_X6_character_20 B_X6_character_23
      rw [hu.2.2.2.2.2.2.1, in_in hi (by omega), if_neg (by decide), pI_same, if_pos rfl, L0, jchk_nI (by omega) (by omega), nI_clamp (by omega), show gI (pI u 26 14 (nI 0)) 32 i = A.ln i from hu2.2.2.2.2.2.2.2 i hi, jchk_pos (show ((A.ln i).toUInt32 % 65536).toInt32 = A.ln i from hci)]
/-! the input -/
def Abs.wi (A : Abs) (x : Int32) : Abs := mkA A.B A.sv A.S A.ct A.hs (A.tl + 1) (fun i => if i = A.tl then x else A.ip i) A.er A.wy A.dt A.ll A.ln
theorem K_28 {w : Wo} (hI : Inv w) (x1 x2 x3 : Int32) : ∃ w', F_K_28 w x1 x2 x3 = some w' ∧ Inv w' := by
  obtain ⟨A, hA, hC, hM⟩ := hI
  have h60 : A.tl ≤ 60 := hA.2.2.2.2.1
  have hch := isCh_c x1
  have hc8 := hC.2.2.2.1.1
  generalize hx : ji2c x1 = x at hch
  show ∃ w', ((F_L_append w (ji2c x1)).bind fun q1 => ((F_X6_append q1.2 (ji2c x1)).bind fun q2 => _)) = some w' ∧ Inv w'
  rw [hx]
  rcases Nat.lt_or_ge A.tl 60 with h | h
  · refine fin_i (FL := F_L_append w x) (FM := fun u => F_X6_append u x) (A' := A.wi x) (k := 0) (v := nI (A.tl + 1)) (w1 := pI (pI w 25 A.tl x) 0 8 (nI (A.tl + 1))) hM ⟨hA.1, hA.2.1, hA.2.2.1, hA.2.2.2.1, h, fun i hi => ?_, hA.2.2.2.2.2.2⟩ ?_ ?_ ((AgM.pI (by omega)).tr (AgM.pI (by omega))) (fun u hu => ?_)
    · show isCh (if i = A.tl then x else A.ip i)
      by_cases e : i = A.tl
      · rw [if_pos e]
        exact hch
      · rw [if_neg e]
        exact hA.2.2.2.2.2.1 i (by have : i < A.tl + 1 := hi; omega)
    · have e : F_X5_append w x = some (.inr (nI (A.tl + 1), pI (pI w 25 A.tl x) 0 8 (nI (A.tl + 1)))) := by
        unfold F_X5_append B_X5_append_40 B_X5_append_50
        rw [hc8, if_neg (nI_pos (by omega)), L60, if_pos (nI_lt h (by omega)), L0, jchk_nI (by omega) (by omega), nI_clamp (by omega), isCh_nar hch]
        have e8 : gI (pI w 25 A.tl x) 0 8 = nI A.tl := by
          rw [gI_pI, if_neg (by omega)]
          exact hc8
        rw [e8, nI_1, pI_same]
      unfold F_L_append
      rw [e]
      rfl
    · have g : ∀ a, a ≠ 0 → a ≠ 25 → ∀ b, gI (pI (pI w 25 A.tl x) 0 8 (nI (A.tl + 1))) a b = gI w a b ∧ gL (pI (pI w 25 A.tl x) 0 8 (nI (A.tl + 1))) a b = gL w a b := fun a h1 h2 b => ⟨by rw [gI_pI, if_neg (by omega), gI_pI, if_neg (by omega)], rfl⟩
      have g0 : ∀ b, b ≠ 8 → gI (pI (pI w 25 A.tl x) 0 8 (nI (A.tl + 1))) 0 b = gI w 0 b := fun b hb => by rw [gI_pI, if_neg (by omega), gI_pI, if_neg (by omega)]
      obtain ⟨h1, ⟨h2, h3⟩, ⟨nx, h4, h5, h6, h7⟩, ⟨h8, h9⟩, h10, ⟨h11, h12⟩, h13, h14⟩ := hC
      refine ⟨CB_cg (g 1 (by decide) (by decide)) h1, ⟨(g0 12 (by decide)).trans h2, fun e => CB_cg (g 3 (by decide) (by decide)) (h3 e)⟩, ⟨nx, h4, ((g 4 (by decide) (by decide)) _).1.trans h5, ((g 4 (by decide) (by decide)) _).1.trans h6, fun i hi => CB_cg (g (hix nx A.ct i) (by have := hix_r nx A.ct i; omega) (by have := hix_r nx A.ct i; omega)) (h7 i hi)⟩, ⟨pI_same, fun i hi => ?_⟩, (g0 9 (by decide)).trans h10, ⟨(g0 10 (by decide)).trans h11, fun e => (g0 11 (by decide)).trans (h12 e)⟩, ((g 19 (by decide) (by decide)) _).1.trans h13, fun i hi => ((g 20 (by decide) (by decide)) _).1.trans (h14 i hi)⟩
      show (if 25 = 0 ∧ i = 8 then nI (A.tl + 1) else if 25 = 25 ∧ i = A.tl then x else gI w 25 i) = if i = A.tl then x else A.ip i
      rw [if_neg (by omega)]
      by_cases e : i = A.tl
      · rw [if_pos e, if_pos ⟨rfl, e⟩]
      · rw [if_neg e, if_neg (fun q => e q.2)]
        exact h9 i (by have : i < A.tl + 1 := hi; omega)
    · refine ⟨pI (pI (pI u 31 A.tl x) 26 7 (nI (A.tl + 1))) 26 14 0, ?_, rfl, ?_, fun a b ha => ⟨by rw [gI_pI, if_neg (by omega), gI_pI, if_neg (by omega), gI_pI, if_neg (by omega)], rfl⟩, fun _ _ => rfl⟩
      · show F_X6_append u x = _
        unfold F_X6_append B_X6_append_25 B_X6_append_35
        rw [hu.2.2.2.1.1, L60, if_neg (fun e => by rw [nI_eq (by omega) (by omega)] at e; omega), L0, jchk_nI (by omega) (by omega), nI_clamp (by omega), isCh_nar hch]
        have e8 : gI (pI u 31 A.tl x) 26 7 = nI A.tl := by
          rw [gI_pI, if_neg (by omega)]
          exact hu.2.2.2.1.1
        rw [e8, nI_1, pI_same]
        rfl
      · have g : ∀ a, a ≠ 26 → a ≠ 31 → ∀ b, gI (pI (pI (pI u 31 A.tl x) 26 7 (nI (A.tl + 1))) 26 14 0) a b = gI u a b := fun a h1 h2 b => by rw [gI_pI, if_neg (by omega), gI_pI, if_neg (by omega), gI_pI, if_neg (by omega)]
        have f : ∀ b, b ≠ 7 → b ≠ 14 → gI (pI (pI (pI u 31 A.tl x) 26 7 (nI (A.tl + 1))) 26 14 0) 26 b = gI u 26 b := fun b h1 h2 => by rw [gI_pI, if_neg (by omega), gI_pI, if_neg (by omega), gI_pI, if_neg (by omega)]
        obtain ⟨h1, ⟨h2, h3⟩, ⟨h6, h7⟩, ⟨h8, h9⟩, h10, ⟨h11, h12⟩, h13, h14⟩ := hu
        refine ⟨MB_cg (g 27 (by decide) (by decide)) h1, ⟨(f 5 (by decide) (by decide)).trans h2, fun e => MB_cg (g 30 (by decide) (by decide)) (h3 e)⟩, ⟨(f 3 (by decide) (by decide)).trans h6, fun i hi => MB_cg (g 29 (by decide) (by decide)) (h7 i hi)⟩, ⟨?_, fun i hi => ?_⟩, (f 8 (by decide) (by decide)).trans h10, ⟨(f 9 (by decide) (by decide)).trans h11, fun e => (f 10 (by decide) (by decide)).trans (h12 e)⟩, (f 13 (by decide) (by decide)).trans h13, fun i hi => ((g 32 (by decide) (by decide)) _).trans (h14 i hi)⟩
        · rw [gI_pI, if_neg (by omega), pI_same]
          rfl
        · show (if 31 = 26 ∧ i = 14 then (0 : Int32) else if 31 = 26 ∧ i = 7 then nI (A.tl + 1) else if 31 = 31 ∧ i = A.tl then x else gI u 31 i) = if i = A.tl then x else A.ip i
          rw [if_neg (by omega), if_neg (by omega)]
          by_cases e : i = A.tl
          · rw [if_pos e, if_pos ⟨rfl, e⟩]
          · rw [if_neg e, if_neg (fun q => e q.2)]
            exact h9 i (by have : i < A.tl + 1 := hi; omega)
  · have e60 : A.tl = 60 := by omega
    refine fin_i (FL := F_L_append w x) (FM := fun u => F_X6_append u x) (A' := A) (k := 1) (v := 0) hM hA ?_ hC AgM.rf (mo_fails fun u hu => ?_)
    · have e : F_X5_append w x = some (.inl (5, w)) := by
        unfold F_X5_append B_X5_append_19
        rw [hc8, if_neg (nI_pos (by omega)), L60, if_neg (nI_nlt (by omega) (by omega))]
      unfold F_L_append
      rw [e]
      rfl
    · show F_X6_append u x = _
      unfold F_X6_append
      rw [hu.2.2.2.1.1, e60, L60, if_pos rfl]
