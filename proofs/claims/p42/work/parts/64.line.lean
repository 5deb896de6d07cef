/-! LINES OF TEXT, THE INPUT -/
theorem Kf.cb {D F : List Nat} {w w' : Wo} {h : Nat} {B : Bd} (hk : Kf D F w w') (hh : h ∉ D) (h26 : h ≠ 26) (hC : CB w h B) : CB w' h B := CB_cg (fun b => ⟨hk.1 h b hh (fun e => absurd e h26), hk.2.1 h b⟩) hC
theorem isCh_nar {x : Int32} (h : isCh x) : vp_nar .char x = x := by
  unfold vp_nar
  rw [nar_c h]
theorem isCh_c (x : Int32) : isCh (ji2c x) := by
  have h := pk_fc x
  have h2 := pk_nc x
  unfold isCh
  show (((x.toUInt32 % 65536).toInt32).toUInt32 % 65536).toInt32 = (x.toUInt32 % 65536).toInt32
  congr 1
  rw [← UInt32.toNat_inj]
  simp
theorem isCh_sg : ∀ v, v < 13 → isCh (sgI v) := by
  unfold isCh
  decide +kernel
def isChB (x : Int32) : Bool := decide ((x.toUInt32 % 65536).toInt32 = x)
theorem isCh_47 : isCh 47 := by unfold isCh; decide
theorem isCh_35 : isCh 35 := by unfold isCh; decide
theorem isCh_33 : isCh 33 := by unfold isCh; decide
/-- a line: how long, and its characters -/
abbrev Ln : Type := Nat × (Nat → Int32)
def pu (s : Ln) (x : Int32) : Ln := (s.1 + 1, fun i => if i = s.1 then x else s.2 i)
def Lok (s : Ln) : Prop := ∀ i, i < s.1 → isCh (s.2 i)
theorem Lok.pu {s : Ln} {x : Int32} (h : Lok s) (hx : isCh x) : Lok (pu s x) := by
  intro i hi
  show isCh (if i = s.1 then x else s.2 i)
  by_cases e : i = s.1
  · rw [if_pos e]
    exact hx
  · rw [if_neg e]
    exact h i (by have : i < s.1 + 1 := hi; omega)
def LC (w : Wo) (s : Ln) : Prop := gI w 19 1 = nI s.1 ∧ ∀ i, i < s.1 → gI w 20 i = s.2 i
def LM (w : Wo) (s : Ln) : Prop := gI w 26 13 = nI s.1 ∧ ∀ i, i < s.1 → gI w 32 i = s.2 i
theorem c_add {w : Wo} {s : Ln} {x : Int32} (h : LC w s) (hs : s.1 < 11) (hx : isCh x) : ∃ w', F_X3_add w x = some w' ∧ LC w' (pu s x) ∧ Kf [19, 20] [] w w' := by
  refine ⟨pI (pI w 20 s.1 x) 19 1 (nI (s.1 + 1)), ?_, ⟨pI_same, fun i hi => ?_⟩, (Kf.pI (D := [20]) (F := []) (by decide)).tr (Kf.pI (D := [19]) (F := []) (by decide)) (by decide) (by decide) (by decide) (by decide)⟩
  · unfold F_X3_add B_X3_add_29
    rw [h.1, if_neg (nI_pos (by omega)), L11, if_neg (nI_ge hs (by omega)), L0, jchk_nI (by omega) (by omega), nI_clamp (by omega), isCh_nar hx]
    have e : gI (pI w 20 s.1 x) 19 1 = nI s.1 := by
      rw [gI_pI, if_neg (by omega)]
      exact h.1
    rw [e, nI_1]
  · show (if 20 = 19 ∧ i = 1 then nI (s.1 + 1) else if 20 = 20 ∧ i = s.1 then x else gI w 20 i) = if i = s.1 then x else s.2 i
    rw [if_neg (by omega)]
    by_cases e : i = s.1
    · rw [if_pos e, if_pos ⟨rfl, e⟩]
    · rw [if_neg e, if_neg (fun q => e q.2)]
      exact h.2 i (by have : i < s.1 + 1 := hi; omega)
/-- all of a board's signs -/
def tx (c : Nat) (f : Nat → Nat) : Nat → Ln
  | 0 => (0, fun _ => 0)
  | k + 1 => pu (if 0 < k ∧ k % c = 0 then pu (tx c f k) 47 else tx c f k) (sgI (f k))
def txl (c : Nat) : Nat → Nat
  | 0 => 0
  | k + 1 => (if 0 < k ∧ k % c = 0 then txl c k + 1 else txl c k) + 1
theorem tx_l (c : Nat) (f : Nat → Nat) : ∀ k, (tx c f k).1 = txl c k
  | 0 => rfl
  | k + 1 => by
    have ih := tx_l c f k
    unfold tx txl
    by_cases h : 0 < k ∧ k % c = 0
    · rw [if_pos h, if_pos h, ← ih]
      rfl
    · rw [if_neg h, if_neg h, ← ih]
      rfl
theorem txl_le {B : Bd} (hB : B.ok) : ∀ k, k < B.r * B.c + 1 → txl B.c k ≤ 11 := dim4 (Q := fun r c => ∀ k, k < r * c + 1 → txl c k ≤ 11) hB (by decide +kernel) (by decide +kernel) (by decide +kernel) (by decide +kernel)
theorem tx_ok (c : Nat) (f : Nat → Nat) : ∀ k, (∀ p, p < k → f p < 13) → Lok (tx c f k)
  | 0, _ => fun i hi => absurd hi (Nat.not_lt_zero i)
  | k + 1, h => by
    have ih := tx_ok c f k (fun p hp => h p (by omega))
    unfold tx
    refine Lok.pu ?_ (isCh_sg _ (h k (by omega)))
    by_cases h2 : 0 < k ∧ k % c = 0
    · rw [if_pos h2]
      exact ih.pu isCh_47
    · rw [if_neg h2]
      exact ih
theorem c_writeAll {w : Wo} {B : Bd} {x : Int64} {f : Nat → Nat} (hB : B.ok) (hC : CB w 1 B) (hf : ∀ p, p < B.n → nib x p = f p) (h13 : ∀ p, p < B.n → f p < 13) : ∃ w', F_X5_writeAll w x = some (nI (tx B.c f B.n).1, w') ∧ LC w' (tx B.c f B.n) ∧ Kf [19, 20] [] w w' := by
  have hd := dims hB
  unfold F_X5_writeAll F_X3_clear
  rw [Option.bind_some]
  refine jl2_inv (P := fun k u a => LC u (tx B.c f k) ∧ Kf [19, 20] [] w u ∧ a = nI k) (Qr := fun r => ∃ w', r = some (nI (tx B.c f B.n).1, w') ∧ LC w' (tx B.c f B.n) ∧ Kf [19, 20] [] w w') B.n (by rw [fu4]; omega) ?_ ?_ ⟨⟨pI_same, fun i hi => absurd hi (Nat.not_lt_zero i)⟩, Kf.pI (by decide), rfl⟩
  · rintro k hk u a ⟨h1, h2, rfl⟩
    have hu : CB u 1 B := h2.cb (by decide) (by decide) hC
    have hl := txl_le hB (k + 1) (by show k + 1 < B.n + 1; omega)
    have e : F_X5_signOf (F_X5_codeAt x (nI k)) = sgI (f k) := by
      rw [codeAt_nib (by omega), hf k hk, signOf_nI _ (h13 k hk)]
    have h47 : (47 : Int32) = 47 := rfl
    by_cases hs : 0 < k ∧ k % B.c = 0
    · have hl2 : txl B.c (k + 1) = txl B.c k + 1 + 1 := by
        show (if 0 < k ∧ k % B.c = 0 then txl B.c k + 1 else txl B.c k) + 1 = _
        rw [if_pos hs]
      obtain ⟨u1, g1, g2, g3⟩ := c_add h1 (by rw [tx_l]; omega) isCh_47
      obtain ⟨u2, g4, g5, g6⟩ := c_add g2 (show (tx B.c f k).1 + 1 < 11 by rw [tx_l]; omega) (isCh_sg _ (h13 k hk))
      refine Or.inl ⟨u2, nI (k + 1), ⟨?_, (h2.tr g3 (D := [19, 20]) (F := []) (by decide) (by decide) (by decide) (by decide)).tr g6 (by decide) (by decide) (by decide) (by decide), rfl⟩, fun K => ?_⟩
      · unfold tx
        rw [if_pos hs]
        exact g5
      · unfold B_X5_writeAll_9 B_X5_writeAll_44
        rw [c_places hB hu, if_neg (nI_ge hk (by omega)), if_neg (nI_nle hs.1 (by omega)), c_columnOf hB hu (by omega), Option.bind_some, hs.2, if_pos (show nI 0 = 0 from rfl), g1, Option.bind_some, e, g4, Option.bind_some, nI_succ]
    · have hl2 : txl B.c (k + 1) = txl B.c k + 1 := by
        show (if 0 < k ∧ k % B.c = 0 then txl B.c k + 1 else txl B.c k) + 1 = _
        rw [if_neg hs]
      obtain ⟨u2, g4, g5, g6⟩ := c_add h1 (by rw [tx_l]; omega) (isCh_sg _ (h13 k hk))
      refine Or.inl ⟨u2, nI (k + 1), ⟨?_, h2.tr g6 (by decide) (by decide) (by decide) (by decide), rfl⟩, fun K => ?_⟩
      · unfold tx
        rw [if_neg hs]
        exact g5
      · unfold B_X5_writeAll_9 B_X5_writeAll_44
        rw [c_places hB hu, if_neg (nI_ge hk (by omega)), e, g4, Option.bind_some]
        by_cases h0 : 0 < k
        · have hm : k % B.c < B.c := Nat.mod_lt _ (by omega)
          rw [if_neg (nI_nle h0 (by omega)), c_columnOf hB hu (by omega), Option.bind_some, if_neg (nI_ne0 (by omega) (by omega)), nI_succ]
        · rw [show k = 0 by omega, if_pos (show nI 0 ≤ 0 by decide)]
          rfl
  · rintro u a ⟨h1, h2, rfl⟩ K
    have hu : CB u 1 B := h2.cb (by decide) (by decide) hC
    refine ⟨u, ?_, h1, h2⟩
    unfold B_X5_writeAll_9 B_X5_writeAll_65
    rw [c_places hB hu, if_pos (nI_le (Nat.le_refl _) (by omega)), h1.1]
def Abs.wl (A : Abs) (s : Ln) : Abs := mkA A.B A.sv A.S A.ct A.hs A.tl A.ip A.er A.wy A.dt s.1 s.2
theorem CI.wl {w w' : Wo} {A : Abs} {s : Ln} (h : CI w A) (hk : Kf [19, 20] [] w w') (hs : LC w' s) : CI w' (A.wl s) := by
  have g : ∀ a, a ≠ 19 → a ≠ 20 → ∀ b, gI w' a b = gI w a b ∧ gL w' a b = gL w a b := fun a h1 h2 b => ⟨hk.1 a b (by simp [h1, h2]) (fun _ => by simp), hk.2.1 a b⟩
  obtain ⟨h1, ⟨h2, h3⟩, ⟨nx, h4, h5, h6, h7⟩, ⟨h8, h9⟩, h10, ⟨h11, h12⟩, -⟩ := h
  exact ⟨CB_cg (g 1 (by decide) (by decide)) h1, ⟨((g 0 (by decide) (by decide)) _).1.trans h2, fun e => CB_cg (g 3 (by decide) (by decide)) (h3 e)⟩, ⟨nx, h4, ((g 4 (by decide) (by decide)) _).1.trans h5, ((g 4 (by decide) (by decide)) _).1.trans h6, fun i hi => CB_cg (g (hix nx A.ct i) (by have := hix_r nx A.ct i; omega) (by have := hix_r nx A.ct i; omega)) (h7 i hi)⟩, ⟨((g 0 (by decide) (by decide)) _).1.trans h8, fun i hi => ((g 25 (by decide) (by decide)) _).1.trans (h9 i hi)⟩, ((g 0 (by decide) (by decide)) _).1.trans h10, ⟨((g 0 (by decide) (by decide)) _).1.trans h11, fun e => ((g 0 (by decide) (by decide)) _).1.trans (h12 e)⟩, hs⟩
theorem MI.wl {w w' : Wo} {A : Abs} {s : Ln} (h : MI w A) (hk : Kf [32, 33, 34] [11, 13, 14, 17] w w') (hs : LM w' s) : MI w' (A.wl s) := by
  have g : ∀ a, a ≠ 26 → a ≠ 32 → a ≠ 33 → a ≠ 34 → ∀ b, gI w' a b = gI w a b := fun a h0 h1 h2 h3 b => hk.1 a b (by simp [h1, h2, h3]) (fun e => absurd e h0)
  have f : ∀ b, b ≠ 11 → b ≠ 13 → b ≠ 14 → b ≠ 17 → gI w' 26 b = gI w 26 b := fun b h1 h2 h3 h4 => hk.1 26 b (by decide) (fun _ => by simp [h1, h2, h3, h4])
  obtain ⟨h1, ⟨h2, h3⟩, ⟨h6, h7⟩, ⟨h8, h9⟩, h10, ⟨h11, h12⟩, -⟩ := h
  exact ⟨MB_cg (g 27 (by decide) (by decide) (by decide) (by decide)) h1, ⟨(f 5 (by decide) (by decide) (by decide) (by decide)).trans h2, fun e => MB_cg (g 30 (by decide) (by decide) (by decide) (by decide)) (h3 e)⟩, ⟨(f 3 (by decide) (by decide) (by decide) (by decide)).trans h6, fun i hi => MB_cg (g 29 (by decide) (by decide) (by decide) (by decide)) (h7 i hi)⟩, ⟨(f 7 (by decide) (by decide) (by decide) (by decide)).trans h8, fun i hi => ((g 31 (by decide) (by decide) (by decide) (by decide)) _).trans (h9 i hi)⟩, (f 8 (by decide) (by decide) (by decide) (by decide)).trans h10, ⟨(f 9 (by decide) (by decide) (by decide) (by decide)).trans h11, fun e => (f 10 (by decide) (by decide) (by decide) (by decide)).trans (h12 e)⟩, hs⟩
theorem Aok.wl {A : Abs} {s : Ln} (h : Aok A) (h1 : s.1 ≤ 11) (h2 : Lok s) : Aok (A.wl s) := ⟨h.1, h.2.1, h.2.2.1, h.2.2.2.1, h.2.2.2.2.1, h.2.2.2.2.2.1, h.2.2.2.2.2.2.1, h1, h2⟩
theorem Kf.agm {D F : List Nat} {w w' : Wo} (hk : Kf D F w w') (hD : ∀ a, a ∈ D → a < 26) (hF : F = []) : AgM w w' := fun a b h1 h2 => ⟨hk.1 a b (fun q => by have := hD a q; omega) (fun _ => by rw [hF]; simp), hk.2.1 a b⟩
/-! a line's text -/
def lnx (B : Bd) (l : Nat) (s : Ln) : Nat → Ln
  | 0 => s
  | k + 1 => pu (lnx B l s k) (sgI (B.cell (pl B.r B.c l k)))
def lt0 (B : Bd) (l : Nat) : Ln := if B.bar l then pu (0, fun _ => 0) 35 else (0, fun _ => 0)
def ltx (B : Bd) (l : Nat) : Ln := if song B l then pu (lnx B l (lt0 B l) (lenB B l)) 33 else lnx B l (lt0 B l) (lenB B l)
theorem lnx_l (B : Bd) (l : Nat) (s : Ln) : ∀ k, (lnx B l s k).1 = s.1 + k
  | 0 => rfl
  | k + 1 => by
    show (lnx B l s k).1 + 1 = _
    rw [lnx_l B l s k]
    rfl
theorem lt0_l (B : Bd) (l : Nat) : (lt0 B l).1 ≤ 1 := by
  unfold lt0
  cases B.bar l
  · exact Nat.zero_le _
  · exact Nat.le_refl _
theorem lt0_ok (B : Bd) (l : Nat) : Lok (lt0 B l) := by
  have h0 : Lok (0, fun _ => 0) := fun i hi => absurd hi (Nat.not_lt_zero i)
  unfold lt0
  cases B.bar l
  · exact h0
  · exact h0.pu isCh_35
theorem lnx_ok {B : Bd} (hB : B.ok) {l : Nat} (hl : l < B.r + B.c) : ∀ k, k ≤ lenB B l → Lok (lnx B l (lt0 B l) k)
  | 0, _ => lt0_ok B l
  | k + 1, h => (lnx_ok hB hl k (by omega)).pu (isCh_sg _ (by have := hB.2.2.1 _ (pl_lt hB l hl k (show k < lenB B l by omega)); omega))
theorem ltx_l {B : Bd} (hB : B.ok) (l : Nat) : (ltx B l).1 ≤ 11 := by
  have h1 := lnx_l B l (lt0 B l) (lenB B l)
  have h2 := lt0_l B l
  have h3 := lenB_le hB l
  unfold ltx
  cases song B l
  · show (lnx B l (lt0 B l) (lenB B l)).1 ≤ 11
    omega
  · show (lnx B l (lt0 B l) (lenB B l)).1 + 1 ≤ 11
    omega
theorem ltx_ok {B : Bd} (hB : B.ok) {l : Nat} (hl : l < B.r + B.c) : Lok (ltx B l) := by
  have h := lnx_ok hB hl (lenB B l) (Nat.le_refl _)
  unfold ltx
  cases song B l
  · exact h
  · exact h.pu isCh_33
theorem c_lineText {w : Wo} {B : Bd} (hB : B.ok) (hC : CB w 1 B) {l : Nat} (hl : l < B.r + B.c) : ∃ w', F_X5_lineText w (nI l) = some ((Sum.inr (nI (ltx B l).1, w')) : (Nat × Wo) ⊕ (Int32 × Wo)) ∧ LC w' (ltx B l) ∧ Kf [19, 20] [] w w' := by
  have hd := dims hB
  have hln := lenB_le hB l
  have cg : ∀ u, Kf [19, 20] [] w u → CB u 1 B := fun u h => h.cb (by decide) (by decide) hC
  have h0 : LC (pI w 19 1 0) (0, fun _ => 0) := ⟨pI_same, fun i hi => absurd hi (Nat.not_lt_zero i)⟩
  have k0 : Kf [19, 20] [] w (pI w 19 1 0) := Kf.pI (by decide)
  have loop : ∀ u, LC u (lt0 B l) → Kf [19, 20] [] w u → ∃ w', B_X5_lineText_38 u (nI l) = some ((Sum.inr (nI (ltx B l).1, w')) : (Nat × Wo) ⊕ (Int32 × Wo)) ∧ LC w' (ltx B l) ∧ Kf [19, 20] [] w w' := by
    intro u hu hk
    unfold B_X5_lineText_38
    refine jl2_inv (P := fun k u a => LC u (lnx B l (lt0 B l) k) ∧ Kf [19, 20] [] w u ∧ a = nI k) (Qr := fun r => ∃ w', r = some ((Sum.inr (nI (ltx B l).1, w')) : (Nat × Wo) ⊕ (Int32 × Wo)) ∧ LC w' (ltx B l) ∧ Kf [19, 20] [] w w') (lenB B l) (by rw [fu4]; omega) ?_ ?_ ⟨hu, hk, rfl⟩
    · rintro k hk u a ⟨h1, h2, rfl⟩
      have hcu := cg u h2
      have hp : pl B.r B.c l k < B.n := pl_lt hB l hl k hk
      have hc := hB.2.2.1 _ hp
      have hl0 := lt0_l B l
      obtain ⟨u2, g1, g2, g3⟩ := c_add h1 (by rw [lnx_l]; omega) (isCh_sg (B.cell (pl B.r B.c l k)) (by omega))
      refine Or.inl ⟨u2, nI (k + 1), ⟨g2, h2.tr g3 (by decide) (by decide) (by decide) (by decide), rfl⟩, fun K => ?_⟩
      unfold B_X5_lineText_40
      rw [c_lineLength hB hcu (by omega), show (if l < B.r then B.c else B.r) = lenB B l from rfl, if_neg (nI_ge hk (by omega)), c_placeOn hB hcu (by omega), codeAt_nib (by omega), hcu.2.2.1 _ hp, signOf_nI _ (by omega), g1, Option.bind_some, nI_succ]
    · rintro u a ⟨h1, h2, rfl⟩ K
      have hcu := cg u h2
      have hl0 := lt0_l B l
      have e : B_X5_lineText_40 (nI l) K u (nI (lenB B l)) = if song B l = true then (F_X3_add u 33).bind fun q9 => (B_X5_lineText_107 q9) else B_X5_lineText_107 u := by
        unfold B_X5_lineText_40 B_X5_lineText_87
        rw [c_lineLength hB hcu (by omega), show (if l < B.r then B.c else B.r) = lenB B l from rfl, if_pos (nI_le (Nat.le_refl _) (by omega)), c_hasSong hB hcu hl, Option.bind_some, itb0]
      rw [e]
      unfold ltx
      by_cases hs : song B l = true
      · obtain ⟨u2, g1, g2, g3⟩ := c_add h1 (by rw [lnx_l]; omega) isCh_33
        rw [if_pos hs, if_pos hs]
        refine ⟨u2, ?_, g2, h2.tr g3 (by decide) (by decide) (by decide) (by decide)⟩
        rw [g1, Option.bind_some, B_X5_lineText_107, g2.1]
      · rw [if_neg hs, if_neg hs]
        exact ⟨u, by rw [B_X5_lineText_107, h1.1], h1, h2⟩
  have hb := c_hasBar hB (cg _ k0) (l := l) (by omega)
  have e : F_X5_lineText w (nI l) = if B.bar l = true then (F_X3_add (pI w 19 1 0) 35).bind fun q14 => (B_X5_lineText_38 q14 (nI l)) else B_X5_lineText_38 (pI w 19 1 0) (nI l) := by
    unfold F_X5_lineText F_X5_needIndex F_X3_clear
    rw [c_hasLine_in hB hC hl, if_neg (by decide)]
    show (if F_X0_hasBar (pI w 19 1 0) (nI l) = 0 then _ else _) = _
    rw [hb, itb0]
  rw [e]
  by_cases h : B.bar l = true
  · obtain ⟨u2, g1, g2, g3⟩ := c_add h0 (by show 0 < 11; omega) isCh_35
    rw [if_pos h, g1, Option.bind_some]
    refine loop u2 ?_ (k0.tr g3 (by decide) (by decide) (by decide) (by decide))
    unfold lt0
    rw [if_pos h]
    exact g2
  · rw [if_neg h]
    refine loop _ ?_ k0
    unfold lt0
    rw [if_neg h]
    exact h0
/-! the input -/
def Abs.wi (A : Abs) (x : Int32) : Abs := mkA A.B A.sv A.S A.ct A.hs (A.tl + 1) (fun i => if i = A.tl then x else A.ip i) A.er A.wy A.dt A.ll A.ln
