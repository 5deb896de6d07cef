/-! READING ORDERS -/
theorem it0 {α : Type} {x y : α} {a : Nat} (ha : a < 2 ^ 31) : (if nI a = 0 then x else y) = if a = 0 then x else y := iteq (b := 0) ha (by decide)
theorem isCh_nI {x : Int32} (h : isCh x) : x = nI x.toNatClampNeg ∧ x.toNatClampNeg < 65536 := by
  have e : ∃ n : Nat, n < 65536 ∧ x = nI n := by
    unfold isCh at h
    rw [pk_char] at h
    exact ⟨_, Nat.mod_lt _ (by decide), h.symm⟩
  obtain ⟨n, hn, rfl⟩ := e
  rw [nI_clamp (by omega)]
  exact ⟨rfl, hn⟩
section RDD
variable {tl : Nat} {cn : Nat → Nat}
def isd (tl : Nat) (cn : Nat → Nat) (a : Nat) : Bool := decide (a < tl) && (decide (48 ≤ cn a) && decide (cn a ≤ 57))
def fg (tl : Nat) (cn : Nat → Nat) : Nat → Nat → Nat → Nat × Nat
  | 0, v, a => (v, a)
  | m + 1, v, a => if isd tl cn a then fg tl cn m (10 * v + (cn a - 48)) (a + 1) else (v, a)
def isK (k : Nat) : Bool := k == 98 || (k == 112 || (k == 103 || (k == 116 || (k == 115 || (k == 120 || k == 114)))))
def Txt (tl : Nat) (cn : Nat → Nat) : Prop := tl ≤ 60 ∧ ∀ i, i < tl → cn i < 65536
theorem isd_iff {a : Nat} : isd tl cn a = true ↔ a < tl ∧ 48 ≤ cn a ∧ cn a ≤ 57 := by
  unfold isd
  simp
theorem fg_le : ∀ m v a, a ≤ (fg tl cn m v a).2 ∧ (a ≤ tl → (fg tl cn m v a).2 ≤ tl)
  | 0, v, a => ⟨Nat.le_refl a, fun h => h⟩
  | m + 1, v, a => by
    unfold fg
    by_cases h : isd tl cn a = true
    · rw [if_pos h]
      have ih := fg_le m (10 * v + (cn a - 48)) (a + 1)
      have h1 := isd_iff.mp h
      exact ⟨by omega, fun _ => ih.2 (by omega)⟩
    · rw [if_neg h]
      exact ⟨Nat.le_refl a, fun h => h⟩
/-! the class's reader -/
def CS (tl : Nat) (cn : Nat → Nat) (w : Wo) (a : Nat) : Prop := gI w 21 3 = 1 ∧ gI w 21 4 = nI tl ∧ gI w 21 5 = nI a ∧ ∀ i, i < tl → gI w 25 i = nI (cn i)
/-- only the place where the reader stands changes -/
def KA (w w' : Wo) : Prop := ∀ a b, (a = 21 → b ≠ 5) → gI w' a b = gI w a b ∧ gL w' a b = gL w a b
theorem KA.rf {w : Wo} : KA w w := fun _ _ _ => ⟨rfl, rfl⟩
theorem KA.tr {w w' w2 : Wo} (h : KA w w') (h2 : KA w' w2) : KA w w2 := fun a b hb => ⟨(h2 a b hb).1.trans (h a b hb).1, (h2 a b hb).2.trans (h a b hb).2⟩
theorem KA.p {w : Wo} {v : Int32} : KA w (pI w 21 5 v) := fun a b hb => ⟨by rw [gI_pI, if_neg (fun q => hb q.1 q.2)], rfl⟩
theorem CS.go {w w' : Wo} {a a' : Nat} (h : CS tl cn w a) (k : KA w w') (h5 : gI w' 21 5 = nI a') : CS tl cn w' a' := ⟨(k 21 3 (fun _ => by decide)).1.trans h.1, (k 21 4 (fun _ => by decide)).1.trans h.2.1, h5, fun i hi => (k 25 i (fun e => absurd e (by decide))).1.trans (h.2.2.2 i hi)⟩
def pkc (tl : Nat) (cn : Nat → Nat) (a : Nat) : Nat := if a < tl then cn a else 0
theorem pkc_lt (hT : Txt tl cn) (a : Nat) : pkc tl cn a < 65536 := by
  unfold pkc
  by_cases h : a < tl
  · rw [if_pos h]
    exact hT.2 a h
  · rw [if_neg h]
    omega
theorem nI_ch {n : Nat} (h : n < 65536) : isCh (nI n) := by
  unfold isCh
  rw [pk_char]
  congr 1
  have h1 : (nI n).toUInt32.toNat = n := by
    show (BitVec.ofNat 32 n).toNat = n
    rw [BitVec.toNat_ofNat]
    omega
  have h2 : (nI n).toBitVec.toNat = n := h1
  omega
theorem c_peek {w : Wo} {a : Nat} (hT : Txt tl cn) (h : CS tl cn w a) (ha : a < 1000) : F_X4_peek w = some (nI (pkc tl cn a)) := by
  have h60 := hT.1
  unfold F_X4_peek B_X4_peek_41
  rw [h.1, h.2.1, h.2.2.1, if_neg (show ¬ (1 : Int32) = 0 by decide), if_neg (nI_pos (by omega))]
  unfold pkc
  by_cases hl : a < tl
  · rw [if_neg (nI_ge hl (by omega)), if_pos hl, if_neg (show ¬ (1 : Int32) = 0 by decide), L60, if_neg (nI_ge (by omega) (by omega))]
    unfold B_X4_peek_42
    rw [h.1, h.2.2.1, if_neg (show ¬ (1 : Int32) = 0 by decide), if_neg (show ¬ (1 : Int32) = 0 by decide), jchk_n0 (by omega) (by omega), nI_clamp (by omega), h.2.2.2 a hl, jchk_pos (show ((nI (cn a)).toUInt32 % 65536).toInt32 = nI (cn a) from nI_ch (hT.2 a hl))]
  · rw [if_pos (nI_le (by omega) (by omega)), if_neg hl]
    rfl
theorem isd_pk (hT : Txt tl cn) (a : Nat) : isd tl cn a = (decide (48 ≤ pkc tl cn a) && decide (pkc tl cn a ≤ 57)) := by
  unfold isd pkc
  by_cases h : a < tl
  · rw [decide_eq_true h, if_pos h, Bool.true_and]
  · rw [decide_eq_false h, if_neg h]
    rfl
theorem c_digit {w : Wo} {a : Nat} (hT : Txt tl cn) (h : CS tl cn w a) (ha : a < 999) : ∃ w', F_X4_takeDigit w = some (if isd tl cn a then nI (cn a - 48) else -1, w') ∧ KA w w' ∧ gI w' 21 5 = nI (if isd tl cn a then a + 1 else a) := by
  have hp := pkc_lt hT a
  unfold F_X4_takeDigit B_X4_takeDigit_29
  rw [c_peek hT h (by omega), Option.bind_some, L48, show (57 : Int32) = nI 57 from rfl, itlt (by omega) (by omega), itle (by omega) (by omega)]
  by_cases hd : isd tl cn a = true
  · have h1 := isd_iff.mp hd
    have e : pkc tl cn a = cn a := by unfold pkc; rw [if_pos h1.1]
    rw [if_pos hd, if_pos hd, e, if_neg (by omega), if_pos (by omega), pk_sub (by omega), h.2.2.1, nI_1]
    exact ⟨_, rfl, KA.p, pI_same⟩
  · rw [if_neg hd, if_neg hd]
    rw [Bool.not_eq_true, isd_pk hT] at hd
    refine ⟨w, ?_, KA.rf, h.2.2.1⟩
    by_cases h1 : pkc tl cn a < 48
    · rw [if_pos h1]
    · rw [if_neg h1, if_neg]
      intro h2
      rw [decide_eq_true (show 48 ≤ pkc tl cn a by omega), decide_eq_true h2] at hd
      cases hd
theorem c_figs (hT : Txt tl cn) : ∀ (m : Nat) (w : Wo) (v a d : Nat) (F : Nat), m < 3 → a + m < 998 → d < 10 → m + 1 < F → CS tl cn w a → ∃ w', jl4 B_X4_takeNumber_9 F w (nI v) (nI d) (nI (3 - m)) = some (nI (fg tl cn m v a).1, w') ∧ KA w w' ∧ gI w' 21 5 = nI (fg tl cn m v a).2
  | 0, w, v, a, d, F + 1, _, _, _, _, h => by
    refine ⟨w, ?_, KA.rf, h.2.2.1⟩
    show B_X4_takeNumber_9 _ w (nI v) (nI d) (nI 3) = _
    rw [B_X4_takeNumber_9, if_pos (by decide)]
    rfl
  | m + 1, w, v, a, d, F + 2, hm, ha, hd, hF, h => by
    obtain ⟨w1, g1, g2, g3⟩ := c_digit hT h (by omega)
    show ∃ w', B_X4_takeNumber_9 (jl4 B_X4_takeNumber_9 (F + 1)) w (nI v) (nI d) (nI (3 - (m + 1))) = _ ∧ _
    have e0 : B_X4_takeNumber_9 (jl4 B_X4_takeNumber_9 (F + 1)) w (nI v) (nI d) (nI (3 - (m + 1))) = (F_X4_takeDigit w).bind fun q3 => (if q3.1 < 0 then (B_X4_takeNumber_34 (jl4 B_X4_takeNumber_9 (F + 1)) q3.2 (nI v) q3.1 (nI (3 - (m + 1)))) else (B_X4_takeNumber_34 (jl4 B_X4_takeNumber_9 (F + 1)) q3.2 (((10 : Int32) * (nI v)) + q3.1) q3.1 (nI (3 - (m + 1))))) := by
      rw [B_X4_takeNumber_9, L3, if_neg (nI_ge (by omega) (by omega)), if_neg (nI_pos (by omega))]
    rw [e0, g1, Option.bind_some]
    unfold fg
    by_cases hdg : isd tl cn a = true
    · have h1 := isd_iff.mp hdg
      rw [if_pos hdg] at g3 ⊢
      have h2 := h.go g2 g3
      obtain ⟨w2, k1, k2, k3⟩ := c_figs hT m w1 (10 * v + (cn a - 48)) (a + 1) (cn a - 48) (F + 1) (by omega) (by omega) (by omega) (by omega) h2
      refine ⟨w2, ?_, g2.tr k2, by rw [if_pos hdg]; exact k3⟩
      rw [if_pos hdg]
      show (if nI (cn a - 48) < 0 then _ else B_X4_takeNumber_34 _ w1 ((10 : Int32) * nI v + nI (cn a - 48)) (nI (cn a - 48)) (nI (3 - (m + 1)))) = _
      rw [if_neg (nI_pos (by omega)), L10, pk_mul, ofs, B_X4_takeNumber_34, nI_1, show 3 - (m + 1) + 1 = 3 - m by omega]
      exact k1
    · rw [if_neg hdg] at g3 ⊢
      refine ⟨w1, ?_, g2, by rw [if_neg hdg]; exact g3⟩
      rw [if_neg hdg]
      show (if (-1 : Int32) < 0 then B_X4_takeNumber_34 (jl4 B_X4_takeNumber_9 (F + 1)) w1 (nI v) (-1) (nI (3 - (m + 1))) else _) = _
      rw [if_pos (by decide), B_X4_takeNumber_34]
      show B_X4_takeNumber_9 _ w1 (nI v) (-1) _ = _
      rw [B_X4_takeNumber_9, if_pos (show (-1 : Int32) < 0 by decide)]
      by_cases h3 : (3 : Int32) ≤ nI (3 - (m + 1)) + 1
      · rw [if_pos h3]
      · rw [if_neg h3]
theorem c_number {w : Wo} {a : Nat} (hT : Txt tl cn) (h : CS tl cn w a) (ha : a < 900) : ∃ w', F_X4_takeNumber w = some (if isd tl cn a then nI (fg tl cn 3 0 a).1 else -1, w') ∧ KA w w' ∧ gI w' 21 5 = nI (if isd tl cn a then (fg tl cn 3 0 a).2 else a) := by
  obtain ⟨w1, g1, g2, g3⟩ := c_digit hT h (by omega)
  unfold F_X4_takeNumber
  rw [g1, Option.bind_some]
  by_cases hdg : isd tl cn a = true
  · have h1 := isd_iff.mp hdg
    rw [if_pos hdg] at g3
    obtain ⟨w2, k1, k2, k3⟩ := c_figs hT 2 w1 (cn a - 48) (a + 1) (cn a - 48) fu (by omega) (by omega) (by omega) (by rw [fu4]; omega) (h.go g2 g3)
    have ef : fg tl cn 3 0 a = fg tl cn 2 (cn a - 48) (a + 1) := by
      rw [fg, if_pos hdg, Nat.mul_zero, Nat.zero_add]
    refine ⟨w2, ?_, g2.tr k2, by rw [if_pos hdg, ef]; exact k3⟩
    rw [if_pos hdg, if_pos hdg, ef]
    exact k1
  · rw [if_neg hdg] at g3
    refine ⟨w1, ?_, g2, by rw [if_neg hdg]; exact g3⟩
    rw [if_neg hdg, if_neg hdg]
    show B_X4_takeNumber_9 _ w1 (-1) (-1) 1 = _
    rw [B_X4_takeNumber_9, if_neg (by decide), if_pos (by decide)]
theorem c_take {w : Wo} {a c : Nat} (hT : Txt tl cn) (h : CS tl cn w a) (ha : a < 900) (hc : c < 65536) (hc0 : 0 < c) : ∃ w', F_X4_take w (nI c) = some (bI (decide (a < tl) && decide (cn a = c)), w') ∧ KA w w' ∧ gI w' 21 5 = nI (if (decide (a < tl) && decide (cn a = c)) then a + 1 else a) := by
  have hp := pkc_lt hT a
  have e : (decide (a < tl) && decide (cn a = c)) = decide (pkc tl cn a = c) := by
    unfold pkc
    by_cases hl : a < tl
    · rw [decide_eq_true hl, if_pos hl, Bool.true_and]
    · rw [decide_eq_false hl, if_neg hl, decide_eq_false (show ¬ 0 = c by omega)]
      rfl
  rw [e]
  unfold F_X4_take
  rw [c_peek hT h (by omega), Option.bind_some, iteq (by omega) (by omega)]
  by_cases hq : pkc tl cn a = c
  · rw [if_pos hq, decide_eq_true hq, if_pos rfl]
    unfold B_X4_take_13 B_X4_take_28
    rw [if_neg (by decide), jchk_pos (Or.inr rfl), h.2.2.1, nI_1]
    exact ⟨_, rfl, KA.p, pI_same⟩
  · rw [if_neg hq, decide_eq_false hq, if_neg (by decide)]
    exact ⟨w, rfl, KA.rf, h.2.2.1⟩
/-- a letter's number below N, or 12 for the point if N is 13 -/
def lc (tl : Nat) (cn : Nat → Nat) (pt : Bool) (a : Nat) : Bool := decide (a < tl) && ((decide (97 ≤ cn a) && decide (cn a ≤ 108)) || (pt && decide (cn a = 46)))
def lcv (cn : Nat → Nat) (a : Nat) : Nat := if cn a = 46 then 12 else cn a - 97
theorem codeOf_pk {c : Nat} (hc : c < 65536) : F_X5_codeOf (nI c) = if c = 46 then nI 12 else if 97 ≤ c ∧ c ≤ 108 then nI (c - 97) else -1 := by
  unfold F_X5_codeOf
  rw [L46, iteq (by omega) (by omega)]
  by_cases h1 : c = 46
  · rw [if_pos h1, if_pos h1]
    rfl
  · rw [if_neg h1, if_neg h1, show (97 : Int32) = nI 97 from rfl, show (108 : Int32) = nI 108 from rfl, itlt (by omega) (by omega), itlt (by omega) (by omega)]
    by_cases h2 : c < 97
    · rw [if_pos h2, if_neg (by omega)]
    · rw [if_neg h2]
      by_cases h3 : 108 < c
      · rw [if_pos h3, if_neg (by omega)]
      · rw [if_neg h3, if_pos ⟨by omega, by omega⟩, pk_sub (by omega)]
theorem c_code {w : Wo} {a : Nat} (hT : Txt tl cn) (h : CS tl cn w a) (ha : a < 900) (pt : Bool) : ∃ w', F_X4_takeCode w (if pt then 12 else 11) = some (if lc tl cn pt a then nI (lcv cn a) else -1, w') ∧ KA w w' ∧ gI w' 21 5 = nI (if lc tl cn pt a then a + 1 else a) := by
  have hp := pkc_lt hT a
  have e12 : (if pt then (12 : Int32) else 11) = nI (if pt then 12 else 11) := by cases pt <;> rfl
  rw [e12]
  have hN : (if pt then 12 else 11) < 20 := by cases pt <;> decide
  unfold F_X4_takeCode B_X4_takeCode_29
  rw [c_peek hT h (by omega), Option.bind_some, codeOf_pk hp, h.2.2.1, nI_1]
  by_cases hl : lc tl cn pt a = true
  · rw [if_pos hl, if_pos hl]
    unfold lc at hl
    rw [Bool.and_eq_true] at hl
    have hlt := of_decide_eq_true hl.1
    have e : pkc tl cn a = cn a := by unfold pkc; rw [if_pos hlt]
    rw [e]
    unfold lcv
    by_cases h46 : cn a = 46
    · have hpt : pt = true := by
        cases pt
        · rw [h46] at hl
          simp at hl
        · rfl
      rw [if_pos h46, if_pos h46, if_neg (by decide), hpt, if_pos (by decide)]
      exact ⟨_, rfl, KA.p, pI_same⟩
    · have hr : 97 ≤ cn a ∧ cn a ≤ 108 := by
        have := hl.2
        simp [h46] at this
        exact this
      rw [if_neg h46, if_neg h46, if_pos hr, if_neg (nI_pos (by omega)), if_pos (nI_le (by cases pt <;> simp <;> omega) (by omega))]
      exact ⟨_, rfl, KA.p, pI_same⟩
  · rw [if_neg hl, if_neg hl]
    refine ⟨w, ?_, KA.rf, h.2.2.1⟩
    rw [Bool.not_eq_true] at hl
    by_cases hlt : a < tl
    · have e : pkc tl cn a = cn a := by unfold pkc; rw [if_pos hlt]
      unfold lc at hl
      rw [decide_eq_true hlt, Bool.true_and, Bool.or_eq_false_iff] at hl
      rw [e]
      have hr : ¬ (97 ≤ cn a ∧ cn a ≤ 108) := by
        intro q
        have := hl.1
        rw [decide_eq_true q.1, decide_eq_true q.2] at this
        cases this
      by_cases h46 : cn a = 46
      · have hpt : pt = false := by
          cases pt
          · rfl
          · have := hl.2
            rw [decide_eq_true h46] at this
            cases this
        rw [if_pos h46, if_neg (by decide), hpt, if_neg (by decide)]
      · rw [if_neg h46, if_neg hr, if_pos (by decide)]
    · have e : pkc tl cn a = 0 := by unfold pkc; rw [if_neg hlt]
      rw [e, if_neg (show ¬ (0 : Nat) = 46 by decide), if_neg (show ¬ ((97 : Nat) ≤ 0 ∧ (0 : Nat) ≤ 108) by decide), if_pos (show (-1 : Int32) < 0 by decide)]
end RDD
