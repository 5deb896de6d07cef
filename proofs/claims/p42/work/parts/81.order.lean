/-! AN ORDER READ: by the class, by the reference -/
def rd2 (tl : Nat) (cn : Nat → Nat) (k v b : Nat) : Nat ⊕ (Nat × Nat × Nat × Nat × Nat) :=
  if k = 116 ∨ k = 120 then .inr (b, k, v, 0, 0) else if k = 112 then (if lc tl cn false b then .inr (b + 1, k, v, lcv cn b, cn b) else .inl b) else if k = 103 then (if lc tl cn true b then .inr (b + 1, k, v, lcv cn b, cn b) else .inl b) else if isd tl cn b then .inr (b + 1, k, v, cn b - 48, 0) else .inl b
def sl (tl : Nat) (cn : Nat → Nat) (c b : Nat) : Bool := decide (b < tl) && decide (cn b = c)
def rdo (tl : Nat) (cn : Nat → Nat) (k v b : Nat) : Nat ⊕ (Nat × Nat × Nat × Nat × Nat) := if k = 114 then (if sl tl cn 47 b then rd2 tl cn k v (b + 1) else .inl b) else rd2 tl cn k v b
def fm (k : Nat) : Nat := if k = 116 ∨ k = 114 then 3 else 1
def rd (tl : Nat) (cn : Nat → Nat) (a : Nat) : Nat ⊕ (Nat × Nat × Nat × Nat × Nat) :=
  if decide (a < tl) && isK (cn a) then (if isd tl cn (a + 1) then rdo tl cn (cn a) (fg tl cn (fm (cn a)) 0 (a + 1)).1 (fg tl cn (fm (cn a)) 0 (a + 1)).2 else .inl (a + 1)) else .inl a
/-- what the class has behind an order -/
def OC (tl : Nat) (cn : Nat → Nat) (w w' : Wo) (C : Nat) (r : Int32) : Nat ⊕ (Nat × Nat × Nat × Nat × Nat) → Prop
  | .inl e => r = 0 ∧ gI w' 21 5 = nI e
  | .inr q => r = 1 ∧ CS tl cn w' q.1 ∧ gI w' 21 6 = nI (C + 1) ∧ (gI w' 22 C = nI q.2.1 ∧ gI w' 23 C = nI q.2.2.1 ∧ gI w' 24 C = nI q.2.2.2.1) ∧ ∀ j, j ≠ C → gI w' 22 j = gI w 22 j ∧ gI w' 23 j = gI w 23 j ∧ gI w' 24 j = gI w 24 j
theorem KA.kd {w w' : Wo} (h : KA w w') : Kd [21, 22, 23, 24] w w' := fun a b ha => h a b (fun e => by rw [e] at ha; exact absurd List.mem_cons_self ha)
section RDC
variable {tl : Nat} {cn : Nat → Nat}
theorem isK_iff {k : Nat} : isK k = true ↔ k = 98 ∨ k = 112 ∨ k = 103 ∨ k = 116 ∨ k = 115 ∨ k = 120 ∨ k = 114 := by
  unfold isK
  simp
theorem isK_lt {k : Nat} (h : isK k = true) : 98 ≤ k ∧ k ≤ 120 := by
  rw [isK_iff] at h
  omega
theorem c_addO {w : Wo} {C b k v o : Nat} {raw : Nat} (h : CS tl cn w b) (h6 : gI w 21 6 = nI C) (hC : C < 60) : ∃ w', F_X4_add w (nI k) (nI v) (nI o) = some w' ∧ Kd [21, 22, 23, 24] w w' ∧ OC tl cn w w' C 1 (.inr (b, k, v, o, raw)) := by
  refine ⟨pI (pI (pI (pI w 22 C (nI k)) 23 C (nI v)) 24 C (nI o)) 21 6 (nI (C + 1)), ?_, ((Kd.pI (D := [22]) (by decide)).tr (Kd.pI (D := [23]) (by decide)) (D := [22, 23]) (by decide) (by decide)).tr ((Kd.pI (D := [24]) (by decide)).tr (Kd.pI (D := [21]) (by decide)) (D := [21, 24]) (by decide) (by decide)) (by decide) (by decide), rfl, ?_, pI_same, ⟨?_, ?_, ?_⟩, fun j hj => ⟨?_, ?_, ?_⟩⟩
  · unfold F_X4_add B_X4_add_53 B_X4_add_63 B_X4_add_73
    have e1 : gI (pI w 22 C (nI k)) 21 6 = nI C := by rw [gI_pI, if_neg (by omega)]; exact h6
    have e2 : gI (pI (pI w 22 C (nI k)) 23 C (nI v)) 21 6 = nI C := by rw [gI_pI, if_neg (by omega)]; exact e1
    have e3 : gI (pI (pI (pI w 22 C (nI k)) 23 C (nI v)) 24 C (nI o)) 21 6 = nI C := by rw [gI_pI, if_neg (by omega)]; exact e2
    rw [h6, if_neg (nI_pos (by omega)), L60, if_neg (nI_ge hC (by omega)), if_neg (nI_ge hC (by omega)), if_neg (nI_ge hC (by omega)), jchk_n0 hC (by omega), nI_clamp (by omega), e1, jchk_n0 hC (by omega), nI_clamp (by omega), e2, jchk_n0 hC (by omega), nI_clamp (by omega), e3, nI_1]
  · refine ⟨?_, ?_, ?_, fun i hi => ?_⟩
    · rw [gI_pI, if_neg (by omega), gI_pI, if_neg (by omega), gI_pI, if_neg (by omega), gI_pI, if_neg (by omega)]; exact h.1
    · rw [gI_pI, if_neg (by omega), gI_pI, if_neg (by omega), gI_pI, if_neg (by omega), gI_pI, if_neg (by omega)]; exact h.2.1
    · rw [gI_pI, if_neg (by omega), gI_pI, if_neg (by omega), gI_pI, if_neg (by omega), gI_pI, if_neg (by omega)]; exact h.2.2.1
    · rw [gI_pI, if_neg (by omega), gI_pI, if_neg (by omega), gI_pI, if_neg (by omega), gI_pI, if_neg (by omega)]; exact h.2.2.2 i hi
  · rw [gI_pI, if_neg (by omega), gI_pI, if_neg (by omega), gI_pI, if_neg (by omega), pI_same]
  · rw [gI_pI, if_neg (by omega), gI_pI, if_neg (by omega), pI_same]
  · rw [gI_pI, if_neg (by omega), pI_same]
  · rw [gI_pI, if_neg (by omega), gI_pI, if_neg (by omega), gI_pI, if_neg (by omega), gI_pI, if_neg (by omega)]
  · rw [gI_pI, if_neg (by omega), gI_pI, if_neg (by omega), gI_pI, if_neg (by omega), gI_pI, if_neg (by omega)]
  · rw [gI_pI, if_neg (by omega), gI_pI, if_neg (by omega), gI_pI, if_neg (by omega), gI_pI, if_neg (by omega)]
theorem OC.ka {w w1 w' : Wo} {C : Nat} {r : Int32} {x : Nat ⊕ (Nat × Nat × Nat × Nat × Nat)} (h : OC tl cn w1 w' C r x) (k : KA w w1) : OC tl cn w w' C r x := by
  cases x with
  | inl e => exact h
  | inr q =>
    obtain ⟨h1, h2, h3, h4, h5⟩ := h
    refine ⟨h1, h2, h3, h4, fun j hj => ?_⟩
    have q := h5 j hj
    exact ⟨q.1.trans (k 22 j (fun e => absurd e (by decide))).1, q.2.1.trans (k 23 j (fun e => absurd e (by decide))).1, q.2.2.trans (k 24 j (fun e => absurd e (by decide))).1⟩
theorem c_other {w : Wo} {b k : Nat} (hT : Txt tl cn) (h : CS tl cn w b) (hb : b < 900) (hk : k < 200) : ∃ w', F_X4_takeOther w (nI k) = some (match rd2 tl cn k 0 b with | .inl _ => -1 | .inr q => nI q.2.2.2.1, w') ∧ KA w w' ∧ gI w' 21 5 = nI (match rd2 tl cn k 0 b with | .inl e => e | .inr q => q.1) := by
  unfold F_X4_takeOther
  rw [show (103 : Int32) = nI 103 from rfl, show (112 : Int32) = nI 112 from rfl, show (116 : Int32) = nI 116 from rfl, show (120 : Int32) = nI 120 from rfl, iteq (by omega) (by omega), iteq (by omega) (by omega), iteq (by omega) (by omega), iteq (by omega) (by omega)]
  unfold rd2
  by_cases h3 : k = 103
  · obtain ⟨w', g1, g2, g3⟩ := c_code hT h hb true
    rw [if_pos h3, if_neg (by omega), if_neg (by omega), if_pos h3, show F_X4_takeCode w 12 = _ from g1, Option.bind_some]
    refine ⟨w', ?_, g2, ?_⟩
    · cases lc tl cn true b <;> rfl
    · rw [g3]
      cases lc tl cn true b <;> rfl
  · by_cases h2 : k = 112
    · obtain ⟨w', g1, g2, g3⟩ := c_code hT h hb false
      rw [if_neg h3, if_pos h2, if_neg (by omega), if_pos h2, show F_X4_takeCode w 11 = _ from g1, Option.bind_some]
      refine ⟨w', ?_, g2, ?_⟩
      · cases lc tl cn false b <;> rfl
      · rw [g3]
        cases lc tl cn false b <;> rfl
    · by_cases h6 : k = 116 ∨ k = 120
      · rw [if_neg h3, if_neg h2, if_pos h6]
        refine ⟨w, ?_, KA.rf, h.2.2.1⟩
        rcases h6 with h6 | h6
        · rw [if_pos h6]
          rfl
        · rw [if_neg (by omega), if_pos h6]
          rfl
      · obtain ⟨w', g1, g2, g3⟩ := c_digit hT h (by omega)
        rw [if_neg h3, if_neg h2, if_neg (by omega), if_neg (by omega), if_neg h6, if_neg h2, if_neg h3, g1, Option.bind_some]
        refine ⟨w', ?_, g2, ?_⟩
        · cases isd tl cn b <;> rfl
        · rw [g3]
          cases isd tl cn b <;> rfl
theorem rd2_v {k v b : Nat} : rd2 tl cn k v b = match rd2 tl cn k 0 b with | .inl e => .inl e | .inr q => .inr (q.1, q.2.1, v, q.2.2.2.1, q.2.2.2.2) := by
  unfold rd2
  by_cases h6 : k = 116 ∨ k = 120
  · rw [if_pos h6, if_pos h6]
  · rw [if_neg h6, if_neg h6]
    by_cases h2 : k = 112
    · rw [if_pos h2, if_pos h2]
      cases lc tl cn false b <;> rfl
    · rw [if_neg h2, if_neg h2]
      by_cases h3 : k = 103
      · rw [if_pos h3, if_pos h3]
        cases lc tl cn true b <;> rfl
      · rw [if_neg h3, if_neg h3]
        cases isd tl cn b <;> rfl
theorem rd2_k {k v b : Nat} {q : Nat × Nat × Nat × Nat × Nat} (h : rd2 tl cn k v b = .inr q) : q.2.1 = k ∧ b ≤ q.1 ∧ q.2.2.1 = v ∧ (b ≤ tl → q.1 ≤ tl) := by
  unfold rd2 at h
  by_cases h6 : k = 116 ∨ k = 120
  · rw [if_pos h6] at h
    cases h
    exact ⟨rfl, Nat.le_refl _, rfl, fun z => z⟩
  · rw [if_neg h6] at h
    by_cases h2 : k = 112
    · rw [if_pos h2] at h
      by_cases hl : lc tl cn false b = true
      · rw [if_pos hl] at h
        cases h
        unfold lc at hl
        rw [Bool.and_eq_true] at hl
        have := of_decide_eq_true hl.1
        exact ⟨rfl, Nat.le_succ _, rfl, fun _ => this⟩
      · rw [if_neg hl] at h
        cases h
    · rw [if_neg h2] at h
      by_cases h3 : k = 103
      · rw [if_pos h3] at h
        by_cases hl : lc tl cn true b = true
        · rw [if_pos hl] at h
          cases h
          unfold lc at hl
          rw [Bool.and_eq_true] at hl
          have := of_decide_eq_true hl.1
          exact ⟨rfl, Nat.le_succ _, rfl, fun _ => this⟩
        · rw [if_neg hl] at h
          cases h
      · rw [if_neg h3] at h
        by_cases hl : isd tl cn b = true
        · rw [if_pos hl] at h
          cases h
          have := isd_iff.mp hl
          exact ⟨rfl, Nat.le_succ _, rfl, fun _ => this.1⟩
        · rw [if_neg hl] at h
          cases h
theorem c_69 {w : Wo} {b k v C : Nat} (hT : Txt tl cn) (h : CS tl cn w b) (h6 : gI w 21 6 = nI C) (hC : C < 60) (hb : b < 900) (hk : k < 200) : ∃ r w', B_X4_readOrder_69 w (nI k) (nI v) = some (r, w') ∧ Kd [21, 22, 23, 24] w w' ∧ OC tl cn w w' C r (rd2 tl cn k v b) := by
  obtain ⟨w1, g1, g2, g3⟩ := c_other hT h hb hk
  unfold B_X4_readOrder_69
  rw [g1, Option.bind_some, rd2_v (v := v)]
  cases hq : rd2 tl cn k 0 b with
  | inl e =>
    rw [hq] at g3
    refine ⟨0, w1, if_neg (show ¬ (0 : Int32) ≤ -1 by decide), g2.kd, rfl, g3⟩
  | inr q =>
    rw [hq] at g3
    have ek := (rd2_k hq).1
    have ho : q.2.2.2.1 < 2 ^ 31 := by
      unfold rd2 at hq
      have hcb : ∀ i, i < tl → cn i < 65536 := hT.2
      by_cases h6 : k = 116 ∨ k = 120
      · rw [if_pos h6] at hq; cases hq; show 0 < 2 ^ 31; omega
      · rw [if_neg h6] at hq
        by_cases h2 : k = 112
        · rw [if_pos h2] at hq
          by_cases hl : lc tl cn false b = true
          · rw [if_pos hl] at hq; cases hq
            unfold lc at hl
            rw [Bool.and_eq_true] at hl
            have := hcb b (of_decide_eq_true hl.1)
            show lcv cn b < 2 ^ 31
            unfold lcv
            split <;> omega
          · rw [if_neg hl] at hq; cases hq
        · rw [if_neg h2] at hq
          by_cases h3 : k = 103
          · rw [if_pos h3] at hq
            by_cases hl : lc tl cn true b = true
            · rw [if_pos hl] at hq; cases hq
              unfold lc at hl
              rw [Bool.and_eq_true] at hl
              have := hcb b (of_decide_eq_true hl.1)
              show lcv cn b < 2 ^ 31
              unfold lcv
              split <;> omega
            · rw [if_neg hl] at hq; cases hq
          · rw [if_neg h3] at hq
            by_cases hl : isd tl cn b = true
            · rw [if_pos hl] at hq; cases hq
              have := isd_iff.mp hl
              show cn b - 48 < 2 ^ 31
              omega
            · rw [if_neg hl] at hq; cases hq
    have h2 := h.go g2 g3
    obtain ⟨w2, k1, k2, k3⟩ := c_addO (k := k) (v := v) (o := q.2.2.2.1) (raw := q.2.2.2.2) h2 ((g2 21 6 (fun _ => by decide)).1.trans h6) hC
    refine ⟨1, w2, ?_, g2.kd.tr k2 (fun _ h => h) (fun _ h => h), ?_⟩
    · show (if (0 : Int32) ≤ nI q.2.2.2.1 then (F_X4_add w1 (nI k) (nI v) (nI q.2.2.2.1)).bind _ else _) = _
      rw [if_pos (nI_pos' ho), k1]
      rfl
    · show OC tl cn w w2 C 1 (Sum.inr (q.1, q.2.1, v, q.2.2.2.1, q.2.2.2.2))
      rw [ek]
      exact k3.ka g2
theorem isKind_k {k : Nat} (hk : k < 65536) : F_X4_isKind (nI k) = bI (isK k) := by
  unfold F_X4_isKind isK B_X4_isKind_42
  rw [show (98 : Int32) = nI 98 from rfl, show (103 : Int32) = nI 103 from rfl, show (112 : Int32) = nI 112 from rfl, show (116 : Int32) = nI 116 from rfl, show (120 : Int32) = nI 120 from rfl, show (115 : Int32) = nI 115 from rfl, show (114 : Int32) = nI 114 from rfl, iteq (by omega) (by omega), iteq (by omega) (by omega), iteq (by omega) (by omega), iteq (by omega) (by omega), iteq (by omega) (by omega), iteq (by omega) (by omega), iteq (by omega) (by omega)]
  by_cases h1 : k = 98
  · simp [h1]; rfl
  by_cases h2 : k = 112
  · simp [h2]; rfl
  by_cases h3 : k = 103
  · simp [h3]; rfl
  by_cases h4 : k = 116
  · simp [h4]; rfl
  by_cases h5 : k = 115
  · simp [h5]; rfl
  by_cases h6 : k = 120
  · simp [h6]; rfl
  by_cases h7 : k = 114
  · simp [h7]; rfl
  have e : isK k = false := by
    rw [← Bool.not_eq_true, isK_iff]
    omega
  rw [if_neg h1, if_neg h2, if_neg h3, if_neg h4, if_neg h5, if_neg h6, if_neg h7]
  show (0 : Int32) = bI (isK k)
  rw [e]
  rfl
theorem c_47 {w : Wo} {b k v C : Nat} (hT : Txt tl cn) (h : CS tl cn w b) (h6 : gI w 21 6 = nI C) (hC : C < 60) (hb : b < 899) (hk : k < 200) (hv : v < 2 ^ 31) : ∃ r w', B_X4_readOrder_47 w (nI k) (nI v) = some (r, w') ∧ Kd [21, 22, 23, 24] w w' ∧ OC tl cn w w' C r (rdo tl cn k v b) := by
  unfold B_X4_readOrder_47 rdo
  rw [if_neg (nI_pos hv), show (114 : Int32) = nI 114 from rfl, iteq (by omega) (by omega)]
  by_cases h4 : k = 114
  · rw [if_pos h4, if_pos h4]
    obtain ⟨w1, g1, g2, g3⟩ := c_take (c := 47) hT h (by omega) (by decide) (by decide)
    rw [show F_X4_take w 47 = _ from g1, Option.bind_some]
    have es : (decide (b < tl) && decide (cn b = 47)) = sl tl cn 47 b := rfl
    rw [es] at g3 ⊢
    cases hs : sl tl cn 47 b with
    | false =>
      rw [hs] at g3
      exact ⟨0, w1, rfl, g2.kd, rfl, g3⟩
    | true =>
      rw [hs] at g3
      have h1 := h.go g2 g3
      obtain ⟨r, w2, k1, k2, k3⟩ := c_69 (v := v) hT h1 ((g2 21 6 (fun _ => by decide)).1.trans h6) hC (b := b + 1) (k := k) (by omega) hk
      exact ⟨r, w2, k1, g2.kd.tr k2 (fun _ h => h) (fun _ h => h), k3.ka g2⟩
  · rw [if_neg h4, if_neg h4]
    exact c_69 hT h h6 hC (by omega) hk
theorem fg_v2 : ∀ m v a, m ≤ 2 → v < 10010 → (fg tl cn m v a).1 < 2 ^ 31
  | 0, v, a, _, hv => by
    show v < 2 ^ 31
    omega
  | 1, v, a, _, hv => by
    unfold fg
    by_cases h : isd tl cn a = true
    · rw [if_pos h]
      have h1 := isd_iff.mp h
      show 10 * v + (cn a - 48) < 2 ^ 31
      omega
    · rw [if_neg h]
      show v < 2 ^ 31
      omega
  | 2, v, a, _, hv => by
    unfold fg
    by_cases h : isd tl cn a = true
    · rw [if_pos h]
      have h1 := isd_iff.mp h
      unfold fg
      by_cases h2 : isd tl cn (a + 1) = true
      · rw [if_pos h2]
        have h3 := isd_iff.mp h2
        show 10 * (10 * v + (cn a - 48)) + (cn (a + 1) - 48) < 2 ^ 31
        omega
      · rw [if_neg h2]
        show 10 * v + (cn a - 48) < 2 ^ 31
        omega
    · rw [if_neg h]
      show v < 2 ^ 31
      omega
theorem fg_v : ∀ m v a, m ≤ 3 → v < 1000 → (∀ i, i < tl → cn i < 65536) → (fg tl cn m v a).1 < 2 ^ 31
  | 0, v, a, _, hv, _ => by
    show v < 2 ^ 31
    omega
  | m + 1, v, a, hm, hv, hc => by
    unfold fg
    by_cases h : isd tl cn a = true
    · rw [if_pos h]
      have h1 := isd_iff.mp h
      exact fg_v2 m (10 * v + (cn a - 48)) (a + 1) (by omega) (by omega)
    · rw [if_neg h]
      show v < 2 ^ 31
      omega
theorem c_order {w : Wo} {a C : Nat} (hT : Txt tl cn) (h : CS tl cn w a) (h6 : gI w 21 6 = nI C) (hC : C < 60) (ha : a ≤ tl) : ∃ r w', F_X4_readOrder w = some (r, w') ∧ Kd [21, 22, 23, 24] w w' ∧ OC tl cn w w' C r (rd tl cn a) := by
  have h60 := hT.1
  have hp := pkc_lt hT a
  unfold F_X4_readOrder rd
  rw [c_peek hT h (by omega), Option.bind_some, isKind_k hp, itb0]
  have ek : isK (pkc tl cn a) = (decide (a < tl) && isK (cn a)) := by
    unfold pkc
    by_cases hl : a < tl
    · rw [if_pos hl, decide_eq_true hl, Bool.true_and]
    · rw [if_neg hl, decide_eq_false hl]
      rfl
  rw [ek]
  by_cases hk : (decide (a < tl) && isK (cn a)) = true
  · rw [if_pos hk, if_pos hk]
    rw [Bool.and_eq_true] at hk
    have hl := of_decide_eq_true hk.1
    have e : pkc tl cn a = cn a := by unfold pkc; rw [if_pos hl]
    have hkl := isK_lt hk.2
    rw [e, h.2.2.1, nI_1]
    have k1 : KA w (pI w 21 5 (nI (a + 1))) := KA.p
    have h1 := h.go k1 pI_same
    have h61 : gI (pI w 21 5 (nI (a + 1))) 21 6 = nI C := (k1 21 6 (fun _ => by decide)).1.trans h6
    generalize pI w 21 5 (nI (a + 1)) = w1 at k1 h1 h61
    unfold B_X4_readOrder_24 B_X4_readOrder_36
    rw [show (116 : Int32) = nI 116 from rfl, show (114 : Int32) = nI 114 from rfl, iteq (by omega) (by omega), iteq (by omega) (by omega)]
    by_cases hn : cn a = 116 ∨ cn a = 114
    · have e24 : (if cn a = 116 then (F_X4_takeNumber w1).bind (fun q4 => B_X4_readOrder_47 q4.2 (nI (cn a)) q4.1) else if cn a = 114 then (F_X4_takeNumber w1).bind (fun q4 => B_X4_readOrder_47 q4.2 (nI (cn a)) q4.1) else (F_X4_takeDigit w1).bind (fun q11 => B_X4_readOrder_47 q11.2 (nI (cn a)) q11.1)) = (F_X4_takeNumber w1).bind (fun q4 => B_X4_readOrder_47 q4.2 (nI (cn a)) q4.1) := by
        rcases hn with hn | hn
        · rw [if_pos hn]
        · rw [if_neg (by omega), if_pos hn]
      rw [e24]
      obtain ⟨w2, g1, g2, g3⟩ := c_number hT h1 (by omega)
      rw [g1, Option.bind_some]
      have efm : fm (cn a) = 3 := by unfold fm; rw [if_pos hn]
      rw [efm]
      cases hd : isd tl cn (a + 1) with
      | false =>
        rw [hd] at g3
        refine ⟨0, w2, ?_, (k1.tr g2).kd, rfl, g3⟩
        rfl
      | true =>
        rw [hd] at g3
        have h2 := h1.go g2 g3
        have hfl := fg_le (tl := tl) (cn := cn) 3 0 (a + 1)
        obtain ⟨r, w3, l1, l2, l3⟩ := c_47 (v := (fg tl cn 3 0 (a + 1)).1) hT h2 ((g2 21 6 (fun _ => by decide)).1.trans h61) hC (b := (fg tl cn 3 0 (a + 1)).2) (k := cn a) (by have := hfl.2 (by omega); omega) (by omega) (fg_v 3 0 _ (by omega) (by omega) hT.2)
        exact ⟨r, w3, l1, (k1.tr g2).kd.tr l2 (fun _ h => h) (fun _ h => h), l3.ka (k1.tr g2)⟩
    · rw [if_neg (by omega), if_neg (by omega)]
      obtain ⟨w2, g1, g2, g3⟩ := c_digit hT h1 (by omega)
      rw [g1, Option.bind_some]
      have efm : fm (cn a) = 1 := by unfold fm; rw [if_neg hn]
      rw [efm]
      cases hd : isd tl cn (a + 1) with
      | false =>
        rw [hd] at g3
        refine ⟨0, w2, ?_, (k1.tr g2).kd, rfl, g3⟩
        rfl
      | true =>
        rw [hd] at g3
        have h2 := h1.go g2 g3
        have hd1 := isd_iff.mp hd
        have ef : fg tl cn 1 0 (a + 1) = (cn (a + 1) - 48, a + 1 + 1) := by
          rw [fg, hd, if_pos rfl, fg, Nat.mul_zero, Nat.zero_add]
        rw [ef]
        obtain ⟨r, w3, l1, l2, l3⟩ := c_47 (v := cn (a + 1) - 48) hT h2 ((g2 21 6 (fun _ => by decide)).1.trans h61) hC (b := a + 1 + 1) (k := cn a) (by omega) (by omega) (by omega)
        exact ⟨r, w3, l1, (k1.tr g2).kd.tr l2 (fun _ h => h) (fun _ h => h), l3.ka (k1.tr g2)⟩
  · rw [if_neg hk, if_neg hk]
    exact ⟨0, w, rfl, Kd.rf, rfl, h.2.2.1⟩
end RDC
