/-! A TEXT CARRIED OUT -/
section RUN
variable {tl : Nat} {cn : Nat → Nat}
/-- an order of the text, for both -/
theorem ord_txt {B : Bd} (hB : B.ok) {j : Nat} (hj : j < 21) {q : Nat × Nat × Nat × Nat × Nat} (hq : rd tl cn (pos tl cn j) = .inr q) : ∃ FM tm VC, Ord B (nI q.2.1) (nI q.2.2.1) (nI q.2.2.2.1) FM tm VC ∧ ∀ u, TW tl cn u j → F_X6_does u (nI (3 * j)) = (FM u).bind fun q => some (q.1, q.2) := by
  obtain ⟨k, hk⟩ : ∃ k, k = q.2.1 := ⟨_, rfl⟩
  obtain ⟨v, hv⟩ : ∃ v, v = q.2.2.1 := ⟨_, rfl⟩
  obtain ⟨o, ho⟩ : ∃ o, o = q.2.2.2.1 := ⟨_, rfl⟩
  obtain ⟨r, hr⟩ : ∃ r, r = q.2.2.2.2 := ⟨_, rfl⟩
  obtain ⟨-, -, g1, g2, g3⟩ := rd_ok hq
  rw [← hk] at g1 g2 g3
  rw [← ho, ← hr] at g2 g3
  rw [← hk, ← hv, ← ho]
  have tw : ∀ u, TW tl cn u j → gI u 35 (3 * j) = nI k ∧ gI u 35 (3 * j + 1) = nI v ∧ ((k = 112 ∨ k = 103) → gI u 35 (3 * j + 2) = nI r) ∧ ((k = 98 ∨ k = 115 ∨ k = 114) → gI u 35 (3 * j + 2) = nI o) := by
    intro u hu
    have := hu q hq
    rw [← hk, ← hv, ← ho, ← hr] at this
    exact this
  have dz : ∀ u, TW tl cn u j → F_X6_does u (nI (3 * j)) = (if nI k = 98 then ((F_X6_boards u (nI v) (gI u 35 (3 * j + 2))).bind fun q1 => (some ((q1.1, q1.2)))) else (if nI k = 103 then ((F_X6_goals u (nI v) (gI u 35 (3 * j + 2))).bind fun q3 => (some ((q3.1, q3.2)))) else (if nI k = 112 then ((F_X6_puts u (nI v) (gI u 35 (3 * j + 2))).bind fun q5 => (some ((q5.1, q5.2)))) else (if nI k = 115 then ((F_X6_swaps u (nI v) (gI u 35 (3 * j + 2))).bind fun q7 => (some ((q7.1, q7.2)))) else (if nI k = 116 then ((F_X6_turnsOne u (nI v)).bind fun q9 => (some ((q9.1, q9.2)))) else (if nI k = 120 then ((F_X6_bars u (nI v)).bind fun q11 => (some ((q11.1, q11.2)))) else ((F_X6_scrambles u (nI v) (gI u 35 (3 * j + 2))).bind fun q13 => (some ((q13.1, q13.2)))))))))) := by
    intro u hu
    obtain ⟨t0, t1, -⟩ := tw u hu
    unfold F_X6_does B_X6_does_9 B_X6_does_18
    rw [nI_1, show nI (3 * j) + (2 : Int32) = nI (3 * j + 2) from nI_add _ 2, jchk_n0 (by omega) (by omega), jchk_n0 (by omega) (by omega), jchk_n0 (by omega) (by omega), nI_clamp (by omega), nI_clamp (by omega), nI_clamp (by omega), t0, t1]
  rcases isK_iff.mp g1 with e | e | e | e | e | e | e
  · subst e
    refine ⟨_, _, _, ord_board hB (nI v) (nI o), fun u hu => ?_⟩
    rw [dz u hu, (tw u hu).2.2.2 (Or.inl rfl), if_pos (show nI 98 = 98 from rfl)]
  · subst e
    rw [← g2 rfl]
    refine ⟨_, _, _, ord_put hB (nI v) (nI r), fun u hu => ?_⟩
    rw [dz u hu, (tw u hu).2.2.1 (Or.inl rfl), if_neg (show ¬ nI 112 = 98 by decide), if_neg (show ¬ nI 112 = 103 by decide), if_pos (show nI 112 = 112 from rfl)]
  · subst e
    rw [← g3 rfl]
    refine ⟨_, _, _, ord_goal hB (nI v) (nI r), fun u hu => ?_⟩
    rw [dz u hu, (tw u hu).2.2.1 (Or.inr rfl), if_neg (show ¬ nI 103 = 98 by decide), if_pos (show nI 103 = 103 from rfl)]
  · subst e
    refine ⟨_, _, _, ord_turn hB (nI v) (nI o), fun u hu => ?_⟩
    rw [dz u hu, if_neg (show ¬ nI 116 = 98 by decide), if_neg (show ¬ nI 116 = 103 by decide), if_neg (show ¬ nI 116 = 112 by decide), if_neg (show ¬ nI 116 = 115 by decide), if_pos (show nI 116 = 116 from rfl)]
  · subst e
    refine ⟨_, _, _, ord_swap hB (nI v) (nI o), fun u hu => ?_⟩
    rw [dz u hu, (tw u hu).2.2.2 (Or.inr (Or.inl rfl)), if_neg (show ¬ nI 115 = 98 by decide), if_neg (show ¬ nI 115 = 103 by decide), if_neg (show ¬ nI 115 = 112 by decide), if_pos (show nI 115 = 115 from rfl)]
  · subst e
    refine ⟨_, _, _, ord_bar hB (nI v) (nI o), fun u hu => ?_⟩
    rw [dz u hu, if_neg (show ¬ nI 120 = 98 by decide), if_neg (show ¬ nI 120 = 103 by decide), if_neg (show ¬ nI 120 = 112 by decide), if_neg (show ¬ nI 120 = 115 by decide), if_neg (show ¬ nI 120 = 116 by decide), if_pos (show nI 120 = 120 from rfl)]
  · subst e
    refine ⟨_, _, _, ord_scramble hB (nI v) (nI o), fun u hu => ?_⟩
    rw [dz u hu, (tw u hu).2.2.2 (Or.inr (Or.inr rfl)), if_neg (show ¬ nI 114 = 98 by decide), if_neg (show ¬ nI 114 = 103 by decide), if_neg (show ¬ nI 114 = 112 by decide), if_neg (show ¬ nI 114 = 115 by decide), if_neg (show ¬ nI 114 = 116 by decide), if_neg (show ¬ nI 114 = 120 by decide)]
def CR (tl : Nat) (cn : Nat → Nat) (n : Nat) (w : Wo) : Prop := gI w 21 6 = nI n ∧ ∀ j, j < n → RW tl cn w j
def MR (tl : Nat) (cn : Nat → Nat) (n : Nat) (u : Wo) : Prop := ∀ j, j < n → TW tl cn u j
theorem CR.kd {n : Nat} {w w' : Wo} {D : List Nat} (h : CR tl cn n w) (k : Kd D w w') (h1 : 21 ∉ D) (h2 : 22 ∉ D) (h3 : 23 ∉ D) (h4 : 24 ∉ D) : CR tl cn n w' := ⟨(k 21 6 h1).1.trans h.1, fun j hj q hq => by rw [(k 22 j h2).1, (k 23 j h3).1, (k 24 j h4).1]; exact h.2 j hj q hq⟩
theorem MR.kf {n : Nat} {u u' : Wo} {D F : List Nat} (h : MR tl cn n u) (k : Kf D F u u') (h1 : 35 ∉ D) : MR tl cn n u' := fun j hj q hq => by
  have e : ∀ i, gI u' 35 i = gI u 35 i := fun i => k.1 35 i h1 (fun e => absurd e (by decide))
  rw [e, e, e]
  exact h j hj q hq
theorem c_kinds {w : Wo} {i : Nat} (h : i < 60) : F_X4_kindOf w (nI i) = some (gI w 22 i) ∧ F_X4_oneOf w (nI i) = some (gI w 23 i) ∧ F_X4_otherOf w (nI i) = some (gI w 24 i) := by
  unfold F_X4_kindOf F_X4_oneOf F_X4_otherOf
  rw [if_neg (nI_pos (by omega)), if_neg (nI_pos (by omega)), if_neg (nI_pos (by omega)), L60, if_neg (nI_ge h (by omega)), if_neg (nI_ge h (by omega)), if_neg (nI_ge h (by omega)), jchk_n0 h (by omega), jchk_n0 h (by omega), jchk_n0 h (by omega), nI_clamp (by omega)]
  exact ⟨rfl, rfl, rfl⟩
/-- the orders from the k-th on -/
theorem ex_all {n : Nat} (hn : n ≤ 21) (hall : ∀ j, j < n → ∃ q, rd tl cn (pos tl cn j) = .inr q) : ∀ (d k : Nat) (B : Bd), k + d = n → B.ok →
    (∃ Bf, Bf.ok ∧ (∀ cw F, d < F → CB cw 1 B → CR tl cn n cw → ∃ w', jl2 B_X5_carryOutAll_13 F cw (nI k) = B_X5_carryOutAll_104 w' ∧ CB w' 1 Bf ∧ Kd [1] cw w') ∧ (∀ mw F, d < F → MB mw 27 0 B → MR tl cn n mw → ∃ u', jl2 (B_X6_run_141 (nI n)) F mw (nI k) = B_X6_run_191 u' (nI n) ∧ MB u' 27 0 Bf ∧ Kf [27, 33, 34] [14] mw u')) ∨
    (∃ v : Nat, (v = 1 ∨ v = 2) ∧ (∀ cw F, d < F → CB cw 1 B → CR tl cn n cw → ∃ w', jl2 B_X5_carryOutAll_13 F cw (nI k) = B_X5_carryOutAll_57 w' (nI v) ∧ Kd [1] cw w') ∧ (∀ mw F, d < F → MB mw 27 0 B → MR tl cn n mw → ∃ u' t, t ≠ 0 ∧ jl2 (B_X6_run_141 (nI n)) F mw (nI k) = B_X6_run_162 (pI (pI u' 26 14 t) 26 11 0) 0 ∧ Kf [27, 33, 34] [14] mw u')) ∨
    (∃ (why : Nat) (det : Int32), 0 < why ∧ why < 6 ∧ (∀ cw F, d < F → CB cw 1 B → CR tl cn n cw → ∃ w', jl2 B_X5_carryOutAll_13 F cw (nI k) = B_X5_carryOutAll_57 (pI (pI w' 0 10 (nI why)) 0 11 det) 3 ∧ Kd [1] cw w') ∧ (∀ mw F, d < F → MB mw 27 0 B → MR tl cn n mw → ∃ u' t, t ≠ 0 ∧ jl2 (B_X6_run_141 (nI n)) F mw (nI k) = B_X6_run_162 (pI (pI (pI (pI u' 26 9 (nI why)) 26 10 det) 26 14 t) 26 11 1) 0 ∧ Kf [27, 33, 34] [14] mw u'))
  | 0, k, B, hk, hB => by
    refine Or.inl ⟨B, hB, fun cw F hF hC hR => ⟨cw, ?_, hC, Kd.rf⟩, fun mw F hF hM hR => ⟨mw, ?_, hM, Kf.rf⟩⟩
    · obtain ⟨F, rfl⟩ : ∃ F', F = F' + 1 := ⟨F - 1, by omega⟩
      show B_X5_carryOutAll_13 _ cw (nI k) = _
      rw [B_X5_carryOutAll_13, hR.1, if_pos (nI_le (by omega) (by omega))]
    · obtain ⟨F, rfl⟩ : ∃ F', F = F' + 1 := ⟨F - 1, by omega⟩
      show B_X6_run_141 (nI n) _ mw (nI k) = _
      rw [B_X6_run_141, if_pos (nI_le (by omega) (by omega))]
  | d + 1, k, B, hk, hB => by
    have hkn : k < n := by omega
    obtain ⟨q, hq⟩ := hall k hkn
    obtain ⟨FM, tm, VC, hO, hdo⟩ := ord_txt hB (j := k) (by omega) hq
    have cst : ∀ (cw : Wo) (F : Nat), CR tl cn n cw → jl2 B_X5_carryOutAll_13 (F + 1) cw (nI k) = ((F_X5_judge cw (nI q.2.1) (nI q.2.2.1) (nI q.2.2.2.1)).bind fun q9 => (if q9.1 = 0 then ((F_X4_kindOf q9.2 (nI k)).bind fun q11 => ((F_X4_oneOf q9.2 (nI k)).bind fun q13 => ((F_X4_otherOf q9.2 (nI k)).bind fun q15 => ((F_X5_carryOut q9.2 q11 q13 q15).bind fun q17 => (jl2 B_X5_carryOutAll_13 F q17 (nI k + 1)))))) else (B_X5_carryOutAll_57 q9.2 q9.1))) := by
      intro cw F hR
      have hr := hR.2 k hkn q hq
      obtain ⟨c1, c2, c3⟩ := c_kinds (w := cw) (i := k) (by omega)
      show B_X5_carryOutAll_13 (jl2 B_X5_carryOutAll_13 F) cw (nI k) = _
      rw [B_X5_carryOutAll_13, hR.1, if_neg (nI_ge hkn (by omega)), c1, Option.bind_some, c2, Option.bind_some, c3, Option.bind_some, hr.1, hr.2.1, hr.2.2]
    have mst : ∀ (mw : Wo) (F : Nat), MR tl cn n mw → jl2 (B_X6_run_141 (nI n)) (F + 1) mw (nI k) = ((FM mw).bind fun q => some (q.1, q.2)).bind fun q6 => (if (gI q6.2 26 14) = 0 then (jl2 (B_X6_run_141 (nI n)) F q6.2 (nI k + 1)) else (B_X6_run_162 q6.2 q6.1)) := by
      intro mw F hR
      show B_X6_run_141 (nI n) (jl2 (B_X6_run_141 (nI n)) F) mw (nI k) = _
      rw [B_X6_run_141, if_neg (nI_ge hkn (by omega)), L3, pk_mul, hdo mw (hR k hkn)]
    rcases hO with ⟨B', val, hB', hc, hm, -⟩ | ⟨v, hv, ht, hc, hm⟩ | ⟨why, det, h0, h6, ht, hc, hm⟩
    · have cnx : ∀ (cw : Wo) (F : Nat), CB cw 1 B → CR tl cn n cw → ∃ cw', jl2 B_X5_carryOutAll_13 (F + 1) cw (nI k) = jl2 B_X5_carryOutAll_13 F cw' (nI (k + 1)) ∧ CB cw' 1 B' ∧ Kd [1] cw cw' ∧ CR tl cn n cw' := by
        intro cw F hC hR
        obtain ⟨h1, cw', h2, h3, h4⟩ := hc cw hC
        have hr := hR.2 k hkn q hq
        obtain ⟨c1, c2, c3⟩ := c_kinds (w := cw) (i := k) (by omega)
        refine ⟨cw', ?_, h3, h4, hR.kd h4 (by decide) (by decide) (by decide) (by decide)⟩
        rw [cst cw F hR, h1, Option.bind_some]
        show ((F_X4_kindOf cw (nI k)).bind fun q11 => ((F_X4_oneOf cw (nI k)).bind fun q13 => ((F_X4_otherOf cw (nI k)).bind fun q15 => ((F_X5_carryOut cw q11 q13 q15).bind fun q17 => (jl2 B_X5_carryOutAll_13 F q17 (nI k + 1)))))) = _
        rw [c1, Option.bind_some, c2, Option.bind_some, c3, Option.bind_some, hr.1, hr.2.1, hr.2.2, h2, Option.bind_some, nI_1]
      have mnx : ∀ (mw : Wo) (F : Nat), MB mw 27 0 B → MR tl cn n mw → ∃ mw', jl2 (B_X6_run_141 (nI n)) (F + 1) mw (nI k) = jl2 (B_X6_run_141 (nI n)) F mw' (nI (k + 1)) ∧ MB mw' 27 0 B' ∧ Kf [27, 33, 34] [14] mw mw' ∧ MR tl cn n mw' := by
        intro mw F hM hR
        obtain ⟨mw', h1, h2, h3, h4⟩ := hm mw hM
        refine ⟨mw', ?_, h3, h4, hR.kf h4 (by decide)⟩
        rw [mst mw F hR, h1, Option.bind_some, Option.bind_some]
        show (if gI mw' 26 14 = 0 then _ else _) = _
        rw [if_pos h2, nI_1]
      rcases ex_all hn hall d (k + 1) B' (by omega) hB' with ⟨Bf, b1, b2, b3⟩ | ⟨v, hv, b2, b3⟩ | ⟨why, det, e0, e6, b2, b3⟩
      · refine Or.inl ⟨Bf, b1, fun cw F hF hC hR => ?_, fun mw F hF hM hR => ?_⟩
        · obtain ⟨F, rfl⟩ : ∃ F', F = F' + 1 := ⟨F - 1, by omega⟩
          obtain ⟨cw', c1, c2, c3, c4⟩ := cnx cw F hC hR
          obtain ⟨w', d1, d2, d3⟩ := b2 cw' F (by omega) c2 c4
          exact ⟨w', c1.trans d1, d2, c3.tr d3 (fun _ h => h) (fun _ h => h)⟩
        · obtain ⟨F, rfl⟩ : ∃ F', F = F' + 1 := ⟨F - 1, by omega⟩
          obtain ⟨mw', c1, c2, c3, c4⟩ := mnx mw F hM hR
          obtain ⟨u', d1, d2, d3⟩ := b3 mw' F (by omega) c2 c4
          exact ⟨u', c1.trans d1, d2, c3.tr d3 (fun _ h => h) (fun _ h => h) (fun _ h => h) (fun _ h => h)⟩
      · refine Or.inr (Or.inl ⟨v, hv, fun cw F hF hC hR => ?_, fun mw F hF hM hR => ?_⟩)
        · obtain ⟨F, rfl⟩ : ∃ F', F = F' + 1 := ⟨F - 1, by omega⟩
          obtain ⟨cw', c1, c2, c3, c4⟩ := cnx cw F hC hR
          obtain ⟨w', d1, d2⟩ := b2 cw' F (by omega) c2 c4
          exact ⟨w', c1.trans d1, c3.tr d2 (fun _ h => h) (fun _ h => h)⟩
        · obtain ⟨F, rfl⟩ : ∃ F', F = F' + 1 := ⟨F - 1, by omega⟩
          obtain ⟨mw', c1, c2, c3, c4⟩ := mnx mw F hM hR
          obtain ⟨u', t, d0, d1, d2⟩ := b3 mw' F (by omega) c2 c4
          exact ⟨u', t, d0, c1.trans d1, c3.tr d2 (fun _ h => h) (fun _ h => h) (fun _ h => h) (fun _ h => h)⟩
      · refine Or.inr (Or.inr ⟨why, det, e0, e6, fun cw F hF hC hR => ?_, fun mw F hF hM hR => ?_⟩)
        · obtain ⟨F, rfl⟩ : ∃ F', F = F' + 1 := ⟨F - 1, by omega⟩
          obtain ⟨cw', c1, c2, c3, c4⟩ := cnx cw F hC hR
          obtain ⟨w', d1, d2⟩ := b2 cw' F (by omega) c2 c4
          exact ⟨w', c1.trans d1, c3.tr d2 (fun _ h => h) (fun _ h => h)⟩
        · obtain ⟨F, rfl⟩ : ∃ F', F = F' + 1 := ⟨F - 1, by omega⟩
          obtain ⟨mw', c1, c2, c3, c4⟩ := mnx mw F hM hR
          obtain ⟨u', t, d0, d1, d2⟩ := b3 mw' F (by omega) c2 c4
          exact ⟨u', t, d0, c1.trans d1, c3.tr d2 (fun _ h => h) (fun _ h => h) (fun _ h => h) (fun _ h => h)⟩
    · refine Or.inr (Or.inl ⟨v, hv, fun cw F hF hC hR => ?_, fun mw F hF hM hR => ?_⟩)
      · obtain ⟨F, rfl⟩ : ∃ F', F = F' + 1 := ⟨F - 1, by omega⟩
        refine ⟨cw, ?_, Kd.rf⟩
        rw [cst cw F hR, hc cw hC, Option.bind_some]
        show (if nI v = 0 then _ else B_X5_carryOutAll_57 cw (nI v)) = _
        rw [if_neg (nI_ne0 (by omega) (by omega))]
      · obtain ⟨F, rfl⟩ : ∃ F', F = F' + 1 := ⟨F - 1, by omega⟩
        refine ⟨mw, tm v, ht, ?_, Kf.rf⟩
        rw [mst mw F hR, hm mw hM, Option.bind_some, Option.bind_some]
        show (if gI (pI (pI mw 26 14 (tm v)) 26 11 0) 26 14 = 0 then _ else B_X6_run_162 (pI (pI mw 26 14 (tm v)) 26 11 0) 0) = _
        rw [if_neg]
        rw [gI_pI, if_neg (by omega), pI_same]
        exact ht
    · refine Or.inr (Or.inr ⟨why, det, h0, h6, fun cw F hF hC hR => ?_, fun mw F hF hM hR => ?_⟩)
      · obtain ⟨F, rfl⟩ : ∃ F', F = F' + 1 := ⟨F - 1, by omega⟩
        refine ⟨cw, ?_, Kd.rf⟩
        rw [cst cw F hR, hc cw hC, Option.bind_some]
        show (if (3 : Int32) = 0 then _ else B_X5_carryOutAll_57 (pI (pI cw 0 10 (nI why)) 0 11 det) 3) = _
        rw [if_neg (by decide)]
      · obtain ⟨F, rfl⟩ : ∃ F', F = F' + 1 := ⟨F - 1, by omega⟩
        refine ⟨mw, tm 3, ht, ?_, Kf.rf⟩
        rw [mst mw F hR, hm mw hM, Option.bind_some, Option.bind_some]
        show (if gI (pI (pI (pI (pI mw 26 9 (nI why)) 26 10 det) 26 14 (tm 3)) 26 11 1) 26 14 = 0 then _ else B_X6_run_162 (pI (pI (pI (pI mw 26 9 (nI why)) 26 10 det) 26 14 (tm 3)) 26 11 1) 0) = _
        rw [if_neg]
        rw [gI_pI, if_neg (by omega), pI_same]
        exact ht
end RUN
