/-! MORE CASES THAT ONLY READ; loops by an invariant -/
section JI
variable {A B C D ρ : Type}
theorem jl1_iv {f : (A → Option ρ) → A → Option ρ} {P : Nat → A → Prop} {Qr : Option ρ → Prop} (m : Nat) (hs : ∀ k, k < m → ∀ a, P k a → (∃ a', P (k + 1) a' ∧ ∀ K, f K a = K a') ∨ ∀ K, Qr (f K a)) (he : ∀ a, P m a → ∀ K, Qr (f K a)) : ∀ (d k F : Nat) (a : A), k + d = m → d < F → P k a → Qr (jl1 f F a)
  | 0, k, F + 1, a, hk, _, hP => he a (by rw [← show k = m by omega]; exact hP) _
  | d + 1, k, F + 1, a, hk, hF, hP => by
    show Qr (f (jl1 f F) a)
    rcases hs k (by omega) a hP with ⟨a', h1, h2⟩ | h
    · rw [h2]
      exact jl1_iv m hs he d (k + 1) F a' (by omega) (by omega) h1
    · exact h _
theorem jl2_iv {f : (A → B → Option ρ) → A → B → Option ρ} {P : Nat → A → B → Prop} {Qr : Option ρ → Prop} (m : Nat) (hs : ∀ k, k < m → ∀ a b, P k a b → (∃ a' b', P (k + 1) a' b' ∧ ∀ K, f K a b = K a' b') ∨ ∀ K, Qr (f K a b)) (he : ∀ a b, P m a b → ∀ K, Qr (f K a b)) : ∀ (d k F : Nat) (a : A) (b : B), k + d = m → d < F → P k a b → Qr (jl2 f F a b)
  | 0, k, F + 1, a, b, hk, _, hP => he a b (by rw [← show k = m by omega]; exact hP) _
  | d + 1, k, F + 1, a, b, hk, hF, hP => by
    show Qr (f (jl2 f F) a b)
    rcases hs k (by omega) a b hP with ⟨a', b', h1, h2⟩ | h
    · rw [h2]
      exact jl2_iv m hs he d (k + 1) F a' b' (by omega) (by omega) h1
    · exact h _
theorem jl3_iv {f : (A → B → C → Option ρ) → A → B → C → Option ρ} {P : Nat → A → B → C → Prop} {Qr : Option ρ → Prop} (m : Nat) (hs : ∀ k, k < m → ∀ a b c, P k a b c → (∃ a' b' c', P (k + 1) a' b' c' ∧ ∀ K, f K a b c = K a' b' c') ∨ ∀ K, Qr (f K a b c)) (he : ∀ a b c, P m a b c → ∀ K, Qr (f K a b c)) : ∀ (d k F : Nat) (a : A) (b : B) (c : C), k + d = m → d < F → P k a b c → Qr (jl3 f F a b c)
  | 0, k, F + 1, a, b, c, hk, _, hP => he a b c (by rw [← show k = m by omega]; exact hP) _
  | d + 1, k, F + 1, a, b, c, hk, hF, hP => by
    show Qr (f (jl3 f F) a b c)
    rcases hs k (by omega) a b c hP with ⟨a', b', c', h1, h2⟩ | h
    · rw [h2]
      exact jl3_iv m hs he d (k + 1) F a' b' c' (by omega) (by omega) h1
    · exact h _
theorem jl4_iv {f : (A → B → C → D → Option ρ) → A → B → C → D → Option ρ} {P : Nat → A → B → C → D → Prop} {Qr : Option ρ → Prop} (m : Nat) (hs : ∀ k, k < m → ∀ a b c d, P k a b c d → (∃ a' b' c' d', P (k + 1) a' b' c' d' ∧ ∀ K, f K a b c d = K a' b' c' d') ∨ ∀ K, Qr (f K a b c d)) (he : ∀ a b c d, P m a b c d → ∀ K, Qr (f K a b c d)) : ∀ (n k F : Nat) (a : A) (b : B) (c : C) (d : D), k + n = m → n < F → P k a b c d → Qr (jl4 f F a b c d)
  | 0, k, F + 1, a, b, c, d, hk, _, hP => he a b c d (by rw [← show k = m by omega]; exact hP) _
  | n + 1, k, F + 1, a, b, c, d, hk, hF, hP => by
    show Qr (f (jl4 f F) a b c d)
    rcases hs k (by omega) a b c d hP with ⟨a', b', c', d', h1, h2⟩ | h
    · rw [h2]
      exact jl4_iv m hs he n (k + 1) F a' b' c' d' (by omega) (by omega) h1
    · exact h _
end JI
theorem jl1_inv {A ρ : Type} {f : (A → Option ρ) → A → Option ρ} {P : Nat → A → Prop} {Qr : Option ρ → Prop} (m : Nat) (hm : m < fu) (hs : ∀ k, k < m → ∀ a, P k a → (∃ a', P (k + 1) a' ∧ ∀ K, f K a = K a') ∨ ∀ K, Qr (f K a)) (he : ∀ a, P m a → ∀ K, Qr (f K a)) {a : A} (h0 : P 0 a) : Qr (jl1 f fu a) := jl1_iv m hs he m 0 fu a (by omega) hm h0
theorem jl2_inv {A B ρ : Type} {f : (A → B → Option ρ) → A → B → Option ρ} {P : Nat → A → B → Prop} {Qr : Option ρ → Prop} (m : Nat) (hm : m < fu) (hs : ∀ k, k < m → ∀ a b, P k a b → (∃ a' b', P (k + 1) a' b' ∧ ∀ K, f K a b = K a' b') ∨ ∀ K, Qr (f K a b)) (he : ∀ a b, P m a b → ∀ K, Qr (f K a b)) {a : A} {b : B} (h0 : P 0 a b) : Qr (jl2 f fu a b) := jl2_iv m hs he m 0 fu a b (by omega) hm h0
theorem jl3_inv {A B C ρ : Type} {f : (A → B → C → Option ρ) → A → B → C → Option ρ} {P : Nat → A → B → C → Prop} {Qr : Option ρ → Prop} (m : Nat) (hm : m < fu) (hs : ∀ k, k < m → ∀ a b c, P k a b c → (∃ a' b' c', P (k + 1) a' b' c' ∧ ∀ K, f K a b c = K a' b' c') ∨ ∀ K, Qr (f K a b c)) (he : ∀ a b c, P m a b c → ∀ K, Qr (f K a b c)) {a : A} {b : B} {c : C} (h0 : P 0 a b c) : Qr (jl3 f fu a b c) := jl3_iv m hs he m 0 fu a b c (by omega) hm h0
theorem jl4_inv {A B C D ρ : Type} {f : (A → B → C → D → Option ρ) → A → B → C → D → Option ρ} {P : Nat → A → B → C → D → Prop} {Qr : Option ρ → Prop} (m : Nat) (hm : m < fu) (hs : ∀ k, k < m → ∀ a b c d, P k a b c d → (∃ a' b' c' d', P (k + 1) a' b' c' d' ∧ ∀ K, f K a b c d = K a' b' c' d') ∨ ∀ K, Qr (f K a b c d)) (he : ∀ a b c d, P m a b c d → ∀ K, Qr (f K a b c d)) {a : A} {b : B} {c : C} {d : D} (h0 : P 0 a b c d) : Qr (jl4 f fu a b c d) := jl4_iv m hs he m 0 fu a b c d (by omega) hm h0
theorem mo_fails {A : Abs} {n : Int32} {FM : Wo → Option (Int32 × Wo)} (h : ∀ u, MI u A → FM u = (F_X6_fails u n).bind fun q => some (q.1, q.2)) : MO A A n 0 FM := by
  intro u hu
  have hk : Kf [] [11, 14] u (pI (pI u 26 14 n) 26 11 0) := (Kf.p26 (D := []) (F := [14]) (by decide)).tr (Kf.p26 (D := []) (F := [11]) (by decide)) (by decide) (by decide) (by decide) (by decide)
  exact ⟨_, (h u hu).trans rfl, rfl, hk.mi (by decide) (by decide) (by decide) hu, hk.agc (by decide), hk.2.1⟩
theorem mo_done {A : Abs} {v : Int32} {FM : Wo → Option (Int32 × Wo)} (h : ∀ u, MI u A → ∃ u2, FM u = ((F_X6_done u2 v).bind fun q => some (q.1, q.2)) ∧ Kf [33, 34] [11, 14, 17] u u2) : MO A A 0 v FM := by
  intro u hu
  obtain ⟨u2, h1, h2⟩ := h u hu
  have hk : Kf [33, 34] [11, 14, 17] u (pI u2 26 14 0) := h2.tr (Kf.p26 (D := []) (F := [14]) (by decide)) (by decide) (by decide) (by decide) (by decide)
  exact ⟨_, h1.trans rfl, rfl, hk.mi (by decide) (by decide) (by decide) hu, hk.agc (by decide), hk.2.1⟩
theorem wyC_0 : wyC 0 = -1 := rfl
theorem K_31 {w : Wo} (hI : Inv w) (x1 x2 x3 : Int32) : ∃ w', F_K_31 w x1 x2 x3 = some w' ∧ Inv w' := by
  obtain ⟨A, hA, hC, hM⟩ := hI
  have h6 := hA.2.2.2.2.2.2.1
  obtain ⟨hr, hdt⟩ := hC.2.2.2.2.2.1
  have key : ∀ y : Int32, ∃ w', ((F_L_refusal w y).bind fun q1 => ((F_X6_refusal q1.2 y).bind fun q2 => (jchk ((F_X6_thrown q2.2) = q1.1) (jchk (q1.1 = 0 → (lg_cmp (gL q2.2 36 0) (ji2l q2.1)) = 0) (some q2.2))))) = some w' ∧ Inv w' := by
    intro y
    by_cases h0 : A.wy = 0
    · rw [h0] at hr
      refine fin_i (FL := F_L_refusal w y) (FM := fun u => F_X6_refusal u y) (k := 1) (v := 0) hM hA ?_ hC AgM.rf (mo_fails fun u hu => ?_)
      · unfold F_L_refusal F_X5_refusal
        rw [hr, if_neg (by decide)]
        rfl
      · show F_X6_refusal u y = _
        have e := hu.2.2.2.2.2.1.1
        rw [h0] at e
        unfold F_X6_refusal
        rw [e, if_pos (show nI 0 = 0 from rfl)]
    · have hr2 : gI w 0 10 = nI A.wy := by rw [hr, wyC, if_neg h0]
      have hd2 := hdt h0
      by_cases hy : y = 0
      · refine fin_i (FL := F_L_refusal w y) (FM := fun u => F_X6_refusal u y) (k := 0) (v := nI A.wy) hM hA ?_ hC AgM.rf (mo_done fun u hu => ⟨u, ?_, Kf.rf⟩)
        · unfold F_L_refusal F_X5_refusal
          rw [hr2, if_pos (nI_pos' (by omega)), if_pos hy]
          rfl
        · show F_X6_refusal u y = _
          unfold F_X6_refusal B_X6_refusal_31
          rw [hu.2.2.2.2.2.1.1, if_neg (nI_ne0 (by omega) (by omega)), if_pos hy]
      · refine fin_i (FL := F_L_refusal w y) (FM := fun u => F_X6_refusal u y) (k := 0) (v := A.dt) hM hA ?_ hC AgM.rf (mo_done fun u hu => ⟨u, ?_, Kf.rf⟩)
        · unfold F_L_refusal F_X5_refusal
          rw [hr2, hd2, if_pos (nI_pos' (by omega)), if_neg hy]
          rfl
        · show F_X6_refusal u y = _
          unfold F_X6_refusal B_X6_refusal_31
          rw [hu.2.2.2.2.2.1.1, hu.2.2.2.2.2.1.2 h0, if_neg (nI_ne0 (by omega) (by omega)), if_neg hy]
  unfold F_K_31
  by_cases h : x1 = 0
  · rw [if_pos h]
    exact key 0
  · rw [if_neg h]
    exact key 1
theorem K_32 {w : Wo} (hI : Inv w) (x1 x2 x3 : Int32) : ∃ w', F_K_32 w x1 x2 x3 = some w' ∧ Inv w' := by
  obtain ⟨A, hA, hC, hM⟩ := hI
  have hB := hA.1
  by_cases h0 : x1 = 0
  · subst h0
    refine fin_i (FL := F_L_account w 0) (FM := fun u => F_X6_account u 0) (k := 0) (v := nI A.B.n) hM hA ?_ hC AgM.rf (mo_done fun u hu => ⟨u, ?_, Kf.rf⟩)
    · unfold F_L_account F_X5_account
      rw [if_pos rfl, c_places hB hC.1]
      rfl
    · show F_X6_account u 0 = _
      unfold F_X6_account
      rw [if_pos rfl, m_places hu.1, Option.bind_some]
  by_cases h1 : x1 = 1
  · subst h1
    refine fin_i (FL := F_L_account w 1) (FM := fun u => F_X6_account u 1) (k := 0) (v := nI (cnt A.B.bar 6)) hM hA ?_ hC AgM.rf (mo_done fun u hu => ⟨u, ?_, Kf.rf⟩)
    · unfold F_L_account F_X5_account
      rw [if_neg (by decide), if_pos rfl, c_barred hB hC.1]
      rfl
    · show F_X6_account u 1 = _
      unfold F_X6_account
      rw [if_neg (by decide), if_pos rfl, m_barred hB hu.1, Option.bind_some]
  by_cases h2 : x1 = 2
  · subst h2
    refine fin_i (FL := F_L_account w 2) (FM := fun u => F_X6_account u 2) (k := 0) (v := A.B.cn 2) hM hA ?_ hC AgM.rf (mo_done fun u hu => ⟨u, ?_, Kf.rf⟩)
    · unfold F_L_account F_X5_account
      rw [if_neg (by decide), if_neg (by decide), if_pos rfl, show gI w 1 5 = A.B.cn 2 from hC.1.2.2.2.2.2 2 (by decide) (by decide)]
      rfl
    · show F_X6_account u 2 = _
      unfold F_X6_account
      rw [if_neg (by decide), if_neg (by decide), if_pos rfl, jchk_pos (by decide), show gI u 27 (Int32.toNatClampNeg 2) = A.B.cn 2 from (hu.1.2.2.2.2.2 2 (by decide) (by decide))]
  by_cases h3 : x1 = 3
  · subst h3
    refine fin_i (FL := F_L_account w 3) (FM := fun u => F_X6_account u 3) (k := 0) (v := A.B.cn 3) hM hA ?_ hC AgM.rf (mo_done fun u hu => ⟨u, ?_, Kf.rf⟩)
    · unfold F_L_account F_X5_account
      rw [if_neg (by decide), if_neg (by decide), if_neg (by decide), if_pos rfl, show gI w 1 6 = A.B.cn 3 from hC.1.2.2.2.2.2 3 (by decide) (by decide)]
      rfl
    · show F_X6_account u 3 = _
      unfold F_X6_account
      rw [if_neg (by decide), if_neg (by decide), if_neg (by decide), if_pos rfl, jchk_pos (by decide), show gI u 27 (Int32.toNatClampNeg 3) = A.B.cn 3 from (hu.1.2.2.2.2.2 3 (by decide) (by decide))]
  by_cases h4 : x1 = 4
  · subst h4
    refine fin_i (FL := F_L_account w 4) (FM := fun u => F_X6_account u 4) (k := 0) (v := A.B.cn 4) hM hA ?_ hC AgM.rf (mo_done fun u hu => ⟨u, ?_, Kf.rf⟩)
    · unfold F_L_account F_X5_account
      rw [if_neg (by decide), if_neg (by decide), if_neg (by decide), if_neg (by decide), if_pos rfl, show gI w 1 7 = A.B.cn 4 from hC.1.2.2.2.2.2 4 (by decide) (by decide)]
      rfl
    · show F_X6_account u 4 = _
      unfold F_X6_account
      rw [if_neg (by decide), if_neg (by decide), if_neg (by decide), if_neg (by decide), if_pos rfl, jchk_pos (by decide), show gI u 27 (Int32.toNatClampNeg 4) = A.B.cn 4 from (hu.1.2.2.2.2.2 4 (by decide) (by decide))]
  by_cases h5 : x1 = 5
  · subst h5
    refine fin_i (FL := F_L_account w 5) (FM := fun u => F_X6_account u 5) (k := 0) (v := A.B.cn 5) hM hA ?_ hC AgM.rf (mo_done fun u hu => ⟨u, ?_, Kf.rf⟩)
    · unfold F_L_account F_X5_account
      rw [if_neg (by decide), if_neg (by decide), if_neg (by decide), if_neg (by decide), if_neg (by decide), if_pos rfl, show gI w 1 8 = A.B.cn 5 from hC.1.2.2.2.2.2 5 (by decide) (by decide)]
      rfl
    · show F_X6_account u 5 = _
      unfold F_X6_account
      rw [if_neg (by decide), if_neg (by decide), if_neg (by decide), if_neg (by decide), if_neg (by decide), if_pos rfl, jchk_pos (by decide), show gI u 27 (Int32.toNatClampNeg 5) = A.B.cn 5 from (hu.1.2.2.2.2.2 5 (by decide) (by decide))]
  by_cases h6 : x1 = 6
  · subst h6
    refine fin_i (FL := F_L_account w 6) (FM := fun u => F_X6_account u 6) (k := 0) (v := A.B.cn 6) hM hA ?_ hC AgM.rf (mo_done fun u hu => ⟨u, ?_, Kf.rf⟩)
    · unfold F_L_account F_X5_account
      rw [if_neg (by decide), if_neg (by decide), if_neg (by decide), if_neg (by decide), if_neg (by decide), if_neg (by decide), if_pos rfl, show gI w 1 9 = A.B.cn 6 from hC.1.2.2.2.2.2 6 (by decide) (by decide)]
      rfl
    · show F_X6_account u 6 = _
      unfold F_X6_account
      rw [if_neg (by decide), if_neg (by decide), if_neg (by decide), if_neg (by decide), if_neg (by decide), if_neg (by decide), if_pos rfl, jchk_pos (by decide), show gI u 27 (Int32.toNatClampNeg 6) = A.B.cn 6 from (hu.1.2.2.2.2.2 6 (by decide) (by decide))]
  by_cases h7 : x1 = 7
  · subst h7
    refine fin_i (FL := F_L_account w 7) (FM := fun u => F_X6_account u 7) (k := 0) (v := A.B.cn 7) hM hA ?_ hC AgM.rf (mo_done fun u hu => ⟨u, ?_, Kf.rf⟩)
    · unfold F_L_account F_X5_account
      rw [if_neg (by decide), if_neg (by decide), if_neg (by decide), if_neg (by decide), if_neg (by decide), if_neg (by decide), if_neg (by decide), if_pos rfl, show gI w 1 10 = A.B.cn 7 from hC.1.2.2.2.2.2 7 (by decide) (by decide)]
      rfl
    · show F_X6_account u 7 = _
      unfold F_X6_account
      rw [if_neg (by decide), if_neg (by decide), if_neg (by decide), if_neg (by decide), if_neg (by decide), if_neg (by decide), if_neg (by decide), if_pos rfl, jchk_pos (by decide), show gI u 27 (Int32.toNatClampNeg 7) = A.B.cn 7 from (hu.1.2.2.2.2.2 7 (by decide) (by decide))]
  by_cases h8 : x1 = 8
  · subst h8
    refine fin_i (FL := F_L_account w 8) (FM := fun u => F_X6_account u 8) (k := 0) (v := nI A.tl) hM hA ?_ hC AgM.rf (mo_done fun u hu => ⟨u, ?_, Kf.rf⟩)
    · unfold F_L_account F_X5_account
      rw [if_neg (by decide), if_neg (by decide), if_neg (by decide), if_neg (by decide), if_neg (by decide), if_neg (by decide), if_neg (by decide), if_neg (by decide), if_pos rfl, hC.2.2.2.1.1]
      rfl
    · show F_X6_account u 8 = _
      unfold F_X6_account
      rw [if_neg (by decide), if_neg (by decide), if_neg (by decide), if_neg (by decide), if_neg (by decide), if_neg (by decide), if_neg (by decide), if_neg (by decide), if_pos rfl, hu.2.2.2.1.1]
  by_cases h9 : x1 = 9
  · subst h9
    refine fin_i (FL := F_L_account w 9) (FM := fun u => F_X6_account u 9) (k := 0) (v := nI A.ct) hM hA ?_ hC AgM.rf (mo_done fun u hu => ⟨u, ?_, Kf.rf⟩)
    · unfold F_L_account F_X5_account
      obtain ⟨nx, -, -, hCt, -⟩ := hC.2.2.1
      rw [if_neg (by decide), if_neg (by decide), if_neg (by decide), if_neg (by decide), if_neg (by decide), if_neg (by decide), if_neg (by decide), if_neg (by decide), if_neg (by decide), if_pos rfl, hCt]
      rfl
    · show F_X6_account u 9 = _
      unfold F_X6_account
      rw [if_neg (by decide), if_neg (by decide), if_neg (by decide), if_neg (by decide), if_neg (by decide), if_neg (by decide), if_neg (by decide), if_neg (by decide), if_neg (by decide), if_pos rfl, hu.2.2.1.1]
  refine fin_i (FL := F_L_account w x1) (FM := fun u => F_X6_account u x1) (k := 1) (v := 0) hM hA ?_ hC AgM.rf (mo_fails fun u hu => ?_)
  · unfold F_L_account F_X5_account
    rw [if_neg h0, if_neg h1, if_neg h2, if_neg h3, if_neg h4, if_neg h5, if_neg h6, if_neg h7, if_neg h8, if_neg h9]
    rfl
  · show F_X6_account u x1 = _
    unfold F_X6_account
    rw [if_neg h0, if_neg h1, if_neg h2, if_neg h3, if_neg h4, if_neg h5, if_neg h6, if_neg h7, if_neg h8, if_neg h9]
theorem mul2 (n : Nat) : (2 : Int32) * nI n = nI (2 * n) := pk_mul 2 n
theorem vows_all {B : Bd} (hB : B.ok) : sumN (vows B) B.r = times B.cell B.n 0 + times B.cell B.n 4 + times B.cell B.n 8 := by
  have h3 : times B.cell B.n 0 + times B.cell B.n 4 + times B.cell B.n 8 = cnt (fun p => isVow (B.cell p)) B.n := by
    unfold times
    generalize B.n = n
    induction n with
    | zero => rfl
    | succ n ih =>
      show (cnt (fun p => B.cell p == 0) n + (if (B.cell n == 0) = true then 1 else 0)) + (cnt (fun p => B.cell p == 4) n + (if (B.cell n == 4) = true then 1 else 0)) + (cnt (fun p => B.cell p == 8) n + (if (B.cell n == 8) = true then 1 else 0)) = cnt (fun p => isVow (B.cell p)) n + (if isVow (B.cell n) = true then 1 else 0)
      rw [← ih]
      unfold isVow
      by_cases a : B.cell n = 0
      · simp [a]; omega
      · by_cases b : B.cell n = 4
        · simp [b]; omega
        · by_cases c : B.cell n = 8
          · simp [c]; omega
          · simp [a, b, c]
  have hv : ∀ l, l < B.r → vows B l = cnt (fun i => isVow (B.cell (l * B.c + i))) B.c := by
    intro l hl
    unfold vows vowOn lenB pl
    rw [if_pos hl]
    refine cnt_congr (fun k _ => ?_)
    rw [if_pos hl]
  have hs : ∀ q : Nat → Bool, ∀ c r, sumN (fun l => cnt (fun i => q (l * c + i)) c) r = cnt q (r * c) := by
    intro q c r
    have hc : ∀ a b, cnt q (a + b) = cnt q a + cnt (fun i => q (a + i)) b := by
      intro a b
      induction b with
      | zero => rfl
      | succ b ih =>
        show cnt q (a + b) + (if q (a + b) = true then 1 else 0) = cnt q a + (cnt (fun i => q (a + i)) b + (if q (a + b) = true then 1 else 0))
        rw [ih]
        omega
    induction r with
    | zero => rw [Nat.zero_mul]; rfl
    | succ r ih =>
      rw [Nat.succ_mul, hc, ← ih]
      rfl
  have hsum : ∀ (f g : Nat → Nat) n, (∀ l, l < n → f l = g l) → sumN f n = sumN g n := by
    intro f g n
    induction n with
    | zero => intro _; rfl
    | succ n ih =>
      intro h
      unfold sumN
      rw [ih (fun l hl => h l (by omega)), h n (by omega)]
  rw [h3, hsum _ _ _ hv]
  exact hs (fun p => isVow (B.cell p)) B.c B.r
theorem K_11 {w : Wo} (hI : Inv w) (x1 x2 x3 : Int32) : ∃ w', F_K_11 w x1 x2 x3 = some w' ∧ Inv w' := by
  obtain ⟨A, hA, hC, hM⟩ := hI
  have hB := hA.1
  have hd := dims hB
  have hbar : cnt A.B.bar 6 ≤ A.B.r + A.B.c := by
    have h6 : ∀ m, A.B.r + A.B.c ≤ m → cnt A.B.bar m = cnt A.B.bar (A.B.r + A.B.c) := by
      intro m hm
      obtain ⟨d, rfl⟩ : ∃ d, m = A.B.r + A.B.c + d := ⟨m - (A.B.r + A.B.c), by omega⟩
      clear hm
      induction d with
      | zero => rfl
      | succ d ih =>
        rw [show A.B.r + A.B.c + (d + 1) = (A.B.r + A.B.c + d) + 1 by omega, cnt_no (by rw [hB.2.2.2.2 _ (by omega)]; decide), ih]
    rw [h6 6 (by omega)]
    exact cnt_le _ _
  have hu3 := unlike_le A.B
  by_cases h0 : x1 = 0
  · subst h0
    refine fin_i (FL := F_L_boardOf w 0) (FM := fun u => F_X6_boardOf u 0) (k := 0) (v := nI A.B.r) hM hA ?_ hC AgM.rf (RO.mo (ro_done fun u hu => ⟨u, ?_, Kf.rf⟩))
    · unfold F_L_boardOf F_X5_boardOf
      rw [if_pos rfl, hC.1.1]
      rfl
    · show F_X6_boardOf u 0 = _
      unfold F_X6_boardOf
      rw [if_pos rfl, jchk_pos (by decide), show gI u 27 (Int32.toNatClampNeg 0) = nI A.B.r from hu.1]
  by_cases h1 : x1 = 1
  · subst h1
    refine fin_i (FL := F_L_boardOf w 1) (FM := fun u => F_X6_boardOf u 1) (k := 0) (v := nI A.B.c) hM hA ?_ hC AgM.rf (RO.mo (ro_done fun u hu => ⟨u, ?_, Kf.rf⟩))
    · unfold F_L_boardOf F_X5_boardOf
      rw [if_neg (by decide), if_pos rfl, hC.1.2.1]
      rfl
    · show F_X6_boardOf u 1 = _
      unfold F_X6_boardOf
      rw [if_neg (by decide), if_pos rfl, jchk_pos (by decide), show gI u 27 (Int32.toNatClampNeg 1) = nI A.B.c from hu.2.1]
  by_cases h2 : x1 = 2
  · subst h2
    refine fin_i (FL := F_L_boardOf w 2) (FM := fun u => F_X6_boardOf u 2) (k := 0) (v := nI (2 * (A.B.r + A.B.c))) hM hA ?_ hC AgM.rf (RO.mo (ro_done fun u hu => ⟨u, ?_, Kf.rf⟩))
    · unfold F_L_boardOf F_X5_boardOf
      rw [if_neg (by decide), if_neg (by decide), if_pos rfl, c_turns hB hC.1]
      rfl
    · show F_X6_boardOf u 2 = _
      unfold F_X6_boardOf
      rw [if_neg (by decide), if_neg (by decide), if_pos rfl, m_lines hu, Option.bind_some, mul2]
  by_cases h3 : x1 = 3
  · subst h3
    refine fin_i (FL := F_L_boardOf w 3) (FM := fun u => F_X6_boardOf u 3) (k := 0) (v := nI (2 * (A.B.r + A.B.c - cnt A.B.bar 6))) hM hA ?_ hC AgM.rf (RO.mo (ro_done fun u hu => ⟨u, ?_, Kf.rf⟩))
    · unfold F_L_boardOf F_X5_boardOf
      rw [if_neg (by decide), if_neg (by decide), if_neg (by decide), if_pos rfl, c_turns hB hC.1, c_barred hB hC.1, mul2, pk_sub (by omega), ← Nat.mul_sub]
      rfl
    · show F_X6_boardOf u 3 = _
      unfold F_X6_boardOf
      rw [if_neg (by decide), if_neg (by decide), if_neg (by decide), if_pos rfl, m_lines hu, Option.bind_some, m_barred hB hu, Option.bind_some, pk_sub hbar, mul2]
  by_cases h4 : x1 = 4
  · subst h4
    refine fin_i (FL := F_L_boardOf w 4) (FM := fun u => F_X6_boardOf u 4) (k := 0) (v := nI (unlike A.B)) hM hA ?_ hC AgM.rf (RO.mo (ro_done fun u hu => ⟨u, ?_, Kf.rf⟩))
    · unfold F_L_boardOf F_X5_boardOf
      rw [if_neg (by decide), if_neg (by decide), if_neg (by decide), if_neg (by decide), if_pos rfl, c_unlike hB hC.1]
      rfl
    · show F_X6_boardOf u 4 = _
      unfold F_X6_boardOf
      rw [if_neg (by decide), if_neg (by decide), if_neg (by decide), if_neg (by decide), if_pos rfl, m_unlike hB hu, Option.bind_some]
  by_cases h5 : x1 = 5
  · subst h5
    refine fin_i (FL := F_L_boardOf w 5) (FM := fun u => F_X6_boardOf u 5) (k := 0) (v := nI (sumN (vows A.B) A.B.r)) hM hA ?_ hC AgM.rf (RO.mo (ro_done fun u hu => ⟨u, ?_, Kf.rf⟩))
    · unfold F_L_boardOf F_X5_boardOf
      rw [if_neg (by decide), if_neg (by decide), if_neg (by decide), if_neg (by decide), if_neg (by decide), if_pos rfl, c_vowels hB hC.1]
      rfl
    · show F_X6_boardOf u 5 = _
      unfold F_X6_boardOf
      rw [if_neg (by decide), if_neg (by decide), if_neg (by decide), if_neg (by decide), if_neg (by decide), if_pos rfl, show F_X6_timesOf u 14 0 = _ from m_tcell (v := 0) hB hu (by omega), Option.bind_some, show F_X6_timesOf u 14 4 = _ from m_tcell (v := 4) hB hu (by omega), Option.bind_some, show F_X6_timesOf u 14 8 = _ from m_tcell (v := 8) hB hu (by omega), Option.bind_some, ofs, ofs, ← vows_all hB]
  by_cases h6 : x1 = 6
  · subst h6
    refine fin_i (FL := F_L_boardOf w 6) (FM := fun u => F_X6_boardOf u 6) (k := 0) (v := nI (times A.B.goal A.B.n 12)) hM hA ?_ hC AgM.rf (RO.mo (ro_done fun u hu => ⟨u, ?_, Kf.rf⟩))
    · unfold F_L_boardOf F_X5_boardOf
      rw [if_neg (by decide), if_neg (by decide), if_neg (by decide), if_neg (by decide), if_neg (by decide), if_neg (by decide), if_pos rfl, L12, c_count hB hC.1 hC.1.2.2.2.1 (by omega)]
      rfl
    · show F_X6_boardOf u 6 = _
      unfold F_X6_boardOf
      rw [if_neg (by decide), if_neg (by decide), if_neg (by decide), if_neg (by decide), if_neg (by decide), if_neg (by decide), if_pos rfl, m_tfree hB hu, Option.bind_some]
  refine fin_i (FL := F_L_boardOf w x1) (FM := fun u => F_X6_boardOf u x1) (k := 1) (v := 0) hM hA ?_ hC AgM.rf (RO.mo (ro_fails fun u hu => ?_))
  · unfold F_L_boardOf F_X5_boardOf
    rw [if_neg h0, if_neg h1, if_neg h2, if_neg h3, if_neg h4, if_neg h5, if_neg h6]
    rfl
  · show F_X6_boardOf u x1 = _
    unfold F_X6_boardOf
    rw [if_neg h0, if_neg h1, if_neg h2, if_neg h3, if_neg h4, if_neg h5, if_neg h6]
