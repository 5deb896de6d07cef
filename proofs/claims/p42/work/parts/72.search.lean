/-! THE SHORTEST WAY, as the reference finds it, and as the class does -/
theorem jl3_ivK {A B C ρ : Type} {f : (A → B → C → Option ρ) → A → B → C → Option ρ} {P : Nat → A → B → C → Prop} {Qr : Option ρ → Prop} (m : Nat) (hs : ∀ k, k < m → ∀ a b c, P k a b c → ∀ K, (∃ a' b' c', P (k + 1) a' b' c' ∧ f K a b c = K a' b' c') ∨ Qr (f K a b c)) (he : ∀ a b c, P m a b c → ∀ K, Qr (f K a b c)) : ∀ (d k F : Nat) (a : A) (b : B) (c : C), k + d = m → d < F → P k a b c → Qr (jl3 f F a b c)
  | 0, k, F + 1, a, b, c, hk, _, hP => he a b c (by rw [← show k = m by omega]; exact hP) _
  | d + 1, k, F + 1, a, b, c, hk, hF, hP => by
    show Qr (f (jl3 f F) a b c)
    rcases hs k (by omega) a b c hP (jl3 f F) with ⟨a', b', c', h1, h2⟩ | h
    · rw [h2]
      exact jl3_ivK m hs he d (k + 1) F a' b' c' (by omega) (by omega) h1
    · exact h
theorem jl2_ivK {A B ρ : Type} {f : (A → B → Option ρ) → A → B → Option ρ} {P : Nat → A → B → Prop} {Qr : Option ρ → Prop} (m : Nat) (hs : ∀ k, k < m → ∀ a b, P k a b → ∀ K, (∃ a' b', P (k + 1) a' b' ∧ f K a b = K a' b') ∨ Qr (f K a b)) (he : ∀ a b, P m a b → ∀ K, Qr (f K a b)) : ∀ (d k F : Nat) (a : A) (b : B), k + d = m → d < F → P k a b → Qr (jl2 f F a b)
  | 0, k, F + 1, a, b, hk, _, hP => he a b (by rw [← show k = m by omega]; exact hP) _
  | d + 1, k, F + 1, a, b, hk, hF, hP => by
    show Qr (f (jl2 f F) a b)
    rcases hs k (by omega) a b hP (jl2 f F) with ⟨a', b', h1, h2⟩ | h
    · rw [h2]
      exact jl2_ivK m hs he d (k + 1) F a' b' (by omega) (by omega) h1
    · exact h
/-! turns that are open, by number -/
theorem cnt_mon (q : Nat → Bool) {a b : Nat} (h : a ≤ b) : cnt q a ≤ cnt q b := by
  induction b with
  | zero => rw [show a = 0 by omega]; exact Nat.le_refl _
  | succ b ih =>
    rcases Nat.lt_or_ge b a with h1 | h1
    · rw [show a = b + 1 by omega]; exact Nat.le_refl _
    · have := ih h1
      show cnt q a ≤ cnt q b + (if q b = true then 1 else 0)
      omega
theorem cnt_lt_at {q : Nat → Bool} {a b : Nat} (h : a < b) (hq : q a = true) : cnt q a < cnt q b := by
  have := cnt_mon q (a := a + 1) (b := b) h
  rw [cnt_yes hq] at this
  omega
theorem cnt_surj {q : Nat → Bool} : ∀ {n k : Nat}, k < cnt q n → ∃ t, t < n ∧ q t = true ∧ cnt q t = k
  | 0, k, h => absurd h (Nat.not_lt_zero k)
  | n + 1, k, h => by
    by_cases hq : q n = true
    · rw [cnt_yes hq] at h
      rcases Nat.lt_or_ge k (cnt q n) with h1 | h1
      · obtain ⟨t, a, b, c⟩ := cnt_surj h1
        exact ⟨t, by omega, b, c⟩
      · exact ⟨n, by omega, hq, by omega⟩
    · rw [cnt_no hq] at h
      obtain ⟨t, a, b, c⟩ := cnt_surj h
      exact ⟨t, by omega, b, c⟩
theorem en_exb {o P Q : Nat → Bool} {T : Nat} (h : ∀ t, t < T → o t = true → Q (cnt o t) = P t) : exb Q (cnt o T) = exb (fun t => o t && P t) T := by
  by_cases e : exb (fun t => o t && P t) T = true
  · rw [e]
    obtain ⟨t, h1, h2⟩ := exb_iff.mp e
    rw [Bool.and_eq_true] at h2
    exact exb_iff.mpr ⟨cnt o t, cnt_lt_at h1 h2.1, by rw [h t h1 h2.1]; exact h2.2⟩
  · rw [Bool.not_eq_true] at e
    rw [e]
    refine exb_false.mpr (fun k hk => ?_)
    obtain ⟨t, a, b, c⟩ := cnt_surj hk
    have := exb_false.mp e t a
    rw [b, Bool.true_and] at this
    rw [← c, h t a b]
    exact this
theorem en_fst {o P Q : Nat → Bool} {T : Nat} (h : ∀ t, t < T → o t = true → Q (cnt o t) = P t) (hl : fst1 Q (cnt o T) < cnt o T) : ∃ t, t < T ∧ o t = true ∧ cnt o t = fst1 Q (cnt o T) ∧ fst1 (fun t => o t && P t) T = t := by
  obtain ⟨t, a, b, c⟩ := cnt_surj hl
  refine ⟨t, a, b, c, fst1_eq a ?_ (fun j hj => ?_)⟩
  · have hy := fst1_yes Q _ hl
    rw [← c, h t a b] at hy
    show (o t && P t) = true
    rw [b, hy]
    rfl
  · show (o j && P j) = false
    by_cases ho : o j = true
    · have hlt := cnt_lt_at hj ho
      have hn := fst1_no Q (cnt o T) (cnt o j) (by omega)
      rw [h j (by omega) ho] at hn
      rw [hn, Bool.and_false]
    · rw [Bool.not_eq_true] at ho
      rw [ho]
      rfl
/-! when a board meets a goal -/
theorem lg0 {z : Int64} : lg_cmp z 0 = 0 ↔ z = 0 := by
  unfold lg_cmp
  constructor
  · intro h
    by_cases h2 : z = 0
    · exact h2
    · by_cases h1 : 0 < z
      · rw [if_pos h1] at h
        exact absurd h (by decide)
      · rw [if_neg h1, if_neg h2] at h
        exact absurd h (by decide)
  · intro h
    rw [h]
    decide
theorem nib_0 (q : Nat) : nib 0 q = 0 := nib_of (by decide) (fun i _ => by rw [bq_0, Nat.zero_testBit])
theorem mt_iff {x g c : Int64} (hc : ∀ q, q < 16 → nib c q = 15 ∨ nib c q = 0) : ((x ^^^ g) &&& c = 0) ↔ ∀ q, q < 16 → nib c q = 15 → nib x q = nib g q := by
  have h15 : ∀ i, i < 4 → (15 : Nat).testBit i = true := by decide
  constructor
  · intro h q hq h1
    refine nib_ext (fun i hi => ?_)
    have hb : bq ((x ^^^ g) &&& c) (4 * q + i) = bq 0 (4 * q + i) := by rw [h]
    rw [bq_and, bq_xor, bq_0, ← nib_bit (x := c) hi, h1, h15 i hi, Bool.and_true] at hb
    cases hx : bq x (4 * q + i) <;> cases hg : bq g (4 * q + i) <;> rw [hx, hg] at hb
    · cases hb
    · cases hb
  · intro h
    refine i64_ext (fun q hq => ?_)
    rw [nib_0]
    refine nib_of (by decide) (fun i hi => ?_)
    rw [bq_and, bq_xor, Nat.zero_testBit, ← nib_bit (x := c) hi]
    rcases hc q hq with h1 | h1
    · have h2 := h q hq h1
      have h3 : (nib x q).testBit i = (nib g q).testBit i := by rw [h2]
      rw [nib_bit hi, nib_bit hi] at h3
      rw [h3, Bool.xor_self, Bool.false_and]
    · rw [h1, Nat.zero_testBit, Bool.and_false]
theorem met_iff {B : Bd} {f : Nat → Nat} : met B f = true ↔ ∀ p, p < B.n → B.goal p ≠ 12 → f p = B.goal p := by
  unfold met homes
  rw [decide_eq_true_iff, cnt_full]
  constructor
  · intro h p hp h12
    have := h p hp
    unfold homeq at this
    simp [h12] at this
    exact this.symm
  · intro h p hp
    unfold homeq
    by_cases h12 : B.goal p = 12
    · simp [h12]
    · have := h p hp h12
      simp [this]
/-- the bits of places that matter -/
def Cr (B : Bd) (y : Int64) : Prop := ∀ q, q < 16 → nib y q = if q < B.n ∧ B.goal q ≠ 12 then 15 else 0
theorem mt_0 {w : Wo} {B : Bd} (hB : B.ok) (hC : CB w 1 B) {x y : Int64} {f : Nat → Nat} (hf : ∀ p, p < B.n → nib x p = f p) (hy : Cr B y) : ((x ^^^ gL w 1 3) &&& y = 0) ↔ met B f = true := by
  have hd := dims hB
  rw [mt_iff (fun q hq => by
    rw [hy q hq]
    by_cases h : q < B.n ∧ B.goal q ≠ 12
    · rw [if_pos h]; exact Or.inl rfl
    · rw [if_neg h]; exact Or.inr rfl), met_iff]
  constructor
  · intro h p hp h12
    have := h p (by omega) (by rw [hy p (by omega), if_pos ⟨hp, h12⟩])
    rw [hf p hp, hC.2.2.2.1 p hp] at this
    exact this
  · intro h q hq h1
    rw [hy q hq] at h1
    by_cases h2 : q < B.n ∧ B.goal q ≠ 12
    · rw [hf q h2.1, hC.2.2.2.1 q h2.1]
      exact h q h2.1 h2.2
    · rw [if_neg h2] at h1
      omega
theorem bk_inv {B : Bd} (hB : B.ok) {t q : Nat} (ht : t < Tn B) : bk B.r B.c q (inv t) = if q < B.n then goes B.r B.c q t else q := by
  unfold bk
  rw [(inv_lt hB t ht).2.1]
  rfl
theorem mt_t {w : Wo} {B : Bd} (hB : B.ok) (hC : CB w 1 B) {x y : Int64} {f : Nat → Nat} (hf : ∀ p, p < B.n → nib x p = f p) (hy : Cr B y) {t : Nat} (ht : t < Tn B) : ((x ^^^ tuL B.r B.c (gL w 1 3) (inv t)) &&& tuL B.r B.c y (inv t) = 0) ↔ met B (tn B t f) = true := by
  have hd := dims hB
  have hi : inv t < Tn B := (inv_lt hB t ht).1
  have h1 := (c_tu hB hC (gL w 1 3) hi).2
  have h2 := (c_tu hB hC y hi).2
  have hyt : ∀ q, q < 16 → nib (tuL B.r B.c y (inv t)) q = if q < B.n ∧ B.goal (goes B.r B.c q t) ≠ 12 then 15 else 0 := by
    intro q hq
    rw [h2 q hq, bk_inv hB ht]
    by_cases h : q < B.n
    · have hg : goes B.r B.c q t < B.n := goes_lt hB t ht q h
      rw [if_pos h, hy _ (by omega)]
      by_cases h12 : B.goal (goes B.r B.c q t) ≠ 12
      · rw [if_pos ⟨hg, h12⟩, if_pos ⟨h, h12⟩]
      · rw [if_neg (fun z => h12 z.2), if_neg (fun z => h12 z.2)]
    · rw [if_neg h, hy q hq, if_neg (fun z => h z.1), if_neg (fun z => h z.1)]
  rw [mt_iff (fun q hq => by
    rw [hyt q hq]
    by_cases h : q < B.n ∧ B.goal (goes B.r B.c q t) ≠ 12
    · rw [if_pos h]; exact Or.inl rfl
    · rw [if_neg h]; exact Or.inr rfl), met_iff]
  have hgo : ∀ q, q < B.n → nib (tuL B.r B.c (gL w 1 3) (inv t)) q = B.goal (goes B.r B.c q t) := by
    intro q hq
    have hg : goes B.r B.c q t < B.n := goes_lt hB t ht q hq
    rw [h1 q (by omega), bk_inv hB ht, if_pos hq]
    exact hC.2.2.2.1 _ hg
  constructor
  · intro h p hp h12
    have hb := bk_lt hB ht hp
    have hgb := goes_bk hB ht hp
    have := h (bk B.r B.c p t) (by omega) (by rw [hyt _ (by omega), hgb, if_pos ⟨hb, h12⟩])
    rw [hf _ hb, hgo _ hb, hgb] at this
    exact this
  · intro h q hq h3
    rw [hyt q hq] at h3
    by_cases h4 : q < B.n ∧ B.goal (goes B.r B.c q t) ≠ 12
    · have hg : goes B.r B.c q t < B.n := goes_lt hB t ht q h4.1
      have := h _ hg h4.2
      have eb : bk B.r B.c (goes B.r B.c q t) t = q := (bk_goes hB ht h4.1 (by omega)).mpr rfl
      unfold tn at this
      rw [eb] at this
      rw [hf q h4.1, hgo q h4.1, this]
    · rw [if_neg h4] at h3
      omega
theorem c_cares {w : Wo} {B : Bd} (hB : B.ok) (hC : CB w 1 B) : ∃ y, F_X0_cares w = some y ∧ Cr B y := by
  have hd := dims hB
  unfold F_X0_cares
  refine jl2_inv (P := fun k x b => b = nI k ∧ ∀ q, q < 16 → nib x q = if q < k ∧ B.goal q ≠ 12 then 15 else 0) (Qr := fun r => ∃ y, r = some y ∧ Cr B y) B.n (by rw [fu4]; omega) ?_ ?_ ⟨rfl, fun q hq => by rw [nib_0, if_neg (by omega)]⟩
  · rintro k hk x b ⟨rfl, h⟩
    have hg := hB.2.2.2.1 k hk
    refine Or.inl ?_
    by_cases h12 : B.goal k = 12
    · refine ⟨x, nI (k + 1), ⟨rfl, fun q hq => ?_⟩, fun K => ?_⟩
      · rw [h q hq]
        by_cases e : q = k
        · rw [if_neg (by omega), if_neg (fun z => z.2 (by rw [e]; exact h12))]
        · by_cases e2 : q < k ∧ B.goal q ≠ 12
          · rw [if_pos e2, if_pos ⟨by omega, e2.2⟩]
          · rw [if_neg e2, if_neg (fun z => e2 ⟨by omega, z.2⟩)]
      · unfold B_X0_cares_4 B_X0_cares_33
        rw [c_places hB hC, if_neg (nI_ge hk (by omega)), codeAt_nib (by omega), hC.2.2.2.1 k hk, h12, L12, if_pos rfl, nI_succ]
    · refine ⟨F_X5_withCode x (nI k) 15, nI (k + 1), ⟨rfl, fun q hq => ?_⟩, fun K => ?_⟩
      · rw [L15, withCode_nib (by omega) hq (by omega), h q hq]
        by_cases e : q = k
        · rw [if_pos e, if_pos ⟨by omega, by rw [e]; exact h12⟩]
        · rw [if_neg e]
          by_cases e2 : q < k ∧ B.goal q ≠ 12
          · rw [if_pos e2, if_pos ⟨by omega, e2.2⟩]
          · rw [if_neg e2, if_neg (fun z => e2 ⟨by omega, z.2⟩)]
      · unfold B_X0_cares_4 B_X0_cares_33
        rw [c_places hB hC, if_neg (nI_ge hk (by omega)), codeAt_nib (by omega), hC.2.2.2.1 k hk, L12, if_neg (fun e => h12 (by rw [nI_eq (by omega) (by omega)] at e; exact e)), nI_succ]
  · rintro x b ⟨rfl, h⟩ K
    refine ⟨x, ?_, h⟩
    unfold B_X0_cares_4
    rw [c_places hB hC, if_pos (nI_le (Nat.le_refl _) (by omega))]
