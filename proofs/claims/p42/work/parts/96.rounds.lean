/-! BUILD, ROUND BY ROUND -/
section ROUNDS
variable {r c : Nat}
def dm (r c : Nat) : Prop := (r = 2 ∨ r = 3) ∧ (c = 2 ∨ c = 3)
theorem dm_n (h : dm r c) : 4 ≤ r * c ∧ r * c ≤ 9 ∧ 4 ≤ r + c ∧ r + c ≤ 6 := by
  obtain ⟨rfl | rfl, rfl | rfl⟩ := h <;> decide
theorem J.letter {w : Wo} (hJ : J r c w) {p : Nat} (hp : p < r * c) : ∃ v, v < 12 ∧ F_X5_letter w (nI p) = some (.inr (sgI v, w)) := by
  obtain ⟨A, hA, hC, h0, rfl, rfl⟩ := hJ
  exact ⟨A.B.cell p, hA.1.2.2.1 p hp, t_letter hA.1 hC.1 hp⟩
theorem goals_ok (h : dm r c) : ∀ (d k F : Nat) (w : Wo), k + d = r * c → d < F → J r c w → ∃ w', bGoals F w (nI k) (nI (r * c)) = some w' ∧ J r c w'
  | 0, k, F, w, hk, hF, hJ => by
    obtain ⟨F, rfl⟩ : ∃ F', F = F' + 1 := ⟨F - 1, by omega⟩
    have hd := dm_n h
    refine ⟨w, ?_, hJ⟩
    unfold bGoals
    rw [if_pos (nI_le (by omega) (by omega))]
  | d + 1, k, F, w, hk, hF, hJ => by
    obtain ⟨F, rfl⟩ : ∃ F', F = F' + 1 := ⟨F - 1, by omega⟩
    have hd := dm_n h
    obtain ⟨v, hv, e1⟩ := hJ.letter (p := k) (by omega)
    obtain ⟨z, w1, e2, hJ1⟩ := a_goal hJ (p := k) (v := v) (by omega) (by omega) (code_sg v (by omega)) 0
    obtain ⟨w', e3, hJ'⟩ := goals_ok h d (k + 1) F w1 (by omega) (by omega) hJ1
    refine ⟨w', ?_, hJ'⟩
    unfold bGoals
    rw [if_neg (nI_ge (by omega) (by omega)), e1, Option.bind_some, Sum.elim_inr]
    dsimp only
    rw [e2, Option.bind_some]
    dsimp only
    rw [nI_1]
    exact e3
theorem rem_t {a b : Nat} (ha : a < 16) (hb : b < 13) (h0 : 0 < b) : jrem (nI a) (nI b) = nI (a % b) ∧ a % b < b := ⟨rem_nI b hb h0 a ha, Nat.mod_lt _ h0⟩
theorem ne0 {b : Nat} (hb : b < 13) (h0 : 0 < b) : ¬ nI b = 0 := nI_ne0 h0 (by omega)
theorem b349_ok (h : dm r c) {w : Wo} (hJ : J r c w) (x4 x5 : Int32) : ∃ w', B_L_build_349 w (nI (r * c)) x4 x5 (nI (2 * (r + c))) = some w' ∧ J r c w' := by
  have hd := dm_n h
  unfold B_L_build_349
  split
  · obtain ⟨a, ha, e⟩ := mask15 (jshr x5 (24 : Int32))
    obtain ⟨e1, e2⟩ := rem_t (b := 2 * (r + c)) ha (by omega) (by omega)
    obtain ⟨z, w', e3, hJ'⟩ := a_turn hJ e2 0 32
    refine ⟨w', ?_, hJ'⟩
    rw [jchk_pos (ne0 (by omega) (by omega)), e, e1, e3]
    rfl
  · exact ⟨w, rfl, hJ⟩
theorem b309_ok (h : dm r c) {w : Wo} (hJ : J r c w) (x4 x5 : Int32) : ∃ w', B_L_build_309 w (nI (r * c)) x4 x5 (nI (2 * (r + c))) = some w' ∧ J r c w' := by
  have hd := dm_n h
  unfold B_L_build_309
  split
  · obtain ⟨w1, e1, hJ1⟩ := goals_ok h (r * c) 0 10 w (by omega) (by omega) hJ
    obtain ⟨w', e2, hJ'⟩ := b349_ok h hJ1 x4 x5
    refine ⟨w', ?_, hJ'⟩
    rw [show bGoals 10 w 0 (nI (r * c)) = some w1 from e1, Option.bind_some]
    exact e2
  · exact b349_ok h hJ x4 x5
theorem b270_ok (h : dm r c) {w : Wo} (hJ : J r c w) (x4 x5 : Int32) : ∃ w', B_L_build_270 w (nI (r * c)) x4 x5 (nI (2 * (r + c))) = some w' ∧ J r c w' := by
  unfold B_L_build_270
  split
  · obtain ⟨a, ha, e1⟩ := mask511 (jshr x5 (8 : Int32))
    obtain ⟨b, hb, e2⟩ := mask3 (jshr x5 (17 : Int32))
    have e3 : (1 : Int32) + nI b = nI (b + 1) := by
      have z : ∀ b, b < 4 → (1 : Int32) + nI b = nI (b + 1) := by decide +kernel
      exact z b hb
    obtain ⟨z, w1, e4, hJ1⟩ := a_scr hJ (s := a) (n := b + 1) (by omega) (by omega) (by omega) 32
    obtain ⟨w', e5, hJ'⟩ := b309_ok h hJ1 x4 x5
    refine ⟨w', ?_, hJ'⟩
    rw [e1, e2, e3, e4, Option.bind_some]
    exact e5
  · exact b309_ok h hJ x4 x5
theorem b237_ok (h : dm r c) {w : Wo} (hJ : J r c w) (x4 x5 : Int32) : ∃ w', B_L_build_237 w (nI (r * c)) x4 x5 (nI (2 * (r + c))) = some w' ∧ J r c w' := by
  have hd := dm_n h
  unfold B_L_build_237
  split
  · obtain ⟨a, ha, e⟩ := mask7 (jshr x5 (8 : Int32))
    obtain ⟨e1, e2⟩ := rem_t (a := a) (b := r + c) (by omega) (by omega) (by omega)
    obtain ⟨z, w1, e3, hJ1⟩ := a_bar hJ e2 0 32
    obtain ⟨w', e5, hJ'⟩ := b270_ok h hJ1 x4 x5
    refine ⟨w', ?_, hJ'⟩
    rw [half_n _ (by omega), jchk_pos (ne0 (by omega) (by omega)), e, e1, e3, Option.bind_some]
    exact e5
  · exact b270_ok h hJ x4 x5
theorem b198_ok (h : dm r c) {w : Wo} (hJ : J r c w) (x4 x5 : Int32) : ∃ w', B_L_build_198 w (nI (r * c)) x4 x5 (nI (2 * (r + c))) = some w' ∧ J r c w' := by
  have hd := dm_n h
  unfold B_L_build_198
  split
  · obtain ⟨a, ha, e⟩ := mask15 (jshr x5 (8 : Int32))
    obtain ⟨b, hb, f⟩ := mask15 (jshr x5 (12 : Int32))
    obtain ⟨e1, e2⟩ := rem_t (a := a) (b := r * c) (by omega) (by omega) (by omega)
    obtain ⟨f1, f2⟩ := rem_t (a := b) (b := r * c) (by omega) (by omega) (by omega)
    obtain ⟨z, w1, e3, hJ1⟩ := a_swap hJ e2 f2 32
    obtain ⟨w', e5, hJ'⟩ := b237_ok h hJ1 x4 x5
    refine ⟨w', ?_, hJ'⟩
    rw [jchk_pos (ne0 (by omega) (by omega)), jchk_pos (ne0 (by omega) (by omega)), e, f, e1, f1, e3, Option.bind_some]
    exact e5
  · exact b237_ok h hJ x4 x5
theorem b194_ok (h : dm r c) {w : Wo} (hJ : J r c w) (x4 x5 : Int32) {p v : Nat} (hp : p < r * c) (hv : v < 13) {y : Int32} (hy : F_X5_codeOf y = nI v) : ∃ w', B_L_build_194 w (nI (r * c)) x4 x5 (nI (2 * (r + c))) y 0 (nI p) 2 = some w' ∧ J r c w' := by
  obtain ⟨z, w1, e3, hJ1⟩ := a_goal hJ hp hv hy 0
  obtain ⟨w', e5, hJ'⟩ := b198_ok h hJ1 x4 x5
  refine ⟨w', ?_, hJ'⟩
  unfold B_L_build_194
  rw [e3, Option.bind_some]
  exact e5
theorem lett_ok (y : Int32) : ∃ v, v < 12 ∧ F_X5_codeOf (ji2c ((97 : Int32) + jrem (y &&& (15 : Int32)) (12 : Int32))) = nI v := by
  obtain ⟨a, ha, e⟩ := mask15 y
  refine ⟨a % 12, Nat.mod_lt _ (by decide), ?_⟩
  rw [e, show jrem (nI a) (12 : Int32) = _ from rem_nI 12 (by decide) (by decide) a ha]
  exact lett_nI _ (Nat.mod_lt _ (by decide))
theorem b140_ok (h : dm r c) {w : Wo} (hJ : J r c w) (x4 x5 : Int32) : ∃ w', B_L_build_140 w (nI (r * c)) x4 x5 (nI (2 * (r + c))) = some w' ∧ J r c w' := by
  have hd := dm_n h
  unfold B_L_build_140
  split
  · obtain ⟨a, ha, e⟩ := mask15 (jshr x5 (7 : Int32))
    obtain ⟨e1, e2⟩ := rem_t (a := a) (b := r * c) (by omega) (by omega) (by omega)
    rw [jchk_pos (ne0 (by omega) (by omega)), e, e1]
    split
    · exact b194_ok h hJ x4 x5 e2 (v := 12) (by decide) (by decide +kernel)
    · obtain ⟨v, hv, e3⟩ := lett_ok (jshr x5 (11 : Int32))
      exact b194_ok h hJ x4 x5 e2 (by omega) e3
  · exact b198_ok h hJ x4 x5
theorem round_ok (h : dm r c) {w : Wo} (hJ : J r c w) (x4 x5 : Int32) : ∃ w', F_L_round w (nI (r * c)) x4 x5 = some w' ∧ J r c w' := by
  have hd := dm_n h
  have eb : F_X5_boardOf w 2 = some (.inr (nI (2 * (r + c)), w)) := by
    obtain ⟨A, hA, hC, h0, rfl, rfl⟩ := hJ
    exact (t_bo hA.1 hC.1).2.2
  unfold F_L_round
  rw [eb, Option.bind_some, Sum.elim_inr]
  dsimp only
  obtain ⟨a, ha, e⟩ := mask15 x5
  obtain ⟨e1, e2⟩ := rem_t (a := a) (b := 2 * (r + c)) (by omega) (by omega) (by omega)
  obtain ⟨z, w1, e3, hJ1⟩ := a_turn hJ e2 0 32
  rw [jchk_pos (ne0 (by omega) (by omega)), e, e1, e3, Option.bind_some]
  dsimp only
  split
  · obtain ⟨b, hb, f⟩ := mask15 (jshr x5 (7 : Int32))
    obtain ⟨f1, f2⟩ := rem_t (a := b) (b := r * c) (by omega) (by omega) (by omega)
    obtain ⟨v, hv, e4⟩ := lett_ok (jshr x5 (11 : Int32))
    obtain ⟨z2, w2, e5, hJ2⟩ := a_put hJ1 f2 hv e4 0
    rw [jchk_pos (ne0 (by omega) (by omega)), f, f1, e5, Option.bind_some]
    exact b140_ok h hJ2 x4 x5
  · exact b140_ok h hJ1 x4 x5
theorem rounds_ok (h : dm r c) (L : Nat) (xs : Nat → Int32) : ∀ (n k : Nat) (w : Wo), J r c w → ∃ w', bRounds L xs (nI (r * c)) n k w = some w' ∧ J r c w'
  | 0, k, w, hJ => ⟨w, rfl, hJ⟩
  | n + 1, k, w, hJ => by
    obtain ⟨w1, e1, hJ1⟩ := round_ok h hJ (nI k) (xat L xs k)
    obtain ⟨w', e2, hJ'⟩ := rounds_ok h L xs n (k + 1) w1 hJ1
    refine ⟨w', ?_, hJ'⟩
    unfold bRounds
    rw [e1, Option.bind_some]
    exact e2
theorem first_ok {w : Wo} {A : Abs} (hA : Aok A) (hC : CI w A) (h0 : A.tl = 0) (x2 : Int32) : ∃ r c w', dm r c ∧ F_L_first w x2 = some (nI (r * c), w') ∧ J r c w' := by
  have key : ∀ r c, dm r c → ∃ w', B_L_build_43 w (nI c - 2) 2 (nI r) 0 = some (nI (r * c), w') ∧ J r c w' := by
    intro r c h
    obtain ⟨z, w1, e1, hJ1⟩ := a_board hA hC h0 h.1 h.2 32
    have e2 : F_X5_account w1 0 = some (.inr (nI (r * c), w1)) := by
      obtain ⟨A, hA, hC, h0, rfl, rfl⟩ := hJ1
      exact t_acc hA.1 hC.1 0 (by decide)
    refine ⟨w1, ?_, hJ1⟩
    unfold B_L_build_43
    rw [show (2 : Int32) + (nI c - 2) = nI c by rcases h.2 with rfl | rfl <;> decide, e1, Option.bind_some]
    dsimp only
    rw [e2, Option.bind_some, Sum.elim_inr]
  have k2 : ∀ r, (r = 2 ∨ r = 3) → ∃ c w', dm r c ∧ B_L_build_28 w x2 (nI r - 2) 2 0 = some (nI (r * c), w') ∧ J r c w' := by
    intro r hr
    unfold B_L_build_28
    rw [show (2 : Int32) + (nI r - 2) = nI r by rcases hr with rfl | rfl <;> decide]
    split
    · obtain ⟨w', e, hJ⟩ := key r 2 ⟨hr, Or.inl rfl⟩
      exact ⟨2, w', ⟨hr, Or.inl rfl⟩, e, hJ⟩
    · obtain ⟨w', e, hJ⟩ := key r 3 ⟨hr, Or.inr rfl⟩
      exact ⟨3, w', ⟨hr, Or.inr rfl⟩, e, hJ⟩
  unfold F_L_first
  split
  · obtain ⟨c, w', h1, e, hJ⟩ := k2 2 (Or.inl rfl)
    exact ⟨2, c, w', h1, e, hJ⟩
  · obtain ⟨c, w', h1, e, hJ⟩ := k2 3 (Or.inr rfl)
    exact ⟨3, c, w', h1, e, hJ⟩
end ROUNDS
/-- what build makes stands -/
theorem build_ok (L : Nat) (xs : Nat → Int32) : ∃ w A, F_L_build L xs = some w ∧ Aok A ∧ CI w A ∧ A.tl = 0 := by
  obtain ⟨w1, e1, hC⟩ := start_CI
  obtain ⟨r, c, w2, h, e2, hJ⟩ := first_ok As0_ok hC rfl (xat L xs 0)
  obtain ⟨w3, e3, A, hA, hC3, h0, -, -⟩ := rounds_ok h L xs 12 1 w2 hJ
  refine ⟨w3, A, ?_, hA, hC3, h0⟩
  unfold F_L_build
  rw [e1, Option.bind_some, e2, Option.bind_some]
  exact e3
