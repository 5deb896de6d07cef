/-! WHAT BUILD MAKES -/
def Bd0 : Bd := mkB 3 3 (fun p => p) (fun p => p) (fun _ => false) (fun _ => 0)
theorem Bd0_ok : Bd0.ok := ⟨Or.inr rfl, Or.inr rfl, fun p hp => by have h : p < 3 * 3 := hp; show p < 12; omega, fun p hp => by have h : p < 3 * 3 := hp; show p < 13; omega, fun _ _ => rfl⟩
def As0 : Abs := mkA Bd0 false Bd0 0 (fun _ => Bd0) 0 (fun _ => 0) (-1) 0 0 0 (fun _ => 0)
theorem As0_ok : Aok As0 := ⟨Bd0_ok, fun e => (by cases e), Nat.zero_le 8, fun i h => absurd h (Nat.not_lt_zero i), Nat.zero_le 60, fun i h => absurd h (Nat.not_lt_zero i), by show 0 < 6; omega, Nat.zero_le 11, fun i h => absurd h (Nat.not_lt_zero i)⟩
theorem start_CB : CB N_X5 1 (mkB 3 3 (fun _ => 0) (fun _ => 0) (fun _ => false) (fun _ => 0)) := by
  have e2 : gL N_X5 1 2 = 0 := by decide +kernel
  have e3 : gL N_X5 1 3 = 0 := by decide +kernel
  have e0 : gI N_X5 1 0 = nI 3 := by decide +kernel
  have e1 : gI N_X5 1 1 = nI 3 := by decide +kernel
  have e4 : gI N_X5 1 4 = nI 0 := by decide +kernel
  refine ⟨e0, e1, fun p _ => by rw [e2]; exact nib_0 p, fun p _ => by rw [e3]; exact nib_0 p, ⟨0, by decide, e4, fun l _ => Nat.zero_testBit l⟩, fun i h1 h2 => ?_⟩
  have : ∀ i, i < 8 → 2 ≤ i → gI N_X5 1 (i + 3) = 0 := by decide +kernel
  exact this i h2 h1
theorem start_CI : ∃ w1, F_X0_lay N_X5 3 3 = some w1 ∧ CI w1 As0 := by
  obtain ⟨w1, h1, h2, h3⟩ := c_lay start_CB (r := 3) (c := 3) (Or.inr rfl) (Or.inr rfl)
  have hlow : ∀ a b, a ≠ 1 → gI w1 a b = gI N_X5 a b ∧ gL w1 a b = gL N_X5 a b := fun a b ha => h3 a b (by simp; omega)
  refine ⟨w1, h1, h2, ⟨(hlow 0 12 (by omega)).1.trans (by decide +kernel), fun e => (by cases e)⟩, ⟨0, by omega, (hlow 4 1 (by omega)).1.trans (by decide +kernel), (hlow 4 2 (by omega)).1.trans (by decide +kernel), fun i h => absurd h (Nat.not_lt_zero i)⟩, ⟨(hlow 0 8 (by omega)).1.trans (by decide +kernel), fun i h => absurd h (Nat.not_lt_zero i)⟩, (hlow 0 9 (by omega)).1.trans (by decide +kernel), ⟨(hlow 0 10 (by omega)).1.trans (by decide +kernel), fun e => absurd rfl e⟩, (hlow 19 1 (by omega)).1.trans (by decide +kernel), fun i h => absurd h (Nat.not_lt_zero i)⟩
/-! numbers -/
theorem mask (y : Int32) (k : Nat) (hk : k ≤ 31) : ∃ n, n < 2 ^ k ∧ y &&& nI (2 ^ k - 1) = nI n := by
  refine ⟨y.toBitVec.toNat % 2 ^ k, Nat.mod_lt _ (Nat.two_pow_pos k), ?_⟩
  apply Int32.toBitVec_inj.mp
  apply BitVec.eq_of_toNat_eq
  have h2 : 2 ^ k ≤ 2 ^ 31 := Nat.pow_le_pow_right (by decide) hk
  have h3 : y.toBitVec.toNat % 2 ^ k < 2 ^ k := Nat.mod_lt _ (Nat.two_pow_pos k)
  have e1 : (nI (2 ^ k - 1)).toBitVec.toNat = 2 ^ k - 1 := by
    show (BitVec.ofNat 32 (2 ^ k - 1)).toNat = _
    rw [BitVec.toNat_ofNat, Nat.mod_eq_of_lt (by omega)]
  have e2 : (nI (y.toBitVec.toNat % 2 ^ k)).toBitVec.toNat = y.toBitVec.toNat % 2 ^ k := by
    show (BitVec.ofNat 32 _).toNat = _
    rw [BitVec.toNat_ofNat, Nat.mod_eq_of_lt (by omega)]
  rw [Int32.toBitVec_and, BitVec.toNat_and, e1, e2, Nat.and_two_pow_sub_one_eq_mod]
theorem mask15 (y : Int32) : ∃ n, n < 16 ∧ y &&& 15 = nI n := mask y 4 (by decide)
theorem mask7 (y : Int32) : ∃ n, n < 8 ∧ y &&& 7 = nI n := mask y 3 (by decide)
theorem mask3 (y : Int32) : ∃ n, n < 4 ∧ y &&& 3 = nI n := mask y 2 (by decide)
theorem mask511 (y : Int32) : ∃ n, n < 512 ∧ y &&& 511 = nI n := mask y 9 (by decide)
theorem mask63 (y : Int32) : ∃ n, n < 64 ∧ y &&& 63 = nI n := mask y 6 (by decide)
theorem rem_nI : ∀ b, b < 13 → 0 < b → ∀ a, a < 16 → jrem (nI a) (nI b) = nI (a % b) := by decide +kernel
theorem lett_nI : ∀ v, v < 12 → F_X5_codeOf (ji2c ((97 : Int32) + nI v)) = nI v := by decide +kernel
theorem code_sg : ∀ v, v < 13 → F_X5_codeOf (sgI v) = nI v := by decide +kernel
/-! acts -/
def J (r c : Nat) (w : Wo) : Prop := ∃ A, Aok A ∧ CI w A ∧ A.tl = 0 ∧ A.B.r = r ∧ A.B.c = c
theorem act_in {v : Int32} {w' : Wo} {o : Option ((Nat × Wo) ⊕ (Int32 × Wo))} (h : o = some (.inr (v, w'))) : (o.bind fun q => Sum.elim actX some q) = some (v, w') := by rw [h]; rfl
theorem act_ref {w' : Wo} {o : Option ((Nat × Wo) ⊕ (Int32 × Wo))} (h : o = some (.inl (3, w'))) : (o.bind fun q => Sum.elim actX some q) = some (-2, w') := by rw [h]; rfl
section ACTS
variable {r c : Nat} {w : Wo}
theorem J.push {A : Abs} {B' : Bd} {w' : Wo} (hA : Aok A) (hC : CI w' (A.push B')) (hB : B'.ok) (ht : A.tl = 0) (h1 : B'.r = r) (h2 : B'.c = c) : J r c w' := ⟨A.push B', hA.push hB, hC, ht, h1, h2⟩
theorem J.ref {A : Abs} {w' : Wo} {why : Nat} {det : Int32} (hA : Aok A) (hC : CI w' (A.wr why det)) (h6 : why < 6) (ht : A.tl = 0) (h1 : A.B.r = r) (h2 : A.B.c = c) : J r c w' := ⟨A.wr why det, hA.wr h6, hC, ht, h1, h2⟩
theorem a_turn (hJ : J r c w) {t : Nat} (ht : t < 2 * (r + c)) (x y : Int32) : ∃ v w', F_L_act w 3 (nI t) x y = some (v, w') ∧ J r c w' := by
  obtain ⟨A, hA, hC, h0, rfl, rfl⟩ := hJ
  have e : F_L_act w 3 (nI t) x y = (F_X5_turn w (nI t)).bind fun q => Sum.elim actX some q := by
    unfold F_L_act
    rw [if_neg (by decide), if_neg (by decide), if_neg (by decide), if_pos rfl]
  cases hb : A.B.bar (t / 2) with
  | false =>
    obtain ⟨w', g1, g2⟩ := ch_yes hA hC (y_turn hA.1 ht hb 0)
    refine ⟨nI (homes (handT A.B t) (handT A.B t).cell), w', ?_, J.push hA g2 (handT_ok hA.1 ht) h0 rfl rfl⟩
    rw [e]
    refine act_in ?_
    unfold F_X5_turn
    rw [g1, Option.bind_some, Sum.elim_inr, c_atHome (handT_ok hA.1 ht) g2.1 g2.1.2.2.1, Option.bind_some]
    rfl
  | true =>
    obtain ⟨w', g1, g2⟩ := ch_ref hC (by decide) (r_turn hA.1 ht hb 0)
    refine ⟨-2, w', ?_, J.ref hA g2 (by decide) h0 rfl rfl⟩
    rw [e]
    refine act_ref ?_
    unfold F_X5_turn
    rw [g1]
    rfl
theorem a_put (hJ : J r c w) {p v : Nat} (hp : p < r * c) (hv : v < 12) {y : Int32} (hy : F_X5_codeOf y = nI v) (x : Int32) : ∃ z w', F_L_act w 1 (nI p) x y = some (z, w') ∧ J r c w' := by
  obtain ⟨A, hA, hC, h0, rfl, rfl⟩ := hJ
  have e : F_L_act w 1 (nI p) x y = (F_X5_put w (nI p) y).bind fun q => Sum.elim actX some q := by
    unfold F_L_act
    rw [if_neg (by decide), if_pos rfl]
  by_cases hs : A.B.cell p = v
  · obtain ⟨w', g1, g2⟩ := ch_ref hC (by decide) (r_put hA.1 hp hv hs)
    refine ⟨-2, w', ?_, J.ref hA g2 (by decide) h0 rfl rfl⟩
    rw [e]
    refine act_ref ?_
    unfold F_X5_put
    rw [hy, g1]
    rfl
  · obtain ⟨w', g1, g2⟩ := ch_yes hA hC (y_put hA.1 hp hv hs)
    refine ⟨F_X5_signOf (F_X5_codeAt (gL w 1 2) (nI p)), w', ?_, J.push hA g2 (putB_ok hA.1 hv) h0 rfl rfl⟩
    rw [e]
    refine act_in ?_
    unfold F_X5_put
    rw [hy, g1]
    rfl
theorem a_goal (hJ : J r c w) {p v : Nat} (hp : p < r * c) (hv : v < 13) {y : Int32} (hy : F_X5_codeOf y = nI v) (x : Int32) : ∃ z w', F_L_act w 2 (nI p) x y = some (z, w') ∧ J r c w' := by
  obtain ⟨A, hA, hC, h0, rfl, rfl⟩ := hJ
  have e : F_L_act w 2 (nI p) x y = (F_X5_goal w (nI p) y).bind fun q => Sum.elim actX some q := by
    unfold F_L_act
    rw [if_neg (by decide), if_neg (by decide), if_pos rfl]
  by_cases hs : A.B.goal p = v
  · obtain ⟨w', g1, g2⟩ := ch_ref hC (by decide) (r_goal hA.1 hp hv hs)
    refine ⟨-2, w', ?_, J.ref hA g2 (by decide) h0 rfl rfl⟩
    rw [e]
    refine act_ref ?_
    unfold F_X5_goal
    rw [hy, g1]
    rfl
  · obtain ⟨w', g1, g2⟩ := ch_yes hA hC (y_goal hA.1 hp hv hs)
    refine ⟨F_X5_signOf (F_X5_codeAt (gL w 1 3) (nI p)), w', ?_, J.push hA g2 (goalB_ok hA.1 hv) h0 rfl rfl⟩
    rw [e]
    refine act_in ?_
    unfold F_X5_goal
    rw [hy, g1]
    rfl
theorem a_swap (hJ : J r c w) {p q : Nat} (hp : p < r * c) (hq : q < r * c) (y : Int32) : ∃ z w', F_L_act w 4 (nI p) (nI q) y = some (z, w') ∧ J r c w' := by
  obtain ⟨A, hA, hC, h0, rfl, rfl⟩ := hJ
  have e : F_L_act w 4 (nI p) (nI q) y = (F_X5_swap w (nI p) (nI q)).bind fun q => Sum.elim actX some q := by
    unfold F_L_act
    rw [if_neg (by decide), if_neg (by decide), if_neg (by decide), if_neg (by decide), if_pos rfl]
  by_cases hn : p = q
  · subst hn
    obtain ⟨w', g1, g2⟩ := ch_ref hC (by decide) (r_swap hA.1 hp)
    refine ⟨-2, w', ?_, J.ref hA g2 (by decide) h0 rfl rfl⟩
    rw [e]
    refine act_ref ?_
    unfold F_X5_swap
    rw [g1]
    rfl
  · obtain ⟨w', g1, g2⟩ := p_swap hA hC hp hq hn
    refine ⟨nI (homes (swapB A.B p q) (swapB A.B p q).cell), w', ?_, J.push hA g2 (swapB_ok hA.1 hp hq) h0 rfl rfl⟩
    rw [e]
    exact act_in g1
theorem a_bar (hJ : J r c w) {l : Nat} (hl : l < r + c) (x y : Int32) : ∃ z w', F_L_act w 5 (nI l) x y = some (z, w') ∧ J r c w' := by
  obtain ⟨A, hA, hC, h0, rfl, rfl⟩ := hJ
  obtain ⟨w', g1, g2⟩ := p_bar hA hC hl
  refine ⟨if bI (!A.B.bar l) = 0 then 0 else 1, w', ?_, J.push hA g2 (barB_ok hA.1 hl) h0 rfl rfl⟩
  unfold F_L_act
  rw [if_neg (by decide), if_neg (by decide), if_neg (by decide), if_neg (by decide), if_neg (by decide), if_pos rfl, g1]
  rfl
theorem a_scr (hJ : J r c w) {s n : Nat} (hs : s < 1000) (h1 : 1 ≤ n) (hn : n < 10) (y : Int32) : ∃ z w', F_L_act w 6 (nI s) (nI n) y = some (z, w') ∧ J r c w' := by
  obtain ⟨A, hA, hC, h0, rfl, rfl⟩ := hJ
  obtain ⟨w', g1, g2⟩ := p_scr hA hC hs h1 hn
  have hd := mxB_s A.B s n
  refine ⟨nI (mxn A.B s n), w', ?_, J.push hA g2 (mixB_ok hA.1 s n) h0 rfl rfl⟩
  unfold F_L_act
  rw [if_neg (by decide), if_neg (by decide), if_neg (by decide), if_neg (by decide), if_neg (by decide), if_neg (by decide), if_pos rfl, g1]
  rfl
theorem a_board {A : Abs} (hA : Aok A) (hC : CI w A) (h0 : A.tl = 0) (hr : r = 2 ∨ r = 3) (hc : c = 2 ∨ c = 3) (y : Int32) : ∃ z w', F_L_act w 0 (nI r) (nI c) y = some (z, w') ∧ J r c w' := by
  obtain ⟨w', g1, g2⟩ := ch_yes hA hC (y_board hr hc)
  refine ⟨F_X0_places w', w', ?_, J.push hA g2 (layB_ok hr hc) h0 rfl rfl⟩
  unfold F_L_act F_X5_board
  rw [if_pos rfl, g1]
  rfl
end ACTS
