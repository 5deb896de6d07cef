/-! WHAT THE REFERENCE READS OFF ITS BOARD -/
/-- only things of D are changed, and only numbers of 32 bits -/
def Keep (D : List Nat) (w w' : Wo) : Prop := (∀ a b, a ∉ D → gI w' a b = gI w a b) ∧ (∀ a b, gL w' a b = gL w a b) ∧ ∀ a b, gD w' a b = gD w a b
theorem Keep.rf {D : List Nat} {w : Wo} : Keep D w w := ⟨fun _ _ _ => rfl, fun _ _ => rfl, fun _ _ => rfl⟩
theorem Keep.tr {D D2 D3 : List Nat} {w w' w2 : Wo} (h : Keep D w w') (h2 : Keep D2 w' w2) (hs : D ⊆ D3) (hs2 : D2 ⊆ D3) : Keep D3 w w2 :=
  ⟨fun a b ha => (h2.1 a b (fun q => ha (hs2 q))).trans (h.1 a b (fun q => ha (hs q))), fun a b => (h2.2.1 a b).trans (h.2.1 a b), fun a b => (h2.2.2 a b).trans (h.2.2 a b)⟩
theorem Keep.pI {D : List Nat} {w : Wo} {h k : Nat} {v : Int32} (hh : h ∈ D) : Keep D w (pI w h k v) :=
  ⟨fun a b ha => by rw [gI_pI, if_neg (fun q => ha (by rw [q.1]; exact hh))], fun _ _ => rfl, fun _ _ => rfl⟩
theorem Keep.setr {D : List Nat} {w : Wo} {h o n : Nat} {f : Nat → Int32} (hh : h ∈ D) : Keep D w (setr w h o n f) :=
  ⟨fun a b ha => gI_setr_ne (fun q => ha (by rw [q]; exact hh)), fun _ _ => rfl, fun _ _ => rfl⟩
theorem Keep.mb {D : List Nat} {w w' : Wo} {h o : Nat} {B : Bd} (hk : Keep D w w') (hh : h ∉ D) (hM : MB w h o B) : MB w' h o B := by
  unfold MB at hM ⊢
  obtain ⟨h1, h2, h3, h4, h5, h6⟩ := hM
  refine ⟨(hk.1 _ _ hh).trans h1, (hk.1 _ _ hh).trans h2, fun p hp => (hk.1 _ _ hh).trans (h3 p hp), fun p hp => (hk.1 _ _ hh).trans (h4 p hp), fun l hl => (hk.1 _ _ hh).trans (h5 l hl), fun i h7 h8 => (hk.1 _ _ hh).trans (h6 i h7 h8)⟩
theorem in_in {p n : Nat} (hp : p < n) (hn : n < 2 ^ 31) : F_X6_in (nI p) 0 (nI n - 1) = 1 := by
  unfold F_X6_in
  rw [if_neg (nI_pos (by omega)), show nI n - 1 = nI (n - 1) from pk_sub (b := 1) (by omega), if_neg (nI_nlt (by omega) (by omega))]
theorem in_out {x : Int32} {n : Nat} (h1 : 1 ≤ n) (hn : n < 2 ^ 31) (h : x < nI 0 ∨ nI n ≤ x) : F_X6_in x 0 (nI n - 1) = 0 := by
  unfold F_X6_in
  by_cases h0 : x < 0
  · rw [if_pos h0]
  · rw [if_neg h0, if_pos]
    have h2 := h.resolve_left h0
    rw [show nI n - 1 = nI (n - 1) from pk_sub (b := 1) (by omega), Int32.lt_iff_toInt_lt, nI_toInt (by omega)]
    rw [Int32.le_iff_toInt_le, nI_toInt (by omega)] at h2
    omega
/-- a world that holds the two sides alone -/
def wd (r c : Nat) : Wo := (fun _ b => if b = 0 then nI r else nI c, fun _ _ => 0, fun _ _ => 0)
section MRd
variable {w : Wo} {B : Bd}
theorem m_places (hM : MB w 27 0 B) : F_X6_places w = some (nI B.n) := by
  unfold F_X6_places
  rw [hM.1, hM.2.1, pk_mul]
  rfl
theorem m_lines (hM : MB w 27 0 B) : F_X6_lines w = some (nI (B.r + B.c)) := by
  unfold F_X6_lines
  rw [hM.1, hM.2.1, nI_add]
theorem m_isPlace_in (hB : B.ok) (hM : MB w 27 0 B) {p : Nat} (hp : p < B.n) : F_X6_isPlace w (nI p) = some 1 := by
  have := dims hB
  unfold F_X6_isPlace
  rw [m_places hM, Option.bind_some, in_in hp (by omega)]
theorem m_isPlace_out (hB : B.ok) (hM : MB w 27 0 B) {x : Int32} (h : x < nI 0 ∨ nI B.n ≤ x) : F_X6_isPlace w x = some 0 := by
  have := dims hB
  unfold F_X6_isPlace
  rw [m_places hM, Option.bind_some, in_out (by omega) (by omega) h]
theorem m_isLine_in (hB : B.ok) (hM : MB w 27 0 B) {p : Nat} (hp : p < B.r + B.c) : F_X6_isLine w (nI p) = some 1 := by
  have := dims hB
  unfold F_X6_isLine
  rw [m_lines hM, Option.bind_some, in_in hp (by omega)]
theorem m_isLine_out (hB : B.ok) (hM : MB w 27 0 B) {x : Int32} (h : x < nI 0 ∨ nI (B.r + B.c) ≤ x) : F_X6_isLine w x = some 0 := by
  have := dims hB
  unfold F_X6_isLine
  rw [m_lines hM, Option.bind_some, in_out (by omega) (by omega) h]
theorem m_isTurn_in (hB : B.ok) (hM : MB w 27 0 B) {p : Nat} (hp : p < 2 * (B.r + B.c)) : F_X6_isTurn w (nI p) = some 1 := by
  have := dims hB
  unfold F_X6_isTurn
  rw [m_lines hM, Option.bind_some, show (2 : Int32) * nI (B.r + B.c) = nI (2 * (B.r + B.c)) from pk_mul 2 _, in_in hp (by omega)]
theorem m_isTurn_out (hB : B.ok) (hM : MB w 27 0 B) {x : Int32} (h : x < nI 0 ∨ nI (2 * (B.r + B.c)) ≤ x) : F_X6_isTurn w x = some 0 := by
  have := dims hB
  unfold F_X6_isTurn
  rw [m_lines hM, Option.bind_some, show (2 : Int32) * nI (B.r + B.c) = nI (2 * (B.r + B.c)) from pk_mul 2 _, in_out (by omega) (by omega) h]
theorem ofs (a b : Nat) : nI a + nI b = nI (a + b) := nI_add a b
theorem m_isOpen (hB : B.ok) (hM : MB w 27 0 B) {t : Nat} (ht : t < 12) : F_X6_isOpen w (nI t) = some (bI (!B.bar (t / 2))) := by
  unfold F_X6_isOpen
  rw [show (nI t : Int32) / 2 = nI (t / 2) from pk_div (by omega) (by decide) (by decide), L8, ofs, L0, jchk_nI (by omega) (by omega), nI_clamp (by omega)]
  have h := hM.2.2.2.2.1 (t / 2) (by omega)
  rw [Nat.zero_add] at h
  rw [h, ← L0, itb0]
  cases B.bar (t / 2) <;> rfl
theorem m_timesOf (hB : B.ok) (hM : MB w 27 0 B) {o : Nat} (ho : o ≤ 23) (x : Int32) (q : Nat → Bool) (hq : ∀ p, p < B.n → (gI w 27 (o + p) = x ↔ q p = true)) : F_X6_timesOf w (nI o) x = some (nI (cnt q B.n)) := by
  have hd := dims hB
  unfold F_X6_timesOf
  refine jl2_run (fun k => nI (cnt q k)) (fun k => nI k) B.n (by rw [fu4]; omega) (fun k hk K => ?_) (fun K => ?_) rfl rfl
  · unfold B_X6_timesOf_5 B_X6_timesOf_33
    rw [m_places hM, Option.bind_some, if_neg (nI_ge hk (by omega)), ofs, L0, jchk_nI (by omega) (by omega), nI_clamp (by omega), nI_succ]
    by_cases h : q k = true
    · rw [if_pos ((hq k hk).mpr h), cnt_yes h, nI_succ]
    · rw [if_neg (fun e => h ((hq k hk).mp e)), cnt_no h, ofs]
      rfl
  · unfold B_X6_timesOf_5
    rw [m_places hM, Option.bind_some, if_pos (nI_le (Nat.le_refl _) (by omega))]
theorem m_tcell (hB : B.ok) (hM : MB w 27 0 B) {v : Nat} (hv : v < 12) : F_X6_timesOf w 14 (nI v) = some (nI (times B.cell B.n v)) := by
  refine m_timesOf (o := 14) hB hM (by omega) (nI v) (fun p => B.cell p == v) (fun p hp => ?_)
  have h := hM.2.2.1 p hp
  rw [Nat.zero_add] at h
  have hc := hB.2.2.1 p hp
  rw [h, nI_eq (by omega) (by omega)]
  simp
theorem gv_eq {g v : Nat} (hg : g < 13) (hv : v < 12) : gv g = nI v ↔ g = v := by
  unfold gv
  by_cases h : g = 12
  · rw [if_pos h, eq_comm]
    constructor
    · intro e
      have := nI_m1 (a := v) (by omega)
      rw [e] at this
      simp at this
    · omega
  · rw [if_neg h, nI_eq (by omega) (by omega)]
theorem gv_m1 {g : Nat} (hg : g < 13) : gv g = -1 ↔ g = 12 := by
  unfold gv
  by_cases h : g = 12
  · rw [if_pos h]
    exact ⟨fun _ => h, fun _ => rfl⟩
  · rw [if_neg h]
    constructor
    · intro e
      have := nI_m1 (a := g) (by omega)
      rw [e] at this
      simp at this
    · exact fun e => absurd e h
theorem m_tgoal (hB : B.ok) (hM : MB w 27 0 B) {v : Nat} (hv : v < 12) : F_X6_timesOf w 23 (nI v) = some (nI (times B.goal B.n v)) := by
  refine m_timesOf (o := 23) hB hM (by omega) (nI v) (fun p => B.goal p == v) (fun p hp => ?_)
  have h := hM.2.2.2.1 p hp
  rw [Nat.zero_add] at h
  rw [h, gv_eq (hB.2.2.2.1 p hp) hv]
  simp
theorem m_tfree (hB : B.ok) (hM : MB w 27 0 B) : F_X6_timesOf w 23 (-1) = some (nI (times B.goal B.n 12)) := by
  refine m_timesOf (o := 23) hB hM (by omega) (-1) (fun p => B.goal p == 12) (fun p hp => ?_)
  have h := hM.2.2.2.1 p hp
  rw [Nat.zero_add] at h
  rw [h, gv_m1 (hB.2.2.2.1 p hp)]
  simp
theorem m_tries (hB : B.ok) (hM : MB w 27 0 B) : ∃ w', F_X6_tries w = some w' ∧ Keep [33] w w' ∧ ∀ p, p < B.n → gI w' 33 p = nI (B.cell p) := by
  have hd := dims hB
  refine ⟨setr w 33 0 B.n (fun p => gI w 27 (14 + p)), ?_, Keep.setr (by decide), fun p hp => ?_⟩
  · unfold F_X6_tries
    refine jl2_run (fun k => setr w 33 0 k (fun p => gI w 27 (14 + p))) (fun k => nI k) B.n (by rw [fu4]; omega) (fun k hk K => ?_) (fun K => ?_) setr_0 rfl
    · unfold B_X6_tries_2 B_X6_tries_25
      have hM2 : MB (setr w 33 0 k (fun p => gI w 27 (14 + p))) 27 0 B := (Keep.setr (D := [33]) (by decide)).mb (by decide) hM
      rw [m_places hM2, Option.bind_some, if_neg (nI_ge hk (by omega)), L14, ofs, L0, jchk_nI (by omega) (by omega), jchk_nI (by omega) (by omega), nI_clamp (by omega), nI_clamp (by omega), nI_succ, gI_setr_ne (by decide), setr_succ (by omega) rfl]
    · unfold B_X6_tries_2
      have hM2 : MB (setr w 33 0 B.n (fun p => gI w 27 (14 + p))) 27 0 B := (Keep.setr (D := [33]) (by decide)).mb (by decide) hM
      rw [m_places hM2, Option.bind_some, if_pos (nI_le (Nat.le_refl _) (by omega))]
  · rw [gI_setr, if_pos ⟨rfl, by omega, by omega⟩, Nat.sub_zero]
    have h := hM.2.2.1 p hp
    rw [Nat.zero_add] at h
    exact h
theorem m_homeTried (hB : B.ok) (hM : MB w 27 0 B) {f : Nat → Nat} (hf : ∀ p, p < B.n → f p < 12) (hT : ∀ p, p < B.n → gI w 33 p = nI (f p)) : F_X6_homeTried w = some (nI (homes B f)) := by
  have hd := dims hB
  unfold F_X6_homeTried homes
  refine jl2_run (fun k => nI (cnt (homeq B f) k)) (fun k => nI k) B.n (by rw [fu4]; omega) (fun k hk K => ?_) (fun K => ?_) rfl rfl
  · unfold B_X6_homeTried_4 B_X6_homeTried_44 B_X6_homeTried_49
    have hg := hM.2.2.2.1 k hk
    rw [Nat.zero_add] at hg
    have h13 := hB.2.2.2.1 k hk
    rw [m_places hM, Option.bind_some, if_neg (nI_ge hk (by omega)), L23, ofs, L0, jchk_nI (by omega) (by omega), jchk_nI (by omega) (by omega), jchk_nI (by omega) (by omega), nI_clamp (by omega), nI_clamp (by omega), hg, hT k hk, nI_succ]
    by_cases h1 : B.goal k = 12
    · rw [if_pos ((gv_m1 h13).mpr h1), cnt_yes (by simp [homeq, h1]), nI_succ]
    · rw [if_neg (fun e => h1 ((gv_m1 h13).mp e))]
      by_cases h2 : B.goal k = f k
      · rw [if_pos ((gv_eq h13 (hf k hk)).mpr h2), cnt_yes (by simp [homeq, h2]), nI_succ]
      · rw [if_neg (fun e => h2 ((gv_eq h13 (hf k hk)).mp e)), cnt_no (by simp [homeq, h1, h2]), ofs]
        rfl
  · unfold B_X6_homeTried_4
    rw [m_places hM, Option.bind_some, if_pos (nI_le (Nat.le_refl _) (by omega))]
theorem m_homes (hB : B.ok) (hM : MB w 27 0 B) : ∃ w', F_X6_homes w = some (nI (homes B B.cell), w') ∧ Keep [33] w w' := by
  obtain ⟨w', h1, h2, h3⟩ := m_tries hB hM
  refine ⟨w', ?_, h2⟩
  unfold F_X6_homes
  rw [h1, Option.bind_some, m_homeTried hB (h2.mb (by decide) hM) hB.2.2.1 h3, Option.bind_some]
theorem m_goes (hB : B.ok) (hM : MB w 27 0 B) {p t : Nat} (hp : p < B.n) (ht : t < 2 * (B.r + B.c)) : F_X6_goes w (nI p) (nI t) = some (nI (goes B.r B.c p t)) := by
  have e : F_X6_goes w (nI p) (nI t) = F_X6_goes (wd B.r B.c) (nI p) (nI t) := by
    unfold F_X6_goes B_X6_goes_35 B_X6_goes_78 B_X6_goes_119 B_X6_goes_120
    rw [hM.1, hM.2.1]
    rfl
  rw [e]
  exact dim4 (Q := fun r c => ∀ t, t < 2 * (r + c) → ∀ p, p < r * c → F_X6_goes (wd r c) (nI p) (nI t) = some (nI (goes r c p t))) hB (by decide +kernel) (by decide +kernel) (by decide +kernel) (by decide +kernel) t ht p hp
/-- the row 'moved' as it is filled -/
def mvw (w : Wo) (g : Nat → Nat) : Nat → Wo
  | 0 => w
  | k + 1 => pI (mvw w g k) 34 (g k) (gI w 33 k)
theorem mvw_keep (w : Wo) (g : Nat → Nat) : ∀ k, Keep [34] w (mvw w g k)
  | 0 => Keep.rf
  | k + 1 => (mvw_keep w g k).tr (Keep.pI (D := [34]) (by decide)) (fun _ h => h) (fun _ h => h)
theorem mvw_at (w : Wo) (g : Nat → Nat) {n : Nat} (hg : ∀ p, p < n → ∀ q, q < n → g p = g q → p = q) : ∀ k, k ≤ n → ∀ p, p < k → gI (mvw w g k) 34 (g p) = gI w 33 p
  | 0, _, p, hp => absurd hp (Nat.not_lt_zero p)
  | k + 1, hk, p, hp => by
    show gI (pI (mvw w g k) 34 (g k) (gI w 33 k)) 34 (g p) = _
    rw [gI_pI]
    by_cases e : p = k
    · subst e
      rw [if_pos ⟨rfl, rfl⟩]
    · rw [if_neg (fun h => e (hg p (by omega) k (by omega) h.2))]
      exact mvw_at w g hg k (by omega) p (by omega)
theorem goes_inj (hB : B.ok) {t : Nat} (ht : t < 2 * (B.r + B.c)) : ∀ p, p < B.n → ∀ q, q < B.n → goes B.r B.c p t = goes B.r B.c q t → p = q := by
  intro p hp q hq e
  rw [← goes_inv hB t ht p hp, ← goes_inv hB t ht q hq, e]
theorem goes_bk (hB : B.ok) {t q : Nat} (ht : t < 2 * (B.r + B.c)) (hq : q < B.n) : goes B.r B.c (bk B.r B.c q t) t = q := by
  have h := inv_lt hB t ht
  have h2 := goes_inv hB (inv t) h.1 q hq
  rw [h.2.1] at h2
  unfold bk
  rw [if_pos (show q < B.r * B.c from hq)]
  exact h2
theorem m_turnsTried (hB : B.ok) (hM : MB w 27 0 B) {f : Nat → Nat} (hT : ∀ p, p < B.n → gI w 33 p = nI (f p)) {t : Nat} (ht : t < 2 * (B.r + B.c)) : ∃ w', F_X6_turnsTried w (nI t) = some w' ∧ Keep [33, 34] w w' ∧ ∀ p, p < B.n → gI w' 33 p = nI (tn B t f p) := by
  have hd := dims hB
  obtain ⟨g, hg⟩ : ∃ g, g = fun p => goes B.r B.c p t := ⟨_, rfl⟩
  have hk := mvw_keep w g
  refine ⟨setr (mvw w g B.n) 33 0 B.n (fun p => gI (mvw w g B.n) 34 p), ?_, (hk B.n).tr (Keep.setr (D := [33]) (by decide)) (by decide) (by decide), fun p hp => ?_⟩
  · unfold F_X6_turnsTried
    refine jl2_run (fun k => mvw w g k) (fun k => nI k) B.n (by rw [fu4]; omega) (fun k hk9 K => ?_) (fun K => ?_) rfl rfl
    · have hM2 : MB (mvw w g k) 27 0 B := (hk k).mb (by decide) hM
      have hl := goes_lt hB t ht k hk9
      have hl9 : goes B.r B.c k t < B.n := hl
      unfold B_X6_turnsTried_2 B_X6_turnsTried_27
      rw [m_places hM2, Option.bind_some, if_neg (nI_ge hk9 (by omega)), m_goes hB hM2 hk9 ht, Option.bind_some, L0, jchk_nI (by omega) (by omega), jchk_nI (by omega) (by omega), nI_clamp (by omega), nI_clamp (by omega), nI_succ, (hk k).1 33 k (by decide)]
      rw [show pI (mvw w g k) 34 (goes B.r B.c k t) (gI w 33 k) = mvw w g (k + 1) by rw [mvw, hg]]
    · have hM2 : MB (mvw w g B.n) 27 0 B := (hk B.n).mb (by decide) hM
      unfold B_X6_turnsTried_2 B_X6_turnsTried_33
      rw [m_places hM2, Option.bind_some, if_pos (nI_le (Nat.le_refl _) (by omega))]
      refine jl2_run (fun k => setr (mvw w g B.n) 33 0 k (fun p => gI (mvw w g B.n) 34 p)) (fun k => nI k) B.n (by rw [fu4]; omega) (fun k hk9 K => ?_) (fun K => ?_) setr_0 rfl
      · have hM3 : MB (setr (mvw w g B.n) 33 0 k (fun p => gI (mvw w g B.n) 34 p)) 27 0 B := (Keep.setr (D := [33]) (by decide)).mb (by decide) hM2
        unfold B_X6_turnsTried_35 B_X6_turnsTried_55
        rw [m_places hM3, Option.bind_some, if_neg (nI_ge hk9 (by omega)), L0, jchk_nI (by omega) (by omega), jchk_nI (by omega) (by omega), nI_clamp (by omega), nI_succ, gI_setr_ne (by decide), setr_succ (by omega) rfl]
      · have hM3 : MB (setr (mvw w g B.n) 33 0 B.n (fun p => gI (mvw w g B.n) 34 p)) 27 0 B := (Keep.setr (D := [33]) (by decide)).mb (by decide) hM2
        unfold B_X6_turnsTried_35
        rw [m_places hM3, Option.bind_some, if_pos (nI_le (Nat.le_refl _) (by omega))]
  · rw [gI_setr, if_pos ⟨rfl, by omega, by omega⟩, Nat.sub_zero]
    have hb := bk_lt hB ht hp
    have h1 := mvw_at w g (n := B.n) (by rw [hg]; exact goes_inj hB ht) B.n (Nat.le_refl _) _ hb
    have h2 : g (bk B.r B.c p t) = p := by rw [hg]; exact goes_bk hB ht hp
    rw [h2] at h1
    rw [h1, hT _ hb]
    rfl
end MRd
