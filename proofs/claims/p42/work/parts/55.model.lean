/-! WHAT THE REFERENCE READS OFF ITS BOARD -/
/-- only things of D are changed, and only numbers of 32 bits -/
def Keep (D : List Nat) (w w' : Wo) : Prop := (∀ a b, a ∉ D → gI w' a b = gI w a b) ∧ (∀ a b, gL w' a b = gL w a b) ∧ ∀ a b, gD w' a b = gD w a b
theorem Keep.rf {D : List Nat} {w : Wo} : Keep D w w := ⟨fun _ _ _ => rfl, fun _ _ => rfl, fun _ _ => rfl⟩
theorem Keep.tr {D D2 D3 : List Nat} {w w' w2 : Wo} (h : Keep D w w') (h2 : Keep D2 w' w2) (hs : D ⊆ D3) (hs2 : D2 ⊆ D3) : Keep D3 w w2 :=
  ⟨fun a b ha => (h2.1 a b (fun q => ha (hs2 q))).trans (h.1 a b (fun q => ha (hs q))), fun a b => (h2.2.1 a b).trans (h.2.1 a b), fun a b => (h2.2.2 a b).trans (h.2.2 a b)⟩
theorem Keep.pI {D : List Nat} {w : Wo} {h k : Nat} {v : Int32} (hh : h ∈ D) : Keep D w (pI w h k v) :=
  ⟨fun a b ha => by rw [gI_pI, if_neg (fun q => ha (by rw [q.1]; exact hh))], fun _ _ => rfl, fun _ _ => rfl⟩
theorem Keep.setr {D : List Nat} {w : Wo} {h o n : Nat} {f : Nat → Int32} (hh : h ∈ D) : Keep D w (setr w h o n f) :=
  ⟨fun a b ha => gI_setr_ne (fun q => ha (by rw [q]; exact hh)), fun _ _ => rfl, fun _ _ => rfl⟩
theorem Keep.mb {D : List Nat} {w w' : Wo} {h o : Nat} {B : Bd} (hk : Keep D w w') (hh : h ∉ D) (hM : MB w h o B) : MB w' h o B := by
  unfold MB at hM ⊢
  obtain ⟨h1, h2, h3, h4, h5, h6⟩ := hM
  refine ⟨(hk.1 _ _ hh).trans h1, (hk.1 _ _ hh).trans h2, fun p hp => (hk.1 _ _ hh).trans (h3 p hp), fun p hp => (hk.1 _ _ hh).trans (h4 p hp), fun l hl => (hk.1 _ _ hh).trans (h5 l hl), fun i h7 h8 => (hk.1 _ _ hh).trans (h6 i h7 h8)⟩
/-- a world that holds the two sides alone -/
def wd (r c : Nat) : Wo := (fun _ b => if b = 0 then nI r else nI c, fun _ _ => 0, fun _ _ => 0)
section MRd
variable {w : Wo} {B : Bd}
theorem ofs (a b : Nat) : nI a + nI b = nI (a + b) := nI_add a b
theorem gv_eq {g v : Nat} (hg : g < 13) (hv : v < 12) : gv g = nI v ↔ g = v := by
  unfold gv
  by_cases h : g = 12
  · rw [if_pos h, eq_comm]
    constructor
    · intro e
      have := nI_m1 (a := v) (by omega)
      rw [e] at this
      simp at this
    · omega
  · rw [if_neg h, nI_eq (by omega) (by omega)]
theorem gv_m1 {g : Nat} (hg : g < 13) : gv g = -1 ↔ g = 12 := by
  unfold gv
  by_cases h : g = 12
  · rw [if_pos h]
    exact ⟨fun _ => h, fun _ => rfl⟩
  · rw [if_neg h]
    constructor
    · intro e
      have := nI_m1 (a := g) (by omega)
      rw [e] at this
      simp at this
    · exact fun e => absurd e h
/-- the row 'moved' as it is filled -/
def mvw (w : Wo) (g : Nat → Nat) : Nat → Wo
  | 0 => w
  | k + 1 => pI (mvw w g k) 34 (g k) (gI w 33 k)
theorem mvw_keep (w : Wo) (g : Nat → Nat) : ∀ k, Keep [34] w (mvw w g k)
  | 0 => Keep.rf
  | k + 1 => (mvw_keep w g k).tr (Keep.pI (D := [34]) (by decide)) (fun _ h => h) (fun _ h => h)
theorem mvw_at (w : Wo) (g : Nat → Nat) {n : Nat} (hg : ∀ p, p < n → ∀ q, q < n → g p = g q → p = q) : ∀ k, k ≤ n → ∀ p, p < k → gI (mvw w g k) 34 (g p) = gI w 33 p
  | 0, _, p, hp => absurd hp (Nat.not_lt_zero p)
  | k + 1, hk, p, hp => by
    show gI (pI (mvw w g k) 34 (g k) (gI w 33 k)) 34 (g p) = _
    rw [gI_pI]
    by_cases e : p = k
    · subst e
      rw [if_pos ⟨rfl, rfl⟩]
    · rw [if_neg (fun h => e (hg p (by omega) k (by omega) h.2))]
      exact mvw_at w g hg k (by omega) p (by omega)
theorem goes_inj (hB : B.ok) {t : Nat} (ht : t < 2 * (B.r + B.c)) : ∀ p, p < B.n → ∀ q, q < B.n → goes B.r B.c p t = goes B.r B.c q t → p = q := by
  intro p hp q hq e
  rw [← goes_inv hB t ht p hp, ← goes_inv hB t ht q hq, e]
theorem goes_bk (hB : B.ok) {t q : Nat} (ht : t < 2 * (B.r + B.c)) (hq : q < B.n) : goes B.r B.c (bk B.r B.c q t) t = q := by
  have h := inv_lt hB t ht
  have h2 := goes_inv hB (inv t) h.1 q hq
  rw [h.2.1] at h2
  unfold bk
  rw [if_pos (show q < B.r * B.c from hq)]
  exact h2
end MRd
