/-! THE LAW'S CASES THAT ONLY READ -/
section CSa
variable {w : Wo} {B : Bd}
theorem m_cell (hM : MB w 27 0 B) {p : Nat} (hp : p < B.n) : gI w 27 (14 + p) = nI (B.cell p) := by
  have h := hM.2.2.1 p hp
  rw [Nat.zero_add] at h
  exact h
theorem m_goal (hM : MB w 27 0 B) {p : Nat} (hp : p < B.n) : gI w 27 (23 + p) = gv (B.goal p) := by
  have h := hM.2.2.2.1 p hp
  rw [Nat.zero_add] at h
  exact h
theorem m_bar (hM : MB w 27 0 B) {l : Nat} (hl : l < 6) : gI w 27 (8 + l) = bI (B.bar l) := by
  have h := hM.2.2.2.2.1 l hl
  rw [Nat.zero_add] at h
  exact h
theorem MB.p26 {k : Nat} {v : Int32} (hM : MB w 27 0 B) : MB (pI w 26 k v) 27 0 B := (Kf.p26 (D := []) (F := [k]) List.mem_cons_self).mb (by decide) (by decide) hM
end CSa
theorem c_homeBehind {w : Wo} {B : Bd} (hB : B.ok) (hC : CB w 1 B) {t : Nat} (ht : t < 2 * (B.r + B.c)) : ∃ y, F_X0_turned w (gL w 1 2) (nI t) = some y ∧ F_X0_atHome w y = some (nI (homes B (tn B t B.cell))) := by
  have hd := dims hB
  obtain ⟨y, h1, h2⟩ := c_turned hB hC (gL w 1 2) ht
  exact ⟨y, h1, c_atHome hB hC (fun p hp => by rw [h2 p (by omega), hC.2.2.1 _ (bk_lt hB ht hp)]; rfl)⟩
