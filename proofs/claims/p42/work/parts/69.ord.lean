/-! THE ORDERS, ONE BY ONE -/
section ORD
variable {B : Bd}
theorem cj_sign {w : Wo} {f : Nat → Nat} {x : Int64} (hB : B.ok) (hC : CB w 1 B) (hf : ∀ p, p < B.n → nib x p = f p) (h16 : ∀ p, p < B.n → f p < 16) {p v N : Nat} (hp : p < B.n) (hv : v ≤ N) (hN : N < 16) : F_X5_judgeSign w (nI p) (nI v) x (nI N) = if f p = v then (F_X5_refuse w 2 (nI p)).bind (fun q3 => some (q3.1, q3.2)) else some (0, w) := by
  have hd := dims hB
  have := h16 p hp
  unfold F_X5_judgeSign
  rw [c_hasPlace_in hB hC hp, if_neg (by decide), if_neg (nI_pos (by omega)), if_pos (nI_le hv (by omega)), codeAt_nib (by omega), hf p hp, iteq (by omega) (by omega)]
theorem cj_signO {w : Wo} {x : Int64} (hB : B.ok) (hC : CB w 1 B) {a b N : Int32} (h : a < nI 0 ∨ nI B.n ≤ a) : F_X5_judgeSign w a b x N = some (1, w) := by
  unfold F_X5_judgeSign
  rw [c_hasPlace_out hB hC h, if_pos rfl]
theorem gv_inj {a b : Nat} (ha : a < 13) (hb : b < 13) (h : gv a = gv b) : a = b := by
  have : ∀ a, a < 13 → ∀ b, b < 13 → gv a = gv b → a = b := by decide +kernel
  exact this a ha b hb h
theorem mx_cn (B : Bd) (s : Nat) : ∀ k, (mxB B s k).cn 2 = B.cn 2 + nI (mxn B s k)
  | 0 => (Int32.add_zero _).symm
  | k + 1 => by
    have ih := mx_cn B s k
    unfold mxB mxn
    by_cases h : B.bar (mxt B s k / 2) = true
    · rw [if_pos h, if_pos h]
      exact ih
    · rw [if_neg h, if_neg h]
      show (mxB B s k).cn 2 + 1 = _
      rw [ih, nI_succ, Int32.add_assoc]
end ORD
