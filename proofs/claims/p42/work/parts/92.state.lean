/-! WHAT THE CLASS TELLS, AND THE LAW'S STATE -/
def accV (B : Bd) (k : Nat) : Int32 := if k = 0 then nI B.n else if k = 1 then nI (cnt B.bar 6) else B.cn k
section TELL
variable {w : Wo} {B : Bd}
theorem t_acc (hB : B.ok) (hC : CB w 1 B) : ∀ k, k < 8 → F_X5_account w (nI k) = some (.inr (accV B k, w)) := by
  have g : ∀ i, 2 ≤ i → i < 8 → gI w 1 (i + 3) = B.cn i := hC.2.2.2.2.2
  intro k hk
  match k, hk with
  | 0, _ => unfold F_X5_account; rw [if_pos (show nI 0 = 0 from rfl), c_places hB hC]; rfl
  | 1, _ => unfold F_X5_account; rw [if_neg (by decide), if_pos (show nI 1 = 1 from rfl), c_barred hB hC]; rfl
  | 2, _ => unfold F_X5_account; rw [if_neg (by decide), if_neg (by decide), if_pos (show nI 2 = 2 from rfl), g 2 (by decide) (by decide)]; rfl
  | 3, _ => unfold F_X5_account; rw [if_neg (by decide), if_neg (by decide), if_neg (by decide), if_pos (show nI 3 = 3 from rfl), g 3 (by decide) (by decide)]; rfl
  | 4, _ => unfold F_X5_account; rw [if_neg (by decide), if_neg (by decide), if_neg (by decide), if_neg (by decide), if_pos (show nI 4 = 4 from rfl), g 4 (by decide) (by decide)]; rfl
  | 5, _ => unfold F_X5_account; rw [if_neg (by decide), if_neg (by decide), if_neg (by decide), if_neg (by decide), if_neg (by decide), if_pos (show nI 5 = 5 from rfl), g 5 (by decide) (by decide)]; rfl
  | 6, _ => unfold F_X5_account; rw [if_neg (by decide), if_neg (by decide), if_neg (by decide), if_neg (by decide), if_neg (by decide), if_neg (by decide), if_pos (show nI 6 = 6 from rfl), g 6 (by decide) (by decide)]; rfl
  | 7, _ => unfold F_X5_account; rw [if_neg (by decide), if_neg (by decide), if_neg (by decide), if_neg (by decide), if_neg (by decide), if_neg (by decide), if_neg (by decide), if_pos (show nI 7 = 7 from rfl), g 7 (by decide) (by decide)]; rfl
theorem t_acc8 : F_X5_account w 8 = some (.inr (gI w 0 8, w)) := by
  unfold F_X5_account
  rw [if_neg (by decide), if_neg (by decide), if_neg (by decide), if_neg (by decide), if_neg (by decide), if_neg (by decide), if_neg (by decide), if_neg (by decide), if_pos rfl]
theorem t_acc9 : F_X5_account w 9 = some (.inr (gI w 4 2, w)) := by
  unfold F_X5_account
  rw [if_neg (by decide), if_neg (by decide), if_neg (by decide), if_neg (by decide), if_neg (by decide), if_neg (by decide), if_neg (by decide), if_neg (by decide), if_neg (by decide), if_pos rfl]
theorem t_bo (hB : B.ok) (hC : CB w 1 B) : F_X5_boardOf w 0 = some (.inr (nI B.r, w)) ∧ F_X5_boardOf w 1 = some (.inr (nI B.c, w)) ∧ F_X5_boardOf w 2 = some (.inr (nI (2 * (B.r + B.c)), w)) := by
  refine ⟨?_, ?_, ?_⟩
  · unfold F_X5_boardOf; rw [if_pos rfl, hC.1]
  · unfold F_X5_boardOf; rw [if_neg (by decide), if_pos rfl, hC.2.1]
  · unfold F_X5_boardOf; rw [if_neg (by decide), if_neg (by decide), if_pos rfl, c_turns hB hC]
theorem t_letter (hB : B.ok) (hC : CB w 1 B) {p : Nat} (hp : p < B.n) : F_X5_letter w (nI p) = some (.inr (sgI (B.cell p), w)) := by
  have hd := dims hB
  have hcp := hB.2.2.1 p hp
  unfold F_X5_letter F_X5_needIndex
  rw [c_hasPlace_in hB hC hp, if_neg (by decide), Option.bind_some]
  show some (Sum.inr (F_X5_signOf (F_X5_codeAt (gL w 1 2) (nI p)), w)) = _
  rw [codeAt_nib (by omega), hC.2.2.1 p hp, signOf_nI _ (by omega)]
theorem t_sign (hB : B.ok) (hC : CB w 1 B) {p : Nat} (hp : p < B.n) : F_X5_sign w (nI p) = some (.inr (sgI (B.goal p), w)) := by
  have hd := dims hB
  have hcp := hB.2.2.2.1 p hp
  unfold F_X5_sign F_X5_needIndex
  rw [c_hasPlace_in hB hC hp, if_neg (by decide), Option.bind_some]
  show some (Sum.inr (F_X5_signOf (F_X5_codeAt (gL w 1 3) (nI p)), w)) = _
  rw [codeAt_nib (by omega), hC.2.2.2.1 p hp, signOf_nI _ (by omega)]
theorem t_barred (hB : B.ok) (hC : CB w 1 B) {l : Nat} (hl : l < B.r + B.c) : F_X5_isBarred w (nI l) = some (.inr (bI (B.bar l), w)) := by
  have hd := dims hB
  unfold F_X5_isBarred F_X5_needIndex
  rw [c_hasLine_in hB hC hl, if_neg (by decide), Option.bind_some]
  show some (Sum.inr (F_X0_hasBar w (nI l), w)) = _
  rw [c_hasBar hB hC (by omega)]
def fo2 (g : Int32 → Nat → Int32) : Int32 → Nat → Nat → Int32
  | a, _, 0 => a
  | a, k, d + 1 => fo2 g (g a k) (k + 1) d
theorem jl3_fold {ρ : Type} {f : (Wo → Int32 → Int32 → Option ρ) → Wo → Int32 → Int32 → Option ρ} {w : Wo} {g : Int32 → Nat → Int32} {e : Int32 → Option ρ} {m : Nat} (hs : ∀ k, k < m → ∀ K a, f K w a (nI k) = K w (g a k) (nI (k + 1))) (he : ∀ K a, f K w a (nI m) = e a) : ∀ (d k F : Nat) (a : Int32), k + d = m → d < F → jl3 f F w a (nI k) = e (fo2 g a k d)
  | 0, k, F, a, hk, hF => by
    obtain ⟨F, rfl⟩ : ∃ F', F = F' + 1 := ⟨F - 1, by omega⟩
    obtain rfl : k = m := by omega
    exact he _ _
  | d + 1, k, F, a, hk, hF => by
    obtain ⟨F, rfl⟩ : ∃ F', F = F' + 1 := ⟨F - 1, by omega⟩
    show f (jl3 f F) w a (nI k) = _
    rw [hs k (by omega)]
    exact jl3_fold hs he d (k + 1) F _ (by omega) (by omega)
def stS (B : Bd) : Int32 :=
  fo2 (fun s l => (31 : Int32) * s + bI (B.bar l)) (fo2 (fun s p => ((31 : Int32) * (((31 : Int32) * s) + sgI (B.cell p))) + sgI (B.goal p)) (fo2 (fun s k => (31 : Int32) * s + (if k = 0 then nI B.r else nI B.c)) (fo2 (fun s k => (31 : Int32) * s + accV B k) 0 0 8) 0 2) 0 B.n) 0 (B.r + B.c)
theorem half_n : ∀ n, n < 7 → nI (2 * n) / 2 = nI n := by decide +kernel
theorem st_tell (hB : B.ok) (hC : CB w 1 B) : F_L_state w = some (.inr (stS B, w)) := by
  have hd := dims hB
  have hn := hd
  have h4 : ∀ a, B_L_state_88 w a = some (.inr (fo2 (fun s l => (31 : Int32) * s + bI (B.bar l)) a 0 (B.r + B.c), w)) := by
    intro a
    unfold B_L_state_88
    refine jl3_fold (m := B.r + B.c) (g := fun s l => (31 : Int32) * s + bI (B.bar l)) (e := fun a => (some (Sum.inr (a, w)) : Option ((Nat × Wo) ⊕ (Int32 × Wo)))) (fun k hk K a => ?_) (fun K a => ?_) (B.r + B.c) 0 fu a (by omega) (by rw [fu4]; omega)
    · unfold B_L_state_90
      rw [(t_bo hB hC).2.2, Option.bind_some, Sum.elim_inr]
      dsimp only
      rw [half_n _ (by omega), if_neg (nI_ge hk (by omega)), t_barred hB hC hk, Option.bind_some, Sum.elim_inr]
      dsimp only
      unfold B_L_state_118
      cases B.bar k
      · rw [if_pos (show bI false = 0 from rfl), nI_1]
        rfl
      · rw [if_neg (show ¬ bI true = 0 by decide), nI_1]
        rfl
    · unfold B_L_state_90
      rw [(t_bo hB hC).2.2, Option.bind_some, Sum.elim_inr]
      dsimp only
      rw [half_n _ (by omega), if_pos (nI_le (by omega) (by omega))]
  have h3 : ∀ a, B_L_state_51 w a = B_L_state_88 w (fo2 (fun s p => ((31 : Int32) * (((31 : Int32) * s) + sgI (B.cell p))) + sgI (B.goal p)) a 0 B.n) := by
    intro a
    unfold B_L_state_51
    refine jl3_fold (m := B.n) (e := fun a => B_L_state_88 w a) (fun k hk K a => ?_) (fun K a => ?_) B.n 0 fu a (by omega) (by rw [fu4]; omega)
    · unfold B_L_state_53 B_L_state_82
      rw [show F_X5_account w 0 = _ from t_acc hB hC 0 (by decide), Option.bind_some, Sum.elim_inr]
      dsimp only
      rw [show accV B 0 = nI B.n from rfl, if_neg (nI_ge hk (by omega)), t_letter hB hC hk, Option.bind_some, Sum.elim_inr]
      dsimp only
      rw [t_sign hB hC hk, Option.bind_some, Sum.elim_inr]
      dsimp only
      rw [nI_1]
    · unfold B_L_state_53
      rw [show F_X5_account w 0 = _ from t_acc hB hC 0 (by decide), Option.bind_some, Sum.elim_inr]
      dsimp only
      rw [show accV B 0 = nI B.n from rfl, if_pos (nI_le (by omega) (by omega))]
  have h2 : ∀ a, B_L_state_27 w a = B_L_state_51 w (fo2 (fun s k => (31 : Int32) * s + (if k = 0 then nI B.r else nI B.c)) a 0 2) := by
    intro a
    unfold B_L_state_27
    refine jl3_fold (m := 2) (e := fun a => B_L_state_51 w a) (fun k hk K a => ?_) (fun K a => ?_) 2 0 fu a (by omega) (by rw [fu4]; omega)
    · match k, hk with
      | 0, _ => unfold B_L_state_29; rw [if_neg (by decide), show F_X5_boardOf w (nI 0) = _ from (t_bo hB hC).1, Option.bind_some, Sum.elim_inr]; rfl
      | 1, _ => unfold B_L_state_29; rw [if_neg (by decide), show F_X5_boardOf w (nI 1) = _ from (t_bo hB hC).2.1, Option.bind_some, Sum.elim_inr]; rfl
    · unfold B_L_state_29
      rw [if_pos (by decide)]
  unfold F_L_state
  have h1 : jl3 B_L_state_4 fu w 0 (nI 0) = B_L_state_27 w (fo2 (fun s k => (31 : Int32) * s + accV B k) 0 0 8) := by
    refine jl3_fold (m := 8) (g := fun s k => (31 : Int32) * s + accV B k) (e := fun a => B_L_state_27 w a) (fun k hk K a => ?_) (fun K a => ?_) 8 0 fu 0 (by omega) (by rw [fu4]; omega)
    · have z : ∀ k, k < 8 → ¬ (8 : Int32) ≤ nI k := by decide +kernel
      unfold B_L_state_4
      rw [if_neg (z k hk), t_acc hB hC k hk, Option.bind_some, Sum.elim_inr]
      dsimp only
      rw [nI_1]
    · unfold B_L_state_4
      rw [if_pos (by decide)]
  rw [show jl3 B_L_state_4 fu w 0 0 = _ from h1, h2, h3, h4]
  rfl
end TELL
