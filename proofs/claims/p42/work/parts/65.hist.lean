/-! COPIES, THE HISTORY -/
/-- what a class's copy changes: the one thing -/
def Kh (h : Nat) (w w' : Wo) : Prop := ∀ a b, a ≠ h → gI w' a b = gI w a b ∧ gL w' a b = gL w a b
theorem CB.mv {w w' : Wo} {h h' : Nat} {B : Bd} (hs : ∀ b, b < 11 → gI w' h' b = gI w h b ∧ gL w' h' b = gL w h b) (hC : CB w h B) : CB w' h' B := by
  obtain ⟨h1, h2, h3, h4, ⟨N, h5, h6, h7⟩, h8⟩ := hC
  refine ⟨(hs 0 (by decide)).1.trans h1, (hs 1 (by decide)).1.trans h2, fun p hp => ?_, fun p hp => ?_, ⟨N, h5, (hs 4 (by decide)).1.trans h6, h7⟩, fun i a b => (hs _ (by omega)).1.trans (h8 i a b)⟩
  · rw [(hs 2 (by decide)).2]; exact h3 p hp
  · rw [(hs 3 (by decide)).2]; exact h4 p hp
theorem c_copy {w : Wo} {h0 h1 : Nat} (hne : h1 ≠ h0) {B : Bd} (hC : CB w h1 B) : ∃ w', F_X0_copy h0 h1 w = some w' ∧ CB w' h0 B ∧ Kh h0 w w' := by
  refine ⟨pI (pI (pI (pI (pI (pI (pI (pL (pL (pI (pI w h0 0 (gI w h1 0)) h0 1 (gI w h1 1)) h0 2 (gL w h1 2)) h0 3 (gL w h1 3)) h0 4 (gI w h1 4)) h0 5 (gI w h1 5)) h0 6 (gI w h1 6)) h0 7 (gI w h1 7)) h0 8 (gI w h1 8)) h0 9 (gI w h1 9)) h0 10 (gI w h1 10), ?_, ?_, fun a b ha => ?_⟩
  · unfold F_X0_copy B_X0_copy_8 B_X0_copy_16 B_X0_copy_24 B_X0_copy_32 B_X0_copy_40 B_X0_copy_48 B_X0_copy_56 B_X0_copy_64 B_X0_copy_72 B_X0_copy_80
    simp [gI_pI, gL_pI, gI_pL, gL_pL, hne]
  · obtain ⟨h1, h2, h3, h4, ⟨N, h5, h6, h7⟩, h8⟩ := hC
    refine ⟨?_, ?_, fun p hp => ?_, fun p hp => ?_, ⟨N, h5, ?_, h7⟩, fun i a b => ?_⟩
    · rw [← h1]
      simp [gI_pI, gI_pL]
    · rw [← h2]
      simp [gI_pI, gI_pL]
    · rw [← h3 p hp]
      simp [gL_pI, gL_pL]
    · rw [← h4 p hp]
      simp [gL_pI, gL_pL]
    · rw [← h6]
      simp [gI_pI, gI_pL]
    · rw [← h8 i a b]
      have hi : i = 2 ∨ i = 3 ∨ i = 4 ∨ i = 5 ∨ i = 6 ∨ i = 7 := by omega
      rcases hi with rfl | rfl | rfl | rfl | rfl | rfl <;> simp [gI_pI, gI_pL]
  · constructor <;> simp [gI_pI, gI_pL, gL_pI, gL_pL, ha]
theorem mb_setr {w : Wo} {h0 h2 o1 o3 : Nat} {B : Bd} (hB : B.ok) (hM : MB w h0 o1 B) : MB (setr w h2 o3 32 (fun k => gI w h0 (o1 + k))) h2 o3 B := by
  have hd := dims hB
  have g : ∀ k, k < 32 → gI (setr w h2 o3 32 (fun k => gI w h0 (o1 + k))) h2 (o3 + k) = gI w h0 (o1 + k) := by
    intro k hk
    rw [gI_setr, if_pos ⟨rfl, by omega, by omega⟩, Nat.add_sub_cancel_left]
  obtain ⟨h1, h2, h3, h4, h5, h6⟩ := hM
  refine ⟨(g 0 (by decide)).trans h1, (g 1 (by decide)).trans h2, fun p hp => ?_, fun p hp => ?_, fun l hl => ?_, fun i a b => (g i (by omega)).trans (h6 i a b)⟩
  · rw [Nat.add_assoc, g _ (by omega), ← Nat.add_assoc]
    exact h3 p hp
  · rw [Nat.add_assoc, g _ (by omega), ← Nat.add_assoc]
    exact h4 p hp
  · rw [Nat.add_assoc, g _ (by omega), ← Nat.add_assoc]
    exact h5 l hl
theorem mb_setr_far {w : Wo} {h2 o3 n o : Nat} {f : Nat → Int32} {B : Bd} (hB : B.ok) (hM : MB w h2 o B) (hf : o + 32 ≤ o3 ∨ o3 + n ≤ o) : MB (setr w h2 o3 n f) h2 o B := by
  have hd := dims hB
  have g : ∀ k, k < 32 → gI (setr w h2 o3 n f) h2 (o + k) = gI w h2 (o + k) := by
    intro k hk
    rw [gI_setr, if_neg (by omega)]
  obtain ⟨h1, h2, h3, h4, h5, h6⟩ := hM
  refine ⟨(g 0 (by decide)).trans h1, (g 1 (by decide)).trans h2, fun p hp => ?_, fun p hp => ?_, fun l hl => ?_, fun i a b => (g i (by omega)).trans (h6 i a b)⟩
  · rw [Nat.add_assoc, g _ (by omega), ← Nat.add_assoc]
    exact h3 p hp
  · rw [Nat.add_assoc, g _ (by omega), ← Nat.add_assoc]
    exact h4 p hp
  · rw [Nat.add_assoc, g _ (by omega), ← Nat.add_assoc]
    exact h5 l hl
theorem kf_setr {D F : List Nat} {w : Wo} {h o n : Nat} {f : Nat → Int32} (hh : h ∈ D) : Kf D F w (setr w h o n f) := ⟨fun a b ha _ => gI_setr_ne (fun q => ha (by rw [q]; exact hh)), fun _ _ => rfl, fun _ _ => rfl⟩
/-- a history with one board more -/
def hsP (ct : Nat) (hs : Nat → Bd) (B : Bd) : Nat → Bd := if ct = 8 then (fun i => if i = 7 then B else hs (i + 1)) else (fun i => if i = ct then B else hs i)
def ctP (ct : Nat) : Nat := if ct = 8 then 8 else ct + 1
/-- the class's history -/
def HC (w : Wo) (ct : Nat) (hs : Nat → Bd) : Prop := ∃ nx, nx < 8 ∧ gI w 4 1 = nI nx ∧ gI w 4 2 = nI ct ∧ ∀ i, i < ct → CB w (hix nx ct i) (hs i)
def HM (w : Wo) (ct : Nat) (hs : Nat → Bd) : Prop := gI w 26 3 = nI ct ∧ ∀ i, i < ct → MB w 29 (32 * i) (hs i)
/-- the class's rings' things -/
abbrev rgD : List Nat := [4, 6, 7, 8, 9, 10, 11, 12, 13]
def Kd (D : List Nat) (w w' : Wo) : Prop := ∀ a b, a ∉ D → gI w' a b = gI w a b ∧ gL w' a b = gL w a b
theorem Kd.rf {D : List Nat} {w : Wo} : Kd D w w := fun _ _ _ => ⟨rfl, rfl⟩
theorem Kd.tr {D D1 D2 : List Nat} {w w' w2 : Wo} (h : Kd D1 w w') (h2 : Kd D2 w' w2) (s1 : D1 ⊆ D) (s2 : D2 ⊆ D) : Kd D w w2 := fun a b ha => ⟨(h2 a b (fun q => ha (s2 q))).1.trans (h a b (fun q => ha (s1 q))).1, (h2 a b (fun q => ha (s2 q))).2.trans (h a b (fun q => ha (s1 q))).2⟩
theorem Kd.pI {D : List Nat} {w : Wo} {h k : Nat} {v : Int32} (hh : h ∈ D) : Kd D w (pI w h k v) := fun a b ha => ⟨by
  rw [gI_pI, if_neg]
  rintro ⟨e, -⟩
  exact ha (by rw [e]; exact hh), rfl⟩
theorem Kd.pL {D : List Nat} {w : Wo} {h k : Nat} {v : Int64} (hh : h ∈ D) : Kd D w (pL w h k v) := fun a b ha => ⟨rfl, by
  rw [gL_pL, if_neg]
  rintro ⟨e, -⟩
  exact ha (by rw [e]; exact hh)⟩
theorem Kh.kd {D : List Nat} {w w' : Wo} {h : Nat} (k : Kh h w w') (hh : h ∈ D) : Kd D w w' := fun a b ha => k a b (fun e => ha (by rw [e]; exact hh))
theorem Kd.cb {D : List Nat} {w w' : Wo} {h : Nat} {B : Bd} (hk : Kd D w w') (hh : h ∉ D) (hC : CB w h B) : CB w' h B := CB_cg (fun b => hk h b hh) hC
theorem Kd.agm {D : List Nat} {w w' : Wo} (hk : Kd D w w') (hD : ∀ a, a ∈ D → a < 26) : AgM w w' := fun a b h1 _ => hk a b (fun q => by have := hD a q; omega)
theorem c_ringAt {w : Wo} {i : Nat} (hi : i < 8) : F_X2_at w (nI i) = some (6 + i) := by
  unfold F_X2_at
  rw [if_neg (nI_pos (by omega)), L8, if_neg (nI_ge hi (by omega)), L0, jchk_nI (by omega) (by omega), nI_clamp (by omega)]
  rfl
theorem shp_ring : ∀ i, i < 8 → (shp (6 + i)).1 = 0 ∧ 6 + i < 26 := by decide
theorem rgD_mem : ∀ i, i < 8 → 6 + i ∈ rgD := by decide
theorem c_keep {w : Wo} {ct : Nat} {hs : Nat → Bd} {h : Nat} {B : Bd} (hh : h = 1 ∨ h = 2) (hH : HC w ct hs) (hct : ct ≤ 8) (hC : CB w h B) : ∃ w', F_X2_keep h w = some w' ∧ HC w' (ctP ct) (hsP ct hs B) ∧ Kd rgD w w' := by
  obtain ⟨nx, h1, h2, h3, h4⟩ := hH
  obtain ⟨w1, g1, g2, g3⟩ := c_copy (h0 := 6 + nx) (h1 := h) (by omega) hC
  have e41 : gI w1 4 1 = nI nx := (g3 4 1 (by omega)).1.trans h2
  have e42 : gI w1 4 2 = nI ct := (g3 4 2 (by omega)).1.trans h3
  obtain ⟨nx', hn⟩ : ∃ nx', nx' = (nx + 1) % 8 := ⟨_, rfl⟩
  have hk : Kd rgD w (pI (pI w1 4 1 (nI nx')) 4 2 (nI (ctP ct))) := (g3.kd (D := rgD) (rgD_mem nx h1)).tr ((Kd.pI (D := [4]) (by decide)).tr (Kd.pI (D := [4]) (by decide)) (D := [4]) (fun _ h => h) (fun _ h => h)) (fun _ h => h) (by decide)
  refine ⟨pI (pI w1 4 1 (nI nx')) 4 2 (nI (ctP ct)), ?_, ⟨nx', by omega, ?_, pI_same, fun i hi => ?_⟩, hk⟩
  · have e2 : jmin (gI w1 4 2 + 1) 8 = nI (ctP ct) := by
      rw [e42]
      have : ∀ ct, ct < 9 → jmin (nI ct + 1) 8 = nI (ctP ct) := by decide
      exact this ct (by omega)
    have e3 : gI (pI w1 4 1 (nI nx')) 4 2 = gI w1 4 2 := by rw [gI_pI, if_neg (by omega)]
    unfold F_X2_keep F_X2_copyBoard B_X2_keep_34 B_X2_keep_37
    rw [h2, c_ringAt h1, Option.bind_some, jchk_pos (shp_ring nx h1), g1, Option.bind_some, Option.bind_some, e41, nI_1]
    by_cases h7 : nx + 1 < 8
    · have e : nx' = nx + 1 := by omega
      rw [L8, if_pos (nI_lt h7 (by omega)), ← e, ← L8, e3, e2]
    · have e : nx' = 0 := by omega
      rw [L8, if_neg (nI_nlt (by omega) (by omega)), show (0 : Int32) = nI nx' by rw [e]; rfl, ← L8, e3, e2]
  · rw [gI_pI, if_neg (by omega), pI_same]
  · have gk : ∀ j, 6 ≤ j → j < 14 → ∀ b, gI (pI (pI w1 4 1 (nI nx')) 4 2 (nI (ctP ct))) j b = gI w1 j b ∧ gL (pI (pI w1 4 1 (nI nx')) 4 2 (nI (ctP ct))) j b = gL w1 j b := fun j ha hb b => ⟨by rw [gI_pI, if_neg (by omega), gI_pI, if_neg (by omega)], rfl⟩
    have hr := hix_r nx' (ctP ct) i
    refine CB_cg (gk _ hr.1 hr.2) ?_
    unfold hsP
    unfold ctP at hi
    by_cases h8 : ct = 8
    · rw [if_pos h8] at hi ⊢
      have e8 : ctP ct = 8 := by unfold ctP; rw [if_pos h8]
      rw [e8]
      by_cases h7 : i = 7
      · have e : hix nx' 8 i = 6 + nx := by unfold hix; omega
        rw [e, h7]
        exact g2
      · have e : hix nx' 8 i = hix nx 8 (i + 1) := by unfold hix; omega
        have e2 : hix nx 8 (i + 1) ≠ 6 + nx := by unfold hix; omega
        show CB w1 _ (if i = 7 then B else hs (i + 1))
        rw [if_neg h7, e]
        have h9 := h4 (i + 1) (by omega)
        rw [h8] at h9
        exact CB_cg (fun b => g3 _ b e2) h9
    · rw [if_neg h8] at hi ⊢
      have e8 : ctP ct = ct + 1 := by unfold ctP; rw [if_neg h8]
      rw [e8]
      by_cases h7 : i = ct
      · have e : hix nx' (ct + 1) i = 6 + nx := by unfold hix; omega
        show CB w1 _ (if i = ct then B else hs i)
        rw [e, if_pos h7]
        exact g2
      · have e : hix nx' (ct + 1) i = hix nx ct i := by unfold hix; omega
        have e2 : hix nx ct i ≠ 6 + nx := by unfold hix; omega
        show CB w1 _ (if i = ct then B else hs i)
        rw [if_neg h7, e]
        exact CB_cg (fun b => g3 _ b e2) (h4 i (by omega))
theorem c_takeBack {w : Wo} {ct : Nat} {hs : Nat → Bd} (hH : HC w (ct + 1) hs) (hct : ct + 1 ≤ 8) : ∃ w', F_X2_takeBack w = some w' ∧ HC w' ct hs ∧ CB w' 1 (hs ct) ∧ Kd [1, 4] w w' := by
  obtain ⟨nx, h1, h2, h3, h4⟩ := hH
  obtain ⟨nx', hn⟩ : ∃ nx', nx' = (nx + 7) % 8 := ⟨_, rfl⟩
  have hk0 : Kd [4] w (pI (pI w 4 1 (nI nx')) 4 2 (nI ct)) := (Kd.pI (D := [4]) (by decide)).tr (Kd.pI (D := [4]) (by decide)) (fun _ h => h) (fun _ h => h)
  have e6 : hix nx (ct + 1) ct = 6 + nx' := by unfold hix; omega
  have hb : CB (pI (pI w 4 1 (nI nx')) 4 2 (nI ct)) (6 + nx') (hs ct) := by
    have h9 := h4 ct (by omega)
    rw [e6] at h9
    exact hk0.cb (by
      simp
      omega) h9
  obtain ⟨w1, g1, g2, g3⟩ := c_copy (h0 := 1) (h1 := 6 + nx') (by omega) hb
  have hk : Kd [1, 4] w w1 := hk0.tr (g3.kd (D := [1]) (by decide)) (by decide) (by decide)
  refine ⟨w1, ?_, ⟨nx', by omega, ?_, ?_, fun i hi => ?_⟩, g2, hk⟩
  · have e3 : gI (pI w 4 1 (nI nx')) 4 2 = gI w 4 2 := by rw [gI_pI, if_neg (by omega)]
    have e4 : jmax (gI w 4 2 - 1) 0 = nI ct := by
      rw [h3]
      have : ∀ ct, ct < 9 → jmax (nI (ct + 1) - 1) 0 = nI ct := by decide
      exact this ct (by omega)
    have e5 : gI (pI (pI w 4 1 (nI nx')) 4 2 (nI ct)) 4 1 = nI nx' := by rw [gI_pI, if_neg (by omega), pI_same]
    have e7 : F_X2_takeBack w = B_X2_takeBack_19 w (nI nx') := by
      unfold F_X2_takeBack
      rw [h2]
      by_cases h0 : 0 < nx
      · rw [if_pos (show (0 : Int32) < nI nx from nI_lt (a := 0) h0 (by omega)), show nI nx - 1 = nI (nx - 1) from pk_sub (b := 1) (by omega), show nx' = nx - 1 by omega]
      · rw [show nx = 0 by omega, if_neg (by decide), show nx' = 7 by omega]
        rfl
    rw [e7]
    unfold B_X2_takeBack_19 B_X2_takeBack_22 B_X2_takeBack_36 F_X2_copyBoard
    rw [e3, e4, e5, c_ringAt (by omega), Option.bind_some, jchk_pos (shp_ring nx' (by omega)), g1, Option.bind_some, Option.bind_some]
  · rw [(g3 4 1 (by omega)).1, gI_pI, if_neg (by omega), pI_same]
  · rw [(g3 4 2 (by omega)).1, pI_same]
  · have e : hix nx' ct i = hix nx (ct + 1) i := by unfold hix; omega
    have hr := hix_r nx (ct + 1) i
    rw [e]
    exact hk.cb (by
      simp
      omega) (h4 i (by omega))
