/-! THE STATE THAT BOTH HOLD: board, snapshot, history, input, error, reason, line -/
def Abs : Type := Bd × (Bool × Bd) × (Nat × (Nat → Bd)) × (Nat × (Nat → Int32)) × Int32 × (Nat × Int32) × (Nat × (Nat → Int32))
def Abs.B (A : Abs) : Bd := A.1
def Abs.sv (A : Abs) : Bool := A.2.1.1
def Abs.S (A : Abs) : Bd := A.2.1.2
def Abs.ct (A : Abs) : Nat := A.2.2.1.1
def Abs.hs (A : Abs) : Nat → Bd := A.2.2.1.2
def Abs.tl (A : Abs) : Nat := A.2.2.2.1.1
def Abs.ip (A : Abs) : Nat → Int32 := A.2.2.2.1.2
def Abs.er (A : Abs) : Int32 := A.2.2.2.2.1
def Abs.wy (A : Abs) : Nat := A.2.2.2.2.2.1.1
def Abs.dt (A : Abs) : Int32 := A.2.2.2.2.2.1.2
def Abs.ll (A : Abs) : Nat := A.2.2.2.2.2.2.1
def Abs.ln (A : Abs) : Nat → Int32 := A.2.2.2.2.2.2.2
def mkA (B : Bd) (sv : Bool) (S : Bd) (ct : Nat) (hs : Nat → Bd) (tl : Nat) (ip : Nat → Int32) (er : Int32) (wy : Nat) (dt : Int32) (ll : Nat) (ln : Nat → Int32) : Abs := (B, (sv, S), (ct, hs), (tl, ip), er, (wy, dt), (ll, ln))
def isCh (x : Int32) : Prop := (x.toUInt32 % 65536).toInt32 = x
def Aok (A : Abs) : Prop := A.B.ok ∧ (A.sv = true → A.S.ok) ∧ A.ct ≤ 8 ∧ (∀ i, i < A.ct → (A.hs i).ok) ∧ A.tl ≤ 60 ∧ (∀ i, i < A.tl → isCh (A.ip i)) ∧ A.wy < 6 ∧ A.ll ≤ 11 ∧ ∀ i, i < A.ll → isCh (A.ln i)
def wyC (n : Nat) : Int32 := if n = 0 then -1 else nI n
def hix (nx ct i : Nat) : Nat := 6 + (nx + 8 - ct + i) % 8
def CI (w : Wo) (A : Abs) : Prop := CB w 1 A.B ∧ (gI w 0 12 = bI A.sv ∧ (A.sv = true → CB w 3 A.S)) ∧ (∃ nx, nx < 8 ∧ gI w 4 1 = nI nx ∧ gI w 4 2 = nI A.ct ∧ ∀ i, i < A.ct → CB w (hix nx A.ct i) (A.hs i)) ∧ (gI w 0 8 = nI A.tl ∧ ∀ i, i < A.tl → gI w 25 i = A.ip i) ∧ gI w 0 9 = A.er ∧ (gI w 0 10 = wyC A.wy ∧ (A.wy ≠ 0 → gI w 0 11 = A.dt)) ∧ (gI w 19 1 = nI A.ll ∧ ∀ i, i < A.ll → gI w 20 i = A.ln i)
def MI (w : Wo) (A : Abs) : Prop := MB w 27 0 A.B ∧ (gI w 26 5 = bI A.sv ∧ (A.sv = true → MB w 30 0 A.S)) ∧ (gI w 26 3 = nI A.ct ∧ ∀ i, i < A.ct → MB w 29 (32 * i) (A.hs i)) ∧ (gI w 26 7 = nI A.tl ∧ ∀ i, i < A.tl → gI w 31 i = A.ip i) ∧ gI w 26 8 = A.er ∧ (gI w 26 9 = nI A.wy ∧ (A.wy ≠ 0 → gI w 26 10 = A.dt)) ∧ (gI w 26 13 = nI A.ll ∧ ∀ i, i < A.ll → gI w 32 i = A.ln i)
def Inv (w : Wo) : Prop := ∃ A, Aok A ∧ CI w A ∧ MI w A
theorem CB_cg {w w' : Wo} {h : Nat} {B : Bd} (hs : ∀ b, gI w' h b = gI w h b ∧ gL w' h b = gL w h b) (hC : CB w h B) : CB w' h B := by
  obtain ⟨h1, h2, h3, h4, ⟨N, h5, h6, h7⟩, h8⟩ := hC
  refine ⟨(hs _).1.trans h1, (hs _).1.trans h2, fun p hp => ?_, fun p hp => ?_, ⟨N, h5, (hs _).1.trans h6, h7⟩, fun i a b => (hs _).1.trans (h8 i a b)⟩
  · rw [(hs 2).2]; exact h3 p hp
  · rw [(hs 3).2]; exact h4 p hp
theorem MB_cg {w w' : Wo} {h o : Nat} {B : Bd} (hs : ∀ b, gI w' h b = gI w h b) (hM : MB w h o B) : MB w' h o B := by
  obtain ⟨h1, h2, h3, h4, h5, h6⟩ := hM
  exact ⟨(hs _).trans h1, (hs _).trans h2, fun p hp => (hs _).trans (h3 p hp), fun p hp => (hs _).trans (h4 p hp), fun l hl => (hs _).trans (h5 l hl), fun i h7 h8 => (hs _).trans (h6 i h7 h8)⟩
abbrev cD : List Nat := [0, 1, 3, 4, 6, 7, 8, 9, 10, 11, 12, 13, 19, 20, 25]
abbrev mD : List Nat := [27, 29, 30, 31, 32]
abbrev mF : List Nat := [3, 5, 7, 8, 9, 10, 13]
theorem hix_mem (nx ct i : Nat) : hix nx ct i ∈ cD := by
  unfold hix
  have h : (nx + 8 - ct + i) % 8 < 8 := Nat.mod_lt _ (by decide)
  generalize (nx + 8 - ct + i) % 8 = y at h
  have : ∀ y, y < 8 → 6 + y ∈ cD := by decide
  exact this y h
theorem hix_r (nx ct i : Nat) : 6 ≤ hix nx ct i ∧ hix nx ct i < 14 := by
  unfold hix
  have h : (nx + 8 - ct + i) % 8 < 8 := Nat.mod_lt _ (by decide)
  omega
theorem CI_cg {w w' : Wo} {A : Abs} (hs : ∀ a, a ∈ cD → ∀ b, gI w' a b = gI w a b ∧ gL w' a b = gL w a b) (h : CI w A) : CI w' A := by
  obtain ⟨h1, ⟨h2, h3⟩, ⟨nx, h4, h5, h6, h7⟩, ⟨h8, h9⟩, h10, ⟨h11, h12⟩, ⟨h13, h14⟩⟩ := h
  exact ⟨CB_cg (hs 1 (by decide)) h1, ⟨((hs 0 (by decide)) _).1.trans h2, fun e => CB_cg (hs 3 (by decide)) (h3 e)⟩, ⟨nx, h4, ((hs 4 (by decide)) _).1.trans h5, ((hs 4 (by decide)) _).1.trans h6, fun i hi => CB_cg (hs _ (hix_mem _ _ _)) (h7 i hi)⟩, ⟨((hs 0 (by decide)) _).1.trans h8, fun i hi => ((hs 25 (by decide)) _).1.trans (h9 i hi)⟩, ((hs 0 (by decide)) _).1.trans h10, ⟨((hs 0 (by decide)) _).1.trans h11, fun e => ((hs 0 (by decide)) _).1.trans (h12 e)⟩, ⟨((hs 19 (by decide)) _).1.trans h13, fun i hi => ((hs 20 (by decide)) _).1.trans (h14 i hi)⟩⟩
theorem MI_cg {w w' : Wo} {A : Abs} (hs : ∀ a, a ∈ mD → ∀ b, gI w' a b = gI w a b) (hf : ∀ b, b ∈ mF → gI w' 26 b = gI w 26 b) (h : MI w A) : MI w' A := by
  obtain ⟨h1, ⟨h2, h3⟩, ⟨h6, h7⟩, ⟨h8, h9⟩, h10, ⟨h11, h12⟩, ⟨h13, h14⟩⟩ := h
  exact ⟨MB_cg (hs 27 (by decide)) h1, ⟨(hf 5 (by decide)).trans h2, fun e => MB_cg (hs 30 (by decide)) (h3 e)⟩, ⟨(hf 3 (by decide)).trans h6, fun i hi => MB_cg (hs 29 (by decide)) (h7 i hi)⟩, ⟨(hf 7 (by decide)).trans h8, fun i hi => ((hs 31 (by decide)) _).trans (h9 i hi)⟩, (hf 8 (by decide)).trans h10, ⟨(hf 9 (by decide)).trans h11, fun e => (hf 10 (by decide)).trans (h12 e)⟩, ⟨(hf 13 (by decide)).trans h13, fun i hi => ((hs 32 (by decide)) _).trans (h14 i hi)⟩⟩
/-- the class's things, the reference's things are as before -/
def AgC (w w' : Wo) : Prop := ∀ a b, a < 26 → gI w' a b = gI w a b ∧ gL w' a b = gL w a b
def AgM (w w' : Wo) : Prop := ∀ a b, 26 ≤ a → a < 36 → gI w' a b = gI w a b ∧ gL w' a b = gL w a b
theorem AgM.rf {w : Wo} : AgM w w := fun _ _ _ _ => ⟨rfl, rfl⟩
theorem AgC.rf {w : Wo} : AgC w w := fun _ _ _ => ⟨rfl, rfl⟩
theorem AgM.tr {w w' w2 : Wo} (h : AgM w w') (h2 : AgM w' w2) : AgM w w2 := fun a b h3 h4 => ⟨(h2 a b h3 h4).1.trans (h a b h3 h4).1, (h2 a b h3 h4).2.trans (h a b h3 h4).2⟩
theorem AgC.tr {w w' w2 : Wo} (h : AgC w w') (h2 : AgC w' w2) : AgC w w2 := fun a b h3 => ⟨(h2 a b h3).1.trans (h a b h3).1, (h2 a b h3).2.trans (h a b h3).2⟩
theorem AgM.pL {w : Wo} {h k : Nat} {v : Int64} (hh : h < 26 ∨ 36 ≤ h) : AgM w (pL w h k v) := fun a b h1 h2 => ⟨rfl, by rw [gL_pL, if_neg (by omega)]⟩
theorem AgM.pI {w : Wo} {h k : Nat} {v : Int32} (hh : h < 26 ∨ 36 ≤ h) : AgM w (pI w h k v) := fun a b h1 h2 => ⟨by rw [gI_pI, if_neg (by omega)], rfl⟩
theorem CI.ag {w w' : Wo} {A : Abs} (hs : AgC w w') (h : CI w A) : CI w' A := CI_cg (fun a ha b => hs a b (by
  have : ∀ a, a ∈ cD → a < 26 := by decide
  exact this a ha)) h
theorem MI.ag {w w' : Wo} {A : Abs} (hs : AgM w w') (h : MI w A) : MI w' A := MI_cg (fun a ha b => (hs a b (by
  have : ∀ a, a ∈ mD → 26 ≤ a := by decide
  exact this a ha) (by
  have : ∀ a, a ∈ mD → a < 36 := by decide
  exact this a ha)).1) (fun b _ => (hs 26 b (by decide) (by decide)).1) h
theorem CI.pL36 {w : Wo} {A : Abs} {v : Int64} (h : CI w A) : CI (pL w 36 0 v) A := CI.ag (show AgC w (pL w 36 0 v) from fun a b ha => ⟨rfl, by rw [gL_pL, if_neg (by omega)]⟩) h
/-- what the reference changes: the things of D, and of its own object the fields of F -/
def Kf (D F : List Nat) (w w' : Wo) : Prop := (∀ a b, a ∉ D → (a = 26 → b ∉ F) → gI w' a b = gI w a b) ∧ (∀ a b, gL w' a b = gL w a b) ∧ ∀ a b, gD w' a b = gD w a b
theorem Kf.rf {D F : List Nat} {w : Wo} : Kf D F w w := ⟨fun _ _ _ _ => rfl, fun _ _ => rfl, fun _ _ => rfl⟩
theorem Kf.tr {D F D1 F1 D2 F2 : List Nat} {w w' w2 : Wo} (h : Kf D1 F1 w w') (h2 : Kf D2 F2 w' w2) (s1 : D1 ⊆ D) (s2 : F1 ⊆ F) (s3 : D2 ⊆ D) (s4 : F2 ⊆ F) : Kf D F w w2 :=
  ⟨fun a b ha hb => (h2.1 a b (fun q => ha (s3 q)) (fun e q => hb e (s4 q))).trans (h.1 a b (fun q => ha (s1 q)) (fun e q => hb e (s2 q))), fun a b => (h2.2.1 a b).trans (h.2.1 a b), fun a b => (h2.2.2 a b).trans (h.2.2 a b)⟩
theorem Kf.mono {D F D1 F1 : List Nat} {w w' : Wo} (h : Kf D1 F1 w w') (s1 : D1 ⊆ D) (s2 : F1 ⊆ F) : Kf D F w w' := ⟨fun a b ha hb => h.1 a b (fun q => ha (s1 q)) (fun e q => hb e (s2 q)), h.2⟩
theorem Keep.kf {D F : List Nat} {w w' : Wo} (h : Keep D w w') : Kf D F w w' := ⟨fun a b ha _ => h.1 a b ha, h.2⟩
theorem Kf.p26 {D F : List Nat} {w : Wo} {k : Nat} {v : Int32} (hk : k ∈ F) : Kf D F w (pI w 26 k v) := ⟨fun a b _ hb => by
  rw [gI_pI, if_neg]
  rintro ⟨e1, e2⟩
  exact hb e1 (by rw [e2]; exact hk), fun _ _ => rfl, fun _ _ => rfl⟩
theorem Kf.pI {D F : List Nat} {w : Wo} {h k : Nat} {v : Int32} (hh : h ∈ D) : Kf D F w (pI w h k v) := ⟨fun a b ha _ => by
  rw [gI_pI, if_neg]
  rintro ⟨e1, e2⟩
  exact ha (by rw [e1]; exact hh), fun _ _ => rfl, fun _ _ => rfl⟩
theorem Kf.mb {D F : List Nat} {w w' : Wo} {h o : Nat} {B : Bd} (hk : Kf D F w w') (hh : h ∉ D) (h26 : h ≠ 26) (hM : MB w h o B) : MB w' h o B := MB_cg (fun b => hk.1 h b hh (fun e => absurd e h26)) hM
theorem Kf.agc {D F : List Nat} {w w' : Wo} (hk : Kf D F w w') (hD : ∀ a, a ∈ D → 26 ≤ a) : AgC w w' := fun a b ha => ⟨hk.1 a b (fun q => by have := hD a q; omega) (fun e => by omega), hk.2.1 a b⟩
theorem Kf.mi {D F : List Nat} {w w' : Wo} {A : Abs} (hk : Kf D F w w') (hD : ∀ a, a ∈ mD → a ∉ D) (h26 : 26 ∉ D) (hF : ∀ b, b ∈ mF → b ∉ F) (h : MI w A) : MI w' A :=
  MI_cg (fun a ha b => hk.1 a b (hD a ha) (fun e => by
    have : ∀ a, a ∈ mD → a ≠ 26 := by decide
    exact absurd e (this a ha))) (fun b hb => hk.1 26 b h26 (fun _ => hF b hb)) h
/-! how a case of the law ends -/
/-- the reference's call, from a state that holds A: it throws k, or answers v; then it holds A' -/
def MO (A A' : Abs) (k v : Int32) (FM : Wo → Option (Int32 × Wo)) : Prop := ∀ u, MI u A → ∃ u2, FM u = some (v, u2) ∧ gI u2 26 14 = k ∧ MI u2 A' ∧ AgC u u2 ∧ ∀ a b, gL u2 a b = gL u a b
/-- the same of a call that only reads -/
def RO (B : Bd) (k v : Int32) (FM : Wo → Option (Int32 × Wo)) : Prop := ∀ u, MB u 27 0 B → ∃ u2, FM u = some (v, u2) ∧ gI u2 26 14 = k ∧ Kf [33, 34] [11, 14, 17] u u2
theorem RO.mo {A : Abs} {k v : Int32} {FM : Wo → Option (Int32 × Wo)} (h : RO A.B k v FM) : MO A A k v FM := by
  intro u hu
  obtain ⟨u2, h1, h2, h3⟩ := h u hu.1
  exact ⟨u2, h1, h2, h3.mi (by decide) (by decide) (by decide) hu, h3.agc (by decide), h3.2.1⟩
/-- of calls that throw nothing -/
theorem fin_p {w : Wo} {A A' : Abs} {FC : Option (Int32 × Wo)} {FM : Wo → Option (Int32 × Wo)} {v : Int32} {w1 : Wo} {k : Int32} (hM : MI w A) (hA : Aok A') (hc : FC = some (v, w1)) (hC : CI w1 A') (hg : AgM w w1) (hm : MO A A' k v FM) :
    ∃ w', (FC.bind fun q1 => ((FM q1.2).bind fun q2 => (jchk (q1.1 = q2.1) (some q2.2)))) = some w' ∧ Inv w' := by
  obtain ⟨u2, h1, h2, h3, h4, h5⟩ := hm w1 (hM.ag hg)
  refine ⟨u2, ?_, A', hA, hC.ag h4, h3⟩
  rw [hc, Option.bind_some, h1, Option.bind_some, jchk_pos rfl]
theorem fin_q {w : Wo} {A : Abs} {FC : Option Int32} {FM : Wo → Option (Int32 × Wo)} {v : Int32} {k : Int32} (hM : MI w A) (hA : Aok A) (hc : FC = some v) (hC : CI w A) (hm : MO A A k v FM) :
    ∃ w', (FC.bind fun q1 => ((FM w).bind fun q2 => (jchk (q1 = q2.1) (some q2.2)))) = some w' ∧ Inv w' := by
  obtain ⟨u2, h1, h2, h3, h4, h5⟩ := hm w hM
  refine ⟨u2, ?_, A, hA, hC.ag h4, h3⟩
  rw [hc, Option.bind_some, h1, Option.bind_some, jchk_pos rfl]
theorem pI_same {w : Wo} {h k : Nat} {v : Int32} : gI (pI w h k v) h k = v := by rw [gI_pI, if_pos ⟨rfl, rfl⟩]
