/-! THE WORLD: the 26 things of a puzzle by number (0 the puzzle itself); what each holds is a function of numbers -/
abbrev vc : List vw_C := [(RX0, TX0, 11), (RX1, TX1, 8), (RX2, TX2, 3), (RX3, TX3, 2), (RX4, TX4, 7), (RX5, TX5, 13), (RJ4, TJ4, 4), (RJ0, TJ0, 4)]
/-- what kind each field is of: 0 a number of 32 bits, 1 of 64, 2 a reference that stays, 3 one that is null at first -/
def kds : Nat → List Nat
  | 0 => [0, 0, 1, 1, 0, 0, 0, 0, 0, 0, 0]
  | 1 => [2, 2, 2, 2, 0, 0, 0, 0]
  | 2 => [2, 0, 0]
  | 3 => [2, 0]
  | 4 => [2, 2, 2, 3, 0, 0, 0]
  | _ => [2, 2, 2, 2, 2, 2, 2, 2, 0, 0, 0, 0, 0]
/-- a thing's shape: below 7 an object of that class; 10 .. 14 a row of int, long, char, double, boards, with its length -/
def shL : List (Nat × Nat) := [(5, 0), (0, 0), (0, 0), (0, 0), (2, 0), (14, 8), (0, 0), (0, 0), (0, 0), (0, 0), (0, 0), (0, 0), (0, 0), (0, 0), (1, 0), (11, 157), (10, 157), (11, 13), (11, 13), (3, 0), (12, 11), (4, 0), (10, 60), (10, 60), (10, 60), (12, 60)]
def shp (h : Nat) : Nat × Nat := shL.getD h (10, 0)
/-- whom a reference names -/
def rf (h k : Nat) : Nat := match h with
  | 0 => [1, 2, 3, 4, 14, 19, 21, 25].getD k 0
  | 4 => 5
  | 5 => 6 + k
  | 14 => 15 + k
  | 19 => 20
  | 21 => 22 + k
  | _ => 0
abbrev Wo : Type := (Nat → Nat → Int32) × (Nat → Nat → Int64) × (Nat → Nat → UInt64)
def gI (w : Wo) (h k : Nat) : Int32 := w.1 h k
def gL (w : Wo) (h k : Nat) : Int64 := w.2.1 h k
def gD (w : Wo) (h k : Nat) : UInt64 := w.2.2 h k
def pI (w : Wo) (h k : Nat) (v : Int32) : Wo := (fun a b => if a = h ∧ b = k then v else w.1 a b, w.2)
def pL (w : Wo) (h k : Nat) (v : Int64) : Wo := (w.1, fun a b => if a = h ∧ b = k then v else w.2.1 a b, w.2.2)
def pD (w : Wo) (h k : Nat) (v : UInt64) : Wo := (w.1, w.2.1, fun a b => if a = h ∧ b = k then v else w.2.2 a b)
/-- what may change: from, to; and all from the third on -/
abbrev Nz : Type := Nat × Nat × Nat
/-- where the world lies: what the tables say of classes, each thing's address, the classes of rows, how many things there are, what may change, the addresses of texts -/
abbrev Pl : Type := va_G × (Nat → Nat) × (Nat → ClassId) × Nat × Nz × (Nat → Nat)
def vq (ad : Nat → Nat) (w : Wo) (h k q : Nat) : Value := match q with
  | 0 => .int (gI w h k)
  | 1 => .long (gL w h k)
  | 2 => .ref (ad (rf h k))
  | _ => if gI w h k = 0 then .null else .ref (ad (rf h k))
def ce (ad : Nat → Nat) (cA : Nat → ClassId) (w : Wo) (h : Nat) : va_E := match (shp h).1 with
  | 10 => .inl (cA 0, (shp h).2, .inl (gI w h))
  | 11 => .inl (cA 1, (shp h).2, .inr (.inl (gL w h)))
  | 12 => .inl (cA 2, (shp h).2, .inl (gI w h))
  | 13 => .inl (cA 3, (shp h).2, .inr (.inr (.inr (.inl (gD w h)))))
  | 14 => .inl (cA 4, (shp h).2, .inr (.inr (.inr (.inr (fun j => some (ad (rf h j)))))))
  | c => .inr (c, (kds c).mapIdx (fun k q => vq ad w h k q))
def wl (ad : Nat → Nat) (cA : Nat → ClassId) (n : Nat) (w : Wo) : va_W := (List.range n).map (fun h => (ad h, ce ad cA w h))
def tyl (cA : Nat → ClassId) : List (ClassId × FieldType) := [(cA 0, .int), (cA 1, .long), (cA 2, .char), (cA 3, .byte), (cA 4, .object "VowelTorus$Board")]
theorem wl_at {ad : Nat → Nat} {cA : Nat → ClassId} {n : Nat} {w : Wo} {h : Nat} (hh : h < n) : (wl ad cA n w)[h]? = some (ad h, ce ad cA w h) := by
  simp [wl, hh]
theorem wl_lt {ad : Nat → Nat} {cA : Nat → ClassId} {n : Nat} {w : Wo} {k : Nat} {q : Nat × va_E} (h : (wl ad cA n w)[k]? = some q) : k < n ∧ q = (ad k, ce ad cA w k) := by
  by_cases hk : k < n
  · rw [wl_at hk] at h
    exact ⟨hk, (Option.some.inj h).symm⟩
  · simp [wl, hk] at h
theorem wl_set {ad : Nat → Nat} {cA : Nat → ClassId} {n : Nat} {w w' : Wo} {h : Nat} {e : va_E} (he : ce ad cA w' h = e) (ho : ∀ j, j ≠ h → ce ad cA w' j = ce ad cA w j) : (wl ad cA n w).set h (ad h, e) = wl ad cA n w' := by
  apply List.ext_getElem?
  intro j
  rw [List.getElem?_set]
  by_cases hj : h = j
  · subst hj
    by_cases hn : h < n
    · rw [if_pos rfl, if_pos (by simpa [wl] using hn), wl_at hn, he]
    · rw [if_pos rfl, if_neg (by simpa [wl] using hn)]
      simp [wl, hn]
  · rw [if_neg hj]
    by_cases hn : j < n
    · rw [wl_at hn, wl_at hn, ho j (fun q => hj q.symm)]
    · simp [wl, hn]
theorem pI_o {ad : Nat → Nat} {cA : Nat → ClassId} {w : Wo} {h k j : Nat} {v : Int32} (hj : j ≠ h) : ce ad cA (pI w h k v) j = ce ad cA w j := by
  have e1 : gI (pI w h k v) j = gI w j := by funext b; simp [gI, pI, hj]
  have e2 : gL (pI w h k v) j = gL w j := by funext b; simp [gL, pI]
  have e3 : gD (pI w h k v) j = gD w j := by funext b; simp [gD, pI]
  have e4 : (fun k2 q => vq ad (pI w h k v) j k2 q) = fun k2 q => vq ad w j k2 q := by funext a b; unfold vq; rw [e1, e2]
  unfold ce
  rw [e1, e2, e3, e4]
theorem pL_o {ad : Nat → Nat} {cA : Nat → ClassId} {w : Wo} {h k j : Nat} {v : Int64} (hj : j ≠ h) : ce ad cA (pL w h k v) j = ce ad cA w j := by
  have e1 : gI (pL w h k v) j = gI w j := by funext b; simp [gI, pL]
  have e2 : gL (pL w h k v) j = gL w j := by funext b; simp [gL, pL, hj]
  have e3 : gD (pL w h k v) j = gD w j := by funext b; simp [gD, pL]
  have e4 : (fun k2 q => vq ad (pL w h k v) j k2 q) = fun k2 q => vq ad w j k2 q := by funext a b; unfold vq; rw [e1, e2]
  unfold ce
  rw [e1, e2, e3, e4]
theorem pD_o {ad : Nat → Nat} {cA : Nat → ClassId} {w : Wo} {h k j : Nat} {v : UInt64} (hj : j ≠ h) : ce ad cA (pD w h k v) j = ce ad cA w j := by
  have e1 : gI (pD w h k v) j = gI w j := by funext b; simp [gI, pD]
  have e2 : gL (pD w h k v) j = gL w j := by funext b; simp [gL, pD]
  have e3 : gD (pD w h k v) j = gD w j := by funext b; simp [gD, pD, hj]
  have e4 : (fun k2 q => vq ad (pD w h k v) j k2 q) = fun k2 q => vq ad w j k2 q := by funext a b; unfold vq; rw [e1, e2]
  unfold ce
  rw [e1, e2, e3, e4]
/-- an object's cell -/
theorem ce_obj {ad : Nat → Nat} {cA : Nat → ClassId} {w : Wo} {h c : Nat} (hs : (shp h).1 = c) (hc : c < 7) : ce ad cA w h = .inr (c, (kds c).mapIdx (fun k q => vq ad w h k q)) := by
  unfold ce
  rw [hs]
  match c, hc with
  | 0, _ => rfl
  | 1, _ => rfl
  | 2, _ => rfl
  | 3, _ => rfl
  | 4, _ => rfl
  | 5, _ => rfl
  | 6, _ => rfl
theorem ce_int {ad : Nat → Nat} {cA : Nat → ClassId} {w : Wo} {h n : Nat} (hs : shp h = (10, n)) : ce ad cA w h = .inl (cA 0, n, .inl (gI w h)) := by unfold ce; rw [hs]; rfl
theorem ce_long {ad : Nat → Nat} {cA : Nat → ClassId} {w : Wo} {h n : Nat} (hs : shp h = (11, n)) : ce ad cA w h = .inl (cA 1, n, .inr (.inl (gL w h))) := by unfold ce; rw [hs]; rfl
theorem ce_char {ad : Nat → Nat} {cA : Nat → ClassId} {w : Wo} {h n : Nat} (hs : shp h = (12, n)) : ce ad cA w h = .inl (cA 2, n, .inl (gI w h)) := by unfold ce; rw [hs]; rfl
theorem ce_dbl {ad : Nat → Nat} {cA : Nat → ClassId} {w : Wo} {h n : Nat} (hs : shp h = (13, n)) : ce ad cA w h = .inl (cA 3, n, .inr (.inr (.inr (.inl (gD w h))))) := by unfold ce; rw [hs]; rfl
theorem ce_ref {ad : Nat → Nat} {cA : Nat → ClassId} {w : Wo} {h n : Nat} (hs : shp h = (14, n)) : ce ad cA w h = .inl (cA 4, n, .inr (.inr (.inr (.inr (fun j => some (ad (rf h j))))))) := by unfold ce; rw [hs]; rfl
theorem mapIdx_set {f g : Nat → Nat → Value} {ks : List Nat} {k q : Nat} {v : Value} (hk : ks[k]? = some q) (hv : g k q = v) (ho : ∀ j x, j ≠ k → g j x = f j x) : (ks.mapIdx f).set k v = ks.mapIdx g := by
  apply List.ext_getElem?
  intro j
  rw [List.getElem?_set, List.getElem?_mapIdx, List.getElem?_mapIdx]
  by_cases hj : k = j
  · subst hj
    have hl : k < ks.length := by
      rcases Nat.lt_or_ge k ks.length with h | h
      · exact h
      · rw [List.getElem?_eq_none h] at hk; cases hk
    rw [if_pos rfl, if_pos (by simpa using hl), hk]
    simp [hv]
  · rw [if_neg hj]
    cases hq : ks[j]? with
    | none => rfl
    | some x => simp [ho j x (fun e => hj e.symm)]
