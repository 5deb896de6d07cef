/-! CONSTRUCTORS, the walks -/
def refs : List (Nat × Nat) := [(0, 0), (0, 1), (0, 2), (0, 3), (0, 4), (0, 5), (0, 6), (0, 7), (4, 0), (5, 0), (5, 1), (5, 2), (5, 3), (5, 4), (5, 5), (5, 6), (5, 7), (14, 0), (14, 1), (14, 2), (14, 3), (19, 0), (21, 0), (21, 1), (21, 2)]
def fl0 : Nat → Nat → Bool := fun h k => !decide ((h, k) ∈ refs)
def w0 : Wo := (fun _ _ => 0, fun _ _ => 0, fun _ _ => 0)
/-- things from n on hold nothing yet -/
def Fr (n : Nat) (w : Wo) : Prop := ∀ h k, n ≤ h → gI w h k = 0 ∧ gL w h k = 0 ∧ gD w h k = 0
theorem Fr.w0 {n : Nat} : Fr n w0 := fun _ _ _ => ⟨rfl, rfl, rfl⟩
theorem Fr.mono {n m : Nat} {w : Wo} (h : Fr n w) (hm : n ≤ m) : Fr m w := fun a k ha => h a k (Nat.le_trans hm ha)
theorem Fr.pI {n : Nat} {w : Wo} {h k : Nat} {v : Int32} (hw : Fr n w) (hh : h < n) : Fr n (pI w h k v) := fun a b ha => by
  have := hw a b ha
  refine ⟨?_, this.2.1, this.2.2⟩
  rw [gI_pI, if_neg (by omega)]
  exact this.1
theorem Fr.pL {n : Nat} {w : Wo} {h k : Nat} {v : Int64} (hw : Fr n w) (hh : h < n) : Fr n (pL w h k v) := fun a b ha => by
  have := hw a b ha
  refine ⟨this.1, ?_, this.2.2⟩
  rw [gL_pL, if_neg (by omega)]
  exact this.2.1
theorem upF_true {fl : Nat → Nat → Bool} {a b h k : Nat} (hf : fl h k = true) : upF fl a b h k = true := by
  unfold upF
  split
  · rfl
  · exact hf
section VKQ
variable {p : Program} {l : Launch} {e : Env} {R : Room} {s : State} {m : MethodId} {args : Array Value} {below : List Frame} {meth : Method} {c : Code} {H : Heap} {locs : List Loc} {cells slots : Nat} {Q : State → Prop}
variable {cc : ByteArray} {pc nL : Nat} {ls : Array Slot} {rest : List Value} {own : String} {Ts : List Cond} {P : Pl} {w : Wo} {fl : Nat → Nat → Bool}
theorem vk_alen {h n : Nat} {v : Int32} (S : CallFix p m c cc nL s args Ts own) (hF : Fc P s) (hP : SC P s fl w H locs) (hh : h < P.2.2.2.1) (hs : shp h = (14, n)) (hv : Int32.ofNat n = v) (hdg : decode cc pc = .ok (.arraylength, 1))
    (kk : W p l e R s m args below meth c H locs cells slots Q (F0 m (pc + 1) ls (.int v :: rest))) : W p l e R s m args below meth c H locs cells slots Q (F0 m pc ls (.ref (P.2.1 h) :: rest)) := by
  have hat := wc_at (fl := fl) (ad := P.2.1) (cA := P.2.2.1) (w := w) hh
  have hcc : cec fl P.2.1 P.2.2.1 w h = .inl (P.2.2.1 4, n, .inr (.inr (.inr (.inr (fun j => if fl h j = true then some (P.2.1 (rf h j)) else none))))) := by
    unfold cec
    rw [hs]
    rfl
  rw [hcc] at hat
  exact va_alen S.1 S.2.1 hF.2.1 hP.1.1 h 4 hat rfl hv hdg kk
end VKQ
/-! fresh rows -/
theorem vk_cellI {fl : Nat → Nat → Bool} {ad : Nat → Nat} {cA : Nat → ClassId} {w : Wo} {n N : Nat} (hs : shp n = (10, N)) (hz : ∀ k, gI w n k = 0) : cec fl ad cA w n = .inl (cA 0, (N, .inl (gI w n))) ∧ vp_cell (cA 0) (N, .inl (gI w n)) = arrV (cA 0) N (fun _ => defaultValue .int) := by
  refine ⟨by unfold cec; rw [hs]; rfl, ?_⟩
  rw [vp_cell_i]
  congr 1
  funext j
  rw [hz j]
  rfl
theorem vk_cellC {fl : Nat → Nat → Bool} {ad : Nat → Nat} {cA : Nat → ClassId} {w : Wo} {n N : Nat} (hs : shp n = (12, N)) (hz : ∀ k, gI w n k = 0) : cec fl ad cA w n = .inl (cA 2, (N, .inl (gI w n))) ∧ vp_cell (cA 2) (N, .inl (gI w n)) = arrV (cA 2) N (fun _ => defaultValue .char) := by
  refine ⟨by unfold cec; rw [hs]; rfl, ?_⟩
  rw [vp_cell_i]
  congr 1
  funext j
  rw [hz j]
  rfl
theorem vk_cellL {fl : Nat → Nat → Bool} {ad : Nat → Nat} {cA : Nat → ClassId} {w : Wo} {n N : Nat} (hs : shp n = (11, N)) (hz : ∀ k, gL w n k = 0) : cec fl ad cA w n = .inl (cA 1, (N, .inr (.inl (gL w n)))) ∧ vp_cell (cA 1) (N, .inr (.inl (gL w n))) = arrV (cA 1) N (fun _ => defaultValue .long) := by
  refine ⟨by unfold cec; rw [hs]; rfl, ?_⟩
  rw [vp_cell_l]
  congr 1
  funext j
  rw [hz j]
  rfl
theorem df_X0 : ∀ j, j < 11 → defaultValue (tyX0 j) = vp_V ((kds 0).map dv) j := by decide +kernel
theorem df_X1 : ∀ j, j < 8 → defaultValue (tyX1 j) = vp_V ((kds 1).map dv) j := by decide +kernel
theorem df_X2 : ∀ j, j < 3 → defaultValue (tyX2 j) = vp_V ((kds 2).map dv) j := by decide +kernel
theorem df_X3 : ∀ j, j < 2 → defaultValue (tyX3 j) = vp_V ((kds 3).map dv) j := by decide +kernel
theorem df_X4 : ∀ j, j < 7 → defaultValue (tyX4 j) = vp_V ((kds 4).map dv) j := by decide +kernel
theorem df_X5 : ∀ j, j < 13 → defaultValue (tyX5 j) = vp_V ((kds 5).map dv) j := by decide +kernel
theorem ob_inst : Cond.instanceMethod Lib.objectInit ∈ ALLW := inA 69 (by decide +kernel) (by decide +kernel)
theorem ob_code : Cond.code Lib.objectInit ⟨#[0xb1]⟩ 1 none ∈ ALLW := inA 70 (by decide +kernel) (by decide +kernel)

theorem ol_X0 : Cond.methodLink RX0 3 Lib.objectInit ∈ ALLW := inA 76 (by decide +kernel) (by decide +kernel)
theorem ol_X1 : Cond.methodLink RX1 3 Lib.objectInit ∈ ALLW := inA 149 (by decide +kernel) (by decide +kernel)
theorem ac_long : Cond.arrayClass .long ∈ ALLW := inA 177 (by decide +kernel) (by decide +kernel)
theorem ac_int : Cond.arrayClass .int ∈ ALLW := inA 178 (by decide +kernel) (by decide +kernel)
theorem ol_X3 : Cond.methodLink RX3 3 Lib.objectInit ∈ ALLW := inA 184 (by decide +kernel) (by decide +kernel)
theorem ac_char : Cond.arrayClass .char ∈ ALLW := inA 193 (by decide +kernel) (by decide +kernel)
theorem ol_X4 : Cond.methodLink RX4 3 Lib.objectInit ∈ ALLW := inA 199 (by decide +kernel) (by decide +kernel)
theorem ol_X2 : Cond.methodLink RX2 3 Lib.objectInit ∈ ALLW := inA 129 (by decide +kernel) (by decide +kernel)
theorem kl_X2_9 : Cond.classLink RX2 9 RX0 ∈ ALLW := inA 130 (by decide +kernel) (by decide +kernel)
theorem in_X0 : Cond.instantiable RX0 11 ∈ ALLW := inA 72 (by decide +kernel) (by decide +kernel)
theorem ii_X0 : Cond.initialized RX0 ∈ ALLW := inA 36 (by decide +kernel) (by decide +kernel)
theorem ok_X0_init : okI yX0_init cX0_init 1 0 := ⟨inA 74 (by decide +kernel) (by decide +kernel), inA 36 (by decide +kernel) (by decide +kernel), inA 75 (by decide +kernel) (by decide +kernel), by decide +kernel, by decide +kernel, by decide +kernel, rfl⟩
theorem ol_X5 : Cond.methodLink RX5 3 Lib.objectInit ∈ ALLW := inA 68 (by decide +kernel) (by decide +kernel)
theorem kl_X5_9 : Cond.classLink RX5 9 RX0 ∈ ALLW := inA 71 (by decide +kernel) (by decide +kernel)
theorem kl_X5_22 : Cond.classLink RX5 22 RX2 ∈ ALLW := inA 124 (by decide +kernel) (by decide +kernel)
theorem in_X2 : Cond.instantiable RX2 3 ∈ ALLW := inA 125 (by decide +kernel) (by decide +kernel)
theorem ii_X2 : Cond.initialized RX2 ∈ ALLW := inA 37 (by decide +kernel) (by decide +kernel)
theorem ok_X2_init : okI yX2_init cX2_init 2 0 := ⟨inA 127 (by decide +kernel) (by decide +kernel), inA 37 (by decide +kernel) (by decide +kernel), inA 128 (by decide +kernel) (by decide +kernel), by decide +kernel, by decide +kernel, by decide +kernel, rfl⟩
theorem ml_X5_24 : Cond.methodLink RX5 24 yX2_init ∈ ALLW := inA 126 (by decide +kernel) (by decide +kernel)
theorem kl_X5_29 : Cond.classLink RX5 29 RX1 ∈ ALLW := inA 144 (by decide +kernel) (by decide +kernel)
theorem in_X1 : Cond.instantiable RX1 8 ∈ ALLW := inA 145 (by decide +kernel) (by decide +kernel)
theorem ii_X1 : Cond.initialized RX1 ∈ ALLW := inA 38 (by decide +kernel) (by decide +kernel)
theorem ok_X1_init : okI yX1_init cX1_init 1 0 := ⟨inA 147 (by decide +kernel) (by decide +kernel), inA 38 (by decide +kernel) (by decide +kernel), inA 148 (by decide +kernel) (by decide +kernel), by decide +kernel, by decide +kernel, by decide +kernel, rfl⟩
theorem kl_X5_36 : Cond.classLink RX5 36 RX3 ∈ ALLW := inA 179 (by decide +kernel) (by decide +kernel)
theorem in_X3 : Cond.instantiable RX3 2 ∈ ALLW := inA 180 (by decide +kernel) (by decide +kernel)
theorem ii_X3 : Cond.initialized RX3 ∈ ALLW := inA 39 (by decide +kernel) (by decide +kernel)
theorem ok_X3_init : okI yX3_init cX3_init 1 0 := ⟨inA 182 (by decide +kernel) (by decide +kernel), inA 39 (by decide +kernel) (by decide +kernel), inA 183 (by decide +kernel) (by decide +kernel), by decide +kernel, by decide +kernel, by decide +kernel, rfl⟩
theorem kl_X5_43 : Cond.classLink RX5 43 RX4 ∈ ALLW := inA 194 (by decide +kernel) (by decide +kernel)
theorem in_X4 : Cond.instantiable RX4 7 ∈ ALLW := inA 195 (by decide +kernel) (by decide +kernel)
theorem ii_X4 : Cond.initialized RX4 ∈ ALLW := inA 40 (by decide +kernel) (by decide +kernel)
theorem ok_X4_init : okI yX4_init cX4_init 1 0 := ⟨inA 197 (by decide +kernel) (by decide +kernel), inA 40 (by decide +kernel) (by decide +kernel), inA 198 (by decide +kernel) (by decide +kernel), by decide +kernel, by decide +kernel, by decide +kernel, rfl⟩
def N_X0 (h : Nat) (w : Wo) : Wo := (pI (pI (pI (pI (pI (pI (pI (pL (pL (pI (pI w h 0 3) h 1 3) h 2 0) h 3 0) h 4 0) h 5 0) h 6 0) h 7 0) h 8 0) h 9 0) h 10 0)
theorem fr_X0 (h : Nat) {n : Nat} {w : Wo} (hh : h < n) (hw : Fr n w) : Fr n (N_X0 h w) := (((((((((((hw.pI hh).pI hh).pL hh).pL hh).pI hh).pI hh).pI hh).pI hh).pI hh).pI hh).pI hh)
def N_X1 (w : Wo) : Wo := (pI (pI (pI (pI w 14 4 0) 14 5 0) 14 6 4) 14 7 (-1))
def G_X1 (fl : Nat → Nat → Bool) : Nat → Nat → Bool := (upF (upF (upF (upF fl 14 0) 14 1) 14 2) 14 3)
theorem fr_X1 {n : Nat} {w : Wo} (hn : 19 ≤ n) (hw : Fr n w) : Fr n (N_X1 w) := ((((hw.pI (Nat.lt_of_lt_of_le (by decide) hn)).pI (Nat.lt_of_lt_of_le (by decide) hn)).pI (Nat.lt_of_lt_of_le (by decide) hn)).pI (Nat.lt_of_lt_of_le (by decide) hn))
def N_X3 (w : Wo) : Wo := (pI w 19 1 0)
def G_X3 (fl : Nat → Nat → Bool) : Nat → Nat → Bool := (upF fl 19 0)
theorem fr_X3 {n : Nat} {w : Wo} (hn : 21 ≤ n) (hw : Fr n w) : Fr n (N_X3 w) := (hw.pI (Nat.lt_of_lt_of_le (by decide) hn))
def N_X4 (w : Wo) : Wo := (pI (pI (pI (pI w 21 3 0) 21 4 0) 21 5 0) 21 6 0)
def G_X4 (fl : Nat → Nat → Bool) : Nat → Nat → Bool := (upF (upF (upF fl 21 0) 21 1) 21 2)
theorem fr_X4 {n : Nat} {w : Wo} (hn : 25 ≤ n) (hw : Fr n w) : Fr n (N_X4 w) := ((((hw.pI (Nat.lt_of_lt_of_le (by decide) hn)).pI (Nat.lt_of_lt_of_le (by decide) hn)).pI (Nat.lt_of_lt_of_le (by decide) hn)).pI (Nat.lt_of_lt_of_le (by decide) hn))
def N_X2 (w : Wo) : Wo := (N_X0 13 (N_X0 12 (N_X0 11 (N_X0 10 (N_X0 9 (N_X0 8 (N_X0 7 (N_X0 6 (pI (pI w 4 1 0) 4 2 0)))))))))
def G_X2 (fl : Nat → Nat → Bool) : Nat → Nat → Bool := (upF (upF (upF (upF (upF (upF (upF (upF (upF fl 4 0) 5 0) 5 1) 5 2) 5 3) 5 4) 5 5) 5 6) 5 7)
theorem fr_X2 {n : Nat} {w : Wo} (hn : 14 ≤ n) (hw : Fr n w) : Fr n (N_X2 w) := (fr_X0 13 (Nat.lt_of_lt_of_le (by decide) hn) (fr_X0 12 (Nat.lt_of_lt_of_le (by decide) hn) (fr_X0 11 (Nat.lt_of_lt_of_le (by decide) hn) (fr_X0 10 (Nat.lt_of_lt_of_le (by decide) hn) (fr_X0 9 (Nat.lt_of_lt_of_le (by decide) hn) (fr_X0 8 (Nat.lt_of_lt_of_le (by decide) hn) (fr_X0 7 (Nat.lt_of_lt_of_le (by decide) hn) (fr_X0 6 (Nat.lt_of_lt_of_le (by decide) hn) ((hw.pI (Nat.lt_of_lt_of_le (by decide) hn)).pI (Nat.lt_of_lt_of_le (by decide) hn))))))))))
def N_X5 : Wo := (pI (pI (pI (pI (pI (N_X4 (N_X3 (N_X1 (N_X2 (N_X0 3 (N_X0 2 (N_X0 1 w0))))))) 0 8 0) 0 9 (-1)) 0 10 (-1)) 0 11 (-1)) 0 12 0)
def G_X5 : Nat → Nat → Bool := (upF (upF (G_X4 (upF (G_X3 (upF (G_X1 (upF (G_X2 (upF (upF (upF fl0 0 0) 0 1) 0 2)) 0 3)) 0 4)) 0 5)) 0 6) 0 7)
theorem flX5_all : ∀ j, j < 26 → ∀ b, G_X5 j b = true := by
  intro j hj b
  by_cases hm : (j, b) ∈ refs
  · have hz : ∀ q ∈ refs, q.1 < 26 → G_X5 q.1 q.2 = true := by decide +kernel
    exact hz _ hm hj
  · have h0 : fl0 j b = true := by simp [fl0, hm]
    unfold G_X5 G_X1 G_X2 G_X3 G_X4
    repeat (first | exact h0 | apply upF_true)
