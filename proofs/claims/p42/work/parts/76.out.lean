/-! GOALS OUT OF REACH -/
theorem fst1_ex {q : Nat → Bool} {n : Nat} (h : ∃ k, k < n ∧ q k = true) : fst1 q n < n ∧ q (fst1 q n) = true := by
  have h1 := fst_ex (exb_iff.mpr h)
  exact ⟨h1, fst1_yes q n h1⟩
def lv (B : Bd) : Nat := fst1 (fun v => decide (times B.goal B.n v < times B.cell B.n v)) 12
def Gf (B : Bd) (p : Nat) : Nat := if B.goal p = 12 then lv B else B.goal p
def sB (B : Bd) (f : Nat → Nat) (p : Nat) : Nat := fst1 (fun q => Gf B q == f p) B.n
def tB (B : Bd) (p : Nat) : Nat := fst1 (fun q => B.cell q == Gf B p) B.n
def Par (B : Bd) : Prop := unlike B = B.n ∧ lacks B = false ∧ times B.goal B.n 12 ≤ 1
theorem lacks_f {B : Bd} : lacks B = false ↔ ∀ v, v < 12 → times B.goal B.n v ≤ times B.cell B.n v := by
  unfold lacks
  rw [Bool.not_eq_false', allb_iff]
  constructor
  · intro h v hv
    exact of_decide_eq_true (h v hv)
  · intro h v hv
    exact decide_eq_true (h v hv)
section PAR
variable {B : Bd}
theorem goal_sum (hB : B.ok) : sumN (times B.goal B.n) 12 + times B.goal B.n 12 = B.n := by
  have h := sum_times (f := B.goal) (N := 13) hB.2.2.2.1
  exact h
theorem lv_ok (hB : B.ok) (hP : Par B) (h12 : times B.goal B.n 12 = 1) : lv B < 12 ∧ times B.goal B.n (lv B) = 0 ∧ times B.cell B.n (lv B) = 1 := by
  have hd := dims hB
  have hex : ∃ v, v < 12 ∧ decide (times B.goal B.n v < times B.cell B.n v) = true := by
    by_cases h : ∃ v, v < 12 ∧ decide (times B.goal B.n v < times B.cell B.n v) = true
    · exact h
    · have h1 : sumN (times B.cell B.n) 12 ≤ sumN (times B.goal B.n) 12 := sumN_le (fun v hv => by
        rcases Nat.lt_or_ge (times B.goal B.n v) (times B.cell B.n v) with h2 | h2
        · exact absurd ⟨v, hv, decide_eq_true h2⟩ h
        · exact h2)
      have h2 := goal_sum hB
      have h3 := sum_times hB.2.2.1
      omega
  obtain ⟨h1, h2⟩ := fst1_ex hex
  have h2 : times B.goal B.n (lv B) < times B.cell B.n (lv B) := of_decide_eq_true h2
  have h3 := un_times hB hP.1 (lv B) h1
  exact ⟨h1, by omega, by omega⟩
theorem gf_ok (hB : B.ok) (hP : Par B) : (∀ p, p < B.n → Gf B p < 12 ∧ times B.cell B.n (Gf B p) = 1) ∧ Inj (Gf B) B.n := by
  have hl := lacks_f.mp hP.2.1
  have hdot : ∀ p, p < B.n → B.goal p = 12 → times B.goal B.n 12 = 1 := by
    intro p hp h
    have := times_pos (f := B.goal) hp
    rw [h] at this
    have := hP.2.2
    omega
  have hlt : ∀ p, p < B.n → B.goal p ≠ 12 → B.goal p < 12 ∧ times B.goal B.n (B.goal p) = 1 ∧ times B.cell B.n (B.goal p) = 1 := by
    intro p hp h
    have h1 := hB.2.2.2.1 p hp
    have h2 := times_pos (f := B.goal) hp
    have h3 := hl (B.goal p) (by omega)
    have h4 := un_times hB hP.1 (B.goal p) (by omega)
    exact ⟨by omega, by omega, by omega⟩
  constructor
  · intro p hp
    unfold Gf
    by_cases h : B.goal p = 12
    · rw [if_pos h]
      obtain ⟨h1, h2, h3⟩ := lv_ok hB hP (hdot p hp h)
      exact ⟨h1, h3⟩
    · rw [if_neg h]
      obtain ⟨h1, h2, h3⟩ := hlt p hp h
      exact ⟨h1, h3⟩
  · intro p hp q hq e
    unfold Gf at e
    by_cases h : B.goal p = 12
    · have h12 := hdot p hp h
      by_cases h2 : B.goal q = 12
      · exact cnt_one (q := fun p => B.goal p == 12) h12 hp hq (by simp [h]) (by simp [h2])
      · rw [if_pos h, if_neg h2] at e
        obtain ⟨h3, h4, h5⟩ := lv_ok hB hP h12
        have h6 := (hlt q hq h2).2.1
        rw [← e] at h6
        omega
    · by_cases h2 : B.goal q = 12
      · rw [if_neg h, if_pos h2] at e
        obtain ⟨h3, h4, h5⟩ := lv_ok hB hP (hdot q hq h2)
        have h6 := (hlt p hp h).2.1
        rw [e] at h6
        omega
      · rw [if_neg h, if_neg h2] at e
        exact cnt_one (q := fun x => B.goal x == B.goal p) (hlt p hp h).2.1 hp hq (by simp) (by simp [e])
theorem tB_ok (hB : B.ok) (hP : Par B) {p : Nat} (hp : p < B.n) : tB B p < B.n ∧ B.cell (tB B p) = Gf B p := by
  obtain ⟨h1, h2⟩ := (gf_ok hB hP).1 p hp
  have h3 : 0 < cnt (fun q => B.cell q == Gf B p) B.n := by
    unfold times at h2
    omega
  obtain ⟨h4, h5⟩ := fst1_ex (cnt_pos.mp h3)
  exact ⟨h4, eq_of_beq h5⟩
theorem tB_inj (hB : B.ok) (hP : Par B) : Inj (tB B) B.n := by
  intro p hp q hq e
  refine (gf_ok hB hP).2 p hp q hq ?_
  rw [← (tB_ok hB hP hp).2, ← (tB_ok hB hP hq).2, e]
/-- letters that are the goal's -/
def Lg (B : Bd) (f : Nat → Nat) : Prop := (∀ p, p < B.n → ∃ q, q < B.n ∧ Gf B q = f p) ∧ Inj f B.n
theorem sB_ok {f : Nat → Nat} (h : Lg B f) {p : Nat} (hp : p < B.n) : sB B f p < B.n ∧ Gf B (sB B f p) = f p := by
  obtain ⟨q, hq, e⟩ := h.1 p hp
  obtain ⟨h4, h5⟩ := fst1_ex (q := fun q => Gf B q == f p) (n := B.n) ⟨q, hq, by simp [e]⟩
  exact ⟨h4, eq_of_beq h5⟩
theorem sB_inj {f : Nat → Nat} (h : Lg B f) : Inj (sB B f) B.n := by
  intro p hp q hq e
  refine h.2 p hp q hq ?_
  rw [← (sB_ok h hp).2, ← (sB_ok h hq).2, e]
theorem lg_cell (hB : B.ok) (hP : Par B) : Lg B B.cell := by
  refine ⟨fun p hp => ?_, un_inj hB hP.1⟩
  obtain ⟨x, hx, e⟩ := pigeon (fun p hp => (tB_ok hB hP hp).1) (tB_inj hB hP) p hp
  refine ⟨x, hx, ?_⟩
  rw [← (tB_ok hB hP hx).2, e]
theorem E_ts (hB : B.ok) (hP : Par B) : E (tB B) B.n = E (sB B B.cell) B.n := by
  have hl := lg_cell hB hP
  refine E_inv (fun p hp => (sB_ok hl hp).1) (fun p hp => (tB_ok hB hP hp).1) (fun p hp => ?_) (fun p hp => ?_)
  · have h1 := sB_ok hl hp
    have h2 := tB_ok hB hP h1.1
    exact un_inj hB hP.1 _ h2.1 _ hp (by rw [h2.2, h1.2])
  · have h1 := tB_ok hB hP hp
    have h2 := sB_ok hl h1.1
    exact (gf_ok hB hP).2 _ h2.1 _ hp (by rw [h2.2, h1.2])
theorem lg_tn (hB : B.ok) {f : Nat → Nat} (h : Lg B f) {t : Nat} (ht : t < Tn B) : Lg B (tn B t f) := by
  refine ⟨fun p hp => h.1 _ (bk_lt hB ht hp), fun p hp q hq e => ?_⟩
  have h1 := h.2 _ (bk_lt hB ht hp) _ (bk_lt hB ht hq) e
  rw [← goes_bk hB ht hp, ← goes_bk hB ht hq, h1]
theorem E_tn (hB : B.ok) (h9 : B.n = 9) {f : Nat → Nat} (h : Lg B f) {t : Nat} (ht : t < Tn B) : E (sB B (tn B t f)) B.n = E (sB B f) B.n := by
  obtain ⟨⟨h1, h2, h3, h4⟩, h5, h6⟩ := bk_sw hB t ht
  obtain ⟨n1, n2⟩ := h5 h9
  have i0 := sB_inj h
  have i1 : Inj (fun x => sB B f (sw (xa B.r B.c t) (xb B.r B.c t) x)) B.n := i0.sw h1 h2
  have e1 := E_sw' i1 n2 (show pl B.r B.c (t / 2) 0 < B.n from h3) h4
  have e2 := E_sw' i0 n1 (show xa B.r B.c t < B.n from h1) h2
  have e3 : E (sB B (tn B t f)) B.n = E (fun x => (fun x => sB B f (sw (xa B.r B.c t) (xb B.r B.c t) x)) (sw (pl B.r B.c (t / 2) 0) (pl B.r B.c (t / 2) 1) x)) B.n := by
    refine E_congr (fun p hp => ?_)
    show sB B f (bk B.r B.c p t) = sB B f (sw (xa B.r B.c t) (xb B.r B.c t) (sw (pl B.r B.c (t / 2) 0) (pl B.r B.c (t / 2) 1) p))
    rw [h6 p hp]
  rw [e3, e1, e2, Bool.not_not]
theorem E_met (hB : B.ok) (hP : Par B) {f : Nat → Nat} (h : Lg B f) (hm : met B f = true) : E (sB B f) B.n = false := by
  have hg := gf_ok hB hP
  have hmm := met_iff.mp hm
  have hfix : ∀ p, p < B.n → B.goal p ≠ 12 → sB B f p = p := by
    intro p hp h12
    have h1 := sB_ok h hp
    refine hg.2 _ h1.1 _ hp ?_
    rw [h1.2, hmm p hp h12]
    unfold Gf
    rw [if_neg h12]
  refine E_id (fun p hp => ?_)
  by_cases h12 : B.goal p = 12
  · have h1 := sB_ok h hp
    by_cases e : sB B f p = p
    · exact e
    · have hn : B.goal (sB B f p) ≠ 12 := by
        intro e12
        have h0 : times B.goal B.n 12 = 1 := by
          have := times_pos (f := B.goal) hp
          rw [h12] at this
          have := hP.2.2
          omega
        exact e (cnt_one (q := fun p => B.goal p == 12) h0 h1.1 hp (by simp [e12]) (by simp [h12]))
      have h2 := hfix _ h1.1 hn
      exact sB_inj h _ h1.1 _ hp h2
  · exact hfix p hp h12
theorem R_E (hB : B.ok) (hP : Par B) (h9 : B.n = 9) : ∀ k f, Lg B f → R B k f = true → E (sB B f) B.n = false
  | 0, f, h, hR => E_met hB hP h hR
  | k + 1, f, h, hR => by
    obtain ⟨t, ht, h1⟩ := exb_iff.mp hR
    rw [Bool.and_eq_true] at h1
    rw [← E_tn hB h9 h ht]
    exact R_E hB hP h9 k _ (lg_tn hB h ht) h1.2
theorem R_lacks (hB : B.ok) : ∀ k f, R B k f = true → ∀ v, v < 12 → times B.goal B.n v ≤ times f B.n v
  | 0, f, hR, v, hv => by
    have hmm := met_iff.mp hR
    refine cnt_le_on (fun p hp h => ?_)
    have e : B.goal p = v := by simpa using h
    have := hmm p hp (by omega)
    rw [this, e]
    simp
  | k + 1, f, hR, v, hv => by
    obtain ⟨t, ht, h1⟩ := exb_iff.mp hR
    rw [Bool.and_eq_true] at h1
    have := R_lacks hB k _ h1.2 v hv
    rw [times_tn hB ht] at this
    exact this
/-- whether the goal is out of reach -/
def outB (B : Bd) : Bool := lacks B || (decide (B.n = 9) && decide (unlike B = 9) && decide (times B.goal B.n 12 < 2) && E (tB B) B.n)
theorem out_reach (hB : B.ok) {k : Nat} (hR : R B k B.cell = true) : outB B = false := by
  have hl : lacks B = false := lacks_f.mpr (R_lacks hB k _ hR)
  unfold outB
  rw [hl, Bool.false_or]
  by_cases h9 : B.n = 9
  · by_cases hu : unlike B = 9
    · by_cases h2 : times B.goal B.n 12 < 2
      · have hP : Par B := ⟨by omega, hl, by omega⟩
        rw [E_ts hB hP, R_E hB hP h9 k _ (lg_cell hB hP) hR, Bool.and_false]
      · rw [decide_eq_false h2, Bool.and_false, Bool.false_and]
    · rw [decide_eq_false hu, Bool.and_false, Bool.false_and, Bool.false_and]
  · rw [decide_eq_false h9, Bool.false_and, Bool.false_and, Bool.false_and]
theorem same_iff (hB : B.ok) : same B = (decide (unlike B = B.n) && !lacks B && decide (times B.goal B.n 12 = 0)) := by
  unfold same
  by_cases hu : unlike B = B.n
  · rw [decide_eq_true hu, Bool.true_and, Bool.true_and]
    have hun := un_times hB hu
    by_cases hc : lacks B = false ∧ times B.goal B.n 12 = 0
    · rw [hc.1, decide_eq_true hc.2]
      show _ = true
      have hP : Par B := ⟨hu, hc.1, by omega⟩
      rw [allb_iff]
      intro p hp
      refine decide_eq_true ?_
      obtain ⟨q, hq, e⟩ := (lg_cell hB hP).1 p hp
      have h12 : B.goal q ≠ 12 := by
        intro e12
        have := times_pos (f := B.goal) hq
        rw [e12] at this
        omega
      unfold Gf at e
      rw [if_neg h12] at e
      have h1 := times_pos (f := B.goal) hq
      rw [e] at h1
      have h2 := lacks_f.mp hc.1 (B.cell p) (hB.2.2.1 p hp)
      have h3 := hun (B.cell p) (hB.2.2.1 p hp)
      omega
    · have e1 : (!lacks B && decide (times B.goal B.n 12 = 0)) = false := by
        by_cases h1 : lacks B = false
        · rw [h1, decide_eq_false (fun h => hc ⟨h1, h⟩)]
          rfl
        · rw [Bool.not_eq_false] at h1
          rw [h1]
          rfl
      rw [e1, ← Bool.not_eq_true, allb_iff]
      intro hall
      apply hc
      have hall2 : ∀ p, p < B.n → times B.goal B.n (B.cell p) = 1 := fun p hp => of_decide_eq_true (hall p hp)
      have hs : ∀ p, p < B.n → fst1 (fun q => B.goal q == B.cell p) B.n < B.n ∧ B.goal (fst1 (fun q => B.goal q == B.cell p) B.n) = B.cell p := by
        intro p hp
        have h0 : 0 < cnt (fun q => B.goal q == B.cell p) B.n := by
          have := hall2 p hp
          unfold times at this
          omega
        obtain ⟨h4, h5⟩ := fst1_ex (cnt_pos.mp h0)
        exact ⟨h4, by simpa using h5⟩
      have hsur := pigeon (n := B.n) (f := fun p => fst1 (fun q => B.goal q == B.cell p) B.n) (fun p hp => (hs p hp).1) (fun p hp q hq e => un_inj hB hu p hp q hq (by
        have e : fst1 (fun x => B.goal x == B.cell p) B.n = fst1 (fun x => B.goal x == B.cell q) B.n := e
        rw [← (hs p hp).2, ← (hs q hq).2, e]))
      have hg : ∀ q, q < B.n → ∃ p, p < B.n ∧ B.goal q = B.cell p := by
        intro q hq
        obtain ⟨p, hp, e⟩ := hsur q hq
        refine ⟨p, hp, ?_⟩
        have e : fst1 (fun q => B.goal q == B.cell p) B.n = q := e
        have h7 := (hs p hp).2
        rw [e] at h7
        exact h7
      constructor
      · refine lacks_f.mpr (fun v hv => ?_)
        by_cases h0 : times B.goal B.n v = 0
        · omega
        · obtain ⟨q, hq, e⟩ := cnt_pos.mp (show 0 < cnt (fun p => B.goal p == v) B.n by unfold times at h0; omega)
          have e : B.goal q = v := by simpa using e
          obtain ⟨p, hp, e2⟩ := hg q hq
          have h1 := hall2 p hp
          have h2 := times_pos (f := B.cell) hp
          rw [← e2, e] at h1 h2
          omega
      · rcases Nat.eq_zero_or_pos (times B.goal B.n 12) with h0 | h0
        · exact h0
        · obtain ⟨q, hq, e⟩ := cnt_pos.mp h0
          have e : B.goal q = 12 := by simpa using e
          obtain ⟨p, hp, e2⟩ := hg q hq
          have := hB.2.2.1 p hp
          omega
  · rw [decide_eq_false hu, Bool.false_and, Bool.false_and, Bool.false_and]
end PAR
/-! the class's answers -/
section PCl
variable {w : Wo} {B : Bd}
theorem c_filled (hB : B.ok) (hC : CB w 1 B) (hP : Par B) : ∃ y, F_X0_filledAim w = some y ∧ ∀ p, p < B.n → nib y p = Gf B p := by
  have hd := dims hB
  unfold F_X0_filledAim
  rw [L12, c_placeOf hB hC hC.2.2.2.1 (by omega), Option.bind_some]
  by_cases h : fst1 (fun p => B.goal p == 12) B.n < B.n
  · rw [if_pos h]
    have hy := fst1_yes _ _ h
    have hy : B.goal (fst1 (fun p => B.goal p == 12) B.n) = 12 := by simpa using hy
    have h1 : times B.goal B.n 12 = 1 := by
      have := times_pos (f := B.goal) h
      rw [hy] at this
      have := hP.2.2
      omega
    obtain ⟨l1, l2, l3⟩ := lv_ok hB hP h1
    have e : jl1 (B_X0_filledAim_13 w (nI (fst1 (fun p => B.goal p == 12) B.n))) fu 0 = some (F_X5_withCode (gL w 1 3) (nI (fst1 (fun p => B.goal p == 12) B.n)) (nI (lv B))) := by
      refine jl1_run (fun k => nI k) (lv B) (by rw [fu4]; omega) (fun k hk K => ?_) (fun K => ?_) rfl
      · have hn := fst1_no (fun v => decide (times B.goal B.n v < times B.cell B.n v)) 12 k hk
        have hn : ¬ times B.goal B.n k < times B.cell B.n k := of_decide_eq_false hn
        have t1 := times_le B.cell B.n k
        have t2 := times_le B.goal B.n k
        unfold B_X0_filledAim_13
        rw [L12, if_neg (nI_ge (by omega) (by omega)), if_neg (nI_pos (by omega)), c_count hB hC hC.2.2.1 (by omega), Option.bind_some, c_count hB hC hC.2.2.2.1 (by omega), Option.bind_some, itle (by omega) (by omega), if_pos (by omega), nI_succ]
      · unfold B_X0_filledAim_13 B_X0_filledAim_44
        rw [L12, if_neg (nI_ge (by omega) (by omega)), if_neg (nI_pos (by omega)), c_count hB hC hC.2.2.1 (by omega), Option.bind_some, c_count hB hC hC.2.2.2.1 (by omega), Option.bind_some, l2, l3, if_neg (by decide)]
    refine ⟨_, e, fun p hp => ?_⟩
    rw [withCode_nib (by omega) (by omega) (by omega)]
    unfold Gf
    by_cases h12 : B.goal p = 12
    · have : p = fst1 (fun p => B.goal p == 12) B.n := cnt_one (q := fun p => B.goal p == 12) h1 hp h (by simp [h12]) (by simp [hy])
      rw [if_pos this, if_pos h12]
    · rw [if_neg h12, if_neg]
      · exact hC.2.2.2.1 p hp
      · intro e2
        rw [e2] at h12
        exact h12 hy
  · rw [if_neg h]
    refine ⟨gL w 1 3, ?_, fun p hp => ?_⟩
    · show B_X0_filledAim_13 w (-1) (jl1 (B_X0_filledAim_13 w (-1)) 3999) 0 = _
      rw [B_X0_filledAim_13, if_neg (by decide), if_pos (by decide)]
      rfl
    · unfold Gf
      rw [hC.2.2.2.1 p hp, if_neg]
      intro h12
      have := fst1_no (fun p => B.goal p == 12) B.n p (by omega)
      simp [h12] at this
theorem c_posn (hB : B.ok) (hC : CB w 1 B) (hP : Par B) {y : Int64} (hy : ∀ p, p < B.n → nib y p = Gf B p) : ∀ p, p < B.n → F_X0_placeOf w y (F_X5_codeAt (gL w 1 2) (nI p)) = some (nI (sB B B.cell p)) := by
  intro p hp
  have hd := dims hB
  have hc := hB.2.2.1 p hp
  rw [codeAt_nib (by omega), hC.2.2.1 p hp, c_placeOf hB hC hy (by omega)]
  exact congrArg some (if_pos (sB_ok (lg_cell hB hP) hp).1)
theorem c_out (hB : B.ok) (hC : CB w 1 B) : F_X0_isBeyondReach w = some (bI (outB B)) := by
  have hd := dims hB
  have hu := unlike_le B
  have ht := times_le B.goal B.n 12
  rw [c_lacks_loop hB hC]
  unfold outB
  by_cases hl : lacks B = true
  · rw [if_pos hl, hl]
    rfl
  · rw [if_neg hl]
    rw [Bool.not_eq_true] at hl
    rw [hl, Bool.false_or]
    have e37 : B_X0_isBeyondReach_37 w = if B.n = 9 then B_X0_isBeyondReach_58 w 1 else some 0 := by
      unfold B_X0_isBeyondReach_37 B_X0_isBeyondReach_57
      rw [hC.1, hC.2.1, L3, iteq (by omega) (by omega), iteq (by omega) (by omega)]
      have h0 : B_X0_isBeyondReach_58 w 0 = some 0 := rfl
      rw [h0]
      have hq := dim4 (Q := fun r c => (r * c = 9 ↔ r = 3 ∧ c = 3)) hB (by decide) (by decide) (by decide) (by decide)
      by_cases h9 : B.n = 9
      · have := hq.mp h9
        rw [if_pos this.1, if_pos this.2, if_pos h9]
      · rw [if_neg h9]
        by_cases hr : B.r = 3
        · rw [if_pos hr, if_neg (fun hc => h9 (hq.mpr ⟨hr, hc⟩))]
        · rw [if_neg hr]
    rw [e37]
    by_cases h9 : B.n = 9
    · rw [if_pos h9, decide_eq_true h9, Bool.true_and]
      unfold B_X0_isBeyondReach_58
      rw [if_neg (by decide), c_allUnlike hB hC, Option.bind_some, itb0]
      by_cases hu9 : unlike B = 9
      · rw [decide_eq_true (show unlike B = B.n by omega), if_pos rfl, L12, c_count hB hC hC.2.2.2.1 (by omega), Option.bind_some, L1, itle (by omega) (by omega), decide_eq_true hu9, Bool.true_and]
        by_cases h2 : times B.goal B.n 12 < 2
        · have hP : Par B := ⟨by omega, hl, by omega⟩
          obtain ⟨y, y1, y2⟩ := c_filled hB hC hP
          have hlg := lg_cell hB hP
          rw [if_pos (by omega), y1, Option.bind_some, c_cycles hB hC (c_posn hB hC hP y2) (fun p hp => (sB_ok hlg hp).1) (sB_inj hlg), Option.bind_some, decide_eq_true h2, Bool.true_and, E_ts hB hP]
        · rw [if_neg (by omega), decide_eq_false h2, Bool.false_and]
          rfl
      · rw [decide_eq_false (show ¬ unlike B = B.n by omega), if_neg (by decide), decide_eq_false hu9, Bool.false_and, Bool.false_and]
        rfl
    · rw [if_neg h9, decide_eq_false h9, Bool.false_and, Bool.false_and, Bool.false_and]
      rfl
theorem gf_aim (hB : B.ok) (hC : CB w 1 B) (h0 : times B.goal B.n 12 = 0) : ∀ p, p < B.n → nib (gL w 1 3) p = Gf B p := by
  intro p hp
  unfold Gf
  rw [hC.2.2.2.1 p hp, if_neg]
  intro h12
  have := times_pos (f := B.goal) hp
  rw [h12] at this
  omega
theorem same_par (hB : B.ok) (h : same B = true) : Par B ∧ times B.goal B.n 12 = 0 := by
  rw [same_iff hB] at h
  rw [Bool.and_eq_true, Bool.and_eq_true] at h
  have h3 := of_decide_eq_true h.2
  exact ⟨⟨of_decide_eq_true h.1.1, by simpa using h.1.2, by omega⟩, h3⟩
theorem c_odd (hB : B.ok) (hC : CB w 1 B) (h : same B = true) : F_X0_isOddByCycles w (gL w 1 3) = some (bI (E (tB B) B.n)) ∧ F_X0_isOddByPairs w (gL w 1 3) = some (bI (E (tB B) B.n)) := by
  obtain ⟨hP, h0⟩ := same_par hB h
  have hlg := lg_cell hB hP
  have hp := c_posn hB hC hP (gf_aim hB hC h0)
  rw [E_ts hB hP]
  exact ⟨c_cycles hB hC hp (fun p hp => (sB_ok hlg hp).1) (sB_inj hlg), c_pairs hB hC hp (fun p hp => (sB_ok hlg hp).1)⟩
end PCl
