/-! THE LAW'S OWN METHODS: each calls one method of the puzzle and says what it threw -/
abbrev wsW (y : MethodName) (b : ByteArray) (maxL : Nat) (ret : Option FieldType) (hh : List (Nat × Nat × Nat × Nat)) : List Cond := Cond.codeWith y b maxL ret hh :: ALLW
abbrev CtW (l : Launch) (P : Pl) (y : MethodName) (b : ByteArray) (mL : Nat) (hh : List (Nat × Nat × Nat × Nat)) (d mc : Nat) (As : List Value) (w : Wo) (v : Int32) (w' : Wo) : Prop := Met l y (wsW y b mL (some .int) hh) (rmU d mc (6 * mc)) (va_Pc As (Wp P w)) (va_Qi (fun (r : Int32) (u : Wo) => r = v ∧ u = w' ∧ okR (some .int) v) (Wq P) (Ab P.2.2.2.2.1)) mc (6 * mc) (Ab P.2.2.2.2.1)
section VW
variable {l : Launch} {P : Pl} {y : MethodName} {b : ByteArray} {nL : Nat} {ret : Option FieldType} {d mc ms : Nat} {As : List Value} {w : Wo}
variable {Qc : Array Value → State → Outcome → State → Prop} {free : Addr → Prop} {hh : List (Nat × Nat × Nat × Nat)}
/-- a body with an exception table, that throws nothing on -/
theorem vs_w (hA : Adr P) (hpl : plainName y.cls = true) (hlen : (lg_sl As).length ≤ nL)
    (body : ∀ (p : Program) (e : Env) (s : State) (m : MethodId) (args : Array Value) (below : List Frame) (meth : Method) (c : Code) (ls : Array Slot), CallFix p m c b nL s args (wsW y b nL ret hh) y.cls → Fx P s → St P s w s.heap [] → lv_has ls nL (lv_args 0 As) → meth.sig.returnType = ret → meth.locks = false → c.exceptionTable.toList = tableOf hh →
      W p l e (rmU d mc ms) s m args below meth c s.heap [] 0 0 (MQ below Qc args s mc ms free) (F0 m 0 ls [])) :
    Met l y (wsW y b nL ret hh) (rmU d mc ms) (va_Pc As (Wp P w)) Qc mc ms free := by
  refine MetFree.of_bodyS (code := b) (maxLocals := nL) (ret := ret) hpl ?_ ?_
  · intro args s m h hn
    obtain ⟨m9, meth, c, hn9, h1, h2, h3, h4, -, h5, h6, -⟩ := Cond.codeWith_spec (atoms_spec (ws := wsW y b nL ret hh) h _ List.mem_cons_self)
    cases hn.symm.trans hn9
    exact ⟨meth, c, h1, h2, h3, h4, h5, h6⟩
  · intro p e s m args below meth c s₁ B hml hP _
    have hh0 : s₁.heap = s.heap := by rw [B.state]; rfl
    have hpre := atoms_spec (ws := wsW y b nL ret hh) B.pre
    have ht := vx_table (x := y) B (hpre _ List.mem_cons_self)
    obtain ⟨rfl, hW⟩ := hP
    obtain ⟨hF, hS⟩ := hW.fx hA
    obtain ⟨t, a1, o, b1, b2, b3⟩ := body p e s m _ below meth c _ ⟨B.exec, B.bytes, hml, findClass_of_methodNamed B.named, hpre⟩ hF hS (lv_entry As hlen) B.returns B.notSynchronized ht s₁ hh0 (Stand.of_body B)
    rw [← lg_entry_eq] at a1
    exact ⟨t, o, a1, b1, b2, ⟨b3.1, b3.2⟩⟩
end VW
section VWc
variable {p : Program} {l : Launch} {e : Env} {R : Room} {s : State} {m : MethodId} {args : Array Value} {below : List Frame} {meth : Method} {c : Code} {H : Heap} {locs : List Loc} {cells slots : Nat} {Q : State → Prop}
variable {cc : ByteArray} {pc nL n : Nat} {ls : Array Slot} {rest : List Value} {own : String} {P : Pl} {w : Wo} {c0 : Cond} {Ts : List Cond}
/-- caught by a row of the table -/
theorem ve_catch {u : Nat × Wo} {j : Nat} {ce : Cell} {q9 : Addr} (pre : List (Nat × Nat × Nat × Nat)) (x : Nat × Nat × Nat × Nat) (suf : List (Nat × Nat × Nat × Nat)) (S : CallFix p m c cc nL s args (c0 :: ALLW) own) (hF : Fx P s) (htab : c.exceptionTable.toList = tableOf (pre ++ x :: suf)) (hu : u.1 = j)
    (hpre : ∀ z ∈ pre, z.2.2.2 ≠ 0 ∧ ∃ nm : String, Cond.classLink own z.2.2.2 nm ∈ ALLW ∧ (exN j, nm) ∈ nocs) (hx : covers ⟨x.1, x.2.1, x.2.2.1, x.2.2.2⟩ pc = true) (h0 : x.2.2.2 ≠ 0) (hlink : Cond.classLink own x.2.2.2 (exN j) ∈ ALLW) (hexc : exN j ∈ excs)
    (h1 : H[q9]? = some ce) (h2 : ce.vm = .none) (h3 : s.vm.findClass (exN u.1) = some ce.cls)
    (kk : W p l e R s m args below meth c H locs cells slots Q (F0 m x.2.2.1 ls [.ref q9])) : vx_W p l e R s m args below meth c H locs cells slots Q (F0 m pc ls rest) q9 := by
  subst hu
  refine vx_catch S.2.2.2.1 (tableOf pre) ⟨x.1, x.2.1, x.2.2.1, x.2.2.2⟩ (tableOf suf) (by rw [htab]; simp [tableOf]) (fun z hz => ?_) hx h0 (S.2.2.2.2 _ (List.mem_cons_of_mem _ hlink)) ?_ h1 h2 h3 kk
  · obtain ⟨z0, hz0, rfl⟩ := List.mem_map.mp hz
    obtain ⟨g0, nm, g1, g2⟩ := hpre z0 hz0
    exact Or.inr ⟨g0, nm, S.2.2.2.2 _ (List.mem_cons_of_mem _ g1), hF.2.2.1.2.2.2.2.1 _ g2⟩
  · have hm : Cond.castable (exN u.1) (exN u.1) ∈ exw := List.mem_append_right _ (List.mem_map.mpr ⟨exN u.1, hexc, rfl⟩)
    exact va_Nw.use (exw_tab _ hm) (hF.2.2.1.2.2.2.2.2 _ hm)
theorem upd_gD {w : Wo} {h k : Nat} {x : UInt64} : gD (pD w h k x) h = vf_upd (gD w h) k x := by
  funext j
  simp [gD, pD, vf_upd]
theorem vt_lastK {h n : Nat} {i : Int32} {x : Int64} (j : Nat) (hj : i.toNatClampNeg = j) (S : CallFix p m c cc nL s args Ts own) (hF : Fx P s) (hP : St P s w H locs) (hh : h < P.2.2.2.1) (hs : shp h = (11, n)) (hi : ¬ (i < 0 ∨ n ≤ i.toNatClampNeg)) (hdg : decode cc pc = .ok (.lastore, 1))
    (kk : ∀ (H1 : Heap) (locs1 : List Loc), St P s (pL w h j x) H1 locs1 → W p l e R s m args below meth c H1 locs1 cells slots Q (F0 m (pc + 1) ls rest)) : W p l e R s m args below meth c H locs cells slots Q (F0 m pc ls (.long x :: .int i :: .ref (P.2.1 h) :: rest)) := by
  subst hj
  exact vt_last S hF hP hh hs hi hdg kk
theorem vt_dastK {h n : Nat} {i : Int32} {x : UInt64} (j : Nat) (hj : i.toNatClampNeg = j) (S : CallFix p m c cc nL s args Ts own) (hF : Fx P s) (hP : St P s w H locs) (hh : h < P.2.2.2.1) (hs : shp h = (13, n)) (hi : ¬ (i < 0 ∨ n ≤ i.toNatClampNeg)) (hdg : decode cc pc = .ok (.dastore, 1))
    (kk : ∀ (H1 : Heap) (locs1 : List Loc), St P s (pD w h j x) H1 locs1 → W p l e R s m args below meth c H1 locs1 cells slots Q (F0 m (pc + 1) ls rest)) : W p l e R s m args below meth c H locs cells slots Q (F0 m pc ls (.double x :: .int i :: .ref (P.2.1 h) :: rest)) := by
  subst hj
  refine va_dast S.1 S.2.1 hF.2.1 hP.1 (hF.2.2.2.D w) hP.2 h 3 (by rw [wl_at hh, ce_dbl hs]) rfl hi hdg (fun H1 locs1 q1 q2 q3 => kk H1 locs1 ⟨?_, q3⟩)
  rw [← wl_set (h := h) (e := .inl (P.2.2.1 3, n, .inr (.inr (.inr (.inl (vf_upd (gD w h) i.toNatClampNeg x)))))) (by rw [ce_dbl hs, upd_gD]) (fun j hj => pD_o hj)]
  exact q1
end VWc
theorem ok_X5_board : okV yX5_board cX5_board 3 (some .int) 2 := ⟨inA 549 (by decide +kernel) (by decide +kernel), inA 550 (by decide +kernel) (by decide +kernel), inA 88 (by decide +kernel) (by decide +kernel), inA 551 (by decide +kernel) (by decide +kernel), by decide +kernel, by decide +kernel, by decide +kernel⟩
theorem ml_L_7 : Cond.methodLink RL 7 yX5_board ∈ ALLW := inA 548 (by decide +kernel) (by decide +kernel)
theorem cx_L_13 : Cond.classLink RL 13 "java/lang/IllegalArgumentException" ∈ ALLW := inA 547 (by decide +kernel) (by decide +kernel)
theorem ok_X5_put : okV yX5_put cX5_put 5 (some .char) 2 := ⟨inA 768 (by decide +kernel) (by decide +kernel), inA 769 (by decide +kernel) (by decide +kernel), inA 88 (by decide +kernel) (by decide +kernel), inA 770 (by decide +kernel) (by decide +kernel), by decide +kernel, by decide +kernel, by decide +kernel⟩
theorem ml_L_15 : Cond.methodLink RL 15 yX5_put ∈ ALLW := inA 767 (by decide +kernel) (by decide +kernel)
theorem cx_L_19 : Cond.classLink RL 19 "java/lang/IndexOutOfBoundsException" ∈ ALLW := inA 745 (by decide +kernel) (by decide +kernel)
theorem cx_L_21 : Cond.classLink RL 21 "java/lang/UnsupportedOperationException" ∈ ALLW := inA 766 (by decide +kernel) (by decide +kernel)
theorem ok_X5_goal : okV yX5_goal cX5_goal 5 (some .char) 2 := ⟨inA 778 (by decide +kernel) (by decide +kernel), inA 779 (by decide +kernel) (by decide +kernel), inA 88 (by decide +kernel) (by decide +kernel), inA 780 (by decide +kernel) (by decide +kernel), by decide +kernel, by decide +kernel, by decide +kernel⟩
theorem ml_L_23 : Cond.methodLink RL 23 yX5_goal ∈ ALLW := inA 777 (by decide +kernel) (by decide +kernel)
theorem ok_X5_turn : okV yX5_turn cX5_turn 2 (some .int) 1 := ⟨inA 785 (by decide +kernel) (by decide +kernel), inA 786 (by decide +kernel) (by decide +kernel), inA 88 (by decide +kernel) (by decide +kernel), inA 787 (by decide +kernel) (by decide +kernel), by decide +kernel, by decide +kernel, by decide +kernel⟩
theorem ml_L_26 : Cond.methodLink RL 26 yX5_turn ∈ ALLW := inA 784 (by decide +kernel) (by decide +kernel)
theorem ok_X5_swap : okV yX5_swap cX5_swap 3 (some .int) 2 := ⟨inA 792 (by decide +kernel) (by decide +kernel), inA 793 (by decide +kernel) (by decide +kernel), inA 88 (by decide +kernel) (by decide +kernel), inA 794 (by decide +kernel) (by decide +kernel), by decide +kernel, by decide +kernel, by decide +kernel⟩
theorem ml_L_30 : Cond.methodLink RL 30 yX5_swap ∈ ALLW := inA 791 (by decide +kernel) (by decide +kernel)
theorem ok_X5_bar : okV yX5_bar cX5_bar 2 (some .boolean) 1 := ⟨inA 799 (by decide +kernel) (by decide +kernel), inA 800 (by decide +kernel) (by decide +kernel), inA 88 (by decide +kernel) (by decide +kernel), inA 801 (by decide +kernel) (by decide +kernel), by decide +kernel, by decide +kernel, by decide +kernel⟩
theorem ml_L_33 : Cond.methodLink RL 33 yX5_bar ∈ ALLW := inA 798 (by decide +kernel) (by decide +kernel)
theorem ok_X5_scramble : okV yX5_scramble cX5_scramble 4 (some .int) 2 := ⟨inA 807 (by decide +kernel) (by decide +kernel), inA 808 (by decide +kernel) (by decide +kernel), inA 88 (by decide +kernel) (by decide +kernel), inA 809 (by decide +kernel) (by decide +kernel), by decide +kernel, by decide +kernel, by decide +kernel⟩
theorem ml_L_37 : Cond.methodLink RL 37 yX5_scramble ∈ ALLW := inA 806 (by decide +kernel) (by decide +kernel)
theorem ok_X5_step : okV yX5_step cX5_step 2 (some .int) 0 := ⟨inA 815 (by decide +kernel) (by decide +kernel), inA 816 (by decide +kernel) (by decide +kernel), inA 88 (by decide +kernel) (by decide +kernel), inA 817 (by decide +kernel) (by decide +kernel), by decide +kernel, by decide +kernel, by decide +kernel⟩
theorem ml_L_40 : Cond.methodLink RL 40 yX5_step ∈ ALLW := inA 814 (by decide +kernel) (by decide +kernel)
theorem cx_L_44 : Cond.classLink RL 44 "java/util/NoSuchElementException" ∈ ALLW := inA 813 (by decide +kernel) (by decide +kernel)
theorem ok_X5_letter : okV yX5_letter cX5_letter 2 (some .char) 1 := ⟨inA 843 (by decide +kernel) (by decide +kernel), inA 844 (by decide +kernel) (by decide +kernel), inA 88 (by decide +kernel) (by decide +kernel), inA 845 (by decide +kernel) (by decide +kernel), by decide +kernel, by decide +kernel, by decide +kernel⟩
theorem ml_L_46 : Cond.methodLink RL 46 yX5_letter ∈ ALLW := inA 842 (by decide +kernel) (by decide +kernel)
theorem ok_X5_sign : okV yX5_sign cX5_sign 2 (some .char) 1 := ⟨inA 854 (by decide +kernel) (by decide +kernel), inA 855 (by decide +kernel) (by decide +kernel), inA 88 (by decide +kernel) (by decide +kernel), inA 856 (by decide +kernel) (by decide +kernel), by decide +kernel, by decide +kernel, by decide +kernel⟩
theorem ml_L_50 : Cond.methodLink RL 50 yX5_sign ∈ ALLW := inA 853 (by decide +kernel) (by decide +kernel)
theorem ok_X5_isBarred : okV yX5_isBarred cX5_isBarred 2 (some .boolean) 1 := ⟨inA 861 (by decide +kernel) (by decide +kernel), inA 862 (by decide +kernel) (by decide +kernel), inA 88 (by decide +kernel) (by decide +kernel), inA 863 (by decide +kernel) (by decide +kernel), by decide +kernel, by decide +kernel, by decide +kernel⟩
theorem ml_L_53 : Cond.methodLink RL 53 yX5_isBarred ∈ ALLW := inA 860 (by decide +kernel) (by decide +kernel)
theorem ok_X5_boardOf : okV yX5_boardOf cX5_boardOf 2 (some .int) 1 := ⟨inA 868 (by decide +kernel) (by decide +kernel), inA 869 (by decide +kernel) (by decide +kernel), inA 88 (by decide +kernel) (by decide +kernel), inA 870 (by decide +kernel) (by decide +kernel), by decide +kernel, by decide +kernel, by decide +kernel⟩
theorem ml_L_56 : Cond.methodLink RL 56 yX5_boardOf ∈ ALLW := inA 867 (by decide +kernel) (by decide +kernel)
theorem ok_X5_away : okV yX5_away cX5_away 3 (some .int) 1 := ⟨inA 892 (by decide +kernel) (by decide +kernel), inA 893 (by decide +kernel) (by decide +kernel), inA 88 (by decide +kernel) (by decide +kernel), inA 894 (by decide +kernel) (by decide +kernel), by decide +kernel, by decide +kernel, by decide +kernel⟩
theorem ml_L_59 : Cond.methodLink RL 59 yX5_away ∈ ALLW := inA 891 (by decide +kernel) (by decide +kernel)
theorem ok_X5_firstTurn : okV yX5_firstTurn cX5_firstTurn 1 (some .int) 0 := ⟨inA 899 (by decide +kernel) (by decide +kernel), inA 900 (by decide +kernel) (by decide +kernel), inA 88 (by decide +kernel) (by decide +kernel), inA 901 (by decide +kernel) (by decide +kernel), by decide +kernel, by decide +kernel, by decide +kernel⟩
theorem ml_L_63 : Cond.methodLink RL 63 yX5_firstTurn ∈ ALLW := inA 898 (by decide +kernel) (by decide +kernel)
theorem ok_X5_isOdd : okV yX5_isOdd cX5_isOdd 2 (some .boolean) 1 := ⟨inA 907 (by decide +kernel) (by decide +kernel), inA 908 (by decide +kernel) (by decide +kernel), inA 88 (by decide +kernel) (by decide +kernel), inA 909 (by decide +kernel) (by decide +kernel), by decide +kernel, by decide +kernel, by decide +kernel⟩
theorem ml_L_66 : Cond.methodLink RL 66 yX5_isOdd ∈ ALLW := inA 906 (by decide +kernel) (by decide +kernel)
theorem ok_X5_would : okV yX5_would cX5_would 2 (some .int) 1 := ⟨inA 915 (by decide +kernel) (by decide +kernel), inA 916 (by decide +kernel) (by decide +kernel), inA 88 (by decide +kernel) (by decide +kernel), inA 917 (by decide +kernel) (by decide +kernel), by decide +kernel, by decide +kernel, by decide +kernel⟩
theorem ml_L_70 : Cond.methodLink RL 70 yX5_would ∈ ALLW := inA 914 (by decide +kernel) (by decide +kernel)
theorem ok_X5_best : okV yX5_best cX5_best 2 (some .int) 0 := ⟨inA 922 (by decide +kernel) (by decide +kernel), inA 923 (by decide +kernel) (by decide +kernel), inA 88 (by decide +kernel) (by decide +kernel), inA 924 (by decide +kernel) (by decide +kernel), by decide +kernel, by decide +kernel, by decide +kernel⟩
theorem ml_L_73 : Cond.methodLink RL 73 yX5_best ∈ ALLW := inA 921 (by decide +kernel) (by decide +kernel)
theorem ok_X5_where : okV yX5_where cX5_where 4 (some .int) 3 := ⟨inA 935 (by decide +kernel) (by decide +kernel), inA 936 (by decide +kernel) (by decide +kernel), inA 88 (by decide +kernel) (by decide +kernel), inA 937 (by decide +kernel) (by decide +kernel), by decide +kernel, by decide +kernel, by decide +kernel⟩
theorem ml_L_76 : Cond.methodLink RL 76 yX5_where ∈ ALLW := inA 934 (by decide +kernel) (by decide +kernel)
theorem ok_X5_far : okV yX5_far cX5_far 3 (some .int) 2 := ⟨inA 947 (by decide +kernel) (by decide +kernel), inA 948 (by decide +kernel) (by decide +kernel), inA 88 (by decide +kernel) (by decide +kernel), inA 949 (by decide +kernel) (by decide +kernel), by decide +kernel, by decide +kernel, by decide +kernel⟩
theorem ml_L_80 : Cond.methodLink RL 80 yX5_far ∈ ALLW := inA 946 (by decide +kernel) (by decide +kernel)
theorem ok_X5_sings : okV yX5_sings cX5_sings 2 (some .boolean) 1 := ⟨inA 963 (by decide +kernel) (by decide +kernel), inA 964 (by decide +kernel) (by decide +kernel), inA 88 (by decide +kernel) (by decide +kernel), inA 965 (by decide +kernel) (by decide +kernel), by decide +kernel, by decide +kernel, by decide +kernel⟩
theorem ml_L_83 : Cond.methodLink RL 83 yX5_sings ∈ ALLW := inA 962 (by decide +kernel) (by decide +kernel)
theorem ok_X5_ranked : okV yX5_ranked cX5_ranked 3 (some .int) 1 := ⟨inA 970 (by decide +kernel) (by decide +kernel), inA 971 (by decide +kernel) (by decide +kernel), inA 88 (by decide +kernel) (by decide +kernel), inA 972 (by decide +kernel) (by decide +kernel), by decide +kernel, by decide +kernel, by decide +kernel⟩
theorem ml_L_86 : Cond.methodLink RL 86 yX5_ranked ∈ ALLW := inA 969 (by decide +kernel) (by decide +kernel)
theorem ok_X5_lineText : okV yX5_lineText cX5_lineText 3 (some .int) 1 := ⟨inA 982 (by decide +kernel) (by decide +kernel), inA 983 (by decide +kernel) (by decide +kernel), inA 88 (by decide +kernel) (by decide +kernel), inA 984 (by decide +kernel) (by decide +kernel), by decide +kernel, by decide +kernel, by decide +kernel⟩
theorem ml_L_89 : Cond.methodLink RL 89 yX5_lineText ∈ ALLW := inA 981 (by decide +kernel) (by decide +kernel)
theorem ok_X5_character : okV yX5_character cX5_character 2 (some .char) 1 := ⟨inA 991 (by decide +kernel) (by decide +kernel), inA 992 (by decide +kernel) (by decide +kernel), inA 88 (by decide +kernel) (by decide +kernel), inA 993 (by decide +kernel) (by decide +kernel), by decide +kernel, by decide +kernel, by decide +kernel⟩
theorem ml_L_92 : Cond.methodLink RL 92 yX5_character ∈ ALLW := inA 990 (by decide +kernel) (by decide +kernel)
theorem ok_X5_append : okV yX5_append cX5_append 2 (some .int) 1 := ⟨inA 1003 (by decide +kernel) (by decide +kernel), inA 1004 (by decide +kernel) (by decide +kernel), inA 88 (by decide +kernel) (by decide +kernel), inA 1005 (by decide +kernel) (by decide +kernel), by decide +kernel, by decide +kernel, by decide +kernel⟩
theorem ml_L_95 : Cond.methodLink RL 95 yX5_append ∈ ALLW := inA 1002 (by decide +kernel) (by decide +kernel)
theorem cx_L_99 : Cond.classLink RL 99 "java/lang/IllegalStateException" ∈ ALLW := inA 1001 (by decide +kernel) (by decide +kernel)
theorem ok_X5_run : okV yX5_run cX5_run 2 (some .int) 0 := ⟨inA 1026 (by decide +kernel) (by decide +kernel), inA 1027 (by decide +kernel) (by decide +kernel), inA 88 (by decide +kernel) (by decide +kernel), inA 1028 (by decide +kernel) (by decide +kernel), by decide +kernel, by decide +kernel, by decide +kernel⟩
theorem ml_L_101 : Cond.methodLink RL 101 yX5_run ∈ ALLW := inA 1025 (by decide +kernel) (by decide +kernel)
theorem ok_X5_refusal : okV yX5_refusal cX5_refusal 2 (some .int) 1 := ⟨inA 1089 (by decide +kernel) (by decide +kernel), inA 1090 (by decide +kernel) (by decide +kernel), inA 88 (by decide +kernel) (by decide +kernel), inA 1091 (by decide +kernel) (by decide +kernel), by decide +kernel, by decide +kernel, by decide +kernel⟩
theorem ml_L_104 : Cond.methodLink RL 104 yX5_refusal ∈ ALLW := inA 1088 (by decide +kernel) (by decide +kernel)
theorem ok_X5_account : okV yX5_account cX5_account 2 (some .int) 1 := ⟨inA 1097 (by decide +kernel) (by decide +kernel), inA 1098 (by decide +kernel) (by decide +kernel), inA 88 (by decide +kernel) (by decide +kernel), inA 1099 (by decide +kernel) (by decide +kernel), by decide +kernel, by decide +kernel, by decide +kernel⟩
theorem ml_L_107 : Cond.methodLink RL 107 yX5_account ∈ ALLW := inA 1096 (by decide +kernel) (by decide +kernel)
theorem ok_X5_meanFar : okV yX5_meanFar cX5_meanFar 5 (some .double) 0 := ⟨inA 1119 (by decide +kernel) (by decide +kernel), inA 1120 (by decide +kernel) (by decide +kernel), inA 88 (by decide +kernel) (by decide +kernel), inA 1121 (by decide +kernel) (by decide +kernel), by decide +kernel, by decide +kernel, by decide +kernel⟩
theorem ml_L_110 : Cond.methodLink RL 110 yX5_meanFar ∈ ALLW := inA 1118 (by decide +kernel) (by decide +kernel)
theorem cx_L_114 : Cond.classLink RL 114 "java/lang/ArithmeticException" ∈ ALLW := inA 1104 (by decide +kernel) (by decide +kernel)
theorem ok_X5_undo : okV yX5_undo cX5_undo 1 (some .int) 0 := ⟨inA 1130 (by decide +kernel) (by decide +kernel), inA 1131 (by decide +kernel) (by decide +kernel), inA 88 (by decide +kernel) (by decide +kernel), inA 1132 (by decide +kernel) (by decide +kernel), by decide +kernel, by decide +kernel, by decide +kernel⟩
theorem ml_L_116 : Cond.methodLink RL 116 yX5_undo ∈ ALLW := inA 1129 (by decide +kernel) (by decide +kernel)
theorem ok_X5_restore : okV yX5_restore cX5_restore 1 (some .int) 0 := ⟨inA 1145 (by decide +kernel) (by decide +kernel), inA 1146 (by decide +kernel) (by decide +kernel), inA 88 (by decide +kernel) (by decide +kernel), inA 1147 (by decide +kernel) (by decide +kernel), by decide +kernel, by decide +kernel, by decide +kernel⟩
theorem ml_L_119 : Cond.methodLink RL 119 yX5_restore ∈ ALLW := inA 1144 (by decide +kernel) (by decide +kernel)
def F_L_board (w : Wo) (x1 : Int32) (x2 : Int32) : Option (Int32 × Wo) := (F_X5_board w x1 x2).bind fun q => Sum.elim (fun u => if u.1 = 2 then some (1, u.2) else none) (fun v => some (0, pL v.2 36 0 (ji2l v.1))) q
def F_L_put (w : Wo) (x1 : Int32) (x2 : Int32) : Option (Int32 × Wo) := (F_X5_put w x1 x2).bind fun q => Sum.elim (fun u => if u.1 = 1 then some (1, u.2) else if u.1 = 2 then some (2, u.2) else if u.1 = 3 then some (3, u.2) else none) (fun v => some (0, pL v.2 36 0 (ji2l v.1))) q
def F_L_goal (w : Wo) (x1 : Int32) (x2 : Int32) : Option (Int32 × Wo) := (F_X5_goal w x1 x2).bind fun q => Sum.elim (fun u => if u.1 = 1 then some (1, u.2) else if u.1 = 2 then some (2, u.2) else if u.1 = 3 then some (3, u.2) else none) (fun v => some (0, pL v.2 36 0 (ji2l v.1))) q
def F_L_turn (w : Wo) (x1 : Int32) : Option (Int32 × Wo) := (F_X5_turn w x1).bind fun q => Sum.elim (fun u => if u.1 = 1 then some (1, u.2) else if u.1 = 3 then some (2, u.2) else none) (fun v => some (0, pL v.2 36 0 (ji2l v.1))) q
def F_L_swap (w : Wo) (x1 : Int32) (x2 : Int32) : Option (Int32 × Wo) := (F_X5_swap w x1 x2).bind fun q => Sum.elim (fun u => if u.1 = 1 then some (1, u.2) else if u.1 = 3 then some (2, u.2) else none) (fun v => some (0, pL v.2 36 0 (ji2l v.1))) q
def F_L_bar (w : Wo) (x1 : Int32) : Option (Int32 × Wo) := (F_X5_bar w x1).bind fun q => Sum.elim (fun u => if u.1 = 1 then some (1, u.2) else none) (fun v => if v.1 = 0 then some (0, pL v.2 36 0 0) else some (0, pL v.2 36 0 1)) q
def F_L_scramble (w : Wo) (x1 : Int32) (x2 : Int32) : Option (Int32 × Wo) := (F_X5_scramble w x1 x2).bind fun q => Sum.elim (fun u => if u.1 = 2 then some (1, u.2) else none) (fun v => some (0, pL v.2 36 0 (ji2l v.1))) q
def F_L_step (w : Wo) : Option (Int32 × Wo) := (F_X5_step w).bind fun q => Sum.elim (fun u => if u.1 = 3 then some (1, u.2) else if u.1 = 4 then some (2, u.2) else none) (fun v => some (0, pL v.2 36 0 (ji2l v.1))) q
def F_L_letter (w : Wo) (x1 : Int32) : Option (Int32 × Wo) := (F_X5_letter w x1).bind fun q => Sum.elim (fun u => if u.1 = 1 then some (1, u.2) else none) (fun v => some (0, pL v.2 36 0 (ji2l v.1))) q
def F_L_sign (w : Wo) (x1 : Int32) : Option (Int32 × Wo) := (F_X5_sign w x1).bind fun q => Sum.elim (fun u => if u.1 = 1 then some (1, u.2) else none) (fun v => some (0, pL v.2 36 0 (ji2l v.1))) q
def F_L_isBarred (w : Wo) (x1 : Int32) : Option (Int32 × Wo) := (F_X5_isBarred w x1).bind fun q => Sum.elim (fun u => if u.1 = 1 then some (1, u.2) else none) (fun v => if v.1 = 0 then some (0, pL v.2 36 0 0) else some (0, pL v.2 36 0 1)) q
def F_L_boardOf (w : Wo) (x1 : Int32) : Option (Int32 × Wo) := (F_X5_boardOf w x1).bind fun q => Sum.elim (fun u => if u.1 = 2 then some (1, u.2) else none) (fun v => some (0, pL v.2 36 0 (ji2l v.1))) q
def F_L_away (w : Wo) (x1 : Int32) : Option (Int32 × Wo) := (F_X5_away w x1).bind fun q => Sum.elim (fun u => if u.1 = 4 then some (1, u.2) else none) (fun v => some (0, pL v.2 36 0 (ji2l v.1))) q
def F_L_firstTurn (w : Wo) : Option (Int32 × Wo) := (F_X5_firstTurn w).bind fun q => Sum.elim (fun u => if u.1 = 4 then some (1, u.2) else none) (fun v => some (0, pL v.2 36 0 (ji2l v.1))) q
def F_L_isOdd (w : Wo) (x1 : Int32) : Option (Int32 × Wo) := (F_X5_isOdd w x1).bind fun q => Sum.elim (fun u => if u.1 = 4 then some (1, u.2) else none) (fun v => if v.1 = 0 then some (0, pL v.2 36 0 0) else some (0, pL v.2 36 0 1)) q
def F_L_would (w : Wo) (x1 : Int32) : Option (Int32 × Wo) := (F_X5_would w x1).bind fun q => Sum.elim (fun u => if u.1 = 1 then some (1, u.2) else none) (fun v => some (0, pL v.2 36 0 (ji2l v.1))) q
def F_L_best (w : Wo) : Option (Int32 × Wo) := (F_X5_best w).bind fun q => Sum.elim (fun u => if u.1 = 4 then some (1, u.2) else none) (fun v => some (0, pL v.2 36 0 (ji2l v.1))) q
def F_L_where (w : Wo) (x1 : Int32) (x2 : Int32) (x3 : Int32) : Option (Int32 × Wo) := (F_X5_where w x1 x2 x3).bind fun q => Sum.elim (fun u => if u.1 = 1 then some (1, u.2) else if u.1 = 2 then some (2, u.2) else none) (fun v => some (0, pL v.2 36 0 (ji2l v.1))) q
def F_L_far (w : Wo) (x1 : Int32) (x2 : Int32) : Option (Int32 × Wo) := (F_X5_far w x1 x2).bind fun q => Sum.elim (fun u => if u.1 = 1 then some (1, u.2) else none) (fun v => some (0, pL v.2 36 0 (ji2l v.1))) q
def F_L_sings (w : Wo) (x1 : Int32) : Option (Int32 × Wo) := (F_X5_sings w x1).bind fun q => Sum.elim (fun u => if u.1 = 1 then some (1, u.2) else none) (fun v => if v.1 = 0 then some (0, pL v.2 36 0 0) else some (0, pL v.2 36 0 1)) q
def F_L_ranked (w : Wo) (x1 : Int32) : Option (Int32 × Wo) := (F_X5_ranked w x1).bind fun q => Sum.elim (fun u => if u.1 = 4 then some (1, u.2) else none) (fun v => some (0, pL v.2 36 0 (ji2l v.1))) q
def F_L_lineText (w : Wo) (x1 : Int32) : Option (Int32 × Wo) := (F_X5_lineText w x1).bind fun q => Sum.elim (fun u => if u.1 = 1 then some (1, u.2) else none) (fun v => some (0, pL v.2 36 0 (ji2l v.1))) q
def F_L_character (w : Wo) (x1 : Int32) : Option (Int32 × Wo) := (F_X5_character w x1).bind fun q => Sum.elim (fun u => if u.1 = 1 then some (1, u.2) else none) (fun v => some (0, pL v.2 36 0 (ji2l v.1))) q
def F_L_append (w : Wo) (x1 : Int32) : Option (Int32 × Wo) := (F_X5_append w x1).bind fun q => Sum.elim (fun u => if u.1 = 5 then some (1, u.2) else none) (fun v => some (0, pL v.2 36 0 (ji2l v.1))) q
def F_L_run (w : Wo) : Option (Int32 × Wo) := (F_X5_run w).bind fun q => Sum.elim (fun u => if u.1 = 2 then some (1, u.2) else if u.1 = 3 then some (2, u.2) else none) (fun v => some (0, pL v.2 36 0 (ji2l v.1))) q
def F_L_refusal (w : Wo) (x1 : Int32) : Option (Int32 × Wo) := (F_X5_refusal w x1).bind fun q => Sum.elim (fun u => if u.1 = 4 then some (1, u.2) else none) (fun v => some (0, pL v.2 36 0 (ji2l v.1))) q
def F_L_account (w : Wo) (x1 : Int32) : Option (Int32 × Wo) := (F_X5_account w x1).bind fun q => Sum.elim (fun u => if u.1 = 2 then some (1, u.2) else none) (fun v => some (0, pL v.2 36 0 (ji2l v.1))) q
def F_L_meanFar (w : Wo) : Option (Int32 × Wo) := (F_X5_meanFar w).bind fun q => Sum.elim (fun u => if u.1 = 6 then some (1, u.2) else none) (fun v => some (0, pD v.2 37 0 v.1)) q
def F_L_undo (w : Wo) : Option (Int32 × Wo) := (F_X5_undo w).bind fun q => Sum.elim (fun u => if u.1 = 5 then some (1, u.2) else none) (fun v => some (0, pL v.2 36 0 (ji2l v.1))) q
def F_L_restore (w : Wo) : Option (Int32 × Wo) := (F_X5_restore w).bind fun q => Sum.elim (fun u => if u.1 = 5 then some (1, u.2) else none) (fun v => some (0, pL v.2 36 0 (ji2l v.1))) q
