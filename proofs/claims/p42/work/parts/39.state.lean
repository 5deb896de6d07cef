/-! THE LAW: words of its calls; its method state -/
theorem ml_L_34 : Cond.methodLink RL 34 yX5_account ∈ ALLW := inA 889 (by decide +kernel) (by decide +kernel)
theorem ok_X5_account : okV yX5_account cX5_account 2 (some .int) 1 := ⟨inA 890 (by decide +kernel) (by decide +kernel), inA 891 (by decide +kernel) (by decide +kernel), inA 35 (by decide +kernel) (by decide +kernel), inA 892 (by decide +kernel) (by decide +kernel), by decide +kernel, by decide +kernel, by decide +kernel⟩
theorem ml_L_38 : Cond.methodLink RL 38 yX5_boardOf ∈ ALLW := inA 648 (by decide +kernel) (by decide +kernel)
theorem ok_X5_boardOf : okV yX5_boardOf cX5_boardOf 2 (some .int) 1 := ⟨inA 649 (by decide +kernel) (by decide +kernel), inA 650 (by decide +kernel) (by decide +kernel), inA 35 (by decide +kernel) (by decide +kernel), inA 651 (by decide +kernel) (by decide +kernel), by decide +kernel, by decide +kernel, by decide +kernel⟩
theorem ml_L_82 : Cond.methodLink RL 82 yX5_isBarred ∈ ALLW := inA 640 (by decide +kernel) (by decide +kernel)
theorem ok_X5_isBarred : okV yX5_isBarred cX5_isBarred 2 (some .boolean) 1 := ⟨inA 641 (by decide +kernel) (by decide +kernel), inA 642 (by decide +kernel) (by decide +kernel), inA 35 (by decide +kernel) (by decide +kernel), inA 643 (by decide +kernel) (by decide +kernel), by decide +kernel, by decide +kernel, by decide +kernel⟩
theorem ml_L_41 : Cond.methodLink RL 41 yX5_letter ∈ ALLW := inA 1056 (by decide +kernel) (by decide +kernel)
theorem ok_X5_letter : okV yX5_letter cX5_letter 2 (some .char) 1 := ⟨inA 1057 (by decide +kernel) (by decide +kernel), inA 1058 (by decide +kernel) (by decide +kernel), inA 35 (by decide +kernel) (by decide +kernel), inA 1059 (by decide +kernel) (by decide +kernel), by decide +kernel, by decide +kernel, by decide +kernel⟩
theorem ml_L_79 : Cond.methodLink RL 79 yX5_sign ∈ ALLW := inA 1063 (by decide +kernel) (by decide +kernel)
theorem ok_X5_sign : okV yX5_sign cX5_sign 2 (some .char) 1 := ⟨inA 1064 (by decide +kernel) (by decide +kernel), inA 1065 (by decide +kernel) (by decide +kernel), inA 35 (by decide +kernel) (by decide +kernel), inA 1066 (by decide +kernel) (by decide +kernel), by decide +kernel, by decide +kernel, by decide +kernel⟩
theorem ok_X5_append : okV yX5_append cX5_append 2 (some .int) 1 := ⟨inA 1022 (by decide +kernel) (by decide +kernel), inA 1023 (by decide +kernel) (by decide +kernel), inA 35 (by decide +kernel) (by decide +kernel), inA 1024 (by decide +kernel) (by decide +kernel), by decide +kernel, by decide +kernel, by decide +kernel⟩
theorem ml_L_17 : Cond.methodLink RL 17 yX5_append ∈ ALLW := inA 1021 (by decide +kernel) (by decide +kernel)
theorem ok_L_at : okS yL_at cL_at 2 (some .int) 2 := ⟨inA 968 (by decide +kernel) (by decide +kernel), inA 34 (by decide +kernel) (by decide +kernel), inA 969 (by decide +kernel) (by decide +kernel), by decide +kernel, by decide +kernel, by decide +kernel⟩
theorem ml_L_24 : Cond.methodLink RL 24 yL_at ∈ ALLW := inA 967 (by decide +kernel) (by decide +kernel)
theorem ml_L_30 : Cond.methodLink RL 30 yL_act ∈ ALLW := inA 1029 (by decide +kernel) (by decide +kernel)
theorem ok_X5_board : okV yX5_board cX5_board 3 (some .int) 2 := ⟨inA 277 (by decide +kernel) (by decide +kernel), inA 278 (by decide +kernel) (by decide +kernel), inA 35 (by decide +kernel) (by decide +kernel), inA 279 (by decide +kernel) (by decide +kernel), by decide +kernel, by decide +kernel, by decide +kernel⟩
theorem ml_L_44 : Cond.methodLink RL 44 yX5_board ∈ ALLW := inA 276 (by decide +kernel) (by decide +kernel)
theorem ok_X5_put : okV yX5_put cX5_put 5 (some .char) 2 := ⟨inA 518 (by decide +kernel) (by decide +kernel), inA 519 (by decide +kernel) (by decide +kernel), inA 35 (by decide +kernel) (by decide +kernel), inA 520 (by decide +kernel) (by decide +kernel), by decide +kernel, by decide +kernel, by decide +kernel⟩
theorem ml_L_48 : Cond.methodLink RL 48 yX5_put ∈ ALLW := inA 517 (by decide +kernel) (by decide +kernel)
theorem ok_X5_goal : okV yX5_goal cX5_goal 5 (some .char) 2 := ⟨inA 528 (by decide +kernel) (by decide +kernel), inA 529 (by decide +kernel) (by decide +kernel), inA 35 (by decide +kernel) (by decide +kernel), inA 530 (by decide +kernel) (by decide +kernel), by decide +kernel, by decide +kernel, by decide +kernel⟩
theorem ml_L_52 : Cond.methodLink RL 52 yX5_goal ∈ ALLW := inA 527 (by decide +kernel) (by decide +kernel)
theorem ok_X5_turn : okV yX5_turn cX5_turn 2 (some .int) 1 := ⟨inA 532 (by decide +kernel) (by decide +kernel), inA 533 (by decide +kernel) (by decide +kernel), inA 35 (by decide +kernel) (by decide +kernel), inA 534 (by decide +kernel) (by decide +kernel), by decide +kernel, by decide +kernel, by decide +kernel⟩
theorem ml_L_55 : Cond.methodLink RL 55 yX5_turn ∈ ALLW := inA 531 (by decide +kernel) (by decide +kernel)
theorem ok_X5_swap : okV yX5_swap cX5_swap 3 (some .int) 2 := ⟨inA 540 (by decide +kernel) (by decide +kernel), inA 541 (by decide +kernel) (by decide +kernel), inA 35 (by decide +kernel) (by decide +kernel), inA 542 (by decide +kernel) (by decide +kernel), by decide +kernel, by decide +kernel, by decide +kernel⟩
theorem ml_L_58 : Cond.methodLink RL 58 yX5_swap ∈ ALLW := inA 539 (by decide +kernel) (by decide +kernel)
theorem ok_X5_bar : okV yX5_bar cX5_bar 2 (some .boolean) 1 := ⟨inA 544 (by decide +kernel) (by decide +kernel), inA 545 (by decide +kernel) (by decide +kernel), inA 35 (by decide +kernel) (by decide +kernel), inA 546 (by decide +kernel) (by decide +kernel), by decide +kernel, by decide +kernel, by decide +kernel⟩
theorem ml_L_61 : Cond.methodLink RL 61 yX5_bar ∈ ALLW := inA 543 (by decide +kernel) (by decide +kernel)
theorem ok_X5_scramble : okV yX5_scramble cX5_scramble 4 (some .int) 2 := ⟨inA 549 (by decide +kernel) (by decide +kernel), inA 550 (by decide +kernel) (by decide +kernel), inA 35 (by decide +kernel) (by decide +kernel), inA 551 (by decide +kernel) (by decide +kernel), by decide +kernel, by decide +kernel, by decide +kernel⟩
theorem ml_L_65 : Cond.methodLink RL 65 yX5_scramble ∈ ALLW := inA 548 (by decide +kernel) (by decide +kernel)
theorem ok_X5_step : okV yX5_step cX5_step 2 (some .int) 0 := ⟨inA 553 (by decide +kernel) (by decide +kernel), inA 554 (by decide +kernel) (by decide +kernel), inA 35 (by decide +kernel) (by decide +kernel), inA 555 (by decide +kernel) (by decide +kernel), by decide +kernel, by decide +kernel, by decide +kernel⟩
theorem ml_L_68 : Cond.methodLink RL 68 yX5_step ∈ ALLW := inA 552 (by decide +kernel) (by decide +kernel)
theorem ok_L_build : okS yL_build cL_build 8 (some (.object "VowelTorus")) 1 := ⟨inA 1027 (by decide +kernel) (by decide +kernel), inA 34 (by decide +kernel) (by decide +kernel), inA 1028 (by decide +kernel) (by decide +kernel), by decide +kernel, by decide +kernel, by decide +kernel⟩
theorem ml_L_141 : Cond.methodLink RL 141 yL_build ∈ ALLW := inA 1026 (by decide +kernel) (by decide +kernel)
theorem ok_X5_save : okV yX5_save cX5_save 1 (some .int) 0 := ⟨inA 955 (by decide +kernel) (by decide +kernel), inA 956 (by decide +kernel) (by decide +kernel), inA 35 (by decide +kernel) (by decide +kernel), inA 957 (by decide +kernel) (by decide +kernel), by decide +kernel, by decide +kernel, by decide +kernel⟩
theorem ml_L_145 : Cond.methodLink RL 145 yX5_save ∈ ALLW := inA 954 (by decide +kernel) (by decide +kernel)
theorem ok_L_state : okS yL_state cL_state 3 (some .int) 1 := ⟨inA 1061 (by decide +kernel) (by decide +kernel), inA 34 (by decide +kernel) (by decide +kernel), inA 1062 (by decide +kernel) (by decide +kernel), by decide +kernel, by decide +kernel, by decide +kernel⟩
theorem ml_L_148 : Cond.methodLink RL 148 yL_state ∈ ALLW := inA 1060 (by decide +kernel) (by decide +kernel)
theorem ok_L_put : okS yL_put cL_put 3 none 2 := ⟨inA 971 (by decide +kernel) (by decide +kernel), inA 34 (by decide +kernel) (by decide +kernel), inA 972 (by decide +kernel) (by decide +kernel), by decide +kernel, by decide +kernel, by decide +kernel⟩
theorem ml_L_159 : Cond.methodLink RL 159 yL_put ∈ ALLW := inA 970 (by decide +kernel) (by decide +kernel)
theorem ok_X5_run : okV yX5_run cX5_run 2 (some .int) 0 := ⟨inA 820 (by decide +kernel) (by decide +kernel), inA 821 (by decide +kernel) (by decide +kernel), inA 35 (by decide +kernel) (by decide +kernel), inA 822 (by decide +kernel) (by decide +kernel), by decide +kernel, by decide +kernel, by decide +kernel⟩
theorem ml_L_162 : Cond.methodLink RL 162 yX5_run ∈ ALLW := inA 819 (by decide +kernel) (by decide +kernel)
theorem ok_X5_errorPosition : okV yX5_errorPosition cX5_errorPosition 1 (some .int) 0 := ⟨inA 881 (by decide +kernel) (by decide +kernel), inA 882 (by decide +kernel) (by decide +kernel), inA 35 (by decide +kernel) (by decide +kernel), inA 883 (by decide +kernel) (by decide +kernel), by decide +kernel, by decide +kernel, by decide +kernel⟩
theorem ml_L_165 : Cond.methodLink RL 165 yX5_errorPosition ∈ ALLW := inA 880 (by decide +kernel) (by decide +kernel)
theorem ok_X5_undo : okV yX5_undo cX5_undo 1 (some .int) 0 := ⟨inA 928 (by decide +kernel) (by decide +kernel), inA 929 (by decide +kernel) (by decide +kernel), inA 35 (by decide +kernel) (by decide +kernel), inA 930 (by decide +kernel) (by decide +kernel), by decide +kernel, by decide +kernel, by decide +kernel⟩
theorem ml_L_168 : Cond.methodLink RL 168 yX5_undo ∈ ALLW := inA 927 (by decide +kernel) (by decide +kernel)
theorem ml_L_173 : Cond.methodLink RL 173 yL_runs ∈ ALLW := inA 1078 (by decide +kernel) (by decide +kernel)
theorem ok_X5_refusal : okV yX5_refusal cX5_refusal 2 (some .int) 1 := ⟨inA 885 (by decide +kernel) (by decide +kernel), inA 886 (by decide +kernel) (by decide +kernel), inA 35 (by decide +kernel) (by decide +kernel), inA 887 (by decide +kernel) (by decide +kernel), by decide +kernel, by decide +kernel, by decide +kernel⟩
theorem ml_L_176 : Cond.methodLink RL 176 yX5_refusal ∈ ALLW := inA 884 (by decide +kernel) (by decide +kernel)
theorem ok_L_faults : okS yL_faults cL_faults 3 (some .boolean) 3 := ⟨inA 1082 (by decide +kernel) (by decide +kernel), inA 34 (by decide +kernel) (by decide +kernel), inA 1083 (by decide +kernel) (by decide +kernel), by decide +kernel, by decide +kernel, by decide +kernel⟩
theorem ml_L_186 : Cond.methodLink RL 186 yL_faults ∈ ALLW := inA 1081 (by decide +kernel) (by decide +kernel)
theorem ok_X5_away : okV yX5_away cX5_away 3 (some .int) 1 := ⟨inA 687 (by decide +kernel) (by decide +kernel), inA 688 (by decide +kernel) (by decide +kernel), inA 35 (by decide +kernel) (by decide +kernel), inA 689 (by decide +kernel) (by decide +kernel), by decide +kernel, by decide +kernel, by decide +kernel⟩
theorem ml_L_206 : Cond.methodLink RL 206 yX5_away ∈ ALLW := inA 686 (by decide +kernel) (by decide +kernel)
theorem ok_X5_isOut : okV yX5_isOut cX5_isOut 1 (some .boolean) 0 := ⟨inA 710 (by decide +kernel) (by decide +kernel), inA 711 (by decide +kernel) (by decide +kernel), inA 35 (by decide +kernel) (by decide +kernel), inA 712 (by decide +kernel) (by decide +kernel), by decide +kernel, by decide +kernel, by decide +kernel⟩
theorem ml_L_208 : Cond.methodLink RL 208 yX5_isOut ∈ ALLW := inA 709 (by decide +kernel) (by decide +kernel)
theorem ok_X5_isOdd : okV yX5_isOdd cX5_isOdd 2 (some .boolean) 1 := ⟨inA 714 (by decide +kernel) (by decide +kernel), inA 715 (by decide +kernel) (by decide +kernel), inA 35 (by decide +kernel) (by decide +kernel), inA 716 (by decide +kernel) (by decide +kernel), by decide +kernel, by decide +kernel, by decide +kernel⟩
theorem ml_L_212 : Cond.methodLink RL 212 yX5_isOdd ∈ ALLW := inA 713 (by decide +kernel) (by decide +kernel)
theorem ok_X5_home : okV yX5_home cX5_home 1 (some .int) 0 := ⟨inA 728 (by decide +kernel) (by decide +kernel), inA 729 (by decide +kernel) (by decide +kernel), inA 35 (by decide +kernel) (by decide +kernel), inA 730 (by decide +kernel) (by decide +kernel), by decide +kernel, by decide +kernel, by decide +kernel⟩
theorem ml_L_215 : Cond.methodLink RL 215 yX5_home ∈ ALLW := inA 727 (by decide +kernel) (by decide +kernel)
theorem ok_X5_text : okV yX5_text cX5_text 1 (some .int) 0 := ⟨inA 793 (by decide +kernel) (by decide +kernel), inA 794 (by decide +kernel) (by decide +kernel), inA 35 (by decide +kernel) (by decide +kernel), inA 795 (by decide +kernel) (by decide +kernel), by decide +kernel, by decide +kernel, by decide +kernel⟩
theorem ml_L_217 : Cond.methodLink RL 217 yX5_text ∈ ALLW := inA 792 (by decide +kernel) (by decide +kernel)
theorem ok_L_isLine : okS yL_isLine cL_isLine 4 (some .boolean) 3 := ⟨inA 1068 (by decide +kernel) (by decide +kernel), inA 34 (by decide +kernel) (by decide +kernel), inA 1069 (by decide +kernel) (by decide +kernel), by decide +kernel, by decide +kernel, by decide +kernel⟩
theorem ml_L_222 : Cond.methodLink RL 222 yL_isLine ∈ ALLW := inA 1067 (by decide +kernel) (by decide +kernel)
theorem ok_X5_firstTurn : okV yX5_firstTurn cX5_firstTurn 1 (some .int) 0 := ⟨inA 705 (by decide +kernel) (by decide +kernel), inA 706 (by decide +kernel) (by decide +kernel), inA 35 (by decide +kernel) (by decide +kernel), inA 707 (by decide +kernel) (by decide +kernel), by decide +kernel, by decide +kernel, by decide +kernel⟩
theorem ml_L_226 : Cond.methodLink RL 226 yX5_firstTurn ∈ ALLW := inA 704 (by decide +kernel) (by decide +kernel)
theorem ok_X5_best : okV yX5_best cX5_best 2 (some .int) 0 := ⟨inA 736 (by decide +kernel) (by decide +kernel), inA 737 (by decide +kernel) (by decide +kernel), inA 35 (by decide +kernel) (by decide +kernel), inA 738 (by decide +kernel) (by decide +kernel), by decide +kernel, by decide +kernel, by decide +kernel⟩
theorem ml_L_229 : Cond.methodLink RL 229 yX5_best ∈ ALLW := inA 735 (by decide +kernel) (by decide +kernel)
theorem ok_X5_would : okV yX5_would cX5_would 2 (some .int) 1 := ⟨inA 732 (by decide +kernel) (by decide +kernel), inA 733 (by decide +kernel) (by decide +kernel), inA 35 (by decide +kernel) (by decide +kernel), inA 734 (by decide +kernel) (by decide +kernel), by decide +kernel, by decide +kernel, by decide +kernel⟩
theorem ml_L_232 : Cond.methodLink RL 232 yX5_would ∈ ALLW := inA 731 (by decide +kernel) (by decide +kernel)
theorem ok_X5_goalText : okV yX5_goalText cX5_goalText 1 (some .int) 0 := ⟨inA 810 (by decide +kernel) (by decide +kernel), inA 811 (by decide +kernel) (by decide +kernel), inA 35 (by decide +kernel) (by decide +kernel), inA 812 (by decide +kernel) (by decide +kernel), by decide +kernel, by decide +kernel, by decide +kernel⟩
theorem ml_L_235 : Cond.methodLink RL 235 yX5_goalText ∈ ALLW := inA 809 (by decide +kernel) (by decide +kernel)
theorem ok_X5_singing : okV yX5_singing cX5_singing 3 (some .int) 0 := ⟨inA 775 (by decide +kernel) (by decide +kernel), inA 776 (by decide +kernel) (by decide +kernel), inA 35 (by decide +kernel) (by decide +kernel), inA 777 (by decide +kernel) (by decide +kernel), by decide +kernel, by decide +kernel, by decide +kernel⟩
theorem ml_L_240 : Cond.methodLink RL 240 yX5_singing ∈ ALLW := inA 774 (by decide +kernel) (by decide +kernel)
theorem ok_X5_ranked : okV yX5_ranked cX5_ranked 3 (some .int) 1 := ⟨inA 784 (by decide +kernel) (by decide +kernel), inA 785 (by decide +kernel) (by decide +kernel), inA 35 (by decide +kernel) (by decide +kernel), inA 786 (by decide +kernel) (by decide +kernel), by decide +kernel, by decide +kernel, by decide +kernel⟩
theorem ml_L_243 : Cond.methodLink RL 243 yX5_ranked ∈ ALLW := inA 783 (by decide +kernel) (by decide +kernel)
theorem ok_X5_lineText : okV yX5_lineText cX5_lineText 3 (some .int) 1 := ⟨inA 814 (by decide +kernel) (by decide +kernel), inA 815 (by decide +kernel) (by decide +kernel), inA 35 (by decide +kernel) (by decide +kernel), inA 816 (by decide +kernel) (by decide +kernel), by decide +kernel, by decide +kernel, by decide +kernel⟩
theorem ml_L_246 : Cond.methodLink RL 246 yX5_lineText ∈ ALLW := inA 813 (by decide +kernel) (by decide +kernel)
theorem ok_X5_where : okV yX5_where cX5_where 4 (some .int) 3 := ⟨inA 746 (by decide +kernel) (by decide +kernel), inA 747 (by decide +kernel) (by decide +kernel), inA 35 (by decide +kernel) (by decide +kernel), inA 748 (by decide +kernel) (by decide +kernel), by decide +kernel, by decide +kernel, by decide +kernel⟩
theorem ml_L_253 : Cond.methodLink RL 253 yX5_where ∈ ALLW := inA 745 (by decide +kernel) (by decide +kernel)
theorem ok_X5_far : okV yX5_far cX5_far 3 (some .int) 2 := ⟨inA 755 (by decide +kernel) (by decide +kernel), inA 756 (by decide +kernel) (by decide +kernel), inA 35 (by decide +kernel) (by decide +kernel), inA 757 (by decide +kernel) (by decide +kernel), by decide +kernel, by decide +kernel, by decide +kernel⟩
theorem ml_L_257 : Cond.methodLink RL 257 yX5_far ∈ ALLW := inA 754 (by decide +kernel) (by decide +kernel)
theorem ok_X5_meanFar : okV yX5_meanFar cX5_meanFar 5 (some .double) 0 := ⟨inA 903 (by decide +kernel) (by decide +kernel), inA 904 (by decide +kernel) (by decide +kernel), inA 35 (by decide +kernel) (by decide +kernel), inA 905 (by decide +kernel) (by decide +kernel), by decide +kernel, by decide +kernel, by decide +kernel⟩
theorem ml_L_260 : Cond.methodLink RL 260 yX5_meanFar ∈ ALLW := inA 902 (by decide +kernel) (by decide +kernel)
theorem ok_X5_homeShare : okV yX5_homeShare cX5_homeShare 2 (some .float) 0 := ⟨inA 924 (by decide +kernel) (by decide +kernel), inA 925 (by decide +kernel) (by decide +kernel), inA 35 (by decide +kernel) (by decide +kernel), inA 926 (by decide +kernel) (by decide +kernel), by decide +kernel, by decide +kernel, by decide +kernel⟩
theorem ml_L_264 : Cond.methodLink RL 264 yX5_homeShare ∈ ALLW := inA 923 (by decide +kernel) (by decide +kernel)
theorem ok_X5_isWell : okV yX5_isWell cX5_isWell 2 (some .boolean) 0 := ⟨inA 895 (by decide +kernel) (by decide +kernel), inA 896 (by decide +kernel) (by decide +kernel), inA 35 (by decide +kernel) (by decide +kernel), inA 897 (by decide +kernel) (by decide +kernel), by decide +kernel, by decide +kernel, by decide +kernel⟩
theorem ml_L_270 : Cond.methodLink RL 270 yX5_isWell ∈ ALLW := inA 894 (by decide +kernel) (by decide +kernel)
theorem ok_X5_restore : okV yX5_restore cX5_restore 1 (some .int) 0 := ⟨inA 959 (by decide +kernel) (by decide +kernel), inA 960 (by decide +kernel) (by decide +kernel), inA 35 (by decide +kernel) (by decide +kernel), inA 961 (by decide +kernel) (by decide +kernel), by decide +kernel, by decide +kernel, by decide +kernel⟩
theorem ml_L_273 : Cond.methodLink RL 273 yX5_restore ∈ ALLW := inA 958 (by decide +kernel) (by decide +kernel)
theorem ok_X5_character : okV yX5_character cX5_character 2 (some .char) 1 := ⟨inA 1071 (by decide +kernel) (by decide +kernel), inA 1072 (by decide +kernel) (by decide +kernel), inA 35 (by decide +kernel) (by decide +kernel), inA 1073 (by decide +kernel) (by decide +kernel), by decide +kernel, by decide +kernel, by decide +kernel⟩
theorem ml_L_276 : Cond.methodLink RL 276 yX5_character ∈ ALLW := inA 1070 (by decide +kernel) (by decide +kernel)
def B_L_state_118 (k90 : Wo → Int32 → Int32 → Option ((Nat × Wo) ⊕ (Int32 × Wo))) (w : Wo) (x2 : Int32) (t0 : Int32) (t1 : Int32) : Option ((Nat × Wo) ⊕ (Int32 × Wo)) := k90 w (t1 + t0) (x2 + 1)
def B_L_state_90 (k90 : Wo → Int32 → Int32 → Option ((Nat × Wo) ⊕ (Int32 × Wo))) (w : Wo) (x1 : Int32) (x2 : Int32) : Option ((Nat × Wo) ⊕ (Int32 × Wo)) := (F_X5_boardOf w 2).bind fun q3 => (Sum.elim (fun u => some (.inl u)) (fun v4 => (if (v4.1 / 2) ≤ x2 then (some (.inr (x1, v4.2))) else ((F_X5_isBarred v4.2 x2).bind fun q5 => (Sum.elim (fun u => some (.inl u)) (fun v6 => (if v6.1 = 0 then (B_L_state_118 k90 v6.2 x2 0 ((31 : Int32) * x1)) else (B_L_state_118 k90 v6.2 x2 1 ((31 : Int32) * x1)))) q5)))) q3)
def B_L_state_88 (w : Wo) (x1 : Int32) : Option ((Nat × Wo) ⊕ (Int32 × Wo)) := jl3 (B_L_state_90) fu w x1 0
def B_L_state_82 (k53 : Wo → Int32 → Int32 → Option ((Nat × Wo) ⊕ (Int32 × Wo))) (w : Wo) (x1 : Int32) (x2 : Int32) : Option ((Nat × Wo) ⊕ (Int32 × Wo)) := k53 w x1 (x2 + 1)
def B_L_state_53 (k53 : Wo → Int32 → Int32 → Option ((Nat × Wo) ⊕ (Int32 × Wo))) (w : Wo) (x1 : Int32) (x2 : Int32) : Option ((Nat × Wo) ⊕ (Int32 × Wo)) := (F_X5_account w 0).bind fun q1 => (Sum.elim (fun u => some (.inl u)) (fun v2 => (if v2.1 ≤ x2 then (B_L_state_88 v2.2 x1) else ((F_X5_letter v2.2 x2).bind fun q7 => (Sum.elim (fun u => some (.inl u)) (fun v8 => ((F_X5_sign v8.2 x2).bind fun q9 => (Sum.elim (fun u => some (.inl u)) (fun v10 => (B_L_state_82 k53 v10.2 (((31 : Int32) * (((31 : Int32) * x1) + v8.1)) + v10.1) x2)) q9))) q7)))) q1)
def B_L_state_51 (w : Wo) (x1 : Int32) : Option ((Nat × Wo) ⊕ (Int32 × Wo)) := jl3 (B_L_state_53) fu w x1 0
def B_L_state_29 (k29 : Wo → Int32 → Int32 → Option ((Nat × Wo) ⊕ (Int32 × Wo))) (w : Wo) (x1 : Int32) (x2 : Int32) : Option ((Nat × Wo) ⊕ (Int32 × Wo)) := if (2 : Int32) ≤ x2 then (B_L_state_51 w x1) else ((F_X5_boardOf w x2).bind fun q11 => (Sum.elim (fun u => some (.inl u)) (fun v12 => (k29 v12.2 (((31 : Int32) * x1) + v12.1) (x2 + 1))) q11))
def B_L_state_27 (w : Wo) (x1 : Int32) : Option ((Nat × Wo) ⊕ (Int32 × Wo)) := jl3 (B_L_state_29) fu w x1 0
def B_L_state_4 (k4 : Wo → Int32 → Int32 → Option ((Nat × Wo) ⊕ (Int32 × Wo))) (w : Wo) (x1 : Int32) (x2 : Int32) : Option ((Nat × Wo) ⊕ (Int32 × Wo)) := if (8 : Int32) ≤ x2 then (B_L_state_27 w x1) else ((F_X5_account w x2).bind fun q13 => (Sum.elim (fun u => some (.inl u)) (fun v14 => (k4 v14.2 (((31 : Int32) * x1) + v14.1) (x2 + 1))) q13))
def F_L_state (w : Wo) : Option ((Nat × Wo) ⊕ (Int32 × Wo)) := jl3 (B_L_state_4) fu w 0 0
set_option maxRecDepth 100000 in
set_option maxHeartbeats 4000000 in
theorem n_L_state (l : Launch) (P : Pl) (hA : Adr P) (hn : 26 ≤ P.2.2.2.1) (w : Wo) {r : (Int32 × Wo)} (h : F_L_state w = some (Sum.inr r)) : CtI l P yL_state cL_state 3 (some .int) 8 [.ref (P.2.1 0)] w r.1 r.2 := by
  have hlt : ∀ h, h < 26 → h < P.2.2.2.1 := fun h q => Nat.lt_of_lt_of_le q hn
  refine vs_met hA (by decide +kernel) (Nat.le_of_ble_eq_true rfl) (fun p e s m args below meth c ls S hF hP hl hr hk => ?_)
  have hx := S.1
  have hb := S.2.1
  replace hl : lv_has ls 3 [(0, .ref (P.2.1 0))] := hl
  have hL90 : ∀ (n : Nat) (w : Wo) (x1 : Int32) (x2 : Int32), jl3 (B_L_state_90) n w x1 x2 = some (Sum.inr r) → ∀ (H : Heap) (locs : List Loc) (ls : Array Slot), St P s w H locs → lv_has ls 3 [(0, .ref (P.2.1 0)), (1, .int x1), (2, .int x2)] → W p l e (rmU 8 0 0) s m args below meth c H locs 0 0 (QI P (some .int) r.1 r.2 below args s) (F0 m 90 ls []) := by
    intro n
    induction n with
    | zero =>
      intro w x1 x2 h
      cases h
    | succ n ih90 =>
      intro w x1 x2 h H locs ls hP hl
      replace h : B_L_state_90 (jl3 (B_L_state_90) n) w x1 x2 = some (Sum.inr r) := h
      revert h ih90
      generalize jl3 (B_L_state_90) n = k90
      intro ih90 h
      have hB118 : ∀ (w : Wo) (x2 : Int32) (t0 : Int32) (t1 : Int32), B_L_state_118 k90 w x2 t0 t1 = some (Sum.inr r) → ∀ (H : Heap) (locs : List Loc) (ls : Array Slot), St P s w H locs → lv_has ls 3 [(0, .ref (P.2.1 0)), (2, .int x2)] → W p l e (rmU 8 0 0) s m args below meth c H locs 0 0 (QI P (some .int) r.1 r.2 below args s) (F0 m 118 ls [.int t0, .int t1]) := by
        intro w x2 t0 t1 h H locs ls hP hl
        unfold B_L_state_118 at h
        refine lv_iadd hx hb dL_state_118 ?_
        refine lv_istore_n (lv' := [(1, .int (t1 + t0)), (0, .ref (P.2.1 0)), (2, .int x2)]) hx hb dL_state_119 rfl hl (by decide) rfl (fun ls hl => ?_)
        refine lv_iinc (v := (x2 + 1)) (lv' := [(2, .int (x2 + 1)), (1, .int (t1 + t0)), (0, .ref (P.2.1 0))]) hx hb dL_state_120 hl (k := 2) rfl rfl (by decide) rfl (fun ls hl => ?_)
        refine lv_goto (tgt := 90) hx hb dL_state_123 (by decide) ?_
        exact ih90 _ _ _ h _ _ _ hP (lv_sub hl [2, 1, 0] rfl)
      unfold B_L_state_90 at h
      refine lv_iload_n hx hb dL_state_90 rfl (lv_at hl 2 rfl) ?_
      refine lv_aload_n hx hb dL_state_91 rfl (lv_at hl 0 rfl) ?_
      refine lv_iconst (v := 2) hx hb dL_state_92 (by decide) ?_
      obtain ⟨q3, hq3, h⟩ := ob h
      cases q3 with
      | inl u => cases h
      | inr v4 =>
        rw [Sum.elim_inr] at h
        refine vu_i hP (vu_V S hF hP (h := 0) (hlt _ (by decide)) rfl (by decide) rfl (n_X5_boardOf l P hA hn w 2 hq3) ok_X5_boardOf ml_L_38 ⟨Nat.le_of_ble_eq_true rfl, Nat.le_of_ble_eq_true rfl⟩ rfl hl.1 rfl (Nat.le_of_ble_eq_true rfl) dL_state_93 ⟨Nat.le_of_ble_eq_true rfl, Nat.le_of_ble_eq_true rfl⟩) (fun H locs hov4 hP => ?_)
        try dsimp only at h
        refine lv_iconst (v := 2) hx hb dL_state_96 (by decide) ?_
        refine lv_idiv hx hb dL_state_97 (by decide) ?_
        refine lv_icmp_ge (tgt := 126) hx hb dL_state_98 (by decide) (fun c15 => ?_) (fun c15 => ?_)
        · rw [if_pos c15] at h
          refine lv_iload_n hx hb dL_state_126 rfl (lv_at hl 1 rfl) ?_
          obtain rfl := Sum.inr.inj (Option.some.inj h)
          exact ve_i (v := x1) S hF hP hr hk rfl dL_state_127
        · rw [if_neg c15] at h
          refine lv_bipush (v := 31) hx hb dL_state_101 (by decide) ?_
          refine lv_iload_n hx hb dL_state_103 rfl (lv_at hl 1 rfl) ?_
          refine lv_imul hx hb dL_state_104 ?_
          refine lv_aload_n hx hb dL_state_105 rfl (lv_at hl 0 rfl) ?_
          refine lv_iload_n hx hb dL_state_106 rfl (lv_at hl 2 rfl) ?_
          obtain ⟨q5, hq5, h⟩ := ob h
          cases q5 with
          | inl u => cases h
          | inr v6 =>
            rw [Sum.elim_inr] at h
            refine vu_i hP (vu_V S hF hP (h := 0) (hlt _ (by decide)) rfl (by decide) rfl (n_X5_isBarred l P hA hn v4.2 x2 hq5) ok_X5_isBarred ml_L_82 ⟨Nat.le_of_ble_eq_true rfl, Nat.le_of_ble_eq_true rfl⟩ rfl hl.1 rfl (Nat.le_of_ble_eq_true rfl) dL_state_107 ⟨Nat.le_of_ble_eq_true rfl, Nat.le_of_ble_eq_true rfl⟩) (fun H locs hov6 hP => ?_)
            try dsimp only at h
            refine lv_if_eq (tgt := 117) hx hb dL_state_110 (by decide) (fun c16 => ?_) (fun c16 => ?_)
            · rw [if_pos c16] at h
              refine lv_iconst (v := 0) hx hb dL_state_117 (by decide) ?_
              exact hB118 _ _ _ _ h _ _ _ hP (lv_sub hl [0, 2] rfl)
            · rw [if_neg c16] at h
              refine lv_iconst (v := 1) hx hb dL_state_113 (by decide) ?_
              refine lv_goto (tgt := 118) hx hb dL_state_114 (by decide) ?_
              exact hB118 _ _ _ _ h _ _ _ hP (lv_sub hl [0, 2] rfl)
  have hB88 : ∀ (w : Wo) (x1 : Int32), B_L_state_88 w x1 = some (Sum.inr r) → ∀ (H : Heap) (locs : List Loc) (ls : Array Slot), St P s w H locs → lv_has ls 3 [(0, .ref (P.2.1 0)), (1, .int x1)] → W p l e (rmU 8 0 0) s m args below meth c H locs 0 0 (QI P (some .int) r.1 r.2 below args s) (F0 m 88 ls []) := by
    intro w x1 h H locs ls hP hl
    unfold B_L_state_88 at h
    refine lv_iconst (v := 0) hx hb dL_state_88 (by decide) ?_
    refine lv_istore_n (lv' := [(2, .int 0), (0, .ref (P.2.1 0)), (1, .int x1)]) hx hb dL_state_89 rfl hl (by decide) rfl (fun ls hl => ?_)
    exact hL90 fu _ _ _ h _ _ _ hP (lv_sub hl [1, 2, 0] rfl)
  have hL53 : ∀ (n : Nat) (w : Wo) (x1 : Int32) (x2 : Int32), jl3 (B_L_state_53) n w x1 x2 = some (Sum.inr r) → ∀ (H : Heap) (locs : List Loc) (ls : Array Slot), St P s w H locs → lv_has ls 3 [(0, .ref (P.2.1 0)), (1, .int x1), (2, .int x2)] → W p l e (rmU 8 0 0) s m args below meth c H locs 0 0 (QI P (some .int) r.1 r.2 below args s) (F0 m 53 ls []) := by
    intro n
    induction n with
    | zero =>
      intro w x1 x2 h
      cases h
    | succ n ih53 =>
      intro w x1 x2 h H locs ls hP hl
      replace h : B_L_state_53 (jl3 (B_L_state_53) n) w x1 x2 = some (Sum.inr r) := h
      revert h ih53
      generalize jl3 (B_L_state_53) n = k53
      intro ih53 h
      have hB82 : ∀ (w : Wo) (x1 : Int32) (x2 : Int32), B_L_state_82 k53 w x1 x2 = some (Sum.inr r) → ∀ (H : Heap) (locs : List Loc) (ls : Array Slot), St P s w H locs → lv_has ls 3 [(0, .ref (P.2.1 0)), (1, .int x1), (2, .int x2)] → W p l e (rmU 8 0 0) s m args below meth c H locs 0 0 (QI P (some .int) r.1 r.2 below args s) (F0 m 82 ls []) := by
        intro w x1 x2 h H locs ls hP hl
        unfold B_L_state_82 at h
        refine lv_iinc (v := (x2 + 1)) (lv' := [(2, .int (x2 + 1)), (0, .ref (P.2.1 0)), (1, .int x1)]) hx hb dL_state_82 hl (k := 2) rfl rfl (by decide) rfl (fun ls hl => ?_)
        refine lv_goto (tgt := 53) hx hb dL_state_85 (by decide) ?_
        exact ih53 _ _ _ h _ _ _ hP (lv_sub hl [1, 2, 0] rfl)
      unfold B_L_state_53 at h
      refine lv_iload_n hx hb dL_state_53 rfl (lv_at hl 2 rfl) ?_
      refine lv_aload_n hx hb dL_state_54 rfl (lv_at hl 0 rfl) ?_
      refine lv_iconst (v := 0) hx hb dL_state_55 (by decide) ?_
      obtain ⟨q1, hq1, h⟩ := ob h
      cases q1 with
      | inl u => cases h
      | inr v2 =>
        rw [Sum.elim_inr] at h
        refine vu_i hP (vu_V S hF hP (h := 0) (hlt _ (by decide)) rfl (by decide) rfl (n_X5_account l P hA hn w 0 hq1) ok_X5_account ml_L_34 ⟨Nat.le_of_ble_eq_true rfl, Nat.le_of_ble_eq_true rfl⟩ rfl hl.1 rfl (Nat.le_of_ble_eq_true rfl) dL_state_56 ⟨Nat.le_of_ble_eq_true rfl, Nat.le_of_ble_eq_true rfl⟩) (fun H locs hov2 hP => ?_)
        try dsimp only at h
        refine lv_icmp_ge (tgt := 88) hx hb dL_state_59 (by decide) (fun c17 => ?_) (fun c17 => ?_)
        · rw [if_pos c17] at h
          exact hB88 _ _ h _ _ _ hP (lv_sub hl [0, 1] rfl)
        · rw [if_neg c17] at h
          refine lv_bipush (v := 31) hx hb dL_state_62 (by decide) ?_
          refine lv_bipush (v := 31) hx hb dL_state_64 (by decide) ?_
          refine lv_iload_n hx hb dL_state_66 rfl (lv_at hl 1 rfl) ?_
          refine lv_imul hx hb dL_state_67 ?_
          refine lv_aload_n hx hb dL_state_68 rfl (lv_at hl 0 rfl) ?_
          refine lv_iload_n hx hb dL_state_69 rfl (lv_at hl 2 rfl) ?_
          obtain ⟨q7, hq7, h⟩ := ob h
          cases q7 with
          | inl u => cases h
          | inr v8 =>
            rw [Sum.elim_inr] at h
            refine vu_i hP (vu_V S hF hP (h := 0) (hlt _ (by decide)) rfl (by decide) rfl (n_X5_letter l P hA hn v2.2 x2 hq7) ok_X5_letter ml_L_41 ⟨Nat.le_of_ble_eq_true rfl, Nat.le_of_ble_eq_true rfl⟩ rfl hl.1 rfl (Nat.le_of_ble_eq_true rfl) dL_state_70 ⟨Nat.le_of_ble_eq_true rfl, Nat.le_of_ble_eq_true rfl⟩) (fun H locs hov8 hP => ?_)
            try dsimp only at h
            refine lv_iadd hx hb dL_state_73 ?_
            refine lv_imul hx hb dL_state_74 ?_
            refine lv_aload_n hx hb dL_state_75 rfl (lv_at hl 0 rfl) ?_
            refine lv_iload_n hx hb dL_state_76 rfl (lv_at hl 2 rfl) ?_
            obtain ⟨q9, hq9, h⟩ := ob h
            cases q9 with
            | inl u => cases h
            | inr v10 =>
              rw [Sum.elim_inr] at h
              refine vu_i hP (vu_V S hF hP (h := 0) (hlt _ (by decide)) rfl (by decide) rfl (n_X5_sign l P hA hn v8.2 x2 hq9) ok_X5_sign ml_L_79 ⟨Nat.le_of_ble_eq_true rfl, Nat.le_of_ble_eq_true rfl⟩ rfl hl.1 rfl (Nat.le_of_ble_eq_true rfl) dL_state_77 ⟨Nat.le_of_ble_eq_true rfl, Nat.le_of_ble_eq_true rfl⟩) (fun H locs hov10 hP => ?_)
              try dsimp only at h
              refine lv_iadd hx hb dL_state_80 ?_
              refine lv_istore_n (lv' := [(1, .int (((31 : Int32) * (((31 : Int32) * x1) + v8.1)) + v10.1)), (0, .ref (P.2.1 0)), (2, .int x2)]) hx hb dL_state_81 rfl hl (by decide) rfl (fun ls hl => ?_)
              exact hB82 _ _ _ h _ _ _ hP (lv_sub hl [1, 0, 2] rfl)
  have hB51 : ∀ (w : Wo) (x1 : Int32), B_L_state_51 w x1 = some (Sum.inr r) → ∀ (H : Heap) (locs : List Loc) (ls : Array Slot), St P s w H locs → lv_has ls 3 [(0, .ref (P.2.1 0)), (1, .int x1)] → W p l e (rmU 8 0 0) s m args below meth c H locs 0 0 (QI P (some .int) r.1 r.2 below args s) (F0 m 51 ls []) := by
    intro w x1 h H locs ls hP hl
    unfold B_L_state_51 at h
    refine lv_iconst (v := 0) hx hb dL_state_51 (by decide) ?_
    refine lv_istore_n (lv' := [(2, .int 0), (0, .ref (P.2.1 0)), (1, .int x1)]) hx hb dL_state_52 rfl hl (by decide) rfl (fun ls hl => ?_)
    exact hL53 fu _ _ _ h _ _ _ hP (lv_sub hl [1, 2, 0] rfl)
  have hL29 : ∀ (n : Nat) (w : Wo) (x1 : Int32) (x2 : Int32), jl3 (B_L_state_29) n w x1 x2 = some (Sum.inr r) → ∀ (H : Heap) (locs : List Loc) (ls : Array Slot), St P s w H locs → lv_has ls 3 [(0, .ref (P.2.1 0)), (1, .int x1), (2, .int x2)] → W p l e (rmU 8 0 0) s m args below meth c H locs 0 0 (QI P (some .int) r.1 r.2 below args s) (F0 m 29 ls []) := by
    intro n
    induction n with
    | zero =>
      intro w x1 x2 h
      cases h
    | succ n ih29 =>
      intro w x1 x2 h H locs ls hP hl
      replace h : B_L_state_29 (jl3 (B_L_state_29) n) w x1 x2 = some (Sum.inr r) := h
      revert h ih29
      generalize jl3 (B_L_state_29) n = k29
      intro ih29 h
      unfold B_L_state_29 at h
      refine lv_iload_n hx hb dL_state_29 rfl (lv_at hl 2 rfl) ?_
      refine lv_iconst (v := 2) hx hb dL_state_30 (by decide) ?_
      refine lv_icmp_ge (tgt := 51) hx hb dL_state_31 (by decide) (fun c18 => ?_) (fun c18 => ?_)
      · rw [if_pos c18] at h
        exact hB51 _ _ h _ _ _ hP (lv_sub hl [0, 1] rfl)
      · rw [if_neg c18] at h
        refine lv_bipush (v := 31) hx hb dL_state_34 (by decide) ?_
        refine lv_iload_n hx hb dL_state_36 rfl (lv_at hl 1 rfl) ?_
        refine lv_imul hx hb dL_state_37 ?_
        refine lv_aload_n hx hb dL_state_38 rfl (lv_at hl 0 rfl) ?_
        refine lv_iload_n hx hb dL_state_39 rfl (lv_at hl 2 rfl) ?_
        obtain ⟨q11, hq11, h⟩ := ob h
        cases q11 with
        | inl u => cases h
        | inr v12 =>
          rw [Sum.elim_inr] at h
          refine vu_i hP (vu_V S hF hP (h := 0) (hlt _ (by decide)) rfl (by decide) rfl (n_X5_boardOf l P hA hn w x2 hq11) ok_X5_boardOf ml_L_38 ⟨Nat.le_of_ble_eq_true rfl, Nat.le_of_ble_eq_true rfl⟩ rfl hl.1 rfl (Nat.le_of_ble_eq_true rfl) dL_state_40 ⟨Nat.le_of_ble_eq_true rfl, Nat.le_of_ble_eq_true rfl⟩) (fun H locs hov12 hP => ?_)
          try dsimp only at h
          refine lv_iadd hx hb dL_state_43 ?_
          refine lv_istore_n (lv' := [(1, .int (((31 : Int32) * x1) + v12.1)), (0, .ref (P.2.1 0)), (2, .int x2)]) hx hb dL_state_44 rfl hl (by decide) rfl (fun ls hl => ?_)
          refine lv_iinc (v := (x2 + 1)) (lv' := [(2, .int (x2 + 1)), (1, .int (((31 : Int32) * x1) + v12.1)), (0, .ref (P.2.1 0))]) hx hb dL_state_45 hl (k := 2) rfl rfl (by decide) rfl (fun ls hl => ?_)
          refine lv_goto (tgt := 29) hx hb dL_state_48 (by decide) ?_
          exact ih29 _ _ _ h _ _ _ hP (lv_sub hl [2, 1, 0] rfl)
  have hB27 : ∀ (w : Wo) (x1 : Int32), B_L_state_27 w x1 = some (Sum.inr r) → ∀ (H : Heap) (locs : List Loc) (ls : Array Slot), St P s w H locs → lv_has ls 3 [(0, .ref (P.2.1 0)), (1, .int x1)] → W p l e (rmU 8 0 0) s m args below meth c H locs 0 0 (QI P (some .int) r.1 r.2 below args s) (F0 m 27 ls []) := by
    intro w x1 h H locs ls hP hl
    unfold B_L_state_27 at h
    refine lv_iconst (v := 0) hx hb dL_state_27 (by decide) ?_
    refine lv_istore_n (lv' := [(2, .int 0), (0, .ref (P.2.1 0)), (1, .int x1)]) hx hb dL_state_28 rfl hl (by decide) rfl (fun ls hl => ?_)
    exact hL29 fu _ _ _ h _ _ _ hP (lv_sub hl [1, 2, 0] rfl)
  have hL4 : ∀ (n : Nat) (w : Wo) (x1 : Int32) (x2 : Int32), jl3 (B_L_state_4) n w x1 x2 = some (Sum.inr r) → ∀ (H : Heap) (locs : List Loc) (ls : Array Slot), St P s w H locs → lv_has ls 3 [(0, .ref (P.2.1 0)), (1, .int x1), (2, .int x2)] → W p l e (rmU 8 0 0) s m args below meth c H locs 0 0 (QI P (some .int) r.1 r.2 below args s) (F0 m 4 ls []) := by
    intro n
    induction n with
    | zero =>
      intro w x1 x2 h
      cases h
    | succ n ih4 =>
      intro w x1 x2 h H locs ls hP hl
      replace h : B_L_state_4 (jl3 (B_L_state_4) n) w x1 x2 = some (Sum.inr r) := h
      revert h ih4
      generalize jl3 (B_L_state_4) n = k4
      intro ih4 h
      unfold B_L_state_4 at h
      refine lv_iload_n hx hb dL_state_4 rfl (lv_at hl 2 rfl) ?_
      refine lv_bipush (v := 8) hx hb dL_state_5 (by decide) ?_
      refine lv_icmp_ge (tgt := 27) hx hb dL_state_7 (by decide) (fun c19 => ?_) (fun c19 => ?_)
      · rw [if_pos c19] at h
        exact hB27 _ _ h _ _ _ hP (lv_sub hl [0, 1] rfl)
      · rw [if_neg c19] at h
        refine lv_bipush (v := 31) hx hb dL_state_10 (by decide) ?_
        refine lv_iload_n hx hb dL_state_12 rfl (lv_at hl 1 rfl) ?_
        refine lv_imul hx hb dL_state_13 ?_
        refine lv_aload_n hx hb dL_state_14 rfl (lv_at hl 0 rfl) ?_
        refine lv_iload_n hx hb dL_state_15 rfl (lv_at hl 2 rfl) ?_
        obtain ⟨q13, hq13, h⟩ := ob h
        cases q13 with
        | inl u => cases h
        | inr v14 =>
          rw [Sum.elim_inr] at h
          refine vu_i hP (vu_V S hF hP (h := 0) (hlt _ (by decide)) rfl (by decide) rfl (n_X5_account l P hA hn w x2 hq13) ok_X5_account ml_L_34 ⟨Nat.le_of_ble_eq_true rfl, Nat.le_of_ble_eq_true rfl⟩ rfl hl.1 rfl (Nat.le_of_ble_eq_true rfl) dL_state_16 ⟨Nat.le_of_ble_eq_true rfl, Nat.le_of_ble_eq_true rfl⟩) (fun H locs hov14 hP => ?_)
          try dsimp only at h
          refine lv_iadd hx hb dL_state_19 ?_
          refine lv_istore_n (lv' := [(1, .int (((31 : Int32) * x1) + v14.1)), (0, .ref (P.2.1 0)), (2, .int x2)]) hx hb dL_state_20 rfl hl (by decide) rfl (fun ls hl => ?_)
          refine lv_iinc (v := (x2 + 1)) (lv' := [(2, .int (x2 + 1)), (1, .int (((31 : Int32) * x1) + v14.1)), (0, .ref (P.2.1 0))]) hx hb dL_state_21 hl (k := 2) rfl rfl (by decide) rfl (fun ls hl => ?_)
          refine lv_goto (tgt := 4) hx hb dL_state_24 (by decide) ?_
          exact ih4 _ _ _ h _ _ _ hP (lv_sub hl [2, 1, 0] rfl)
  unfold F_L_state at h
  refine lv_iconst (v := 0) hx hb dL_state_0 (by decide) ?_
  refine lv_istore_n (lv' := [(1, .int 0), (0, .ref (P.2.1 0))]) hx hb dL_state_1 rfl hl (by decide) rfl (fun ls hl => ?_)
  refine lv_iconst (v := 0) hx hb dL_state_2 (by decide) ?_
  refine lv_istore_n (lv' := [(2, .int 0), (1, .int 0), (0, .ref (P.2.1 0))]) hx hb dL_state_3 rfl hl (by decide) rfl (fun ls hl => ?_)
  exact hL4 fu _ _ _ h _ _ _ hP (lv_sub hl [2, 1, 0] rfl)
