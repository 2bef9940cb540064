section ZRows
variable {l : Launch} {D : va_G} {tc : Nat → ClassId} {A : Nat → Prop} {nS : Nat} {xs : Nat → Int32}
theorem ok_X12_letter_45 : zOK l D tc A nS xs mM_X12_letter 45 q_X12_letter_45 := s_iret rfl (by decide +kernel)
theorem ok_X12_letter_44 : zOK l D tc A nS xs mM_X12_letter 44 q_X12_letter_44 := s_iconst (n := (-1)) (by decide) (by decide +kernel) (by decide +kernel) ok_X12_letter_45
theorem ok_X12_letter_41 : zOK l D tc A nS xs mM_X12_letter 41 q_X12_letter_41 := s_goto (tgt := 45) (off := 4) (by decide +kernel) (by decide) ok_X12_letter_45
theorem ok_X12_letter_40 : zOK l D tc A nS xs mM_X12_letter 40 q_X12_letter_40 := s_iald (t0 := 0) (by decide) (by decide) rfl (by decide +kernel) ok_X12_letter_41
theorem ok_X12_letter_39 : zOK l D tc A nS xs mM_X12_letter 39 q_X12_letter_39 := s_iadd (by decide +kernel) ok_X12_letter_40
theorem ok_X12_letter_38 : zOK l D tc A nS xs mM_X12_letter 38 q_X12_letter_38 := s_iload_n (q := 2) rfl (by decide +kernel) (by decide +kernel) ok_X12_letter_39
theorem ok_X12_letter_37 : zOK l D tc A nS xs mM_X12_letter 37 q_X12_letter_37 := s_imul (by decide +kernel) ok_X12_letter_38
theorem ok_X12_letter_36 : zOK l D tc A nS xs mM_X12_letter 36 q_X12_letter_36 := s_iload_n (q := 1) rfl (by decide +kernel) (by decide +kernel) ok_X12_letter_37
theorem ok_X12_letter_34 : zOK l D tc A nS xs mM_X12_letter 34 q_X12_letter_34 := s_bipush (n := 13) (by decide) (by decide +kernel) (by decide +kernel) ok_X12_letter_36
theorem ok_X12_letter_31 : zOK l D tc A nS xs mM_X12_letter 31 q_X12_letter_31 := r_getf kls_12 (by decide) tx_12_42 rfl w_860 (by decide +kernel) ok_X12_letter_34
theorem ok_X12_letter_30 : zOK l D tc A nS xs mM_X12_letter 30 q_X12_letter_30 := s_aload_n (q := 0) rfl (by decide +kernel) (by decide +kernel) ok_X12_letter_31
theorem ok_X12_letter_27 : zOK l D tc A nS xs mM_X12_letter 27 q_X12_letter_27 := s_if_eq (tgt := 44) (off := 17) (by decide +kernel) (by decide) ok_X12_letter_44 ok_X12_letter_30
theorem ok_X12_letter_24 : zOK l D tc A nS xs mM_X12_letter 24 q_X12_letter_24 := r_callS zEE_ok zTw_gd (M2 := mM_X12_in) lb_217 calS_X12_in rfl rfl w_771 (by decide +kernel) ok_X12_letter_27
theorem ok_X12_letter_23 : zOK l D tc A nS xs mM_X12_letter 23 q_X12_letter_23 := s_isub (by decide +kernel) ok_X12_letter_24
theorem ok_X12_letter_22 : zOK l D tc A nS xs mM_X12_letter 22 q_X12_letter_22 := s_iconst (n := 1) (by decide) (by decide +kernel) (by decide +kernel) ok_X12_letter_23
theorem ok_X12_letter_21 : zOK l D tc A nS xs mM_X12_letter 21 q_X12_letter_21 := s_iald (t0 := 0) (by decide) (by decide) rfl (by decide +kernel) ok_X12_letter_22
theorem ok_X12_letter_20 : zOK l D tc A nS xs mM_X12_letter 20 q_X12_letter_20 := s_iload_n (q := 1) rfl (by decide +kernel) (by decide +kernel) ok_X12_letter_21
theorem ok_X12_letter_17 : zOK l D tc A nS xs mM_X12_letter 17 q_X12_letter_17 := r_getf kls_12 (by decide) tx_12_43 rfl w_859 (by decide +kernel) ok_X12_letter_20
theorem ok_X12_letter_16 : zOK l D tc A nS xs mM_X12_letter 16 q_X12_letter_16 := s_aload_n (q := 0) rfl (by decide +kernel) (by decide +kernel) ok_X12_letter_17
theorem ok_X12_letter_15 : zOK l D tc A nS xs mM_X12_letter 15 q_X12_letter_15 := s_iconst (n := 0) (by decide) (by decide +kernel) (by decide +kernel) ok_X12_letter_16
theorem ok_X12_letter_14 : zOK l D tc A nS xs mM_X12_letter 14 q_X12_letter_14 := s_iload_n (q := 2) rfl (by decide +kernel) (by decide +kernel) ok_X12_letter_15
theorem ok_X12_letter_11 : zOK l D tc A nS xs mM_X12_letter 11 q_X12_letter_11 := s_if_eq (tgt := 44) (off := 33) (by decide +kernel) (by decide) ok_X12_letter_44 ok_X12_letter_14
theorem ok_X12_letter_8 : zOK l D tc A nS xs mM_X12_letter 8 q_X12_letter_8 := r_callS zEE_ok zTw_gd (M2 := mM_X12_in) lb_217 calS_X12_in rfl rfl w_771 (by decide +kernel) ok_X12_letter_11
theorem ok_X12_letter_7 : zOK l D tc A nS xs mM_X12_letter 7 q_X12_letter_7 := s_isub (by decide +kernel) ok_X12_letter_8
theorem ok_X12_letter_6 : zOK l D tc A nS xs mM_X12_letter 6 q_X12_letter_6 := s_iconst (n := 1) (by decide) (by decide +kernel) (by decide +kernel) ok_X12_letter_7
theorem ok_X12_letter_3 : zOK l D tc A nS xs mM_X12_letter 3 q_X12_letter_3 := r_getf kls_12 (by decide) tx_12_45 rfl w_895 (by decide +kernel) ok_X12_letter_6
theorem ok_X12_letter_2 : zOK l D tc A nS xs mM_X12_letter 2 q_X12_letter_2 := s_aload_n (q := 0) rfl (by decide +kernel) (by decide +kernel) ok_X12_letter_3
theorem ok_X12_letter_1 : zOK l D tc A nS xs mM_X12_letter 1 q_X12_letter_1 := s_iconst (n := 0) (by decide) (by decide +kernel) (by decide +kernel) ok_X12_letter_2
theorem ok_X12_letter_0 : zOK l D tc A nS xs mM_X12_letter 0 q_X12_letter_0 := s_iload_n (q := 1) rfl (by decide +kernel) (by decide +kernel) ok_X12_letter_1
theorem ok_X12_listed_16 : zOK l D tc A nS xs mM_X12_listed 16 q_X12_listed_16 := s_iret rfl (by decide +kernel)
theorem ok_X12_listed_15 : zOK l D tc A nS xs mM_X12_listed 15 q_X12_listed_15 := s_iload_n (q := 3) rfl (by decide +kernel) (by decide +kernel) ok_X12_listed_16
theorem ok_X12_listed_14 : zOK l D tc A nS xs mM_X12_listed 14 q_X12_listed_14 := s_iast (t0 := 0) (by decide) (by decide) rfl (by decide +kernel) ok_X12_listed_15
theorem ok_X12_listed_13 : zOK l D tc A nS xs mM_X12_listed 13 q_X12_listed_13 := s_iconst (n := (-1)) (by decide) (by decide +kernel) (by decide +kernel) ok_X12_listed_14
theorem ok_X12_listed_12 : zOK l D tc A nS xs mM_X12_listed 12 q_X12_listed_12 := s_iload_n (q := 3) rfl (by decide +kernel) (by decide +kernel) ok_X12_listed_13
theorem ok_X12_listed_9 : zOK l D tc A nS xs mM_X12_listed 9 q_X12_listed_9 := r_getf kls_12 (by decide) tx_12_35 rfl w_687 (by decide +kernel) ok_X12_listed_12
theorem ok_X12_listed_8 : zOK l D tc A nS xs mM_X12_listed 8 q_X12_listed_8 := s_aload_n (q := 0) rfl (by decide +kernel) (by decide +kernel) ok_X12_listed_9
theorem ok_X12_listed_7 : zOK l D tc A nS xs mM_X12_listed 7 q_X12_listed_7 := s_istore_n (q := 3) rfl (by decide +kernel) (by decide +kernel) ok_X12_listed_8
theorem ok_X12_listed_4 : zOK l D tc A nS xs mM_X12_listed 4 q_X12_listed_4 := r_callV zEE_ok zTw_gd kls_12 (M2 := mM_X12_atom) (na := 3) lb_183 calV_X12_atom rfl rfl w_731 (by decide +kernel) ok_X12_listed_7
theorem ok_X12_listed_3 : zOK l D tc A nS xs mM_X12_listed 3 q_X12_listed_3 := s_iload_n (q := 2) rfl (by decide +kernel) (by decide +kernel) ok_X12_listed_4
theorem ok_X12_listed_2 : zOK l D tc A nS xs mM_X12_listed 2 q_X12_listed_2 := s_iload_n (q := 1) rfl (by decide +kernel) (by decide +kernel) ok_X12_listed_3
theorem ok_X12_listed_1 : zOK l D tc A nS xs mM_X12_listed 1 q_X12_listed_1 := s_iconst (n := 5) (by decide) (by decide +kernel) (by decide +kernel) ok_X12_listed_2
theorem ok_X12_listed_0 : zOK l D tc A nS xs mM_X12_listed 0 q_X12_listed_0 := s_aload_n (q := 0) rfl (by decide +kernel) (by decide +kernel) ok_X12_listed_1
theorem ok_X12_load_37 : zOK l D tc A nS xs mM_X12_load 37 q_X12_load_37 := s_iret rfl (by decide +kernel)
theorem ok_X12_load_36 : zOK l D tc A nS xs mM_X12_load 36 q_X12_load_36 := s_isub (by decide +kernel) ok_X12_load_37
theorem ok_X12_load_33 : zOK l D tc A nS xs mM_X12_load 33 q_X12_load_33 := r_getf kls_12 (by decide) tx_12_101 rfl w_896 (by decide +kernel) ok_X12_load_36
theorem ok_X12_load_32 : zOK l D tc A nS xs mM_X12_load 32 q_X12_load_32 := s_aload_n (q := 0) rfl (by decide +kernel) (by decide +kernel) ok_X12_load_33
theorem ok_X12_load_29 : zOK l D tc A nS xs mM_X12_load 29 q_X12_load_29 := r_getf kls_12 (by decide) tx_12_100 rfl w_897 (by decide +kernel) ok_X12_load_32
theorem ok_X12_load_28 : zOK l D tc A nS xs mM_X12_load 28 q_X12_load_28 := s_aload_n (q := 0) rfl (by decide +kernel) (by decide +kernel) ok_X12_load_29
theorem ok_X12_load_21 : zOK l D tc A nS xs mM_X12_load 21 q_X12_load_21 := s_if_le (tgt := 28) (off := 7) (by decide +kernel) (by decide) ok_X12_load_28 s_none
theorem ok_X12_load_18 : zOK l D tc A nS xs mM_X12_load 18 q_X12_load_18 := r_getf kls_12 (by decide) tx_12_40 rfl w_775 (by decide +kernel) ok_X12_load_21
theorem ok_X12_load_17 : zOK l D tc A nS xs mM_X12_load 17 q_X12_load_17 := s_aload_n (q := 0) rfl (by decide +kernel) (by decide +kernel) ok_X12_load_18
theorem ok_X12_load_14 : zOK l D tc A nS xs mM_X12_load 14 q_X12_load_14 := r_callV zEE_ok zTw_gd kls_12 (M2 := mM_X12_takesText) (na := 0) lb_283 calV_X12_takesText rfl rfl w_898 (by decide +kernel) ok_X12_load_17
theorem ok_X12_load_13 : zOK l D tc A nS xs mM_X12_load 13 q_X12_load_13 := s_aload_n (q := 0) rfl (by decide +kernel) (by decide +kernel) ok_X12_load_14
theorem ok_X12_load_10 : zOK l D tc A nS xs mM_X12_load 10 q_X12_load_10 := r_putf kls_12 ty_12_32 zck_int (by decide) tx_12_32 rfl w_770 (by decide +kernel) ok_X12_load_13
theorem ok_X12_load_9 : zOK l D tc A nS xs mM_X12_load 9 q_X12_load_9 := s_iconst (n := 0) (by decide) (by decide +kernel) (by decide +kernel) ok_X12_load_10
theorem ok_X12_load_8 : zOK l D tc A nS xs mM_X12_load 8 q_X12_load_8 := s_aload_n (q := 0) rfl (by decide +kernel) (by decide +kernel) ok_X12_load_9
theorem ok_X12_load_5 : zOK l D tc A nS xs mM_X12_load 5 q_X12_load_5 := r_putf kls_12 ty_12_47 zck_int (by decide) tx_12_47 rfl w_723 (by decide +kernel) ok_X12_load_8
theorem ok_X12_load_2 : zOK l D tc A nS xs mM_X12_load 2 q_X12_load_2 := r_getf kls_12 (by decide) tx_12_32 rfl w_770 (by decide +kernel) ok_X12_load_5
theorem ok_X12_load_1 : zOK l D tc A nS xs mM_X12_load 1 q_X12_load_1 := s_aload_n (q := 0) rfl (by decide +kernel) (by decide +kernel) ok_X12_load_2
theorem ok_X12_load_0 : zOK l D tc A nS xs mM_X12_load 0 q_X12_load_0 := s_aload_n (q := 0) rfl (by decide +kernel) (by decide +kernel) ok_X12_load_1
theorem ok_X12_look_121 : zOK l D tc A nS xs mM_X12_look 121 q_X12_look_121 := s_iret rfl (by decide +kernel)
theorem ok_X12_look_120 : zOK l D tc A nS xs mM_X12_look 120 q_X12_look_120 := s_iconst (n := (-1)) (by decide) (by decide +kernel) (by decide +kernel) ok_X12_look_121
theorem ok_X12_look_119 : zOK l D tc A nS xs mM_X12_look 119 q_X12_look_119 := s_iret rfl (by decide +kernel)
theorem ok_X12_look_116 : zOK l D tc A nS xs mM_X12_look 116 q_X12_look_116 := r_getf kls_12 (by decide) tx_12_23 rfl w_874 (by decide +kernel) ok_X12_look_119
theorem ok_X12_look_115 : zOK l D tc A nS xs mM_X12_look 115 q_X12_look_115 := s_aload_n (q := 0) rfl (by decide +kernel) (by decide +kernel) ok_X12_look_116
theorem ok_X12_look_114 : zOK l D tc A nS xs mM_X12_look 114 q_X12_look_114 := s_iret rfl (by decide +kernel)
theorem ok_X12_look_111 : zOK l D tc A nS xs mM_X12_look 111 q_X12_look_111 := r_getf kls_12 (by decide) tx_12_68 rfl w_759 (by decide +kernel) ok_X12_look_114
theorem ok_X12_look_110 : zOK l D tc A nS xs mM_X12_look 110 q_X12_look_110 := s_aload_n (q := 0) rfl (by decide +kernel) (by decide +kernel) ok_X12_look_111
theorem ok_X12_look_109 : zOK l D tc A nS xs mM_X12_look 109 q_X12_look_109 := s_iret rfl (by decide +kernel)
theorem ok_X12_look_106 : zOK l D tc A nS xs mM_X12_look 106 q_X12_look_106 := r_getf kls_12 (by decide) tx_12_25 rfl w_901 (by decide +kernel) ok_X12_look_109
theorem ok_X12_look_105 : zOK l D tc A nS xs mM_X12_look 105 q_X12_look_105 := s_aload_n (q := 0) rfl (by decide +kernel) (by decide +kernel) ok_X12_look_106
theorem ok_X12_look_104 : zOK l D tc A nS xs mM_X12_look 104 q_X12_look_104 := s_iret rfl (by decide +kernel)
theorem ok_X12_look_101 : zOK l D tc A nS xs mM_X12_look 101 q_X12_look_101 := r_getf kls_12 (by decide) tx_12_103 rfl w_902 (by decide +kernel) ok_X12_look_104
theorem ok_X12_look_100 : zOK l D tc A nS xs mM_X12_look 100 q_X12_look_100 := s_aload_n (q := 0) rfl (by decide +kernel) (by decide +kernel) ok_X12_look_101
theorem ok_X12_look_99 : zOK l D tc A nS xs mM_X12_look 99 q_X12_look_99 := s_iret rfl (by decide +kernel)
theorem ok_X12_look_96 : zOK l D tc A nS xs mM_X12_look 96 q_X12_look_96 := r_getf kls_12 (by decide) tx_12_104 rfl w_903 (by decide +kernel) ok_X12_look_99
theorem ok_X12_look_95 : zOK l D tc A nS xs mM_X12_look 95 q_X12_look_95 := s_aload_n (q := 0) rfl (by decide +kernel) (by decide +kernel) ok_X12_look_96
theorem ok_X12_look_94 : zOK l D tc A nS xs mM_X12_look 94 q_X12_look_94 := s_iret rfl (by decide +kernel)
theorem ok_X12_look_91 : zOK l D tc A nS xs mM_X12_look 91 q_X12_look_91 := r_getf kls_12 (by decide) tx_12_45 rfl w_895 (by decide +kernel) ok_X12_look_94
theorem ok_X12_look_90 : zOK l D tc A nS xs mM_X12_look 90 q_X12_look_90 := s_aload_n (q := 0) rfl (by decide +kernel) (by decide +kernel) ok_X12_look_91
theorem ok_X12_look_89 : zOK l D tc A nS xs mM_X12_look 89 q_X12_look_89 := s_iret rfl (by decide +kernel)
theorem ok_X12_look_86 : zOK l D tc A nS xs mM_X12_look 86 q_X12_look_86 := r_getf kls_12 (by decide) tx_12_12 rfl w_904 (by decide +kernel) ok_X12_look_89
theorem ok_X12_look_85 : zOK l D tc A nS xs mM_X12_look 85 q_X12_look_85 := s_aload_n (q := 0) rfl (by decide +kernel) (by decide +kernel) ok_X12_look_86
theorem ok_X12_look_84 : zOK l D tc A nS xs mM_X12_look 84 q_X12_look_84 := s_iret rfl (by decide +kernel)
theorem ok_X12_look_81 : zOK l D tc A nS xs mM_X12_look 81 q_X12_look_81 := r_getf kls_12 (by decide) tx_12_11 rfl w_905 (by decide +kernel) ok_X12_look_84
theorem ok_X12_look_80 : zOK l D tc A nS xs mM_X12_look 80 q_X12_look_80 := s_aload_n (q := 0) rfl (by decide +kernel) (by decide +kernel) ok_X12_look_81
theorem ok_X12_look_79 : zOK l D tc A nS xs mM_X12_look 79 q_X12_look_79 := s_iret rfl (by decide +kernel)
theorem ok_X12_look_76 : zOK l D tc A nS xs mM_X12_look 76 q_X12_look_76 := r_getf kls_12 (by decide) tx_12_10 rfl w_803 (by decide +kernel) ok_X12_look_79
theorem ok_X12_look_75 : zOK l D tc A nS xs mM_X12_look 75 q_X12_look_75 := s_aload_n (q := 0) rfl (by decide +kernel) (by decide +kernel) ok_X12_look_76
theorem ok_X12_look_74 : zOK l D tc A nS xs mM_X12_look 74 q_X12_look_74 := s_iret rfl (by decide +kernel)
theorem ok_X12_look_71 : zOK l D tc A nS xs mM_X12_look 71 q_X12_look_71 := r_getf kls_12 (by decide) tx_12_9 rfl w_906 (by decide +kernel) ok_X12_look_74
theorem ok_X12_look_70 : zOK l D tc A nS xs mM_X12_look 70 q_X12_look_70 := s_aload_n (q := 0) rfl (by decide +kernel) (by decide +kernel) ok_X12_look_71
theorem ok_X12_look_69 : zOK l D tc A nS xs mM_X12_look 69 q_X12_look_69 := s_iret rfl (by decide +kernel)
theorem ok_X12_look_68 : zOK l D tc A nS xs mM_X12_look 68 q_X12_look_68 := s_isub (by decide +kernel) ok_X12_look_69
theorem ok_X12_look_65 : zOK l D tc A nS xs mM_X12_look 65 q_X12_look_65 := r_getf kls_12 (by decide) tx_12_101 rfl w_896 (by decide +kernel) ok_X12_look_68
theorem ok_X12_look_64 : zOK l D tc A nS xs mM_X12_look 64 q_X12_look_64 := s_aload_n (q := 0) rfl (by decide +kernel) (by decide +kernel) ok_X12_look_65
theorem ok_X12_look_61 : zOK l D tc A nS xs mM_X12_look 61 q_X12_look_61 := r_getf kls_12 (by decide) tx_12_100 rfl w_897 (by decide +kernel) ok_X12_look_64
theorem ok_X12_look_60 : zOK l D tc A nS xs mM_X12_look 60 q_X12_look_60 := s_aload_n (q := 0) rfl (by decide +kernel) (by decide +kernel) ok_X12_look_61
theorem ok_X12_look_1 : zOK l D tc A nS xs mM_X12_look 1 q_X12_look_1 := r_tsw (ts := [(59, 60, q_X12_look_60), (69, 70, q_X12_look_70), (74, 75, q_X12_look_75), (79, 80, q_X12_look_80), (84, 85, q_X12_look_85), (89, 90, q_X12_look_90), (94, 95, q_X12_look_95), (99, 100, q_X12_look_100), (104, 105, q_X12_look_105), (109, 110, q_X12_look_110), (114, 115, q_X12_look_115)]) (dflt := 119) (hi := 10) (offs := #[59, 69, 74, 79, 84, 89, 94, 99, 104, 109, 114]) (len := 59) (tgt := 120) (by decide +kernel) (by decide +kernel) (by decide) (by decide) (by decide) ok_X12_look_120 (List.forall_mem_cons.mpr ⟨⟨by decide, ok_X12_look_60⟩, (List.forall_mem_cons.mpr ⟨⟨by decide, ok_X12_look_70⟩, (List.forall_mem_cons.mpr ⟨⟨by decide, ok_X12_look_75⟩, (List.forall_mem_cons.mpr ⟨⟨by decide, ok_X12_look_80⟩, (List.forall_mem_cons.mpr ⟨⟨by decide, ok_X12_look_85⟩, (List.forall_mem_cons.mpr ⟨⟨by decide, ok_X12_look_90⟩, (List.forall_mem_cons.mpr ⟨⟨by decide, ok_X12_look_95⟩, (List.forall_mem_cons.mpr ⟨⟨by decide, ok_X12_look_100⟩, (List.forall_mem_cons.mpr ⟨⟨by decide, ok_X12_look_105⟩, (List.forall_mem_cons.mpr ⟨⟨by decide, ok_X12_look_110⟩, (List.forall_mem_cons.mpr ⟨⟨by decide, ok_X12_look_115⟩, fun _ h => absurd h List.not_mem_nil⟩)⟩)⟩)⟩)⟩)⟩)⟩)⟩)⟩)⟩)⟩)
theorem ok_X12_look_0 : zOK l D tc A nS xs mM_X12_look 0 q_X12_look_0 := s_iload_n (q := 1) rfl (by decide +kernel) (by decide +kernel) ok_X12_look_1
theorem ok_X12_macroOf_29 : zOK l D tc A nS xs mM_X12_macroOf 29 q_X12_macroOf_29 := s_iret rfl (by decide +kernel)
theorem ok_X12_macroOf_28 : zOK l D tc A nS xs mM_X12_macroOf 28 q_X12_macroOf_28 := s_iconst (n := (-1)) (by decide) (by decide +kernel) (by decide +kernel) ok_X12_macroOf_29
theorem ok_X12_macroOf_25 : zOK l D tc A nS xs mM_X12_macroOf 25 q_X12_macroOf_25 := s_goto (tgt := 2) (off := (-23)) (by decide +kernel) (by decide) (s_back lb_244)
theorem ok_X12_macroOf_22 : zOK l D tc A nS xs mM_X12_macroOf 22 q_X12_macroOf_22 := s_iinc (n := 1) (by decide +kernel) (by decide +kernel) (by decide +kernel) ok_X12_macroOf_25
theorem ok_X12_macroOf_17 : zOK l D tc A nS xs mM_X12_macroOf 17 q_X12_macroOf_17 := s_icmp_ne (tgt := 22) (off := 5) (by decide +kernel) (by decide) ok_X12_macroOf_22 s_none
theorem ok_X12_macroOf_16 : zOK l D tc A nS xs mM_X12_macroOf 16 q_X12_macroOf_16 := s_iload_n (q := 1) rfl (by decide +kernel) (by decide +kernel) ok_X12_macroOf_17
theorem ok_X12_macroOf_15 : zOK l D tc A nS xs mM_X12_macroOf 15 q_X12_macroOf_15 := s_iald (t0 := 0) (by decide) (by decide) rfl (by decide +kernel) ok_X12_macroOf_16
theorem ok_X12_macroOf_14 : zOK l D tc A nS xs mM_X12_macroOf 14 q_X12_macroOf_14 := s_iload_n (q := 2) rfl (by decide +kernel) (by decide +kernel) ok_X12_macroOf_15
theorem ok_X12_macroOf_11 : zOK l D tc A nS xs mM_X12_macroOf 11 q_X12_macroOf_11 := r_getf kls_12 (by decide) tx_12_69 rfl w_760 (by decide +kernel) ok_X12_macroOf_14
theorem ok_X12_macroOf_10 : zOK l D tc A nS xs mM_X12_macroOf 10 q_X12_macroOf_10 := s_aload_n (q := 0) rfl (by decide +kernel) (by decide +kernel) ok_X12_macroOf_11
theorem ok_X12_macroOf_7 : zOK l D tc A nS xs mM_X12_macroOf 7 q_X12_macroOf_7 := s_icmp_ge (tgt := 28) (off := 21) (by decide +kernel) (by decide) ok_X12_macroOf_28 ok_X12_macroOf_10
theorem ok_X12_macroOf_4 : zOK l D tc A nS xs mM_X12_macroOf 4 q_X12_macroOf_4 := r_getf kls_12 (by decide) tx_12_68 rfl w_759 (by decide +kernel) ok_X12_macroOf_7
theorem ok_X12_macroOf_3 : zOK l D tc A nS xs mM_X12_macroOf 3 q_X12_macroOf_3 := s_aload_n (q := 0) rfl (by decide +kernel) (by decide +kernel) ok_X12_macroOf_4
theorem ok_X12_macroOf_2 : zOK l D tc A nS xs mM_X12_macroOf 2 q_X12_macroOf_2 := s_iload_n (q := 2) rfl (by decide +kernel) (by decide +kernel) ok_X12_macroOf_3
theorem ok_X12_macroOf_1 : zOK l D tc A nS xs mM_X12_macroOf 1 q_X12_macroOf_1 := s_istore_n (q := 2) rfl (by decide +kernel) (by decide +kernel) ok_X12_macroOf_2
theorem ok_X12_macroOf_0 : zOK l D tc A nS xs mM_X12_macroOf 0 q_X12_macroOf_0 := s_iconst (n := 0) (by decide) (by decide +kernel) (by decide +kernel) ok_X12_macroOf_1
theorem ok_X12_mayBegin_75 : zOK l D tc A nS xs mM_X12_mayBegin 75 q_X12_mayBegin_75 := s_zret rfl (by decide +kernel)
theorem ok_X12_mayBegin_74 : zOK l D tc A nS xs mM_X12_mayBegin 74 q_X12_mayBegin_74 := s_iload_n (q := 1) rfl (by decide +kernel) (by decide +kernel) ok_X12_mayBegin_75
theorem ok_X12_mayBegin_62 : zOK l D tc A nS xs mM_X12_mayBegin 62 q_X12_mayBegin_62 := s_if_ne (tgt := 74) (off := 12) (by decide +kernel) (by decide) ok_X12_mayBegin_74 s_none
theorem ok_X12_mayBegin_61 : zOK l D tc A nS xs mM_X12_mayBegin 61 q_X12_mayBegin_61 := s_iload_n (q := 1) rfl (by decide +kernel) (by decide +kernel) ok_X12_mayBegin_62
theorem ok_X12_mayBegin_60 : zOK l D tc A nS xs mM_X12_mayBegin 60 q_X12_mayBegin_60 := s_istore_n (q := 1) rfl (by decide +kernel) (by decide +kernel) ok_X12_mayBegin_61
theorem ok_X12_mayBegin_56 : zOK l D tc A nS xs mM_X12_mayBegin 56 q_X12_mayBegin_56 := s_goto (tgt := 60) (off := 4) (by decide +kernel) (by decide) ok_X12_mayBegin_60
theorem ok_X12_mayBegin_55 : zOK l D tc A nS xs mM_X12_mayBegin 55 q_X12_mayBegin_55 := s_iconst (n := 1) (by decide) (by decide +kernel) (by decide +kernel) ok_X12_mayBegin_56
theorem ok_X12_mayBegin_52 : zOK l D tc A nS xs mM_X12_mayBegin 52 q_X12_mayBegin_52 := s_icmp_ge (tgt := 59) (off := 7) (by decide +kernel) (by decide) s_none ok_X12_mayBegin_55
theorem ok_X12_mayBegin_51 : zOK l D tc A nS xs mM_X12_mayBegin 51 q_X12_mayBegin_51 := s_iconst (n := 2) (by decide) (by decide +kernel) (by decide +kernel) ok_X12_mayBegin_52
theorem ok_X12_mayBegin_50 : zOK l D tc A nS xs mM_X12_mayBegin 50 q_X12_mayBegin_50 := s_iald (t0 := 0) (by decide) (by decide) rfl (by decide +kernel) ok_X12_mayBegin_51
theorem ok_X12_mayBegin_49 : zOK l D tc A nS xs mM_X12_mayBegin 49 q_X12_mayBegin_49 := s_isub (by decide +kernel) ok_X12_mayBegin_50
theorem ok_X12_mayBegin_48 : zOK l D tc A nS xs mM_X12_mayBegin 48 q_X12_mayBegin_48 := s_iconst (n := 1) (by decide) (by decide +kernel) (by decide +kernel) ok_X12_mayBegin_49
theorem ok_X12_mayBegin_45 : zOK l D tc A nS xs mM_X12_mayBegin 45 q_X12_mayBegin_45 := r_getf kls_12 (by decide) tx_12_56 rfl w_735 (by decide +kernel) ok_X12_mayBegin_48
theorem ok_X12_mayBegin_44 : zOK l D tc A nS xs mM_X12_mayBegin 44 q_X12_mayBegin_44 := s_aload_n (q := 0) rfl (by decide +kernel) (by decide +kernel) ok_X12_mayBegin_45
theorem ok_X12_mayBegin_41 : zOK l D tc A nS xs mM_X12_mayBegin 41 q_X12_mayBegin_41 := r_getf kls_12 (by decide) tx_12_54 rfl w_737 (by decide +kernel) ok_X12_mayBegin_44
theorem ok_X12_mayBegin_40 : zOK l D tc A nS xs mM_X12_mayBegin 40 q_X12_mayBegin_40 := s_aload_n (q := 0) rfl (by decide +kernel) (by decide +kernel) ok_X12_mayBegin_41
theorem ok_X12_mayBegin_37 : zOK l D tc A nS xs mM_X12_mayBegin 37 q_X12_mayBegin_37 := s_icmp_eq (tgt := 55) (off := 18) (by decide +kernel) (by decide) ok_X12_mayBegin_55 ok_X12_mayBegin_40
theorem ok_X12_mayBegin_35 : zOK l D tc A nS xs mM_X12_mayBegin 35 q_X12_mayBegin_35 := s_bipush (n := (-2)) (by decide) (by decide +kernel) (by decide +kernel) ok_X12_mayBegin_37
theorem ok_X12_mayBegin_34 : zOK l D tc A nS xs mM_X12_mayBegin 34 q_X12_mayBegin_34 := s_iald (t0 := 0) (by decide) (by decide) rfl (by decide +kernel) ok_X12_mayBegin_35
theorem ok_X12_mayBegin_33 : zOK l D tc A nS xs mM_X12_mayBegin 33 q_X12_mayBegin_33 := s_isub (by decide +kernel) ok_X12_mayBegin_34
theorem ok_X12_mayBegin_32 : zOK l D tc A nS xs mM_X12_mayBegin 32 q_X12_mayBegin_32 := s_iconst (n := 1) (by decide) (by decide +kernel) (by decide +kernel) ok_X12_mayBegin_33
theorem ok_X12_mayBegin_29 : zOK l D tc A nS xs mM_X12_mayBegin 29 q_X12_mayBegin_29 := r_getf kls_12 (by decide) tx_12_56 rfl w_735 (by decide +kernel) ok_X12_mayBegin_32
theorem ok_X12_mayBegin_28 : zOK l D tc A nS xs mM_X12_mayBegin 28 q_X12_mayBegin_28 := s_aload_n (q := 0) rfl (by decide +kernel) (by decide +kernel) ok_X12_mayBegin_29
theorem ok_X12_mayBegin_25 : zOK l D tc A nS xs mM_X12_mayBegin 25 q_X12_mayBegin_25 := r_getf kls_12 (by decide) tx_12_52 rfl w_739 (by decide +kernel) ok_X12_mayBegin_28
theorem ok_X12_mayBegin_24 : zOK l D tc A nS xs mM_X12_mayBegin 24 q_X12_mayBegin_24 := s_aload_n (q := 0) rfl (by decide +kernel) (by decide +kernel) ok_X12_mayBegin_25
theorem ok_X12_mayBegin_17 : zOK l D tc A nS xs mM_X12_mayBegin 17 q_X12_mayBegin_17 := s_goto (tgt := 60) (off := 43) (by decide +kernel) (by decide) ok_X12_mayBegin_60
theorem ok_X12_mayBegin_16 : zOK l D tc A nS xs mM_X12_mayBegin 16 q_X12_mayBegin_16 := s_iconst (n := 1) (by decide) (by decide +kernel) (by decide +kernel) ok_X12_mayBegin_17
theorem ok_X12_mayBegin_13 : zOK l D tc A nS xs mM_X12_mayBegin 13 q_X12_mayBegin_13 := s_icmp_ge (tgt := 20) (off := 7) (by decide +kernel) (by decide) s_none ok_X12_mayBegin_16
theorem ok_X12_mayBegin_11 : zOK l D tc A nS xs mM_X12_mayBegin 11 q_X12_mayBegin_11 := s_bipush (n := 40) (by decide) (by decide +kernel) (by decide +kernel) ok_X12_mayBegin_13
theorem ok_X12_mayBegin_8 : zOK l D tc A nS xs mM_X12_mayBegin 8 q_X12_mayBegin_8 := r_getf kls_12 (by decide) tx_12_51 rfl w_743 (by decide +kernel) ok_X12_mayBegin_11
theorem ok_X12_mayBegin_7 : zOK l D tc A nS xs mM_X12_mayBegin 7 q_X12_mayBegin_7 := s_aload_n (q := 0) rfl (by decide +kernel) (by decide +kernel) ok_X12_mayBegin_8
theorem ok_X12_mayBegin_4 : zOK l D tc A nS xs mM_X12_mayBegin 4 q_X12_mayBegin_4 := s_if_ne (tgt := 24) (off := 20) (by decide +kernel) (by decide) ok_X12_mayBegin_24 ok_X12_mayBegin_7
theorem ok_X12_mayBegin_1 : zOK l D tc A nS xs mM_X12_mayBegin 1 q_X12_mayBegin_1 := r_getf kls_12 (by decide) tx_12_56 rfl w_735 (by decide +kernel) ok_X12_mayBegin_4
theorem ok_X12_mayBegin_0 : zOK l D tc A nS xs mM_X12_mayBegin 0 q_X12_mayBegin_0 := s_aload_n (q := 0) rfl (by decide +kernel) (by decide +kernel) ok_X12_mayBegin_1
theorem ok_X12_means_230 : zOK l D tc A nS xs mM_X12_means 230 q_X12_means_230 := s_vret rfl (by decide +kernel)
theorem ok_X12_means_227 : zOK l D tc A nS xs mM_X12_means 227 q_X12_means_227 := r_putf kls_12 ty_12_73 zck_int (by decide) tx_12_73 rfl w_907 (by decide +kernel) ok_X12_means_230
theorem ok_X12_means_226 : zOK l D tc A nS xs mM_X12_means 226 q_X12_means_226 := s_iconst (n := (-1)) (by decide) (by decide +kernel) (by decide +kernel) ok_X12_means_227
theorem ok_X12_means_225 : zOK l D tc A nS xs mM_X12_means 225 q_X12_means_225 := s_aload_n (q := 0) rfl (by decide +kernel) (by decide +kernel) ok_X12_means_226
theorem ok_X12_means_222 : zOK l D tc A nS xs mM_X12_means 222 q_X12_means_222 := r_putf kls_12 ty_12_72 zck_int (by decide) tx_12_72 rfl w_799 (by decide +kernel) ok_X12_means_225
theorem ok_X12_means_221 : zOK l D tc A nS xs mM_X12_means 221 q_X12_means_221 := s_iload_n (q := 3) rfl (by decide +kernel) (by decide +kernel) ok_X12_means_222
theorem ok_X12_means_213 : zOK l D tc A nS xs mM_X12_means 213 q_X12_means_213 := s_icmp_eq (tgt := 221) (off := 8) (by decide +kernel) (by decide) ok_X12_means_221 s_none
theorem ok_X12_means_212 : zOK l D tc A nS xs mM_X12_means 212 q_X12_means_212 := s_iconst (n := (-1)) (by decide) (by decide +kernel) (by decide +kernel) ok_X12_means_213
theorem ok_X12_means_210 : zOK l D tc A nS xs mM_X12_means 210 q_X12_means_210 := s_iload (by decide +kernel) (by decide +kernel) ok_X12_means_212
theorem ok_X12_means_209 : zOK l D tc A nS xs mM_X12_means 209 q_X12_means_209 := s_aload_n (q := 0) rfl (by decide +kernel) (by decide +kernel) ok_X12_means_210
theorem ok_X12_means_206 : zOK l D tc A nS xs mM_X12_means 206 q_X12_means_206 := r_putf kls_12 ty_12_71 zck_int (by decide) tx_12_71 rfl w_798 (by decide +kernel) ok_X12_means_209
theorem ok_X12_means_202 : zOK l D tc A nS xs mM_X12_means 202 q_X12_means_202 := s_goto (tgt := 206) (off := 4) (by decide +kernel) (by decide) ok_X12_means_206
theorem ok_X12_means_201 : zOK l D tc A nS xs mM_X12_means 201 q_X12_means_201 := s_iconst (n := 3) (by decide) (by decide +kernel) (by decide +kernel) ok_X12_means_202
theorem ok_X12_means_198 : zOK l D tc A nS xs mM_X12_means 198 q_X12_means_198 := s_icmp_ge (tgt := 205) (off := 7) (by decide +kernel) (by decide) s_none ok_X12_means_201
theorem ok_X12_means_196 : zOK l D tc A nS xs mM_X12_means 196 q_X12_means_196 := s_bipush (n := 8) (by decide) (by decide +kernel) (by decide +kernel) ok_X12_means_198
theorem ok_X12_means_195 : zOK l D tc A nS xs mM_X12_means 195 q_X12_means_195 := s_iload_n (q := 3) rfl (by decide +kernel) (by decide +kernel) ok_X12_means_196
theorem ok_X12_means_188 : zOK l D tc A nS xs mM_X12_means 188 q_X12_means_188 := s_icmp_eq (tgt := 195) (off := 7) (by decide +kernel) (by decide) ok_X12_means_195 s_none
theorem ok_X12_means_187 : zOK l D tc A nS xs mM_X12_means 187 q_X12_means_187 := s_iconst (n := (-1)) (by decide) (by decide +kernel) (by decide +kernel) ok_X12_means_188
theorem ok_X12_means_185 : zOK l D tc A nS xs mM_X12_means 185 q_X12_means_185 := s_iload (by decide +kernel) (by decide +kernel) ok_X12_means_187
theorem ok_X12_means_184 : zOK l D tc A nS xs mM_X12_means 184 q_X12_means_184 := s_aload_n (q := 0) rfl (by decide +kernel) (by decide +kernel) ok_X12_means_185
theorem ok_X12_means_182 : zOK l D tc A nS xs mM_X12_means 182 q_X12_means_182 := s_istore (by decide +kernel) (by decide +kernel) ok_X12_means_184
theorem ok_X12_means_179 : zOK l D tc A nS xs mM_X12_means 179 q_X12_means_179 := r_callV zEE_ok zTw_gd kls_12 (M2 := mM_X12_macroOf) (na := 1) lb_243 calV_X12_macroOf rfl rfl w_761 (by decide +kernel) ok_X12_means_182
theorem ok_X12_means_178 : zOK l D tc A nS xs mM_X12_means 178 q_X12_means_178 := s_iload_n (q := 3) rfl (by decide +kernel) (by decide +kernel) ok_X12_means_179
theorem ok_X12_means_177 : zOK l D tc A nS xs mM_X12_means 177 q_X12_means_177 := s_aload_n (q := 0) rfl (by decide +kernel) (by decide +kernel) ok_X12_means_178
theorem ok_X12_means_148 : zOK l D tc A nS xs mM_X12_means 148 q_X12_means_148 := s_if_eq (tgt := 8) (off := (-140)) (by decide +kernel) (by decide) (s_back lb_247) s_none
theorem ok_X12_means_146 : zOK l D tc A nS xs mM_X12_means 146 q_X12_means_146 := s_iload (by decide +kernel) (by decide +kernel) ok_X12_means_148
theorem ok_X12_means_144 : zOK l D tc A nS xs mM_X12_means 144 q_X12_means_144 := s_istore (by decide +kernel) (by decide +kernel) ok_X12_means_146
theorem ok_X12_means_143 : zOK l D tc A nS xs mM_X12_means 143 q_X12_means_143 := s_iconst (n := 0) (by decide) (by decide +kernel) (by decide +kernel) ok_X12_means_144
theorem ok_X12_means_136 : zOK l D tc A nS xs mM_X12_means 136 q_X12_means_136 := s_icmp_lt (tgt := 143) (off := 7) (by decide +kernel) (by decide) ok_X12_means_143 s_none
theorem ok_X12_means_133 : zOK l D tc A nS xs mM_X12_means 133 q_X12_means_133 := s_sipush (n := 1000) (by decide) (by decide +kernel) (by decide +kernel) ok_X12_means_136
theorem ok_X12_means_132 : zOK l D tc A nS xs mM_X12_means 132 q_X12_means_132 := s_iload_n (q := 3) rfl (by decide +kernel) (by decide +kernel) ok_X12_means_133
theorem ok_X12_means_20 : zOK l D tc A nS xs mM_X12_means 20 q_X12_means_20 := s_icmp_eq (tgt := 132) (off := 112) (by decide +kernel) (by decide) ok_X12_means_132 s_none
theorem ok_X12_means_19 : zOK l D tc A nS xs mM_X12_means 19 q_X12_means_19 := s_iconst (n := (-1)) (by decide) (by decide +kernel) (by decide +kernel) ok_X12_means_20
theorem ok_X12_means_17 : zOK l D tc A nS xs mM_X12_means 17 q_X12_means_17 := s_iload (by decide +kernel) (by decide +kernel) ok_X12_means_19
theorem ok_X12_means_15 : zOK l D tc A nS xs mM_X12_means 15 q_X12_means_15 := s_istore (by decide +kernel) (by decide +kernel) ok_X12_means_17
theorem ok_X12_means_13 : zOK l D tc A nS xs mM_X12_means 13 q_X12_means_13 := s_iload (by decide +kernel) (by decide +kernel) ok_X12_means_15
theorem ok_X12_means_10 : zOK l D tc A nS xs mM_X12_means 10 q_X12_means_10 := s_if_eq (tgt := 177) (off := 167) (by decide +kernel) (by decide) ok_X12_means_177 ok_X12_means_13
theorem ok_X12_means_8 : zOK l D tc A nS xs mM_X12_means 8 q_X12_means_8 := s_iload (by decide +kernel) (by decide +kernel) ok_X12_means_10
theorem ok_X12_means_6 : zOK l D tc A nS xs mM_X12_means 6 q_X12_means_6 := s_istore (by decide +kernel) (by decide +kernel) ok_X12_means_8
theorem ok_X12_means_5 : zOK l D tc A nS xs mM_X12_means 5 q_X12_means_5 := s_iconst (n := 1) (by decide) (by decide +kernel) (by decide +kernel) ok_X12_means_6
theorem ok_X12_means_3 : zOK l D tc A nS xs mM_X12_means 3 q_X12_means_3 := s_istore (by decide +kernel) (by decide +kernel) ok_X12_means_5
theorem ok_X12_means_2 : zOK l D tc A nS xs mM_X12_means 2 q_X12_means_2 := s_iload_n (q := 2) rfl (by decide +kernel) (by decide +kernel) ok_X12_means_3
theorem ok_X12_means_1 : zOK l D tc A nS xs mM_X12_means 1 q_X12_means_1 := s_istore_n (q := 3) rfl (by decide +kernel) (by decide +kernel) ok_X12_means_2
theorem ok_X12_means_0 : zOK l D tc A nS xs mM_X12_means 0 q_X12_means_0 := s_iload_n (q := 1) rfl (by decide +kernel) (by decide +kernel) ok_X12_means_1
theorem ok_X12_out_24 : zOK l D tc A nS xs mM_X12_out 24 q_X12_out_24 := s_iret rfl (by decide +kernel)
theorem ok_X12_out_23 : zOK l D tc A nS xs mM_X12_out 23 q_X12_out_23 := s_iconst (n := (-1)) (by decide) (by decide +kernel) (by decide +kernel) ok_X12_out_24
theorem ok_X12_out_11 : zOK l D tc A nS xs mM_X12_out 11 q_X12_out_11 := s_if_eq (tgt := 23) (off := 12) (by decide +kernel) (by decide) ok_X12_out_23 s_none
theorem ok_X12_out_8 : zOK l D tc A nS xs mM_X12_out 8 q_X12_out_8 := r_callS zEE_ok zTw_gd (M2 := mM_X12_in) lb_217 calS_X12_in rfl rfl w_771 (by decide +kernel) ok_X12_out_11
theorem ok_X12_out_7 : zOK l D tc A nS xs mM_X12_out 7 q_X12_out_7 := s_isub (by decide +kernel) ok_X12_out_8
theorem ok_X12_out_6 : zOK l D tc A nS xs mM_X12_out 6 q_X12_out_6 := s_iconst (n := 1) (by decide) (by decide +kernel) (by decide +kernel) ok_X12_out_7
theorem ok_X12_out_3 : zOK l D tc A nS xs mM_X12_out 3 q_X12_out_3 := r_getf kls_12 (by decide) tx_12_26 rfl w_908 (by decide +kernel) ok_X12_out_6
theorem ok_X12_out_2 : zOK l D tc A nS xs mM_X12_out 2 q_X12_out_2 := s_aload_n (q := 0) rfl (by decide +kernel) (by decide +kernel) ok_X12_out_3
theorem ok_X12_out_1 : zOK l D tc A nS xs mM_X12_out 1 q_X12_out_1 := s_iconst (n := 0) (by decide) (by decide +kernel) (by decide +kernel) ok_X12_out_2
theorem ok_X12_out_0 : zOK l D tc A nS xs mM_X12_out 0 q_X12_out_0 := s_iload_n (q := 1) rfl (by decide +kernel) (by decide +kernel) ok_X12_out_1
theorem ok_X12_part_30 : zOK l D tc A nS xs mM_X12_part 30 q_X12_part_30 := s_iret rfl (by decide +kernel)
theorem ok_X12_part_29 : zOK l D tc A nS xs mM_X12_part 29 q_X12_part_29 := s_iald (t0 := 0) (by decide) (by decide) rfl (by decide +kernel) ok_X12_part_30
theorem ok_X12_part_28 : zOK l D tc A nS xs mM_X12_part 28 q_X12_part_28 := s_iload_n (q := 3) rfl (by decide +kernel) (by decide +kernel) ok_X12_part_29
theorem ok_X12_part_25 : zOK l D tc A nS xs mM_X12_part 25 q_X12_part_25 := r_getf kls_12 (by decide) tx_12_34 rfl w_701 (by decide +kernel) ok_X12_part_28
theorem ok_X12_part_24 : zOK l D tc A nS xs mM_X12_part 24 q_X12_part_24 := s_aload_n (q := 0) rfl (by decide +kernel) (by decide +kernel) ok_X12_part_25
theorem ok_X12_part_21 : zOK l D tc A nS xs mM_X12_part 21 q_X12_part_21 := s_goto (tgt := 5) (off := (-16)) (by decide +kernel) (by decide) (s_back lb_251)
theorem ok_X12_part_18 : zOK l D tc A nS xs mM_X12_part 18 q_X12_part_18 := s_iinc (n := 1) (by decide +kernel) (by decide +kernel) (by decide +kernel) ok_X12_part_21
theorem ok_X12_part_17 : zOK l D tc A nS xs mM_X12_part 17 q_X12_part_17 := s_istore_n (q := 3) rfl (by decide +kernel) (by decide +kernel) ok_X12_part_18
theorem ok_X12_part_16 : zOK l D tc A nS xs mM_X12_part 16 q_X12_part_16 := s_iald (t0 := 0) (by decide) (by decide) rfl (by decide +kernel) ok_X12_part_17
theorem ok_X12_part_15 : zOK l D tc A nS xs mM_X12_part 15 q_X12_part_15 := s_iload_n (q := 3) rfl (by decide +kernel) (by decide +kernel) ok_X12_part_16
theorem ok_X12_part_12 : zOK l D tc A nS xs mM_X12_part 12 q_X12_part_12 := r_getf kls_12 (by decide) tx_12_35 rfl w_687 (by decide +kernel) ok_X12_part_15
theorem ok_X12_part_11 : zOK l D tc A nS xs mM_X12_part 11 q_X12_part_11 := s_aload_n (q := 0) rfl (by decide +kernel) (by decide +kernel) ok_X12_part_12
theorem ok_X12_part_8 : zOK l D tc A nS xs mM_X12_part 8 q_X12_part_8 := s_icmp_ge (tgt := 24) (off := 16) (by decide +kernel) (by decide) ok_X12_part_24 ok_X12_part_11
theorem ok_X12_part_7 : zOK l D tc A nS xs mM_X12_part 7 q_X12_part_7 := s_iload_n (q := 2) rfl (by decide +kernel) (by decide +kernel) ok_X12_part_8
theorem ok_X12_part_5 : zOK l D tc A nS xs mM_X12_part 5 q_X12_part_5 := s_iload (by decide +kernel) (by decide +kernel) ok_X12_part_7
theorem ok_X12_part_3 : zOK l D tc A nS xs mM_X12_part 3 q_X12_part_3 := s_istore (by decide +kernel) (by decide +kernel) ok_X12_part_5
theorem ok_X12_part_2 : zOK l D tc A nS xs mM_X12_part 2 q_X12_part_2 := s_iconst (n := 0) (by decide) (by decide +kernel) (by decide +kernel) ok_X12_part_3
theorem ok_X12_part_1 : zOK l D tc A nS xs mM_X12_part 1 q_X12_part_1 := s_istore_n (q := 3) rfl (by decide +kernel) (by decide +kernel) ok_X12_part_2
theorem ok_X12_part_0 : zOK l D tc A nS xs mM_X12_part 0 q_X12_part_0 := s_iload_n (q := 1) rfl (by decide +kernel) (by decide +kernel) ok_X12_part_1
theorem ok_X12_peek_33 : zOK l D tc A nS xs mM_X12_peek 33 q_X12_peek_33 := s_iret rfl (by decide +kernel)
theorem ok_X12_peek_32 : zOK l D tc A nS xs mM_X12_peek 32 q_X12_peek_32 := s_iconst (n := (-1)) (by decide) (by decide +kernel) (by decide +kernel) ok_X12_peek_33
theorem ok_X12_peek_29 : zOK l D tc A nS xs mM_X12_peek 29 q_X12_peek_29 := s_goto (tgt := 33) (off := 4) (by decide +kernel) (by decide) ok_X12_peek_33
theorem ok_X12_peek_28 : zOK l D tc A nS xs mM_X12_peek 28 q_X12_peek_28 := s_ior (by decide +kernel) ok_X12_peek_29
theorem ok_X12_peek_27 : zOK l D tc A nS xs mM_X12_peek 27 q_X12_peek_27 := s_ishl (by decide +kernel) ok_X12_peek_28
theorem ok_X12_peek_25 : zOK l D tc A nS xs mM_X12_peek 25 q_X12_peek_25 := s_bipush (n := 8) (by decide) (by decide +kernel) (by decide +kernel) ok_X12_peek_27
theorem ok_X12_peek_24 : zOK l D tc A nS xs mM_X12_peek 24 q_X12_peek_24 := s_iald (t0 := 0) (by decide) (by decide) rfl (by decide +kernel) ok_X12_peek_25
theorem ok_X12_peek_23 : zOK l D tc A nS xs mM_X12_peek 23 q_X12_peek_23 := s_iadd (by decide +kernel) ok_X12_peek_24
theorem ok_X12_peek_22 : zOK l D tc A nS xs mM_X12_peek 22 q_X12_peek_22 := s_iconst (n := 1) (by decide) (by decide +kernel) (by decide +kernel) ok_X12_peek_23
theorem ok_X12_peek_21 : zOK l D tc A nS xs mM_X12_peek 21 q_X12_peek_21 := s_iload_n (q := 1) rfl (by decide +kernel) (by decide +kernel) ok_X12_peek_22
theorem ok_X12_peek_20 : zOK l D tc A nS xs mM_X12_peek 20 q_X12_peek_20 := s_aald (t0 := 2) (ty := .array .int) rfl rfl (by decide +kernel) ok_X12_peek_21
theorem ok_X12_peek_19 : zOK l D tc A nS xs mM_X12_peek 19 q_X12_peek_19 := s_iconst (n := 1) (by decide) (by decide +kernel) (by decide +kernel) ok_X12_peek_20
theorem ok_X12_peek_16 : zOK l D tc A nS xs mM_X12_peek 16 q_X12_peek_16 := r_getf kls_12 (by decide) tx_12_0 rfl w_724 (by decide +kernel) ok_X12_peek_19
theorem ok_X12_peek_15 : zOK l D tc A nS xs mM_X12_peek 15 q_X12_peek_15 := s_aload_n (q := 0) rfl (by decide +kernel) (by decide +kernel) ok_X12_peek_16
theorem ok_X12_peek_14 : zOK l D tc A nS xs mM_X12_peek 14 q_X12_peek_14 := s_iald (t0 := 0) (by decide) (by decide) rfl (by decide +kernel) ok_X12_peek_15
theorem ok_X12_peek_13 : zOK l D tc A nS xs mM_X12_peek 13 q_X12_peek_13 := s_iload_n (q := 1) rfl (by decide +kernel) (by decide +kernel) ok_X12_peek_14
theorem ok_X12_peek_12 : zOK l D tc A nS xs mM_X12_peek 12 q_X12_peek_12 := s_aald (t0 := 2) (ty := .array .int) rfl rfl (by decide +kernel) ok_X12_peek_13
theorem ok_X12_peek_11 : zOK l D tc A nS xs mM_X12_peek 11 q_X12_peek_11 := s_iconst (n := 1) (by decide) (by decide +kernel) (by decide +kernel) ok_X12_peek_12
theorem ok_X12_peek_8 : zOK l D tc A nS xs mM_X12_peek 8 q_X12_peek_8 := r_getf kls_12 (by decide) tx_12_0 rfl w_724 (by decide +kernel) ok_X12_peek_11
theorem ok_X12_peek_7 : zOK l D tc A nS xs mM_X12_peek 7 q_X12_peek_7 := s_aload_n (q := 0) rfl (by decide +kernel) (by decide +kernel) ok_X12_peek_8
theorem ok_X12_peek_4 : zOK l D tc A nS xs mM_X12_peek 4 q_X12_peek_4 := s_if_eq (tgt := 32) (off := 28) (by decide +kernel) (by decide) ok_X12_peek_32 ok_X12_peek_7
theorem ok_X12_peek_1 : zOK l D tc A nS xs mM_X12_peek 1 q_X12_peek_1 := r_callS zEE_ok zTw_gd (M2 := mM_X12_isBenchPlace) lb_220 calS_X12_isBenchPlace rfl rfl w_909 (by decide +kernel) ok_X12_peek_4
theorem ok_X12_peek_0 : zOK l D tc A nS xs mM_X12_peek 0 q_X12_peek_0 := s_iload_n (q := 1) rfl (by decide +kernel) (by decide +kernel) ok_X12_peek_1
theorem ok_X12_poke_41 : zOK l D tc A nS xs mM_X12_poke 41 q_X12_poke_41 := s_zret rfl (by decide +kernel)
theorem ok_X12_poke_40 : zOK l D tc A nS xs mM_X12_poke 40 q_X12_poke_40 := s_iconst (n := 1) (by decide) (by decide +kernel) (by decide +kernel) ok_X12_poke_41
theorem ok_X12_poke_39 : zOK l D tc A nS xs mM_X12_poke 39 q_X12_poke_39 := s_iast (t0 := 0) (by decide) (by decide) rfl (by decide +kernel) ok_X12_poke_40
theorem ok_X12_poke_38 : zOK l D tc A nS xs mM_X12_poke 38 q_X12_poke_38 := s_iand (by decide +kernel) ok_X12_poke_39
theorem ok_X12_poke_35 : zOK l D tc A nS xs mM_X12_poke 35 q_X12_poke_35 := s_sipush (n := 255) (by decide) (by decide +kernel) (by decide +kernel) ok_X12_poke_38
theorem ok_X12_poke_34 : zOK l D tc A nS xs mM_X12_poke 34 q_X12_poke_34 := s_ishr (by decide +kernel) ok_X12_poke_35
theorem ok_X12_poke_32 : zOK l D tc A nS xs mM_X12_poke 32 q_X12_poke_32 := s_bipush (n := 8) (by decide) (by decide +kernel) (by decide +kernel) ok_X12_poke_34
theorem ok_X12_poke_31 : zOK l D tc A nS xs mM_X12_poke 31 q_X12_poke_31 := s_iload_n (q := 2) rfl (by decide +kernel) (by decide +kernel) ok_X12_poke_32
theorem ok_X12_poke_30 : zOK l D tc A nS xs mM_X12_poke 30 q_X12_poke_30 := s_iadd (by decide +kernel) ok_X12_poke_31
theorem ok_X12_poke_29 : zOK l D tc A nS xs mM_X12_poke 29 q_X12_poke_29 := s_iconst (n := 1) (by decide) (by decide +kernel) (by decide +kernel) ok_X12_poke_30
theorem ok_X12_poke_28 : zOK l D tc A nS xs mM_X12_poke 28 q_X12_poke_28 := s_iload_n (q := 1) rfl (by decide +kernel) (by decide +kernel) ok_X12_poke_29
theorem ok_X12_poke_27 : zOK l D tc A nS xs mM_X12_poke 27 q_X12_poke_27 := s_aald (t0 := 2) (ty := .array .int) rfl rfl (by decide +kernel) ok_X12_poke_28
theorem ok_X12_poke_26 : zOK l D tc A nS xs mM_X12_poke 26 q_X12_poke_26 := s_iconst (n := 1) (by decide) (by decide +kernel) (by decide +kernel) ok_X12_poke_27
theorem ok_X12_poke_23 : zOK l D tc A nS xs mM_X12_poke 23 q_X12_poke_23 := r_getf kls_12 (by decide) tx_12_0 rfl w_724 (by decide +kernel) ok_X12_poke_26
theorem ok_X12_poke_22 : zOK l D tc A nS xs mM_X12_poke 22 q_X12_poke_22 := s_aload_n (q := 0) rfl (by decide +kernel) (by decide +kernel) ok_X12_poke_23
theorem ok_X12_poke_21 : zOK l D tc A nS xs mM_X12_poke 21 q_X12_poke_21 := s_iast (t0 := 0) (by decide) (by decide) rfl (by decide +kernel) ok_X12_poke_22
theorem ok_X12_poke_20 : zOK l D tc A nS xs mM_X12_poke 20 q_X12_poke_20 := s_iand (by decide +kernel) ok_X12_poke_21
theorem ok_X12_poke_17 : zOK l D tc A nS xs mM_X12_poke 17 q_X12_poke_17 := s_sipush (n := 255) (by decide) (by decide +kernel) (by decide +kernel) ok_X12_poke_20
theorem ok_X12_poke_16 : zOK l D tc A nS xs mM_X12_poke 16 q_X12_poke_16 := s_iload_n (q := 2) rfl (by decide +kernel) (by decide +kernel) ok_X12_poke_17
theorem ok_X12_poke_15 : zOK l D tc A nS xs mM_X12_poke 15 q_X12_poke_15 := s_iload_n (q := 1) rfl (by decide +kernel) (by decide +kernel) ok_X12_poke_16
theorem ok_X12_poke_14 : zOK l D tc A nS xs mM_X12_poke 14 q_X12_poke_14 := s_aald (t0 := 2) (ty := .array .int) rfl rfl (by decide +kernel) ok_X12_poke_15
theorem ok_X12_poke_13 : zOK l D tc A nS xs mM_X12_poke 13 q_X12_poke_13 := s_iconst (n := 1) (by decide) (by decide +kernel) (by decide +kernel) ok_X12_poke_14
theorem ok_X12_poke_10 : zOK l D tc A nS xs mM_X12_poke 10 q_X12_poke_10 := r_getf kls_12 (by decide) tx_12_0 rfl w_724 (by decide +kernel) ok_X12_poke_13
theorem ok_X12_poke_9 : zOK l D tc A nS xs mM_X12_poke 9 q_X12_poke_9 := s_aload_n (q := 0) rfl (by decide +kernel) (by decide +kernel) ok_X12_poke_10
theorem ok_X12_poke_8 : zOK l D tc A nS xs mM_X12_poke 8 q_X12_poke_8 := s_zret rfl (by decide +kernel)
theorem ok_X12_poke_7 : zOK l D tc A nS xs mM_X12_poke 7 q_X12_poke_7 := s_iconst (n := 0) (by decide) (by decide +kernel) (by decide +kernel) ok_X12_poke_8
theorem ok_X12_poke_4 : zOK l D tc A nS xs mM_X12_poke 4 q_X12_poke_4 := s_if_ne (tgt := 9) (off := 5) (by decide +kernel) (by decide) ok_X12_poke_9 ok_X12_poke_7
theorem ok_X12_poke_1 : zOK l D tc A nS xs mM_X12_poke 1 q_X12_poke_1 := r_callS zEE_ok zTw_gd (M2 := mM_X12_isBenchPlace) lb_220 calS_X12_isBenchPlace rfl rfl w_909 (by decide +kernel) ok_X12_poke_4
theorem ok_X12_poke_0 : zOK l D tc A nS xs mM_X12_poke 0 q_X12_poke_0 := s_iload_n (q := 1) rfl (by decide +kernel) (by decide +kernel) ok_X12_poke_1
theorem ok_X12_r_11 : zOK l D tc A nS xs mM_X12_r 11 q_X12_r_11 := s_iret rfl (by decide +kernel)
theorem ok_X12_r_10 : zOK l D tc A nS xs mM_X12_r 10 q_X12_r_10 := s_iald (t0 := 0) (by decide) (by decide) rfl (by decide +kernel) ok_X12_r_11
theorem ok_X12_r_9 : zOK l D tc A nS xs mM_X12_r 9 q_X12_r_9 := s_iload_n (q := 1) rfl (by decide +kernel) (by decide +kernel) ok_X12_r_10
theorem ok_X12_r_8 : zOK l D tc A nS xs mM_X12_r 8 q_X12_r_8 := s_aald (t0 := 2) (ty := .array .int) rfl rfl (by decide +kernel) ok_X12_r_9
theorem ok_X12_r_5 : zOK l D tc A nS xs mM_X12_r 5 q_X12_r_5 := r_getf kls_12 (by decide) tx_12_3 rfl w_822 (by decide +kernel) ok_X12_r_8
theorem ok_X12_r_4 : zOK l D tc A nS xs mM_X12_r 4 q_X12_r_4 := s_aload_n (q := 0) rfl (by decide +kernel) (by decide +kernel) ok_X12_r_5
theorem ok_X12_r_1 : zOK l D tc A nS xs mM_X12_r 1 q_X12_r_1 := r_getf kls_12 (by decide) tx_12_1 rfl w_871 (by decide +kernel) ok_X12_r_4
theorem ok_X12_r_0 : zOK l D tc A nS xs mM_X12_r 0 q_X12_r_0 := s_aload_n (q := 0) rfl (by decide +kernel) (by decide +kernel) ok_X12_r_1
theorem ok_X12_readText_79 : zOK l D tc A nS xs mM_X12_readText 79 q_X12_readText_79 := s_vret rfl (by decide +kernel)
theorem ok_X12_readText_67 : zOK l D tc A nS xs mM_X12_readText 67 q_X12_readText_67 := s_if_le (tgt := 79) (off := 12) (by decide +kernel) (by decide) ok_X12_readText_79 s_none
theorem ok_X12_readText_64 : zOK l D tc A nS xs mM_X12_readText 64 q_X12_readText_64 := r_getf kls_12 (by decide) tx_12_56 rfl w_735 (by decide +kernel) ok_X12_readText_67
theorem ok_X12_readText_63 : zOK l D tc A nS xs mM_X12_readText 63 q_X12_readText_63 := s_aload_n (q := 0) rfl (by decide +kernel) (by decide +kernel) ok_X12_readText_64
theorem ok_X12_readText_60 : zOK l D tc A nS xs mM_X12_readText 60 q_X12_readText_60 := s_if_ne (tgt := 79) (off := 19) (by decide +kernel) (by decide) ok_X12_readText_79 ok_X12_readText_63
theorem ok_X12_readText_57 : zOK l D tc A nS xs mM_X12_readText 57 q_X12_readText_57 := r_getf kls_12 (by decide) tx_12_40 rfl w_775 (by decide +kernel) ok_X12_readText_60
theorem ok_X12_readText_56 : zOK l D tc A nS xs mM_X12_readText 56 q_X12_readText_56 := s_aload_n (q := 0) rfl (by decide +kernel) (by decide +kernel) ok_X12_readText_57
theorem ok_X12_readText_53 : zOK l D tc A nS xs mM_X12_readText 53 q_X12_readText_53 := s_goto (tgt := 19) (off := (-34)) (by decide +kernel) (by decide) (s_back lb_256)
theorem ok_X12_readText_50 : zOK l D tc A nS xs mM_X12_readText 50 q_X12_readText_50 := r_callV zEE_ok zTw_gd kls_12 (M2 := mM_X12_blanks) (na := 0) lb_186 calV_X12_blanks rfl rfl w_912 (by decide +kernel) ok_X12_readText_53
theorem ok_X12_readText_49 : zOK l D tc A nS xs mM_X12_readText 49 q_X12_readText_49 := s_aload_n (q := 0) rfl (by decide +kernel) (by decide +kernel) ok_X12_readText_50
theorem ok_X12_readText_46 : zOK l D tc A nS xs mM_X12_readText 46 q_X12_readText_46 := r_callV zEE_ok zTw_gd kls_12 (M2 := mM_X12_token) (na := 0) lb_286 calV_X12_token rfl rfl w_915 (by decide +kernel) ok_X12_readText_49
theorem ok_X12_readText_45 : zOK l D tc A nS xs mM_X12_readText 45 q_X12_readText_45 := s_aload_n (q := 0) rfl (by decide +kernel) (by decide +kernel) ok_X12_readText_46
theorem ok_X12_readText_42 : zOK l D tc A nS xs mM_X12_readText 42 q_X12_readText_42 := r_putf kls_12 ty_12_49 zck_int (by decide) tx_12_49 rfl w_734 (by decide +kernel) ok_X12_readText_45
theorem ok_X12_readText_39 : zOK l D tc A nS xs mM_X12_readText 39 q_X12_readText_39 := r_getf kls_12 (by decide) tx_12_48 rfl w_718 (by decide +kernel) ok_X12_readText_42
theorem ok_X12_readText_38 : zOK l D tc A nS xs mM_X12_readText 38 q_X12_readText_38 := s_aload_n (q := 0) rfl (by decide +kernel) (by decide +kernel) ok_X12_readText_39
theorem ok_X12_readText_37 : zOK l D tc A nS xs mM_X12_readText 37 q_X12_readText_37 := s_aload_n (q := 0) rfl (by decide +kernel) (by decide +kernel) ok_X12_readText_38
theorem ok_X12_readText_34 : zOK l D tc A nS xs mM_X12_readText 34 q_X12_readText_34 := s_icmp_ge (tgt := 56) (off := 22) (by decide +kernel) (by decide) ok_X12_readText_56 ok_X12_readText_37
theorem ok_X12_readText_31 : zOK l D tc A nS xs mM_X12_readText 31 q_X12_readText_31 := r_getf kls_12 (by decide) tx_12_47 rfl w_723 (by decide +kernel) ok_X12_readText_34
theorem ok_X12_readText_30 : zOK l D tc A nS xs mM_X12_readText 30 q_X12_readText_30 := s_aload_n (q := 0) rfl (by decide +kernel) (by decide +kernel) ok_X12_readText_31
theorem ok_X12_readText_27 : zOK l D tc A nS xs mM_X12_readText 27 q_X12_readText_27 := r_getf kls_12 (by decide) tx_12_48 rfl w_718 (by decide +kernel) ok_X12_readText_30
theorem ok_X12_readText_26 : zOK l D tc A nS xs mM_X12_readText 26 q_X12_readText_26 := s_aload_n (q := 0) rfl (by decide +kernel) (by decide +kernel) ok_X12_readText_27
theorem ok_X12_readText_23 : zOK l D tc A nS xs mM_X12_readText 23 q_X12_readText_23 := s_if_ne (tgt := 56) (off := 33) (by decide +kernel) (by decide) ok_X12_readText_56 ok_X12_readText_26
theorem ok_X12_readText_20 : zOK l D tc A nS xs mM_X12_readText 20 q_X12_readText_20 := r_getf kls_12 (by decide) tx_12_40 rfl w_775 (by decide +kernel) ok_X12_readText_23
theorem ok_X12_readText_19 : zOK l D tc A nS xs mM_X12_readText 19 q_X12_readText_19 := s_aload_n (q := 0) rfl (by decide +kernel) (by decide +kernel) ok_X12_readText_20
theorem ok_X12_readText_16 : zOK l D tc A nS xs mM_X12_readText 16 q_X12_readText_16 := r_callV zEE_ok zTw_gd kls_12 (M2 := mM_X12_blanks) (na := 0) lb_186 calV_X12_blanks rfl rfl w_912 (by decide +kernel) ok_X12_readText_19
theorem ok_X12_readText_15 : zOK l D tc A nS xs mM_X12_readText 15 q_X12_readText_15 := s_aload_n (q := 0) rfl (by decide +kernel) (by decide +kernel) ok_X12_readText_16
theorem ok_X12_readText_12 : zOK l D tc A nS xs mM_X12_readText 12 q_X12_readText_12 := r_putf kls_12 ty_12_51 zck_int (by decide) tx_12_51 rfl w_743 (by decide +kernel) ok_X12_readText_15
theorem ok_X12_readText_11 : zOK l D tc A nS xs mM_X12_readText 11 q_X12_readText_11 := s_iconst (n := 0) (by decide) (by decide +kernel) (by decide +kernel) ok_X12_readText_12
theorem ok_X12_readText_10 : zOK l D tc A nS xs mM_X12_readText 10 q_X12_readText_10 := s_aload_n (q := 0) rfl (by decide +kernel) (by decide +kernel) ok_X12_readText_11
theorem ok_X12_readText_7 : zOK l D tc A nS xs mM_X12_readText 7 q_X12_readText_7 := r_putf kls_12 ty_12_56 zck_int (by decide) tx_12_56 rfl w_735 (by decide +kernel) ok_X12_readText_10
theorem ok_X12_readText_6 : zOK l D tc A nS xs mM_X12_readText 6 q_X12_readText_6 := s_iconst (n := 0) (by decide) (by decide +kernel) (by decide +kernel) ok_X12_readText_7
theorem ok_X12_readText_5 : zOK l D tc A nS xs mM_X12_readText 5 q_X12_readText_5 := s_aload_n (q := 0) rfl (by decide +kernel) (by decide +kernel) ok_X12_readText_6
theorem ok_X12_readText_2 : zOK l D tc A nS xs mM_X12_readText 2 q_X12_readText_2 := r_putf kls_12 ty_12_48 zck_int (by decide) tx_12_48 rfl w_718 (by decide +kernel) ok_X12_readText_5
theorem ok_X12_readText_1 : zOK l D tc A nS xs mM_X12_readText 1 q_X12_readText_1 := s_iconst (n := 0) (by decide) (by decide +kernel) (by decide +kernel) ok_X12_readText_2
theorem ok_X12_readText_0 : zOK l D tc A nS xs mM_X12_readText 0 q_X12_readText_0 := s_aload_n (q := 0) rfl (by decide +kernel) (by decide +kernel) ok_X12_readText_1
theorem ok_X12_register_6 : zOK l D tc A nS xs mM_X12_register 6 q_X12_register_6 := s_iret rfl (by decide +kernel)
theorem ok_X12_register_3 : zOK l D tc A nS xs mM_X12_register 3 q_X12_register_3 := r_callV zEE_ok zTw_gd kls_12 (M2 := mM_X12_told) (na := 2) lb_289 calV_X12_told rfl rfl w_826 (by decide +kernel) ok_X12_register_6
theorem ok_X12_register_2 : zOK l D tc A nS xs mM_X12_register 2 q_X12_register_2 := s_iload_n (q := 1) rfl (by decide +kernel) (by decide +kernel) ok_X12_register_3
theorem ok_X12_register_1 : zOK l D tc A nS xs mM_X12_register 1 q_X12_register_1 := s_iconst (n := 0) (by decide) (by decide +kernel) (by decide +kernel) ok_X12_register_2
theorem ok_X12_register_0 : zOK l D tc A nS xs mM_X12_register 0 q_X12_register_0 := s_aload_n (q := 0) rfl (by decide +kernel) (by decide +kernel) ok_X12_register_1
theorem ok_X12_reset_324 : zOK l D tc A nS xs mM_X12_reset 324 q_X12_reset_324 := s_vret rfl (by decide +kernel)
theorem ok_X12_reset_321 : zOK l D tc A nS xs mM_X12_reset 321 q_X12_reset_321 := r_putf kls_12 ty_12_41 zck_int (by decide) tx_12_41 rfl w_774 (by decide +kernel) ok_X12_reset_324
theorem ok_X12_reset_320 : zOK l D tc A nS xs mM_X12_reset 320 q_X12_reset_320 := s_iconst (n := (-1)) (by decide) (by decide +kernel) (by decide +kernel) ok_X12_reset_321
theorem ok_X12_reset_319 : zOK l D tc A nS xs mM_X12_reset 319 q_X12_reset_319 := s_aload_n (q := 0) rfl (by decide +kernel) (by decide +kernel) ok_X12_reset_320
theorem ok_X12_reset_316 : zOK l D tc A nS xs mM_X12_reset 316 q_X12_reset_316 := r_putf kls_12 ty_12_46 (zck_arr _) (by decide) tx_12_46 rfl w_722 (by decide +kernel) ok_X12_reset_319
theorem ok_X12_reset_313 : zOK l D tc A nS xs mM_X12_reset 313 q_X12_reset_313 := r_getf kls_12 (by decide) tx_12_31 rfl w_779 (by decide +kernel) ok_X12_reset_316
theorem ok_X12_reset_312 : zOK l D tc A nS xs mM_X12_reset 312 q_X12_reset_312 := s_aload_n (q := 0) rfl (by decide +kernel) (by decide +kernel) ok_X12_reset_313
theorem ok_X12_reset_311 : zOK l D tc A nS xs mM_X12_reset 311 q_X12_reset_311 := s_aload_n (q := 0) rfl (by decide +kernel) (by decide +kernel) ok_X12_reset_312
theorem ok_X12_reset_308 : zOK l D tc A nS xs mM_X12_reset 308 q_X12_reset_308 := r_putf kls_12 ty_12_100 zck_int (by decide) tx_12_100 rfl w_897 (by decide +kernel) ok_X12_reset_311
theorem ok_X12_reset_307 : zOK l D tc A nS xs mM_X12_reset 307 q_X12_reset_307 := s_iconst (n := 0) (by decide) (by decide +kernel) (by decide +kernel) ok_X12_reset_308
theorem ok_X12_reset_306 : zOK l D tc A nS xs mM_X12_reset 306 q_X12_reset_306 := s_aload_n (q := 0) rfl (by decide +kernel) (by decide +kernel) ok_X12_reset_307
theorem ok_X12_reset_303 : zOK l D tc A nS xs mM_X12_reset 303 q_X12_reset_303 := r_callV zEE_ok zTw_gd kls_12 (M2 := mM_X12_takesText) (na := 0) lb_283 calV_X12_takesText rfl rfl w_898 (by decide +kernel) ok_X12_reset_306
theorem ok_X12_reset_302 : zOK l D tc A nS xs mM_X12_reset 302 q_X12_reset_302 := s_aload_n (q := 0) rfl (by decide +kernel) (by decide +kernel) ok_X12_reset_303
theorem ok_X12_reset_299 : zOK l D tc A nS xs mM_X12_reset 299 q_X12_reset_299 := r_putf kls_12 ty_12_47 zck_int (by decide) tx_12_47 rfl w_723 (by decide +kernel) ok_X12_reset_302
theorem ok_X12_reset_296 : zOK l D tc A nS xs mM_X12_reset 296 q_X12_reset_296 := r_callT zEE_ok zTw_gd (fun U f h => h.2.1) (M2 := mM_J0_length_8abf5) (na := 0) lb_5 calV_J0_length_8abf5 rfl rfl w_918 (by decide +kernel) ok_X12_reset_299
theorem ok_X12_reset_293 : zOK l D tc A nS xs mM_X12_reset 293 q_X12_reset_293 := r_ldcwS (j := 15) (by decide) rfl zstr_15 (by decide +kernel) ok_X12_reset_296
theorem ok_X12_reset_292 : zOK l D tc A nS xs mM_X12_reset 292 q_X12_reset_292 := s_aload_n (q := 0) rfl (by decide +kernel) (by decide +kernel) ok_X12_reset_293
theorem ok_X12_reset_289 : zOK l D tc A nS xs mM_X12_reset 289 q_X12_reset_289 := s_goto (tgt := 263) (off := (-26)) (by decide +kernel) (by decide) (s_back lb_263)
theorem ok_X12_reset_286 : zOK l D tc A nS xs mM_X12_reset 286 q_X12_reset_286 := s_iinc (n := 1) (by decide +kernel) (by decide +kernel) (by decide +kernel) ok_X12_reset_289
theorem ok_X12_reset_285 : zOK l D tc A nS xs mM_X12_reset 285 q_X12_reset_285 := s_iast (t0 := 0) (by decide) (by decide) rfl (by decide +kernel) ok_X12_reset_286
theorem ok_X12_reset_282 : zOK l D tc A nS xs mM_X12_reset 282 q_X12_reset_282 := r_callT zEE_ok zTw_gd (fun U f h => h.2.1) (M2 := mM_J0_charAt_5068e) (na := 1) lb_0 calV_J0_charAt_5068e rfl rfl w_919 (by decide +kernel) ok_X12_reset_285
theorem ok_X12_reset_281 : zOK l D tc A nS xs mM_X12_reset 281 q_X12_reset_281 := s_iload_n (q := 2) rfl (by decide +kernel) (by decide +kernel) ok_X12_reset_282
theorem ok_X12_reset_278 : zOK l D tc A nS xs mM_X12_reset 278 q_X12_reset_278 := r_ldcwS (j := 15) (by decide) rfl zstr_15 (by decide +kernel) ok_X12_reset_281
theorem ok_X12_reset_277 : zOK l D tc A nS xs mM_X12_reset 277 q_X12_reset_277 := s_iload_n (q := 2) rfl (by decide +kernel) (by decide +kernel) ok_X12_reset_278
theorem ok_X12_reset_274 : zOK l D tc A nS xs mM_X12_reset 274 q_X12_reset_274 := r_getf kls_12 (by decide) tx_12_46 rfl w_722 (by decide +kernel) ok_X12_reset_277
theorem ok_X12_reset_273 : zOK l D tc A nS xs mM_X12_reset 273 q_X12_reset_273 := s_aload_n (q := 0) rfl (by decide +kernel) (by decide +kernel) ok_X12_reset_274
theorem ok_X12_reset_270 : zOK l D tc A nS xs mM_X12_reset 270 q_X12_reset_270 := s_icmp_ge (tgt := 292) (off := 22) (by decide +kernel) (by decide) ok_X12_reset_292 ok_X12_reset_273
theorem ok_X12_reset_267 : zOK l D tc A nS xs mM_X12_reset 267 q_X12_reset_267 := r_callT zEE_ok zTw_gd (fun U f h => h.2.1) (M2 := mM_J0_length_8abf5) (na := 0) lb_5 calV_J0_length_8abf5 rfl rfl w_918 (by decide +kernel) ok_X12_reset_270
theorem ok_X12_reset_264 : zOK l D tc A nS xs mM_X12_reset 264 q_X12_reset_264 := r_ldcwS (j := 15) (by decide) rfl zstr_15 (by decide +kernel) ok_X12_reset_267
theorem ok_X12_reset_263 : zOK l D tc A nS xs mM_X12_reset 263 q_X12_reset_263 := s_iload_n (q := 2) rfl (by decide +kernel) (by decide +kernel) ok_X12_reset_264
theorem ok_X12_reset_262 : zOK l D tc A nS xs mM_X12_reset 262 q_X12_reset_262 := s_istore_n (q := 2) rfl (by decide +kernel) (by decide +kernel) ok_X12_reset_263
theorem ok_X12_reset_261 : zOK l D tc A nS xs mM_X12_reset 261 q_X12_reset_261 := s_iconst (n := 0) (by decide) (by decide +kernel) (by decide +kernel) ok_X12_reset_262
theorem ok_X12_reset_258 : zOK l D tc A nS xs mM_X12_reset 258 q_X12_reset_258 := s_goto (tgt := 172) (off := (-86)) (by decide +kernel) (by decide) (s_back lb_262)
theorem ok_X12_reset_255 : zOK l D tc A nS xs mM_X12_reset 255 q_X12_reset_255 := s_iinc (n := 1) (by decide +kernel) (by decide +kernel) (by decide +kernel) ok_X12_reset_258
theorem ok_X12_reset_254 : zOK l D tc A nS xs mM_X12_reset 254 q_X12_reset_254 := s_istore_n (q := 1) rfl (by decide +kernel) (by decide +kernel) ok_X12_reset_255
theorem ok_X12_reset_253 : zOK l D tc A nS xs mM_X12_reset 253 q_X12_reset_253 := s_iconst (n := 0) (by decide) (by decide +kernel) (by decide +kernel) ok_X12_reset_254
theorem ok_X12_reset_250 : zOK l D tc A nS xs mM_X12_reset 250 q_X12_reset_250 := r_callV zEE_ok zTw_gd kls_12 (M2 := mM_X12_setCell) (na := 2) lb_271 calV_X12_setCell rfl rfl w_920 (by decide +kernel) ok_X12_reset_253
theorem ok_X12_reset_249 : zOK l D tc A nS xs mM_X12_reset 249 q_X12_reset_249 := s_iadd (by decide +kernel) ok_X12_reset_250
theorem ok_X12_reset_248 : zOK l D tc A nS xs mM_X12_reset 248 q_X12_reset_248 := s_imul (by decide +kernel) ok_X12_reset_249
theorem ok_X12_reset_247 : zOK l D tc A nS xs mM_X12_reset 247 q_X12_reset_247 := s_isub (by decide +kernel) ok_X12_reset_248
theorem ok_X12_reset_246 : zOK l D tc A nS xs mM_X12_reset 246 q_X12_reset_246 := s_iconst (n := 1) (by decide) (by decide +kernel) (by decide +kernel) ok_X12_reset_247
theorem ok_X12_reset_245 : zOK l D tc A nS xs mM_X12_reset 245 q_X12_reset_245 := s_isub (by decide +kernel) ok_X12_reset_246
theorem ok_X12_reset_243 : zOK l D tc A nS xs mM_X12_reset 243 q_X12_reset_243 := s_bipush (n := 10) (by decide) (by decide +kernel) (by decide +kernel) ok_X12_reset_245
theorem ok_X12_reset_242 : zOK l D tc A nS xs mM_X12_reset 242 q_X12_reset_242 := s_iload_n (q := 3) rfl (by decide +kernel) (by decide +kernel) ok_X12_reset_243
theorem ok_X12_reset_241 : zOK l D tc A nS xs mM_X12_reset 241 q_X12_reset_241 := s_iconst (n := 2) (by decide) (by decide +kernel) (by decide +kernel) ok_X12_reset_242
theorem ok_X12_reset_239 : zOK l D tc A nS xs mM_X12_reset 239 q_X12_reset_239 := s_bipush (n := 16) (by decide) (by decide +kernel) (by decide +kernel) ok_X12_reset_241
theorem ok_X12_reset_238 : zOK l D tc A nS xs mM_X12_reset 238 q_X12_reset_238 := s_iadd (by decide +kernel) ok_X12_reset_239
theorem ok_X12_reset_237 : zOK l D tc A nS xs mM_X12_reset 237 q_X12_reset_237 := s_iconst (n := 2) (by decide) (by decide +kernel) (by decide +kernel) ok_X12_reset_238
theorem ok_X12_reset_236 : zOK l D tc A nS xs mM_X12_reset 236 q_X12_reset_236 := s_iald (t0 := 0) (by decide) (by decide) rfl (by decide +kernel) ok_X12_reset_237
theorem ok_X12_reset_235 : zOK l D tc A nS xs mM_X12_reset 235 q_X12_reset_235 := s_iload_n (q := 3) rfl (by decide +kernel) (by decide +kernel) ok_X12_reset_236
theorem ok_X12_reset_232 : zOK l D tc A nS xs mM_X12_reset 232 q_X12_reset_232 := r_getf kls_12 (by decide) tx_12_44 rfl w_757 (by decide +kernel) ok_X12_reset_235
theorem ok_X12_reset_231 : zOK l D tc A nS xs mM_X12_reset 231 q_X12_reset_231 := s_aload_n (q := 0) rfl (by decide +kernel) (by decide +kernel) ok_X12_reset_232
theorem ok_X12_reset_230 : zOK l D tc A nS xs mM_X12_reset 230 q_X12_reset_230 := s_aload_n (q := 0) rfl (by decide +kernel) (by decide +kernel) ok_X12_reset_231
theorem ok_X12_reset_227 : zOK l D tc A nS xs mM_X12_reset 227 q_X12_reset_227 := s_icmp_le (tgt := 253) (off := 26) (by decide +kernel) (by decide) ok_X12_reset_253 ok_X12_reset_230
theorem ok_X12_reset_225 : zOK l D tc A nS xs mM_X12_reset 225 q_X12_reset_225 := s_bipush (n := 10) (by decide) (by decide +kernel) (by decide +kernel) ok_X12_reset_227
theorem ok_X12_reset_224 : zOK l D tc A nS xs mM_X12_reset 224 q_X12_reset_224 := s_iload_n (q := 3) rfl (by decide +kernel) (by decide +kernel) ok_X12_reset_225
theorem ok_X12_reset_223 : zOK l D tc A nS xs mM_X12_reset 223 q_X12_reset_223 := s_istore_n (q := 3) rfl (by decide +kernel) (by decide +kernel) ok_X12_reset_224
theorem ok_X12_reset_220 : zOK l D tc A nS xs mM_X12_reset 220 q_X12_reset_220 := r_callV zEE_ok zTw_gd kls_12 (M2 := mM_X12_symbol) (na := 1) lb_279 calV_X12_symbol rfl rfl w_923 (by decide +kernel) ok_X12_reset_223
theorem ok_X12_reset_219 : zOK l D tc A nS xs mM_X12_reset 219 q_X12_reset_219 := s_iload_n (q := 1) rfl (by decide +kernel) (by decide +kernel) ok_X12_reset_220
theorem ok_X12_reset_218 : zOK l D tc A nS xs mM_X12_reset 218 q_X12_reset_218 := s_aload_n (q := 0) rfl (by decide +kernel) (by decide +kernel) ok_X12_reset_219
theorem ok_X12_reset_215 : zOK l D tc A nS xs mM_X12_reset 215 q_X12_reset_215 := r_putf kls_12 ty_12_49 zck_int (by decide) tx_12_49 rfl w_734 (by decide +kernel) ok_X12_reset_218
theorem ok_X12_reset_214 : zOK l D tc A nS xs mM_X12_reset 214 q_X12_reset_214 := s_iconst (n := 0) (by decide) (by decide +kernel) (by decide +kernel) ok_X12_reset_215
theorem ok_X12_reset_213 : zOK l D tc A nS xs mM_X12_reset 213 q_X12_reset_213 := s_aload_n (q := 0) rfl (by decide +kernel) (by decide +kernel) ok_X12_reset_214
theorem ok_X12_reset_210 : zOK l D tc A nS xs mM_X12_reset 210 q_X12_reset_210 := s_goto (tgt := 255) (off := 45) (by decide +kernel) (by decide) ok_X12_reset_255
theorem ok_X12_reset_207 : zOK l D tc A nS xs mM_X12_reset 207 q_X12_reset_207 := s_iinc (n := 1) (by decide +kernel) (by decide +kernel) (by decide +kernel) ok_X12_reset_210
theorem ok_X12_reset_206 : zOK l D tc A nS xs mM_X12_reset 206 q_X12_reset_206 := s_iast (t0 := 0) (by decide) (by decide) rfl (by decide +kernel) ok_X12_reset_207
theorem ok_X12_reset_203 : zOK l D tc A nS xs mM_X12_reset 203 q_X12_reset_203 := r_callT zEE_ok zTw_gd (fun U f h => h.2.1) (M2 := mM_J0_charAt_5068e) (na := 1) lb_0 calV_J0_charAt_5068e rfl rfl w_919 (by decide +kernel) ok_X12_reset_206
theorem ok_X12_reset_202 : zOK l D tc A nS xs mM_X12_reset 202 q_X12_reset_202 := s_iload_n (q := 2) rfl (by decide +kernel) (by decide +kernel) ok_X12_reset_203
theorem ok_X12_reset_199 : zOK l D tc A nS xs mM_X12_reset 199 q_X12_reset_199 := r_ldcwS (j := 14) (by decide) rfl zstr_14 (by decide +kernel) ok_X12_reset_202
theorem ok_X12_reset_198 : zOK l D tc A nS xs mM_X12_reset 198 q_X12_reset_198 := s_iload_n (q := 1) rfl (by decide +kernel) (by decide +kernel) ok_X12_reset_199
theorem ok_X12_reset_195 : zOK l D tc A nS xs mM_X12_reset 195 q_X12_reset_195 := r_getf kls_12 (by decide) tx_12_46 rfl w_722 (by decide +kernel) ok_X12_reset_198
theorem ok_X12_reset_194 : zOK l D tc A nS xs mM_X12_reset 194 q_X12_reset_194 := s_aload_n (q := 0) rfl (by decide +kernel) (by decide +kernel) ok_X12_reset_195
theorem ok_X12_reset_191 : zOK l D tc A nS xs mM_X12_reset 191 q_X12_reset_191 := s_icmp_eq (tgt := 213) (off := 22) (by decide +kernel) (by decide) ok_X12_reset_213 ok_X12_reset_194
theorem ok_X12_reset_189 : zOK l D tc A nS xs mM_X12_reset 189 q_X12_reset_189 := s_bipush (n := 32) (by decide) (by decide +kernel) (by decide +kernel) ok_X12_reset_191
theorem ok_X12_reset_186 : zOK l D tc A nS xs mM_X12_reset 186 q_X12_reset_186 := r_callT zEE_ok zTw_gd (fun U f h => h.2.1) (M2 := mM_J0_charAt_5068e) (na := 1) lb_0 calV_J0_charAt_5068e rfl rfl w_919 (by decide +kernel) ok_X12_reset_189
theorem ok_X12_reset_185 : zOK l D tc A nS xs mM_X12_reset 185 q_X12_reset_185 := s_iload_n (q := 2) rfl (by decide +kernel) (by decide +kernel) ok_X12_reset_186
theorem ok_X12_reset_182 : zOK l D tc A nS xs mM_X12_reset 182 q_X12_reset_182 := r_ldcwS (j := 14) (by decide) rfl zstr_14 (by decide +kernel) ok_X12_reset_185
theorem ok_X12_reset_179 : zOK l D tc A nS xs mM_X12_reset 179 q_X12_reset_179 := s_icmp_ge (tgt := 261) (off := 82) (by decide +kernel) (by decide) ok_X12_reset_261 ok_X12_reset_182
theorem ok_X12_reset_176 : zOK l D tc A nS xs mM_X12_reset 176 q_X12_reset_176 := r_callT zEE_ok zTw_gd (fun U f h => h.2.1) (M2 := mM_J0_length_8abf5) (na := 0) lb_5 calV_J0_length_8abf5 rfl rfl w_918 (by decide +kernel) ok_X12_reset_179
theorem ok_X12_reset_173 : zOK l D tc A nS xs mM_X12_reset 173 q_X12_reset_173 := r_ldcwS (j := 14) (by decide) rfl zstr_14 (by decide +kernel) ok_X12_reset_176
theorem ok_X12_reset_172 : zOK l D tc A nS xs mM_X12_reset 172 q_X12_reset_172 := s_iload_n (q := 2) rfl (by decide +kernel) (by decide +kernel) ok_X12_reset_173
theorem ok_X12_reset_171 : zOK l D tc A nS xs mM_X12_reset 171 q_X12_reset_171 := s_istore_n (q := 2) rfl (by decide +kernel) (by decide +kernel) ok_X12_reset_172
theorem ok_X12_reset_170 : zOK l D tc A nS xs mM_X12_reset 170 q_X12_reset_170 := s_iconst (n := 0) (by decide) (by decide +kernel) (by decide +kernel) ok_X12_reset_171
theorem ok_X12_reset_169 : zOK l D tc A nS xs mM_X12_reset 169 q_X12_reset_169 := s_istore_n (q := 1) rfl (by decide +kernel) (by decide +kernel) ok_X12_reset_170
theorem ok_X12_reset_168 : zOK l D tc A nS xs mM_X12_reset 168 q_X12_reset_168 := s_iconst (n := 0) (by decide) (by decide +kernel) (by decide +kernel) ok_X12_reset_169
theorem ok_X12_reset_165 : zOK l D tc A nS xs mM_X12_reset 165 q_X12_reset_165 := r_putf kls_12 ty_12_46 (zck_arr _) (by decide) tx_12_46 rfl w_722 (by decide +kernel) ok_X12_reset_168
theorem ok_X12_reset_162 : zOK l D tc A nS xs mM_X12_reset 162 q_X12_reset_162 := r_getf kls_12 (by decide) tx_12_113 rfl w_833 (by decide +kernel) ok_X12_reset_165
theorem ok_X12_reset_161 : zOK l D tc A nS xs mM_X12_reset 161 q_X12_reset_161 := s_aload_n (q := 0) rfl (by decide +kernel) (by decide +kernel) ok_X12_reset_162
theorem ok_X12_reset_160 : zOK l D tc A nS xs mM_X12_reset 160 q_X12_reset_160 := s_aload_n (q := 0) rfl (by decide +kernel) (by decide +kernel) ok_X12_reset_161
theorem ok_X12_reset_157 : zOK l D tc A nS xs mM_X12_reset 157 q_X12_reset_157 := r_putf kls_12 ty_12_40 zck_int (by decide) tx_12_40 rfl w_775 (by decide +kernel) ok_X12_reset_160
theorem ok_X12_reset_156 : zOK l D tc A nS xs mM_X12_reset 156 q_X12_reset_156 := s_iconst (n := 0) (by decide) (by decide +kernel) (by decide +kernel) ok_X12_reset_157
theorem ok_X12_reset_155 : zOK l D tc A nS xs mM_X12_reset 155 q_X12_reset_155 := s_aload_n (q := 0) rfl (by decide +kernel) (by decide +kernel) ok_X12_reset_156
theorem ok_X12_reset_152 : zOK l D tc A nS xs mM_X12_reset 152 q_X12_reset_152 := r_putf kls_12 ty_12_104 zck_int (by decide) tx_12_104 rfl w_903 (by decide +kernel) ok_X12_reset_155
theorem ok_X12_reset_151 : zOK l D tc A nS xs mM_X12_reset 151 q_X12_reset_151 := s_iconst (n := 0) (by decide) (by decide +kernel) (by decide +kernel) ok_X12_reset_152
theorem ok_X12_reset_150 : zOK l D tc A nS xs mM_X12_reset 150 q_X12_reset_150 := s_aload_n (q := 0) rfl (by decide +kernel) (by decide +kernel) ok_X12_reset_151
theorem ok_X12_reset_147 : zOK l D tc A nS xs mM_X12_reset 147 q_X12_reset_147 := r_putf kls_12 ty_12_103 zck_int (by decide) tx_12_103 rfl w_902 (by decide +kernel) ok_X12_reset_150
theorem ok_X12_reset_146 : zOK l D tc A nS xs mM_X12_reset 146 q_X12_reset_146 := s_iconst (n := 0) (by decide) (by decide +kernel) (by decide +kernel) ok_X12_reset_147
theorem ok_X12_reset_145 : zOK l D tc A nS xs mM_X12_reset 145 q_X12_reset_145 := s_aload_n (q := 0) rfl (by decide +kernel) (by decide +kernel) ok_X12_reset_146
theorem ok_X12_reset_142 : zOK l D tc A nS xs mM_X12_reset 142 q_X12_reset_142 := r_putf kls_12 ty_12_102 zck_bool (by decide) tx_12_102 rfl w_926 (by decide +kernel) ok_X12_reset_145
theorem ok_X12_reset_141 : zOK l D tc A nS xs mM_X12_reset 141 q_X12_reset_141 := s_iconst (n := 0) (by decide) (by decide +kernel) (by decide +kernel) ok_X12_reset_142
theorem ok_X12_reset_140 : zOK l D tc A nS xs mM_X12_reset 140 q_X12_reset_140 := s_aload_n (q := 0) rfl (by decide +kernel) (by decide +kernel) ok_X12_reset_141
theorem ok_X12_reset_137 : zOK l D tc A nS xs mM_X12_reset 137 q_X12_reset_137 := r_putf kls_12 ty_12_101 zck_int (by decide) tx_12_101 rfl w_896 (by decide +kernel) ok_X12_reset_140
theorem ok_X12_reset_136 : zOK l D tc A nS xs mM_X12_reset 136 q_X12_reset_136 := s_iconst (n := 0) (by decide) (by decide +kernel) (by decide +kernel) ok_X12_reset_137
theorem ok_X12_reset_135 : zOK l D tc A nS xs mM_X12_reset 135 q_X12_reset_135 := s_aload_n (q := 0) rfl (by decide +kernel) (by decide +kernel) ok_X12_reset_136
theorem ok_X12_reset_132 : zOK l D tc A nS xs mM_X12_reset 132 q_X12_reset_132 := r_putf kls_12 ty_12_100 zck_int (by decide) tx_12_100 rfl w_897 (by decide +kernel) ok_X12_reset_135
theorem ok_X12_reset_131 : zOK l D tc A nS xs mM_X12_reset 131 q_X12_reset_131 := s_iconst (n := 0) (by decide) (by decide +kernel) (by decide +kernel) ok_X12_reset_132
theorem ok_X12_reset_130 : zOK l D tc A nS xs mM_X12_reset 130 q_X12_reset_130 := s_aload_n (q := 0) rfl (by decide +kernel) (by decide +kernel) ok_X12_reset_131
theorem ok_X12_reset_127 : zOK l D tc A nS xs mM_X12_reset 127 q_X12_reset_127 := r_putf kls_12 ty_12_26 zck_int (by decide) tx_12_26 rfl w_908 (by decide +kernel) ok_X12_reset_130
theorem ok_X12_reset_126 : zOK l D tc A nS xs mM_X12_reset 126 q_X12_reset_126 := s_iconst (n := 0) (by decide) (by decide +kernel) (by decide +kernel) ok_X12_reset_127
theorem ok_X12_reset_125 : zOK l D tc A nS xs mM_X12_reset 125 q_X12_reset_125 := s_aload_n (q := 0) rfl (by decide +kernel) (by decide +kernel) ok_X12_reset_126
theorem ok_X12_reset_122 : zOK l D tc A nS xs mM_X12_reset 122 q_X12_reset_122 := r_putf kls_12 ty_12_25 zck_int (by decide) tx_12_25 rfl w_901 (by decide +kernel) ok_X12_reset_125
theorem ok_X12_reset_121 : zOK l D tc A nS xs mM_X12_reset 121 q_X12_reset_121 := s_iconst (n := 0) (by decide) (by decide +kernel) (by decide +kernel) ok_X12_reset_122
theorem ok_X12_reset_120 : zOK l D tc A nS xs mM_X12_reset 120 q_X12_reset_120 := s_aload_n (q := 0) rfl (by decide +kernel) (by decide +kernel) ok_X12_reset_121
theorem ok_X12_reset_117 : zOK l D tc A nS xs mM_X12_reset 117 q_X12_reset_117 := r_putf kls_12 ty_12_23 zck_int (by decide) tx_12_23 rfl w_874 (by decide +kernel) ok_X12_reset_120
theorem ok_X12_reset_116 : zOK l D tc A nS xs mM_X12_reset 116 q_X12_reset_116 := s_iconst (n := 0) (by decide) (by decide +kernel) (by decide +kernel) ok_X12_reset_117
theorem ok_X12_reset_115 : zOK l D tc A nS xs mM_X12_reset 115 q_X12_reset_115 := s_aload_n (q := 0) rfl (by decide +kernel) (by decide +kernel) ok_X12_reset_116
theorem ok_X12_reset_112 : zOK l D tc A nS xs mM_X12_reset 112 q_X12_reset_112 := r_putf kls_12 ty_12_108 zck_int (by decide) tx_12_108 rfl w_751 (by decide +kernel) ok_X12_reset_115
theorem ok_X12_reset_111 : zOK l D tc A nS xs mM_X12_reset 111 q_X12_reset_111 := s_iconst (n := 0) (by decide) (by decide +kernel) (by decide +kernel) ok_X12_reset_112
theorem ok_X12_reset_110 : zOK l D tc A nS xs mM_X12_reset 110 q_X12_reset_110 := s_aload_n (q := 0) rfl (by decide +kernel) (by decide +kernel) ok_X12_reset_111
theorem ok_X12_reset_107 : zOK l D tc A nS xs mM_X12_reset 107 q_X12_reset_107 := r_putf kls_12 ty_12_107 zck_int (by decide) tx_12_107 rfl w_752 (by decide +kernel) ok_X12_reset_110
theorem ok_X12_reset_104 : zOK l D tc A nS xs mM_X12_reset 104 q_X12_reset_104 := s_sipush (n := 14000) (by decide) (by decide +kernel) (by decide +kernel) ok_X12_reset_107
theorem ok_X12_reset_103 : zOK l D tc A nS xs mM_X12_reset 103 q_X12_reset_103 := s_aload_n (q := 0) rfl (by decide +kernel) (by decide +kernel) ok_X12_reset_104
theorem ok_X12_reset_100 : zOK l D tc A nS xs mM_X12_reset 100 q_X12_reset_100 := r_putf kls_12 ty_12_68 zck_int (by decide) tx_12_68 rfl w_759 (by decide +kernel) ok_X12_reset_103
theorem ok_X12_reset_99 : zOK l D tc A nS xs mM_X12_reset 99 q_X12_reset_99 := s_iconst (n := 0) (by decide) (by decide +kernel) (by decide +kernel) ok_X12_reset_100
theorem ok_X12_reset_98 : zOK l D tc A nS xs mM_X12_reset 98 q_X12_reset_98 := s_aload_n (q := 0) rfl (by decide +kernel) (by decide +kernel) ok_X12_reset_99
theorem ok_X12_reset_95 : zOK l D tc A nS xs mM_X12_reset 95 q_X12_reset_95 := r_putf kls_12 ty_12_45 zck_int (by decide) tx_12_45 rfl w_895 (by decide +kernel) ok_X12_reset_98
theorem ok_X12_reset_94 : zOK l D tc A nS xs mM_X12_reset 94 q_X12_reset_94 := s_iconst (n := 0) (by decide) (by decide +kernel) (by decide +kernel) ok_X12_reset_95
theorem ok_X12_reset_93 : zOK l D tc A nS xs mM_X12_reset 93 q_X12_reset_93 := s_aload_n (q := 0) rfl (by decide +kernel) (by decide +kernel) ok_X12_reset_94
theorem ok_X12_reset_90 : zOK l D tc A nS xs mM_X12_reset 90 q_X12_reset_90 := r_putf kls_12 ty_12_12 zck_int (by decide) tx_12_12 rfl w_904 (by decide +kernel) ok_X12_reset_93
theorem ok_X12_reset_89 : zOK l D tc A nS xs mM_X12_reset 89 q_X12_reset_89 := s_iconst (n := 0) (by decide) (by decide +kernel) (by decide +kernel) ok_X12_reset_90
theorem ok_X12_reset_88 : zOK l D tc A nS xs mM_X12_reset 88 q_X12_reset_88 := s_aload_n (q := 0) rfl (by decide +kernel) (by decide +kernel) ok_X12_reset_89
theorem ok_X12_reset_85 : zOK l D tc A nS xs mM_X12_reset 85 q_X12_reset_85 := r_putf kls_12 ty_12_11 zck_int (by decide) tx_12_11 rfl w_905 (by decide +kernel) ok_X12_reset_88
theorem ok_X12_reset_83 : zOK l D tc A nS xs mM_X12_reset 83 q_X12_reset_83 := r_ldc (by decide) (x := (32768 : Int32)) (by decide +kernel) rfl w_927 (by decide +kernel) ok_X12_reset_85
theorem ok_X12_reset_82 : zOK l D tc A nS xs mM_X12_reset 82 q_X12_reset_82 := s_aload_n (q := 0) rfl (by decide +kernel) (by decide +kernel) ok_X12_reset_83
theorem ok_X12_reset_79 : zOK l D tc A nS xs mM_X12_reset 79 q_X12_reset_79 := r_putf kls_12 ty_12_10 zck_int (by decide) tx_12_10 rfl w_803 (by decide +kernel) ok_X12_reset_82
theorem ok_X12_reset_76 : zOK l D tc A nS xs mM_X12_reset 76 q_X12_reset_76 := s_sipush (n := 8192) (by decide) (by decide +kernel) (by decide +kernel) ok_X12_reset_79
theorem ok_X12_reset_75 : zOK l D tc A nS xs mM_X12_reset 75 q_X12_reset_75 := s_aload_n (q := 0) rfl (by decide +kernel) (by decide +kernel) ok_X12_reset_76
theorem ok_X12_reset_72 : zOK l D tc A nS xs mM_X12_reset 72 q_X12_reset_72 := r_putf kls_12 ty_12_9 zck_int (by decide) tx_12_9 rfl w_906 (by decide +kernel) ok_X12_reset_75
theorem ok_X12_reset_69 : zOK l D tc A nS xs mM_X12_reset 69 q_X12_reset_69 := s_sipush (n := 1024) (by decide) (by decide +kernel) (by decide +kernel) ok_X12_reset_72
theorem ok_X12_reset_68 : zOK l D tc A nS xs mM_X12_reset 68 q_X12_reset_68 := s_aload_n (q := 0) rfl (by decide +kernel) (by decide +kernel) ok_X12_reset_69
theorem ok_X12_reset_65 : zOK l D tc A nS xs mM_X12_reset 65 q_X12_reset_65 := s_goto (tgt := 48) (off := (-17)) (by decide +kernel) (by decide) (s_back lb_261)
theorem ok_X12_reset_62 : zOK l D tc A nS xs mM_X12_reset 62 q_X12_reset_62 := s_iinc (n := 1) (by decide +kernel) (by decide +kernel) (by decide +kernel) ok_X12_reset_65
theorem ok_X12_reset_61 : zOK l D tc A nS xs mM_X12_reset 61 q_X12_reset_61 := s_iast (t0 := 0) (by decide) (by decide) rfl (by decide +kernel) ok_X12_reset_62
theorem ok_X12_reset_60 : zOK l D tc A nS xs mM_X12_reset 60 q_X12_reset_60 := s_iconst (n := 0) (by decide) (by decide +kernel) (by decide +kernel) ok_X12_reset_61
theorem ok_X12_reset_59 : zOK l D tc A nS xs mM_X12_reset 59 q_X12_reset_59 := s_iload_n (q := 1) rfl (by decide +kernel) (by decide +kernel) ok_X12_reset_60
theorem ok_X12_reset_58 : zOK l D tc A nS xs mM_X12_reset 58 q_X12_reset_58 := s_aald (t0 := 2) (ty := .array .int) rfl rfl (by decide +kernel) ok_X12_reset_59
theorem ok_X12_reset_57 : zOK l D tc A nS xs mM_X12_reset 57 q_X12_reset_57 := s_iconst (n := 0) (by decide) (by decide +kernel) (by decide +kernel) ok_X12_reset_58
theorem ok_X12_reset_54 : zOK l D tc A nS xs mM_X12_reset 54 q_X12_reset_54 := r_getf kls_12 (by decide) tx_12_2 rfl w_870 (by decide +kernel) ok_X12_reset_57
theorem ok_X12_reset_53 : zOK l D tc A nS xs mM_X12_reset 53 q_X12_reset_53 := s_aload_n (q := 0) rfl (by decide +kernel) (by decide +kernel) ok_X12_reset_54
theorem ok_X12_reset_50 : zOK l D tc A nS xs mM_X12_reset 50 q_X12_reset_50 := s_icmp_ge (tgt := 68) (off := 18) (by decide +kernel) (by decide) ok_X12_reset_68 ok_X12_reset_53
theorem ok_X12_reset_49 : zOK l D tc A nS xs mM_X12_reset 49 q_X12_reset_49 := s_iconst (n := 4) (by decide) (by decide +kernel) (by decide +kernel) ok_X12_reset_50
theorem ok_X12_reset_48 : zOK l D tc A nS xs mM_X12_reset 48 q_X12_reset_48 := s_iload_n (q := 1) rfl (by decide +kernel) (by decide +kernel) ok_X12_reset_49
theorem ok_X12_reset_47 : zOK l D tc A nS xs mM_X12_reset 47 q_X12_reset_47 := s_istore_n (q := 1) rfl (by decide +kernel) (by decide +kernel) ok_X12_reset_48
theorem ok_X12_reset_46 : zOK l D tc A nS xs mM_X12_reset 46 q_X12_reset_46 := s_iconst (n := 0) (by decide) (by decide +kernel) (by decide +kernel) ok_X12_reset_47
theorem ok_X12_reset_43 : zOK l D tc A nS xs mM_X12_reset 43 q_X12_reset_43 := s_goto (tgt := 25) (off := (-18)) (by decide +kernel) (by decide) (s_back lb_260)
theorem ok_X12_reset_40 : zOK l D tc A nS xs mM_X12_reset 40 q_X12_reset_40 := s_iinc (n := 1) (by decide +kernel) (by decide +kernel) (by decide +kernel) ok_X12_reset_43
theorem ok_X12_reset_39 : zOK l D tc A nS xs mM_X12_reset 39 q_X12_reset_39 := s_iast (t0 := 0) (by decide) (by decide) rfl (by decide +kernel) ok_X12_reset_40
theorem ok_X12_reset_38 : zOK l D tc A nS xs mM_X12_reset 38 q_X12_reset_38 := s_iconst (n := 0) (by decide) (by decide +kernel) (by decide +kernel) ok_X12_reset_39
theorem ok_X12_reset_37 : zOK l D tc A nS xs mM_X12_reset 37 q_X12_reset_37 := s_iload_n (q := 1) rfl (by decide +kernel) (by decide +kernel) ok_X12_reset_38
theorem ok_X12_reset_36 : zOK l D tc A nS xs mM_X12_reset 36 q_X12_reset_36 := s_aald (t0 := 2) (ty := .array .int) rfl rfl (by decide +kernel) ok_X12_reset_37
theorem ok_X12_reset_35 : zOK l D tc A nS xs mM_X12_reset 35 q_X12_reset_35 := s_iconst (n := 0) (by decide) (by decide +kernel) (by decide +kernel) ok_X12_reset_36
theorem ok_X12_reset_32 : zOK l D tc A nS xs mM_X12_reset 32 q_X12_reset_32 := r_getf kls_12 (by decide) tx_12_1 rfl w_871 (by decide +kernel) ok_X12_reset_35
theorem ok_X12_reset_31 : zOK l D tc A nS xs mM_X12_reset 31 q_X12_reset_31 := s_aload_n (q := 0) rfl (by decide +kernel) (by decide +kernel) ok_X12_reset_32
theorem ok_X12_reset_28 : zOK l D tc A nS xs mM_X12_reset 28 q_X12_reset_28 := s_icmp_ge (tgt := 46) (off := 18) (by decide +kernel) (by decide) ok_X12_reset_46 ok_X12_reset_31
theorem ok_X12_reset_26 : zOK l D tc A nS xs mM_X12_reset 26 q_X12_reset_26 := s_bipush (n := 8) (by decide) (by decide +kernel) (by decide +kernel) ok_X12_reset_28
theorem ok_X12_reset_25 : zOK l D tc A nS xs mM_X12_reset 25 q_X12_reset_25 := s_iload_n (q := 1) rfl (by decide +kernel) (by decide +kernel) ok_X12_reset_26
theorem ok_X12_reset_24 : zOK l D tc A nS xs mM_X12_reset 24 q_X12_reset_24 := s_istore_n (q := 1) rfl (by decide +kernel) (by decide +kernel) ok_X12_reset_25
theorem ok_X12_reset_23 : zOK l D tc A nS xs mM_X12_reset 23 q_X12_reset_23 := s_iconst (n := 0) (by decide) (by decide +kernel) (by decide +kernel) ok_X12_reset_24
theorem ok_X12_reset_20 : zOK l D tc A nS xs mM_X12_reset 20 q_X12_reset_20 := s_goto (tgt := 2) (off := (-18)) (by decide +kernel) (by decide) (s_back lb_259)
theorem ok_X12_reset_17 : zOK l D tc A nS xs mM_X12_reset 17 q_X12_reset_17 := s_iinc (n := 1) (by decide +kernel) (by decide +kernel) (by decide +kernel) ok_X12_reset_20
theorem ok_X12_reset_16 : zOK l D tc A nS xs mM_X12_reset 16 q_X12_reset_16 := s_iast (t0 := 0) (by decide) (by decide) rfl (by decide +kernel) ok_X12_reset_17
theorem ok_X12_reset_15 : zOK l D tc A nS xs mM_X12_reset 15 q_X12_reset_15 := s_iconst (n := 0) (by decide) (by decide +kernel) (by decide +kernel) ok_X12_reset_16
theorem ok_X12_reset_14 : zOK l D tc A nS xs mM_X12_reset 14 q_X12_reset_14 := s_iload_n (q := 1) rfl (by decide +kernel) (by decide +kernel) ok_X12_reset_15
theorem ok_X12_reset_13 : zOK l D tc A nS xs mM_X12_reset 13 q_X12_reset_13 := s_aald (t0 := 2) (ty := .array .int) rfl rfl (by decide +kernel) ok_X12_reset_14
theorem ok_X12_reset_12 : zOK l D tc A nS xs mM_X12_reset 12 q_X12_reset_12 := s_iconst (n := 0) (by decide) (by decide +kernel) (by decide +kernel) ok_X12_reset_13
theorem ok_X12_reset_9 : zOK l D tc A nS xs mM_X12_reset 9 q_X12_reset_9 := r_getf kls_12 (by decide) tx_12_0 rfl w_724 (by decide +kernel) ok_X12_reset_12
theorem ok_X12_reset_8 : zOK l D tc A nS xs mM_X12_reset 8 q_X12_reset_8 := s_aload_n (q := 0) rfl (by decide +kernel) (by decide +kernel) ok_X12_reset_9
theorem ok_X12_reset_5 : zOK l D tc A nS xs mM_X12_reset 5 q_X12_reset_5 := s_icmp_ge (tgt := 23) (off := 18) (by decide +kernel) (by decide) ok_X12_reset_23 ok_X12_reset_8
theorem ok_X12_reset_3 : zOK l D tc A nS xs mM_X12_reset 3 q_X12_reset_3 := r_ldc (by decide) (x := (65536 : Int32)) (by decide +kernel) rfl w_872 (by decide +kernel) ok_X12_reset_5
theorem ok_X12_reset_2 : zOK l D tc A nS xs mM_X12_reset 2 q_X12_reset_2 := s_iload_n (q := 1) rfl (by decide +kernel) (by decide +kernel) ok_X12_reset_3
theorem ok_X12_reset_1 : zOK l D tc A nS xs mM_X12_reset 1 q_X12_reset_1 := s_istore_n (q := 1) rfl (by decide +kernel) (by decide +kernel) ok_X12_reset_2
theorem ok_X12_reset_0 : zOK l D tc A nS xs mM_X12_reset 0 q_X12_reset_0 := s_iconst (n := 0) (by decide) (by decide +kernel) (by decide +kernel) ok_X12_reset_1
theorem ok_X12_rowOfSigns_319 : zOK l D tc A nS xs mM_X12_rowOfSigns 319 q_X12_rowOfSigns_319 := s_vret rfl (by decide +kernel)
theorem ok_X12_rowOfSigns_316 : zOK l D tc A nS xs mM_X12_rowOfSigns 316 q_X12_rowOfSigns_316 := r_callV zEE_ok zTw_gd kls_12 (M2 := mM_X12_comes) (na := 1) lb_190 calV_X12_comes rfl rfl w_725 (by decide +kernel) ok_X12_rowOfSigns_319
theorem ok_X12_rowOfSigns_313 : zOK l D tc A nS xs mM_X12_rowOfSigns 313 q_X12_rowOfSigns_313 := r_callV zEE_ok zTw_gd kls_12 (M2 := mM_X12_atom) (na := 3) lb_183 calV_X12_atom rfl rfl w_731 (by decide +kernel) ok_X12_rowOfSigns_316
theorem ok_X12_rowOfSigns_310 : zOK l D tc A nS xs mM_X12_rowOfSigns 310 q_X12_rowOfSigns_310 := r_getf kls_12 (by decide) tx_12_49 rfl w_734 (by decide +kernel) ok_X12_rowOfSigns_313
theorem ok_X12_rowOfSigns_309 : zOK l D tc A nS xs mM_X12_rowOfSigns 309 q_X12_rowOfSigns_309 := s_aload_n (q := 0) rfl (by decide +kernel) (by decide +kernel) ok_X12_rowOfSigns_310
theorem ok_X12_rowOfSigns_307 : zOK l D tc A nS xs mM_X12_rowOfSigns 307 q_X12_rowOfSigns_307 := s_iload (by decide +kernel) (by decide +kernel) ok_X12_rowOfSigns_309
theorem ok_X12_rowOfSigns_306 : zOK l D tc A nS xs mM_X12_rowOfSigns 306 q_X12_rowOfSigns_306 := s_iconst (n := 4) (by decide) (by decide +kernel) (by decide +kernel) ok_X12_rowOfSigns_307
theorem ok_X12_rowOfSigns_305 : zOK l D tc A nS xs mM_X12_rowOfSigns 305 q_X12_rowOfSigns_305 := s_aload_n (q := 0) rfl (by decide +kernel) (by decide +kernel) ok_X12_rowOfSigns_306
theorem ok_X12_rowOfSigns_304 : zOK l D tc A nS xs mM_X12_rowOfSigns 304 q_X12_rowOfSigns_304 := s_aload_n (q := 0) rfl (by decide +kernel) (by decide +kernel) ok_X12_rowOfSigns_305
theorem ok_X12_rowOfSigns_301 : zOK l D tc A nS xs mM_X12_rowOfSigns 301 q_X12_rowOfSigns_301 := s_if_ne (tgt := 319) (off := 18) (by decide +kernel) (by decide) ok_X12_rowOfSigns_319 ok_X12_rowOfSigns_304
theorem ok_X12_rowOfSigns_298 : zOK l D tc A nS xs mM_X12_rowOfSigns 298 q_X12_rowOfSigns_298 := r_getf kls_12 (by decide) tx_12_40 rfl w_775 (by decide +kernel) ok_X12_rowOfSigns_301
theorem ok_X12_rowOfSigns_297 : zOK l D tc A nS xs mM_X12_rowOfSigns 297 q_X12_rowOfSigns_297 := s_aload_n (q := 0) rfl (by decide +kernel) (by decide +kernel) ok_X12_rowOfSigns_298
theorem ok_X12_rowOfSigns_295 : zOK l D tc A nS xs mM_X12_rowOfSigns 295 q_X12_rowOfSigns_295 := s_istore (by decide +kernel) (by decide +kernel) ok_X12_rowOfSigns_297
theorem ok_X12_rowOfSigns_292 : zOK l D tc A nS xs mM_X12_rowOfSigns 292 q_X12_rowOfSigns_292 := r_callV zEE_ok zTw_gd kls_12 (M2 := mM_X12_symbol) (na := 1) lb_279 calV_X12_symbol rfl rfl w_923 (by decide +kernel) ok_X12_rowOfSigns_295
theorem ok_X12_rowOfSigns_291 : zOK l D tc A nS xs mM_X12_rowOfSigns 291 q_X12_rowOfSigns_291 := s_iload_n (q := 1) rfl (by decide +kernel) (by decide +kernel) ok_X12_rowOfSigns_292
theorem ok_X12_rowOfSigns_290 : zOK l D tc A nS xs mM_X12_rowOfSigns 290 q_X12_rowOfSigns_290 := s_aload_n (q := 0) rfl (by decide +kernel) (by decide +kernel) ok_X12_rowOfSigns_291
theorem ok_X12_rowOfSigns_287 : zOK l D tc A nS xs mM_X12_rowOfSigns 287 q_X12_rowOfSigns_287 := s_if_eq (tgt := 319) (off := 32) (by decide +kernel) (by decide) ok_X12_rowOfSigns_319 ok_X12_rowOfSigns_290
theorem ok_X12_rowOfSigns_284 : zOK l D tc A nS xs mM_X12_rowOfSigns 284 q_X12_rowOfSigns_284 := r_callV zEE_ok zTw_gd kls_12 (M2 := mM_X12_mayBegin) (na := 0) lb_245 calV_X12_mayBegin rfl rfl w_928 (by decide +kernel) ok_X12_rowOfSigns_287
theorem ok_X12_rowOfSigns_283 : zOK l D tc A nS xs mM_X12_rowOfSigns 283 q_X12_rowOfSigns_283 := s_aload_n (q := 0) rfl (by decide +kernel) (by decide +kernel) ok_X12_rowOfSigns_284
theorem ok_X12_rowOfSigns_268 : zOK l D tc A nS xs mM_X12_rowOfSigns 268 q_X12_rowOfSigns_268 := s_icmp_le (tgt := 283) (off := 15) (by decide +kernel) (by decide) ok_X12_rowOfSigns_283 s_none
theorem ok_X12_rowOfSigns_266 : zOK l D tc A nS xs mM_X12_rowOfSigns 266 q_X12_rowOfSigns_266 := s_bipush (n := 13) (by decide) (by decide +kernel) (by decide +kernel) ok_X12_rowOfSigns_268
theorem ok_X12_rowOfSigns_265 : zOK l D tc A nS xs mM_X12_rowOfSigns 265 q_X12_rowOfSigns_265 := s_iload_n (q := 1) rfl (by decide +kernel) (by decide +kernel) ok_X12_rowOfSigns_266
theorem ok_X12_rowOfSigns_264 : zOK l D tc A nS xs mM_X12_rowOfSigns 264 q_X12_rowOfSigns_264 := s_vret rfl (by decide +kernel)
theorem ok_X12_rowOfSigns_261 : zOK l D tc A nS xs mM_X12_rowOfSigns 261 q_X12_rowOfSigns_261 := r_callV zEE_ok zTw_gd kls_12 (M2 := mM_X12_comes) (na := 1) lb_190 calV_X12_comes rfl rfl w_725 (by decide +kernel) ok_X12_rowOfSigns_264
theorem ok_X12_rowOfSigns_258 : zOK l D tc A nS xs mM_X12_rowOfSigns 258 q_X12_rowOfSigns_258 := r_callV zEE_ok zTw_gd kls_12 (M2 := mM_X12_atom) (na := 3) lb_183 calV_X12_atom rfl rfl w_731 (by decide +kernel) ok_X12_rowOfSigns_261
theorem ok_X12_rowOfSigns_255 : zOK l D tc A nS xs mM_X12_rowOfSigns 255 q_X12_rowOfSigns_255 := r_getf kls_12 (by decide) tx_12_49 rfl w_734 (by decide +kernel) ok_X12_rowOfSigns_258
theorem ok_X12_rowOfSigns_254 : zOK l D tc A nS xs mM_X12_rowOfSigns 254 q_X12_rowOfSigns_254 := s_aload_n (q := 0) rfl (by decide +kernel) (by decide +kernel) ok_X12_rowOfSigns_255
theorem ok_X12_rowOfSigns_252 : zOK l D tc A nS xs mM_X12_rowOfSigns 252 q_X12_rowOfSigns_252 := s_iload (by decide +kernel) (by decide +kernel) ok_X12_rowOfSigns_254
theorem ok_X12_rowOfSigns_251 : zOK l D tc A nS xs mM_X12_rowOfSigns 251 q_X12_rowOfSigns_251 := s_iconst (n := 1) (by decide) (by decide +kernel) (by decide +kernel) ok_X12_rowOfSigns_252
theorem ok_X12_rowOfSigns_250 : zOK l D tc A nS xs mM_X12_rowOfSigns 250 q_X12_rowOfSigns_250 := s_aload_n (q := 0) rfl (by decide +kernel) (by decide +kernel) ok_X12_rowOfSigns_251
theorem ok_X12_rowOfSigns_249 : zOK l D tc A nS xs mM_X12_rowOfSigns 249 q_X12_rowOfSigns_249 := s_aload_n (q := 0) rfl (by decide +kernel) (by decide +kernel) ok_X12_rowOfSigns_250
theorem ok_X12_rowOfSigns_246 : zOK l D tc A nS xs mM_X12_rowOfSigns 246 q_X12_rowOfSigns_246 := s_if_eq (tgt := 264) (off := 18) (by decide +kernel) (by decide) ok_X12_rowOfSigns_264 ok_X12_rowOfSigns_249
theorem ok_X12_rowOfSigns_243 : zOK l D tc A nS xs mM_X12_rowOfSigns 243 q_X12_rowOfSigns_243 := r_callV zEE_ok zTw_gd kls_12 (M2 := mM_X12_mayBegin) (na := 0) lb_245 calV_X12_mayBegin rfl rfl w_928 (by decide +kernel) ok_X12_rowOfSigns_246
theorem ok_X12_rowOfSigns_242 : zOK l D tc A nS xs mM_X12_rowOfSigns 242 q_X12_rowOfSigns_242 := s_aload_n (q := 0) rfl (by decide +kernel) (by decide +kernel) ok_X12_rowOfSigns_243
theorem ok_X12_rowOfSigns_227 : zOK l D tc A nS xs mM_X12_rowOfSigns 227 q_X12_rowOfSigns_227 := s_if_ne (tgt := 242) (off := 15) (by decide +kernel) (by decide) ok_X12_rowOfSigns_242 s_none
theorem ok_X12_rowOfSigns_224 : zOK l D tc A nS xs mM_X12_rowOfSigns 224 q_X12_rowOfSigns_224 := r_callS zEE_ok zTw_gd (M2 := mM_X12_in) lb_217 calS_X12_in rfl rfl w_771 (by decide +kernel) ok_X12_rowOfSigns_227
theorem ok_X12_rowOfSigns_221 : zOK l D tc A nS xs mM_X12_rowOfSigns 221 q_X12_rowOfSigns_221 := s_sipush (n := 16383) (by decide) (by decide +kernel) (by decide +kernel) ok_X12_rowOfSigns_224
theorem ok_X12_rowOfSigns_218 : zOK l D tc A nS xs mM_X12_rowOfSigns 218 q_X12_rowOfSigns_218 := s_sipush (n := (-16384)) (by decide) (by decide +kernel) (by decide +kernel) ok_X12_rowOfSigns_221
theorem ok_X12_rowOfSigns_216 : zOK l D tc A nS xs mM_X12_rowOfSigns 216 q_X12_rowOfSigns_216 := s_iload (by decide +kernel) (by decide +kernel) ok_X12_rowOfSigns_218
theorem ok_X12_rowOfSigns_213 : zOK l D tc A nS xs mM_X12_rowOfSigns 213 q_X12_rowOfSigns_213 := s_icmp_gt (tgt := 230) (off := 17) (by decide +kernel) (by decide) s_none ok_X12_rowOfSigns_216
theorem ok_X12_rowOfSigns_212 : zOK l D tc A nS xs mM_X12_rowOfSigns 212 q_X12_rowOfSigns_212 := s_iconst (n := 5) (by decide) (by decide +kernel) (by decide +kernel) ok_X12_rowOfSigns_213
theorem ok_X12_rowOfSigns_211 : zOK l D tc A nS xs mM_X12_rowOfSigns 211 q_X12_rowOfSigns_211 := s_isub (by decide +kernel) ok_X12_rowOfSigns_212
theorem ok_X12_rowOfSigns_210 : zOK l D tc A nS xs mM_X12_rowOfSigns 210 q_X12_rowOfSigns_210 := s_iload_n (q := 3) rfl (by decide +kernel) (by decide +kernel) ok_X12_rowOfSigns_211
theorem ok_X12_rowOfSigns_207 : zOK l D tc A nS xs mM_X12_rowOfSigns 207 q_X12_rowOfSigns_207 := r_getf kls_12 (by decide) tx_12_48 rfl w_718 (by decide +kernel) ok_X12_rowOfSigns_210
theorem ok_X12_rowOfSigns_206 : zOK l D tc A nS xs mM_X12_rowOfSigns 206 q_X12_rowOfSigns_206 := s_aload_n (q := 0) rfl (by decide +kernel) (by decide +kernel) ok_X12_rowOfSigns_207
theorem ok_X12_rowOfSigns_204 : zOK l D tc A nS xs mM_X12_rowOfSigns 204 q_X12_rowOfSigns_204 := s_istore (by decide +kernel) (by decide +kernel) ok_X12_rowOfSigns_206
theorem ok_X12_rowOfSigns_202 : zOK l D tc A nS xs mM_X12_rowOfSigns 202 q_X12_rowOfSigns_202 := s_iload (by decide +kernel) (by decide +kernel) ok_X12_rowOfSigns_204
theorem ok_X12_rowOfSigns_193 : zOK l D tc A nS xs mM_X12_rowOfSigns 193 q_X12_rowOfSigns_193 := s_icmp_ne (tgt := 202) (off := 9) (by decide +kernel) (by decide) ok_X12_rowOfSigns_202 s_none
theorem ok_X12_rowOfSigns_191 : zOK l D tc A nS xs mM_X12_rowOfSigns 191 q_X12_rowOfSigns_191 := s_bipush (n := 45) (by decide) (by decide +kernel) (by decide +kernel) ok_X12_rowOfSigns_193
theorem ok_X12_rowOfSigns_190 : zOK l D tc A nS xs mM_X12_rowOfSigns 190 q_X12_rowOfSigns_190 := s_iload_n (q := 2) rfl (by decide +kernel) (by decide +kernel) ok_X12_rowOfSigns_191
theorem ok_X12_rowOfSigns_187 : zOK l D tc A nS xs mM_X12_rowOfSigns 187 q_X12_rowOfSigns_187 := s_goto (tgt := 128) (off := (-59)) (by decide +kernel) (by decide) (s_back lb_265)
theorem ok_X12_rowOfSigns_184 : zOK l D tc A nS xs mM_X12_rowOfSigns 184 q_X12_rowOfSigns_184 := s_iinc (n := 1) (by decide +kernel) (by decide +kernel) (by decide +kernel) ok_X12_rowOfSigns_187
theorem ok_X12_rowOfSigns_182 : zOK l D tc A nS xs mM_X12_rowOfSigns 182 q_X12_rowOfSigns_182 := s_istore (by decide +kernel) (by decide +kernel) ok_X12_rowOfSigns_184
theorem ok_X12_rowOfSigns_176 : zOK l D tc A nS xs mM_X12_rowOfSigns 176 q_X12_rowOfSigns_176 := s_goto (tgt := 182) (off := 6) (by decide +kernel) (by decide) ok_X12_rowOfSigns_182
theorem ok_X12_rowOfSigns_175 : zOK l D tc A nS xs mM_X12_rowOfSigns 175 q_X12_rowOfSigns_175 := s_isub (by decide +kernel) ok_X12_rowOfSigns_176
theorem ok_X12_rowOfSigns_173 : zOK l D tc A nS xs mM_X12_rowOfSigns 173 q_X12_rowOfSigns_173 := s_bipush (n := 48) (by decide) (by decide +kernel) (by decide +kernel) ok_X12_rowOfSigns_175
theorem ok_X12_rowOfSigns_172 : zOK l D tc A nS xs mM_X12_rowOfSigns 172 q_X12_rowOfSigns_172 := s_iadd (by decide +kernel) ok_X12_rowOfSigns_173
theorem ok_X12_rowOfSigns_169 : zOK l D tc A nS xs mM_X12_rowOfSigns 169 q_X12_rowOfSigns_169 := r_callV zEE_ok zTw_gd kls_12 (M2 := mM_X12_byteOf) (na := 1) lb_187 calV_X12_byteOf rfl rfl w_719 (by decide +kernel) ok_X12_rowOfSigns_172
theorem ok_X12_rowOfSigns_167 : zOK l D tc A nS xs mM_X12_rowOfSigns 167 q_X12_rowOfSigns_167 := s_iload (by decide +kernel) (by decide +kernel) ok_X12_rowOfSigns_169
theorem ok_X12_rowOfSigns_166 : zOK l D tc A nS xs mM_X12_rowOfSigns 166 q_X12_rowOfSigns_166 := s_aload_n (q := 0) rfl (by decide +kernel) (by decide +kernel) ok_X12_rowOfSigns_167
theorem ok_X12_rowOfSigns_165 : zOK l D tc A nS xs mM_X12_rowOfSigns 165 q_X12_rowOfSigns_165 := s_imul (by decide +kernel) ok_X12_rowOfSigns_166
theorem ok_X12_rowOfSigns_163 : zOK l D tc A nS xs mM_X12_rowOfSigns 163 q_X12_rowOfSigns_163 := s_iload (by decide +kernel) (by decide +kernel) ok_X12_rowOfSigns_165
theorem ok_X12_rowOfSigns_161 : zOK l D tc A nS xs mM_X12_rowOfSigns 161 q_X12_rowOfSigns_161 := s_bipush (n := 10) (by decide) (by decide +kernel) (by decide +kernel) ok_X12_rowOfSigns_163
theorem ok_X12_rowOfSigns_158 : zOK l D tc A nS xs mM_X12_rowOfSigns 158 q_X12_rowOfSigns_158 := s_icmp_ge (tgt := 179) (off := 21) (by decide +kernel) (by decide) s_none ok_X12_rowOfSigns_161
theorem ok_X12_rowOfSigns_155 : zOK l D tc A nS xs mM_X12_rowOfSigns 155 q_X12_rowOfSigns_155 := r_ldcw (by decide) (x := (100000 : Int32)) (by decide +kernel) rfl w_931 (by decide +kernel) ok_X12_rowOfSigns_158
theorem ok_X12_rowOfSigns_153 : zOK l D tc A nS xs mM_X12_rowOfSigns 153 q_X12_rowOfSigns_153 := s_iload (by decide +kernel) (by decide +kernel) ok_X12_rowOfSigns_155
theorem ok_X12_rowOfSigns_150 : zOK l D tc A nS xs mM_X12_rowOfSigns 150 q_X12_rowOfSigns_150 := s_if_eq (tgt := 179) (off := 29) (by decide +kernel) (by decide) s_none ok_X12_rowOfSigns_153
theorem ok_X12_rowOfSigns_147 : zOK l D tc A nS xs mM_X12_rowOfSigns 147 q_X12_rowOfSigns_147 := r_callS zEE_ok zTw_gd (M2 := mM_X12_in) lb_217 calS_X12_in rfl rfl w_771 (by decide +kernel) ok_X12_rowOfSigns_150
theorem ok_X12_rowOfSigns_145 : zOK l D tc A nS xs mM_X12_rowOfSigns 145 q_X12_rowOfSigns_145 := s_bipush (n := 57) (by decide) (by decide +kernel) (by decide +kernel) ok_X12_rowOfSigns_147
theorem ok_X12_rowOfSigns_143 : zOK l D tc A nS xs mM_X12_rowOfSigns 143 q_X12_rowOfSigns_143 := s_bipush (n := 48) (by decide) (by decide +kernel) (by decide +kernel) ok_X12_rowOfSigns_145
theorem ok_X12_rowOfSigns_140 : zOK l D tc A nS xs mM_X12_rowOfSigns 140 q_X12_rowOfSigns_140 := r_callV zEE_ok zTw_gd kls_12 (M2 := mM_X12_byteOf) (na := 1) lb_187 calV_X12_byteOf rfl rfl w_719 (by decide +kernel) ok_X12_rowOfSigns_143
theorem ok_X12_rowOfSigns_138 : zOK l D tc A nS xs mM_X12_rowOfSigns 138 q_X12_rowOfSigns_138 := s_iload (by decide +kernel) (by decide +kernel) ok_X12_rowOfSigns_140
theorem ok_X12_rowOfSigns_137 : zOK l D tc A nS xs mM_X12_rowOfSigns 137 q_X12_rowOfSigns_137 := s_aload_n (q := 0) rfl (by decide +kernel) (by decide +kernel) ok_X12_rowOfSigns_138
theorem ok_X12_rowOfSigns_134 : zOK l D tc A nS xs mM_X12_rowOfSigns 134 q_X12_rowOfSigns_134 := s_icmp_ge (tgt := 190) (off := 56) (by decide +kernel) (by decide) ok_X12_rowOfSigns_190 ok_X12_rowOfSigns_137
theorem ok_X12_rowOfSigns_131 : zOK l D tc A nS xs mM_X12_rowOfSigns 131 q_X12_rowOfSigns_131 := r_getf kls_12 (by decide) tx_12_48 rfl w_718 (by decide +kernel) ok_X12_rowOfSigns_134
theorem ok_X12_rowOfSigns_130 : zOK l D tc A nS xs mM_X12_rowOfSigns 130 q_X12_rowOfSigns_130 := s_aload_n (q := 0) rfl (by decide +kernel) (by decide +kernel) ok_X12_rowOfSigns_131
theorem ok_X12_rowOfSigns_128 : zOK l D tc A nS xs mM_X12_rowOfSigns 128 q_X12_rowOfSigns_128 := s_iload (by decide +kernel) (by decide +kernel) ok_X12_rowOfSigns_130
theorem ok_X12_rowOfSigns_126 : zOK l D tc A nS xs mM_X12_rowOfSigns 126 q_X12_rowOfSigns_126 := s_istore (by decide +kernel) (by decide +kernel) ok_X12_rowOfSigns_128
theorem ok_X12_rowOfSigns_125 : zOK l D tc A nS xs mM_X12_rowOfSigns 125 q_X12_rowOfSigns_125 := s_iload_n (q := 3) rfl (by decide +kernel) (by decide +kernel) ok_X12_rowOfSigns_126
theorem ok_X12_rowOfSigns_123 : zOK l D tc A nS xs mM_X12_rowOfSigns 123 q_X12_rowOfSigns_123 := s_istore (by decide +kernel) (by decide +kernel) ok_X12_rowOfSigns_125
theorem ok_X12_rowOfSigns_122 : zOK l D tc A nS xs mM_X12_rowOfSigns 122 q_X12_rowOfSigns_122 := s_iconst (n := 0) (by decide) (by decide +kernel) (by decide +kernel) ok_X12_rowOfSigns_123
theorem ok_X12_rowOfSigns_119 : zOK l D tc A nS xs mM_X12_rowOfSigns 119 q_X12_rowOfSigns_119 := s_if_eq (tgt := 265) (off := 146) (by decide +kernel) (by decide) ok_X12_rowOfSigns_265 ok_X12_rowOfSigns_122
theorem ok_X12_rowOfSigns_116 : zOK l D tc A nS xs mM_X12_rowOfSigns 116 q_X12_rowOfSigns_116 := r_callS zEE_ok zTw_gd (M2 := mM_X12_in) lb_217 calS_X12_in rfl rfl w_771 (by decide +kernel) ok_X12_rowOfSigns_119
theorem ok_X12_rowOfSigns_114 : zOK l D tc A nS xs mM_X12_rowOfSigns 114 q_X12_rowOfSigns_114 := s_bipush (n := 57) (by decide) (by decide +kernel) (by decide +kernel) ok_X12_rowOfSigns_116
theorem ok_X12_rowOfSigns_112 : zOK l D tc A nS xs mM_X12_rowOfSigns 112 q_X12_rowOfSigns_112 := s_bipush (n := 48) (by decide) (by decide +kernel) (by decide +kernel) ok_X12_rowOfSigns_114
theorem ok_X12_rowOfSigns_109 : zOK l D tc A nS xs mM_X12_rowOfSigns 109 q_X12_rowOfSigns_109 := r_callV zEE_ok zTw_gd kls_12 (M2 := mM_X12_byteOf) (na := 1) lb_187 calV_X12_byteOf rfl rfl w_719 (by decide +kernel) ok_X12_rowOfSigns_112
theorem ok_X12_rowOfSigns_108 : zOK l D tc A nS xs mM_X12_rowOfSigns 108 q_X12_rowOfSigns_108 := s_iload_n (q := 3) rfl (by decide +kernel) (by decide +kernel) ok_X12_rowOfSigns_109
theorem ok_X12_rowOfSigns_107 : zOK l D tc A nS xs mM_X12_rowOfSigns 107 q_X12_rowOfSigns_107 := s_aload_n (q := 0) rfl (by decide +kernel) (by decide +kernel) ok_X12_rowOfSigns_108
theorem ok_X12_rowOfSigns_106 : zOK l D tc A nS xs mM_X12_rowOfSigns 106 q_X12_rowOfSigns_106 := s_istore_n (q := 3) rfl (by decide +kernel) (by decide +kernel) ok_X12_rowOfSigns_107
theorem ok_X12_rowOfSigns_105 : zOK l D tc A nS xs mM_X12_rowOfSigns 105 q_X12_rowOfSigns_105 := s_iadd (by decide +kernel) ok_X12_rowOfSigns_106
theorem ok_X12_rowOfSigns_104 : zOK l D tc A nS xs mM_X12_rowOfSigns 104 q_X12_rowOfSigns_104 := s_iconst (n := 0) (by decide) (by decide +kernel) (by decide +kernel) ok_X12_rowOfSigns_105
theorem ok_X12_rowOfSigns_97 : zOK l D tc A nS xs mM_X12_rowOfSigns 97 q_X12_rowOfSigns_97 := s_icmp_ne (tgt := 104) (off := 7) (by decide +kernel) (by decide) ok_X12_rowOfSigns_104 s_none
theorem ok_X12_rowOfSigns_95 : zOK l D tc A nS xs mM_X12_rowOfSigns 95 q_X12_rowOfSigns_95 := s_bipush (n := 45) (by decide) (by decide +kernel) (by decide +kernel) ok_X12_rowOfSigns_97
theorem ok_X12_rowOfSigns_94 : zOK l D tc A nS xs mM_X12_rowOfSigns 94 q_X12_rowOfSigns_94 := s_iload_n (q := 2) rfl (by decide +kernel) (by decide +kernel) ok_X12_rowOfSigns_95
theorem ok_X12_rowOfSigns_91 : zOK l D tc A nS xs mM_X12_rowOfSigns 91 q_X12_rowOfSigns_91 := r_getf kls_12 (by decide) tx_12_49 rfl w_734 (by decide +kernel) ok_X12_rowOfSigns_94
theorem ok_X12_rowOfSigns_90 : zOK l D tc A nS xs mM_X12_rowOfSigns 90 q_X12_rowOfSigns_90 := s_aload_n (q := 0) rfl (by decide +kernel) (by decide +kernel) ok_X12_rowOfSigns_91
theorem ok_X12_rowOfSigns_27 : zOK l D tc A nS xs mM_X12_rowOfSigns 27 q_X12_rowOfSigns_27 := s_icmp_ne (tgt := 90) (off := 63) (by decide +kernel) (by decide) ok_X12_rowOfSigns_90 s_none
theorem ok_X12_rowOfSigns_25 : zOK l D tc A nS xs mM_X12_rowOfSigns 25 q_X12_rowOfSigns_25 := s_bipush (n := 46) (by decide) (by decide +kernel) (by decide +kernel) ok_X12_rowOfSigns_27
theorem ok_X12_rowOfSigns_24 : zOK l D tc A nS xs mM_X12_rowOfSigns 24 q_X12_rowOfSigns_24 := s_iload_n (q := 2) rfl (by decide +kernel) (by decide +kernel) ok_X12_rowOfSigns_25
theorem ok_X12_rowOfSigns_21 : zOK l D tc A nS xs mM_X12_rowOfSigns 21 q_X12_rowOfSigns_21 := s_icmp_ne (tgt := 90) (off := 69) (by decide +kernel) (by decide) ok_X12_rowOfSigns_90 ok_X12_rowOfSigns_24
theorem ok_X12_rowOfSigns_20 : zOK l D tc A nS xs mM_X12_rowOfSigns 20 q_X12_rowOfSigns_20 := s_iconst (n := 1) (by decide) (by decide +kernel) (by decide +kernel) ok_X12_rowOfSigns_21
theorem ok_X12_rowOfSigns_19 : zOK l D tc A nS xs mM_X12_rowOfSigns 19 q_X12_rowOfSigns_19 := s_iload_n (q := 1) rfl (by decide +kernel) (by decide +kernel) ok_X12_rowOfSigns_20
theorem ok_X12_rowOfSigns_18 : zOK l D tc A nS xs mM_X12_rowOfSigns 18 q_X12_rowOfSigns_18 := s_istore_n (q := 2) rfl (by decide +kernel) (by decide +kernel) ok_X12_rowOfSigns_19
theorem ok_X12_rowOfSigns_15 : zOK l D tc A nS xs mM_X12_rowOfSigns 15 q_X12_rowOfSigns_15 := r_callV zEE_ok zTw_gd kls_12 (M2 := mM_X12_byteOf) (na := 1) lb_187 calV_X12_byteOf rfl rfl w_719 (by decide +kernel) ok_X12_rowOfSigns_18
theorem ok_X12_rowOfSigns_12 : zOK l D tc A nS xs mM_X12_rowOfSigns 12 q_X12_rowOfSigns_12 := r_getf kls_12 (by decide) tx_12_49 rfl w_734 (by decide +kernel) ok_X12_rowOfSigns_15
theorem ok_X12_rowOfSigns_11 : zOK l D tc A nS xs mM_X12_rowOfSigns 11 q_X12_rowOfSigns_11 := s_aload_n (q := 0) rfl (by decide +kernel) (by decide +kernel) ok_X12_rowOfSigns_12
theorem ok_X12_rowOfSigns_10 : zOK l D tc A nS xs mM_X12_rowOfSigns 10 q_X12_rowOfSigns_10 := s_aload_n (q := 0) rfl (by decide +kernel) (by decide +kernel) ok_X12_rowOfSigns_11
theorem ok_X12_rowOfSigns_9 : zOK l D tc A nS xs mM_X12_rowOfSigns 9 q_X12_rowOfSigns_9 := s_istore_n (q := 1) rfl (by decide +kernel) (by decide +kernel) ok_X12_rowOfSigns_10
theorem ok_X12_rowOfSigns_8 : zOK l D tc A nS xs mM_X12_rowOfSigns 8 q_X12_rowOfSigns_8 := s_isub (by decide +kernel) ok_X12_rowOfSigns_9
theorem ok_X12_rowOfSigns_5 : zOK l D tc A nS xs mM_X12_rowOfSigns 5 q_X12_rowOfSigns_5 := r_getf kls_12 (by decide) tx_12_49 rfl w_734 (by decide +kernel) ok_X12_rowOfSigns_8
theorem ok_X12_rowOfSigns_4 : zOK l D tc A nS xs mM_X12_rowOfSigns 4 q_X12_rowOfSigns_4 := s_aload_n (q := 0) rfl (by decide +kernel) (by decide +kernel) ok_X12_rowOfSigns_5
theorem ok_X12_rowOfSigns_1 : zOK l D tc A nS xs mM_X12_rowOfSigns 1 q_X12_rowOfSigns_1 := r_getf kls_12 (by decide) tx_12_48 rfl w_718 (by decide +kernel) ok_X12_rowOfSigns_4
theorem ok_X12_rowOfSigns_0 : zOK l D tc A nS xs mM_X12_rowOfSigns 0 q_X12_rowOfSigns_0 := s_aload_n (q := 0) rfl (by decide +kernel) (by decide +kernel) ok_X12_rowOfSigns_1
theorem ok_X12_run_25 : zOK l D tc A nS xs mM_X12_run 25 q_X12_run_25 := s_iret rfl (by decide +kernel)
theorem ok_X12_run_24 : zOK l D tc A nS xs mM_X12_run 24 q_X12_run_24 := s_iconst (n := 0) (by decide) (by decide +kernel) (by decide +kernel) ok_X12_run_25
theorem ok_X12_run_21 : zOK l D tc A nS xs mM_X12_run 21 q_X12_run_21 := s_icmp_ne (tgt := 26) (off := 5) (by decide +kernel) (by decide) s_none ok_X12_run_24
theorem ok_X12_run_18 : zOK l D tc A nS xs mM_X12_run 18 q_X12_run_18 := r_getf kls_12 (by decide) tx_12_100 rfl w_897 (by decide +kernel) ok_X12_run_21
theorem ok_X12_run_17 : zOK l D tc A nS xs mM_X12_run 17 q_X12_run_17 := s_aload_n (q := 0) rfl (by decide +kernel) (by decide +kernel) ok_X12_run_18
theorem ok_X12_run_14 : zOK l D tc A nS xs mM_X12_run 14 q_X12_run_14 := r_getf kls_12 (by decide) tx_12_101 rfl w_896 (by decide +kernel) ok_X12_run_17
theorem ok_X12_run_13 : zOK l D tc A nS xs mM_X12_run 13 q_X12_run_13 := s_aload_n (q := 0) rfl (by decide +kernel) (by decide +kernel) ok_X12_run_14
theorem ok_X12_run_12 : zOK l D tc A nS xs mM_X12_run 12 q_X12_run_12 := s_iret rfl (by decide +kernel)
theorem ok_X12_run_11 : zOK l D tc A nS xs mM_X12_run 11 q_X12_run_11 := s_iconst (n := (-1)) (by decide) (by decide +kernel) (by decide +kernel) ok_X12_run_12
theorem ok_X12_run_8 : zOK l D tc A nS xs mM_X12_run 8 q_X12_run_8 := s_if_ne (tgt := 13) (off := 5) (by decide +kernel) (by decide) ok_X12_run_13 ok_X12_run_11
theorem ok_X12_run_5 : zOK l D tc A nS xs mM_X12_run 5 q_X12_run_5 := r_callS zEE_ok zTw_gd (M2 := mM_X12_in) lb_217 calS_X12_in rfl rfl w_771 (by decide +kernel) ok_X12_run_8
theorem ok_X12_run_2 : zOK l D tc A nS xs mM_X12_run 2 q_X12_run_2 := s_sipush (n := 20000) (by decide) (by decide +kernel) (by decide +kernel) ok_X12_run_5
theorem ok_X12_run_1 : zOK l D tc A nS xs mM_X12_run 1 q_X12_run_1 := s_iconst (n := 1) (by decide) (by decide +kernel) (by decide +kernel) ok_X12_run_2
theorem ok_X12_run_0 : zOK l D tc A nS xs mM_X12_run 0 q_X12_run_0 := s_iload_n (q := 1) rfl (by decide +kernel) (by decide +kernel) ok_X12_run_1
theorem ok_X12_saves_139 : zOK l D tc A nS xs mM_X12_saves 139 q_X12_saves_139 := s_vret rfl (by decide +kernel)
theorem ok_X12_saves_136 : zOK l D tc A nS xs mM_X12_saves 136 q_X12_saves_136 := r_callS zEE_ok zTw_gd (M2 := mM_X12_copy) lb_195 calS_X12_copy rfl rfl w_932 (by decide +kernel) ok_X12_saves_139
theorem ok_X12_saves_134 : zOK l D tc A nS xs mM_X12_saves 134 q_X12_saves_134 := s_bipush (n := 60) (by decide) (by decide +kernel) (by decide +kernel) ok_X12_saves_136
theorem ok_X12_saves_133 : zOK l D tc A nS xs mM_X12_saves 133 q_X12_saves_133 := s_iconst (n := 0) (by decide) (by decide +kernel) (by decide +kernel) ok_X12_saves_134
theorem ok_X12_saves_130 : zOK l D tc A nS xs mM_X12_saves 130 q_X12_saves_130 := r_getf kls_12 (by decide) tx_12_112 rfl w_834 (by decide +kernel) ok_X12_saves_133
theorem ok_X12_saves_129 : zOK l D tc A nS xs mM_X12_saves 129 q_X12_saves_129 := s_aload_n (q := 0) rfl (by decide +kernel) (by decide +kernel) ok_X12_saves_130
theorem ok_X12_saves_119 : zOK l D tc A nS xs mM_X12_saves 119 q_X12_saves_119 := s_if_eq (tgt := 129) (off := 10) (by decide +kernel) (by decide) ok_X12_saves_129 s_none
theorem ok_X12_saves_118 : zOK l D tc A nS xs mM_X12_saves 118 q_X12_saves_118 := s_iload_n (q := 1) rfl (by decide +kernel) (by decide +kernel) ok_X12_saves_119
theorem ok_X12_saves_117 : zOK l D tc A nS xs mM_X12_saves 117 q_X12_saves_117 := s_iconst (n := 0) (by decide) (by decide +kernel) (by decide +kernel) ok_X12_saves_118
theorem ok_X12_saves_114 : zOK l D tc A nS xs mM_X12_saves 114 q_X12_saves_114 := r_getf kls_12 (by decide) tx_12_70 rfl w_758 (by decide +kernel) ok_X12_saves_117
theorem ok_X12_saves_113 : zOK l D tc A nS xs mM_X12_saves 113 q_X12_saves_113 := s_aload_n (q := 0) rfl (by decide +kernel) (by decide +kernel) ok_X12_saves_114
theorem ok_X12_saves_103 : zOK l D tc A nS xs mM_X12_saves 103 q_X12_saves_103 := s_if_eq (tgt := 113) (off := 10) (by decide +kernel) (by decide) ok_X12_saves_113 s_none
theorem ok_X12_saves_102 : zOK l D tc A nS xs mM_X12_saves 102 q_X12_saves_102 := s_iload_n (q := 1) rfl (by decide +kernel) (by decide +kernel) ok_X12_saves_103
theorem ok_X12_saves_99 : zOK l D tc A nS xs mM_X12_saves 99 q_X12_saves_99 := r_callS zEE_ok zTw_gd (M2 := mM_X12_copy) lb_195 calS_X12_copy rfl rfl w_932 (by decide +kernel) ok_X12_saves_102
theorem ok_X12_saves_97 : zOK l D tc A nS xs mM_X12_saves 97 q_X12_saves_97 := s_bipush (n := 60) (by decide) (by decide +kernel) (by decide +kernel) ok_X12_saves_99
theorem ok_X12_saves_96 : zOK l D tc A nS xs mM_X12_saves 96 q_X12_saves_96 := s_iconst (n := 0) (by decide) (by decide +kernel) (by decide +kernel) ok_X12_saves_97
theorem ok_X12_saves_93 : zOK l D tc A nS xs mM_X12_saves 93 q_X12_saves_93 := r_getf kls_12 (by decide) tx_12_111 rfl w_835 (by decide +kernel) ok_X12_saves_96
theorem ok_X12_saves_92 : zOK l D tc A nS xs mM_X12_saves 92 q_X12_saves_92 := s_aload_n (q := 0) rfl (by decide +kernel) (by decide +kernel) ok_X12_saves_93
theorem ok_X12_saves_82 : zOK l D tc A nS xs mM_X12_saves 82 q_X12_saves_82 := s_if_eq (tgt := 92) (off := 10) (by decide +kernel) (by decide) ok_X12_saves_92 s_none
theorem ok_X12_saves_81 : zOK l D tc A nS xs mM_X12_saves 81 q_X12_saves_81 := s_iload_n (q := 1) rfl (by decide +kernel) (by decide +kernel) ok_X12_saves_82
theorem ok_X12_saves_80 : zOK l D tc A nS xs mM_X12_saves 80 q_X12_saves_80 := s_iconst (n := 0) (by decide) (by decide +kernel) (by decide +kernel) ok_X12_saves_81
theorem ok_X12_saves_77 : zOK l D tc A nS xs mM_X12_saves 77 q_X12_saves_77 := r_getf kls_12 (by decide) tx_12_69 rfl w_760 (by decide +kernel) ok_X12_saves_80
theorem ok_X12_saves_76 : zOK l D tc A nS xs mM_X12_saves 76 q_X12_saves_76 := s_aload_n (q := 0) rfl (by decide +kernel) (by decide +kernel) ok_X12_saves_77
theorem ok_X12_saves_66 : zOK l D tc A nS xs mM_X12_saves 66 q_X12_saves_66 := s_if_eq (tgt := 76) (off := 10) (by decide +kernel) (by decide) ok_X12_saves_76 s_none
theorem ok_X12_saves_65 : zOK l D tc A nS xs mM_X12_saves 65 q_X12_saves_65 := s_iload_n (q := 1) rfl (by decide +kernel) (by decide +kernel) ok_X12_saves_66
theorem ok_X12_saves_62 : zOK l D tc A nS xs mM_X12_saves 62 q_X12_saves_62 := s_goto (tgt := 2) (off := (-60)) (by decide +kernel) (by decide) (s_back lb_268)
theorem ok_X12_saves_59 : zOK l D tc A nS xs mM_X12_saves 59 q_X12_saves_59 := s_iinc (n := 1) (by decide +kernel) (by decide +kernel) (by decide +kernel) ok_X12_saves_62
theorem ok_X12_saves_56 : zOK l D tc A nS xs mM_X12_saves 56 q_X12_saves_56 := r_callS zEE_ok zTw_gd (M2 := mM_X12_copy) lb_195 calS_X12_copy rfl rfl w_932 (by decide +kernel) ok_X12_saves_59
theorem ok_X12_saves_53 : zOK l D tc A nS xs mM_X12_saves 53 q_X12_saves_53 := s_sipush (n := 6200) (by decide) (by decide +kernel) (by decide +kernel) ok_X12_saves_56
theorem ok_X12_saves_52 : zOK l D tc A nS xs mM_X12_saves 52 q_X12_saves_52 := s_iconst (n := 0) (by decide) (by decide +kernel) (by decide +kernel) ok_X12_saves_53
theorem ok_X12_saves_51 : zOK l D tc A nS xs mM_X12_saves 51 q_X12_saves_51 := s_aald (t0 := 2) (ty := .array .int) rfl rfl (by decide +kernel) ok_X12_saves_52
theorem ok_X12_saves_50 : zOK l D tc A nS xs mM_X12_saves 50 q_X12_saves_50 := s_iload_n (q := 2) rfl (by decide +kernel) (by decide +kernel) ok_X12_saves_51
theorem ok_X12_saves_47 : zOK l D tc A nS xs mM_X12_saves 47 q_X12_saves_47 := r_getf kls_12 (by decide) tx_12_109 rfl w_838 (by decide +kernel) ok_X12_saves_50
theorem ok_X12_saves_46 : zOK l D tc A nS xs mM_X12_saves 46 q_X12_saves_46 := s_aload_n (q := 0) rfl (by decide +kernel) (by decide +kernel) ok_X12_saves_47
theorem ok_X12_saves_43 : zOK l D tc A nS xs mM_X12_saves 43 q_X12_saves_43 := s_sipush (n := 14000) (by decide) (by decide +kernel) (by decide +kernel) ok_X12_saves_46
theorem ok_X12_saves_42 : zOK l D tc A nS xs mM_X12_saves 42 q_X12_saves_42 := s_aald (t0 := 2) (ty := .array .int) rfl rfl (by decide +kernel) ok_X12_saves_43
theorem ok_X12_saves_41 : zOK l D tc A nS xs mM_X12_saves 41 q_X12_saves_41 := s_iload_n (q := 2) rfl (by decide +kernel) (by decide +kernel) ok_X12_saves_42
theorem ok_X12_saves_38 : zOK l D tc A nS xs mM_X12_saves 38 q_X12_saves_38 := r_getf kls_12 (by decide) tx_12_110 rfl w_836 (by decide +kernel) ok_X12_saves_41
theorem ok_X12_saves_37 : zOK l D tc A nS xs mM_X12_saves 37 q_X12_saves_37 := s_aload_n (q := 0) rfl (by decide +kernel) (by decide +kernel) ok_X12_saves_38
theorem ok_X12_saves_9 : zOK l D tc A nS xs mM_X12_saves 9 q_X12_saves_9 := s_if_eq (tgt := 37) (off := 28) (by decide +kernel) (by decide) ok_X12_saves_37 s_none
theorem ok_X12_saves_8 : zOK l D tc A nS xs mM_X12_saves 8 q_X12_saves_8 := s_iload_n (q := 1) rfl (by decide +kernel) (by decide +kernel) ok_X12_saves_9
theorem ok_X12_saves_5 : zOK l D tc A nS xs mM_X12_saves 5 q_X12_saves_5 := s_icmp_ge (tgt := 65) (off := 60) (by decide +kernel) (by decide) ok_X12_saves_65 ok_X12_saves_8
theorem ok_X12_saves_3 : zOK l D tc A nS xs mM_X12_saves 3 q_X12_saves_3 := s_bipush (n := 6) (by decide) (by decide +kernel) (by decide +kernel) ok_X12_saves_5
theorem ok_X12_saves_2 : zOK l D tc A nS xs mM_X12_saves 2 q_X12_saves_2 := s_iload_n (q := 2) rfl (by decide +kernel) (by decide +kernel) ok_X12_saves_3
theorem ok_X12_saves_1 : zOK l D tc A nS xs mM_X12_saves 1 q_X12_saves_1 := s_istore_n (q := 2) rfl (by decide +kernel) (by decide +kernel) ok_X12_saves_2
theorem ok_X12_saves_0 : zOK l D tc A nS xs mM_X12_saves 0 q_X12_saves_0 := s_iconst (n := 0) (by decide) (by decide +kernel) (by decide +kernel) ok_X12_saves_1
theorem ok_X12_set_62 : zOK l D tc A nS xs mM_X12_set 62 q_X12_set_62 := s_zret rfl (by decide +kernel)
theorem ok_X12_set_61 : zOK l D tc A nS xs mM_X12_set 61 q_X12_set_61 := s_iconst (n := 1) (by decide) (by decide +kernel) (by decide +kernel) ok_X12_set_62
theorem ok_X12_set_58 : zOK l D tc A nS xs mM_X12_set 58 q_X12_set_58 := s_goto (tgt := 35) (off := (-23)) (by decide +kernel) (by decide) (s_back lb_270)
theorem ok_X12_set_55 : zOK l D tc A nS xs mM_X12_set 55 q_X12_set_55 := s_iinc (n := 1) (by decide +kernel) (by decide +kernel) (by decide +kernel) ok_X12_set_58
theorem ok_X12_set_54 : zOK l D tc A nS xs mM_X12_set 54 q_X12_set_54 := s_iast (t0 := 0) (by decide) (by decide) rfl (by decide +kernel) ok_X12_set_55
theorem ok_X12_set_53 : zOK l D tc A nS xs mM_X12_set 53 q_X12_set_53 := s_iand (by decide +kernel) ok_X12_set_54
theorem ok_X12_set_52 : zOK l D tc A nS xs mM_X12_set 52 q_X12_set_52 := s_iconst (n := 1) (by decide) (by decide +kernel) (by decide +kernel) ok_X12_set_53
theorem ok_X12_set_51 : zOK l D tc A nS xs mM_X12_set 51 q_X12_set_51 := s_ishr (by decide +kernel) ok_X12_set_52
theorem ok_X12_set_50 : zOK l D tc A nS xs mM_X12_set 50 q_X12_set_50 := s_isub (by decide +kernel) ok_X12_set_51
theorem ok_X12_set_49 : zOK l D tc A nS xs mM_X12_set 49 q_X12_set_49 := s_iload_n (q := 3) rfl (by decide +kernel) (by decide +kernel) ok_X12_set_50
theorem ok_X12_set_48 : zOK l D tc A nS xs mM_X12_set 48 q_X12_set_48 := s_iconst (n := 3) (by decide) (by decide +kernel) (by decide +kernel) ok_X12_set_49
theorem ok_X12_set_47 : zOK l D tc A nS xs mM_X12_set 47 q_X12_set_47 := s_iload_n (q := 2) rfl (by decide +kernel) (by decide +kernel) ok_X12_set_48
theorem ok_X12_set_46 : zOK l D tc A nS xs mM_X12_set 46 q_X12_set_46 := s_iload_n (q := 3) rfl (by decide +kernel) (by decide +kernel) ok_X12_set_47
theorem ok_X12_set_45 : zOK l D tc A nS xs mM_X12_set 45 q_X12_set_45 := s_aald (t0 := 2) (ty := .array .int) rfl rfl (by decide +kernel) ok_X12_set_46
theorem ok_X12_set_44 : zOK l D tc A nS xs mM_X12_set 44 q_X12_set_44 := s_iconst (n := 1) (by decide) (by decide +kernel) (by decide +kernel) ok_X12_set_45
theorem ok_X12_set_41 : zOK l D tc A nS xs mM_X12_set 41 q_X12_set_41 := r_getf kls_12 (by decide) tx_12_2 rfl w_870 (by decide +kernel) ok_X12_set_44
theorem ok_X12_set_40 : zOK l D tc A nS xs mM_X12_set 40 q_X12_set_40 := s_aload_n (q := 0) rfl (by decide +kernel) (by decide +kernel) ok_X12_set_41
theorem ok_X12_set_37 : zOK l D tc A nS xs mM_X12_set 37 q_X12_set_37 := s_icmp_ge (tgt := 61) (off := 24) (by decide +kernel) (by decide) ok_X12_set_61 ok_X12_set_40
theorem ok_X12_set_36 : zOK l D tc A nS xs mM_X12_set 36 q_X12_set_36 := s_iconst (n := 4) (by decide) (by decide +kernel) (by decide +kernel) ok_X12_set_37
theorem ok_X12_set_35 : zOK l D tc A nS xs mM_X12_set 35 q_X12_set_35 := s_iload_n (q := 3) rfl (by decide +kernel) (by decide +kernel) ok_X12_set_36
theorem ok_X12_set_34 : zOK l D tc A nS xs mM_X12_set 34 q_X12_set_34 := s_istore_n (q := 3) rfl (by decide +kernel) (by decide +kernel) ok_X12_set_35
theorem ok_X12_set_33 : zOK l D tc A nS xs mM_X12_set 33 q_X12_set_33 := s_iconst (n := 0) (by decide) (by decide +kernel) (by decide +kernel) ok_X12_set_34
theorem ok_X12_set_30 : zOK l D tc A nS xs mM_X12_set 30 q_X12_set_30 := s_goto (tgt := 61) (off := 31) (by decide +kernel) (by decide) ok_X12_set_61
theorem ok_X12_set_29 : zOK l D tc A nS xs mM_X12_set 29 q_X12_set_29 := s_iast (t0 := 0) (by decide) (by decide) rfl (by decide +kernel) ok_X12_set_30
theorem ok_X12_set_28 : zOK l D tc A nS xs mM_X12_set 28 q_X12_set_28 := s_iand (by decide +kernel) ok_X12_set_29
theorem ok_X12_set_26 : zOK l D tc A nS xs mM_X12_set 26 q_X12_set_26 := r_ldc (by decide) (x := (65535 : Int32)) (by decide +kernel) rfl w_935 (by decide +kernel) ok_X12_set_28
theorem ok_X12_set_25 : zOK l D tc A nS xs mM_X12_set 25 q_X12_set_25 := s_iload_n (q := 2) rfl (by decide +kernel) (by decide +kernel) ok_X12_set_26
theorem ok_X12_set_24 : zOK l D tc A nS xs mM_X12_set 24 q_X12_set_24 := s_iload_n (q := 1) rfl (by decide +kernel) (by decide +kernel) ok_X12_set_25
theorem ok_X12_set_23 : zOK l D tc A nS xs mM_X12_set 23 q_X12_set_23 := s_aald (t0 := 2) (ty := .array .int) rfl rfl (by decide +kernel) ok_X12_set_24
theorem ok_X12_set_22 : zOK l D tc A nS xs mM_X12_set 22 q_X12_set_22 := s_iconst (n := 1) (by decide) (by decide +kernel) (by decide +kernel) ok_X12_set_23
theorem ok_X12_set_19 : zOK l D tc A nS xs mM_X12_set 19 q_X12_set_19 := r_getf kls_12 (by decide) tx_12_1 rfl w_871 (by decide +kernel) ok_X12_set_22
theorem ok_X12_set_18 : zOK l D tc A nS xs mM_X12_set 18 q_X12_set_18 := s_aload_n (q := 0) rfl (by decide +kernel) (by decide +kernel) ok_X12_set_19
theorem ok_X12_set_15 : zOK l D tc A nS xs mM_X12_set 15 q_X12_set_15 := s_icmp_ge (tgt := 33) (off := 18) (by decide +kernel) (by decide) ok_X12_set_33 ok_X12_set_18
theorem ok_X12_set_13 : zOK l D tc A nS xs mM_X12_set 13 q_X12_set_13 := s_bipush (n := 8) (by decide) (by decide +kernel) (by decide +kernel) ok_X12_set_15
theorem ok_X12_set_12 : zOK l D tc A nS xs mM_X12_set 12 q_X12_set_12 := s_iload_n (q := 1) rfl (by decide +kernel) (by decide +kernel) ok_X12_set_13
theorem ok_X12_set_11 : zOK l D tc A nS xs mM_X12_set 11 q_X12_set_11 := s_zret rfl (by decide +kernel)
theorem ok_X12_set_10 : zOK l D tc A nS xs mM_X12_set 10 q_X12_set_10 := s_iconst (n := 0) (by decide) (by decide +kernel) (by decide +kernel) ok_X12_set_11
theorem ok_X12_set_7 : zOK l D tc A nS xs mM_X12_set 7 q_X12_set_7 := s_if_ne (tgt := 12) (off := 5) (by decide +kernel) (by decide) ok_X12_set_12 ok_X12_set_10
theorem ok_X12_set_4 : zOK l D tc A nS xs mM_X12_set 4 q_X12_set_4 := r_callS zEE_ok zTw_gd (M2 := mM_X12_in) lb_217 calS_X12_in rfl rfl w_771 (by decide +kernel) ok_X12_set_7
theorem ok_X12_set_2 : zOK l D tc A nS xs mM_X12_set 2 q_X12_set_2 := s_bipush (n := 8) (by decide) (by decide +kernel) (by decide +kernel) ok_X12_set_4
theorem ok_X12_set_1 : zOK l D tc A nS xs mM_X12_set 1 q_X12_set_1 := s_iconst (n := 0) (by decide) (by decide +kernel) (by decide +kernel) ok_X12_set_2
theorem ok_X12_set_0 : zOK l D tc A nS xs mM_X12_set 0 q_X12_set_0 := s_iload_n (q := 1) rfl (by decide +kernel) (by decide +kernel) ok_X12_set_1
end ZRows
