section ZRows
variable {l : Launch} {D : va_G} {tc : Nat → ClassId} {A : Nat → Prop} {nS : Nat} {xs : Nat → Int32}
theorem ok_X12_hasAlias_64 : zOK l D tc A nS xs mM_X12_hasAlias 64 q_X12_hasAlias_64 := s_zret rfl (by decide +kernel)
theorem ok_X12_hasAlias_63 : zOK l D tc A nS xs mM_X12_hasAlias 63 q_X12_hasAlias_63 := s_iconst (n := 0) (by decide) (by decide +kernel) (by decide +kernel) ok_X12_hasAlias_64
theorem ok_X12_hasAlias_56 : zOK l D tc A nS xs mM_X12_hasAlias 56 q_X12_hasAlias_56 := s_icmp_lt (tgt := 63) (off := 7) (by decide +kernel) (by decide) ok_X12_hasAlias_63 s_none
theorem ok_X12_hasAlias_53 : zOK l D tc A nS xs mM_X12_hasAlias 53 q_X12_hasAlias_53 := s_sipush (n := 1000) (by decide) (by decide +kernel) (by decide +kernel) ok_X12_hasAlias_56
theorem ok_X12_hasAlias_52 : zOK l D tc A nS xs mM_X12_hasAlias 52 q_X12_hasAlias_52 := s_iald (t0 := 0) (by decide) (by decide) rfl (by decide +kernel) ok_X12_hasAlias_53
theorem ok_X12_hasAlias_51 : zOK l D tc A nS xs mM_X12_hasAlias 51 q_X12_hasAlias_51 := s_iload_n (q := 2) rfl (by decide +kernel) (by decide +kernel) ok_X12_hasAlias_52
theorem ok_X12_hasAlias_48 : zOK l D tc A nS xs mM_X12_hasAlias 48 q_X12_hasAlias_48 := r_getf kls_12 (by decide) tx_12_34 rfl w_701 (by decide +kernel) ok_X12_hasAlias_51
theorem ok_X12_hasAlias_47 : zOK l D tc A nS xs mM_X12_hasAlias 47 q_X12_hasAlias_47 := s_aload_n (q := 0) rfl (by decide +kernel) (by decide +kernel) ok_X12_hasAlias_48
theorem ok_X12_hasAlias_44 : zOK l D tc A nS xs mM_X12_hasAlias 44 q_X12_hasAlias_44 := s_icmp_ne (tgt := 63) (off := 19) (by decide +kernel) (by decide) ok_X12_hasAlias_63 ok_X12_hasAlias_47
theorem ok_X12_hasAlias_43 : zOK l D tc A nS xs mM_X12_hasAlias 43 q_X12_hasAlias_43 := s_iconst (n := 4) (by decide) (by decide +kernel) (by decide +kernel) ok_X12_hasAlias_44
theorem ok_X12_hasAlias_42 : zOK l D tc A nS xs mM_X12_hasAlias 42 q_X12_hasAlias_42 := s_iald (t0 := 0) (by decide) (by decide) rfl (by decide +kernel) ok_X12_hasAlias_43
theorem ok_X12_hasAlias_41 : zOK l D tc A nS xs mM_X12_hasAlias 41 q_X12_hasAlias_41 := s_iload_n (q := 2) rfl (by decide +kernel) (by decide +kernel) ok_X12_hasAlias_42
theorem ok_X12_hasAlias_38 : zOK l D tc A nS xs mM_X12_hasAlias 38 q_X12_hasAlias_38 := r_getf kls_12 (by decide) tx_12_33 rfl w_702 (by decide +kernel) ok_X12_hasAlias_41
theorem ok_X12_hasAlias_37 : zOK l D tc A nS xs mM_X12_hasAlias 37 q_X12_hasAlias_37 := s_aload_n (q := 0) rfl (by decide +kernel) (by decide +kernel) ok_X12_hasAlias_38
theorem ok_X12_hasAlias_34 : zOK l D tc A nS xs mM_X12_hasAlias 34 q_X12_hasAlias_34 := s_goto (tgt := 2) (off := (-32)) (by decide +kernel) (by decide) (s_back lb_213)
theorem ok_X12_hasAlias_33 : zOK l D tc A nS xs mM_X12_hasAlias 33 q_X12_hasAlias_33 := s_istore_n (q := 2) rfl (by decide +kernel) (by decide +kernel) ok_X12_hasAlias_34
theorem ok_X12_hasAlias_32 : zOK l D tc A nS xs mM_X12_hasAlias 32 q_X12_hasAlias_32 := s_iald (t0 := 0) (by decide) (by decide) rfl (by decide +kernel) ok_X12_hasAlias_33
theorem ok_X12_hasAlias_31 : zOK l D tc A nS xs mM_X12_hasAlias 31 q_X12_hasAlias_31 := s_iload_n (q := 2) rfl (by decide +kernel) (by decide +kernel) ok_X12_hasAlias_32
theorem ok_X12_hasAlias_28 : zOK l D tc A nS xs mM_X12_hasAlias 28 q_X12_hasAlias_28 := r_getf kls_12 (by decide) tx_12_35 rfl w_687 (by decide +kernel) ok_X12_hasAlias_31
theorem ok_X12_hasAlias_27 : zOK l D tc A nS xs mM_X12_hasAlias 27 q_X12_hasAlias_27 := s_aload_n (q := 0) rfl (by decide +kernel) (by decide +kernel) ok_X12_hasAlias_28
theorem ok_X12_hasAlias_22 : zOK l D tc A nS xs mM_X12_hasAlias 22 q_X12_hasAlias_22 := s_if_eq (tgt := 27) (off := 5) (by decide +kernel) (by decide) ok_X12_hasAlias_27 s_none
theorem ok_X12_hasAlias_19 : zOK l D tc A nS xs mM_X12_hasAlias 19 q_X12_hasAlias_19 := r_callV zEE_ok zTw_gd kls_12 (M2 := mM_X12_hasAlias) (na := 1) lb_212 calV_X12_hasAlias rfl rfl w_767 (by decide +kernel) ok_X12_hasAlias_22
theorem ok_X12_hasAlias_18 : zOK l D tc A nS xs mM_X12_hasAlias 18 q_X12_hasAlias_18 := s_iald (t0 := 0) (by decide) (by decide) rfl (by decide +kernel) ok_X12_hasAlias_19
theorem ok_X12_hasAlias_17 : zOK l D tc A nS xs mM_X12_hasAlias 17 q_X12_hasAlias_17 := s_iload_n (q := 2) rfl (by decide +kernel) (by decide +kernel) ok_X12_hasAlias_18
theorem ok_X12_hasAlias_14 : zOK l D tc A nS xs mM_X12_hasAlias 14 q_X12_hasAlias_14 := r_getf kls_12 (by decide) tx_12_34 rfl w_701 (by decide +kernel) ok_X12_hasAlias_17
theorem ok_X12_hasAlias_13 : zOK l D tc A nS xs mM_X12_hasAlias 13 q_X12_hasAlias_13 := s_aload_n (q := 0) rfl (by decide +kernel) (by decide +kernel) ok_X12_hasAlias_14
theorem ok_X12_hasAlias_12 : zOK l D tc A nS xs mM_X12_hasAlias 12 q_X12_hasAlias_12 := s_aload_n (q := 0) rfl (by decide +kernel) (by decide +kernel) ok_X12_hasAlias_13
theorem ok_X12_hasAlias_9 : zOK l D tc A nS xs mM_X12_hasAlias 9 q_X12_hasAlias_9 := s_icmp_ne (tgt := 37) (off := 28) (by decide +kernel) (by decide) ok_X12_hasAlias_37 ok_X12_hasAlias_12
theorem ok_X12_hasAlias_8 : zOK l D tc A nS xs mM_X12_hasAlias 8 q_X12_hasAlias_8 := s_iconst (n := 5) (by decide) (by decide +kernel) (by decide +kernel) ok_X12_hasAlias_9
theorem ok_X12_hasAlias_7 : zOK l D tc A nS xs mM_X12_hasAlias 7 q_X12_hasAlias_7 := s_iald (t0 := 0) (by decide) (by decide) rfl (by decide +kernel) ok_X12_hasAlias_8
theorem ok_X12_hasAlias_6 : zOK l D tc A nS xs mM_X12_hasAlias 6 q_X12_hasAlias_6 := s_iload_n (q := 2) rfl (by decide +kernel) (by decide +kernel) ok_X12_hasAlias_7
theorem ok_X12_hasAlias_3 : zOK l D tc A nS xs mM_X12_hasAlias 3 q_X12_hasAlias_3 := r_getf kls_12 (by decide) tx_12_33 rfl w_702 (by decide +kernel) ok_X12_hasAlias_6
theorem ok_X12_hasAlias_2 : zOK l D tc A nS xs mM_X12_hasAlias 2 q_X12_hasAlias_2 := s_aload_n (q := 0) rfl (by decide +kernel) (by decide +kernel) ok_X12_hasAlias_3
theorem ok_X12_hasAlias_1 : zOK l D tc A nS xs mM_X12_hasAlias 1 q_X12_hasAlias_1 := s_istore_n (q := 2) rfl (by decide +kernel) (by decide +kernel) ok_X12_hasAlias_2
theorem ok_X12_hasAlias_0 : zOK l D tc A nS xs mM_X12_hasAlias 0 q_X12_hasAlias_0 := s_iload_n (q := 1) rfl (by decide +kernel) (by decide +kernel) ok_X12_hasAlias_1
theorem ok_X12_hasDeeper_84 : zOK l D tc A nS xs mM_X12_hasDeeper 84 q_X12_hasDeeper_84 := s_zret rfl (by decide +kernel)
theorem ok_X12_hasDeeper_83 : zOK l D tc A nS xs mM_X12_hasDeeper 83 q_X12_hasDeeper_83 := s_iconst (n := 0) (by decide) (by decide +kernel) (by decide +kernel) ok_X12_hasDeeper_84
theorem ok_X12_hasDeeper_80 : zOK l D tc A nS xs mM_X12_hasDeeper 80 q_X12_hasDeeper_80 := s_goto (tgt := 84) (off := 4) (by decide +kernel) (by decide) ok_X12_hasDeeper_84
theorem ok_X12_hasDeeper_79 : zOK l D tc A nS xs mM_X12_hasDeeper 79 q_X12_hasDeeper_79 := s_iconst (n := 1) (by decide) (by decide +kernel) (by decide +kernel) ok_X12_hasDeeper_80
theorem ok_X12_hasDeeper_76 : zOK l D tc A nS xs mM_X12_hasDeeper 76 q_X12_hasDeeper_76 := s_icmp_le (tgt := 83) (off := 7) (by decide +kernel) (by decide) ok_X12_hasDeeper_83 ok_X12_hasDeeper_79
theorem ok_X12_hasDeeper_75 : zOK l D tc A nS xs mM_X12_hasDeeper 75 q_X12_hasDeeper_75 := s_iload_n (q := 2) rfl (by decide +kernel) (by decide +kernel) ok_X12_hasDeeper_76
theorem ok_X12_hasDeeper_74 : zOK l D tc A nS xs mM_X12_hasDeeper 74 q_X12_hasDeeper_74 := s_iald (t0 := 0) (by decide) (by decide) rfl (by decide +kernel) ok_X12_hasDeeper_75
theorem ok_X12_hasDeeper_72 : zOK l D tc A nS xs mM_X12_hasDeeper 72 q_X12_hasDeeper_72 := s_iload (by decide +kernel) (by decide +kernel) ok_X12_hasDeeper_74
theorem ok_X12_hasDeeper_69 : zOK l D tc A nS xs mM_X12_hasDeeper 69 q_X12_hasDeeper_69 := r_getf kls_12 (by decide) tx_12_75 rfl w_804 (by decide +kernel) ok_X12_hasDeeper_72
theorem ok_X12_hasDeeper_68 : zOK l D tc A nS xs mM_X12_hasDeeper 68 q_X12_hasDeeper_68 := s_aload_n (q := 0) rfl (by decide +kernel) (by decide +kernel) ok_X12_hasDeeper_69
theorem ok_X12_hasDeeper_65 : zOK l D tc A nS xs mM_X12_hasDeeper 65 q_X12_hasDeeper_65 := s_icmp_eq (tgt := 83) (off := 18) (by decide +kernel) (by decide) ok_X12_hasDeeper_83 ok_X12_hasDeeper_68
theorem ok_X12_hasDeeper_64 : zOK l D tc A nS xs mM_X12_hasDeeper 64 q_X12_hasDeeper_64 := s_iconst (n := (-1)) (by decide) (by decide +kernel) (by decide +kernel) ok_X12_hasDeeper_65
theorem ok_X12_hasDeeper_62 : zOK l D tc A nS xs mM_X12_hasDeeper 62 q_X12_hasDeeper_62 := s_iload (by decide +kernel) (by decide +kernel) ok_X12_hasDeeper_64
theorem ok_X12_hasDeeper_60 : zOK l D tc A nS xs mM_X12_hasDeeper 60 q_X12_hasDeeper_60 := s_istore (by decide +kernel) (by decide +kernel) ok_X12_hasDeeper_62
theorem ok_X12_hasDeeper_56 : zOK l D tc A nS xs mM_X12_hasDeeper 56 q_X12_hasDeeper_56 := s_goto (tgt := 60) (off := 4) (by decide +kernel) (by decide) ok_X12_hasDeeper_60
theorem ok_X12_hasDeeper_53 : zOK l D tc A nS xs mM_X12_hasDeeper 53 q_X12_hasDeeper_53 := r_callV zEE_ok zTw_gd kls_12 (M2 := mM_X12_variableOf) (na := 1) lb_291 calV_X12_variableOf rfl rfl w_806 (by decide +kernel) ok_X12_hasDeeper_56
theorem ok_X12_hasDeeper_52 : zOK l D tc A nS xs mM_X12_hasDeeper 52 q_X12_hasDeeper_52 := s_iald (t0 := 0) (by decide) (by decide) rfl (by decide +kernel) ok_X12_hasDeeper_53
theorem ok_X12_hasDeeper_51 : zOK l D tc A nS xs mM_X12_hasDeeper 51 q_X12_hasDeeper_51 := s_iload_n (q := 3) rfl (by decide +kernel) (by decide +kernel) ok_X12_hasDeeper_52
theorem ok_X12_hasDeeper_48 : zOK l D tc A nS xs mM_X12_hasDeeper 48 q_X12_hasDeeper_48 := r_getf kls_12 (by decide) tx_12_34 rfl w_701 (by decide +kernel) ok_X12_hasDeeper_51
theorem ok_X12_hasDeeper_47 : zOK l D tc A nS xs mM_X12_hasDeeper 47 q_X12_hasDeeper_47 := s_aload_n (q := 0) rfl (by decide +kernel) (by decide +kernel) ok_X12_hasDeeper_48
theorem ok_X12_hasDeeper_46 : zOK l D tc A nS xs mM_X12_hasDeeper 46 q_X12_hasDeeper_46 := s_aload_n (q := 0) rfl (by decide +kernel) (by decide +kernel) ok_X12_hasDeeper_47
theorem ok_X12_hasDeeper_43 : zOK l D tc A nS xs mM_X12_hasDeeper 43 q_X12_hasDeeper_43 := s_if_eq (tgt := 59) (off := 16) (by decide +kernel) (by decide) s_none ok_X12_hasDeeper_46
theorem ok_X12_hasDeeper_40 : zOK l D tc A nS xs mM_X12_hasDeeper 40 q_X12_hasDeeper_40 := r_callV zEE_ok zTw_gd kls_12 (M2 := mM_X12_isName) (na := 1) lb_225 calV_X12_isName rfl rfl w_698 (by decide +kernel) ok_X12_hasDeeper_43
theorem ok_X12_hasDeeper_39 : zOK l D tc A nS xs mM_X12_hasDeeper 39 q_X12_hasDeeper_39 := s_iload_n (q := 3) rfl (by decide +kernel) (by decide +kernel) ok_X12_hasDeeper_40
theorem ok_X12_hasDeeper_38 : zOK l D tc A nS xs mM_X12_hasDeeper 38 q_X12_hasDeeper_38 := s_aload_n (q := 0) rfl (by decide +kernel) (by decide +kernel) ok_X12_hasDeeper_39
theorem ok_X12_hasDeeper_35 : zOK l D tc A nS xs mM_X12_hasDeeper 35 q_X12_hasDeeper_35 := s_goto (tgt := 2) (off := (-33)) (by decide +kernel) (by decide) (s_back lb_215)
theorem ok_X12_hasDeeper_34 : zOK l D tc A nS xs mM_X12_hasDeeper 34 q_X12_hasDeeper_34 := s_istore_n (q := 3) rfl (by decide +kernel) (by decide +kernel) ok_X12_hasDeeper_35
theorem ok_X12_hasDeeper_33 : zOK l D tc A nS xs mM_X12_hasDeeper 33 q_X12_hasDeeper_33 := s_iald (t0 := 0) (by decide) (by decide) rfl (by decide +kernel) ok_X12_hasDeeper_34
theorem ok_X12_hasDeeper_32 : zOK l D tc A nS xs mM_X12_hasDeeper 32 q_X12_hasDeeper_32 := s_iload_n (q := 3) rfl (by decide +kernel) (by decide +kernel) ok_X12_hasDeeper_33
theorem ok_X12_hasDeeper_29 : zOK l D tc A nS xs mM_X12_hasDeeper 29 q_X12_hasDeeper_29 := r_getf kls_12 (by decide) tx_12_35 rfl w_687 (by decide +kernel) ok_X12_hasDeeper_32
theorem ok_X12_hasDeeper_28 : zOK l D tc A nS xs mM_X12_hasDeeper 28 q_X12_hasDeeper_28 := s_aload_n (q := 0) rfl (by decide +kernel) (by decide +kernel) ok_X12_hasDeeper_29
theorem ok_X12_hasDeeper_27 : zOK l D tc A nS xs mM_X12_hasDeeper 27 q_X12_hasDeeper_27 := s_zret rfl (by decide +kernel)
theorem ok_X12_hasDeeper_26 : zOK l D tc A nS xs mM_X12_hasDeeper 26 q_X12_hasDeeper_26 := s_iconst (n := 1) (by decide) (by decide +kernel) (by decide +kernel) ok_X12_hasDeeper_27
theorem ok_X12_hasDeeper_23 : zOK l D tc A nS xs mM_X12_hasDeeper 23 q_X12_hasDeeper_23 := s_if_eq (tgt := 28) (off := 5) (by decide +kernel) (by decide) ok_X12_hasDeeper_28 ok_X12_hasDeeper_26
theorem ok_X12_hasDeeper_20 : zOK l D tc A nS xs mM_X12_hasDeeper 20 q_X12_hasDeeper_20 := r_callV zEE_ok zTw_gd kls_12 (M2 := mM_X12_hasDeeper) (na := 2) lb_214 calV_X12_hasDeeper rfl rfl w_823 (by decide +kernel) ok_X12_hasDeeper_23
theorem ok_X12_hasDeeper_19 : zOK l D tc A nS xs mM_X12_hasDeeper 19 q_X12_hasDeeper_19 := s_iload_n (q := 2) rfl (by decide +kernel) (by decide +kernel) ok_X12_hasDeeper_20
theorem ok_X12_hasDeeper_18 : zOK l D tc A nS xs mM_X12_hasDeeper 18 q_X12_hasDeeper_18 := s_iald (t0 := 0) (by decide) (by decide) rfl (by decide +kernel) ok_X12_hasDeeper_19
theorem ok_X12_hasDeeper_17 : zOK l D tc A nS xs mM_X12_hasDeeper 17 q_X12_hasDeeper_17 := s_iload_n (q := 3) rfl (by decide +kernel) (by decide +kernel) ok_X12_hasDeeper_18
theorem ok_X12_hasDeeper_14 : zOK l D tc A nS xs mM_X12_hasDeeper 14 q_X12_hasDeeper_14 := r_getf kls_12 (by decide) tx_12_34 rfl w_701 (by decide +kernel) ok_X12_hasDeeper_17
theorem ok_X12_hasDeeper_13 : zOK l D tc A nS xs mM_X12_hasDeeper 13 q_X12_hasDeeper_13 := s_aload_n (q := 0) rfl (by decide +kernel) (by decide +kernel) ok_X12_hasDeeper_14
theorem ok_X12_hasDeeper_12 : zOK l D tc A nS xs mM_X12_hasDeeper 12 q_X12_hasDeeper_12 := s_aload_n (q := 0) rfl (by decide +kernel) (by decide +kernel) ok_X12_hasDeeper_13
theorem ok_X12_hasDeeper_9 : zOK l D tc A nS xs mM_X12_hasDeeper 9 q_X12_hasDeeper_9 := s_icmp_ne (tgt := 38) (off := 29) (by decide +kernel) (by decide) ok_X12_hasDeeper_38 ok_X12_hasDeeper_12
theorem ok_X12_hasDeeper_8 : zOK l D tc A nS xs mM_X12_hasDeeper 8 q_X12_hasDeeper_8 := s_iconst (n := 5) (by decide) (by decide +kernel) (by decide +kernel) ok_X12_hasDeeper_9
theorem ok_X12_hasDeeper_7 : zOK l D tc A nS xs mM_X12_hasDeeper 7 q_X12_hasDeeper_7 := s_iald (t0 := 0) (by decide) (by decide) rfl (by decide +kernel) ok_X12_hasDeeper_8
theorem ok_X12_hasDeeper_6 : zOK l D tc A nS xs mM_X12_hasDeeper 6 q_X12_hasDeeper_6 := s_iload_n (q := 3) rfl (by decide +kernel) (by decide +kernel) ok_X12_hasDeeper_7
theorem ok_X12_hasDeeper_3 : zOK l D tc A nS xs mM_X12_hasDeeper 3 q_X12_hasDeeper_3 := r_getf kls_12 (by decide) tx_12_33 rfl w_702 (by decide +kernel) ok_X12_hasDeeper_6
theorem ok_X12_hasDeeper_2 : zOK l D tc A nS xs mM_X12_hasDeeper 2 q_X12_hasDeeper_2 := s_aload_n (q := 0) rfl (by decide +kernel) (by decide +kernel) ok_X12_hasDeeper_3
theorem ok_X12_hasDeeper_1 : zOK l D tc A nS xs mM_X12_hasDeeper 1 q_X12_hasDeeper_1 := s_istore_n (q := 3) rfl (by decide +kernel) (by decide +kernel) ok_X12_hasDeeper_2
theorem ok_X12_hasDeeper_0 : zOK l D tc A nS xs mM_X12_hasDeeper 0 q_X12_hasDeeper_0 := s_iload_n (q := 1) rfl (by decide +kernel) (by decide +kernel) ok_X12_hasDeeper_1
theorem ok_X12_held_19 : zOK l D tc A nS xs mM_X12_held 19 q_X12_held_19 := s_iret rfl (by decide +kernel)
theorem ok_X12_held_16 : zOK l D tc A nS xs mM_X12_held 16 q_X12_held_16 := r_callV zEE_ok zTw_gd kls_12 (M2 := mM_X12_told) (na := 2) lb_289 calV_X12_told rfl rfl w_826 (by decide +kernel) ok_X12_held_19
theorem ok_X12_held_15 : zOK l D tc A nS xs mM_X12_held 15 q_X12_held_15 := s_iload_n (q := 1) rfl (by decide +kernel) (by decide +kernel) ok_X12_held_16
theorem ok_X12_held_14 : zOK l D tc A nS xs mM_X12_held 14 q_X12_held_14 := s_iconst (n := 1) (by decide) (by decide +kernel) (by decide +kernel) ok_X12_held_15
theorem ok_X12_held_13 : zOK l D tc A nS xs mM_X12_held 13 q_X12_held_13 := s_aload_n (q := 0) rfl (by decide +kernel) (by decide +kernel) ok_X12_held_14
theorem ok_X12_held_10 : zOK l D tc A nS xs mM_X12_held 10 q_X12_held_10 := s_goto (tgt := 19) (off := 9) (by decide +kernel) (by decide) ok_X12_held_19
theorem ok_X12_held_7 : zOK l D tc A nS xs mM_X12_held 7 q_X12_held_7 := r_getf kls_12 (by decide) tx_12_8 rfl w_818 (by decide +kernel) ok_X12_held_10
theorem ok_X12_held_6 : zOK l D tc A nS xs mM_X12_held 6 q_X12_held_6 := s_aload_n (q := 0) rfl (by decide +kernel) (by decide +kernel) ok_X12_held_7
theorem ok_X12_held_3 : zOK l D tc A nS xs mM_X12_held 3 q_X12_held_3 := s_icmp_ne (tgt := 13) (off := 10) (by decide +kernel) (by decide) ok_X12_held_13 ok_X12_held_6
theorem ok_X12_held_1 : zOK l D tc A nS xs mM_X12_held 1 q_X12_held_1 := s_bipush (n := 9) (by decide) (by decide +kernel) (by decide +kernel) ok_X12_held_3
theorem ok_X12_held_0 : zOK l D tc A nS xs mM_X12_held 0 q_X12_held_0 := s_iload_n (q := 1) rfl (by decide +kernel) (by decide +kernel) ok_X12_held_1
theorem ok_X12_in_15 : zOK l D tc A nS xs mM_X12_in 15 q_X12_in_15 := s_zret rfl (by decide +kernel)
theorem ok_X12_in_14 : zOK l D tc A nS xs mM_X12_in 14 q_X12_in_14 := s_iconst (n := 0) (by decide) (by decide +kernel) (by decide +kernel) ok_X12_in_15
theorem ok_X12_in_11 : zOK l D tc A nS xs mM_X12_in 11 q_X12_in_11 := s_goto (tgt := 15) (off := 4) (by decide +kernel) (by decide) ok_X12_in_15
theorem ok_X12_in_10 : zOK l D tc A nS xs mM_X12_in 10 q_X12_in_10 := s_iconst (n := 1) (by decide) (by decide +kernel) (by decide +kernel) ok_X12_in_11
theorem ok_X12_in_7 : zOK l D tc A nS xs mM_X12_in 7 q_X12_in_7 := s_icmp_gt (tgt := 14) (off := 7) (by decide +kernel) (by decide) ok_X12_in_14 ok_X12_in_10
theorem ok_X12_in_6 : zOK l D tc A nS xs mM_X12_in 6 q_X12_in_6 := s_iload_n (q := 2) rfl (by decide +kernel) (by decide +kernel) ok_X12_in_7
theorem ok_X12_in_5 : zOK l D tc A nS xs mM_X12_in 5 q_X12_in_5 := s_iload_n (q := 0) rfl (by decide +kernel) (by decide +kernel) ok_X12_in_6
theorem ok_X12_in_2 : zOK l D tc A nS xs mM_X12_in 2 q_X12_in_2 := s_icmp_lt (tgt := 14) (off := 12) (by decide +kernel) (by decide) ok_X12_in_14 ok_X12_in_5
theorem ok_X12_in_1 : zOK l D tc A nS xs mM_X12_in 1 q_X12_in_1 := s_iload_n (q := 1) rfl (by decide +kernel) (by decide +kernel) ok_X12_in_2
theorem ok_X12_in_0 : zOK l D tc A nS xs mM_X12_in 0 q_X12_in_0 := s_iload_n (q := 0) rfl (by decide +kernel) (by decide +kernel) ok_X12_in_1
theorem ok_X12_init_560 : zOK l D tc A nS xs mM_X12_init 560 q_X12_init_560 := s_vret rfl (by decide +kernel)
theorem ok_X12_init_557 : zOK l D tc A nS xs mM_X12_init 557 q_X12_init_557 := r_callV zEE_ok zTw_gd kls_12 (M2 := mM_X12_reset) (na := 0) lb_258 calV_X12_reset rfl rfl w_829 (by decide +kernel) ok_X12_init_560
theorem ok_X12_init_556 : zOK l D tc A nS xs mM_X12_init 556 q_X12_init_556 := s_aload_n (q := 0) rfl (by decide +kernel) (by decide +kernel) ok_X12_init_557
theorem ok_X12_init_553 : zOK l D tc A nS xs mM_X12_init 553 q_X12_init_553 := r_putF kls_12 ty_12_113 (zck_arr _) (by decide) tx_12_113 rfl rfl rfl w_833 (by decide +kernel) ok_X12_init_556
theorem ok_X12_init_551 : zOK l D tc A nS xs mM_X12_init 551 q_X12_init_551 := r_newa (t0 := 0) (atype := .int) (ty := .int) rfl (by decide) rfl rfl z_RA_int rfl (by decide) w_109 (by decide +kernel) ok_X12_init_553
theorem ok_X12_init_548 : zOK l D tc A nS xs mM_X12_init 548 q_X12_init_548 := s_sipush (n := 1000) (by decide) (by decide +kernel) (by decide +kernel) ok_X12_init_551
theorem ok_X12_init_547 : zOK l D tc A nS xs mM_X12_init 547 q_X12_init_547 := s_aload_n (q := 0) rfl (by decide +kernel) (by decide +kernel) ok_X12_init_548
theorem ok_X12_init_544 : zOK l D tc A nS xs mM_X12_init 544 q_X12_init_544 := r_putF kls_12 ty_12_112 (zck_arr _) (by decide) tx_12_112 rfl rfl rfl w_834 (by decide +kernel) ok_X12_init_547
theorem ok_X12_init_542 : zOK l D tc A nS xs mM_X12_init 542 q_X12_init_542 := r_newa (t0 := 0) (atype := .int) (ty := .int) rfl (by decide) rfl rfl z_RA_int rfl (by decide) w_109 (by decide +kernel) ok_X12_init_544
theorem ok_X12_init_540 : zOK l D tc A nS xs mM_X12_init 540 q_X12_init_540 := s_bipush (n := 60) (by decide) (by decide +kernel) (by decide +kernel) ok_X12_init_542
theorem ok_X12_init_539 : zOK l D tc A nS xs mM_X12_init 539 q_X12_init_539 := s_aload_n (q := 0) rfl (by decide +kernel) (by decide +kernel) ok_X12_init_540
theorem ok_X12_init_536 : zOK l D tc A nS xs mM_X12_init 536 q_X12_init_536 := r_putF kls_12 ty_12_111 (zck_arr _) (by decide) tx_12_111 rfl rfl rfl w_835 (by decide +kernel) ok_X12_init_539
theorem ok_X12_init_534 : zOK l D tc A nS xs mM_X12_init 534 q_X12_init_534 := r_newa (t0 := 0) (atype := .int) (ty := .int) rfl (by decide) rfl rfl z_RA_int rfl (by decide) w_109 (by decide +kernel) ok_X12_init_536
theorem ok_X12_init_532 : zOK l D tc A nS xs mM_X12_init 532 q_X12_init_532 := s_bipush (n := 60) (by decide) (by decide +kernel) (by decide +kernel) ok_X12_init_534
theorem ok_X12_init_531 : zOK l D tc A nS xs mM_X12_init 531 q_X12_init_531 := s_aload_n (q := 0) rfl (by decide +kernel) (by decide +kernel) ok_X12_init_532
theorem ok_X12_init_528 : zOK l D tc A nS xs mM_X12_init 528 q_X12_init_528 := r_putF kls_12 ty_12_110 (zck_arr _) (by decide) tx_12_110 rfl rfl rfl w_836 (by decide +kernel) ok_X12_init_531
theorem ok_X12_init_527 : zOK l D tc A nS xs mM_X12_init 527 q_X12_init_527 := s_aast (fun U f h => h.2.2.2.2.2.2.1) (by decide +kernel) ok_X12_init_528
theorem ok_X12_init_524 : zOK l D tc A nS xs mM_X12_init 524 q_X12_init_524 := r_getf kls_12 (by decide) tx_12_38 rfl w_715 (by decide +kernel) ok_X12_init_527
theorem ok_X12_init_523 : zOK l D tc A nS xs mM_X12_init 523 q_X12_init_523 := s_aload_n (q := 0) rfl (by decide +kernel) (by decide +kernel) ok_X12_init_524
theorem ok_X12_init_522 : zOK l D tc A nS xs mM_X12_init 522 q_X12_init_522 := s_iconst (n := 5) (by decide) (by decide +kernel) (by decide +kernel) ok_X12_init_523
theorem ok_X12_init_521 : zOK l D tc A nS xs mM_X12_init 521 q_X12_init_521 := s_dup (by decide +kernel) ok_X12_init_522
theorem ok_X12_init_520 : zOK l D tc A nS xs mM_X12_init 520 q_X12_init_520 := s_aast (fun U f h => h.2.2.2.2.2.2.1) (by decide +kernel) ok_X12_init_521
theorem ok_X12_init_517 : zOK l D tc A nS xs mM_X12_init 517 q_X12_init_517 := r_getf kls_12 (by decide) tx_12_37 rfl w_716 (by decide +kernel) ok_X12_init_520
theorem ok_X12_init_516 : zOK l D tc A nS xs mM_X12_init 516 q_X12_init_516 := s_aload_n (q := 0) rfl (by decide +kernel) (by decide +kernel) ok_X12_init_517
theorem ok_X12_init_515 : zOK l D tc A nS xs mM_X12_init 515 q_X12_init_515 := s_iconst (n := 4) (by decide) (by decide +kernel) (by decide +kernel) ok_X12_init_516
theorem ok_X12_init_514 : zOK l D tc A nS xs mM_X12_init 514 q_X12_init_514 := s_dup (by decide +kernel) ok_X12_init_515
theorem ok_X12_init_513 : zOK l D tc A nS xs mM_X12_init 513 q_X12_init_513 := s_aast (fun U f h => h.2.2.2.2.2.2.1) (by decide +kernel) ok_X12_init_514
theorem ok_X12_init_510 : zOK l D tc A nS xs mM_X12_init 510 q_X12_init_510 := r_getf kls_12 (by decide) tx_12_36 rfl w_717 (by decide +kernel) ok_X12_init_513
theorem ok_X12_init_509 : zOK l D tc A nS xs mM_X12_init 509 q_X12_init_509 := s_aload_n (q := 0) rfl (by decide +kernel) (by decide +kernel) ok_X12_init_510
theorem ok_X12_init_508 : zOK l D tc A nS xs mM_X12_init 508 q_X12_init_508 := s_iconst (n := 3) (by decide) (by decide +kernel) (by decide +kernel) ok_X12_init_509
theorem ok_X12_init_507 : zOK l D tc A nS xs mM_X12_init 507 q_X12_init_507 := s_dup (by decide +kernel) ok_X12_init_508
theorem ok_X12_init_506 : zOK l D tc A nS xs mM_X12_init 506 q_X12_init_506 := s_aast (fun U f h => h.2.2.2.2.2.2.1) (by decide +kernel) ok_X12_init_507
theorem ok_X12_init_503 : zOK l D tc A nS xs mM_X12_init 503 q_X12_init_503 := r_getf kls_12 (by decide) tx_12_35 rfl w_687 (by decide +kernel) ok_X12_init_506
theorem ok_X12_init_502 : zOK l D tc A nS xs mM_X12_init 502 q_X12_init_502 := s_aload_n (q := 0) rfl (by decide +kernel) (by decide +kernel) ok_X12_init_503
theorem ok_X12_init_501 : zOK l D tc A nS xs mM_X12_init 501 q_X12_init_501 := s_iconst (n := 2) (by decide) (by decide +kernel) (by decide +kernel) ok_X12_init_502
theorem ok_X12_init_500 : zOK l D tc A nS xs mM_X12_init 500 q_X12_init_500 := s_dup (by decide +kernel) ok_X12_init_501
theorem ok_X12_init_499 : zOK l D tc A nS xs mM_X12_init 499 q_X12_init_499 := s_aast (fun U f h => h.2.2.2.2.2.2.1) (by decide +kernel) ok_X12_init_500
theorem ok_X12_init_496 : zOK l D tc A nS xs mM_X12_init 496 q_X12_init_496 := r_getf kls_12 (by decide) tx_12_34 rfl w_701 (by decide +kernel) ok_X12_init_499
theorem ok_X12_init_495 : zOK l D tc A nS xs mM_X12_init 495 q_X12_init_495 := s_aload_n (q := 0) rfl (by decide +kernel) (by decide +kernel) ok_X12_init_496
theorem ok_X12_init_494 : zOK l D tc A nS xs mM_X12_init 494 q_X12_init_494 := s_iconst (n := 1) (by decide) (by decide +kernel) (by decide +kernel) ok_X12_init_495
theorem ok_X12_init_493 : zOK l D tc A nS xs mM_X12_init 493 q_X12_init_493 := s_dup (by decide +kernel) ok_X12_init_494
theorem ok_X12_init_492 : zOK l D tc A nS xs mM_X12_init 492 q_X12_init_492 := s_aast (fun U f h => h.2.2.2.2.2.2.1) (by decide +kernel) ok_X12_init_493
theorem ok_X12_init_489 : zOK l D tc A nS xs mM_X12_init 489 q_X12_init_489 := r_getf kls_12 (by decide) tx_12_33 rfl w_702 (by decide +kernel) ok_X12_init_492
theorem ok_X12_init_488 : zOK l D tc A nS xs mM_X12_init 488 q_X12_init_488 := s_aload_n (q := 0) rfl (by decide +kernel) (by decide +kernel) ok_X12_init_489
theorem ok_X12_init_487 : zOK l D tc A nS xs mM_X12_init 487 q_X12_init_487 := s_iconst (n := 0) (by decide) (by decide +kernel) (by decide +kernel) ok_X12_init_488
theorem ok_X12_init_486 : zOK l D tc A nS xs mM_X12_init 486 q_X12_init_486 := s_dup (by decide +kernel) ok_X12_init_487
theorem ok_X12_init_483 : zOK l D tc A nS xs mM_X12_init 483 q_X12_init_483 := r_anew (t0 := 2) rfl rfl (by decide) (by decide +kernel) (fun U f h => h.2.2.2.2.2.1) rfl rfl w_837 (by decide +kernel) ok_X12_init_486
theorem ok_X12_init_481 : zOK l D tc A nS xs mM_X12_init 481 q_X12_init_481 := s_bipush (n := 6) (by decide) (by decide +kernel) (by decide +kernel) ok_X12_init_483
theorem ok_X12_init_480 : zOK l D tc A nS xs mM_X12_init 480 q_X12_init_480 := s_aload_n (q := 0) rfl (by decide +kernel) (by decide +kernel) ok_X12_init_481
theorem ok_X12_init_477 : zOK l D tc A nS xs mM_X12_init 477 q_X12_init_477 := r_putF kls_12 ty_12_109 (zck_arr _) (by decide) tx_12_109 rfl rfl rfl w_838 (by decide +kernel) ok_X12_init_480
theorem ok_X12_init_473 : zOK l D tc A nS xs mM_X12_init 473 q_X12_init_473 := r_mnew (t0 := 2) (t1 := 0) rfl (by decide) (fun U f h => h.2.2.2.2.2.1) w_109 rfl rfl rfl w_839 (by decide +kernel) ok_X12_init_477
theorem ok_X12_init_470 : zOK l D tc A nS xs mM_X12_init 470 q_X12_init_470 := s_sipush (n := 6200) (by decide) (by decide +kernel) (by decide +kernel) ok_X12_init_473
theorem ok_X12_init_468 : zOK l D tc A nS xs mM_X12_init 468 q_X12_init_468 := s_bipush (n := 6) (by decide) (by decide +kernel) (by decide +kernel) ok_X12_init_470
theorem ok_X12_init_467 : zOK l D tc A nS xs mM_X12_init 467 q_X12_init_467 := s_aload_n (q := 0) rfl (by decide +kernel) (by decide +kernel) ok_X12_init_468
theorem ok_X12_init_464 : zOK l D tc A nS xs mM_X12_init 464 q_X12_init_464 := r_putF kls_12 ty_12_105 (zck_arr _) (by decide) tx_12_105 rfl rfl rfl w_791 (by decide +kernel) ok_X12_init_467
theorem ok_X12_init_462 : zOK l D tc A nS xs mM_X12_init 462 q_X12_init_462 := r_newa (t0 := 0) (atype := .int) (ty := .int) rfl (by decide) rfl rfl z_RA_int rfl (by decide) w_109 (by decide +kernel) ok_X12_init_464
theorem ok_X12_init_460 : zOK l D tc A nS xs mM_X12_init 460 q_X12_init_460 := s_bipush (n := 41) (by decide) (by decide +kernel) (by decide +kernel) ok_X12_init_462
theorem ok_X12_init_459 : zOK l D tc A nS xs mM_X12_init 459 q_X12_init_459 := s_aload_n (q := 0) rfl (by decide +kernel) (by decide +kernel) ok_X12_init_460
theorem ok_X12_init_456 : zOK l D tc A nS xs mM_X12_init 456 q_X12_init_456 := r_putF kls_12 ty_12_99 (zck_arr _) (by decide) tx_12_99 rfl rfl rfl w_840 (by decide +kernel) ok_X12_init_459
theorem ok_X12_init_454 : zOK l D tc A nS xs mM_X12_init 454 q_X12_init_454 := r_newa (t0 := 0) (atype := .int) (ty := .int) rfl (by decide) rfl rfl z_RA_int rfl (by decide) w_109 (by decide +kernel) ok_X12_init_456
theorem ok_X12_init_451 : zOK l D tc A nS xs mM_X12_init 451 q_X12_init_451 := s_sipush (n := 4200) (by decide) (by decide +kernel) (by decide +kernel) ok_X12_init_454
theorem ok_X12_init_450 : zOK l D tc A nS xs mM_X12_init 450 q_X12_init_450 := s_aload_n (q := 0) rfl (by decide +kernel) (by decide +kernel) ok_X12_init_451
theorem ok_X12_init_447 : zOK l D tc A nS xs mM_X12_init 447 q_X12_init_447 := r_putF kls_12 ty_12_98 (zck_arr _) (by decide) tx_12_98 rfl rfl rfl w_841 (by decide +kernel) ok_X12_init_450
theorem ok_X12_init_445 : zOK l D tc A nS xs mM_X12_init 445 q_X12_init_445 := r_newa (t0 := 0) (atype := .int) (ty := .int) rfl (by decide) rfl rfl z_RA_int rfl (by decide) w_109 (by decide +kernel) ok_X12_init_447
theorem ok_X12_init_442 : zOK l D tc A nS xs mM_X12_init 442 q_X12_init_442 := s_sipush (n := 4000) (by decide) (by decide +kernel) (by decide +kernel) ok_X12_init_445
theorem ok_X12_init_441 : zOK l D tc A nS xs mM_X12_init 441 q_X12_init_441 := s_aload_n (q := 0) rfl (by decide +kernel) (by decide +kernel) ok_X12_init_442
theorem ok_X12_init_438 : zOK l D tc A nS xs mM_X12_init 438 q_X12_init_438 := r_putF kls_12 ty_12_97 (zck_arr _) (by decide) tx_12_97 rfl rfl rfl w_842 (by decide +kernel) ok_X12_init_441
theorem ok_X12_init_436 : zOK l D tc A nS xs mM_X12_init 436 q_X12_init_436 := r_newa (t0 := 0) (atype := .int) (ty := .int) rfl (by decide) rfl rfl z_RA_int rfl (by decide) w_109 (by decide +kernel) ok_X12_init_438
theorem ok_X12_init_433 : zOK l D tc A nS xs mM_X12_init 433 q_X12_init_433 := s_sipush (n := 4000) (by decide) (by decide +kernel) (by decide +kernel) ok_X12_init_436
theorem ok_X12_init_432 : zOK l D tc A nS xs mM_X12_init 432 q_X12_init_432 := s_aload_n (q := 0) rfl (by decide +kernel) (by decide +kernel) ok_X12_init_433
theorem ok_X12_init_429 : zOK l D tc A nS xs mM_X12_init 429 q_X12_init_429 := r_putF kls_12 ty_12_94 (zck_arr _) (by decide) tx_12_94 rfl rfl rfl w_843 (by decide +kernel) ok_X12_init_432
theorem ok_X12_init_427 : zOK l D tc A nS xs mM_X12_init 427 q_X12_init_427 := r_newa (t0 := 0) (atype := .int) (ty := .int) rfl (by decide) rfl rfl z_RA_int rfl (by decide) w_109 (by decide +kernel) ok_X12_init_429
theorem ok_X12_init_425 : zOK l D tc A nS xs mM_X12_init 425 q_X12_init_425 := s_bipush (n := 21) (by decide) (by decide +kernel) (by decide +kernel) ok_X12_init_427
theorem ok_X12_init_424 : zOK l D tc A nS xs mM_X12_init 424 q_X12_init_424 := s_aload_n (q := 0) rfl (by decide +kernel) (by decide +kernel) ok_X12_init_425
theorem ok_X12_init_421 : zOK l D tc A nS xs mM_X12_init 421 q_X12_init_421 := r_putF kls_12 ty_12_92 (zck_arr _) (by decide) tx_12_92 rfl rfl rfl w_844 (by decide +kernel) ok_X12_init_424
theorem ok_X12_init_419 : zOK l D tc A nS xs mM_X12_init 419 q_X12_init_419 := r_newa (t0 := 0) (atype := .int) (ty := .int) rfl (by decide) rfl rfl z_RA_int rfl (by decide) w_109 (by decide +kernel) ok_X12_init_421
theorem ok_X12_init_416 : zOK l D tc A nS xs mM_X12_init 416 q_X12_init_416 := s_sipush (n := 6200) (by decide) (by decide +kernel) (by decide +kernel) ok_X12_init_419
theorem ok_X12_init_415 : zOK l D tc A nS xs mM_X12_init 415 q_X12_init_415 := s_aload_n (q := 0) rfl (by decide +kernel) (by decide +kernel) ok_X12_init_416
theorem ok_X12_init_412 : zOK l D tc A nS xs mM_X12_init 412 q_X12_init_412 := r_putF kls_12 ty_12_91 (zck_arr _) (by decide) tx_12_91 rfl rfl rfl w_845 (by decide +kernel) ok_X12_init_415
theorem ok_X12_init_410 : zOK l D tc A nS xs mM_X12_init 410 q_X12_init_410 := r_newa (t0 := 0) (atype := .int) (ty := .int) rfl (by decide) rfl rfl z_RA_int rfl (by decide) w_109 (by decide +kernel) ok_X12_init_412
theorem ok_X12_init_407 : zOK l D tc A nS xs mM_X12_init 407 q_X12_init_407 := s_sipush (n := 6200) (by decide) (by decide +kernel) (by decide +kernel) ok_X12_init_410
theorem ok_X12_init_406 : zOK l D tc A nS xs mM_X12_init 406 q_X12_init_406 := s_aload_n (q := 0) rfl (by decide +kernel) (by decide +kernel) ok_X12_init_407
theorem ok_X12_init_403 : zOK l D tc A nS xs mM_X12_init 403 q_X12_init_403 := r_putF kls_12 ty_12_90 (zck_arr _) (by decide) tx_12_90 rfl rfl rfl w_846 (by decide +kernel) ok_X12_init_406
theorem ok_X12_init_401 : zOK l D tc A nS xs mM_X12_init 401 q_X12_init_401 := r_newa (t0 := 0) (atype := .int) (ty := .int) rfl (by decide) rfl rfl z_RA_int rfl (by decide) w_109 (by decide +kernel) ok_X12_init_403
theorem ok_X12_init_398 : zOK l D tc A nS xs mM_X12_init 398 q_X12_init_398 := s_sipush (n := 6200) (by decide) (by decide +kernel) (by decide +kernel) ok_X12_init_401
theorem ok_X12_init_397 : zOK l D tc A nS xs mM_X12_init 397 q_X12_init_397 := s_aload_n (q := 0) rfl (by decide +kernel) (by decide +kernel) ok_X12_init_398
theorem ok_X12_init_394 : zOK l D tc A nS xs mM_X12_init 394 q_X12_init_394 := r_putF kls_12 ty_12_89 (zck_arr _) (by decide) tx_12_89 rfl rfl rfl w_847 (by decide +kernel) ok_X12_init_397
theorem ok_X12_init_392 : zOK l D tc A nS xs mM_X12_init 392 q_X12_init_392 := r_newa (t0 := 0) (atype := .int) (ty := .int) rfl (by decide) rfl rfl z_RA_int rfl (by decide) w_109 (by decide +kernel) ok_X12_init_394
theorem ok_X12_init_389 : zOK l D tc A nS xs mM_X12_init 389 q_X12_init_389 := s_sipush (n := 6200) (by decide) (by decide +kernel) (by decide +kernel) ok_X12_init_392
theorem ok_X12_init_388 : zOK l D tc A nS xs mM_X12_init 388 q_X12_init_388 := s_aload_n (q := 0) rfl (by decide +kernel) (by decide +kernel) ok_X12_init_389
theorem ok_X12_init_385 : zOK l D tc A nS xs mM_X12_init 385 q_X12_init_385 := r_putF kls_12 ty_12_88 (zck_arr _) (by decide) tx_12_88 rfl rfl rfl w_848 (by decide +kernel) ok_X12_init_388
theorem ok_X12_init_383 : zOK l D tc A nS xs mM_X12_init 383 q_X12_init_383 := r_newa (t0 := 0) (atype := .int) (ty := .int) rfl (by decide) rfl rfl z_RA_int rfl (by decide) w_109 (by decide +kernel) ok_X12_init_385
theorem ok_X12_init_380 : zOK l D tc A nS xs mM_X12_init 380 q_X12_init_380 := s_sipush (n := 6200) (by decide) (by decide +kernel) (by decide +kernel) ok_X12_init_383
theorem ok_X12_init_379 : zOK l D tc A nS xs mM_X12_init 379 q_X12_init_379 := s_aload_n (q := 0) rfl (by decide +kernel) (by decide +kernel) ok_X12_init_380
theorem ok_X12_init_376 : zOK l D tc A nS xs mM_X12_init 376 q_X12_init_376 := r_putF kls_12 ty_12_87 (zck_arr _) (by decide) tx_12_87 rfl rfl rfl w_849 (by decide +kernel) ok_X12_init_379
theorem ok_X12_init_374 : zOK l D tc A nS xs mM_X12_init 374 q_X12_init_374 := r_newa (t0 := 0) (atype := .int) (ty := .int) rfl (by decide) rfl rfl z_RA_int rfl (by decide) w_109 (by decide +kernel) ok_X12_init_376
theorem ok_X12_init_371 : zOK l D tc A nS xs mM_X12_init 371 q_X12_init_371 := s_sipush (n := 6200) (by decide) (by decide +kernel) (by decide +kernel) ok_X12_init_374
theorem ok_X12_init_370 : zOK l D tc A nS xs mM_X12_init 370 q_X12_init_370 := s_aload_n (q := 0) rfl (by decide +kernel) (by decide +kernel) ok_X12_init_371
theorem ok_X12_init_367 : zOK l D tc A nS xs mM_X12_init 367 q_X12_init_367 := r_putF kls_12 ty_12_78 (zck_arr _) (by decide) tx_12_78 rfl rfl rfl w_850 (by decide +kernel) ok_X12_init_370
theorem ok_X12_init_365 : zOK l D tc A nS xs mM_X12_init 365 q_X12_init_365 := r_newa (t0 := 0) (atype := .int) (ty := .int) rfl (by decide) rfl rfl z_RA_int rfl (by decide) w_109 (by decide +kernel) ok_X12_init_367
theorem ok_X12_init_364 : zOK l D tc A nS xs mM_X12_init 364 q_X12_init_364 := s_iconst (n := 3) (by decide) (by decide +kernel) (by decide +kernel) ok_X12_init_365
theorem ok_X12_init_363 : zOK l D tc A nS xs mM_X12_init 363 q_X12_init_363 := s_aload_n (q := 0) rfl (by decide +kernel) (by decide +kernel) ok_X12_init_364
theorem ok_X12_init_360 : zOK l D tc A nS xs mM_X12_init 360 q_X12_init_360 := r_putF kls_12 ty_12_75 (zck_arr _) (by decide) tx_12_75 rfl rfl rfl w_804 (by decide +kernel) ok_X12_init_363
theorem ok_X12_init_358 : zOK l D tc A nS xs mM_X12_init 358 q_X12_init_358 := r_newa (t0 := 0) (atype := .int) (ty := .int) rfl (by decide) rfl rfl z_RA_int rfl (by decide) w_109 (by decide +kernel) ok_X12_init_360
theorem ok_X12_init_355 : zOK l D tc A nS xs mM_X12_init 355 q_X12_init_355 := s_sipush (n := 4200) (by decide) (by decide +kernel) (by decide +kernel) ok_X12_init_358
theorem ok_X12_init_354 : zOK l D tc A nS xs mM_X12_init 354 q_X12_init_354 := s_aload_n (q := 0) rfl (by decide +kernel) (by decide +kernel) ok_X12_init_355
theorem ok_X12_init_351 : zOK l D tc A nS xs mM_X12_init 351 q_X12_init_351 := r_putF kls_12 ty_12_74 (zck_arr _) (by decide) tx_12_74 rfl rfl rfl w_805 (by decide +kernel) ok_X12_init_354
theorem ok_X12_init_349 : zOK l D tc A nS xs mM_X12_init 349 q_X12_init_349 := r_newa (t0 := 0) (atype := .int) (ty := .int) rfl (by decide) rfl rfl z_RA_int rfl (by decide) w_109 (by decide +kernel) ok_X12_init_351
theorem ok_X12_init_346 : zOK l D tc A nS xs mM_X12_init 346 q_X12_init_346 := s_sipush (n := 4200) (by decide) (by decide +kernel) (by decide +kernel) ok_X12_init_349
theorem ok_X12_init_345 : zOK l D tc A nS xs mM_X12_init 345 q_X12_init_345 := s_aload_n (q := 0) rfl (by decide +kernel) (by decide +kernel) ok_X12_init_346
theorem ok_X12_init_342 : zOK l D tc A nS xs mM_X12_init 342 q_X12_init_342 := r_putF kls_12 ty_12_70 (zck_arr _) (by decide) tx_12_70 rfl rfl rfl w_758 (by decide +kernel) ok_X12_init_345
theorem ok_X12_init_340 : zOK l D tc A nS xs mM_X12_init 340 q_X12_init_340 := r_newa (t0 := 0) (atype := .int) (ty := .int) rfl (by decide) rfl rfl z_RA_int rfl (by decide) w_109 (by decide +kernel) ok_X12_init_342
theorem ok_X12_init_338 : zOK l D tc A nS xs mM_X12_init 338 q_X12_init_338 := s_bipush (n := 60) (by decide) (by decide +kernel) (by decide +kernel) ok_X12_init_340
theorem ok_X12_init_337 : zOK l D tc A nS xs mM_X12_init 337 q_X12_init_337 := s_aload_n (q := 0) rfl (by decide +kernel) (by decide +kernel) ok_X12_init_338
theorem ok_X12_init_334 : zOK l D tc A nS xs mM_X12_init 334 q_X12_init_334 := r_putF kls_12 ty_12_69 (zck_arr _) (by decide) tx_12_69 rfl rfl rfl w_760 (by decide +kernel) ok_X12_init_337
theorem ok_X12_init_332 : zOK l D tc A nS xs mM_X12_init 332 q_X12_init_332 := r_newa (t0 := 0) (atype := .int) (ty := .int) rfl (by decide) rfl rfl z_RA_int rfl (by decide) w_109 (by decide +kernel) ok_X12_init_334
theorem ok_X12_init_330 : zOK l D tc A nS xs mM_X12_init 330 q_X12_init_330 := s_bipush (n := 60) (by decide) (by decide +kernel) (by decide +kernel) ok_X12_init_332
theorem ok_X12_init_329 : zOK l D tc A nS xs mM_X12_init 329 q_X12_init_329 := s_aload_n (q := 0) rfl (by decide +kernel) (by decide +kernel) ok_X12_init_330
theorem ok_X12_init_326 : zOK l D tc A nS xs mM_X12_init 326 q_X12_init_326 := r_putF kls_12 ty_12_66 (zck_arr _) (by decide) tx_12_66 rfl rfl rfl w_851 (by decide +kernel) ok_X12_init_329
theorem ok_X12_init_324 : zOK l D tc A nS xs mM_X12_init 324 q_X12_init_324 := r_newa (t0 := 0) (atype := .int) (ty := .int) rfl (by decide) rfl rfl z_RA_int rfl (by decide) w_109 (by decide +kernel) ok_X12_init_326
theorem ok_X12_init_321 : zOK l D tc A nS xs mM_X12_init 321 q_X12_init_321 := s_sipush (n := 12000) (by decide) (by decide +kernel) (by decide +kernel) ok_X12_init_324
theorem ok_X12_init_320 : zOK l D tc A nS xs mM_X12_init 320 q_X12_init_320 := s_aload_n (q := 0) rfl (by decide +kernel) (by decide +kernel) ok_X12_init_321
theorem ok_X12_init_317 : zOK l D tc A nS xs mM_X12_init 317 q_X12_init_317 := r_putF kls_12 ty_12_65 (zck_arr _) (by decide) tx_12_65 rfl rfl rfl w_852 (by decide +kernel) ok_X12_init_320
theorem ok_X12_init_315 : zOK l D tc A nS xs mM_X12_init 315 q_X12_init_315 := r_newa (t0 := 0) (atype := .int) (ty := .int) rfl (by decide) rfl rfl z_RA_int rfl (by decide) w_109 (by decide +kernel) ok_X12_init_317
theorem ok_X12_init_312 : zOK l D tc A nS xs mM_X12_init 312 q_X12_init_312 := s_sipush (n := 12000) (by decide) (by decide +kernel) (by decide +kernel) ok_X12_init_315
theorem ok_X12_init_311 : zOK l D tc A nS xs mM_X12_init 311 q_X12_init_311 := s_aload_n (q := 0) rfl (by decide +kernel) (by decide +kernel) ok_X12_init_312
theorem ok_X12_init_308 : zOK l D tc A nS xs mM_X12_init 308 q_X12_init_308 := r_putF kls_12 ty_12_63 (zck_arr _) (by decide) tx_12_63 rfl rfl rfl w_853 (by decide +kernel) ok_X12_init_311
theorem ok_X12_init_306 : zOK l D tc A nS xs mM_X12_init 306 q_X12_init_306 := r_newa (t0 := 0) (atype := .int) (ty := .int) rfl (by decide) rfl rfl z_RA_int rfl (by decide) w_109 (by decide +kernel) ok_X12_init_308
theorem ok_X12_init_303 : zOK l D tc A nS xs mM_X12_init 303 q_X12_init_303 := s_sipush (n := 15000) (by decide) (by decide +kernel) (by decide +kernel) ok_X12_init_306
theorem ok_X12_init_302 : zOK l D tc A nS xs mM_X12_init 302 q_X12_init_302 := s_aload_n (q := 0) rfl (by decide +kernel) (by decide +kernel) ok_X12_init_303
theorem ok_X12_init_299 : zOK l D tc A nS xs mM_X12_init 299 q_X12_init_299 := r_putF kls_12 ty_12_62 (zck_arr _) (by decide) tx_12_62 rfl rfl rfl w_854 (by decide +kernel) ok_X12_init_302
theorem ok_X12_init_297 : zOK l D tc A nS xs mM_X12_init 297 q_X12_init_297 := r_newa (t0 := 0) (atype := .int) (ty := .int) rfl (by decide) rfl rfl z_RA_int rfl (by decide) w_109 (by decide +kernel) ok_X12_init_299
theorem ok_X12_init_294 : zOK l D tc A nS xs mM_X12_init 294 q_X12_init_294 := s_sipush (n := 15000) (by decide) (by decide +kernel) (by decide +kernel) ok_X12_init_297
theorem ok_X12_init_293 : zOK l D tc A nS xs mM_X12_init 293 q_X12_init_293 := s_aload_n (q := 0) rfl (by decide +kernel) (by decide +kernel) ok_X12_init_294
theorem ok_X12_init_290 : zOK l D tc A nS xs mM_X12_init 290 q_X12_init_290 := r_putF kls_12 ty_12_61 (zck_arr _) (by decide) tx_12_61 rfl rfl rfl w_855 (by decide +kernel) ok_X12_init_293
theorem ok_X12_init_288 : zOK l D tc A nS xs mM_X12_init 288 q_X12_init_288 := r_newa (t0 := 0) (atype := .int) (ty := .int) rfl (by decide) rfl rfl z_RA_int rfl (by decide) w_109 (by decide +kernel) ok_X12_init_290
theorem ok_X12_init_285 : zOK l D tc A nS xs mM_X12_init 285 q_X12_init_285 := s_sipush (n := 15000) (by decide) (by decide +kernel) (by decide +kernel) ok_X12_init_288
theorem ok_X12_init_284 : zOK l D tc A nS xs mM_X12_init 284 q_X12_init_284 := s_aload_n (q := 0) rfl (by decide +kernel) (by decide +kernel) ok_X12_init_285
theorem ok_X12_init_281 : zOK l D tc A nS xs mM_X12_init 281 q_X12_init_281 := r_putF kls_12 ty_12_59 (zck_arr _) (by decide) tx_12_59 rfl rfl rfl w_856 (by decide +kernel) ok_X12_init_284
theorem ok_X12_init_279 : zOK l D tc A nS xs mM_X12_init 279 q_X12_init_279 := r_newa (t0 := 0) (atype := .int) (ty := .int) rfl (by decide) rfl rfl z_RA_int rfl (by decide) w_109 (by decide +kernel) ok_X12_init_281
theorem ok_X12_init_276 : zOK l D tc A nS xs mM_X12_init 276 q_X12_init_276 := s_sipush (n := 5000) (by decide) (by decide +kernel) (by decide +kernel) ok_X12_init_279
theorem ok_X12_init_275 : zOK l D tc A nS xs mM_X12_init 275 q_X12_init_275 := s_aload_n (q := 0) rfl (by decide +kernel) (by decide +kernel) ok_X12_init_276
theorem ok_X12_init_272 : zOK l D tc A nS xs mM_X12_init 272 q_X12_init_272 := r_putF kls_12 ty_12_58 (zck_arr _) (by decide) tx_12_58 rfl rfl rfl w_857 (by decide +kernel) ok_X12_init_275
theorem ok_X12_init_270 : zOK l D tc A nS xs mM_X12_init 270 q_X12_init_270 := r_newa (t0 := 0) (atype := .int) (ty := .int) rfl (by decide) rfl rfl z_RA_int rfl (by decide) w_109 (by decide +kernel) ok_X12_init_272
theorem ok_X12_init_267 : zOK l D tc A nS xs mM_X12_init 267 q_X12_init_267 := s_sipush (n := 5000) (by decide) (by decide +kernel) (by decide +kernel) ok_X12_init_270
theorem ok_X12_init_266 : zOK l D tc A nS xs mM_X12_init 266 q_X12_init_266 := s_aload_n (q := 0) rfl (by decide +kernel) (by decide +kernel) ok_X12_init_267
theorem ok_X12_init_263 : zOK l D tc A nS xs mM_X12_init 263 q_X12_init_263 := r_putF kls_12 ty_12_57 (zck_arr _) (by decide) tx_12_57 rfl rfl rfl w_858 (by decide +kernel) ok_X12_init_266
theorem ok_X12_init_261 : zOK l D tc A nS xs mM_X12_init 261 q_X12_init_261 := r_newa (t0 := 0) (atype := .int) (ty := .int) rfl (by decide) rfl rfl z_RA_int rfl (by decide) w_109 (by decide +kernel) ok_X12_init_263
theorem ok_X12_init_258 : zOK l D tc A nS xs mM_X12_init 258 q_X12_init_258 := s_sipush (n := 10000) (by decide) (by decide +kernel) (by decide +kernel) ok_X12_init_261
theorem ok_X12_init_257 : zOK l D tc A nS xs mM_X12_init 257 q_X12_init_257 := s_aload_n (q := 0) rfl (by decide +kernel) (by decide +kernel) ok_X12_init_258
theorem ok_X12_init_254 : zOK l D tc A nS xs mM_X12_init 254 q_X12_init_254 := r_putF kls_12 ty_12_55 (zck_arr _) (by decide) tx_12_55 rfl rfl rfl w_738 (by decide +kernel) ok_X12_init_257
theorem ok_X12_init_252 : zOK l D tc A nS xs mM_X12_init 252 q_X12_init_252 := r_newa (t0 := 0) (atype := .int) (ty := .int) rfl (by decide) rfl rfl z_RA_int rfl (by decide) w_109 (by decide +kernel) ok_X12_init_254
theorem ok_X12_init_250 : zOK l D tc A nS xs mM_X12_init 250 q_X12_init_250 := s_bipush (n := 41) (by decide) (by decide +kernel) (by decide +kernel) ok_X12_init_252
theorem ok_X12_init_249 : zOK l D tc A nS xs mM_X12_init 249 q_X12_init_249 := s_aload_n (q := 0) rfl (by decide +kernel) (by decide +kernel) ok_X12_init_250
theorem ok_X12_init_246 : zOK l D tc A nS xs mM_X12_init 246 q_X12_init_246 := r_putF kls_12 ty_12_54 (zck_arr _) (by decide) tx_12_54 rfl rfl rfl w_737 (by decide +kernel) ok_X12_init_249
theorem ok_X12_init_244 : zOK l D tc A nS xs mM_X12_init 244 q_X12_init_244 := r_newa (t0 := 0) (atype := .int) (ty := .int) rfl (by decide) rfl rfl z_RA_int rfl (by decide) w_109 (by decide +kernel) ok_X12_init_246
theorem ok_X12_init_242 : zOK l D tc A nS xs mM_X12_init 242 q_X12_init_242 := s_bipush (n := 41) (by decide) (by decide +kernel) (by decide +kernel) ok_X12_init_244
theorem ok_X12_init_241 : zOK l D tc A nS xs mM_X12_init 241 q_X12_init_241 := s_aload_n (q := 0) rfl (by decide +kernel) (by decide +kernel) ok_X12_init_242
theorem ok_X12_init_238 : zOK l D tc A nS xs mM_X12_init 238 q_X12_init_238 := r_putF kls_12 ty_12_53 (zck_arr _) (by decide) tx_12_53 rfl rfl rfl w_736 (by decide +kernel) ok_X12_init_241
theorem ok_X12_init_236 : zOK l D tc A nS xs mM_X12_init 236 q_X12_init_236 := r_newa (t0 := 0) (atype := .int) (ty := .int) rfl (by decide) rfl rfl z_RA_int rfl (by decide) w_109 (by decide +kernel) ok_X12_init_238
theorem ok_X12_init_234 : zOK l D tc A nS xs mM_X12_init 234 q_X12_init_234 := s_bipush (n := 41) (by decide) (by decide +kernel) (by decide +kernel) ok_X12_init_236
theorem ok_X12_init_233 : zOK l D tc A nS xs mM_X12_init 233 q_X12_init_233 := s_aload_n (q := 0) rfl (by decide +kernel) (by decide +kernel) ok_X12_init_234
theorem ok_X12_init_230 : zOK l D tc A nS xs mM_X12_init 230 q_X12_init_230 := r_putF kls_12 ty_12_52 (zck_arr _) (by decide) tx_12_52 rfl rfl rfl w_739 (by decide +kernel) ok_X12_init_233
theorem ok_X12_init_228 : zOK l D tc A nS xs mM_X12_init 228 q_X12_init_228 := r_newa (t0 := 0) (atype := .int) (ty := .int) rfl (by decide) rfl rfl z_RA_int rfl (by decide) w_109 (by decide +kernel) ok_X12_init_230
theorem ok_X12_init_226 : zOK l D tc A nS xs mM_X12_init 226 q_X12_init_226 := s_bipush (n := 41) (by decide) (by decide +kernel) (by decide +kernel) ok_X12_init_228
theorem ok_X12_init_225 : zOK l D tc A nS xs mM_X12_init 225 q_X12_init_225 := s_aload_n (q := 0) rfl (by decide +kernel) (by decide +kernel) ok_X12_init_226
theorem ok_X12_init_222 : zOK l D tc A nS xs mM_X12_init 222 q_X12_init_222 := r_putF kls_12 ty_12_50 (zck_arr _) (by decide) tx_12_50 rfl rfl rfl w_744 (by decide +kernel) ok_X12_init_225
theorem ok_X12_init_220 : zOK l D tc A nS xs mM_X12_init 220 q_X12_init_220 := r_newa (t0 := 0) (atype := .int) (ty := .int) rfl (by decide) rfl rfl z_RA_int rfl (by decide) w_109 (by decide +kernel) ok_X12_init_222
theorem ok_X12_init_218 : zOK l D tc A nS xs mM_X12_init 218 q_X12_init_218 := s_bipush (n := 40) (by decide) (by decide +kernel) (by decide +kernel) ok_X12_init_220
theorem ok_X12_init_217 : zOK l D tc A nS xs mM_X12_init 217 q_X12_init_217 := s_aload_n (q := 0) rfl (by decide +kernel) (by decide +kernel) ok_X12_init_218
theorem ok_X12_init_214 : zOK l D tc A nS xs mM_X12_init 214 q_X12_init_214 := r_putf kls_12 ty_12_46 (zck_arr _) (by decide) tx_12_46 rfl w_722 (by decide +kernel) ok_X12_init_217
theorem ok_X12_init_211 : zOK l D tc A nS xs mM_X12_init 211 q_X12_init_211 := r_getf kls_12 (by decide) tx_12_31 rfl w_779 (by decide +kernel) ok_X12_init_214
theorem ok_X12_init_210 : zOK l D tc A nS xs mM_X12_init 210 q_X12_init_210 := s_aload_n (q := 0) rfl (by decide +kernel) (by decide +kernel) ok_X12_init_211
theorem ok_X12_init_209 : zOK l D tc A nS xs mM_X12_init 209 q_X12_init_209 := s_aload_n (q := 0) rfl (by decide +kernel) (by decide +kernel) ok_X12_init_210
theorem ok_X12_init_206 : zOK l D tc A nS xs mM_X12_init 206 q_X12_init_206 := r_putF kls_12 ty_12_44 (zck_arr _) (by decide) tx_12_44 rfl rfl rfl w_757 (by decide +kernel) ok_X12_init_209
theorem ok_X12_init_204 : zOK l D tc A nS xs mM_X12_init 204 q_X12_init_204 := r_newa (t0 := 0) (atype := .int) (ty := .int) rfl (by decide) rfl rfl z_RA_int rfl (by decide) w_109 (by decide +kernel) ok_X12_init_206
theorem ok_X12_init_201 : zOK l D tc A nS xs mM_X12_init 201 q_X12_init_201 := s_sipush (n := 300) (by decide) (by decide +kernel) (by decide +kernel) ok_X12_init_204
theorem ok_X12_init_200 : zOK l D tc A nS xs mM_X12_init 200 q_X12_init_200 := s_aload_n (q := 0) rfl (by decide +kernel) (by decide +kernel) ok_X12_init_201
theorem ok_X12_init_197 : zOK l D tc A nS xs mM_X12_init 197 q_X12_init_197 := r_putF kls_12 ty_12_43 (zck_arr _) (by decide) tx_12_43 rfl rfl rfl w_859 (by decide +kernel) ok_X12_init_200
theorem ok_X12_init_195 : zOK l D tc A nS xs mM_X12_init 195 q_X12_init_195 := r_newa (t0 := 0) (atype := .int) (ty := .int) rfl (by decide) rfl rfl z_RA_int rfl (by decide) w_109 (by decide +kernel) ok_X12_init_197
theorem ok_X12_init_192 : zOK l D tc A nS xs mM_X12_init 192 q_X12_init_192 := s_sipush (n := 300) (by decide) (by decide +kernel) (by decide +kernel) ok_X12_init_195
theorem ok_X12_init_191 : zOK l D tc A nS xs mM_X12_init 191 q_X12_init_191 := s_aload_n (q := 0) rfl (by decide +kernel) (by decide +kernel) ok_X12_init_192
theorem ok_X12_init_188 : zOK l D tc A nS xs mM_X12_init 188 q_X12_init_188 := r_putF kls_12 ty_12_42 (zck_arr _) (by decide) tx_12_42 rfl rfl rfl w_860 (by decide +kernel) ok_X12_init_191
theorem ok_X12_init_186 : zOK l D tc A nS xs mM_X12_init 186 q_X12_init_186 := r_newa (t0 := 0) (atype := .int) (ty := .int) rfl (by decide) rfl rfl z_RA_int rfl (by decide) w_109 (by decide +kernel) ok_X12_init_188
theorem ok_X12_init_183 : zOK l D tc A nS xs mM_X12_init 183 q_X12_init_183 := s_sipush (n := 3900) (by decide) (by decide +kernel) (by decide +kernel) ok_X12_init_186
theorem ok_X12_init_182 : zOK l D tc A nS xs mM_X12_init 182 q_X12_init_182 := s_aload_n (q := 0) rfl (by decide +kernel) (by decide +kernel) ok_X12_init_183
theorem ok_X12_init_179 : zOK l D tc A nS xs mM_X12_init 179 q_X12_init_179 := r_putF kls_12 ty_12_38 (zck_arr _) (by decide) tx_12_38 rfl rfl rfl w_715 (by decide +kernel) ok_X12_init_182
theorem ok_X12_init_177 : zOK l D tc A nS xs mM_X12_init 177 q_X12_init_177 := r_newa (t0 := 0) (atype := .int) (ty := .int) rfl (by decide) rfl rfl z_RA_int rfl (by decide) w_109 (by decide +kernel) ok_X12_init_179
theorem ok_X12_init_174 : zOK l D tc A nS xs mM_X12_init 174 q_X12_init_174 := s_sipush (n := 20200) (by decide) (by decide +kernel) (by decide +kernel) ok_X12_init_177
theorem ok_X12_init_173 : zOK l D tc A nS xs mM_X12_init 173 q_X12_init_173 := s_aload_n (q := 0) rfl (by decide +kernel) (by decide +kernel) ok_X12_init_174
theorem ok_X12_init_170 : zOK l D tc A nS xs mM_X12_init 170 q_X12_init_170 := r_putF kls_12 ty_12_37 (zck_arr _) (by decide) tx_12_37 rfl rfl rfl w_716 (by decide +kernel) ok_X12_init_173
theorem ok_X12_init_168 : zOK l D tc A nS xs mM_X12_init 168 q_X12_init_168 := r_newa (t0 := 0) (atype := .int) (ty := .int) rfl (by decide) rfl rfl z_RA_int rfl (by decide) w_109 (by decide +kernel) ok_X12_init_170
theorem ok_X12_init_165 : zOK l D tc A nS xs mM_X12_init 165 q_X12_init_165 := s_sipush (n := 20200) (by decide) (by decide +kernel) (by decide +kernel) ok_X12_init_168
theorem ok_X12_init_164 : zOK l D tc A nS xs mM_X12_init 164 q_X12_init_164 := s_aload_n (q := 0) rfl (by decide +kernel) (by decide +kernel) ok_X12_init_165
theorem ok_X12_init_161 : zOK l D tc A nS xs mM_X12_init 161 q_X12_init_161 := r_putF kls_12 ty_12_36 (zck_arr _) (by decide) tx_12_36 rfl rfl rfl w_717 (by decide +kernel) ok_X12_init_164
theorem ok_X12_init_159 : zOK l D tc A nS xs mM_X12_init 159 q_X12_init_159 := r_newa (t0 := 0) (atype := .int) (ty := .int) rfl (by decide) rfl rfl z_RA_int rfl (by decide) w_109 (by decide +kernel) ok_X12_init_161
theorem ok_X12_init_156 : zOK l D tc A nS xs mM_X12_init 156 q_X12_init_156 := s_sipush (n := 20200) (by decide) (by decide +kernel) (by decide +kernel) ok_X12_init_159
theorem ok_X12_init_155 : zOK l D tc A nS xs mM_X12_init 155 q_X12_init_155 := s_aload_n (q := 0) rfl (by decide +kernel) (by decide +kernel) ok_X12_init_156
theorem ok_X12_init_152 : zOK l D tc A nS xs mM_X12_init 152 q_X12_init_152 := r_putF kls_12 ty_12_35 (zck_arr _) (by decide) tx_12_35 rfl rfl rfl w_687 (by decide +kernel) ok_X12_init_155
theorem ok_X12_init_150 : zOK l D tc A nS xs mM_X12_init 150 q_X12_init_150 := r_newa (t0 := 0) (atype := .int) (ty := .int) rfl (by decide) rfl rfl z_RA_int rfl (by decide) w_109 (by decide +kernel) ok_X12_init_152
theorem ok_X12_init_147 : zOK l D tc A nS xs mM_X12_init 147 q_X12_init_147 := s_sipush (n := 20200) (by decide) (by decide +kernel) (by decide +kernel) ok_X12_init_150
theorem ok_X12_init_146 : zOK l D tc A nS xs mM_X12_init 146 q_X12_init_146 := s_aload_n (q := 0) rfl (by decide +kernel) (by decide +kernel) ok_X12_init_147
theorem ok_X12_init_143 : zOK l D tc A nS xs mM_X12_init 143 q_X12_init_143 := r_putF kls_12 ty_12_34 (zck_arr _) (by decide) tx_12_34 rfl rfl rfl w_701 (by decide +kernel) ok_X12_init_146
theorem ok_X12_init_141 : zOK l D tc A nS xs mM_X12_init 141 q_X12_init_141 := r_newa (t0 := 0) (atype := .int) (ty := .int) rfl (by decide) rfl rfl z_RA_int rfl (by decide) w_109 (by decide +kernel) ok_X12_init_143
theorem ok_X12_init_138 : zOK l D tc A nS xs mM_X12_init 138 q_X12_init_138 := s_sipush (n := 20200) (by decide) (by decide +kernel) (by decide +kernel) ok_X12_init_141
theorem ok_X12_init_137 : zOK l D tc A nS xs mM_X12_init 137 q_X12_init_137 := s_aload_n (q := 0) rfl (by decide +kernel) (by decide +kernel) ok_X12_init_138
theorem ok_X12_init_134 : zOK l D tc A nS xs mM_X12_init 134 q_X12_init_134 := r_putF kls_12 ty_12_33 (zck_arr _) (by decide) tx_12_33 rfl rfl rfl w_702 (by decide +kernel) ok_X12_init_137
theorem ok_X12_init_132 : zOK l D tc A nS xs mM_X12_init 132 q_X12_init_132 := r_newa (t0 := 0) (atype := .int) (ty := .int) rfl (by decide) rfl rfl z_RA_int rfl (by decide) w_109 (by decide +kernel) ok_X12_init_134
theorem ok_X12_init_129 : zOK l D tc A nS xs mM_X12_init 129 q_X12_init_129 := s_sipush (n := 20200) (by decide) (by decide +kernel) (by decide +kernel) ok_X12_init_132
theorem ok_X12_init_128 : zOK l D tc A nS xs mM_X12_init 128 q_X12_init_128 := s_aload_n (q := 0) rfl (by decide +kernel) (by decide +kernel) ok_X12_init_129
theorem ok_X12_init_125 : zOK l D tc A nS xs mM_X12_init 125 q_X12_init_125 := r_putF kls_12 ty_12_31 (zck_arr _) (by decide) tx_12_31 rfl rfl rfl w_779 (by decide +kernel) ok_X12_init_128
theorem ok_X12_init_123 : zOK l D tc A nS xs mM_X12_init 123 q_X12_init_123 := r_newa (t0 := 0) (atype := .int) (ty := .int) rfl (by decide) rfl rfl z_RA_int rfl (by decide) w_109 (by decide +kernel) ok_X12_init_125
theorem ok_X12_init_120 : zOK l D tc A nS xs mM_X12_init 120 q_X12_init_120 := s_sipush (n := 2000) (by decide) (by decide +kernel) (by decide +kernel) ok_X12_init_123
theorem ok_X12_init_119 : zOK l D tc A nS xs mM_X12_init 119 q_X12_init_119 := s_aload_n (q := 0) rfl (by decide +kernel) (by decide +kernel) ok_X12_init_120
theorem ok_X12_init_116 : zOK l D tc A nS xs mM_X12_init 116 q_X12_init_116 := r_putF kls_12 ty_12_27 (zck_arr _) (by decide) tx_12_27 rfl rfl rfl w_861 (by decide +kernel) ok_X12_init_119
theorem ok_X12_init_114 : zOK l D tc A nS xs mM_X12_init 114 q_X12_init_114 := r_newa (t0 := 0) (atype := .int) (ty := .int) rfl (by decide) rfl rfl z_RA_int rfl (by decide) w_109 (by decide +kernel) ok_X12_init_116
theorem ok_X12_init_111 : zOK l D tc A nS xs mM_X12_init 111 q_X12_init_111 := s_sipush (n := 8192) (by decide) (by decide +kernel) (by decide +kernel) ok_X12_init_114
theorem ok_X12_init_110 : zOK l D tc A nS xs mM_X12_init 110 q_X12_init_110 := s_aload_n (q := 0) rfl (by decide +kernel) (by decide +kernel) ok_X12_init_111
theorem ok_X12_init_107 : zOK l D tc A nS xs mM_X12_init 107 q_X12_init_107 := r_putF kls_12 ty_12_24 (zck_arr _) (by decide) tx_12_24 rfl rfl rfl w_862 (by decide +kernel) ok_X12_init_110
theorem ok_X12_init_105 : zOK l D tc A nS xs mM_X12_init 105 q_X12_init_105 := r_newa (t0 := 0) (atype := .int) (ty := .int) rfl (by decide) rfl rfl z_RA_int rfl (by decide) w_109 (by decide +kernel) ok_X12_init_107
theorem ok_X12_init_102 : zOK l D tc A nS xs mM_X12_init 102 q_X12_init_102 := s_sipush (n := 2000) (by decide) (by decide +kernel) (by decide +kernel) ok_X12_init_105
theorem ok_X12_init_101 : zOK l D tc A nS xs mM_X12_init 101 q_X12_init_101 := s_aload_n (q := 0) rfl (by decide +kernel) (by decide +kernel) ok_X12_init_102
theorem ok_X12_init_98 : zOK l D tc A nS xs mM_X12_init 98 q_X12_init_98 := r_putF kls_12 ty_12_22 (zck_arr _) (by decide) tx_12_22 rfl rfl rfl w_863 (by decide +kernel) ok_X12_init_101
theorem ok_X12_init_96 : zOK l D tc A nS xs mM_X12_init 96 q_X12_init_96 := r_newa (t0 := 0) (atype := .int) (ty := .int) rfl (by decide) rfl rfl z_RA_int rfl (by decide) w_109 (by decide +kernel) ok_X12_init_98
theorem ok_X12_init_94 : zOK l D tc A nS xs mM_X12_init 94 q_X12_init_94 := s_bipush (n := 50) (by decide) (by decide +kernel) (by decide +kernel) ok_X12_init_96
theorem ok_X12_init_93 : zOK l D tc A nS xs mM_X12_init 93 q_X12_init_93 := s_aload_n (q := 0) rfl (by decide +kernel) (by decide +kernel) ok_X12_init_94
theorem ok_X12_init_90 : zOK l D tc A nS xs mM_X12_init 90 q_X12_init_90 := r_putF kls_12 ty_12_19 (zck_arr _) (by decide) tx_12_19 rfl rfl rfl w_864 (by decide +kernel) ok_X12_init_93
theorem ok_X12_init_88 : zOK l D tc A nS xs mM_X12_init 88 q_X12_init_88 := r_newa (t0 := 0) (atype := .int) (ty := .int) rfl (by decide) rfl rfl z_RA_int rfl (by decide) w_109 (by decide +kernel) ok_X12_init_90
theorem ok_X12_init_85 : zOK l D tc A nS xs mM_X12_init 85 q_X12_init_85 := s_sipush (n := 256) (by decide) (by decide +kernel) (by decide +kernel) ok_X12_init_88
theorem ok_X12_init_84 : zOK l D tc A nS xs mM_X12_init 84 q_X12_init_84 := s_aload_n (q := 0) rfl (by decide +kernel) (by decide +kernel) ok_X12_init_85
theorem ok_X12_init_81 : zOK l D tc A nS xs mM_X12_init 81 q_X12_init_81 := r_putF kls_12 ty_12_16 (zck_arr _) (by decide) tx_12_16 rfl rfl rfl w_865 (by decide +kernel) ok_X12_init_84
theorem ok_X12_init_79 : zOK l D tc A nS xs mM_X12_init 79 q_X12_init_79 := r_newa (t0 := 0) (atype := .int) (ty := .int) rfl (by decide) rfl rfl z_RA_int rfl (by decide) w_109 (by decide +kernel) ok_X12_init_81
theorem ok_X12_init_76 : zOK l D tc A nS xs mM_X12_init 76 q_X12_init_76 := s_sipush (n := 8192) (by decide) (by decide +kernel) (by decide +kernel) ok_X12_init_79
theorem ok_X12_init_75 : zOK l D tc A nS xs mM_X12_init 75 q_X12_init_75 := s_aload_n (q := 0) rfl (by decide +kernel) (by decide +kernel) ok_X12_init_76
theorem ok_X12_init_72 : zOK l D tc A nS xs mM_X12_init 72 q_X12_init_72 := r_putF kls_12 ty_12_15 (zck_arr _) (by decide) tx_12_15 rfl rfl rfl w_866 (by decide +kernel) ok_X12_init_75
theorem ok_X12_init_70 : zOK l D tc A nS xs mM_X12_init 70 q_X12_init_70 := r_newa (t0 := 0) (atype := .int) (ty := .int) rfl (by decide) rfl rfl z_RA_int rfl (by decide) w_109 (by decide +kernel) ok_X12_init_72
theorem ok_X12_init_67 : zOK l D tc A nS xs mM_X12_init 67 q_X12_init_67 := s_sipush (n := 8192) (by decide) (by decide +kernel) (by decide +kernel) ok_X12_init_70
theorem ok_X12_init_66 : zOK l D tc A nS xs mM_X12_init 66 q_X12_init_66 := s_aload_n (q := 0) rfl (by decide +kernel) (by decide +kernel) ok_X12_init_67
theorem ok_X12_init_63 : zOK l D tc A nS xs mM_X12_init 63 q_X12_init_63 := r_putF kls_12 ty_12_14 (zck_arr _) (by decide) tx_12_14 rfl rfl rfl w_867 (by decide +kernel) ok_X12_init_66
theorem ok_X12_init_61 : zOK l D tc A nS xs mM_X12_init 61 q_X12_init_61 := r_newa (t0 := 1) (atype := .boolean) (ty := .boolean) rfl (by decide) rfl rfl z_RA_bool rfl (by decide) w_868 (by decide +kernel) ok_X12_init_63
theorem ok_X12_init_58 : zOK l D tc A nS xs mM_X12_init 58 q_X12_init_58 := s_sipush (n := 8192) (by decide) (by decide +kernel) (by decide +kernel) ok_X12_init_61
theorem ok_X12_init_57 : zOK l D tc A nS xs mM_X12_init 57 q_X12_init_57 := s_aload_n (q := 0) rfl (by decide +kernel) (by decide +kernel) ok_X12_init_58
theorem ok_X12_init_54 : zOK l D tc A nS xs mM_X12_init 54 q_X12_init_54 := r_putF kls_12 ty_12_13 (zck_arr _) (by decide) tx_12_13 rfl rfl rfl w_869 (by decide +kernel) ok_X12_init_57
theorem ok_X12_init_52 : zOK l D tc A nS xs mM_X12_init 52 q_X12_init_52 := r_newa (t0 := 1) (atype := .boolean) (ty := .boolean) rfl (by decide) rfl rfl z_RA_bool rfl (by decide) w_868 (by decide +kernel) ok_X12_init_54
theorem ok_X12_init_49 : zOK l D tc A nS xs mM_X12_init 49 q_X12_init_49 := s_sipush (n := 8192) (by decide) (by decide +kernel) (by decide +kernel) ok_X12_init_52
theorem ok_X12_init_48 : zOK l D tc A nS xs mM_X12_init 48 q_X12_init_48 := s_aload_n (q := 0) rfl (by decide +kernel) (by decide +kernel) ok_X12_init_49
theorem ok_X12_init_45 : zOK l D tc A nS xs mM_X12_init 45 q_X12_init_45 := r_putF kls_12 ty_12_2 (zck_arr _) (by decide) tx_12_2 rfl rfl rfl w_870 (by decide +kernel) ok_X12_init_48
theorem ok_X12_init_41 : zOK l D tc A nS xs mM_X12_init 41 q_X12_init_41 := r_mnew (t0 := 2) (t1 := 0) rfl (by decide) (fun U f h => h.2.2.2.2.2.1) w_109 rfl rfl rfl w_839 (by decide +kernel) ok_X12_init_45
theorem ok_X12_init_40 : zOK l D tc A nS xs mM_X12_init 40 q_X12_init_40 := s_iconst (n := 4) (by decide) (by decide +kernel) (by decide +kernel) ok_X12_init_41
theorem ok_X12_init_39 : zOK l D tc A nS xs mM_X12_init 39 q_X12_init_39 := s_iconst (n := 2) (by decide) (by decide +kernel) (by decide +kernel) ok_X12_init_40
theorem ok_X12_init_38 : zOK l D tc A nS xs mM_X12_init 38 q_X12_init_38 := s_aload_n (q := 0) rfl (by decide +kernel) (by decide +kernel) ok_X12_init_39
theorem ok_X12_init_35 : zOK l D tc A nS xs mM_X12_init 35 q_X12_init_35 := r_putF kls_12 ty_12_1 (zck_arr _) (by decide) tx_12_1 rfl rfl rfl w_871 (by decide +kernel) ok_X12_init_38
theorem ok_X12_init_31 : zOK l D tc A nS xs mM_X12_init 31 q_X12_init_31 := r_mnew (t0 := 2) (t1 := 0) rfl (by decide) (fun U f h => h.2.2.2.2.2.1) w_109 rfl rfl rfl w_839 (by decide +kernel) ok_X12_init_35
theorem ok_X12_init_29 : zOK l D tc A nS xs mM_X12_init 29 q_X12_init_29 := s_bipush (n := 8) (by decide) (by decide +kernel) (by decide +kernel) ok_X12_init_31
theorem ok_X12_init_28 : zOK l D tc A nS xs mM_X12_init 28 q_X12_init_28 := s_iconst (n := 2) (by decide) (by decide +kernel) (by decide +kernel) ok_X12_init_29
theorem ok_X12_init_27 : zOK l D tc A nS xs mM_X12_init 27 q_X12_init_27 := s_aload_n (q := 0) rfl (by decide +kernel) (by decide +kernel) ok_X12_init_28
theorem ok_X12_init_24 : zOK l D tc A nS xs mM_X12_init 24 q_X12_init_24 := r_putF kls_12 ty_12_0 (zck_arr _) (by decide) tx_12_0 rfl rfl rfl w_724 (by decide +kernel) ok_X12_init_27
theorem ok_X12_init_23 : zOK l D tc A nS xs mM_X12_init 23 q_X12_init_23 := s_aast (fun U f h => h.2.2.2.2.2.2.1) (by decide +kernel) ok_X12_init_24
theorem ok_X12_init_21 : zOK l D tc A nS xs mM_X12_init 21 q_X12_init_21 := r_newa (t0 := 0) (atype := .int) (ty := .int) rfl (by decide) rfl rfl z_RA_int rfl (by decide) w_109 (by decide +kernel) ok_X12_init_23
theorem ok_X12_init_18 : zOK l D tc A nS xs mM_X12_init 18 q_X12_init_18 := s_sipush (n := 8192) (by decide) (by decide +kernel) (by decide +kernel) ok_X12_init_21
theorem ok_X12_init_17 : zOK l D tc A nS xs mM_X12_init 17 q_X12_init_17 := s_iconst (n := 1) (by decide) (by decide +kernel) (by decide +kernel) ok_X12_init_18
theorem ok_X12_init_16 : zOK l D tc A nS xs mM_X12_init 16 q_X12_init_16 := s_dup (by decide +kernel) ok_X12_init_17
theorem ok_X12_init_15 : zOK l D tc A nS xs mM_X12_init 15 q_X12_init_15 := s_aast (fun U f h => h.2.2.2.2.2.2.1) (by decide +kernel) ok_X12_init_16
theorem ok_X12_init_13 : zOK l D tc A nS xs mM_X12_init 13 q_X12_init_13 := r_newa (t0 := 0) (atype := .int) (ty := .int) rfl (by decide) rfl rfl z_RA_int rfl (by decide) w_109 (by decide +kernel) ok_X12_init_15
theorem ok_X12_init_11 : zOK l D tc A nS xs mM_X12_init 11 q_X12_init_11 := r_ldc (by decide) (x := (65536 : Int32)) (by decide +kernel) rfl w_872 (by decide +kernel) ok_X12_init_13
theorem ok_X12_init_10 : zOK l D tc A nS xs mM_X12_init 10 q_X12_init_10 := s_iconst (n := 0) (by decide) (by decide +kernel) (by decide +kernel) ok_X12_init_11
theorem ok_X12_init_9 : zOK l D tc A nS xs mM_X12_init 9 q_X12_init_9 := s_dup (by decide +kernel) ok_X12_init_10
theorem ok_X12_init_6 : zOK l D tc A nS xs mM_X12_init 6 q_X12_init_6 := r_anew (t0 := 2) rfl rfl (by decide) (by decide +kernel) (fun U f h => h.2.2.2.2.2.1) rfl rfl w_837 (by decide +kernel) ok_X12_init_9
theorem ok_X12_init_5 : zOK l D tc A nS xs mM_X12_init 5 q_X12_init_5 := s_iconst (n := 2) (by decide) (by decide +kernel) (by decide +kernel) ok_X12_init_6
theorem ok_X12_init_4 : zOK l D tc A nS xs mM_X12_init 4 q_X12_init_4 := s_aload_n (q := 0) rfl (by decide +kernel) (by decide +kernel) ok_X12_init_5
theorem ok_X12_init_1 : zOK l D tc A nS xs mM_X12_init 1 q_X12_init_1 := s_oinit w_873 w_112 w_oi (by decide +kernel) ok_X12_init_4
theorem ok_X12_init_0 : zOK l D tc A nS xs mM_X12_init 0 q_X12_init_0 := s_aload_n (q := 0) rfl (by decide +kernel) (by decide +kernel) ok_X12_init_1
theorem ok_X12_input_45 : zOK l D tc A nS xs mM_X12_input 45 q_X12_input_45 := s_zret rfl (by decide +kernel)
theorem ok_X12_input_44 : zOK l D tc A nS xs mM_X12_input 44 q_X12_input_44 := s_iconst (n := 1) (by decide) (by decide +kernel) (by decide +kernel) ok_X12_input_45
theorem ok_X12_input_41 : zOK l D tc A nS xs mM_X12_input 41 q_X12_input_41 := r_putf kls_12 ty_12_23 zck_int (by decide) tx_12_23 rfl w_874 (by decide +kernel) ok_X12_input_44
theorem ok_X12_input_40 : zOK l D tc A nS xs mM_X12_input 40 q_X12_input_40 := s_iadd (by decide +kernel) ok_X12_input_41
theorem ok_X12_input_39 : zOK l D tc A nS xs mM_X12_input 39 q_X12_input_39 := s_iconst (n := 1) (by decide) (by decide +kernel) (by decide +kernel) ok_X12_input_40
theorem ok_X12_input_36 : zOK l D tc A nS xs mM_X12_input 36 q_X12_input_36 := r_getf kls_12 (by decide) tx_12_23 rfl w_874 (by decide +kernel) ok_X12_input_39
theorem ok_X12_input_35 : zOK l D tc A nS xs mM_X12_input 35 q_X12_input_35 := s_dup (by decide +kernel) ok_X12_input_36
theorem ok_X12_input_34 : zOK l D tc A nS xs mM_X12_input 34 q_X12_input_34 := s_aload_n (q := 0) rfl (by decide +kernel) (by decide +kernel) ok_X12_input_35
theorem ok_X12_input_33 : zOK l D tc A nS xs mM_X12_input 33 q_X12_input_33 := s_iast (t0 := 0) (by decide) (by decide) rfl (by decide +kernel) ok_X12_input_34
theorem ok_X12_input_32 : zOK l D tc A nS xs mM_X12_input 32 q_X12_input_32 := s_iload_n (q := 1) rfl (by decide +kernel) (by decide +kernel) ok_X12_input_33
theorem ok_X12_input_29 : zOK l D tc A nS xs mM_X12_input 29 q_X12_input_29 := r_getf kls_12 (by decide) tx_12_23 rfl w_874 (by decide +kernel) ok_X12_input_32
theorem ok_X12_input_28 : zOK l D tc A nS xs mM_X12_input 28 q_X12_input_28 := s_aload_n (q := 0) rfl (by decide +kernel) (by decide +kernel) ok_X12_input_29
theorem ok_X12_input_25 : zOK l D tc A nS xs mM_X12_input 25 q_X12_input_25 := r_getf kls_12 (by decide) tx_12_22 rfl w_863 (by decide +kernel) ok_X12_input_28
theorem ok_X12_input_24 : zOK l D tc A nS xs mM_X12_input 24 q_X12_input_24 := s_aload_n (q := 0) rfl (by decide +kernel) (by decide +kernel) ok_X12_input_25
theorem ok_X12_input_23 : zOK l D tc A nS xs mM_X12_input 23 q_X12_input_23 := s_zret rfl (by decide +kernel)
theorem ok_X12_input_22 : zOK l D tc A nS xs mM_X12_input 22 q_X12_input_22 := s_iconst (n := 0) (by decide) (by decide +kernel) (by decide +kernel) ok_X12_input_23
theorem ok_X12_input_19 : zOK l D tc A nS xs mM_X12_input 19 q_X12_input_19 := s_icmp_ne (tgt := 24) (off := 5) (by decide +kernel) (by decide) ok_X12_input_24 ok_X12_input_22
theorem ok_X12_input_17 : zOK l D tc A nS xs mM_X12_input 17 q_X12_input_17 := s_bipush (n := 50) (by decide) (by decide +kernel) (by decide +kernel) ok_X12_input_19
theorem ok_X12_input_14 : zOK l D tc A nS xs mM_X12_input 14 q_X12_input_14 := r_getf kls_12 (by decide) tx_12_23 rfl w_874 (by decide +kernel) ok_X12_input_17
theorem ok_X12_input_13 : zOK l D tc A nS xs mM_X12_input 13 q_X12_input_13 := s_aload_n (q := 0) rfl (by decide +kernel) (by decide +kernel) ok_X12_input_14
theorem ok_X12_input_10 : zOK l D tc A nS xs mM_X12_input 10 q_X12_input_10 := s_if_eq (tgt := 22) (off := 12) (by decide +kernel) (by decide) ok_X12_input_22 ok_X12_input_13
theorem ok_X12_input_7 : zOK l D tc A nS xs mM_X12_input 7 q_X12_input_7 := r_callS zEE_ok zTw_gd (M2 := mM_X12_in) lb_217 calS_X12_in rfl rfl w_771 (by decide +kernel) ok_X12_input_10
theorem ok_X12_input_4 : zOK l D tc A nS xs mM_X12_input 4 q_X12_input_4 := s_sipush (n := 16383) (by decide) (by decide +kernel) (by decide +kernel) ok_X12_input_7
theorem ok_X12_input_1 : zOK l D tc A nS xs mM_X12_input 1 q_X12_input_1 := s_sipush (n := (-16384)) (by decide) (by decide +kernel) (by decide +kernel) ok_X12_input_4
theorem ok_X12_input_0 : zOK l D tc A nS xs mM_X12_input 0 q_X12_input_0 := s_iload_n (q := 1) rfl (by decide +kernel) (by decide +kernel) ok_X12_input_1
theorem ok_X12_isBenchPlace_22 : zOK l D tc A nS xs mM_X12_isBenchPlace 22 q_X12_isBenchPlace_22 := s_zret rfl (by decide +kernel)
theorem ok_X12_isBenchPlace_21 : zOK l D tc A nS xs mM_X12_isBenchPlace 21 q_X12_isBenchPlace_21 := s_iconst (n := 0) (by decide) (by decide +kernel) (by decide +kernel) ok_X12_isBenchPlace_22
theorem ok_X12_isBenchPlace_18 : zOK l D tc A nS xs mM_X12_isBenchPlace 18 q_X12_isBenchPlace_18 := s_goto (tgt := 22) (off := 4) (by decide +kernel) (by decide) ok_X12_isBenchPlace_22
theorem ok_X12_isBenchPlace_17 : zOK l D tc A nS xs mM_X12_isBenchPlace 17 q_X12_isBenchPlace_17 := s_iconst (n := 1) (by decide) (by decide +kernel) (by decide +kernel) ok_X12_isBenchPlace_18
theorem ok_X12_isBenchPlace_14 : zOK l D tc A nS xs mM_X12_isBenchPlace 14 q_X12_isBenchPlace_14 := s_if_ne (tgt := 21) (off := 7) (by decide +kernel) (by decide) ok_X12_isBenchPlace_21 ok_X12_isBenchPlace_17
theorem ok_X12_isBenchPlace_13 : zOK l D tc A nS xs mM_X12_isBenchPlace 13 q_X12_isBenchPlace_13 := s_iand (by decide +kernel) ok_X12_isBenchPlace_14
theorem ok_X12_isBenchPlace_12 : zOK l D tc A nS xs mM_X12_isBenchPlace 12 q_X12_isBenchPlace_12 := s_iconst (n := 1) (by decide) (by decide +kernel) (by decide +kernel) ok_X12_isBenchPlace_13
theorem ok_X12_isBenchPlace_11 : zOK l D tc A nS xs mM_X12_isBenchPlace 11 q_X12_isBenchPlace_11 := s_iload_n (q := 0) rfl (by decide +kernel) (by decide +kernel) ok_X12_isBenchPlace_12
theorem ok_X12_isBenchPlace_8 : zOK l D tc A nS xs mM_X12_isBenchPlace 8 q_X12_isBenchPlace_8 := s_if_eq (tgt := 21) (off := 13) (by decide +kernel) (by decide) ok_X12_isBenchPlace_21 ok_X12_isBenchPlace_11
theorem ok_X12_isBenchPlace_5 : zOK l D tc A nS xs mM_X12_isBenchPlace 5 q_X12_isBenchPlace_5 := r_callS zEE_ok zTw_gd (M2 := mM_X12_in) lb_217 calS_X12_in rfl rfl w_771 (by decide +kernel) ok_X12_isBenchPlace_8
theorem ok_X12_isBenchPlace_2 : zOK l D tc A nS xs mM_X12_isBenchPlace 2 q_X12_isBenchPlace_2 := s_sipush (n := 8191) (by decide) (by decide +kernel) (by decide +kernel) ok_X12_isBenchPlace_5
theorem ok_X12_isBenchPlace_1 : zOK l D tc A nS xs mM_X12_isBenchPlace 1 q_X12_isBenchPlace_1 := s_iconst (n := 0) (by decide) (by decide +kernel) (by decide +kernel) ok_X12_isBenchPlace_2
theorem ok_X12_isBenchPlace_0 : zOK l D tc A nS xs mM_X12_isBenchPlace 0 q_X12_isBenchPlace_0 := s_iload_n (q := 0) rfl (by decide +kernel) (by decide +kernel) ok_X12_isBenchPlace_1
theorem ok_X12_isDots_7 : zOK l D tc A nS xs mM_X12_isDots 7 q_X12_isDots_7 := s_zret rfl (by decide +kernel)
theorem ok_X12_isDots_4 : zOK l D tc A nS xs mM_X12_isDots 4 q_X12_isDots_4 := r_callV zEE_ok zTw_gd kls_12 (M2 := mM_X12_isNamed) (na := 2) lb_226 calV_X12_isNamed rfl rfl w_711 (by decide +kernel) ok_X12_isDots_7
theorem ok_X12_isDots_2 : zOK l D tc A nS xs mM_X12_isDots 2 q_X12_isDots_2 := s_bipush (n := 9) (by decide) (by decide +kernel) (by decide +kernel) ok_X12_isDots_4
theorem ok_X12_isDots_1 : zOK l D tc A nS xs mM_X12_isDots 1 q_X12_isDots_1 := s_iload_n (q := 1) rfl (by decide +kernel) (by decide +kernel) ok_X12_isDots_2
theorem ok_X12_isDots_0 : zOK l D tc A nS xs mM_X12_isDots 0 q_X12_isDots_0 := s_aload_n (q := 0) rfl (by decide +kernel) (by decide +kernel) ok_X12_isDots_1
theorem ok_X12_isDotted_38 : zOK l D tc A nS xs mM_X12_isDotted 38 q_X12_isDotted_38 := s_zret rfl (by decide +kernel)
theorem ok_X12_isDotted_37 : zOK l D tc A nS xs mM_X12_isDotted 37 q_X12_isDotted_37 := s_iconst (n := 0) (by decide) (by decide +kernel) (by decide +kernel) ok_X12_isDotted_38
theorem ok_X12_isDotted_34 : zOK l D tc A nS xs mM_X12_isDotted 34 q_X12_isDotted_34 := s_goto (tgt := 38) (off := 4) (by decide +kernel) (by decide) ok_X12_isDotted_38
theorem ok_X12_isDotted_33 : zOK l D tc A nS xs mM_X12_isDotted 33 q_X12_isDotted_33 := s_iconst (n := 1) (by decide) (by decide +kernel) (by decide +kernel) ok_X12_isDotted_34
theorem ok_X12_isDotted_30 : zOK l D tc A nS xs mM_X12_isDotted 30 q_X12_isDotted_30 := s_if_eq (tgt := 37) (off := 7) (by decide +kernel) (by decide) ok_X12_isDotted_37 ok_X12_isDotted_33
theorem ok_X12_isDotted_27 : zOK l D tc A nS xs mM_X12_isDotted 27 q_X12_isDotted_27 := r_callV zEE_ok zTw_gd kls_12 (M2 := mM_X12_isDots) (na := 1) lb_221 calV_X12_isDots rfl rfl w_812 (by decide +kernel) ok_X12_isDotted_30
theorem ok_X12_isDotted_26 : zOK l D tc A nS xs mM_X12_isDotted 26 q_X12_isDotted_26 := s_iald (t0 := 0) (by decide) (by decide) rfl (by decide +kernel) ok_X12_isDotted_27
theorem ok_X12_isDotted_25 : zOK l D tc A nS xs mM_X12_isDotted 25 q_X12_isDotted_25 := s_iald (t0 := 0) (by decide) (by decide) rfl (by decide +kernel) ok_X12_isDotted_26
theorem ok_X12_isDotted_24 : zOK l D tc A nS xs mM_X12_isDotted 24 q_X12_isDotted_24 := s_iload_n (q := 1) rfl (by decide +kernel) (by decide +kernel) ok_X12_isDotted_25
theorem ok_X12_isDotted_21 : zOK l D tc A nS xs mM_X12_isDotted 21 q_X12_isDotted_21 := r_getf kls_12 (by decide) tx_12_35 rfl w_687 (by decide +kernel) ok_X12_isDotted_24
theorem ok_X12_isDotted_20 : zOK l D tc A nS xs mM_X12_isDotted 20 q_X12_isDotted_20 := s_aload_n (q := 0) rfl (by decide +kernel) (by decide +kernel) ok_X12_isDotted_21
theorem ok_X12_isDotted_17 : zOK l D tc A nS xs mM_X12_isDotted 17 q_X12_isDotted_17 := r_getf kls_12 (by decide) tx_12_34 rfl w_701 (by decide +kernel) ok_X12_isDotted_20
theorem ok_X12_isDotted_16 : zOK l D tc A nS xs mM_X12_isDotted 16 q_X12_isDotted_16 := s_aload_n (q := 0) rfl (by decide +kernel) (by decide +kernel) ok_X12_isDotted_17
theorem ok_X12_isDotted_15 : zOK l D tc A nS xs mM_X12_isDotted 15 q_X12_isDotted_15 := s_aload_n (q := 0) rfl (by decide +kernel) (by decide +kernel) ok_X12_isDotted_16
theorem ok_X12_isDotted_12 : zOK l D tc A nS xs mM_X12_isDotted 12 q_X12_isDotted_12 := s_icmp_ne (tgt := 37) (off := 25) (by decide +kernel) (by decide) ok_X12_isDotted_37 ok_X12_isDotted_15
theorem ok_X12_isDotted_11 : zOK l D tc A nS xs mM_X12_isDotted 11 q_X12_isDotted_11 := s_iconst (n := 5) (by decide) (by decide +kernel) (by decide +kernel) ok_X12_isDotted_12
theorem ok_X12_isDotted_10 : zOK l D tc A nS xs mM_X12_isDotted 10 q_X12_isDotted_10 := s_iald (t0 := 0) (by decide) (by decide) rfl (by decide +kernel) ok_X12_isDotted_11
theorem ok_X12_isDotted_9 : zOK l D tc A nS xs mM_X12_isDotted 9 q_X12_isDotted_9 := s_iald (t0 := 0) (by decide) (by decide) rfl (by decide +kernel) ok_X12_isDotted_10
theorem ok_X12_isDotted_8 : zOK l D tc A nS xs mM_X12_isDotted 8 q_X12_isDotted_8 := s_iload_n (q := 1) rfl (by decide +kernel) (by decide +kernel) ok_X12_isDotted_9
theorem ok_X12_isDotted_5 : zOK l D tc A nS xs mM_X12_isDotted 5 q_X12_isDotted_5 := r_getf kls_12 (by decide) tx_12_35 rfl w_687 (by decide +kernel) ok_X12_isDotted_8
theorem ok_X12_isDotted_4 : zOK l D tc A nS xs mM_X12_isDotted 4 q_X12_isDotted_4 := s_aload_n (q := 0) rfl (by decide +kernel) (by decide +kernel) ok_X12_isDotted_5
theorem ok_X12_isDotted_1 : zOK l D tc A nS xs mM_X12_isDotted 1 q_X12_isDotted_1 := r_getf kls_12 (by decide) tx_12_33 rfl w_702 (by decide +kernel) ok_X12_isDotted_4
theorem ok_X12_isDotted_0 : zOK l D tc A nS xs mM_X12_isDotted 0 q_X12_isDotted_0 := s_aload_n (q := 0) rfl (by decide +kernel) (by decide +kernel) ok_X12_isDotted_1
theorem ok_X12_isLiteral_43 : zOK l D tc A nS xs mM_X12_isLiteral 43 q_X12_isLiteral_43 := s_zret rfl (by decide +kernel)
theorem ok_X12_isLiteral_42 : zOK l D tc A nS xs mM_X12_isLiteral 42 q_X12_isLiteral_42 := s_iconst (n := 0) (by decide) (by decide +kernel) (by decide +kernel) ok_X12_isLiteral_43
theorem ok_X12_isLiteral_39 : zOK l D tc A nS xs mM_X12_isLiteral 39 q_X12_isLiteral_39 := s_goto (tgt := 5) (off := (-34)) (by decide +kernel) (by decide) (s_back lb_224)
theorem ok_X12_isLiteral_38 : zOK l D tc A nS xs mM_X12_isLiteral 38 q_X12_isLiteral_38 := s_istore_n (q := 2) rfl (by decide +kernel) (by decide +kernel) ok_X12_isLiteral_39
theorem ok_X12_isLiteral_37 : zOK l D tc A nS xs mM_X12_isLiteral 37 q_X12_isLiteral_37 := s_iald (t0 := 0) (by decide) (by decide) rfl (by decide +kernel) ok_X12_isLiteral_38
theorem ok_X12_isLiteral_36 : zOK l D tc A nS xs mM_X12_isLiteral 36 q_X12_isLiteral_36 := s_iload_n (q := 2) rfl (by decide +kernel) (by decide +kernel) ok_X12_isLiteral_37
theorem ok_X12_isLiteral_33 : zOK l D tc A nS xs mM_X12_isLiteral 33 q_X12_isLiteral_33 := r_getf kls_12 (by decide) tx_12_35 rfl w_687 (by decide +kernel) ok_X12_isLiteral_36
theorem ok_X12_isLiteral_32 : zOK l D tc A nS xs mM_X12_isLiteral 32 q_X12_isLiteral_32 := s_aload_n (q := 0) rfl (by decide +kernel) (by decide +kernel) ok_X12_isLiteral_33
theorem ok_X12_isLiteral_31 : zOK l D tc A nS xs mM_X12_isLiteral 31 q_X12_isLiteral_31 := s_zret rfl (by decide +kernel)
theorem ok_X12_isLiteral_30 : zOK l D tc A nS xs mM_X12_isLiteral 30 q_X12_isLiteral_30 := s_iconst (n := 1) (by decide) (by decide +kernel) (by decide +kernel) ok_X12_isLiteral_31
theorem ok_X12_isLiteral_27 : zOK l D tc A nS xs mM_X12_isLiteral 27 q_X12_isLiteral_27 := s_icmp_ne (tgt := 32) (off := 5) (by decide +kernel) (by decide) ok_X12_isLiteral_32 ok_X12_isLiteral_30
theorem ok_X12_isLiteral_26 : zOK l D tc A nS xs mM_X12_isLiteral 26 q_X12_isLiteral_26 := s_iload_n (q := 1) rfl (by decide +kernel) (by decide +kernel) ok_X12_isLiteral_27
theorem ok_X12_isLiteral_25 : zOK l D tc A nS xs mM_X12_isLiteral 25 q_X12_isLiteral_25 := s_iald (t0 := 0) (by decide) (by decide) rfl (by decide +kernel) ok_X12_isLiteral_26
theorem ok_X12_isLiteral_24 : zOK l D tc A nS xs mM_X12_isLiteral 24 q_X12_isLiteral_24 := s_iald (t0 := 0) (by decide) (by decide) rfl (by decide +kernel) ok_X12_isLiteral_25
theorem ok_X12_isLiteral_23 : zOK l D tc A nS xs mM_X12_isLiteral 23 q_X12_isLiteral_23 := s_iload_n (q := 2) rfl (by decide +kernel) (by decide +kernel) ok_X12_isLiteral_24
theorem ok_X12_isLiteral_20 : zOK l D tc A nS xs mM_X12_isLiteral 20 q_X12_isLiteral_20 := r_getf kls_12 (by decide) tx_12_34 rfl w_701 (by decide +kernel) ok_X12_isLiteral_23
theorem ok_X12_isLiteral_19 : zOK l D tc A nS xs mM_X12_isLiteral 19 q_X12_isLiteral_19 := s_aload_n (q := 0) rfl (by decide +kernel) (by decide +kernel) ok_X12_isLiteral_20
theorem ok_X12_isLiteral_16 : zOK l D tc A nS xs mM_X12_isLiteral 16 q_X12_isLiteral_16 := r_getf kls_12 (by decide) tx_12_34 rfl w_701 (by decide +kernel) ok_X12_isLiteral_19
theorem ok_X12_isLiteral_15 : zOK l D tc A nS xs mM_X12_isLiteral 15 q_X12_isLiteral_15 := s_aload_n (q := 0) rfl (by decide +kernel) (by decide +kernel) ok_X12_isLiteral_16
theorem ok_X12_isLiteral_12 : zOK l D tc A nS xs mM_X12_isLiteral 12 q_X12_isLiteral_12 := s_icmp_ne (tgt := 42) (off := 30) (by decide +kernel) (by decide) ok_X12_isLiteral_42 ok_X12_isLiteral_15
theorem ok_X12_isLiteral_11 : zOK l D tc A nS xs mM_X12_isLiteral 11 q_X12_isLiteral_11 := s_iconst (n := 5) (by decide) (by decide +kernel) (by decide +kernel) ok_X12_isLiteral_12
theorem ok_X12_isLiteral_10 : zOK l D tc A nS xs mM_X12_isLiteral 10 q_X12_isLiteral_10 := s_iald (t0 := 0) (by decide) (by decide) rfl (by decide +kernel) ok_X12_isLiteral_11
theorem ok_X12_isLiteral_9 : zOK l D tc A nS xs mM_X12_isLiteral 9 q_X12_isLiteral_9 := s_iload_n (q := 2) rfl (by decide +kernel) (by decide +kernel) ok_X12_isLiteral_10
theorem ok_X12_isLiteral_6 : zOK l D tc A nS xs mM_X12_isLiteral 6 q_X12_isLiteral_6 := r_getf kls_12 (by decide) tx_12_33 rfl w_702 (by decide +kernel) ok_X12_isLiteral_9
theorem ok_X12_isLiteral_5 : zOK l D tc A nS xs mM_X12_isLiteral 5 q_X12_isLiteral_5 := s_aload_n (q := 0) rfl (by decide +kernel) (by decide +kernel) ok_X12_isLiteral_6
theorem ok_X12_isLiteral_4 : zOK l D tc A nS xs mM_X12_isLiteral 4 q_X12_isLiteral_4 := s_istore_n (q := 2) rfl (by decide +kernel) (by decide +kernel) ok_X12_isLiteral_5
theorem ok_X12_isLiteral_1 : zOK l D tc A nS xs mM_X12_isLiteral 1 q_X12_isLiteral_1 := r_getf kls_12 (by decide) tx_12_77 rfl w_710 (by decide +kernel) ok_X12_isLiteral_4
theorem ok_X12_isLiteral_0 : zOK l D tc A nS xs mM_X12_isLiteral 0 q_X12_isLiteral_0 := s_aload_n (q := 0) rfl (by decide +kernel) (by decide +kernel) ok_X12_isLiteral_1
theorem ok_X12_isName_15 : zOK l D tc A nS xs mM_X12_isName 15 q_X12_isName_15 := s_zret rfl (by decide +kernel)
theorem ok_X12_isName_14 : zOK l D tc A nS xs mM_X12_isName 14 q_X12_isName_14 := s_iconst (n := 0) (by decide) (by decide +kernel) (by decide +kernel) ok_X12_isName_15
theorem ok_X12_isName_11 : zOK l D tc A nS xs mM_X12_isName 11 q_X12_isName_11 := s_goto (tgt := 15) (off := 4) (by decide +kernel) (by decide) ok_X12_isName_15
theorem ok_X12_isName_10 : zOK l D tc A nS xs mM_X12_isName 10 q_X12_isName_10 := s_iconst (n := 1) (by decide) (by decide +kernel) (by decide +kernel) ok_X12_isName_11
theorem ok_X12_isName_7 : zOK l D tc A nS xs mM_X12_isName 7 q_X12_isName_7 := s_icmp_ne (tgt := 14) (off := 7) (by decide +kernel) (by decide) ok_X12_isName_14 ok_X12_isName_10
theorem ok_X12_isName_6 : zOK l D tc A nS xs mM_X12_isName 6 q_X12_isName_6 := s_iconst (n := 4) (by decide) (by decide +kernel) (by decide +kernel) ok_X12_isName_7
theorem ok_X12_isName_5 : zOK l D tc A nS xs mM_X12_isName 5 q_X12_isName_5 := s_iald (t0 := 0) (by decide) (by decide) rfl (by decide +kernel) ok_X12_isName_6
theorem ok_X12_isName_4 : zOK l D tc A nS xs mM_X12_isName 4 q_X12_isName_4 := s_iload_n (q := 1) rfl (by decide +kernel) (by decide +kernel) ok_X12_isName_5
theorem ok_X12_isName_1 : zOK l D tc A nS xs mM_X12_isName 1 q_X12_isName_1 := r_getf kls_12 (by decide) tx_12_33 rfl w_702 (by decide +kernel) ok_X12_isName_4
theorem ok_X12_isName_0 : zOK l D tc A nS xs mM_X12_isName 0 q_X12_isName_0 := s_aload_n (q := 0) rfl (by decide +kernel) (by decide +kernel) ok_X12_isName_1
theorem ok_X12_isNamed_29 : zOK l D tc A nS xs mM_X12_isNamed 29 q_X12_isNamed_29 := s_zret rfl (by decide +kernel)
theorem ok_X12_isNamed_28 : zOK l D tc A nS xs mM_X12_isNamed 28 q_X12_isNamed_28 := s_iconst (n := 0) (by decide) (by decide +kernel) (by decide +kernel) ok_X12_isNamed_29
theorem ok_X12_isNamed_25 : zOK l D tc A nS xs mM_X12_isNamed 25 q_X12_isNamed_25 := s_goto (tgt := 29) (off := 4) (by decide +kernel) (by decide) ok_X12_isNamed_29
theorem ok_X12_isNamed_24 : zOK l D tc A nS xs mM_X12_isNamed 24 q_X12_isNamed_24 := s_iconst (n := 1) (by decide) (by decide +kernel) (by decide +kernel) ok_X12_isNamed_25
theorem ok_X12_isNamed_21 : zOK l D tc A nS xs mM_X12_isNamed 21 q_X12_isNamed_21 := s_icmp_ne (tgt := 28) (off := 7) (by decide +kernel) (by decide) ok_X12_isNamed_28 ok_X12_isNamed_24
theorem ok_X12_isNamed_20 : zOK l D tc A nS xs mM_X12_isNamed 20 q_X12_isNamed_20 := s_iload_n (q := 2) rfl (by decide +kernel) (by decide +kernel) ok_X12_isNamed_21
theorem ok_X12_isNamed_17 : zOK l D tc A nS xs mM_X12_isNamed 17 q_X12_isNamed_17 := r_callV zEE_ok zTw_gd kls_12 (M2 := mM_X12_atLast) (na := 1) lb_181 calV_X12_atLast rfl rfl w_875 (by decide +kernel) ok_X12_isNamed_20
theorem ok_X12_isNamed_16 : zOK l D tc A nS xs mM_X12_isNamed 16 q_X12_isNamed_16 := s_iald (t0 := 0) (by decide) (by decide) rfl (by decide +kernel) ok_X12_isNamed_17
theorem ok_X12_isNamed_15 : zOK l D tc A nS xs mM_X12_isNamed 15 q_X12_isNamed_15 := s_iload_n (q := 1) rfl (by decide +kernel) (by decide +kernel) ok_X12_isNamed_16
theorem ok_X12_isNamed_12 : zOK l D tc A nS xs mM_X12_isNamed 12 q_X12_isNamed_12 := r_getf kls_12 (by decide) tx_12_34 rfl w_701 (by decide +kernel) ok_X12_isNamed_15
theorem ok_X12_isNamed_11 : zOK l D tc A nS xs mM_X12_isNamed 11 q_X12_isNamed_11 := s_aload_n (q := 0) rfl (by decide +kernel) (by decide +kernel) ok_X12_isNamed_12
theorem ok_X12_isNamed_10 : zOK l D tc A nS xs mM_X12_isNamed 10 q_X12_isNamed_10 := s_aload_n (q := 0) rfl (by decide +kernel) (by decide +kernel) ok_X12_isNamed_11
theorem ok_X12_isNamed_7 : zOK l D tc A nS xs mM_X12_isNamed 7 q_X12_isNamed_7 := s_icmp_ne (tgt := 28) (off := 21) (by decide +kernel) (by decide) ok_X12_isNamed_28 ok_X12_isNamed_10
theorem ok_X12_isNamed_6 : zOK l D tc A nS xs mM_X12_isNamed 6 q_X12_isNamed_6 := s_iconst (n := 4) (by decide) (by decide +kernel) (by decide +kernel) ok_X12_isNamed_7
theorem ok_X12_isNamed_5 : zOK l D tc A nS xs mM_X12_isNamed 5 q_X12_isNamed_5 := s_iald (t0 := 0) (by decide) (by decide) rfl (by decide +kernel) ok_X12_isNamed_6
theorem ok_X12_isNamed_4 : zOK l D tc A nS xs mM_X12_isNamed 4 q_X12_isNamed_4 := s_iload_n (q := 1) rfl (by decide +kernel) (by decide +kernel) ok_X12_isNamed_5
theorem ok_X12_isNamed_1 : zOK l D tc A nS xs mM_X12_isNamed 1 q_X12_isNamed_1 := r_getf kls_12 (by decide) tx_12_33 rfl w_702 (by decide +kernel) ok_X12_isNamed_4
theorem ok_X12_isNamed_0 : zOK l D tc A nS xs mM_X12_isNamed 0 q_X12_isNamed_0 := s_aload_n (q := 0) rfl (by decide +kernel) (by decide +kernel) ok_X12_isNamed_1
theorem ok_X12_isNumber_12 : zOK l D tc A nS xs mM_X12_isNumber 12 q_X12_isNumber_12 := s_zret rfl (by decide +kernel)
theorem ok_X12_isNumber_11 : zOK l D tc A nS xs mM_X12_isNumber 11 q_X12_isNumber_11 := s_iconst (n := 0) (by decide) (by decide +kernel) (by decide +kernel) ok_X12_isNumber_12
theorem ok_X12_isNumber_4 : zOK l D tc A nS xs mM_X12_isNumber 4 q_X12_isNumber_4 := s_icmp_ne (tgt := 11) (off := 7) (by decide +kernel) (by decide) ok_X12_isNumber_11 s_none
theorem ok_X12_isNumber_3 : zOK l D tc A nS xs mM_X12_isNumber 3 q_X12_isNumber_3 := s_iconst (n := 1) (by decide) (by decide +kernel) (by decide +kernel) ok_X12_isNumber_4
theorem ok_X12_isNumber_2 : zOK l D tc A nS xs mM_X12_isNumber 2 q_X12_isNumber_2 := s_iand (by decide +kernel) ok_X12_isNumber_3
theorem ok_X12_isNumber_1 : zOK l D tc A nS xs mM_X12_isNumber 1 q_X12_isNumber_1 := s_iconst (n := 1) (by decide) (by decide +kernel) (by decide +kernel) ok_X12_isNumber_2
theorem ok_X12_isNumber_0 : zOK l D tc A nS xs mM_X12_isNumber 0 q_X12_isNumber_0 := s_iload_n (q := 0) rfl (by decide +kernel) (by decide +kernel) ok_X12_isNumber_1
theorem ok_X12_isPrimitive_22 : zOK l D tc A nS xs mM_X12_isPrimitive 22 q_X12_isPrimitive_22 := s_zret rfl (by decide +kernel)
theorem ok_X12_isPrimitive_21 : zOK l D tc A nS xs mM_X12_isPrimitive 21 q_X12_isPrimitive_21 := s_iconst (n := 0) (by decide) (by decide +kernel) (by decide +kernel) ok_X12_isPrimitive_22
theorem ok_X12_isPrimitive_14 : zOK l D tc A nS xs mM_X12_isPrimitive 14 q_X12_isPrimitive_14 := s_if_eq (tgt := 21) (off := 7) (by decide +kernel) (by decide) ok_X12_isPrimitive_21 s_none
theorem ok_X12_isPrimitive_11 : zOK l D tc A nS xs mM_X12_isPrimitive 11 q_X12_isPrimitive_11 := r_callS zEE_ok zTw_gd (M2 := mM_X12_in) lb_217 calS_X12_in rfl rfl w_771 (by decide +kernel) ok_X12_isPrimitive_14
theorem ok_X12_isPrimitive_9 : zOK l D tc A nS xs mM_X12_isPrimitive 9 q_X12_isPrimitive_9 := s_bipush (n := 68) (by decide) (by decide +kernel) (by decide +kernel) ok_X12_isPrimitive_11
theorem ok_X12_isPrimitive_7 : zOK l D tc A nS xs mM_X12_isPrimitive 7 q_X12_isPrimitive_7 := s_bipush (n := 16) (by decide) (by decide +kernel) (by decide +kernel) ok_X12_isPrimitive_9
theorem ok_X12_isPrimitive_6 : zOK l D tc A nS xs mM_X12_isPrimitive 6 q_X12_isPrimitive_6 := s_iload_n (q := 0) rfl (by decide +kernel) (by decide +kernel) ok_X12_isPrimitive_7
theorem ok_X12_isPrimitive_3 : zOK l D tc A nS xs mM_X12_isPrimitive 3 q_X12_isPrimitive_3 := s_if_ne (tgt := 21) (off := 18) (by decide +kernel) (by decide) ok_X12_isPrimitive_21 ok_X12_isPrimitive_6
theorem ok_X12_isPrimitive_2 : zOK l D tc A nS xs mM_X12_isPrimitive 2 q_X12_isPrimitive_2 := s_iand (by decide +kernel) ok_X12_isPrimitive_3
theorem ok_X12_isPrimitive_1 : zOK l D tc A nS xs mM_X12_isPrimitive 1 q_X12_isPrimitive_1 := s_iconst (n := 1) (by decide) (by decide +kernel) (by decide +kernel) ok_X12_isPrimitive_2
theorem ok_X12_isPrimitive_0 : zOK l D tc A nS xs mM_X12_isPrimitive 0 q_X12_isPrimitive_0 := s_iload_n (q := 0) rfl (by decide +kernel) (by decide +kernel) ok_X12_isPrimitive_1
theorem ok_X12_isProcedure_30 : zOK l D tc A nS xs mM_X12_isProcedure 30 q_X12_isProcedure_30 := s_zret rfl (by decide +kernel)
theorem ok_X12_isProcedure_29 : zOK l D tc A nS xs mM_X12_isProcedure 29 q_X12_isProcedure_29 := s_iconst (n := 0) (by decide) (by decide +kernel) (by decide +kernel) ok_X12_isProcedure_30
theorem ok_X12_isProcedure_22 : zOK l D tc A nS xs mM_X12_isProcedure 22 q_X12_isProcedure_22 := s_if_eq (tgt := 29) (off := 7) (by decide +kernel) (by decide) ok_X12_isProcedure_29 s_none
theorem ok_X12_isProcedure_19 : zOK l D tc A nS xs mM_X12_isProcedure 19 q_X12_isProcedure_19 := r_callV zEE_ok zTw_gd kls_12 (M2 := mM_X12_is_) (na := 2) lb_233 calV_X12_is_ rfl rfl w_878 (by decide +kernel) ok_X12_isProcedure_22
theorem ok_X12_isProcedure_18 : zOK l D tc A nS xs mM_X12_isProcedure 18 q_X12_isProcedure_18 := s_iconst (n := 5) (by decide) (by decide +kernel) (by decide +kernel) ok_X12_isProcedure_19
theorem ok_X12_isProcedure_17 : zOK l D tc A nS xs mM_X12_isProcedure 17 q_X12_isProcedure_17 := s_iload_n (q := 1) rfl (by decide +kernel) (by decide +kernel) ok_X12_isProcedure_18
theorem ok_X12_isProcedure_16 : zOK l D tc A nS xs mM_X12_isProcedure 16 q_X12_isProcedure_16 := s_aload_n (q := 0) rfl (by decide +kernel) (by decide +kernel) ok_X12_isProcedure_17
theorem ok_X12_isProcedure_13 : zOK l D tc A nS xs mM_X12_isProcedure 13 q_X12_isProcedure_13 := s_if_ne (tgt := 25) (off := 12) (by decide +kernel) (by decide) s_none ok_X12_isProcedure_16
theorem ok_X12_isProcedure_10 : zOK l D tc A nS xs mM_X12_isProcedure 10 q_X12_isProcedure_10 := r_callV zEE_ok zTw_gd kls_12 (M2 := mM_X12_is_) (na := 2) lb_233 calV_X12_is_ rfl rfl w_878 (by decide +kernel) ok_X12_isProcedure_13
theorem ok_X12_isProcedure_9 : zOK l D tc A nS xs mM_X12_isProcedure 9 q_X12_isProcedure_9 := s_iconst (n := 2) (by decide) (by decide +kernel) (by decide +kernel) ok_X12_isProcedure_10
theorem ok_X12_isProcedure_8 : zOK l D tc A nS xs mM_X12_isProcedure 8 q_X12_isProcedure_8 := s_iload_n (q := 1) rfl (by decide +kernel) (by decide +kernel) ok_X12_isProcedure_9
theorem ok_X12_isProcedure_7 : zOK l D tc A nS xs mM_X12_isProcedure 7 q_X12_isProcedure_7 := s_aload_n (q := 0) rfl (by decide +kernel) (by decide +kernel) ok_X12_isProcedure_8
theorem ok_X12_isProcedure_4 : zOK l D tc A nS xs mM_X12_isProcedure 4 q_X12_isProcedure_4 := s_if_ne (tgt := 25) (off := 21) (by decide +kernel) (by decide) s_none ok_X12_isProcedure_7
theorem ok_X12_isProcedure_1 : zOK l D tc A nS xs mM_X12_isProcedure 1 q_X12_isProcedure_1 := r_callS zEE_ok zTw_gd (M2 := mM_X12_isPrimitive) lb_228 calS_X12_isPrimitive rfl rfl w_881 (by decide +kernel) ok_X12_isProcedure_4
theorem ok_X12_isProcedure_0 : zOK l D tc A nS xs mM_X12_isProcedure 0 q_X12_isProcedure_0 := s_iload_n (q := 1) rfl (by decide +kernel) (by decide +kernel) ok_X12_isProcedure_1
theorem ok_X12_isRight_188 : zOK l D tc A nS xs mM_X12_isRight 188 q_X12_isRight_188 := s_zret rfl (by decide +kernel)
theorem ok_X12_isRight_184 : zOK l D tc A nS xs mM_X12_isRight 184 q_X12_isRight_184 := s_goto (tgt := 188) (off := 4) (by decide +kernel) (by decide) ok_X12_isRight_188
theorem ok_X12_isRight_183 : zOK l D tc A nS xs mM_X12_isRight 183 q_X12_isRight_183 := s_iconst (n := 1) (by decide) (by decide +kernel) (by decide +kernel) ok_X12_isRight_184
theorem ok_X12_isRight_180 : zOK l D tc A nS xs mM_X12_isRight 180 q_X12_isRight_180 := s_icmp_ne (tgt := 187) (off := 7) (by decide +kernel) (by decide) s_none ok_X12_isRight_183
theorem ok_X12_isRight_179 : zOK l D tc A nS xs mM_X12_isRight 179 q_X12_isRight_179 := s_iload_n (q := 2) rfl (by decide +kernel) (by decide +kernel) ok_X12_isRight_180
theorem ok_X12_isRight_178 : zOK l D tc A nS xs mM_X12_isRight 178 q_X12_isRight_178 := s_iald (t0 := 0) (by decide) (by decide) rfl (by decide +kernel) ok_X12_isRight_179
theorem ok_X12_isRight_176 : zOK l D tc A nS xs mM_X12_isRight 176 q_X12_isRight_176 := s_iload (by decide +kernel) (by decide +kernel) ok_X12_isRight_178
theorem ok_X12_isRight_173 : zOK l D tc A nS xs mM_X12_isRight 173 q_X12_isRight_173 := r_getf kls_12 (by decide) tx_12_75 rfl w_804 (by decide +kernel) ok_X12_isRight_176
theorem ok_X12_isRight_172 : zOK l D tc A nS xs mM_X12_isRight 172 q_X12_isRight_172 := s_aload_n (q := 0) rfl (by decide +kernel) (by decide +kernel) ok_X12_isRight_173
theorem ok_X12_isRight_169 : zOK l D tc A nS xs mM_X12_isRight 169 q_X12_isRight_169 := s_icmp_eq (tgt := 183) (off := 14) (by decide +kernel) (by decide) ok_X12_isRight_183 ok_X12_isRight_172
theorem ok_X12_isRight_168 : zOK l D tc A nS xs mM_X12_isRight 168 q_X12_isRight_168 := s_iconst (n := (-1)) (by decide) (by decide +kernel) (by decide +kernel) ok_X12_isRight_169
theorem ok_X12_isRight_166 : zOK l D tc A nS xs mM_X12_isRight 166 q_X12_isRight_166 := s_iload (by decide +kernel) (by decide +kernel) ok_X12_isRight_168
theorem ok_X12_isRight_164 : zOK l D tc A nS xs mM_X12_isRight 164 q_X12_isRight_164 := s_istore (by decide +kernel) (by decide +kernel) ok_X12_isRight_166
theorem ok_X12_isRight_161 : zOK l D tc A nS xs mM_X12_isRight 161 q_X12_isRight_161 := r_callV zEE_ok zTw_gd kls_12 (M2 := mM_X12_variableOf) (na := 1) lb_291 calV_X12_variableOf rfl rfl w_806 (by decide +kernel) ok_X12_isRight_164
theorem ok_X12_isRight_160 : zOK l D tc A nS xs mM_X12_isRight 160 q_X12_isRight_160 := s_iald (t0 := 0) (by decide) (by decide) rfl (by decide +kernel) ok_X12_isRight_161
theorem ok_X12_isRight_159 : zOK l D tc A nS xs mM_X12_isRight 159 q_X12_isRight_159 := s_iload_n (q := 3) rfl (by decide +kernel) (by decide +kernel) ok_X12_isRight_160
theorem ok_X12_isRight_156 : zOK l D tc A nS xs mM_X12_isRight 156 q_X12_isRight_156 := r_getf kls_12 (by decide) tx_12_34 rfl w_701 (by decide +kernel) ok_X12_isRight_159
theorem ok_X12_isRight_155 : zOK l D tc A nS xs mM_X12_isRight 155 q_X12_isRight_155 := s_aload_n (q := 0) rfl (by decide +kernel) (by decide +kernel) ok_X12_isRight_156
theorem ok_X12_isRight_154 : zOK l D tc A nS xs mM_X12_isRight 154 q_X12_isRight_154 := s_aload_n (q := 0) rfl (by decide +kernel) (by decide +kernel) ok_X12_isRight_155
theorem ok_X12_isRight_149 : zOK l D tc A nS xs mM_X12_isRight 149 q_X12_isRight_149 := s_if_eq (tgt := 154) (off := 5) (by decide +kernel) (by decide) ok_X12_isRight_154 s_none
theorem ok_X12_isRight_146 : zOK l D tc A nS xs mM_X12_isRight 146 q_X12_isRight_146 := r_callV zEE_ok zTw_gd kls_12 (M2 := mM_X12_isDots) (na := 1) lb_221 calV_X12_isDots rfl rfl w_812 (by decide +kernel) ok_X12_isRight_149
theorem ok_X12_isRight_145 : zOK l D tc A nS xs mM_X12_isRight 145 q_X12_isRight_145 := s_iload_n (q := 3) rfl (by decide +kernel) (by decide +kernel) ok_X12_isRight_146
theorem ok_X12_isRight_144 : zOK l D tc A nS xs mM_X12_isRight 144 q_X12_isRight_144 := s_aload_n (q := 0) rfl (by decide +kernel) (by decide +kernel) ok_X12_isRight_145
theorem ok_X12_isRight_143 : zOK l D tc A nS xs mM_X12_isRight 143 q_X12_isRight_143 := s_zret rfl (by decide +kernel)
theorem ok_X12_isRight_142 : zOK l D tc A nS xs mM_X12_isRight 142 q_X12_isRight_142 := s_iconst (n := 1) (by decide) (by decide +kernel) (by decide +kernel) ok_X12_isRight_143
theorem ok_X12_isRight_139 : zOK l D tc A nS xs mM_X12_isRight 139 q_X12_isRight_139 := s_if_ne (tgt := 144) (off := 5) (by decide +kernel) (by decide) ok_X12_isRight_144 ok_X12_isRight_142
theorem ok_X12_isRight_136 : zOK l D tc A nS xs mM_X12_isRight 136 q_X12_isRight_136 := r_callV zEE_ok zTw_gd kls_12 (M2 := mM_X12_isName) (na := 1) lb_225 calV_X12_isName rfl rfl w_698 (by decide +kernel) ok_X12_isRight_139
theorem ok_X12_isRight_135 : zOK l D tc A nS xs mM_X12_isRight 135 q_X12_isRight_135 := s_iload_n (q := 3) rfl (by decide +kernel) (by decide +kernel) ok_X12_isRight_136
theorem ok_X12_isRight_134 : zOK l D tc A nS xs mM_X12_isRight 134 q_X12_isRight_134 := s_aload_n (q := 0) rfl (by decide +kernel) (by decide +kernel) ok_X12_isRight_135
theorem ok_X12_isRight_131 : zOK l D tc A nS xs mM_X12_isRight 131 q_X12_isRight_131 := s_goto (tgt := 27) (off := (-104)) (by decide +kernel) (by decide) (s_back lb_231)
theorem ok_X12_isRight_130 : zOK l D tc A nS xs mM_X12_isRight 130 q_X12_isRight_130 := s_istore_n (q := 3) rfl (by decide +kernel) (by decide +kernel) ok_X12_isRight_131
theorem ok_X12_isRight_129 : zOK l D tc A nS xs mM_X12_isRight 129 q_X12_isRight_129 := s_iald (t0 := 0) (by decide) (by decide) rfl (by decide +kernel) ok_X12_isRight_130
theorem ok_X12_isRight_128 : zOK l D tc A nS xs mM_X12_isRight 128 q_X12_isRight_128 := s_iload_n (q := 3) rfl (by decide +kernel) (by decide +kernel) ok_X12_isRight_129
theorem ok_X12_isRight_125 : zOK l D tc A nS xs mM_X12_isRight 125 q_X12_isRight_125 := r_getf kls_12 (by decide) tx_12_35 rfl w_687 (by decide +kernel) ok_X12_isRight_128
theorem ok_X12_isRight_124 : zOK l D tc A nS xs mM_X12_isRight 124 q_X12_isRight_124 := s_aload_n (q := 0) rfl (by decide +kernel) (by decide +kernel) ok_X12_isRight_125
theorem ok_X12_isRight_121 : zOK l D tc A nS xs mM_X12_isRight 121 q_X12_isRight_121 := s_goto (tgt := 130) (off := 9) (by decide +kernel) (by decide) ok_X12_isRight_130
theorem ok_X12_isRight_120 : zOK l D tc A nS xs mM_X12_isRight 120 q_X12_isRight_120 := s_iald (t0 := 0) (by decide) (by decide) rfl (by decide +kernel) ok_X12_isRight_121
theorem ok_X12_isRight_119 : zOK l D tc A nS xs mM_X12_isRight 119 q_X12_isRight_119 := s_iald (t0 := 0) (by decide) (by decide) rfl (by decide +kernel) ok_X12_isRight_120
theorem ok_X12_isRight_118 : zOK l D tc A nS xs mM_X12_isRight 118 q_X12_isRight_118 := s_iload_n (q := 3) rfl (by decide +kernel) (by decide +kernel) ok_X12_isRight_119
theorem ok_X12_isRight_115 : zOK l D tc A nS xs mM_X12_isRight 115 q_X12_isRight_115 := r_getf kls_12 (by decide) tx_12_35 rfl w_687 (by decide +kernel) ok_X12_isRight_118
theorem ok_X12_isRight_114 : zOK l D tc A nS xs mM_X12_isRight 114 q_X12_isRight_114 := s_aload_n (q := 0) rfl (by decide +kernel) (by decide +kernel) ok_X12_isRight_115
theorem ok_X12_isRight_111 : zOK l D tc A nS xs mM_X12_isRight 111 q_X12_isRight_111 := r_getf kls_12 (by decide) tx_12_35 rfl w_687 (by decide +kernel) ok_X12_isRight_114
theorem ok_X12_isRight_110 : zOK l D tc A nS xs mM_X12_isRight 110 q_X12_isRight_110 := s_aload_n (q := 0) rfl (by decide +kernel) (by decide +kernel) ok_X12_isRight_111
theorem ok_X12_isRight_107 : zOK l D tc A nS xs mM_X12_isRight 107 q_X12_isRight_107 := s_if_eq (tgt := 124) (off := 17) (by decide +kernel) (by decide) ok_X12_isRight_124 ok_X12_isRight_110
theorem ok_X12_isRight_105 : zOK l D tc A nS xs mM_X12_isRight 105 q_X12_isRight_105 := s_iload (by decide +kernel) (by decide +kernel) ok_X12_isRight_107
theorem ok_X12_isRight_100 : zOK l D tc A nS xs mM_X12_isRight 100 q_X12_isRight_100 := s_if_ne (tgt := 105) (off := 5) (by decide +kernel) (by decide) ok_X12_isRight_105 s_none
theorem ok_X12_isRight_97 : zOK l D tc A nS xs mM_X12_isRight 97 q_X12_isRight_97 := r_callV zEE_ok zTw_gd kls_12 (M2 := mM_X12_isRight) (na := 2) lb_230 calV_X12_isRight rfl rfl w_688 (by decide +kernel) ok_X12_isRight_100
theorem ok_X12_isRight_96 : zOK l D tc A nS xs mM_X12_isRight 96 q_X12_isRight_96 := s_iadd (by decide +kernel) ok_X12_isRight_97
theorem ok_X12_isRight_95 : zOK l D tc A nS xs mM_X12_isRight 95 q_X12_isRight_95 := s_iconst (n := 0) (by decide) (by decide +kernel) (by decide +kernel) ok_X12_isRight_96
theorem ok_X12_isRight_92 : zOK l D tc A nS xs mM_X12_isRight 92 q_X12_isRight_92 := s_goto (tgt := 96) (off := 4) (by decide +kernel) (by decide) ok_X12_isRight_96
theorem ok_X12_isRight_91 : zOK l D tc A nS xs mM_X12_isRight 91 q_X12_isRight_91 := s_iconst (n := 1) (by decide) (by decide +kernel) (by decide +kernel) ok_X12_isRight_92
theorem ok_X12_isRight_88 : zOK l D tc A nS xs mM_X12_isRight 88 q_X12_isRight_88 := s_if_eq (tgt := 95) (off := 7) (by decide +kernel) (by decide) ok_X12_isRight_95 ok_X12_isRight_91
theorem ok_X12_isRight_86 : zOK l D tc A nS xs mM_X12_isRight 86 q_X12_isRight_86 := s_iload (by decide +kernel) (by decide +kernel) ok_X12_isRight_88
theorem ok_X12_isRight_85 : zOK l D tc A nS xs mM_X12_isRight 85 q_X12_isRight_85 := s_iload_n (q := 2) rfl (by decide +kernel) (by decide +kernel) ok_X12_isRight_86
theorem ok_X12_isRight_84 : zOK l D tc A nS xs mM_X12_isRight 84 q_X12_isRight_84 := s_iald (t0 := 0) (by decide) (by decide) rfl (by decide +kernel) ok_X12_isRight_85
theorem ok_X12_isRight_83 : zOK l D tc A nS xs mM_X12_isRight 83 q_X12_isRight_83 := s_iload_n (q := 3) rfl (by decide +kernel) (by decide +kernel) ok_X12_isRight_84
theorem ok_X12_isRight_80 : zOK l D tc A nS xs mM_X12_isRight 80 q_X12_isRight_80 := r_getf kls_12 (by decide) tx_12_34 rfl w_701 (by decide +kernel) ok_X12_isRight_83
theorem ok_X12_isRight_79 : zOK l D tc A nS xs mM_X12_isRight 79 q_X12_isRight_79 := s_aload_n (q := 0) rfl (by decide +kernel) (by decide +kernel) ok_X12_isRight_80
theorem ok_X12_isRight_78 : zOK l D tc A nS xs mM_X12_isRight 78 q_X12_isRight_78 := s_aload_n (q := 0) rfl (by decide +kernel) (by decide +kernel) ok_X12_isRight_79
theorem ok_X12_isRight_73 : zOK l D tc A nS xs mM_X12_isRight 73 q_X12_isRight_73 := s_if_ne (tgt := 78) (off := 5) (by decide +kernel) (by decide) ok_X12_isRight_78 s_none
theorem ok_X12_isRight_70 : zOK l D tc A nS xs mM_X12_isRight 70 q_X12_isRight_70 := r_callV zEE_ok zTw_gd kls_12 (M2 := mM_X12_hasDeeper) (na := 2) lb_214 calV_X12_hasDeeper rfl rfl w_823 (by decide +kernel) ok_X12_isRight_73
theorem ok_X12_isRight_69 : zOK l D tc A nS xs mM_X12_isRight 69 q_X12_isRight_69 := s_iload_n (q := 2) rfl (by decide +kernel) (by decide +kernel) ok_X12_isRight_70
theorem ok_X12_isRight_68 : zOK l D tc A nS xs mM_X12_isRight 68 q_X12_isRight_68 := s_iald (t0 := 0) (by decide) (by decide) rfl (by decide +kernel) ok_X12_isRight_69
theorem ok_X12_isRight_67 : zOK l D tc A nS xs mM_X12_isRight 67 q_X12_isRight_67 := s_iload_n (q := 3) rfl (by decide +kernel) (by decide +kernel) ok_X12_isRight_68
theorem ok_X12_isRight_64 : zOK l D tc A nS xs mM_X12_isRight 64 q_X12_isRight_64 := r_getf kls_12 (by decide) tx_12_34 rfl w_701 (by decide +kernel) ok_X12_isRight_67
theorem ok_X12_isRight_63 : zOK l D tc A nS xs mM_X12_isRight 63 q_X12_isRight_63 := s_aload_n (q := 0) rfl (by decide +kernel) (by decide +kernel) ok_X12_isRight_64
theorem ok_X12_isRight_62 : zOK l D tc A nS xs mM_X12_isRight 62 q_X12_isRight_62 := s_aload_n (q := 0) rfl (by decide +kernel) (by decide +kernel) ok_X12_isRight_63
theorem ok_X12_isRight_59 : zOK l D tc A nS xs mM_X12_isRight 59 q_X12_isRight_59 := s_if_eq (tgt := 78) (off := 19) (by decide +kernel) (by decide) ok_X12_isRight_78 ok_X12_isRight_62
theorem ok_X12_isRight_57 : zOK l D tc A nS xs mM_X12_isRight 57 q_X12_isRight_57 := s_iload (by decide +kernel) (by decide +kernel) ok_X12_isRight_59
theorem ok_X12_isRight_54 : zOK l D tc A nS xs mM_X12_isRight 54 q_X12_isRight_54 := s_if_ne (tgt := 76) (off := 22) (by decide +kernel) (by decide) s_none ok_X12_isRight_57
theorem ok_X12_isRight_51 : zOK l D tc A nS xs mM_X12_isRight 51 q_X12_isRight_51 := r_callV zEE_ok zTw_gd kls_12 (M2 := mM_X12_isDots) (na := 1) lb_221 calV_X12_isDots rfl rfl w_812 (by decide +kernel) ok_X12_isRight_54
theorem ok_X12_isRight_50 : zOK l D tc A nS xs mM_X12_isRight 50 q_X12_isRight_50 := s_iald (t0 := 0) (by decide) (by decide) rfl (by decide +kernel) ok_X12_isRight_51
theorem ok_X12_isRight_49 : zOK l D tc A nS xs mM_X12_isRight 49 q_X12_isRight_49 := s_iload_n (q := 3) rfl (by decide +kernel) (by decide +kernel) ok_X12_isRight_50
theorem ok_X12_isRight_46 : zOK l D tc A nS xs mM_X12_isRight 46 q_X12_isRight_46 := r_getf kls_12 (by decide) tx_12_34 rfl w_701 (by decide +kernel) ok_X12_isRight_49
theorem ok_X12_isRight_45 : zOK l D tc A nS xs mM_X12_isRight 45 q_X12_isRight_45 := s_aload_n (q := 0) rfl (by decide +kernel) (by decide +kernel) ok_X12_isRight_46
theorem ok_X12_isRight_44 : zOK l D tc A nS xs mM_X12_isRight 44 q_X12_isRight_44 := s_aload_n (q := 0) rfl (by decide +kernel) (by decide +kernel) ok_X12_isRight_45
theorem ok_X12_isRight_42 : zOK l D tc A nS xs mM_X12_isRight 42 q_X12_isRight_42 := s_istore (by decide +kernel) (by decide +kernel) ok_X12_isRight_44
theorem ok_X12_isRight_39 : zOK l D tc A nS xs mM_X12_isRight 39 q_X12_isRight_39 := r_callV zEE_ok zTw_gd kls_12 (M2 := mM_X12_isDotted) (na := 1) lb_222 calV_X12_isDotted rfl rfl w_815 (by decide +kernel) ok_X12_isRight_42
theorem ok_X12_isRight_38 : zOK l D tc A nS xs mM_X12_isRight 38 q_X12_isRight_38 := s_iload_n (q := 3) rfl (by decide +kernel) (by decide +kernel) ok_X12_isRight_39
theorem ok_X12_isRight_37 : zOK l D tc A nS xs mM_X12_isRight 37 q_X12_isRight_37 := s_aload_n (q := 0) rfl (by decide +kernel) (by decide +kernel) ok_X12_isRight_38
theorem ok_X12_isRight_34 : zOK l D tc A nS xs mM_X12_isRight 34 q_X12_isRight_34 := s_icmp_ne (tgt := 134) (off := 100) (by decide +kernel) (by decide) ok_X12_isRight_134 ok_X12_isRight_37
theorem ok_X12_isRight_33 : zOK l D tc A nS xs mM_X12_isRight 33 q_X12_isRight_33 := s_iconst (n := 5) (by decide) (by decide +kernel) (by decide +kernel) ok_X12_isRight_34
theorem ok_X12_isRight_32 : zOK l D tc A nS xs mM_X12_isRight 32 q_X12_isRight_32 := s_iald (t0 := 0) (by decide) (by decide) rfl (by decide +kernel) ok_X12_isRight_33
theorem ok_X12_isRight_31 : zOK l D tc A nS xs mM_X12_isRight 31 q_X12_isRight_31 := s_iload_n (q := 3) rfl (by decide +kernel) (by decide +kernel) ok_X12_isRight_32
theorem ok_X12_isRight_28 : zOK l D tc A nS xs mM_X12_isRight 28 q_X12_isRight_28 := r_getf kls_12 (by decide) tx_12_33 rfl w_702 (by decide +kernel) ok_X12_isRight_31
theorem ok_X12_isRight_27 : zOK l D tc A nS xs mM_X12_isRight 27 q_X12_isRight_27 := s_aload_n (q := 0) rfl (by decide +kernel) (by decide +kernel) ok_X12_isRight_28
theorem ok_X12_isRight_26 : zOK l D tc A nS xs mM_X12_isRight 26 q_X12_isRight_26 := s_istore_n (q := 3) rfl (by decide +kernel) (by decide +kernel) ok_X12_isRight_27
theorem ok_X12_isRight_25 : zOK l D tc A nS xs mM_X12_isRight 25 q_X12_isRight_25 := s_iload_n (q := 1) rfl (by decide +kernel) (by decide +kernel) ok_X12_isRight_26
theorem ok_X12_isRight_20 : zOK l D tc A nS xs mM_X12_isRight 20 q_X12_isRight_20 := s_if_eq (tgt := 25) (off := 5) (by decide +kernel) (by decide) ok_X12_isRight_25 s_none
theorem ok_X12_isRight_17 : zOK l D tc A nS xs mM_X12_isRight 17 q_X12_isRight_17 := r_callV zEE_ok zTw_gd kls_12 (M2 := mM_X12_isDots) (na := 1) lb_221 calV_X12_isDots rfl rfl w_812 (by decide +kernel) ok_X12_isRight_20
theorem ok_X12_isRight_16 : zOK l D tc A nS xs mM_X12_isRight 16 q_X12_isRight_16 := s_iald (t0 := 0) (by decide) (by decide) rfl (by decide +kernel) ok_X12_isRight_17
theorem ok_X12_isRight_15 : zOK l D tc A nS xs mM_X12_isRight 15 q_X12_isRight_15 := s_iload_n (q := 1) rfl (by decide +kernel) (by decide +kernel) ok_X12_isRight_16
theorem ok_X12_isRight_12 : zOK l D tc A nS xs mM_X12_isRight 12 q_X12_isRight_12 := r_getf kls_12 (by decide) tx_12_34 rfl w_701 (by decide +kernel) ok_X12_isRight_15
theorem ok_X12_isRight_11 : zOK l D tc A nS xs mM_X12_isRight 11 q_X12_isRight_11 := s_aload_n (q := 0) rfl (by decide +kernel) (by decide +kernel) ok_X12_isRight_12
theorem ok_X12_isRight_10 : zOK l D tc A nS xs mM_X12_isRight 10 q_X12_isRight_10 := s_aload_n (q := 0) rfl (by decide +kernel) (by decide +kernel) ok_X12_isRight_11
theorem ok_X12_isRight_7 : zOK l D tc A nS xs mM_X12_isRight 7 q_X12_isRight_7 := s_icmp_ne (tgt := 25) (off := 18) (by decide +kernel) (by decide) ok_X12_isRight_25 ok_X12_isRight_10
theorem ok_X12_isRight_6 : zOK l D tc A nS xs mM_X12_isRight 6 q_X12_isRight_6 := s_iconst (n := 5) (by decide) (by decide +kernel) (by decide +kernel) ok_X12_isRight_7
theorem ok_X12_isRight_5 : zOK l D tc A nS xs mM_X12_isRight 5 q_X12_isRight_5 := s_iald (t0 := 0) (by decide) (by decide) rfl (by decide +kernel) ok_X12_isRight_6
theorem ok_X12_isRight_4 : zOK l D tc A nS xs mM_X12_isRight 4 q_X12_isRight_4 := s_iload_n (q := 1) rfl (by decide +kernel) (by decide +kernel) ok_X12_isRight_5
theorem ok_X12_isRight_1 : zOK l D tc A nS xs mM_X12_isRight 1 q_X12_isRight_1 := r_getf kls_12 (by decide) tx_12_33 rfl w_702 (by decide +kernel) ok_X12_isRight_4
theorem ok_X12_isRight_0 : zOK l D tc A nS xs mM_X12_isRight 0 q_X12_isRight_0 := s_aload_n (q := 0) rfl (by decide +kernel) (by decide +kernel) ok_X12_isRight_1
theorem ok_X12_isSign_41 : zOK l D tc A nS xs mM_X12_isSign 41 q_X12_isSign_41 := s_zret rfl (by decide +kernel)
theorem ok_X12_isSign_40 : zOK l D tc A nS xs mM_X12_isSign 40 q_X12_isSign_40 := s_iconst (n := 0) (by decide) (by decide +kernel) (by decide +kernel) ok_X12_isSign_41
theorem ok_X12_isSign_37 : zOK l D tc A nS xs mM_X12_isSign 37 q_X12_isSign_37 := s_goto (tgt := 41) (off := 4) (by decide +kernel) (by decide) ok_X12_isSign_41
theorem ok_X12_isSign_36 : zOK l D tc A nS xs mM_X12_isSign 36 q_X12_isSign_36 := s_iconst (n := 1) (by decide) (by decide +kernel) (by decide +kernel) ok_X12_isSign_37
theorem ok_X12_isSign_33 : zOK l D tc A nS xs mM_X12_isSign 33 q_X12_isSign_33 := s_if_lt (tgt := 40) (off := 7) (by decide +kernel) (by decide) ok_X12_isSign_40 ok_X12_isSign_36
theorem ok_X12_isSign_30 : zOK l D tc A nS xs mM_X12_isSign 30 q_X12_isSign_30 := r_callT zEE_ok zTw_gd (fun U f h => h.2.1) (M2 := mM_J0_indexOf_0f7a4) (na := 1) lb_2 calV_J0_indexOf_0f7a4 rfl rfl w_884 (by decide +kernel) ok_X12_isSign_33
theorem ok_X12_isSign_29 : zOK l D tc A nS xs mM_X12_isSign 29 q_X12_isSign_29 := s_iload_n (q := 0) rfl (by decide +kernel) (by decide +kernel) ok_X12_isSign_30
theorem ok_X12_isSign_26 : zOK l D tc A nS xs mM_X12_isSign 26 q_X12_isSign_26 := r_ldcwS (j := 16) (by decide) rfl zstr_16 (by decide +kernel) ok_X12_isSign_29
theorem ok_X12_isSign_23 : zOK l D tc A nS xs mM_X12_isSign 23 q_X12_isSign_23 := s_if_le (tgt := 40) (off := 17) (by decide +kernel) (by decide) ok_X12_isSign_40 ok_X12_isSign_26
theorem ok_X12_isSign_22 : zOK l D tc A nS xs mM_X12_isSign 22 q_X12_isSign_22 := s_iload_n (q := 0) rfl (by decide +kernel) (by decide +kernel) ok_X12_isSign_23
theorem ok_X12_isSign_19 : zOK l D tc A nS xs mM_X12_isSign 19 q_X12_isSign_19 := s_if_ne (tgt := 36) (off := 17) (by decide +kernel) (by decide) ok_X12_isSign_36 ok_X12_isSign_22
theorem ok_X12_isSign_16 : zOK l D tc A nS xs mM_X12_isSign 16 q_X12_isSign_16 := r_callS zEE_ok zTw_gd (M2 := mM_X12_in) lb_217 calS_X12_in rfl rfl w_771 (by decide +kernel) ok_X12_isSign_19
theorem ok_X12_isSign_14 : zOK l D tc A nS xs mM_X12_isSign 14 q_X12_isSign_14 := s_bipush (n := 57) (by decide) (by decide +kernel) (by decide +kernel) ok_X12_isSign_16
theorem ok_X12_isSign_12 : zOK l D tc A nS xs mM_X12_isSign 12 q_X12_isSign_12 := s_bipush (n := 48) (by decide) (by decide +kernel) (by decide +kernel) ok_X12_isSign_14
theorem ok_X12_isSign_11 : zOK l D tc A nS xs mM_X12_isSign 11 q_X12_isSign_11 := s_iload_n (q := 0) rfl (by decide +kernel) (by decide +kernel) ok_X12_isSign_12
theorem ok_X12_isSign_8 : zOK l D tc A nS xs mM_X12_isSign 8 q_X12_isSign_8 := s_if_ne (tgt := 36) (off := 28) (by decide +kernel) (by decide) ok_X12_isSign_36 ok_X12_isSign_11
theorem ok_X12_isSign_5 : zOK l D tc A nS xs mM_X12_isSign 5 q_X12_isSign_5 := r_callS zEE_ok zTw_gd (M2 := mM_X12_in) lb_217 calS_X12_in rfl rfl w_771 (by decide +kernel) ok_X12_isSign_8
theorem ok_X12_isSign_3 : zOK l D tc A nS xs mM_X12_isSign 3 q_X12_isSign_3 := s_bipush (n := 122) (by decide) (by decide +kernel) (by decide +kernel) ok_X12_isSign_5
theorem ok_X12_isSign_1 : zOK l D tc A nS xs mM_X12_isSign 1 q_X12_isSign_1 := s_bipush (n := 97) (by decide) (by decide +kernel) (by decide +kernel) ok_X12_isSign_3
theorem ok_X12_isSign_0 : zOK l D tc A nS xs mM_X12_isSign 0 q_X12_isSign_0 := s_iload_n (q := 0) rfl (by decide +kernel) (by decide +kernel) ok_X12_isSign_1
theorem ok_X12_is__30 : zOK l D tc A nS xs mM_X12_is_ 30 q_X12_is__30 := s_zret rfl (by decide +kernel)
theorem ok_X12_is__29 : zOK l D tc A nS xs mM_X12_is_ 29 q_X12_is__29 := s_iconst (n := 0) (by decide) (by decide +kernel) (by decide +kernel) ok_X12_is__30
theorem ok_X12_is__10 : zOK l D tc A nS xs mM_X12_is_ 10 q_X12_is__10 := s_icmp_lt (tgt := 29) (off := 19) (by decide +kernel) (by decide) ok_X12_is__29 s_none
theorem ok_X12_is__7 : zOK l D tc A nS xs mM_X12_is_ 7 q_X12_is__7 := s_sipush (n := 1024) (by decide) (by decide +kernel) (by decide +kernel) ok_X12_is__10
theorem ok_X12_is__6 : zOK l D tc A nS xs mM_X12_is_ 6 q_X12_is__6 := s_iload_n (q := 1) rfl (by decide +kernel) (by decide +kernel) ok_X12_is__7
theorem ok_X12_is__3 : zOK l D tc A nS xs mM_X12_is_ 3 q_X12_is__3 := s_if_ne (tgt := 29) (off := 26) (by decide +kernel) (by decide) ok_X12_is__29 ok_X12_is__6
theorem ok_X12_is__2 : zOK l D tc A nS xs mM_X12_is_ 2 q_X12_is__2 := s_iand (by decide +kernel) ok_X12_is__3
theorem ok_X12_is__1 : zOK l D tc A nS xs mM_X12_is_ 1 q_X12_is__1 := s_iconst (n := 1) (by decide) (by decide +kernel) (by decide +kernel) ok_X12_is__2
theorem ok_X12_is__0 : zOK l D tc A nS xs mM_X12_is_ 0 q_X12_is__0 := s_iload_n (q := 1) rfl (by decide +kernel) (by decide +kernel) ok_X12_is__1
theorem ok_X12_item_224 : zOK l D tc A nS xs mM_X12_item 224 q_X12_item_224 := s_vret rfl (by decide +kernel)
theorem ok_X12_item_178 : zOK l D tc A nS xs mM_X12_item 178 q_X12_item_178 := s_if_eq (tgt := 224) (off := 46) (by decide +kernel) (by decide) ok_X12_item_224 s_none
theorem ok_X12_item_175 : zOK l D tc A nS xs mM_X12_item 175 q_X12_item_175 := r_callV zEE_ok zTw_gd kls_12 (M2 := mM_X12_isProcedure) (na := 1) lb_229 calV_X12_isProcedure rfl rfl w_888 (by decide +kernel) ok_X12_item_178
theorem ok_X12_item_174 : zOK l D tc A nS xs mM_X12_item 174 q_X12_item_174 := s_iload_n (q := 1) rfl (by decide +kernel) (by decide +kernel) ok_X12_item_175
theorem ok_X12_item_173 : zOK l D tc A nS xs mM_X12_item 173 q_X12_item_173 := s_aload_n (q := 0) rfl (by decide +kernel) (by decide +kernel) ok_X12_item_174
theorem ok_X12_item_170 : zOK l D tc A nS xs mM_X12_item 170 q_X12_item_170 := s_icmp_eq (tgt := 181) (off := 11) (by decide +kernel) (by decide) s_none ok_X12_item_173
theorem ok_X12_item_168 : zOK l D tc A nS xs mM_X12_item 168 q_X12_item_168 := s_bipush (n := 8) (by decide) (by decide +kernel) (by decide +kernel) ok_X12_item_170
theorem ok_X12_item_167 : zOK l D tc A nS xs mM_X12_item 167 q_X12_item_167 := s_iload_n (q := 1) rfl (by decide +kernel) (by decide +kernel) ok_X12_item_168
theorem ok_X12_item_164 : zOK l D tc A nS xs mM_X12_item 164 q_X12_item_164 := s_icmp_eq (tgt := 181) (off := 17) (by decide +kernel) (by decide) s_none ok_X12_item_167
theorem ok_X12_item_163 : zOK l D tc A nS xs mM_X12_item 163 q_X12_item_163 := s_iconst (n := 4) (by decide) (by decide +kernel) (by decide +kernel) ok_X12_item_164
theorem ok_X12_item_162 : zOK l D tc A nS xs mM_X12_item 162 q_X12_item_162 := s_iload_n (q := 1) rfl (by decide +kernel) (by decide +kernel) ok_X12_item_163
theorem ok_X12_item_159 : zOK l D tc A nS xs mM_X12_item 159 q_X12_item_159 := s_icmp_eq (tgt := 181) (off := 22) (by decide +kernel) (by decide) s_none ok_X12_item_162
theorem ok_X12_item_158 : zOK l D tc A nS xs mM_X12_item 158 q_X12_item_158 := s_iconst (n := 2) (by decide) (by decide +kernel) (by decide +kernel) ok_X12_item_159
theorem ok_X12_item_157 : zOK l D tc A nS xs mM_X12_item 157 q_X12_item_157 := s_iload_n (q := 1) rfl (by decide +kernel) (by decide +kernel) ok_X12_item_158
theorem ok_X12_item_110 : zOK l D tc A nS xs mM_X12_item 110 q_X12_item_110 := s_if_eq (tgt := 157) (off := 47) (by decide +kernel) (by decide) ok_X12_item_157 s_none
theorem ok_X12_item_107 : zOK l D tc A nS xs mM_X12_item 107 q_X12_item_107 := r_callV zEE_ok zTw_gd kls_12 (M2 := mM_X12_is_) (na := 2) lb_233 calV_X12_is_ rfl rfl w_878 (by decide +kernel) ok_X12_item_110
theorem ok_X12_item_105 : zOK l D tc A nS xs mM_X12_item 105 q_X12_item_105 := s_bipush (n := 6) (by decide) (by decide +kernel) (by decide +kernel) ok_X12_item_107
theorem ok_X12_item_104 : zOK l D tc A nS xs mM_X12_item 104 q_X12_item_104 := s_iload_n (q := 1) rfl (by decide +kernel) (by decide +kernel) ok_X12_item_105
theorem ok_X12_item_103 : zOK l D tc A nS xs mM_X12_item 103 q_X12_item_103 := s_aload_n (q := 0) rfl (by decide +kernel) (by decide +kernel) ok_X12_item_104
theorem ok_X12_item_85 : zOK l D tc A nS xs mM_X12_item 85 q_X12_item_85 := s_icmp_ne (tgt := 103) (off := 18) (by decide +kernel) (by decide) ok_X12_item_103 s_none
theorem ok_X12_item_83 : zOK l D tc A nS xs mM_X12_item 83 q_X12_item_83 := s_bipush (n := 6) (by decide) (by decide +kernel) (by decide +kernel) ok_X12_item_85
theorem ok_X12_item_82 : zOK l D tc A nS xs mM_X12_item 82 q_X12_item_82 := s_iload_n (q := 1) rfl (by decide +kernel) (by decide +kernel) ok_X12_item_83
theorem ok_X12_item_4 : zOK l D tc A nS xs mM_X12_item 4 q_X12_item_4 := s_if_eq (tgt := 82) (off := 78) (by decide +kernel) (by decide) ok_X12_item_82 s_none
theorem ok_X12_item_1 : zOK l D tc A nS xs mM_X12_item 1 q_X12_item_1 := r_callS zEE_ok zTw_gd (M2 := mM_X12_isNumber) lb_227 calS_X12_isNumber rfl rfl w_891 (by decide +kernel) ok_X12_item_4
theorem ok_X12_item_0 : zOK l D tc A nS xs mM_X12_item 0 q_X12_item_0 := s_iload_n (q := 1) rfl (by decide +kernel) (by decide +kernel) ok_X12_item_1
theorem ok_X12_lambdas_192 : zOK l D tc A nS xs mM_X12_lambdas 192 q_X12_lambdas_192 := s_vret rfl (by decide +kernel)
theorem ok_X12_lambdas_189 : zOK l D tc A nS xs mM_X12_lambdas 189 q_X12_lambdas_189 := r_putf kls_12 ty_12_93 zck_int (by decide) tx_12_93 rfl w_894 (by decide +kernel) ok_X12_lambdas_192
theorem ok_X12_lambdas_188 : zOK l D tc A nS xs mM_X12_lambdas 188 q_X12_lambdas_188 := s_iconst (n := 0) (by decide) (by decide +kernel) (by decide +kernel) ok_X12_lambdas_189
theorem ok_X12_lambdas_187 : zOK l D tc A nS xs mM_X12_lambdas 187 q_X12_lambdas_187 := s_aload_n (q := 0) rfl (by decide +kernel) (by decide +kernel) ok_X12_lambdas_188
theorem ok_X12_lambdas_7 : zOK l D tc A nS xs mM_X12_lambdas 7 q_X12_lambdas_7 := s_icmp_ge (tgt := 187) (off := 180) (by decide +kernel) (by decide) ok_X12_lambdas_187 s_none
theorem ok_X12_lambdas_4 : zOK l D tc A nS xs mM_X12_lambdas 4 q_X12_lambdas_4 := r_getf kls_12 (by decide) tx_12_93 rfl w_894 (by decide +kernel) ok_X12_lambdas_7
theorem ok_X12_lambdas_3 : zOK l D tc A nS xs mM_X12_lambdas 3 q_X12_lambdas_3 := s_aload_n (q := 0) rfl (by decide +kernel) (by decide +kernel) ok_X12_lambdas_4
theorem ok_X12_lambdas_2 : zOK l D tc A nS xs mM_X12_lambdas 2 q_X12_lambdas_2 := s_iload_n (q := 1) rfl (by decide +kernel) (by decide +kernel) ok_X12_lambdas_3
theorem ok_X12_lambdas_1 : zOK l D tc A nS xs mM_X12_lambdas 1 q_X12_lambdas_1 := s_istore_n (q := 1) rfl (by decide +kernel) (by decide +kernel) ok_X12_lambdas_2
theorem ok_X12_lambdas_0 : zOK l D tc A nS xs mM_X12_lambdas 0 q_X12_lambdas_0 := s_iconst (n := 0) (by decide) (by decide +kernel) (by decide +kernel) ok_X12_lambdas_1
theorem ok_X12_length_41 : zOK l D tc A nS xs mM_X12_length 41 q_X12_length_41 := s_iret rfl (by decide +kernel)
theorem ok_X12_length_37 : zOK l D tc A nS xs mM_X12_length 37 q_X12_length_37 := s_goto (tgt := 41) (off := 4) (by decide +kernel) (by decide) ok_X12_length_41
theorem ok_X12_length_36 : zOK l D tc A nS xs mM_X12_length 36 q_X12_length_36 := s_iload_n (q := 2) rfl (by decide +kernel) (by decide +kernel) ok_X12_length_37
theorem ok_X12_length_33 : zOK l D tc A nS xs mM_X12_length 33 q_X12_length_33 := s_if_ne (tgt := 40) (off := 7) (by decide +kernel) (by decide) s_none ok_X12_length_36
theorem ok_X12_length_32 : zOK l D tc A nS xs mM_X12_length 32 q_X12_length_32 := s_iald (t0 := 0) (by decide) (by decide) rfl (by decide +kernel) ok_X12_length_33
theorem ok_X12_length_31 : zOK l D tc A nS xs mM_X12_length 31 q_X12_length_31 := s_iload_n (q := 3) rfl (by decide +kernel) (by decide +kernel) ok_X12_length_32
theorem ok_X12_length_28 : zOK l D tc A nS xs mM_X12_length 28 q_X12_length_28 := r_getf kls_12 (by decide) tx_12_33 rfl w_702 (by decide +kernel) ok_X12_length_31
theorem ok_X12_length_27 : zOK l D tc A nS xs mM_X12_length 27 q_X12_length_27 := s_aload_n (q := 0) rfl (by decide +kernel) (by decide +kernel) ok_X12_length_28
theorem ok_X12_length_24 : zOK l D tc A nS xs mM_X12_length 24 q_X12_length_24 := s_goto (tgt := 4) (off := (-20)) (by decide +kernel) (by decide) (s_back lb_238)
theorem ok_X12_length_23 : zOK l D tc A nS xs mM_X12_length 23 q_X12_length_23 := s_istore_n (q := 3) rfl (by decide +kernel) (by decide +kernel) ok_X12_length_24
theorem ok_X12_length_22 : zOK l D tc A nS xs mM_X12_length 22 q_X12_length_22 := s_iald (t0 := 0) (by decide) (by decide) rfl (by decide +kernel) ok_X12_length_23
theorem ok_X12_length_21 : zOK l D tc A nS xs mM_X12_length 21 q_X12_length_21 := s_iload_n (q := 3) rfl (by decide +kernel) (by decide +kernel) ok_X12_length_22
theorem ok_X12_length_18 : zOK l D tc A nS xs mM_X12_length 18 q_X12_length_18 := r_getf kls_12 (by decide) tx_12_35 rfl w_687 (by decide +kernel) ok_X12_length_21
theorem ok_X12_length_17 : zOK l D tc A nS xs mM_X12_length 17 q_X12_length_17 := s_aload_n (q := 0) rfl (by decide +kernel) (by decide +kernel) ok_X12_length_18
theorem ok_X12_length_14 : zOK l D tc A nS xs mM_X12_length 14 q_X12_length_14 := s_iinc (n := 1) (by decide +kernel) (by decide +kernel) (by decide +kernel) ok_X12_length_17
theorem ok_X12_length_11 : zOK l D tc A nS xs mM_X12_length 11 q_X12_length_11 := s_icmp_ne (tgt := 27) (off := 16) (by decide +kernel) (by decide) ok_X12_length_27 ok_X12_length_14
theorem ok_X12_length_10 : zOK l D tc A nS xs mM_X12_length 10 q_X12_length_10 := s_iconst (n := 5) (by decide) (by decide +kernel) (by decide +kernel) ok_X12_length_11
theorem ok_X12_length_9 : zOK l D tc A nS xs mM_X12_length 9 q_X12_length_9 := s_iald (t0 := 0) (by decide) (by decide) rfl (by decide +kernel) ok_X12_length_10
theorem ok_X12_length_8 : zOK l D tc A nS xs mM_X12_length 8 q_X12_length_8 := s_iload_n (q := 3) rfl (by decide +kernel) (by decide +kernel) ok_X12_length_9
theorem ok_X12_length_5 : zOK l D tc A nS xs mM_X12_length 5 q_X12_length_5 := r_getf kls_12 (by decide) tx_12_33 rfl w_702 (by decide +kernel) ok_X12_length_8
theorem ok_X12_length_4 : zOK l D tc A nS xs mM_X12_length 4 q_X12_length_4 := s_aload_n (q := 0) rfl (by decide +kernel) (by decide +kernel) ok_X12_length_5
theorem ok_X12_length_3 : zOK l D tc A nS xs mM_X12_length 3 q_X12_length_3 := s_istore_n (q := 3) rfl (by decide +kernel) (by decide +kernel) ok_X12_length_4
theorem ok_X12_length_2 : zOK l D tc A nS xs mM_X12_length 2 q_X12_length_2 := s_iload_n (q := 1) rfl (by decide +kernel) (by decide +kernel) ok_X12_length_3
theorem ok_X12_length_1 : zOK l D tc A nS xs mM_X12_length 1 q_X12_length_1 := s_istore_n (q := 2) rfl (by decide +kernel) (by decide +kernel) ok_X12_length_2
theorem ok_X12_length_0 : zOK l D tc A nS xs mM_X12_length 0 q_X12_length_0 := s_iconst (n := 0) (by decide) (by decide +kernel) (by decide +kernel) ok_X12_length_1
end ZRows
